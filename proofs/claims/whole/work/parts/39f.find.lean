/-! The reference's finding. -/
/-- the edges of a node's view for an area; b says whether tunnels count -/
def aVw (T : zA) (n a b : Nat) : Nat → Nat → Nat → Nat → Prop := aEd T (fun i => T.2 n i 1) (fun i => T.2 n i 2) (fun o => o = a ∨ T.2 n (4 * o + a) 1 = 1) (aNL T) (if b = 0 then 0 else aNT T)
/-- an item leads from u to v -/
abbrev ldP (T : zA) (n a b i u v : Nat) : Prop := T.2 n i 1 = 1 ∧ ((i < 32 ∧ (aL T (i - 16) 4 = 0 ∨ aOw T (i - 16) = a ∨ aHg T n (aOw T (i - 16)) a) ∧ aEnd T u (i - 16) ∧ aL T (i - 16) 0 + aL T (i - 16) 1 = u + v) ∨ (32 ≤ i ∧ ¬ b = 0 ∧ aT T (i - 32) 0 = u ∧ aT T (i - 32) 1 = v))
theorem ite_bIn {α : Type} {p : Prop} [Decidable p] {a b : α} : (if bI p = nI 0 then a else b) = if p then b else a := ite_bI
section P39f
variable {T : zA} {V : Nat}
theorem e_isItem (hI : aInv V T) {i : Nat} (hi : i < 2 ^ 30) : fX7_isItem (nI i) (zI T) = some (bI (aEx T i)) := by
  have h1 := hI.1
  simp only [fX7_isItem, zl0, zl15, zl4]
  rw [e_inN (by omega) (by omega) (by omega)]
  simp only [Option.bind_some]
  have e57 : uX7_isItem_57 = some 1 := rfl
  have e38 : uX7_isItem_38 (nI i) (zI T) = some (bI (32 ≤ i ∧ i < 32 + aNT T)) := by
    unfold uX7_isItem_38
    rw [zl32, ite_ltN (by omega) (by omega)]
    by_cases h : i < 32
    · rw [if_pos h, bI_f (by omega)]
    · rw [if_neg h, zl2, gd_in (by omega), nI_cl (by omega), zI_h (by omega), nI_add, e57]
      show (if nI (32 + aNT T) ≤ nI i then _ else _) = _
      rw [ite_leN (by omega) (by omega)]
      by_cases h2 : 32 + aNT T ≤ i
      · rw [if_pos h2, bI_f (by omega)]
      · rw [if_neg h2, bI_t (by omega)]
  have e19 : uX7_isItem_19 (nI i) (zI T) = some (bI (16 ≤ i ∧ i < 16 + aNL T ∨ 32 ≤ i ∧ i < 32 + aNT T)) := by
    unfold uX7_isItem_19
    rw [zl16, ite_ltN (by omega) (by omega)]
    by_cases h : i < 16
    · rw [if_pos h, e38, bI_f (by omega), bI_f (by omega)]
    · rw [if_neg h, zl1, gd_in (by omega), nI_cl (by omega), zI_h (by omega), nI_add, e57]
      show (if nI i < nI (16 + aNL T) then _ else _) = _
      rw [ite_ltN (by omega) (by omega)]
      by_cases h2 : i < 16 + aNL T
      · rw [if_pos h2, bI_t (by omega)]
      · rw [if_neg h2, e38]
        exact congrArg some (bI_congr (by omega))
  rw [ite_bIn, e19, e57]
  by_cases h : 0 ≤ i ∧ i ≤ 15
  · rw [if_pos h, pk_div (by omega) (by omega) (by omega), ← pk_div (a := i) (d := 4) (by omega) (by omega) (by omega), pk_rem (by omega) (by omega) (by omega), pk_div (by omega) (by omega) (by omega), ite_eqN (by omega) (by omega)]
    by_cases h2 : i / 4 = i % 4
    · rw [if_pos h2]
      exact congrArg some (bI_congr (by unfold aEx; omega))
    · rw [if_neg h2, bI_t (by unfold aEx; omega)]
  · rw [if_neg h]
    exact congrArg some (bI_congr (by unfold aEx; omega))
theorem e_leads (hI : aInv V T) (hV : V < 2 ^ 20) {n a b i u v : Nat} (hn : n < 10) (ha : a < 4) (hb : b ≤ 1) (hi : 16 ≤ i) (hx : i < 35) (hu : u < 10) (hv : v < 10) : fX7_leads (nI n) (nI i) (nI a) (nI b) (nI u) (nI v) (zI T) = some (bI (ldP T n a b i u v)) := by
  have hd := hI.db hn hx
  simp only [fX7_leads, zl0, zl1, zl4, zl32, zl16]
  rw [e_fact hn hx (by omega), e_fact hn hx (by omega)]
  simp only [Option.bind_some]
  rw [ite_eqN (by omega) (by omega), ite_eqN (by omega) (by omega)]
  by_cases h0 : T.2 n i 0 = 0
  · have := hd.2.2.2.2 h0
    rw [if_pos h0, bI_f (fun q => by have := q.1; omega)]; rfl
  · rw [if_neg h0]
    by_cases h1 : T.2 n i 1 = 0
    · rw [if_pos h1, bI_f (fun q => by have := q.1; omega)]; rfl
    · rw [if_neg h1, ite_ltN (by omega) (by omega)]
      by_cases h32 : i < 32
      · have hk : i - 16 < 16 := by omega
        have hl := hI.link hk
        have how : aOw T (i - 16) < 4 := hI.ar (n := aL T (i - 16) 0) (by omega)
        have e113 : ∀ (p : Prop) [Decidable p], uX7_leads_113 (nI u) (nI v) (nI (i - 16)) (bI p) (zI T) = some (bI (p ∧ aEnd T u (i - 16) ∧ aL T (i - 16) 0 + aL T (i - 16) 1 = u + v)) := by
          intro p _
          unfold uX7_leads_113
          rw [ite_bI]
          by_cases hp : p
          · rw [if_pos hp, e_isEnd hI hu hk]
            simp only [Option.bind_some]
            rw [ite_bI]
            by_cases hE : aEnd T u (i - 16)
            · rw [if_pos hE, e_other hI hk hE]
              simp only [Option.bind_some]
              rw [ite_eqN (by omega) (by omega)]
              by_cases ho : aL T (i - 16) 0 + aL T (i - 16) 1 - u = v
              · rw [if_pos ho, bI_t ⟨hp, hE, by omega⟩]
              · rw [if_neg ho, bI_f (fun q => ho (by have := q.2.2; omega))]
            · rw [if_neg hE, bI_f (fun q => hE q.2.1)]
          · rw [if_neg hp, bI_f (fun q => hp q.1)]
        have e108 : uX7_leads_108 (nI u) (nI v) (nI (i - 16)) (zI T) = some (bI (True ∧ aEnd T u (i - 16) ∧ aL T (i - 16) 0 + aL T (i - 16) 1 = u + v)) := by
          unfold uX7_leads_108
          rw [← e113 True]; rfl
        have e000 : uX7_leads_113 (nI u) (nI v) (nI (i - 16)) (nI 0) (zI T) = some (bI (False ∧ aEnd T u (i - 16) ∧ aL T (i - 16) 0 + aL T (i - 16) 1 = u + v)) := by
          rw [← e113 False]; rfl
        rw [if_pos h32, pk_sub (by omega), nm_eq, e_linkPart hk (by omega), e_owner hI hk]
        simp only [Option.bind_some]
        rw [ite_eqN (by omega) (by omega), ite_eqN (by omega) (by omega), e_hasGrant hI hV hn how ha]
        simp only [Option.bind_some]
        rw [ite_bIn, e108, e000]
        by_cases g1 : aL T (i - 16) 4 = 0
        · rw [if_pos g1]
          refine congrArg some (bI_congr ?_)
          constructor
          · rintro ⟨-, q⟩; exact ⟨by omega, Or.inl ⟨h32, Or.inl g1, q⟩⟩
          · rintro ⟨-, ⟨-, -, q⟩ | ⟨q, -⟩⟩
            · exact ⟨trivial, q⟩
            · omega
        · rw [if_neg g1]
          by_cases g2 : aOw T (i - 16) = a
          · rw [if_pos g2]
            refine congrArg some (bI_congr ?_)
            constructor
            · rintro ⟨-, q⟩; exact ⟨by omega, Or.inl ⟨h32, Or.inr (Or.inl g2), q⟩⟩
            · rintro ⟨-, ⟨-, -, q⟩ | ⟨q, -⟩⟩
              · exact ⟨trivial, q⟩
              · omega
          · rw [if_neg g2]
            by_cases g3 : aHg T n (aOw T (i - 16)) a
            · rw [if_pos g3]
              refine congrArg some (bI_congr ?_)
              constructor
              · rintro ⟨-, q⟩; exact ⟨by omega, Or.inl ⟨h32, Or.inr (Or.inr g3), q⟩⟩
              · rintro ⟨-, ⟨-, -, q⟩ | ⟨q, -⟩⟩
                · exact ⟨trivial, q⟩
                · omega
            · rw [if_neg g3]
              refine congrArg some (bI_congr ?_)
              constructor
              · rintro ⟨q, -⟩; exact q.elim
              · rintro ⟨-, ⟨-, q, -⟩ | ⟨q, -⟩⟩
                · rcases q with q | q | q
                  · exact absurd q g1
                  · exact absurd q g2
                  · exact absurd q g3
                · omega
      · have hk : i - 32 < 3 := by omega
        have hl := hI.tun hk
        rw [if_neg h32, ite_eqN (by omega) (by omega), pk_sub (by omega), e_tunnelPart hk (by omega), e_tunnelPart hk (by omega)]
        simp only [Option.bind_some]
        rw [ite_eqN (by omega) (by omega), ite_eqN (by omega) (by omega)]
        by_cases g1 : b = 0
        · rw [if_pos g1, bI_f (by
            rintro ⟨-, ⟨q, -⟩ | ⟨-, q, -⟩⟩
            · omega
            · exact q g1)]; rfl
        · rw [if_neg g1]
          by_cases g2 : aT T (i - 32) 0 = u
          · rw [if_pos g2]
            by_cases g3 : aT T (i - 32) 1 = v
            · rw [if_pos g3, bI_t ⟨by omega, Or.inr ⟨by omega, g1, g2, g3⟩⟩]; rfl
            · rw [if_neg g3, bI_f (by
                rintro ⟨-, ⟨q, -⟩ | ⟨-, -, -, q⟩⟩
                · omega
                · exact g3 q)]; rfl
          · rw [if_neg g2, bI_f (by
              rintro ⟨-, ⟨q, -⟩ | ⟨-, -, q, -⟩⟩
              · omega
              · exact g2 q)]; rfl
theorem ld_iff (hI : aInv V T) {n a b i u v : Nat} (hn : n < 10) (ha : a < 4) (hx : aEx T i) (h16 : 16 ≤ i) : ldP T n a b i u v ↔ aVw T n a b u v (T.2 n i 2) i := by
  have h1 := hI.1
  have hlt := hx.lt hI
  unfold ldP aVw aEd
  dsimp only
  constructor
  · rintro ⟨hs, ⟨h32, ho, he, hsum⟩ | ⟨h32, hb, e1, e2⟩⟩
    · left
      have hk : i - 16 < aNL T := by unfold aEx at hx; omega
      have hl := hI.2.2.1 (i - 16) hk
      have ei : i = 16 + (i - 16) := by omega
      refine ⟨i - 16, hk, hk, ei, by rw [← ei]; exact hs, fun h4 => ?_, ?_, by rw [← ei]⟩
      · rcases ho with ho | ho | ho
        · omega
        · exact Or.inl ho
        · exact Or.inr ho.2
      · unfold aEnd at he
        omega
    · right
      have hk : i - 32 < aNT T := by unfold aEx at hx; omega
      have ei : i = 32 + (i - 32) := by omega
      refine ⟨i - 32, by rw [if_neg hb]; exact hk, hk, ei, by rw [← ei]; exact hs, e1.symm, e2.symm, by rw [← ei]⟩
  · rintro (⟨k, a1, a2, a3, a4, a5, a6, a7⟩ | ⟨k, a1, a2, a3, a4, a5, a6, a7⟩)
    · have ek : i - 16 = k := by omega
      have hl := hI.2.2.1 k a2
      refine ⟨by rw [a3]; exact a4, Or.inl ⟨by omega, ?_, ?_, ?_⟩⟩
      · rw [ek]
        have how : aOw T k < 4 := hI.ar (n := aL T k 0) (by omega)
        have hd := hI.db hn (i := 4 * aOw T k + a) (by omega)
        by_cases h4 : aL T k 4 = 1
        · rcases a5 h4 with h5 | h5
          · exact Or.inr (Or.inl h5)
          · right; right
            refine ⟨?_, h5⟩
            by_cases h0 : T.2 n (4 * aOw T k + a) 0 = 0
            · have := hd.2.2.2.2 h0; omega
            · omega
        · left; omega
      · rw [ek]; unfold aEnd; omega
      · rw [ek]; omega
    · have ek : i - 32 = k := by omega
      have hb : ¬ b = 0 := fun e => by rw [if_pos e] at a1; omega
      refine ⟨by rw [a3]; exact a4, Or.inr ⟨by omega, hb, ?_, ?_⟩⟩
      · rw [ek]; exact a5.symm
      · rw [ek]; exact a6.symm
theorem aVw_co {n a b u v c i : Nat} (h : aVw T n a b u v c i) : c = T.2 n i 2 := by
  rcases h with ⟨k, a1, a2, a3, a4, a5, a6, a7⟩ | ⟨k, a1, a2, a3, a4, a5, a6, a7⟩
  · rw [a3]; exact a7
  · rw [a3]; exact a7
theorem aVw_ex {n a b u v c i : Nat} (h : aVw T n a b u v c i) : aEx T i ∧ 16 ≤ i := by
  unfold aEx
  rcases h with ⟨k, a1, a2, a3, a4, a5, a6, a7⟩ | ⟨k, a1, a2, a3, a4, a5, a6, a7⟩
  · omega
  · omega
theorem aVw_ok (hI : aInv V T) {n a b : Nat} (hn : n < 10) : gQok (gQ (aVw T n a b)) (aNN T) := aEd_ok hI (fun i hi => (hI.db hn hi).2.2.1)
/-- sums and steps as one number -/
def rS (d : Nat → Nat) (sums steps : Nat → Int32) : Prop := ∀ j, j < 10 → sums j = nI (d j / 10000) ∧ steps j = nI (d j % 10000)
theorem e_relax (hI : aInv V T) (hV : V < 2 ^ 20) {n a b i u R : Nat} (hn : n < 10) (ha : a < 4) (hb : b ≤ 1) (hx : aEx T i) (h16 : 16 ≤ i) (hu : u < aNN T) {sums steps : Nat → Int32} {d : Nat → Nat} (hr : rS d sums steps) (hF : ∀ j, d j ≤ 10000000000) (hR : ∀ j, d j % 10000 ≤ R) (hRR : R < 9000) :
    ∃ q d', fX7_relax (nI n) (nI i) (nI a) (nI b) (nI u) (zI T) sums steps = some q ∧ rS d' q.1 q.2 ∧ (∀ j, d' j % 10000 ≤ R + 1) ∧ ((d' = d ∧ ∀ v c, ¬ aVw T n a b u v c i) ∨ ∃ v c, aVw T n a b u v c i ∧ d' = gRx d u v (10000 * c + 1) ∧ ∀ v' c', aVw T n a b u v' c' i → v' = v ∧ c' = c) := by
  have h1 := hI.1
  have hlt := (hx.lt hI).1
  have hd := hI.db hn hlt
  -- the end of the edge, if there is one
  have key : ∀ v, v < 10 → (∀ v' c', aVw T n a b u v' c' i → v' = v) → ∃ q d', uX7_relax_46 (nI n) (nI i) (nI a) (nI b) (nI u) (nI v) (zI T) sums steps = some q ∧ rS d' q.1 q.2 ∧ (∀ j, d' j % 10000 ≤ R + 1) ∧ ((d' = d ∧ ∀ v c, ¬ aVw T n a b u v c i) ∨ ∃ v c, aVw T n a b u v c i ∧ d' = gRx d u v (10000 * c + 1) ∧ ∀ v' c', aVw T n a b u v' c' i → v' = v ∧ c' = c) := by
    intro v hv honly
    have no : ¬ aVw T n a b u v (T.2 n i 2) i → ∀ v' c', ¬ aVw T n a b u v' c' i := by
      intro h v' c' h'
      have e1 := honly v' c' h'
      have e2 := aVw_co h'
      rw [e1, e2] at h'
      exact h h'
    have same : (∀ v c, ¬ aVw T n a b u v c i) → ∃ q d', (some (sums, steps) : Option ((Nat → Int32) × (Nat → Int32))) = some q ∧ rS d' q.1 q.2 ∧ (∀ j, d' j % 10000 ≤ R + 1) ∧ ((d' = d ∧ ∀ v c, ¬ aVw T n a b u v c i) ∨ ∃ v c, aVw T n a b u v c i ∧ d' = gRx d u v (10000 * c + 1) ∧ ∀ v' c', aVw T n a b u v' c' i → v' = v ∧ c' = c) := fun h => ⟨_, d, rfl, hr, fun j => by have := hR j; omega, Or.inl ⟨rfl, h⟩⟩
    have same2 : aVw T n a b u v (T.2 n i 2) i → ¬ d v + (10000 * T.2 n i 2 + 1) < d u → ∃ q d', (some (sums, steps) : Option ((Nat → Int32) × (Nat → Int32))) = some q ∧ rS d' q.1 q.2 ∧ (∀ j, d' j % 10000 ≤ R + 1) ∧ ((d' = d ∧ ∀ v c, ¬ aVw T n a b u v c i) ∨ ∃ v c, aVw T n a b u v c i ∧ d' = gRx d u v (10000 * c + 1) ∧ ∀ v' c', aVw T n a b u v' c' i → v' = v ∧ c' = c) := by
      intro h1 h2
      refine ⟨_, d, rfl, hr, fun j => by have := hR j; omega, Or.inr ⟨v, T.2 n i 2, h1, ?_, fun v' c' h' => ⟨honly v' c' h', aVw_co h'⟩⟩⟩
      unfold gRx
      rw [if_neg h2]
    have hFv := hF v
    have hFu := hF u
    have hRv := hR v
    have hRu := hR u
    unfold uX7_relax_46
    rw [ite_eqN (by omega) (by omega)]
    by_cases huv : v = u
    · rw [if_pos huv]
      refine same (no (fun h => ?_))
      have := (aVw_ok hI hn u v _ ⟨i, h⟩).2.2.1
      omega
    · rw [if_neg huv, gd_in hv, nI_cl (by omega), (hr v hv).1, (hr v hv).2, zl1000000, ite_leN (by omega) (by omega)]
      by_cases hfar : 1000000 ≤ d v / 10000
      · rw [if_pos hfar]
        by_cases hA : aVw T n a b u v (T.2 n i 2) i
        · exact same2 hA (by omega)
        · exact same (no hA)
      · rw [if_neg hfar, e_leads hI hV hn ha hb h16 hlt (by omega) hv]
        simp only [Option.bind_some]
        rw [ite_bI]
        by_cases hld : ldP T n a b i u v
        · have hA := (ld_iff hI hn ha hx h16).mp hld
          rw [if_pos hld, gd_in hv, zl2, e_fact hn hlt (by omega)]
          simp only [Option.bind_some]
          rw [nm_eq, gd_in hv, nI_add, zl1, nI_add]
          have eB : fX7_isBetter (nI (d v / 10000 + T.2 n i 2)) (nI (d v % 10000 + 1)) (nI u) sums steps = some (bI (d v + (10000 * T.2 n i 2 + 1) < d u)) := by
            have e30 : uX7_isBetter_30 = some 1 := rfl
            unfold fX7_isBetter
            rw [gd_in (by omega), gd_in (by omega), gd_in (by omega), nI_cl (by omega), (hr u (by omega)).1, (hr u (by omega)).2, ite_ltN (by omega) (by omega), ite_eqN (by omega) (by omega), ite_leN (by omega) (by omega), e30]
            by_cases c1 : d v / 10000 + T.2 n i 2 < d u / 10000
            · rw [if_pos c1, bI_t (by omega)]
            · rw [if_neg c1]
              by_cases c2 : d v / 10000 + T.2 n i 2 = d u / 10000
              · rw [if_pos c2]
                by_cases c3 : d u % 10000 ≤ d v % 10000 + 1
                · rw [if_pos c3, bI_f (by omega)]
                · rw [if_neg c3, bI_t (by omega)]
              · rw [if_neg c2, bI_f (by omega)]
          rw [eB]
          simp only [Option.bind_some]
          rw [ite_bI]
          by_cases hbt : d v + (10000 * T.2 n i 2 + 1) < d u
          · rw [if_pos hbt, gd_in (by omega), gd_in hv, gd_in (by omega), nI_cl (by omega)]
            refine ⟨_, gRx d u v (10000 * T.2 n i 2 + 1), rfl, ?_, ?_, Or.inr ⟨v, T.2 n i 2, hA, rfl, fun v' c' h' => ⟨honly v' c' h', aVw_co h'⟩⟩⟩
            · intro j hj
              have ex : gRx d u v (10000 * T.2 n i 2 + 1) = un d u (d v + (10000 * T.2 n i 2 + 1)) := if_pos hbt
              rw [ex]
              show upd sums u _ j = _ ∧ upd steps u _ j = _
              unfold upd un
              by_cases ej : j = u
              · rw [if_pos ej, if_pos ej, if_pos ej]
                constructor
                · congr 1; omega
                · congr 1; omega
              · rw [if_neg ej, if_neg ej, if_neg ej]; exact hr j hj
            · intro j
              have ex : gRx d u v (10000 * T.2 n i 2 + 1) = un d u (d v + (10000 * T.2 n i 2 + 1)) := if_pos hbt
              rw [ex]
              unfold un
              by_cases ej : j = u
              · rw [if_pos ej]; omega
              · rw [if_neg ej]; have := hR j; omega
          · rw [if_neg hbt]
            exact same2 hA hbt
        · rw [if_neg hld]
          exact same (no (fun h => hld ((ld_iff hI hn ha hx h16).mpr h)))
  unfold fX7_relax
  rw [zl32, ite_ltN (by omega) (by omega)]
  by_cases h32 : i < 32
  · have hk : i - 16 < 16 := by omega
    have hl := hI.link hk
    rw [if_pos h32, zl16, pk_sub (by omega), e_isEnd hI (by omega) hk]
    simp only [Option.bind_some]
    rw [ite_bI]
    by_cases hE : aEnd T u (i - 16)
    · rw [if_pos hE, e_other hI hk hE]
      simp only [Option.bind_some]
      unfold aEnd at hE
      refine key _ (by omega) (fun v' c' h' => ?_)
      rw [aVw_co h'] at h'
      rcases ((ld_iff hI hn ha hx h16).mpr h').2 with q | q
      · have := q.2.2.2; omega
      · omega
    · rw [if_neg hE]
      refine key u (by omega) (fun v' c' h' => ?_)
      rw [aVw_co h'] at h'
      rcases ((ld_iff hI hn ha hx h16).mpr h').2 with q | q
      · exact absurd q.2.2.1 hE
      · omega
  · have hk : i - 32 < 3 := by omega
    have hl := hI.tun hk
    rw [if_neg h32, zl1, pk_sub (by omega), e_tunnelPart hk (by omega)]
    simp only [Option.bind_some]
    refine key _ (by omega) (fun v' c' h' => ?_)
    rw [aVw_co h'] at h'
    rcases ((ld_iff hI hn ha hx h16).mpr h').2 with q | q
    · omega
    · exact q.2.2.2.symm
end P39f
