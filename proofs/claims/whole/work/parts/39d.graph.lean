/-! The class's graph. -/
/-- an edge of a view: from u to v at a cost, by an item; st and co are the states and costs that are known, O the owners that are open -/
def aEd (T : zA) (st co : Nat → Nat) (O : Nat → Prop) (BL BT : Nat) (u v c i : Nat) : Prop :=
  (∃ k, k < BL ∧ k < aNL T ∧ i = 16 + k ∧ st (16 + k) = 1 ∧ (aL T k 4 = 1 → O (aOw T k)) ∧ ((u = aL T k 0 ∧ v = aL T k 1) ∨ (u = aL T k 1 ∧ v = aL T k 0)) ∧ c = co (16 + k)) ∨
  (∃ k, k < BT ∧ k < aNT T ∧ i = 32 + k ∧ st (32 + k) = 1 ∧ u = aT T k 0 ∧ v = aT T k 1 ∧ c = co (32 + k))
/-- the rows of edges -/
def rG (n : Nat) (e : Nat → Nat × Nat × Nat × Nat) (starts ends lengths items : Nat → Int32) : Prop := ∀ j, j < n → starts j = nI (e j).1 ∧ ends j = nI (e j).2.1 ∧ lengths j = nI ((e j).2.2.1 * 100 + 1) ∧ items j = nI (e j).2.2.2
/-- the rows hold just these edges, those of one start by ascending items -/
def gL (A : Nat → Nat → Nat → Nat → Prop) (n : Nat) (e : Nat → Nat × Nat × Nat × Nat) : Prop :=
  (∀ j, j < n → A (e j).1 (e j).2.1 (e j).2.2.1 (e j).2.2.2) ∧ (∀ u v c i, A u v c i → ∃ j, j < n ∧ e j = (u, v, c, i)) ∧ (∀ j j', j < j' → j' < n → (e j).1 = (e j').1 → (e j).2.2.2 < (e j').2.2.2)
theorem gL_add {A A' : Nat → Nat → Nat → Nat → Prop} {n : Nat} {e : Nat → Nat × Nat × Nat × Nat} (h : gL A n e) (x : Nat × Nat × Nat × Nat) (hA : ∀ u v c i, A' u v c i ↔ (A u v c i ∨ (u, v, c, i) = x)) (ho : ∀ u v c i, A u v c i → u = x.1 → i < x.2.2.2) : gL A' (n + 1) (fun j => if j = n then x else e j) := by
  obtain ⟨h1, h2, h3⟩ := h
  refine ⟨fun j hj => ?_, fun u v c i hx => ?_, fun j j' hjj hj' he => ?_⟩
  · dsimp only
    by_cases hjn : j = n
    · rw [if_pos hjn]
      exact (hA _ _ _ _).mpr (Or.inr rfl)
    · rw [if_neg hjn]
      exact (hA _ _ _ _).mpr (Or.inl (h1 j (by omega)))
  · rcases (hA u v c i).mp hx with hx | hx
    · obtain ⟨j, a, b⟩ := h2 u v c i hx
      refine ⟨j, by omega, ?_⟩
      dsimp only
      rw [if_neg (by omega)]; exact b
    · refine ⟨n, by omega, ?_⟩
      dsimp only
      rw [if_pos rfl]; exact hx.symm
  · dsimp only at he ⊢
    have hjn : ¬ j = n := by omega
    rw [if_neg hjn] at he ⊢
    by_cases hj'n : j' = n
    · rw [if_pos hj'n] at he ⊢
      exact ho _ _ _ _ (h1 j (by omega)) he
    · rw [if_neg hj'n] at he ⊢
      exact h3 j j' hjj (by omega) he
theorem gL_congr {A A' : Nat → Nat → Nat → Nat → Prop} {n : Nat} {e : Nat → Nat × Nat × Nat × Nat} (h : gL A n e) (hA : ∀ u v c i, A' u v c i ↔ A u v c i) : gL A' n e := ⟨fun j hj => (hA _ _ _ _).mpr (h.1 j hj), fun u v c i hx => h.2.1 u v c i ((hA _ _ _ _).mp hx), h.2.2⟩
theorem rG_add {n : Nat} {e : Nat → Nat × Nat × Nat × Nat} {starts ends lengths items : Nat → Int32} (h : rG n e starts ends lengths items) (u v c i : Nat) : rG (n + 1) (fun j => if j = n then (u, v, c, i) else e j) (upd starts n (nI u)) (upd ends n (nI v)) (upd lengths n (nI (c * 100 + 1))) (upd items n (nI i)) := by
  intro j hj
  unfold upd
  dsimp only
  by_cases e : j = n
  · simp only [e, if_true]
    exact ⟨trivial, trivial, trivial, trivial⟩
  · simp only [e, if_false]
    exact h j (by omega)
theorem c_addEdge {n u v c i : Nat} {starts ends lengths items : Nat → Int32} (hn : n < 35) : fX2_addEdge (nI u) (nI v) (nI i) (nI c) (nI n) starts ends lengths items = some (nI (n + 1), upd starts n (nI u), upd ends n (nI v), upd lengths n (nI (c * 100 + 1)), upd items n (nI i)) := by
  unfold fX2_addEdge
  rw [gd_in hn, gd_in hn, gd_in hn, gd_in hn, nI_cl (by omega), zl1, zl100, pk_mul, nI_add, nI_add]
section P39d
variable {T : zA} {V : Nat} {st co vv : Nat → Nat} {O : Nat → Prop}
theorem c_has {x : Int32} {o : Nat} (ho : o < 32) : fX3_has x (nI o) = some (bI (bi x o = true)) := by
  unfold fX3_has
  by_cases h : bi x o = true
  · rw [if_pos ((bi_test ho).mpr h), bI_t h]
  · rw [if_neg (fun q => h ((bi_test ho).mp q)), bI_f h]
theorem c_takeLinks_facts (hI : aInv V T) (hV : V < 2 ^ 20) {areas firsts seconds privates row starts ends lengths items : Nat → Int32} (hA : rA T areas) (hL : rL T firsts seconds privates) {base : Nat} (hb : base + 35 ≤ 350) (hrow : ∀ k, k < aNL T → row (base + (16 + k)) = nI (zpk (vv (16 + k)) (st (16 + k)) (co (16 + k))) ∧ vv (16 + k) ≤ V ∧ st (16 + k) ≤ 1 ∧ co (16 + k) ≤ 40) {x : Int32} (hx : ∀ o, o < 4 → (bi x o = true ↔ O o)) :
    ∃ n e q, fX2_takeLinks_facts (nI base) x starts ends lengths items (nI (aNN T)) (nI (aNL T)) areas firsts seconds privates row = some (nI (aNN T), nI n, q) ∧ n ≤ 2 * aNL T ∧ rG n e q.1 q.2.1 q.2.2.1 q.2.2.2 ∧ gL (aEd T st co O (aNL T) 0) n e := by
  have h10 : aNN T ≤ 10 := hI.1.1
  have h16 : aNL T ≤ 16 := hI.1.2.1
  have hb2 : 350 < 2 ^ 31 := by omega
  refine wh_ex (fun b : Int32 × Int32 × (Nat → Int32) × (Nat → Int32) × (Nat → Int32) × (Nat → Int32) => sX2_takeLinks_facts_16 (nI base) x (nI (aNN T)) (nI (aNL T)) areas firsts seconds privates row b.1 b.2.1 b.2.2.1 b.2.2.2.1 b.2.2.2.2.1 b.2.2.2.2.2) (aNL T) (fun k s => s.1 = nI k ∧ ∃ n e, s.2.1 = nI n ∧ n ≤ 2 * k ∧ rG n e s.2.2.1 s.2.2.2.1 s.2.2.2.2.1 s.2.2.2.2.2 ∧ gL (aEd T st co O k 0) n e) (fun r => ∃ n e q, r = some (nI (aNN T), nI n, q) ∧ n ≤ 2 * aNL T ∧ rG n e q.1 q.2.1 q.2.2.1 q.2.2.2 ∧ gL (aEd T st co O (aNL T) 0) n e) ?_ ?_ 0 ((0 : Int32), (0 : Int32), starts, ends, lengths, items) (by omega) ⟨zl0, 0, fun _ => (0, 0, 0, 0), zl0, by omega, fun j hj => by omega, fun j hj => by omega, fun u v c i hx => by
    rcases hx with ⟨k, hk, -⟩ | ⟨k, hk, -⟩ <;> omega, fun j j' _ hj' => by omega⟩
  · rintro k ⟨a, b, c1, c2, c3, c4⟩ hk ⟨h1, n, e, h2, h3, h4, h5⟩
    dsimp only at h1 h2 h4
    subst h1 h2
    left
    have hl := hI.2.2.1 k hk
    have hw : aOw T k < 4 := hI.ar (n := aL T k 0) (by omega)
    obtain ⟨w1, w2, w3, w4⟩ := hrow k hk
    have e134 : ∀ a b c d f, uX2_takeLinks_facts_134 (nI k) a b c d f = some (.inl (nI (k + 1), a, b, c, d, f)) := fun a b c d f => by unfold uX2_takeLinks_facts_134; rw [nm_eq, zl1, nI_add]
    -- what is not there
    have no : ¬ (st (16 + k) = 1 ∧ (aL T k 4 = 1 → O (aOw T k))) → gL (aEd T st co O (k + 1) 0) n e := by
      intro hno
      refine gL_congr h5 (fun u v c i => ?_)
      unfold aEd
      constructor
      · rintro (⟨k', a1, a2, a3, a4, a5, a6, a7⟩ | ⟨k', a1, -⟩)
        · by_cases ek : k' = k
          · subst ek
            exact absurd ⟨a4, a5⟩ hno
          · exact Or.inl ⟨k', by omega, a2, a3, a4, a5, a6, a7⟩
        · omega
      · rintro (⟨k', a1, a2, a3, a4, a5, a6, a7⟩ | ⟨k', a1, -⟩)
        · exact Or.inl ⟨k', by omega, a2, a3, a4, a5, a6, a7⟩
        · omega
    have yes : (aL T k 4 = 1 → O (aOw T k)) → ∃ s', uX2_takeLinks_facts_63 (nI k) (nI (16 + k)) (row (base + (16 + k))) (nI n) c1 c2 c3 c4 firsts seconds = some (.inl s') ∧ (s'.1 = nI (k + 1) ∧ ∃ n e, s'.2.1 = nI n ∧ n ≤ 2 * (k + 1) ∧ rG n e s'.2.2.1 s'.2.2.2.1 s'.2.2.2.2.1 s'.2.2.2.2.2 ∧ gL (aEd T st co O (k + 1) 0) n e) := by
      intro hop
      unfold uX2_takeLinks_facts_63 uX2_takeLinks_facts_68
      rw [if_neg (by decide), w1, c_state w2 hV w3 w4, c_price w2 hV w3 w4]
      simp only [Option.bind_some]
      rw [zl1, ite_eqN (by omega) (by omega)]
      by_cases hs : st (16 + k) = 1
      · rw [if_pos hs, gd_in (by omega), gd_in (by omega), nI_cl (by omega), (hL k hk).1, (hL k hk).2.1, c_addEdge (by omega)]
        simp only [Option.bind_some]
        rw [gd_in (by omega), gd_in (by omega), c_addEdge (by omega)]
        simp only [Option.bind_some]
        rw [e134]
        refine ⟨_, rfl, rfl, n + 1 + 1, _, rfl, by omega, rG_add (rG_add h4 _ _ _ _) _ _ _ _, ?_⟩
        refine gL_add (A := fun u v c i => aEd T st co O k 0 u v c i ∨ (u, v, c, i) = (aL T k 0, aL T k 1, co (16 + k), 16 + k)) (gL_add h5 (aL T k 0, aL T k 1, co (16 + k), 16 + k) (fun u v c i => Iff.rfl) ?_) (aL T k 1, aL T k 0, co (16 + k), 16 + k) ?_ ?_
        · rintro u v c i (⟨k', a1, a2, a3, -⟩ | ⟨k', a1, -⟩) -
          · show i < 16 + k; omega
          · omega
        · intro u v c i
          unfold aEd
          constructor
          · rintro (⟨k', a1, a2, a3, a4, a5, a6, a7⟩ | ⟨k', a1, -⟩)
            · by_cases ek : k' = k
              · subst ek
                rcases a6 with ⟨b1, b2⟩ | ⟨b1, b2⟩
                · left; right; rw [a3, b1, b2, a7]
                · right; rw [a3, b1, b2, a7]
              · exact Or.inl (Or.inl (Or.inl ⟨k', by omega, a2, a3, a4, a5, a6, a7⟩))
            · omega
          · rintro (((⟨k', a1, a2, a3, a4, a5, a6, a7⟩ | ⟨k', a1, -⟩) | hx) | hx)
            · exact Or.inl ⟨k', by omega, a2, a3, a4, a5, a6, a7⟩
            · omega
            · simp only [Prod.mk.injEq] at hx
              exact Or.inl ⟨k, by omega, hk, hx.2.2.2, hs, hop, Or.inl ⟨hx.1, hx.2.1⟩, hx.2.2.1⟩
            · simp only [Prod.mk.injEq] at hx
              exact Or.inl ⟨k, by omega, hk, hx.2.2.2, hs, hop, Or.inr ⟨hx.1, hx.2.1⟩, hx.2.2.1⟩
        · rintro u v c i ((⟨k', a1, a2, a3, -⟩ | ⟨k', a1, -⟩) | hx) hu
          · show i < 16 + k; omega
          · omega
          · simp only [Prod.mk.injEq] at hx
            have : u = aL T k 1 := hu
            omega
      · rw [if_neg hs, e134]
        exact ⟨_, rfl, rfl, n, e, rfl, by omega, h4, no (fun q => hs q.1)⟩
    dsimp only [sX2_takeLinks_facts_16]
    rw [ite_leN (by omega) (by omega), if_neg (by omega), nm_eq, zl16, nI_add, nI_add, gd_in (by omega) hb2, nI_cl (by omega), nm_eq, c_isPrivateLink hI hL (by omega) (by omega)]
    simp only [Option.bind_some]
    rw [ite_bI]
    have es : aSec T (16 + k) ↔ aL T k 4 = 1 := by
      unfold aSec
      rw [show 16 + k - 16 = k by omega]
      omega
    by_cases hsec : aSec T (16 + k)
    · rw [if_pos hsec, c_owner hI hA hL hk]
      simp only [Option.bind_some]
      rw [c_has (by omega)]
      simp only [Option.bind_some]
      rw [ite_bI]
      by_cases hO : bi x (aOw T k) = true
      · rw [if_pos hO]
        exact yes (fun _ => (hx _ hw).mp hO)
      · rw [if_neg hO]
        unfold uX2_takeLinks_facts_68
        rw [if_pos rfl, e134]
        exact ⟨_, rfl, rfl, n, e, rfl, by omega, h4, no (fun q => hO ((hx _ hw).mpr (q.2 (es.mp hsec))))⟩
    · rw [if_neg hsec]
      exact yes (fun q => absurd (es.mpr q) hsec)
  · rintro ⟨a, b, c1, c2, c3, c4⟩ ⟨h1, n, e, h2, h3, h4, h5⟩
    dsimp only at h1 h2 h4
    subst h1 h2
    refine ⟨some (nI (aNN T), nI n, c1, c2, c3, c4), ?_, n, e, _, rfl, h3, h4, h5⟩
    dsimp only [sX2_takeLinks_facts_16]
    rw [ite_leN (by omega) (by omega), if_pos (by omega)]
theorem c_takeLinks_truth (hI : aInv V T) (hV : V < 2 ^ 20) {areas firsts seconds privates row starts ends lengths items : Nat → Int32} (hA : rA T areas) (hL : rL T firsts seconds privates) {base : Nat} (hb : base + 35 ≤ 35) (hrow : ∀ k, k < aNL T → row (base + (16 + k)) = nI (zpk (vv (16 + k)) (st (16 + k)) (co (16 + k))) ∧ vv (16 + k) ≤ V ∧ st (16 + k) ≤ 1 ∧ co (16 + k) ≤ 40) {x : Int32} (hx : ∀ o, o < 4 → (bi x o = true ↔ O o)) :
    ∃ n e q, fX2_takeLinks_truth (nI base) x starts ends lengths items (nI (aNN T)) (nI (aNL T)) areas firsts seconds privates row = some (nI (aNN T), nI n, q) ∧ n ≤ 2 * aNL T ∧ rG n e q.1 q.2.1 q.2.2.1 q.2.2.2 ∧ gL (aEd T st co O (aNL T) 0) n e := by
  have h10 : aNN T ≤ 10 := hI.1.1
  have h16 : aNL T ≤ 16 := hI.1.2.1
  have hb2 : 35 < 2 ^ 31 := by omega
  refine wh_ex (fun b : Int32 × Int32 × (Nat → Int32) × (Nat → Int32) × (Nat → Int32) × (Nat → Int32) => sX2_takeLinks_truth_16 (nI base) x (nI (aNN T)) (nI (aNL T)) areas firsts seconds privates row b.1 b.2.1 b.2.2.1 b.2.2.2.1 b.2.2.2.2.1 b.2.2.2.2.2) (aNL T) (fun k s => s.1 = nI k ∧ ∃ n e, s.2.1 = nI n ∧ n ≤ 2 * k ∧ rG n e s.2.2.1 s.2.2.2.1 s.2.2.2.2.1 s.2.2.2.2.2 ∧ gL (aEd T st co O k 0) n e) (fun r => ∃ n e q, r = some (nI (aNN T), nI n, q) ∧ n ≤ 2 * aNL T ∧ rG n e q.1 q.2.1 q.2.2.1 q.2.2.2 ∧ gL (aEd T st co O (aNL T) 0) n e) ?_ ?_ 0 ((0 : Int32), (0 : Int32), starts, ends, lengths, items) (by omega) ⟨zl0, 0, fun _ => (0, 0, 0, 0), zl0, by omega, fun j hj => by omega, fun j hj => by omega, fun u v c i hx => by
    rcases hx with ⟨k, hk, -⟩ | ⟨k, hk, -⟩ <;> omega, fun j j' _ hj' => by omega⟩
  · rintro k ⟨a, b, c1, c2, c3, c4⟩ hk ⟨h1, n, e, h2, h3, h4, h5⟩
    dsimp only at h1 h2 h4
    subst h1 h2
    left
    have hl := hI.2.2.1 k hk
    have hw : aOw T k < 4 := hI.ar (n := aL T k 0) (by omega)
    obtain ⟨w1, w2, w3, w4⟩ := hrow k hk
    have e134 : ∀ a b c d f, uX2_takeLinks_truth_134 (nI k) a b c d f = some (.inl (nI (k + 1), a, b, c, d, f)) := fun a b c d f => by unfold uX2_takeLinks_truth_134; rw [nm_eq, zl1, nI_add]
    -- what is not there
    have no : ¬ (st (16 + k) = 1 ∧ (aL T k 4 = 1 → O (aOw T k))) → gL (aEd T st co O (k + 1) 0) n e := by
      intro hno
      refine gL_congr h5 (fun u v c i => ?_)
      unfold aEd
      constructor
      · rintro (⟨k', a1, a2, a3, a4, a5, a6, a7⟩ | ⟨k', a1, -⟩)
        · by_cases ek : k' = k
          · subst ek
            exact absurd ⟨a4, a5⟩ hno
          · exact Or.inl ⟨k', by omega, a2, a3, a4, a5, a6, a7⟩
        · omega
      · rintro (⟨k', a1, a2, a3, a4, a5, a6, a7⟩ | ⟨k', a1, -⟩)
        · exact Or.inl ⟨k', by omega, a2, a3, a4, a5, a6, a7⟩
        · omega
    have yes : (aL T k 4 = 1 → O (aOw T k)) → ∃ s', uX2_takeLinks_truth_63 (nI k) (nI (16 + k)) (row (base + (16 + k))) (nI n) c1 c2 c3 c4 firsts seconds = some (.inl s') ∧ (s'.1 = nI (k + 1) ∧ ∃ n e, s'.2.1 = nI n ∧ n ≤ 2 * (k + 1) ∧ rG n e s'.2.2.1 s'.2.2.2.1 s'.2.2.2.2.1 s'.2.2.2.2.2 ∧ gL (aEd T st co O (k + 1) 0) n e) := by
      intro hop
      unfold uX2_takeLinks_truth_63 uX2_takeLinks_truth_68
      rw [if_neg (by decide), w1, c_state w2 hV w3 w4, c_price w2 hV w3 w4]
      simp only [Option.bind_some]
      rw [zl1, ite_eqN (by omega) (by omega)]
      by_cases hs : st (16 + k) = 1
      · rw [if_pos hs, gd_in (by omega), gd_in (by omega), nI_cl (by omega), (hL k hk).1, (hL k hk).2.1, c_addEdge (by omega)]
        simp only [Option.bind_some]
        rw [gd_in (by omega), gd_in (by omega), c_addEdge (by omega)]
        simp only [Option.bind_some]
        rw [e134]
        refine ⟨_, rfl, rfl, n + 1 + 1, _, rfl, by omega, rG_add (rG_add h4 _ _ _ _) _ _ _ _, ?_⟩
        refine gL_add (A := fun u v c i => aEd T st co O k 0 u v c i ∨ (u, v, c, i) = (aL T k 0, aL T k 1, co (16 + k), 16 + k)) (gL_add h5 (aL T k 0, aL T k 1, co (16 + k), 16 + k) (fun u v c i => Iff.rfl) ?_) (aL T k 1, aL T k 0, co (16 + k), 16 + k) ?_ ?_
        · rintro u v c i (⟨k', a1, a2, a3, -⟩ | ⟨k', a1, -⟩) -
          · show i < 16 + k; omega
          · omega
        · intro u v c i
          unfold aEd
          constructor
          · rintro (⟨k', a1, a2, a3, a4, a5, a6, a7⟩ | ⟨k', a1, -⟩)
            · by_cases ek : k' = k
              · subst ek
                rcases a6 with ⟨b1, b2⟩ | ⟨b1, b2⟩
                · left; right; rw [a3, b1, b2, a7]
                · right; rw [a3, b1, b2, a7]
              · exact Or.inl (Or.inl (Or.inl ⟨k', by omega, a2, a3, a4, a5, a6, a7⟩))
            · omega
          · rintro (((⟨k', a1, a2, a3, a4, a5, a6, a7⟩ | ⟨k', a1, -⟩) | hx) | hx)
            · exact Or.inl ⟨k', by omega, a2, a3, a4, a5, a6, a7⟩
            · omega
            · simp only [Prod.mk.injEq] at hx
              exact Or.inl ⟨k, by omega, hk, hx.2.2.2, hs, hop, Or.inl ⟨hx.1, hx.2.1⟩, hx.2.2.1⟩
            · simp only [Prod.mk.injEq] at hx
              exact Or.inl ⟨k, by omega, hk, hx.2.2.2, hs, hop, Or.inr ⟨hx.1, hx.2.1⟩, hx.2.2.1⟩
        · rintro u v c i ((⟨k', a1, a2, a3, -⟩ | ⟨k', a1, -⟩) | hx) hu
          · show i < 16 + k; omega
          · omega
          · simp only [Prod.mk.injEq] at hx
            have : u = aL T k 1 := hu
            omega
      · rw [if_neg hs, e134]
        exact ⟨_, rfl, rfl, n, e, rfl, by omega, h4, no (fun q => hs q.1)⟩
    dsimp only [sX2_takeLinks_truth_16]
    rw [ite_leN (by omega) (by omega), if_neg (by omega), nm_eq, zl16, nI_add, nI_add, gd_in (by omega) hb2, nI_cl (by omega), nm_eq, c_isPrivateLink hI hL (by omega) (by omega)]
    simp only [Option.bind_some]
    rw [ite_bI]
    have es : aSec T (16 + k) ↔ aL T k 4 = 1 := by
      unfold aSec
      rw [show 16 + k - 16 = k by omega]
      omega
    by_cases hsec : aSec T (16 + k)
    · rw [if_pos hsec, c_owner hI hA hL hk]
      simp only [Option.bind_some]
      rw [c_has (by omega)]
      simp only [Option.bind_some]
      rw [ite_bI]
      by_cases hO : bi x (aOw T k) = true
      · rw [if_pos hO]
        exact yes (fun _ => (hx _ hw).mp hO)
      · rw [if_neg hO]
        unfold uX2_takeLinks_truth_68
        rw [if_pos rfl, e134]
        exact ⟨_, rfl, rfl, n, e, rfl, by omega, h4, no (fun q => hO ((hx _ hw).mpr (q.2 (es.mp hsec))))⟩
    · rw [if_neg hsec]
      exact yes (fun q => absurd (es.mpr q) hsec)
  · rintro ⟨a, b, c1, c2, c3, c4⟩ ⟨h1, n, e, h2, h3, h4, h5⟩
    dsimp only at h1 h2 h4
    subst h1 h2
    refine ⟨some (nI (aNN T), nI n, c1, c2, c3, c4), ?_, n, e, _, rfl, h3, h4, h5⟩
    dsimp only [sX2_takeLinks_truth_16]
    rw [ite_leN (by omega) (by omega), if_pos (by omega)]
theorem c_takeTunnels (hI : aInv V T) (hV : V < 2 ^ 20) {entries exits facts starts ends lengths items : Nat → Int32} (hT : rT T entries exits) {base : Nat} (hb : base + 35 ≤ 350) (hrow : ∀ k, k < aNT T → facts (base + (32 + k)) = nI (zpk (vv (32 + k)) (st (32 + k)) (co (32 + k))) ∧ vv (32 + k) ≤ V ∧ st (32 + k) ≤ 1 ∧ co (32 + k) ≤ 40) {n0 : Nat} {e0 : Nat → Nat × Nat × Nat × Nat} (hn0 : n0 ≤ 32) (hg0 : rG n0 e0 starts ends lengths items) (hl0 : gL (aEd T st co O (aNL T) 0) n0 e0) :
    ∃ n e q, fX2_takeTunnels (nI base) (nI n0) starts ends lengths items (nI (aNT T)) entries exits facts = some (nI n, q) ∧ n ≤ 35 ∧ rG n e q.1 q.2.1 q.2.2.1 q.2.2.2 ∧ gL (aEd T st co O (aNL T) (aNT T)) n e := by
  have h3' : aNT T ≤ 3 := hI.1.2.2
  refine wh_ex (fun b : Int32 × Int32 × (Nat → Int32) × (Nat → Int32) × (Nat → Int32) × (Nat → Int32) => sX2_takeTunnels_2 (nI base) (nI (aNT T)) entries exits facts b.1 b.2.1 b.2.2.1 b.2.2.2.1 b.2.2.2.2.1 b.2.2.2.2.2) (aNT T) (fun k s => s.1 = nI k ∧ ∃ n e, s.2.1 = nI n ∧ n ≤ 32 + k ∧ rG n e s.2.2.1 s.2.2.2.1 s.2.2.2.2.1 s.2.2.2.2.2 ∧ gL (aEd T st co O (aNL T) k) n e) (fun r => ∃ n e q, r = some (nI n, q) ∧ n ≤ 35 ∧ rG n e q.1 q.2.1 q.2.2.1 q.2.2.2 ∧ gL (aEd T st co O (aNL T) (aNT T)) n e) ?_ ?_ 0 ((0 : Int32), nI n0, starts, ends, lengths, items) (by omega) ⟨zl0, n0, e0, rfl, by omega, hg0, hl0⟩
  · rintro k ⟨a, b, c1, c2, c3, c4⟩ hk ⟨h1, n, e, h2, h3, h4, h5⟩
    dsimp only at h1 h2 h4
    subst h1 h2
    left
    have h16 : aNL T ≤ 16 := hI.1.2.1
    obtain ⟨w1, w2, w3, w4⟩ := hrow k hk
    have e59 : ∀ a b c d f, uX2_takeTunnels_59 (nI k) a b c d f = some (.inl (nI (k + 1), a, b, c, d, f)) := fun a b c d f => by unfold uX2_takeTunnels_59; rw [nm_eq, zl1, nI_add]
    dsimp only [sX2_takeTunnels_2]
    rw [ite_leN (by omega) (by omega), if_neg (by omega), nm_eq, zl32, nI_add, nI_add, gd_in (by omega), nI_cl (by omega), nm_eq, w1, c_state w2 hV w3 w4, c_price w2 hV w3 w4]
    simp only [Option.bind_some]
    rw [zl1, ite_eqN (by omega) (by omega)]
    by_cases hs : st (32 + k) = 1
    · rw [if_pos hs, gd_in (by omega), gd_in (by omega), nI_cl (by omega), (hT k hk).1, (hT k hk).2, c_addEdge (by omega)]
      simp only [Option.bind_some]
      rw [e59]
      refine ⟨_, rfl, rfl, n + 1, _, rfl, by omega, rG_add h4 _ _ _ _, ?_⟩
      refine gL_add h5 (aT T k 0, aT T k 1, co (32 + k), 32 + k) ?_ ?_
      · intro u v c i
        unfold aEd
        constructor
        · rintro (hx | ⟨k', a1, a2, a3, a4, a5, a6, a7⟩)
          · exact Or.inl (Or.inl hx)
          · by_cases ek : k' = k
            · subst ek
              right; rw [a3, a5, a6, a7]
            · exact Or.inl (Or.inr ⟨k', by omega, a2, a3, a4, a5, a6, a7⟩)
        · rintro ((hx | ⟨k', a1, a2, a3, a4, a5, a6, a7⟩) | hx)
          · exact Or.inl hx
          · exact Or.inr ⟨k', by omega, a2, a3, a4, a5, a6, a7⟩
          · simp only [Prod.mk.injEq] at hx
            exact Or.inr ⟨k, by omega, hk, hx.2.2.2, hs, hx.1, hx.2.1, hx.2.2.1⟩
      · rintro u v c i (⟨k', a1, a2, a3, -⟩ | ⟨k', a1, a2, a3, -⟩) -
        · show i < 32 + k; omega
        · show i < 32 + k; omega
    · rw [if_neg hs, e59]
      refine ⟨_, rfl, rfl, n, e, rfl, by omega, h4, gL_congr h5 (fun u v c i => ?_)⟩
      unfold aEd
      constructor
      · rintro (hx | ⟨k', a1, a2, a3, a4, a5, a6, a7⟩)
        · exact Or.inl hx
        · by_cases ek : k' = k
          · subst ek; exact absurd a4 hs
          · exact Or.inr ⟨k', by omega, a2, a3, a4, a5, a6, a7⟩
      · rintro (hx | ⟨k', a1, a2, a3, a4, a5, a6, a7⟩)
        · exact Or.inl hx
        · exact Or.inr ⟨k', by omega, a2, a3, a4, a5, a6, a7⟩
  · rintro ⟨a, b, c1, c2, c3, c4⟩ ⟨h1, n, e, h2, h3, h4, h5⟩
    dsimp only at h1 h2 h4
    subst h1 h2
    refine ⟨some (nI n, c1, c2, c3, c4), ?_, n, e, _, rfl, by omega, h4, h5⟩
    dsimp only [sX2_takeTunnels_2]
    rw [ite_leN (by omega) (by omega), if_pos (by omega)]
end P39d
