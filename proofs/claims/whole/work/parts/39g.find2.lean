section P39g
variable {T : zA} {V : Nat}
/-- the lengths in the reference -/
abbrev gB (T : zA) (n a b : Nat) : Nat → Nat → Nat → Prop := gP (gQ (aVw T n a b)) 10000
/-- which edges have been tried since d0 -/
def gCov (T : zA) (n a b : Nat) (d0 d : Nat → Nat) (B : Nat) : Prop := ∀ u v c i, aVw T n a b u v c i → i < B → d u ≤ d0 v + (10000 * c + 1)
theorem e_find_71 (hI : aInv V T) (hV : V < 2 ^ 20) {n a b i t R : Nat} (hn : n < 10) (ha : a < 4) (hb : b ≤ 1) (h16 : 16 ≤ i) (hi : i < 35) {sums steps : Nat → Int32} {d d0 : Nat → Nat} (hr : rS d sums steps) (hG : gGood (gB T n a b) t 10000000000 d) (hR : ∀ j, d j % 10000 ≤ R) (hRR : R + 20 < 9000) (hle : ∀ j, d j ≤ d0 j) (hc : gCov T n a b d0 d i) :
    ∃ q d', lX7_find_71 (nI n) (nI a) (nI b) (nI i) (zI T) (nI 0) sums steps = some (.inl (nI (i + 1), q)) ∧ rS d' q.1 q.2 ∧ gGood (gB T n a b) t 10000000000 d' ∧ (∀ j, d' j % 10000 ≤ R + 10) ∧ (∀ j, d' j ≤ d0 j) ∧ gCov T n a b d0 d' (i + 1) := by
  have h1 := hI.1
  have e109 : ∀ s t, uX7_find_109 (nI i) s t = some (.inl (nI (i + 1), s, t)) := fun s t => by unfold uX7_find_109; rw [nm_eq, zl1, nI_add]
  refine wh_ex (fun s : Int32 × (Nat → Int32) × (Nat → Int32) => sX7_find_71 (nI n) (nI a) (nI b) (nI i) (zI T) s.1 s.2.1 s.2.2) (aNN T) (fun k s => s.1 = nI k ∧ ∃ d', rS d' s.2.1 s.2.2 ∧ gGood (gB T n a b) t 10000000000 d' ∧ (∀ j, d' j % 10000 ≤ R + k) ∧ (∀ j, d' j ≤ d0 j) ∧ gCov T n a b d0 d' i ∧ ∀ u v c, u < k → aVw T n a b u v c i → d' u ≤ d0 v + (10000 * c + 1)) (fun r => ∃ q d', r = some (.inl (nI (i + 1), q)) ∧ rS d' q.1 q.2 ∧ gGood (gB T n a b) t 10000000000 d' ∧ (∀ j, d' j % 10000 ≤ R + 10) ∧ (∀ j, d' j ≤ d0 j) ∧ gCov T n a b d0 d' (i + 1)) ?_ ?_ 0 (nI 0, sums, steps) (by omega) ⟨rfl, d, hr, hG, hR, hle, hc, fun u v c hu => by omega⟩
  · rintro k ⟨x, s1, s2⟩ hk ⟨h2, d', g1, g2, g3, g4, g5, g6⟩
    dsimp only at h2 g1
    subst h2
    dsimp only [sX7_find_71]
    rw [zl0, gd_in (by omega), nI_cl (by omega), zI_h (by omega)]
    show (∃ s', (if nI (aNN T) ≤ nI k then _ else _) = _ ∧ _) ∨ (∃ r, (if nI (aNN T) ≤ nI k then _ else _) = _ ∧ _)
    rw [ite_leN (by omega) (by omega), if_neg (by omega), e_isItem hI (by omega)]
    simp only [Option.bind_some]
    rw [ite_bIn]
    by_cases hx : aEx T i
    · left
      obtain ⟨q, d2, r1, r2, r3, r4⟩ := e_relax hI hV hn ha hb hx h16 hk g1 g2.2.1 g3 (by omega)
      rw [if_pos hx, r1]
      simp only [Option.bind_some]
      rw [nm_eq, zl1, nI_add]
      refine ⟨_, rfl, rfl, d2, r2, ?_, ?_, ?_, ?_, ?_⟩
      · rcases r4 with ⟨rfl, -⟩ | ⟨v, c, r4, rfl, -⟩
        · exact g2
        · exact gRx_good (gP_ok (aVw_ok hI hn)) g2 ⟨c, ⟨i, r4⟩, rfl⟩
      · intro j; have := r3 j; omega
      · intro j
        rcases r4 with ⟨rfl, -⟩ | ⟨v, c, r4, rfl, -⟩
        · exact g4 j
        · exact Nat.le_trans gRx_le (g4 j)
      · intro u' v' c' i' hA hi'
        have := g5 u' v' c' i' hA hi'
        rcases r4 with ⟨rfl, -⟩ | ⟨v, c, r4, rfl, -⟩
        · exact this
        · exact Nat.le_trans gRx_le this
      · intro u' v' c' hu' hA
        rcases r4 with ⟨rfl, hno⟩ | ⟨v, c, r4, rfl, honly⟩
        · by_cases eu : u' = k
          · subst eu; exact absurd hA (hno v' c')
          · exact g6 u' v' c' (by omega) hA
        · by_cases eu : u' = k
          · subst eu
            obtain ⟨rfl, rfl⟩ := honly v' c' hA
            have h3 := gRx_at (d := d') (u := u') (v := v') (l := 10000 * c' + 1)
            have h4 := g4 v'
            omega
          · exact Nat.le_trans gRx_le (g6 u' v' c' (by omega) hA)
    · right
      rw [if_neg hx]
      refine ⟨uX7_find_109 (nI i) s1 s2, rfl, (s1, s2), d', e109 s1 s2, g1, g2, fun j => by have := g3 j; omega, g4, fun u' v' c' i' hA hi' => ?_⟩
      by_cases ei : i' = i
      · subst ei; exact absurd (aVw_ex hA).1 hx
      · exact g5 u' v' c' i' hA (by omega)
  · rintro ⟨x, s1, s2⟩ ⟨h2, d', g1, g2, g3, g4, g5, g6⟩
    dsimp only at h2 g1
    subst h2
    refine ⟨uX7_find_109 (nI i) s1 s2, ?_, (s1, s2), d', e109 s1 s2, g1, g2, fun j => by have := g3 j; omega, g4, fun u' v' c' i' hA hi' => ?_⟩
    · dsimp only [sX7_find_71]
      rw [zl0, gd_in (by omega), nI_cl (by omega), zI_h (by omega)]
      show (if nI (aNN T) ≤ nI (aNN T) then _ else _) = _
      rw [ite_leN (by omega) (by omega), if_pos (by omega)]
    · by_cases ei : i' = i
      · subst ei
        exact g6 u' v' c' (aVw_ok hI hn u' v' c' ⟨i', hA⟩).1 hA
      · exact g5 u' v' c' i' hA (by omega)
theorem e_find_61 (hI : aInv V T) (hV : V < 2 ^ 20) {n a b t R k : Nat} (hn : n < 10) (ha : a < 4) (hb : b ≤ 1) {sums steps : Nat → Int32} {d : Nat → Nat} (hr : rS d sums steps) (hG : gGood (gB T n a b) t 10000000000 d) (hR : ∀ j, d j % 10000 ≤ R) (hRR : R + 400 < 9000) :
    ∃ q d', lX7_find_61 (nI n) (nI a) (nI b) (nI k) (zI T) (nI 16) sums steps = some (.inl (nI (k + 1), q)) ∧ rS d' q.1 q.2 ∧ gGood (gB T n a b) t 10000000000 d' ∧ (∀ j, d' j % 10000 ≤ R + 190) ∧ gStep (gB T n a b) d d' := by
  refine wh_ex (fun s : Int32 × (Nat → Int32) × (Nat → Int32) => sX7_find_61 (nI n) (nI a) (nI b) (nI k) (zI T) s.1 s.2.1 s.2.2) 19 (fun m s => s.1 = nI (16 + m) ∧ ∃ d', rS d' s.2.1 s.2.2 ∧ gGood (gB T n a b) t 10000000000 d' ∧ (∀ j, d' j % 10000 ≤ R + 10 * m) ∧ (∀ j, d' j ≤ d j) ∧ gCov T n a b d d' (16 + m)) (fun r => ∃ q d', r = some (.inl (nI (k + 1), q)) ∧ rS d' q.1 q.2 ∧ gGood (gB T n a b) t 10000000000 d' ∧ (∀ j, d' j % 10000 ≤ R + 190) ∧ gStep (gB T n a b) d d') ?_ ?_ 0 (nI 16, sums, steps) (by omega) ⟨rfl, d, hr, hG, hR, fun j => Nat.le_refl _, fun u v c i hA hi => by have := (aVw_ex hA).2; omega⟩
  · rintro m ⟨x, s1, s2⟩ hm ⟨h2, d', g1, g2, g3, g4, g5⟩
    dsimp only at h2 g1
    subst h2
    left
    obtain ⟨q, d2, r1, r2, r3, r4, r5, r6⟩ := e_find_71 hI hV hn ha hb (i := 16 + m) (by omega) (by omega) g1 g2 g3 (by omega) g4 g5
    dsimp only [sX7_find_61]
    rw [zl35, ite_leN (by omega) (by omega), if_neg (by omega), zl0, r1]
    exact ⟨_, rfl, rfl, d2, r2, r3, fun j => by have := r4 j; omega, r5, r6⟩
  · rintro ⟨x, s1, s2⟩ ⟨h2, d', g1, g2, g3, g4, g5⟩
    dsimp only at h2 g1
    subst h2
    refine ⟨uX7_find_115 (nI k) s1 s2, ?_, (s1, s2), d', ?_, g1, g2, g3, g4, ?_⟩
    · dsimp only [sX7_find_61]
      rw [zl35, ite_leN (by omega) (by omega), if_pos (by omega)]
    · unfold uX7_find_115
      rw [nm_eq, zl1, nI_add]
    · rintro u v l ⟨c, ⟨i, hA⟩, rfl⟩
      exact g5 u v c i hA (by have := ((aVw_ex hA).1.lt hI).1; omega)
theorem e_find (hI : aInv V T) (hV : V < 2 ^ 20) {n a b t : Nat} (hn : n < 10) (ha : a < 4) (hb : b ≤ 1) (ht : t < aNN T) {sums steps : Nat → Int32} :
    ∃ q d, fX7_find (nI n) (nI t) (nI a) (nI b) (zI T) sums steps = some q ∧ rS d q.1 q.2 ∧ gGood (gB T n a b) t 10000000000 d ∧ gFix (gB T n a b) d ∧ ∀ j, d j % 10000 ≤ 1900 := by
  have h1 := hI.1
  have hP := gP_ok (b := 10000) (aVw_ok hI (a := a) (b := b) hn)
  obtain ⟨D, hD, hf⟩ := gExists hP (sm (gD0 t 10000000000) (aNN T)) (gD0 t 10000000000) (gD0_good (P := gB T n a b)) (Nat.le_refl _)
  have e28 : ∀ k x s1 s2, k < 10 → uX7_find_28 (nI k) (nI k) (nI x) s1 s2 = some (.inl (nI (k + 1), upd s1 k (nI x), upd s2 k (nI 0))) := fun k x s1 s2 hk => by
    unfold uX7_find_28
    rw [gd_in hk, gd_in hk, nI_cl (by omega), nm_eq, zl1, nI_add, zl0]
  refine wh_ex (fun s : Int32 × (Nat → Int32) × (Nat → Int32) => sX7_find_3 (nI n) (nI t) (nI a) (nI b) (zI T) s.1 s.2.1 s.2.2) 10 (fun k s => s.1 = nI k ∧ ∀ j, j < k → s.2.1 j = nI (gD0 t 10000000000 j / 10000) ∧ s.2.2 j = nI (gD0 t 10000000000 j % 10000)) (fun r => ∃ q d, r = some q ∧ rS d q.1 q.2 ∧ gGood (gB T n a b) t 10000000000 d ∧ gFix (gB T n a b) d ∧ ∀ j, d j % 10000 ≤ 1900) ?_ ?_ 0 ((0 : Int32), sums, steps) (by omega) ⟨zl0, fun j hj => by omega⟩
  · rintro k ⟨x, s1, s2⟩ hk ⟨h2, g1⟩
    dsimp only at h2 g1
    subst h2
    left
    dsimp only [sX7_find_3]
    rw [zl10, ite_leN (by omega) (by omega), if_neg (by omega), ite_eqN (by omega) (by omega)]
    have fin : ∀ x, gD0 t 10000000000 k / 10000 = x → gD0 t 10000000000 k % 10000 = 0 → ∀ j, j < k + 1 → upd s1 k (nI x) j = nI (gD0 t 10000000000 j / 10000) ∧ upd s2 k (nI 0) j = nI (gD0 t 10000000000 j % 10000) := by
      intro x hx h0 j hj
      unfold upd
      by_cases ej : j = k
      · rw [if_pos ej, if_pos ej, ej, hx, h0]; exact ⟨rfl, rfl⟩
      · rw [if_neg ej, if_neg ej]; exact g1 j (by omega)
    by_cases e : k = t
    · rw [if_pos e, zl0, e28 k 0 s1 s2 hk]
      refine ⟨_, rfl, rfl, fin 0 ?_ ?_⟩
      · unfold gD0; rw [if_pos e]
      · unfold gD0; rw [if_pos e]
    · rw [if_neg e, zl1000000, e28 k 1000000 s1 s2 hk]
      refine ⟨_, rfl, rfl, fin 1000000 ?_ ?_⟩
      · unfold gD0; rw [if_neg e]
      · unfold gD0; rw [if_neg e]
  · rintro ⟨x, s1, s2⟩ ⟨h2, g1⟩
    dsimp only at h2 g1
    subst h2
    refine ⟨uX7_find_43 (nI n) (nI a) (nI b) (zI T) s1 s2, ?_, ?_⟩
    · dsimp only [sX7_find_3]
      rw [zl10, ite_leN (by omega) (by omega), if_pos (by omega)]
    · unfold uX7_find_43
      refine wh_ex (fun s : Int32 × (Nat → Int32) × (Nat → Int32) => sX7_find_46 (nI n) (nI a) (nI b) (zI T) s.1 s.2.1 s.2.2) (aNN T) (fun k s => s.1 = nI k ∧ ∃ d, rS d s.2.1 s.2.2 ∧ gGood (gB T n a b) t 10000000000 d ∧ (∀ j, d j % 10000 ≤ 190 * k) ∧ (gBad D d (aNN T) + k ≤ aNN T ∨ gBad D d (aNN T) = 0)) (fun r => ∃ q d, r = some q ∧ rS d q.1 q.2 ∧ gGood (gB T n a b) t 10000000000 d ∧ gFix (gB T n a b) d ∧ ∀ j, d j % 10000 ≤ 1900) ?_ ?_ 0 ((0 : Int32), s1, s2) (by omega) ⟨zl0, gD0 t 10000000000, g1, gD0_good, fun j => by unfold gD0; split <;> omega, gStart⟩
      · rintro k ⟨x, s1, s2⟩ hk ⟨h2, d, r1, r2, r3, r4⟩
        dsimp only at h2 r1
        subst h2
        left
        obtain ⟨q, d2, q1, q2, q3, q4, q5⟩ := e_find_61 hI hV (k := k) hn ha hb r1 r2 r3 (by omega)
        dsimp only [sX7_find_46]
        rw [zl0, gd_in (by omega), nI_cl (by omega), zI_h (by omega)]
        show ∃ s', (if nI (aNN T) ≤ nI k then _ else _) = _ ∧ _
        rw [ite_leN (by omega) (by omega), if_neg (by omega), zl16, q1]
        exact ⟨_, rfl, rfl, d2, q2, q3, fun j => by have := q4 j; omega, gNext hP hD hf r2 q3 q5 r4⟩
      · rintro ⟨x, s1, s2⟩ ⟨h2, d, r1, r2, r3, r4⟩
        dsimp only at h2 r1
        subst h2
        refine ⟨some (s1, s2), ?_, (s1, s2), d, rfl, r1, r2, gEnd hP ht hD hf r2 r4, fun j => by have := r3 j; omega⟩
        dsimp only [sX7_find_46]
        rw [zl0, gd_in (by omega), nI_cl (by omega), zI_h (by omega)]
        show (if nI (aNN T) ≤ nI (aNN T) then _ else _) = _
        rw [ite_leN (by omega) (by omega), if_pos (by omega)]
/-- an edge on a least way, in the reference -/
def gOnB (T : zA) (n a b : Nat) (d : Nat → Nat) (u v i : Nat) : Prop := ∃ c, aVw T n a b u v c i ∧ d v + (10000 * c + 1) = d u
theorem e_choose (hI : aInv V T) (hV : V < 2 ^ 20) {n a b u : Nat} (hn : n < 10) (ha : a < 4) (hb : b ≤ 1) (hu : u < 10) {sums steps : Nat → Int32} {d : Nat → Nat} (hr : rS d sums steps) (hF : ∀ j, d j ≤ 10000000000) (hR : ∀ j, d j % 10000 ≤ 1900) {ch : Int32} :
    ∃ q, fX7_choose (nI n) (nI u) (nI a) (nI b) (zI T) sums steps ch = some q ∧ ((q = (-9, ch) ∧ (d u = 10000000000 ∨ ∀ v i, ¬ gOnB T n a b d u v i)) ∨ (d u < 10000000000 ∧ ∃ v i, q = (nI i, nI v) ∧ gOnB T n a b d u v i ∧ ∀ v' i', gOnB T n a b d u v' i' → v < v' ∨ v = v' ∧ i ≤ i')) := by
  have h1 := hI.1
  have hFu := hF u
  have hRu := hR u
  unfold fX7_choose
  rw [gd_in hu, nI_cl (by omega), (hr u hu).1, zl1000000, ite_ltN (by omega) (by omega)]
  by_cases hfar : d u / 10000 < 1000000
  · have hfar2 : d u < 10000000000 := by omega
    rw [if_pos hfar]
    refine wh_ex (fun s : Int32 => sX7_choose_17 (nI n) (nI u) (nI a) (nI b) (zI T) sums steps ch s) (aNN T) (fun k s => s = nI k ∧ ∀ v i, v < k → ¬ gOnB T n a b d u v i) (fun r => ∃ q, r = some q ∧ ((q = (-9, ch) ∧ (d u = 10000000000 ∨ ∀ v i, ¬ gOnB T n a b d u v i)) ∨ (d u < 10000000000 ∧ ∃ v i, q = (nI i, nI v) ∧ gOnB T n a b d u v i ∧ ∀ v' i', gOnB T n a b d u v' i' → v < v' ∨ v = v' ∧ i ≤ i'))) ?_ ?_ 0 (0 : Int32) (by omega) ⟨zl0, fun v i hv => by omega⟩
    · rintro k s hk ⟨rfl, hno⟩
      dsimp only [sX7_choose_17]
      rw [zl0, gd_in (by omega), nI_cl (by omega), zI_h (by omega)]
      show (∃ s', (if nI (aNN T) ≤ nI k then _ else _) = _ ∧ _) ∨ (∃ r, (if nI (aNN T) ≤ nI k then _ else _) = _ ∧ _)
      rw [ite_leN (by omega) (by omega), if_neg (by omega)]
      have hFk := hF k
      have hRk := hR k
      -- the items
      have inner : (lX7_choose_32 (nI n) (nI u) (nI a) (nI b) (nI k) (zI T) sums steps (16 : Int32) = some (.inl (nI (k + 1))) ∧ ∀ i, ¬ gOnB T n a b d u k i) ∨ (∃ i, lX7_choose_32 (nI n) (nI u) (nI a) (nI b) (nI k) (zI T) sums steps (16 : Int32) = some (.inr (nI i, nI k)) ∧ gOnB T n a b d u k i ∧ ∀ i', gOnB T n a b d u k i' → i ≤ i') := by
        refine wh_ex (fun s : Int32 => sX7_choose_32 (nI n) (nI u) (nI a) (nI b) (nI k) (zI T) sums steps s) 19 (fun m s => s = nI (16 + m) ∧ ∀ i, i < 16 + m → ¬ gOnB T n a b d u k i) (fun r => (r = some (.inl (nI (k + 1))) ∧ ∀ i, ¬ gOnB T n a b d u k i) ∨ (∃ i, r = some (.inr (nI i, nI k)) ∧ gOnB T n a b d u k i ∧ ∀ i', gOnB T n a b d u k i' → i ≤ i')) ?_ ?_ 0 (16 : Int32) (by omega) ⟨zl16, fun i hi ⟨c, hA, _⟩ => by have := (aVw_ex hA).2; omega⟩
        · rintro m s hm ⟨rfl, hno2⟩
          have e146 : uX7_choose_146 (nI (16 + m)) = some (.inl (nI (16 + m + 1))) := by unfold uX7_choose_146; rw [nm_eq, zl1, nI_add]
          have e74 : uX7_choose_74 (nI n) (nI u) (nI k) (nI (16 + m)) (zI T) sums steps = some (.inl (nI (16 + m + 1))) := by
            unfold uX7_choose_74 uX7_choose_75
            rw [if_pos rfl, e146]
          have go : ¬ gOnB T n a b d u k (16 + m) → ∃ s', (some (.inl (nI (16 + m + 1))) : Option (Int32 ⊕ (Int32 ⊕ (Int32 × Int32)))) = some (.inl s') ∧ (s' = nI (16 + (m + 1)) ∧ ∀ i, i < 16 + (m + 1) → ¬ gOnB T n a b d u k i) := by
            intro hx
            refine ⟨_, rfl, rfl, fun i hi => ?_⟩
            by_cases ei : i = 16 + m
            · rw [ei]; exact hx
            · exact hno2 i (by omega)
          dsimp only [sX7_choose_32]
          rw [zl35, ite_leN (by omega) (by omega), if_neg (by omega), ite_eqN (by omega) (by omega), e74]
          by_cases hku : k = u
          · left
            rw [if_pos hku]
            refine go (fun ⟨c, hA, _⟩ => ?_)
            have := (aVw_ok hI hn u k c ⟨_, hA⟩).2.2.1
            omega
          · rw [if_neg hku, e_isItem hI (by omega)]
            simp only [Option.bind_some]
            rw [ite_bI]
            by_cases hx : aEx T (16 + m)
            · rw [if_pos hx, e_leads hI hV hn ha hb (by omega) (by omega) hu (by omega)]
              simp only [Option.bind_some]
              rw [ite_bI]
              by_cases hld : ldP T n a b (16 + m) u k
              · have hA := (ld_iff hI hn ha hx (by omega)).mp hld
                have hd := hI.db hn (i := 16 + m) (by omega)
                rw [if_pos hld]
                unfold uX7_choose_75
                rw [if_neg (by decide), gd_in (by omega), nI_cl (by omega), (hr k (by omega)).1, (hr k (by omega)).2, zl1000000, ite_leN (by omega) (by omega)]
                by_cases hkf : 1000000 ≤ d k / 10000
                · left
                  rw [if_pos hkf, e146]
                  refine go (fun ⟨c, _, hc⟩ => by omega)
                · rw [if_neg hkf, gd_in (by omega), zl2, e_fact hn (by omega) (by omega)]
                  simp only [Option.bind_some]
                  rw [gd_in hu, nI_cl (by omega), (hr u hu).1, (hr u hu).2, nI_add, ite_eqN (by omega) (by omega)]
                  by_cases c1 : d k / 10000 + T.2 n (16 + m) 2 = d u / 10000
                  · rw [if_pos c1, gd_in (by omega), gd_in hu, zl1, nI_add, ite_eqN (by omega) (by omega)]
                    by_cases c2 : d k % 10000 + 1 = d u % 10000
                    · right
                      rw [if_pos c2]
                      refine ⟨oi (uX7_choose_137 (nI k) (nI (16 + m))), rfl, Or.inr ⟨16 + m, rfl, ⟨_, hA, by omega⟩, fun i' hi' => ?_⟩⟩
                      by_cases hlt : i' < 16 + m
                      · exact absurd hi' (hno2 i' hlt)
                      · omega
                    · left
                      rw [if_neg c2, e146]
                      refine go (fun ⟨c, hA2, hc⟩ => ?_)
                      have := aVw_co hA2
                      omega
                  · left
                    rw [if_neg c1, e146]
                    refine go (fun ⟨c, hA2, hc⟩ => ?_)
                    have := aVw_co hA2
                    omega
              · left
                rw [if_neg hld]
                refine go (fun ⟨c, hA2, hc⟩ => hld ?_)
                rw [aVw_co hA2] at hA2
                exact (ld_iff hI hn ha hx (by omega)).mpr hA2
            · left
              rw [if_neg hx]
              exact go (fun ⟨c, hA2, hc⟩ => hx (aVw_ex hA2).1)
        · rintro s ⟨rfl, hno2⟩
          refine ⟨uX7_choose_152 (nI k), ?_, Or.inl ⟨?_, fun i hi => ?_⟩⟩
          · dsimp only [sX7_choose_32]
            rw [zl35, ite_leN (by omega) (by omega), if_pos (by omega)]
          · unfold uX7_choose_152
            rw [nm_eq, zl1, nI_add]
          · obtain ⟨c, hA, _⟩ := id hi
            have := ((aVw_ex hA).1.lt hI).1
            exact hno2 i (by omega) hi
      rcases inner with ⟨i1, i2⟩ | ⟨i, i1, i2, i3⟩
      · left
        rw [i1]
        refine ⟨_, rfl, rfl, fun v i hv => ?_⟩
        by_cases ev : v = k
        · rw [ev]; exact i2 i
        · exact hno v i (by omega)
      · right
        rw [i1]
        refine ⟨some (nI i, nI k), rfl, _, rfl, Or.inr ⟨hfar2, k, i, rfl, i2, fun v' i' h' => ?_⟩⟩
        by_cases hlt : v' < k
        · exact absurd h' (hno v' i' hlt)
        · by_cases ev : v' = k
          · subst ev
            exact Or.inr ⟨rfl, i3 i' h'⟩
          · left; omega
    · rintro s ⟨rfl, hno⟩
      refine ⟨some (-9, ch), ?_, _, rfl, Or.inl ⟨rfl, Or.inr (fun v i h => ?_)⟩⟩
      · dsimp only [sX7_choose_17]
        rw [zl0, gd_in (by omega), nI_cl (by omega), zI_h (by omega)]
        show (if nI (aNN T) ≤ nI (aNN T) then _ else _) = _
        rw [ite_leN (by omega) (by omega), if_pos (by omega)]
      · obtain ⟨c, hA, _⟩ := id h
        exact hno v i (aVw_ok hI hn u v c ⟨i, hA⟩).2.1 h
  · rw [if_neg hfar]
    exact ⟨_, rfl, Or.inl ⟨rfl, Or.inl (by omega)⟩⟩
end P39g
