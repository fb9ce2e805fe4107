/-! Invariants: what learning keeps. -/
/-- an item that exists -/
abbrev aEx (T : zA) (i : Nat) : Prop := (i < 16 ∧ ¬ i / 4 = i % 4) ∨ (16 ≤ i ∧ i < 16 + aNL T) ∨ (32 ≤ i ∧ i < 32 + aNT T)
section P26
variable {T : zA} {V : Nat}
theorem aEx.lt (hI : aInv V T) {i : Nat} (h : aEx T i) : i < 35 ∧ (i < 16 ∨ i < 16 + aNL T ∨ 32 ≤ i) := by
  have h1 : aNL T ≤ 16 := hI.1.2.1
  have h2 : aNT T ≤ 3 := hI.1.2.2
  omega
theorem aInv.learn (hI : aInv V T) {n i v st c : Nat} (hn : n < aNN T) (hx : aEx T i) (hv1 : 1 ≤ v) (hv : v ≤ V) (hst : st ≤ 1) (hc : c ≤ 40) : aInv V (aLearn T n i v st c) := by
  unfold aLearn
  by_cases h : aMk T n i ∧ T.2 n i 0 < v
  · rw [if_pos h]
    obtain ⟨i1, i2, i3, i4, i5, i6, i7, i8, i9⟩ := hI
    refine ⟨i1, i2, i3, i4, i5, i6, i7, ?_, ?_⟩
    · intro n' i' p' hn' hi' hp' hz
      have hT := i8 n' i' p' hn' hi' hp' hz
      replace hz : aNN T ≤ n' ∨ (16 + aNL T ≤ i' ∧ i' < 32) ∨ 32 + aNT T ≤ i' ∨ i' / 4 = i' % 4 ∧ i' < 16 := hz
      unfold aLn
      dsimp only
      by_cases h1 : n' = n
      · subst h1
        have h2 : i' ≠ i := by
          rintro rfl
          omega
        rw [if_pos rfl, if_neg h2]
        by_cases h3 : i < 16 ∧ 16 ≤ i' ∧ i' < 16 + aNL T ∧ aCd T n' i i'
        · omega
        · rw [if_neg h3]; exact hT
      · rw [if_neg h1]; exact hT
    · intro n' i' hn' hi'
      have hT := i9 n' i' hn' hi'
      by_cases h1 : n' = n
      · subst h1
        by_cases h2 : i' = i
        · subst h2
          have e : ∀ p, (aLn T n' i' v st c (aNL T)).2 n' i' p = if p = 0 then v else if p = 1 then st else if p = 2 then c else if p = 3 then 1 else T.2 n' i' p := fun p => aLn_self
          rw [e 0, e 1, e 2, e 3]
          refine ⟨hv, hst, hc, Nat.le_refl 1, fun z => ?_⟩
          have z2 : v = 0 := z
          omega
        · by_cases h3 : i < 16 ∧ 16 ≤ i' ∧ i' < 16 + aNL T ∧ aCd T n' i i'
          · by_cases h4 : st = 1
            · have e : ∀ p, (aLn T n' i v st c (aNL T)).2 n' i' p = if p = 3 then 1 else T.2 n' i' p := fun p => by
                unfold aLn
                dsimp only
                rw [if_pos rfl, if_neg h2, if_pos h3, if_pos h4]
              rw [e 0, e 1, e 2, e 3]
              have h5 : 0 < T.2 n' i' 0 := h3.2.2.2.2.2
              refine ⟨hT.1, hT.2.1, hT.2.2.1, Nat.le_refl 1, fun z => ?_⟩
              have z2 : T.2 n' i' 0 = 0 := z
              omega
            · by_cases h6 : i % 4 = aAr T n' ∧ ¬ aEnd T n' (i' - 16)
              · have e : ∀ p, p < 4 → (aLn T n' i v st c (aNL T)).2 n' i' p = 0 := fun p hp => by
                  unfold aLn
                  dsimp only
                  rw [if_pos rfl, if_neg h2, if_pos h3, if_neg h4, if_pos ⟨h6.1, h6.2, hp⟩]
                rw [e 0 (by omega), e 1 (by omega), e 2 (by omega), e 3 (by omega)]
                exact ⟨Nat.zero_le _, Nat.zero_le _, Nat.zero_le _, Nat.zero_le _, fun _ => ⟨rfl, rfl, rfl⟩⟩
              · have e : ∀ p, (aLn T n' i v st c (aNL T)).2 n' i' p = T.2 n' i' p := fun p => by
                  unfold aLn
                  dsimp only
                  rw [if_pos rfl, if_neg h2, if_pos h3, if_neg h4, if_neg (fun q => h6 ⟨q.1, q.2.1⟩)]
                rw [e 0, e 1, e 2, e 3]
                exact hT
          · have e : ∀ p, (aLn T n' i v st c (aNL T)).2 n' i' p = T.2 n' i' p := fun p => by
              unfold aLn
              dsimp only
              rw [if_pos rfl, if_neg h2, if_neg h3]
            rw [e 0, e 1, e 2, e 3]
            exact hT
      · have e : ∀ p, (aLn T n i v st c (aNL T)).2 n' i' p = T.2 n' i' p := fun p => aLn_oth h1
        rw [e 0, e 1, e 2, e 3]
        exact hT
  · rw [if_neg h]; exact hI
theorem aLearn_1 {n i v st c : Nat} : (aLearn T n i v st c).1 = T.1 := by
  unfold aLearn
  by_cases h : aMk T n i ∧ T.2 n i 0 < v
  · rw [if_pos h]; rfl
  · rw [if_neg h]
end P26
