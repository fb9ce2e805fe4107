/-! Learning, in the reference. -/
/-- a grant's effect on the private link at item j, for a node n -/
abbrev aCd (T : zA) (n i j : Nat) : Prop := aL T (j - 16) 4 = 1 ∧ aOw T (j - 16) = i / 4 ∧ 0 < T.2 n j 0
def aLn (T : zA) (n i v st c B : Nat) : zA := (T.1, fun n' i' p' =>
  if n' = n then
    if i' = i then (if p' = 0 then v else if p' = 1 then st else if p' = 2 then c else if p' = 3 then 1 else T.2 n i p')
    else if i < 16 ∧ 16 ≤ i' ∧ i' < 16 + B ∧ aCd T n i i' then
      (if st = 1 then (if p' = 3 then 1 else T.2 n i' p') else if i % 4 = aAr T n ∧ ¬ aEnd T n (i' - 16) ∧ p' < 4 then 0 else T.2 n i' p')
    else T.2 n i' p'
  else T.2 n' i' p')
def aLearn (T : zA) (n i v st c : Nat) : zA := if aMk T n i ∧ T.2 n i 0 < v then aLn T n i v st c (aNL T) else T
section P22
variable {T : zA} {V : Nat}
theorem zA_ext {A B : zA} (h1 : A.1 = B.1) (h2 : ∀ n i p, A.2 n i p = B.2 n i p) : A = B := Prod.ext h1 (funext fun n => funext fun i => funext fun p => h2 n i p)
theorem aLn_same {n i v st c k : Nat} (h : ¬ aCd T n i (16 + k)) : aLn T n i v st c (k + 1) = aLn T n i v st c k := by
  refine zA_ext rfl (fun n' i' p' => ?_)
  show (aLn T n i v st c (k + 1)).2 n' i' p' = (aLn T n i v st c k).2 n' i' p'
  unfold aLn
  dsimp only
  by_cases h1 : n' = n
  · rw [if_pos h1, if_pos h1]
    by_cases h2 : i' = i
    · rw [if_pos h2, if_pos h2]
    · rw [if_neg h2, if_neg h2]
      by_cases h3 : i' = 16 + k
      · subst h3
        rw [if_neg (fun q => h q.2.2.2), if_neg (fun q => h q.2.2.2)]
      · have e : (i < 16 ∧ 16 ≤ i' ∧ i' < 16 + (k + 1) ∧ aCd T n i i') ↔ (i < 16 ∧ 16 ≤ i' ∧ i' < 16 + k ∧ aCd T n i i') := by
          constructor
          · rintro ⟨a, b, c, d⟩; exact ⟨a, b, by omega, d⟩
          · rintro ⟨a, b, c, d⟩; exact ⟨a, b, by omega, d⟩
        simp only [e]
  · rw [if_neg h1, if_neg h1]
theorem aLn_at {n i v st c k p : Nat} (hi : i < 16) : (aLn T n i v st c k).2 n (16 + k) p = T.2 n (16 + k) p := by
  unfold aLn
  dsimp only
  rw [if_pos rfl, if_neg (by omega), if_neg (by omega)]
theorem aLn_news {n i v st c k : Nat} (hi : i < 16) (h : aCd T n i (16 + k)) (hs : st = 1) : (T.1, ud (aLn T n i v st c k).2 n (16 + k) 3 1) = aLn T n i v st c (k + 1) := by
  refine zA_ext rfl (fun n' i' p' => ?_)
  show ud (aLn T n i v st c k).2 n (16 + k) 3 1 n' i' p' = (aLn T n i v st c (k + 1)).2 n' i' p'
  unfold ud
  by_cases h1 : n' = n
  · subst h1
    by_cases h3 : i' = 16 + k
    · subst h3
      by_cases h4 : p' = 3
      · rw [if_pos ⟨rfl, rfl, h4⟩]
        unfold aLn
        dsimp only
        rw [if_pos rfl, if_neg (by omega), if_pos ⟨hi, by omega, by omega, h⟩, if_pos hs, if_pos h4]
      · rw [if_neg (fun q => h4 q.2.2), aLn_at hi]
        unfold aLn
        dsimp only
        rw [if_pos rfl, if_neg (by omega), if_pos ⟨hi, by omega, by omega, h⟩, if_pos hs, if_neg h4]
    · rw [if_neg (fun q => h3 q.2.1)]
      unfold aLn
      dsimp only
      rw [if_pos rfl, if_pos rfl]
      have e : (i < 16 ∧ 16 ≤ i' ∧ i' < 16 + (k + 1) ∧ aCd T n' i i') ↔ (i < 16 ∧ 16 ≤ i' ∧ i' < 16 + k ∧ aCd T n' i i') := by
        constructor
        · rintro ⟨a, b, c, d⟩; exact ⟨a, b, by omega, d⟩
        · rintro ⟨a, b, c, d⟩; exact ⟨a, b, by omega, d⟩
      simp only [e]
  · rw [if_neg (fun q => h1 q.1)]
    unfold aLn
    dsimp only
    rw [if_neg h1, if_neg h1]
theorem aLn_zero {n i v st c k : Nat} (hi : i < 16) (h : aCd T n i (16 + k)) (hs : ¬ st = 1) (ha : i % 4 = aAr T n) (he : ¬ aEnd T n k) : (T.1, ud (ud (ud (ud (aLn T n i v st c k).2 n (16 + k) 0 0) n (16 + k) 1 0) n (16 + k) 2 0) n (16 + k) 3 0) = aLn T n i v st c (k + 1) := by
  have ek : 16 + k - 16 = k := by omega
  refine zA_ext rfl (fun n' i' p' => ?_)
  show ud (ud (ud (ud (aLn T n i v st c k).2 n (16 + k) 0 0) n (16 + k) 1 0) n (16 + k) 2 0) n (16 + k) 3 0 n' i' p' = (aLn T n i v st c (k + 1)).2 n' i' p'
  unfold ud
  by_cases h1 : n' = n
  · subst h1
    by_cases h3 : i' = 16 + k
    · subst h3
      by_cases h4 : p' < 4
      · have : (if n' = n' ∧ 16 + k = 16 + k ∧ p' = 3 then 0 else if n' = n' ∧ 16 + k = 16 + k ∧ p' = 2 then 0 else if n' = n' ∧ 16 + k = 16 + k ∧ p' = 1 then 0 else if n' = n' ∧ 16 + k = 16 + k ∧ p' = 0 then 0 else (aLn T n' i v st c k).2 n' (16 + k) p') = 0 := by
          rcases (show p' = 0 ∨ p' = 1 ∨ p' = 2 ∨ p' = 3 by omega) with rfl | rfl | rfl | rfl <;> simp
        rw [this]
        unfold aLn
        dsimp only
        rw [if_pos rfl, if_neg (by omega), if_pos ⟨hi, by omega, by omega, h⟩, if_neg hs, if_pos ⟨ha, by rw [ek]; exact he, h4⟩]
      · rw [if_neg (by omega), if_neg (by omega), if_neg (by omega), if_neg (by omega), aLn_at hi]
        unfold aLn
        dsimp only
        rw [if_pos rfl, if_neg (by omega), if_pos ⟨hi, by omega, by omega, h⟩, if_neg hs, if_neg (fun q => h4 q.2.2)]
    · rw [if_neg (fun q => h3 q.2.1), if_neg (fun q => h3 q.2.1), if_neg (fun q => h3 q.2.1), if_neg (fun q => h3 q.2.1)]
      unfold aLn
      dsimp only
      rw [if_pos rfl, if_pos rfl]
      have e : (i < 16 ∧ 16 ≤ i' ∧ i' < 16 + (k + 1) ∧ aCd T n' i i') ↔ (i < 16 ∧ 16 ≤ i' ∧ i' < 16 + k ∧ aCd T n' i i') := by
        constructor
        · rintro ⟨a, b, c, d⟩; exact ⟨a, b, by omega, d⟩
        · rintro ⟨a, b, c, d⟩; exact ⟨a, b, by omega, d⟩
      simp only [e]
  · rw [if_neg (fun q => h1 q.1), if_neg (fun q => h1 q.1), if_neg (fun q => h1 q.1), if_neg (fun q => h1 q.1)]
    unfold aLn
    dsimp only
    rw [if_neg h1, if_neg h1]
theorem aLn_keep {n i v st c k : Nat} (hi : i < 16) (hs : ¬ st = 1) (hx : ¬ (i % 4 = aAr T n ∧ ¬ aEnd T n k)) : aLn T n i v st c k = aLn T n i v st c (k + 1) := by
  have ek : 16 + k - 16 = k := by omega
  refine zA_ext rfl (fun n' i' p' => ?_)
  show (aLn T n i v st c k).2 n' i' p' = (aLn T n i v st c (k + 1)).2 n' i' p'
  unfold aLn
  dsimp only
  by_cases h1 : n' = n
  · rw [if_pos h1, if_pos h1]
    by_cases h2 : i' = i
    · rw [if_pos h2, if_pos h2]
    · rw [if_neg h2, if_neg h2]
      by_cases h3 : i' = 16 + k
      · subst h3
        rw [if_neg (by omega)]
        by_cases h4 : i < 16 ∧ 16 ≤ 16 + k ∧ 16 + k < 16 + (k + 1) ∧ aCd T n i (16 + k)
        · rw [if_pos h4, if_neg hs, if_neg (fun q => hx ⟨q.1, by rw [ek] at q; exact q.2.1⟩)]
        · rw [if_neg h4]
      · have e : (i < 16 ∧ 16 ≤ i' ∧ i' < 16 + (k + 1) ∧ aCd T n i i') ↔ (i < 16 ∧ 16 ≤ i' ∧ i' < 16 + k ∧ aCd T n i i') := by
          constructor
          · rintro ⟨a, b, c, d⟩; exact ⟨a, b, by omega, d⟩
          · rintro ⟨a, b, c, d⟩; exact ⟨a, b, by omega, d⟩
        simp only [e]
  · rw [if_neg h1, if_neg h1]
theorem aLn_0 {n i v st c : Nat} : (T.1, ud (ud (ud (ud T.2 n i 0 v) n i 1 st) n i 2 c) n i 3 1) = aLn T n i v st c 0 := by
  refine zA_ext rfl (fun n' i' p' => ?_)
  show ud (ud (ud (ud T.2 n i 0 v) n i 1 st) n i 2 c) n i 3 1 n' i' p' = (aLn T n i v st c 0).2 n' i' p'
  unfold ud aLn
  dsimp only
  by_cases h1 : n' = n
  · subst h1
    rw [if_pos rfl]
    by_cases h2 : i' = i
    · subst h2
      rw [if_pos rfl]
      by_cases p0 : p' = 0
      · subst p0; simp
      · by_cases p1 : p' = 1
        · subst p1; simp
        · by_cases p2 : p' = 2
          · subst p2; simp
          · by_cases p3 : p' = 3
            · subst p3; simp
            · simp [p0, p1, p2, p3]
    · rw [if_neg (fun q => h2 q.2.1), if_neg (fun q => h2 q.2.1), if_neg (fun q => h2 q.2.1), if_neg (fun q => h2 q.2.1), if_neg h2, if_neg (by omega)]
  · rw [if_neg h1, if_neg (fun q => h1 q.1), if_neg (fun q => h1 q.1), if_neg (fun q => h1 q.1), if_neg (fun q => h1 q.1)]
theorem aLn_ge {n i v st c B : Nat} (hi : 16 ≤ i) : aLn T n i v st c B = aLn T n i v st c 0 := by
  refine zA_ext rfl (fun n' i' p' => ?_)
  show (aLn T n i v st c B).2 n' i' p' = (aLn T n i v st c 0).2 n' i' p'
  unfold aLn
  dsimp only
  by_cases h1 : n' = n
  · rw [if_pos h1, if_pos h1]
    by_cases h2 : i' = i
    · rw [if_pos h2, if_pos h2]
    · rw [if_neg h2, if_neg h2, if_neg (by omega), if_neg (by omega)]
  · rw [if_neg h1, if_neg h1]
end P22
