/-! Flooding ends. -/
def aUp (B : Nat) (S T : zA) : Prop := ∀ n i, n < 10 → i < B → S.2 n i 0 ≤ T.2 n i 0 ∧ (T.2 n i 3 = 1 → S.2 n i 0 < T.2 n i 0)
def aNoG (T : zA) : Prop := ∀ n i, n < 10 → i < 16 → T.2 n i 3 = 0
def aRnd (S : zA) : Nat → zA
  | 0 => S
  | k + 1 => aRound (aRnd S k)
section P39
variable {T R S : zA} {V B : Nat} {D : Nat → Nat → Nat → Nat}
theorem aLn_off {n i v st c n' i' p : Nat} (h : ¬ (n' = n ∧ i' = i)) (hx : i' < 16 ∨ 16 ≤ i) : (aLn T n i v st c (aNL T)).2 n' i' p = T.2 n' i' p := by
  by_cases h1 : n' = n
  · subst h1
    have h2 : i' ≠ i := fun e => h ⟨rfl, e⟩
    rcases hx with hx | hx
    · exact aLn_out h2 (Or.inr hx)
    · rw [aLn_ge hx]
      unfold aLn
      dsimp only
      rw [if_pos rfl, if_neg h2, if_neg (by omega)]
  · exact aLn_oth h1
theorem aUp.learn (hU : aUp B S T) {n i v st c : Nat} (hB : B ≤ 16 ∨ 16 ≤ i) : aUp B S (aLearn T n i v st c) := by
  by_cases h : aMk T n i ∧ T.2 n i 0 < v
  · have e : aLearn T n i v st c = aLn T n i v st c (aNL T) := if_pos h
    rw [e]
    intro n' i' hn' hi'
    have hT := hU n' i' hn' hi'
    by_cases hx : n' = n ∧ i' = i
    · obtain ⟨rfl, rfl⟩ := hx
      have e0 : (aLn T n' i' v st c (aNL T)).2 n' i' 0 = v := by rw [aLn_self, if_pos rfl]
      rw [e0]
      omega
    · rw [aLn_off hx (by omega), aLn_off hx (by omega)]
      exact hT
  · have e : aLearn T n i v st c = T := if_neg h
    rw [e]; exact hU
theorem aNoG.learn (hU : aNoG T) {n i v st c : Nat} (hi : 16 ≤ i) : aNoG (aLearn T n i v st c) := by
  by_cases h : aMk T n i ∧ T.2 n i 0 < v
  · have e : aLearn T n i v st c = aLn T n i v st c (aNL T) := if_pos h
    rw [e]
    intro n' i' hn' hi'
    rw [aLn_off (by omega) (by omega)]
    exact hU n' i' hn' hi'
  · have e : aLearn T n i v st c = T := if_neg h
    rw [e]; exact hU
/-- what each learning of a round keeps, the round keeps -/
theorem rs_keep (P : zA → Prop) {n i m : Nat} (hP : ∀ T, P T → D m i 3 = 1 → P (aLearn T n i (D m i 0) (D m i 1) (D m i 2))) (h : P T) : P (aRs R D n i m T) := by
  unfold aRs
  by_cases hc : D m i 3 = 1 ∧ 0 < aLk R n m
  · rw [if_pos hc]; exact hP T h hc.1
  · rw [if_neg hc]; exact h
theorem rcF_keep (P : zA → Prop) {n i : Nat} (hP : ∀ m T, m < 10 → P T → D m i 3 = 1 → P (aLearn T n i (D m i 0) (D m i 1) (D m i 2))) (h : P T) : ∀ m, m ≤ 10 → P (aRcF R D n i m T)
  | 0, _ => h
  | m + 1, hm => rs_keep P (fun T hT hd => hP m T (by omega) hT hd) (rcF_keep P hP h m (by omega))
theorem rcI_keep (P : zA → Prop) {n : Nat} (hR : aNN R ≤ 10) (hP : ∀ m i T, m < 10 → i < 35 → P T → D m i 3 = 1 → P (aLearn T n i (D m i 0) (D m i 1) (D m i 2))) (h : P T) : ∀ i, i ≤ 35 → P (aRcI R D n i T)
  | 0, _ => h
  | i + 1, hi => rcF_keep P (fun m T hm hT hd => hP m i T hm (by omega) hT hd) (rcI_keep P hR hP h i (by omega)) (aNN R) hR
theorem rcN_keep (P : zA → Prop) (hR : aNN R ≤ 10) (hP : ∀ n m i T, m < 10 → i < 35 → P T → D m i 3 = 1 → P (aLearn T n i (D m i 0) (D m i 1) (D m i 2))) (h : P T) : ∀ n, P (aRcN R D n T)
  | 0 => h
  | n + 1 => rcI_keep P hR (fun m i T hm hi hT hd => hP n m i T hm hi hT hd) (rcN_keep P hR hP h n) 35 (by omega)
theorem round_keep (P : zA → Prop) (hI : aInv V S) (hP : ∀ n m i T, m < 10 → i < 35 → P T → S.2 m i 3 = 1 → P (aLearn T n i (S.2 m i 0) (S.2 m i 1) (S.2 m i 2))) (h : P (aClr S)) : P (aRound S) := by
  have h10 : aNN S ≤ 10 := hI.1.1
  have eN : aNN (aClr S) = aNN S := aClr_h (by omega)
  exact rcN_keep P (by omega) hP h (aNN S)
theorem aClr_3 (hI : aInv V S) {n i : Nat} (hn : n < 10) (hi : i < 35) : (aClr S).2 n i 3 = 0 := by
  have e : (aClr S).2 n i 3 = if n < aNN S ∧ i < 35 ∧ 3 = 3 then 0 else S.2 n i 3 := rfl
  rw [e]
  by_cases h3 : n < aNN S
  · rw [if_pos ⟨h3, hi, rfl⟩]
  · rw [if_neg (fun q => h3 q.1)]
    exact hI.2.2.2.2.2.2.2.1 n i 3 hn hi (by omega) (Or.inl (by omega))
theorem aClr_0 {n i : Nat} : (aClr S).2 n i 0 = S.2 n i 0 := if_neg (by omega)
theorem round_up (hI : aInv V S) (hB35 : B ≤ 35) (hB : B ≤ 16 ∨ aNoG S) : aUp B S (aRound S) := by
  refine round_keep (aUp B S) hI (fun n m i T hm hi hT hd => hT.learn ?_) ?_
  · rcases hB with hB | hB
    · exact Or.inl hB
    · by_cases h : i < 16
      · have := hB m i hm h; omega
      · right; omega
  · intro n i hn hi
    rw [aClr_0, aClr_3 hI hn (by omega)]
    omega
theorem round_noG (hI : aInv V S) (hB : aNoG S) : aNoG (aRound S) := by
  refine round_keep aNoG hI (fun n m i T hm hi hT hd => hT.learn ?_) ?_
  · by_cases h : i < 16
    · have := hB m i hm h; omega
    · omega
  · intro n i hn hi
    exact aClr_3 hI hn (by omega)
/-- the sums of the versions -/
def aVs (f b : Nat) (T : zA) : Nat := sm (fun n => sm (fun i => T.2 n (f + i) 0) b) 10
theorem aVs_le (hI : aInv V T) {f b : Nat} (h : f + b ≤ 35) : aVs f b T ≤ 10 * (b * V) := by
  unfold aVs
  refine sm_le 10 (fun n hn => ?_)
  exact sm_le b (fun i hi => (hI.db hn (by omega)).1)
theorem aVs_lt {f b : Nat} (h : aUp (f + b) S T) {n i : Nat} (hn : n < 10) (hi : i < b) (h3 : T.2 n (f + i) 3 = 1) : aVs f b S < aVs f b T := by
  unfold aVs
  refine sm_lt (j := n) 10 hn (fun n' hn' => sm_mono b (fun i' hi' => (h n' (f + i') hn' (by omega)).1)) ?_
  exact sm_lt (j := i) b hi (fun i' hi' => (h n (f + i') hn (by omega)).1) ((h n (f + i) hn (by omega)).2 h3)
theorem aRnd_inv (hI : aInv V S) : ∀ k, aInv V (aRnd S k)
  | 0 => hI
  | k + 1 => (aRound_inv (aRnd_inv hI k)).1
theorem aRnd_add {j : Nat} : ∀ k, aRnd S (j + k) = aRnd (aRnd S j) k
  | 0 => rfl
  | k + 1 => by
    show aRound (aRnd S (j + k)) = aRound (aRnd (aRnd S j) k)
    rw [aRnd_add k]
theorem noG_not (hI : aInv V T) (h : ¬ aNoG T) : ∃ n i, n < 10 ∧ i < 16 ∧ T.2 n i 3 = 1 := by
  refine Classical.byContradiction (fun hc => h (fun n i hn hi => ?_))
  have h1 := (hI.db hn (i := i) (by omega)).2.2.2.1
  by_cases h2 : T.2 n i 3 = 1
  · exact absurd ⟨n, i, hn, hi, h2⟩ hc
  · omega
theorem quiet_not (hI : aInv V T) (hG : aNoG T) (h : ¬ aQuiet T) : ∃ n i, n < 10 ∧ i < 19 ∧ T.2 n (16 + i) 3 = 1 := by
  have h10 : aNN T ≤ 10 := hI.1.1
  refine Classical.byContradiction (fun hc => h (fun n hn => ?_))
  rw [aNw_0]
  intro i hi
  have h1 := (hI.db (n := n) (i := i) (by omega) (by omega)).2.2.2.1
  by_cases h16 : i < 16
  · exact hG n i (by omega) h16
  · by_cases h2 : T.2 n i 3 = 1
    · exact absurd ⟨n, i - 16, by omega, by omega, by rw [show 16 + (i - 16) = i by omega]; exact h2⟩ hc
    · omega
theorem ends1 (hI : aInv V S) : ∃ k, k ≤ 160 * V + 1 ∧ aNoG (aRnd S k) := by
  refine Classical.byContradiction (fun hc => ?_)
  have hn : ∀ k, k ≤ 160 * V + 1 → ¬ aNoG (aRnd S k) := fun k hk h => hc ⟨k, hk, h⟩
  have grow : ∀ k, k ≤ 160 * V + 1 → k ≤ aVs 0 16 (aRnd S k) := by
    intro k
    induction k with
    | zero => intro _; omega
    | succ k ih =>
      intro hk
      have i1 := ih (by omega)
      have iI := aRnd_inv hI k
      obtain ⟨n, i, a, b, c⟩ := noG_not (aRnd_inv hI (k + 1)) (hn (k + 1) hk)
      have := aVs_lt (f := 0) (b := 16) (S := aRnd S k) (T := aRnd S (k + 1)) (round_up iI (by omega) (Or.inl (by omega))) a b (by rw [Nat.zero_add]; exact c)
      omega
  have h1 := grow (160 * V + 1) (by omega)
  have h2 := aVs_le (aRnd_inv hI (160 * V + 1)) (f := 0) (b := 16) (by omega)
  omega
theorem rnd_noG (hI : aInv V S) (hG : aNoG S) : ∀ k, aNoG (aRnd S k)
  | 0 => hG
  | k + 1 => round_noG (aRnd_inv hI k) (rnd_noG hI hG k)
theorem ends2 (hI : aInv V S) (hG : aNoG S) : ∃ k, k ≤ 190 * V + 1 ∧ aQuiet (aRnd S k) := by
  refine Classical.byContradiction (fun hc => ?_)
  have hn : ∀ k, k ≤ 190 * V + 1 → ¬ aQuiet (aRnd S k) := fun k hk h => hc ⟨k, hk, h⟩
  have grow : ∀ k, k ≤ 190 * V + 1 → k ≤ aVs 16 19 (aRnd S k) := by
    intro k
    induction k with
    | zero => intro _; omega
    | succ k ih =>
      intro hk
      have i1 := ih (by omega)
      have iI := aRnd_inv hI k
      obtain ⟨n, i, a, b, c⟩ := quiet_not (aRnd_inv hI (k + 1)) (rnd_noG hI hG (k + 1)) (hn (k + 1) hk)
      have := aVs_lt (f := 16) (b := 19) (S := aRnd S k) (T := aRnd S (k + 1)) (round_up iI (by omega) (Or.inr (rnd_noG hI hG k))) a b c
      omega
  have h1 := grow (190 * V + 1) (by omega)
  have h2 := aVs_le (aRnd_inv hI (190 * V + 1)) (f := 16) (b := 19) (by omega)
  omega
/-- the number of rounds to quiet -/
theorem ends (hI : aInv V S) : ∃ K, K ≤ 350 * V + 2 ∧ aQuiet (aRnd S K) ∧ ∀ j, j < K → ¬ aQuiet (aRnd S j) := by
  obtain ⟨k1, a1, b1⟩ := ends1 hI
  obtain ⟨k2, a2, b2⟩ := ends2 (aRnd_inv hI k1) b1
  rw [← aRnd_add] at b2
  obtain ⟨K, c1, c2⟩ := pk_least (fun k => aQuiet (aRnd S k)) ⟨k1 + k2, b2⟩
  refine ⟨K, ?_, c1, c2⟩
  by_cases h : K ≤ k1 + k2
  · omega
  · exact absurd b2 (c2 (k1 + k2) (by omega))
theorem quiet_round (hI : aInv V S) (hq : aQuiet S) : aRound S = S := by
  have h10 : aNN S ≤ 10 := hI.1.1
  have hz : ∀ n i, n < 10 → i < 35 → S.2 n i 3 = 0 := by
    intro n i hn hi
    by_cases h : n < aNN S
    · exact aNw_0.mp (hq n h) i hi
    · exact hI.2.2.2.2.2.2.2.1 n i 3 hn hi (by omega) (Or.inl (by omega))
  have eC : aClr S = S := by
    refine zA_ext ?_ (fun n i p => ?_)
    · funext j
      show un S.1 3 (aMS S + aMs S (aNL S)) j = S.1 j
      have e0 : aMs S (aNL S) = 0 := by
        unfold aMs
        rw [sm_0]
        intro k hk
        have := hI.2.2.1 k hk
        split
        · rfl
        · rw [hq _ this.1, hq _ this.2.1]
      rw [e0]
      unfold un
      by_cases h : j = 3
      · rw [if_pos h, h]
        rfl
      · rw [if_neg h]
    · show (if n < aNN S ∧ i < 35 ∧ p = 3 then 0 else S.2 n i p) = S.2 n i p
      by_cases h : n < aNN S ∧ i < 35 ∧ p = 3
      · rw [if_pos h, h.2.2, hz n i (by omega) h.2.1]
      · rw [if_neg h]
  have : aRound S = aClr S := round_keep (fun T => T = aClr S) hI (fun n m i T hm hi hT hd => by
    have := hz m i hm hi
    omega) rfl
  rw [this, eC]
theorem quiet_rnd (hI : aInv V S) (hq : aQuiet S) : ∀ k, aRnd S k = S
  | 0 => rfl
  | k + 1 => by
    show aRound (aRnd S k) = S
    rw [quiet_rnd hI hq k, quiet_round hI hq]
end P39
