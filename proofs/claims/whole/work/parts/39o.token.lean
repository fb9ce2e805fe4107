/-! The text: tokens. -/
/-- the first place from p on where Q fails -/
def fs (Q : Nat → Prop) [DecidablePred Q] : Nat → Nat → Nat
  | 0, p => p
  | f + 1, p => if Q p then fs Q f (p + 1) else p
theorem fs_spec {Q : Nat → Prop} [DecidablePred Q] {L : Nat} (hQ : ∀ j, Q j → j < L) : ∀ f p, L - p ≤ f → p ≤ fs Q f p ∧ (p ≤ L → fs Q f p ≤ L) ∧ (∀ j, p ≤ j → j < fs Q f p → Q j) ∧ ¬ Q (fs Q f p)
  | 0, p, h => by
    refine ⟨Nat.le_refl _, fun h => h, fun j h1 h2 => ?_, fun q => ?_⟩
    · have : j < p := h2
      omega
    · have := hQ _ q
      have : fs Q 0 p = p := rfl
      omega
  | f + 1, p, h => by
    unfold fs
    by_cases hq : Q p
    · rw [if_pos hq]
      have hp := hQ p hq
      obtain ⟨h1, h2, h3, h4⟩ := fs_spec hQ f (p + 1) (by omega)
      refine ⟨by omega, fun _ => h2 (by omega), fun j h5 h6 => ?_, h4⟩
      by_cases hj : j = p
      · subst hj; exact hq
      · exact h3 j (by omega) h6
    · rw [if_neg hq]
      exact ⟨Nat.le_refl _, fun h => h, fun j h1 h2 => by omega, hq⟩
section P39o
variable (tx : Nat → Nat) (L : Nat)
/-- the kind of the sign at a place: 0 end, 1 letter, 2 digit, 3 other -/
def kd (j : Nat) : Nat := if j < L then (if 97 ≤ tx j ∧ tx j ≤ 122 then 1 else if 48 ≤ tx j ∧ tx j ≤ 57 then 2 else 3) else 0
/-- where the token behind a place starts, its kind, where it ends -/
def ss (p : Nat) : Nat := fs (fun j => j < L ∧ tx j = 32) (L - p) p
def kk (p : Nat) : Nat := kd tx L (ss tx L p)
def rn (s : Nat) : Nat := fs (fun j => j < L ∧ kd tx L j = kd tx L s) (L - s) s
def ee (p : Nat) : Nat := if kk tx L p = 0 then ss tx L p else if kk tx L p = 3 then ss tx L p + 1 else rn tx L (ss tx L p)
def wv (s : Nat) : Nat → Nat
  | 0 => 0
  | k + 1 => 27 * wv s k + (tx (s + k) - 96)
def nv (s i : Nat) : Int32 := if i = 0 then nI 0 else if i = 1 then nI (tx s - 48) else nI (10 * (tx s - 48) + (tx (s + 1) - 48))
def nu (p : Nat) : Int32 := if kk tx L p = 2 then (if ee tx L p - ss tx L p = 1 ∨ (ee tx L p - ss tx L p = 2 ∧ ¬ tx (ss tx L p) = 48) then nv tx (ss tx L p) (ee tx L p - ss tx L p) else -1) else -1
def lt (s i : Nat) : Int64 := if i ≤ 8 then lN (wv tx s i) else lN 0
def le (p : Nat) : Int64 := if kk tx L p = 1 then lt tx (ss tx L p) (ee tx L p - ss tx L p) else lN 0
def rt (k : Nat) : Nat := if k = 0 then 3 else k - 1
/-- the text as it lies in a row -/
def rX (text : Nat → Int32) : Prop := L ≤ 120 ∧ ∀ j, j < L → 1 ≤ tx j ∧ tx j ≤ 255 ∧ text j = nI (tx j)
variable {tx : Nat → Nat} {L : Nat}
theorem kd_le {j : Nat} : kd tx L j ≤ 3 := by
  unfold kd
  split
  · split
    · omega
    · split <;> omega
  · omega
theorem kd_0 {j : Nat} : kd tx L j = 0 ↔ ¬ j < L := by
  unfold kd
  by_cases h : j < L
  · rw [if_pos h]
    constructor
    · intro q
      split at q
      · omega
      · split at q <;> omega
    · intro q; exact absurd h q
  · rw [if_neg h]; exact ⟨fun _ => h, fun _ => rfl⟩
theorem kd_1 {j : Nat} : kd tx L j = 1 ↔ j < L ∧ 97 ≤ tx j ∧ tx j ≤ 122 := by
  unfold kd
  by_cases h : j < L
  · rw [if_pos h]
    by_cases h1 : 97 ≤ tx j ∧ tx j ≤ 122
    · rw [if_pos h1]; exact ⟨fun _ => ⟨h, h1⟩, fun _ => rfl⟩
    · rw [if_neg h1]
      constructor
      · intro q; split at q <;> omega
      · intro q; exact absurd q.2 h1
  · rw [if_neg h]
    constructor
    · intro q; omega
    · intro q; exact absurd q.1 h
theorem kd_2 {j : Nat} : kd tx L j = 2 ↔ j < L ∧ 48 ≤ tx j ∧ tx j ≤ 57 := by
  unfold kd
  by_cases h : j < L
  · rw [if_pos h]
    by_cases h1 : 97 ≤ tx j ∧ tx j ≤ 122
    · rw [if_pos h1]
      constructor
      · intro q; omega
      · intro q; omega
    · rw [if_neg h1]
      by_cases h2 : 48 ≤ tx j ∧ tx j ≤ 57
      · rw [if_pos h2]; exact ⟨fun _ => ⟨h, h2⟩, fun _ => rfl⟩
      · rw [if_neg h2]
        constructor
        · intro q; omega
        · intro q; exact absurd q.2 h2
  · rw [if_neg h]
    constructor
    · intro q; omega
    · intro q; exact absurd q.1 h
theorem ss_spec (p : Nat) : p ≤ ss tx L p ∧ (p ≤ L → ss tx L p ≤ L) ∧ (∀ j, p ≤ j → j < ss tx L p → j < L ∧ tx j = 32) ∧ ¬ (ss tx L p < L ∧ tx (ss tx L p) = 32) := fs_spec (fun j h => h.1) (L - p) p (Nat.le_refl _)
theorem rn_spec (s : Nat) : s ≤ rn tx L s ∧ (s ≤ L → rn tx L s ≤ L) ∧ (∀ j, s ≤ j → j < rn tx L s → j < L ∧ kd tx L j = kd tx L s) ∧ ¬ (rn tx L s < L ∧ kd tx L (rn tx L s) = kd tx L s) := fs_spec (fun j h => h.1) (L - s) s (Nat.le_refl _)
theorem rn_lt {s : Nat} (h : s < L) : s < rn tx L s := by
  obtain ⟨h1, h2, h3, h4⟩ := rn_spec (tx := tx) (L := L) s
  by_cases he : rn tx L s = s
  · rw [he] at h4; exact absurd ⟨h, rfl⟩ h4
  · omega
theorem kk_lt {p : Nat} (h : ¬ kk tx L p = 0) : ss tx L p < L := by
  unfold kk at h
  rw [kd_0] at h
  omega
theorem ee_spec {p : Nat} (hp : p ≤ L) : ss tx L p ≤ ee tx L p ∧ ee tx L p ≤ L ∧ (¬ kk tx L p = 0 → ss tx L p < ee tx L p) := by
  obtain ⟨h1, h2, h3, h4⟩ := ss_spec (tx := tx) (L := L) p
  unfold ee
  by_cases h0 : kk tx L p = 0
  · rw [if_pos h0]
    exact ⟨Nat.le_refl _, h2 hp, fun q => absurd h0 q⟩
  · have hs := kk_lt h0
    rw [if_neg h0]
    by_cases h3 : kk tx L p = 3
    · rw [if_pos h3]; omega
    · rw [if_neg h3]
      have := rn_lt (tx := tx) hs
      have := (rn_spec (tx := tx) (L := L) (ss tx L p)).2.1 (by omega)
      omega
/-- kinds, in the class -/
theorem c_kindAt {text : Nat → Int32} (hX : rX tx L text) {j : Nat} (hj : j ≤ L) : fX5_kindAt (nI j) text (nI L) = some (nI (kd tx L j)) := by
  obtain ⟨hL, hX⟩ := hX
  have e47 : uX5_kindAt_47 = some (nI 3) := rfl
  unfold fX5_kindAt
  rw [ite_ltN (by omega) (by omega)]
  by_cases h : j < L
  · obtain ⟨x1, x2, x3⟩ := hX j h
    rw [if_pos h, gd_in (by omega), nm_eq, nI_cl (by omega), x3, zl97, zl122, ite_ltN (by omega) (by omega), ite_ltN (by omega) (by omega)]
    have e31 : uX5_kindAt_31 (nI (tx j)) = some (nI (if 48 ≤ tx j ∧ tx j ≤ 57 then 2 else 3)) := by
      unfold uX5_kindAt_31
      rw [zl48, zl57, ite_ltN (by omega) (by omega), ite_ltN (by omega) (by omega), e47]
      by_cases a : tx j < 48
      · rw [if_pos a, if_neg (fun q => by omega)]
      · rw [if_neg a]
        by_cases b : 57 < tx j
        · rw [if_pos b, if_neg (fun q => by omega)]
        · rw [if_neg b, if_pos ⟨by omega, by omega⟩]; rfl
    unfold kd
    rw [if_pos h, e31]
    by_cases a : tx j < 97
    · rw [if_pos a, if_neg (show ¬ (97 ≤ tx j ∧ tx j ≤ 122) by omega)]
    · rw [if_neg a]
      by_cases b : 122 < tx j
      · rw [if_pos b, if_neg (show ¬ (97 ≤ tx j ∧ tx j ≤ 122) by omega)]
      · rw [if_neg b, if_pos ⟨by omega, by omega⟩]; rfl
  · unfold kd
    rw [if_neg h, if_neg h]; rfl
theorem c_tt_94 {text : Nat → Int32} (hX : rX tx L text) {s : Nat} (hs : s < L) : lX5_takeToken_94 text (nI L) (nI s) (nI (kd tx L s)) (nI s) = some (nI s, nI (rn tx L s), nI (kd tx L s)) := by
  have hL := hX.1
  obtain ⟨h1, h2, h3, h4⟩ := rn_spec (tx := tx) (L := L) s
  have h2 := h2 (by omega)
  have hk := kd_le (tx := tx) (L := L) (j := s)
  refine wh_seq _ (rn tx L s - s) (fun i => nI (s + i)) _ (fun i hi => ?_) ?_
  · obtain ⟨g1, g2⟩ := h3 (s + i) (by omega) (by omega)
    unfold sX5_takeToken_94
    rw [ite_leN (by omega) (by omega), if_neg (by omega), c_kindAt hX (by omega), Option.bind_some, g2, if_pos rfl, nI_1]
    rfl
  · have e : s + (rn tx L s - s) = rn tx L s := by omega
    unfold sX5_takeToken_94
    rw [e, ite_leN (by omega) (by omega)]
    by_cases hl : L ≤ rn tx L s
    · rw [if_pos hl]
    · have hk2 := kd_le (tx := tx) (L := L) (j := rn tx L s)
      rw [if_neg hl, c_kindAt hX (by omega), Option.bind_some, ite_eqN (by omega) (by omega), if_neg (fun q => h4 ⟨by omega, q⟩)]
theorem c_takeToken {text : Nat → Int32} (hX : rX tx L text) {p : Nat} (hp : p ≤ L) : fX5_takeToken text (nI L) (nI p) = some (nI (ss tx L p), nI (ee tx L p), nI (kk tx L p)) := by
  have hL := hX.1
  obtain ⟨h1, h2, h3, h4⟩ := ss_spec (tx := tx) (L := L) p
  have h2 := h2 hp
  have hk := kd_le (tx := tx) (L := L) (j := ss tx L p)
  have e46 : uX5_takeToken_46 text (nI L) (nI (ss tx L p)) = some (nI (ss tx L p), nI (ee tx L p), nI (kk tx L p)) := by
    unfold uX5_takeToken_46
    rw [c_kindAt hX h2, Option.bind_some, zl3, ite_eqN (by omega) (by omega), zl0, ite_eqN (by omega) (by omega), zl1, nI_add]
    unfold ee kk
    by_cases h3 : kd tx L (ss tx L p) = 3
    · rw [if_pos h3, if_neg (by omega), if_pos h3]
    · rw [if_neg h3, if_neg h3]
      by_cases h0 : kd tx L (ss tx L p) = 0
      · rw [if_pos h0, if_pos h0]
      · rw [if_neg h0, if_neg h0, c_tt_94 hX (by rw [kd_0] at h0; omega)]
  unfold fX5_takeToken
  refine wh_seq _ (ss tx L p - p) (fun i => nI (p + i)) _ (fun i hi => ?_) ?_
  · obtain ⟨g1, g2⟩ := h3 (p + i) (by omega) (by omega)
    obtain ⟨x1, x2, x3⟩ := hX.2 (p + i) g1
    unfold sX5_takeToken_8
    rw [ite_leN (by omega) (by omega), if_neg (by omega), gd_in (by omega), nI_cl (by omega), x3, g2, zl32, if_pos rfl, nI_1]
    rfl
  · have e : p + (ss tx L p - p) = ss tx L p := by omega
    unfold sX5_takeToken_8
    rw [e, ite_leN (by omega) (by omega), e46]
    by_cases hl : L ≤ ss tx L p
    · rw [if_pos hl]
    · obtain ⟨x1, x2, x3⟩ := hX.2 (ss tx L p) (by omega)
      rw [if_neg hl, gd_in (by omega), nI_cl (by omega), x3, zl32, ite_eqN (by omega) (by omega), if_neg (fun q => h4 ⟨by omega, q⟩)]
end P39o
