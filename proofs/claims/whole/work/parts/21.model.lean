/-! The reference's small methods, in closed form. -/
section P21
variable {T : zA} {V : Nat}
theorem lt31 {a b : Nat} (h : a < b) (hb : b ≤ 2147483648) : a < 2 ^ 31 := by omega
theorem e_in {x : Int32} {a b : Nat} (ha : a < 2 ^ 31) (hb : b < 2 ^ 31) : fX7_in x (nI a) (nI b) = some (bI (¬ x < nI a ∧ ¬ nI b < x)) := by
  unfold fX7_in
  by_cases h1 : x < nI a
  · rw [if_pos h1, bI_f (fun h => h.1 h1)]
  · rw [if_neg h1]
    by_cases h2 : nI b < x
    · rw [if_pos h2, bI_f (fun h => h.2 h2)]
    · rw [if_neg h2, bI_t ⟨h1, h2⟩]
/-- in a range, for a number -/
theorem z_rng {n a b : Nat} (hn : n < 2 ^ 31) (ha : a < 2 ^ 31) (hb : b < 2 ^ 31) : (¬ nI n < nI a ∧ ¬ nI b < nI n) ↔ (a ≤ n ∧ n ≤ b) := by
  rw [nI_ltI hn ha, nI_ltI hb hn]
  omega
/-- an int is in 0..b just if it is such a number -/
theorem z_rngx {x : Int32} {b : Nat} (hb : b < 2 ^ 31) : (¬ x < nI 0 ∧ ¬ nI b < x) ↔ ∃ n, n ≤ b ∧ x = nI n := by
  constructor
  · rintro ⟨h1, h2⟩
    obtain ⟨j, hj, rfl⟩ := nI_of h1
    refine ⟨j, ?_, rfl⟩
    rw [nI_ltI hb hj] at h2
    omega
  · rintro ⟨n, hn, rfl⟩
    rw [z_rng (by omega) (by omega) hb]
    omega
theorem e_inN {n a b : Nat} (hn : n < 2 ^ 31) (ha : a < 2 ^ 31) (hb : b < 2 ^ 31) : fX7_in (nI n) (nI a) (nI b) = some (bI (a ≤ n ∧ n ≤ b)) := by
  rw [e_in ha hb, bI_congr (z_rng hn ha hb)]
theorem e_at {n i : Nat} : fX7_at (nI n) (nI i) = some (nI (157 + 4 * (35 * n + i))) := by
  simp only [fX7_at, zl157, zl4, zl35, pk_mul, nI_add]
theorem e_area {n : Nat} (h : n < 10) : fX7_area (nI n) (zI T) = some (nI (aAr T n)) := by
  simp only [fX7_area, zl4, nI_add]
  rw [gd_in (by omega), nI_cl (by omega), zI_h (by omega)]
theorem e_linkPart {k p : Nat} (hk : k < 16) (hp : p < 6) : fX7_linkPart (nI k) (nI p) (zI T) = some (nI (aL T k p)) := by
  simp only [fX7_linkPart, zl46, zl6, pk_mul, nI_add]
  rw [gd_in (by omega), nI_cl (by omega), zI_h (by omega)]
theorem e_tunnelPart {k p : Nat} (hk : k < 3) (hp : p < 5) : fX7_tunnelPart (nI k) (nI p) (zI T) = some (nI (aT T k p)) := by
  simp only [fX7_tunnelPart, zl142, zl5, pk_mul, nI_add]
  rw [gd_in (by omega), nI_cl (by omega), zI_h (by omega)]
theorem e_fact {n i p : Nat} (hn : n < 10) (hi : i < 35) (hp : p < 4) : fX7_fact (nI n) (nI i) (nI p) (zI T) = some (nI (T.2 n i p)) := by
  simp only [fX7_fact, e_at, Option.bind_some, nI_add]
  rw [gd_in (by omega), nI_cl (by omega), zI_d hi hp]
theorem z_pos {V a : Nat} (h : a ≤ V) (hV : V < 2 ^ 20) : a < 2 ^ 31 := by omega
/-- the bounds of a state's numbers -/
theorem aInv.link {V : Nat} {T : zA} (h : aInv V T) {k : Nat} (hk : k < 16) : aL T k 0 < 10 ∧ aL T k 1 < 10 ∧ aL T k 2 ≤ 20 ∧ aL T k 3 ≤ 1 ∧ aL T k 4 ≤ 1 ∧ aL T k 5 ≤ V := by
  obtain ⟨⟨h1, h2, h3⟩, -, h4, h5, -⟩ := h
  by_cases hl : k < aNL T
  · obtain ⟨a, b, c, d, e, f, g, i, j⟩ := h4 k hl
    exact ⟨by omega, by omega, e, f, g, j⟩
  · have z := fun p hp => h5 k p (by omega) hk hp
    rw [z 0 (by omega), z 1 (by omega), z 2 (by omega), z 3 (by omega), z 4 (by omega), z 5 (by omega)]
    omega
theorem aInv.tun {V : Nat} {T : zA} (h : aInv V T) {k : Nat} (hk : k < 3) : aT T k 0 < 10 ∧ aT T k 1 < 10 ∧ aT T k 2 ≤ 40 ∧ aT T k 3 ≤ 1 ∧ aT T k 4 ≤ V := by
  obtain ⟨⟨h1, h2, h3⟩, -, -, -, h4, h5, -⟩ := h
  by_cases hl : k < aNT T
  · obtain ⟨a, b, c, d, e, f, g, i⟩ := h4 k hl
    exact ⟨by omega, by omega, e, f, i⟩
  · have z := fun p hp => h5 k p (by omega) hk hp
    rw [z 0 (by omega), z 1 (by omega), z 2 (by omega), z 3 (by omega), z 4 (by omega)]
    omega
theorem aInv.db {V : Nat} {T : zA} (h : aInv V T) {n i : Nat} (hn : n < 10) (hi : i < 35) : T.2 n i 0 ≤ V ∧ T.2 n i 1 ≤ 1 ∧ T.2 n i 2 ≤ 40 ∧ T.2 n i 3 ≤ 1 ∧ (T.2 n i 0 = 0 → T.2 n i 1 = 0 ∧ T.2 n i 2 = 0 ∧ T.2 n i 3 = 0) := h.2.2.2.2.2.2.2.2 n i hn hi
theorem aInv.ar {V : Nat} {T : zA} (h : aInv V T) {n : Nat} (hn : n < 10) : aAr T n < 4 := h.2.1 n hn
theorem e_isEnd' {n k : Nat} (hn : n < 10) (hk : k < 16) (hb : aL T k 0 < 10 ∧ aL T k 1 < 10) : fX7_isEnd (nI n) (nI k) (zI T) = some (bI (aEnd T n k)) := by
  simp only [fX7_isEnd, uX7_isEnd_20, zl0, zl1]
  rw [e_linkPart hk (by omega), e_linkPart hk (by omega)]
  simp only [Option.bind_some]
  by_cases h1 : aL T k 0 = n
  · rw [if_pos (by rw [h1]), bI_t (Or.inl h1)]; rfl
  · rw [if_neg (by rw [nI_eq (by omega) (by omega)]; exact h1)]
    by_cases h2 : aL T k 1 = n
    · rw [if_pos (by rw [h2]), bI_t (Or.inr h2)]; rfl
    · rw [if_neg (by rw [nI_eq (by omega) (by omega)]; exact h2), bI_f (fun h => h.elim h1 h2)]; rfl
theorem e_isEnd (hI : aInv V T) {n k : Nat} (hn : n < 10) (hk : k < 16) : fX7_isEnd (nI n) (nI k) (zI T) = some (bI (aEnd T n k)) := e_isEnd' hn hk ⟨(hI.link hk).1, (hI.link hk).2.1⟩
theorem e_owner' {k : Nat} (hk : k < 16) (h0 : aL T k 0 < 10) : fX7_owner (nI k) (zI T) = some (nI (aOw T k)) := by
  simp only [fX7_owner, zl0]
  rw [e_linkPart hk (by omega)]
  simp only [Option.bind_some]
  rw [e_area h0]
  rfl
theorem e_owner (hI : aInv V T) {k : Nat} (hk : k < 16) : fX7_owner (nI k) (zI T) = some (nI (aOw T k)) := by
  have hb := hI.link hk
  simp only [fX7_owner, zl0]
  rw [e_linkPart hk (by omega)]
  simp only [Option.bind_some]
  rw [e_area (by omega)]
  rfl
theorem e_isSecret (hI : aInv V T) {i : Nat} (hi : i < 35) : fX7_isSecret (nI i) (zI T) = some (bI (aSec T i)) := by
  simp only [fX7_isSecret, zl16, zl31, zl4]
  rw [e_inN (by omega) (by omega) (by omega)]
  simp only [Option.bind_some]
  rw [ite_bI]
  by_cases h : 16 ≤ i ∧ i ≤ 31
  · have hb := hI.link (k := i - 16) (by omega)
    rw [if_pos h, pk_sub (by omega), e_linkPart (by omega) (by omega)]
    simp only [Option.bind_some, zl1]
    by_cases h2 : aL T (i - 16) 4 = 1
    · rw [if_pos (by rw [h2]), bI_t ⟨h.1, h.2, h2⟩]; rfl
    · rw [if_neg (by rw [nI_eq (by omega) (by omega)]; exact h2), bI_f (fun q => h2 q.2.2)]
  · rw [if_neg h, bI_f (fun q => h ⟨q.1, q.2.1⟩)]
theorem e_hasGrant (hI : aInv V T) (hV : V < 2 ^ 20) {n o b : Nat} (hn : n < 10) (ho : o < 4) (hb : b < 4) : fX7_hasGrant (nI n) (nI o) (nI b) (zI T) = some (bI (aHg T n o b)) := by
  have hd := hI.db hn (i := 4 * o + b) (by omega)
  simp only [fX7_hasGrant, zl4, zl0, zl1, pk_mul, nI_add]
  rw [e_fact hn (by omega) (by omega), e_fact hn (by omega) (by omega)]
  simp only [Option.bind_some]
  by_cases h1 : 0 < T.2 n (4 * o + b) 0
  · rw [if_neg (by rw [nI_leI (by omega) (by omega)]; omega)]
    by_cases h2 : T.2 n (4 * o + b) 1 = 1
    · rw [if_pos (by rw [h2]), bI_t ⟨h1, h2⟩]; rfl
    · rw [if_neg (by rw [nI_eq (by omega) (by omega)]; exact h2), bI_f (fun q => h2 q.2)]; rfl
  · rw [if_pos (by rw [nI_leI (by omega) (by omega)]; omega), bI_f (fun q => h1 q.1)]; rfl
theorem e_mayKnow (hI : aInv V T) (hV : V < 2 ^ 20) {n i : Nat} (hn : n < 10) (hi : i < 35) : fX7_mayKnow (nI n) (nI i) (zI T) = some (bI (aMk T n i)) := by
  simp only [fX7_mayKnow, uX7_mayKnow_54]
  rw [e_isSecret hI hi]
  simp only [Option.bind_some]
  rw [ite_bI]
  by_cases hs : aSec T i
  · have hi2 : i - 16 < 16 := by omega
    have hl := hI.link hi2
    rw [if_pos hs, zl16, pk_sub (by omega), e_owner hI hi2]
    simp only [Option.bind_some]
    rw [e_isEnd hI hn hi2]
    simp only [Option.bind_some]
    rw [ite_bI]
    by_cases he : aEnd T n (i - 16)
    · rw [if_pos he, bI_t (Or.inr (Or.inl he))]
    · have h1 := hI.ar hn
      have h2 : aOw T (i - 16) < 4 := hI.ar (n := aL T (i - 16) 0) (by omega)
      rw [if_neg he, e_area hn]
      simp only [Option.bind_some]
      by_cases ha : aAr T n = aOw T (i - 16)
      · rw [if_pos (by rw [ha]), bI_t (Or.inr (Or.inr (Or.inl ha)))]
      · rw [if_neg (by rw [nI_eq (by omega) (by omega)]; exact ha), e_hasGrant hI hV hn h2 h1]
        simp only [Option.bind_some]
        rw [ite_bI]
        by_cases hg : aHg T n (aOw T (i - 16)) (aAr T n)
        · rw [if_pos hg, bI_t (Or.inr (Or.inr (Or.inr hg)))]
        · rw [if_neg hg, bI_f (fun q => q.elim (fun z => z hs) (fun z => z.elim he (fun y => y.elim ha hg)))]
  · rw [if_neg hs, bI_t (Or.inl hs)]
end P21
