/-! The text: tokens in the reference, numbers. -/
section P39p
variable {tx : Nat → Nat} {L : Nat}
theorem lz0 : (0 : Int64) = lN 0 := Eq.trans (b := lN 0) rfl (Eq.symm rfl)
theorem lz1 : (1 : Int64) = lN 1 := Eq.trans (b := lN 1) rfl (Eq.symm rfl)
theorem lz27 : (27 : Int64) = lN 27 := Eq.trans (b := lN 27) rfl (Eq.symm rfl)
theorem lz97 : (97 : Int64) = lN 97 := Eq.trans (b := lN 97) rfl (Eq.symm rfl)
theorem z_m1 {n : Nat} (h : n < 2 ^ 31) : (-1 : Int32) < nI n := by
  rw [Int32.lt_iff_toInt_lt, nI_toInt h]
  have : (-1 : Int32).toInt = -1 := rfl
  omega
abbrev hr (tx : Nat → Nat) (L j : Nat) : Int32 := if j < L then nI (tx j) else -1
theorem e_here {text : Nat → Int32} (hX : rX tx L text) {j : Nat} (hj : j ≤ L) : fX7_here text (nI L) (nI j) = some (hr tx L j) := by
  obtain ⟨hL, hX⟩ := hX
  unfold fX7_here hr
  rw [ite_leN (by omega) (by omega)]
  by_cases h : j < L
  · rw [if_neg (by omega), if_pos h, gd_in (by omega), nI_cl (by omega), (hX j h).2.2]
  · rw [if_pos (by omega), if_neg h]
theorem e_hin {text : Nat → Int32} (hX : rX tx L text) {j a b : Nat} (ha : a < 2 ^ 31) (hb : b < 2 ^ 31) : fX7_in (hr tx L j) (nI a) (nI b) = some (bI (j < L ∧ a ≤ tx j ∧ tx j ≤ b)) := by
  rw [e_in ha hb]
  unfold hr
  by_cases h : j < L
  · have := (hX.2 j h)
    rw [if_pos h, bI_congr (z_rng (by omega) ha hb)]
    exact congrArg some (bI_congr ⟨fun q => ⟨h, q⟩, fun q => q.2⟩)
  · rw [if_neg h, bI_f (fun q => q.1 (z_m1 ha)), bI_f (fun q => h q.1)]
theorem e_read_75 {text : Nat → Int32} (hX : rX tx L text) {s : Nat} (hs : s < L) (hk : kd tx L s = 1) : lX7_read_75 text (nI L) (nI s) (nI 0) (-1) (nI s) (lN 0) = some (nI (rn tx L s), nI s, nI 0, -1, lt tx s (rn tx L s - s)) := by
  have hL := hX.1
  obtain ⟨h1, h2, h3, h4⟩ := rn_spec (tx := tx) (L := L) s
  have h2 := h2 (by omega)
  have e0 : (nI s, lN 0) = (nI (s + 0), lt tx s 0) := by
    rw [show lt tx s 0 = lN (wv tx s 0) from if_pos (by omega)]; rfl
  show wh _ (nI s, lN 0) = _
  rw [e0]
  refine wh_seq _ (rn tx L s - s) (fun i => (nI (s + i), lt tx s i)) _ (fun i hi => ?_) ?_
  · obtain ⟨g1, g2⟩ := h3 (s + i) (by omega) (by omega)
    rw [hk] at g2
    have g3 := kd_1.mp g2
    obtain ⟨x1, x2, x3⟩ := hX.2 (s + i) g1
    unfold sX7_read_75
    rw [e_here hX (by omega), Option.bind_some, zl97, zl122, e_hin hX (by omega) (by omega), Option.bind_some, ite_bI, if_pos g3, zl8, pk_sub (by omega), ite_leN (by omega) (by omega), show s + i - s = i by omega]
    by_cases h8 : 8 ≤ i
    · rw [if_pos h8]
      unfold uX7_read_128
      rw [nI_1, show lt tx s (i + 1) = lN 0 from if_neg (by omega)]
      rfl
    · rw [if_neg h8, Option.bind_some]
      unfold uX7_read_128
      rw [nI_1, show hr tx L (s + i) = nI (tx (s + i)) from if_pos g1, nI_l (by omega), show lt tx s i = lN (wv tx s i) from if_pos (by omega), lz27, lN_mul, lN_add, lz97, lN_sub (by omega), lz1, lN_add, show lt tx s (i + 1) = lN (wv tx s (i + 1)) from if_pos (by omega)]
      have e : 27 * wv tx s i + tx (s + i) - 97 + 1 = wv tx s (i + 1) := by
        show _ = 27 * wv tx s i + (tx (s + i) - 96)
        omega
      rw [e]
      rfl
  · have e : s + (rn tx L s - s) = rn tx L s := by omega
    unfold sX7_read_75
    rw [e, e_here hX (by omega), Option.bind_some, zl97, zl122, e_hin hX (by omega) (by omega), Option.bind_some, ite_bI, if_neg (fun q => h4 ⟨q.1, by rw [hk]; exact kd_1.mpr q⟩)]
theorem e_read_165 {text : Nat → Int32} (hX : rX tx L text) {s : Nat} (hs : s < L) (hk : kd tx L s = 2) : lX7_read_165 text (nI L) (nI s) (nI 1) (lN 0) (nI 0) (nI s) = some (nI (rn tx L s), nI s, nI 1, if rn tx L s - s = 1 ∨ (rn tx L s - s = 2 ∧ ¬ tx s = 48) then nv tx s (rn tx L s - s) else -1, lN 0) := by
  have hL := hX.1
  obtain ⟨h1, h2, h3, h4⟩ := rn_spec (tx := tx) (L := L) s
  have h2 := h2 (by omega)
  have e0 : (nI 0, nI s) = (nv tx s 0, nI (s + 0)) := by
    rw [show nv tx s 0 = nI 0 from if_pos rfl]; rfl
  show wh _ (nI 0, nI s) = _
  rw [e0]
  refine wh_seq _ (rn tx L s - s) (fun i => (nv tx s i, nI (s + i))) _ (fun i hi => ?_) ?_
  · obtain ⟨g1, g2⟩ := h3 (s + i) (by omega) (by omega)
    rw [hk] at g2
    have g3 := kd_2.mp g2
    obtain ⟨x1, x2, x3⟩ := hX.2 (s + i) g1
    unfold sX7_read_165
    rw [e_here hX (by omega), Option.bind_some, zl48, zl57, e_hin hX (by omega) (by omega), Option.bind_some, ite_bI, if_pos g3, zl2, pk_sub (by omega), ite_leN (by omega) (by omega), show s + i - s = i by omega]
    by_cases h8 : 2 ≤ i
    · rw [if_pos h8]
      unfold uX7_read_208
      rw [nI_1, show nv tx s (i + 1) = nv tx s i by unfold nv; rw [if_neg (by omega), if_neg (by omega), if_neg (by omega), if_neg (by omega)]]
      rfl
    · rw [if_neg h8, Option.bind_some]
      unfold uX7_read_208
      rw [nI_1, show hr tx L (s + i) = nI (tx (s + i)) from if_pos g1, zl10]
      rcases (show i = 0 ∨ i = 1 by omega) with rfl | rfl
      · rw [show nv tx s 0 = nI 0 from if_pos rfl, pk_mul, nI_add, pk_sub (by omega), show nv tx s (0 + 1) = nI (tx s - 48) from rfl]
        rw [show 10 * 0 + tx (s + 0) - 48 = tx s - 48 by rw [Nat.add_zero]; omega]
      · have g0 := kd_2.mp hk
        rw [show nv tx s 1 = nI (tx s - 48) from rfl, pk_mul, nI_add, pk_sub (by omega), show nv tx s (1 + 1) = nI (10 * (tx s - 48) + (tx (s + 1) - 48)) from rfl]
        rw [show 10 * (tx s - 48) + tx (s + 1) - 48 = 10 * (tx s - 48) + (tx (s + 1) - 48) by omega]
  · have e : s + (rn tx L s - s) = rn tx L s := by omega
    obtain ⟨x1, x2, x3⟩ := hX.2 s hs
    unfold sX7_read_165
    rw [e, e_here hX (by omega), Option.bind_some, zl48, zl57, e_hin hX (by omega) (by omega), Option.bind_some, ite_bI, if_neg (fun q => h4 ⟨q.1, by rw [hk]; exact kd_2.mpr q⟩)]
    refine congrArg oi ?_
    have e1 : ∀ v a b c d, uX7_read_262 v a b c d = some (a, b, c, v, d) := fun v a b c d => rfl
    have e2 : ∀ v a b c d, uX7_read_266 v a b c d = some (a, b, c, -1, d) := fun v a b c d => rfl
    unfold uX7_read_222
    rw [pk_sub (by omega), zl1, zl2, ite_eqN (by omega) (by omega), ite_eqN (by omega) (by omega), gd_in (by omega), nI_cl (by omega), x3, zl48, ite_eqN (by omega) (by omega), e1, e2]
    by_cases a1 : rn tx L s - s = 1
    · rw [if_pos a1, if_pos (Or.inl a1)]
    · rw [if_neg a1]
      by_cases a2 : rn tx L s - s = 2
      · rw [if_pos a2]
        by_cases a3 : tx s = 48
        · rw [if_pos a3, if_neg (fun q => q.elim a1 (fun z => z.2 a3))]; rfl
        · rw [if_neg a3, if_pos (Or.inr ⟨a2, a3⟩)]
      · rw [if_neg a2, if_neg (fun q => q.elim a1 (fun z => a2 z.1))]; rfl
theorem e_read_22 {text : Nat → Int32} (hX : rX tx L text) {p : Nat} (hp : p ≤ L) : uX7_read_22 text (nI L) (nI (ss tx L p)) = some (nI (ee tx L p), nI (ss tx L p), nI (rt (kk tx L p)), nu tx L p, le tx L p) := by
  have hL := hX.1
  have h2 := (ss_spec (tx := tx) (L := L) p).2.1 hp
  have hk := kd_le (tx := tx) (L := L) (j := ss tx L p)
  unfold uX7_read_22 uX7_read_43
  rw [e_here hX h2]
  simp only [Option.bind_some]
  rw [zl97, zl122, zl48, zl57, e_hin hX (by omega) (by omega), e_hin hX (by omega) (by omega)]
  simp only [Option.bind_some, ite_bI]
  unfold le nu
  by_cases hs : ss tx L p < L
  · obtain ⟨x1, x2, x3⟩ := hX.2 _ hs
    have e1 : hr tx L (ss tx L p) = nI (tx (ss tx L p)) := if_pos hs
    have h0 : ¬ kk tx L p = 0 := by unfold kk; rw [kd_0]; omega
    rw [e1, if_pos (nI_pos' (by omega)), if_neg (nI_pos (by omega))]
    by_cases k1 : kk tx L p = 1
    · have he : ee tx L p = rn tx L (ss tx L p) := by unfold ee; rw [k1, if_neg (by omega), if_neg (by omega)]
      rw [if_pos (kd_1.mp k1), k1, he]
      have := e_read_75 hX hs k1
      rw [zl0, lz0, this, if_neg (by omega), if_pos rfl]
      rfl
    · rw [if_neg (fun q => k1 (kd_1.mpr q))]
      by_cases k2 : kk tx L p = 2
      · have he : ee tx L p = rn tx L (ss tx L p) := by unfold ee; rw [k2, if_neg (by omega), if_neg (by omega)]
        have := e_read_165 hX hs k2
        rw [if_pos (kd_2.mp k2), k2, he, zl0, lz0, if_pos rfl, if_neg (show ¬ (2 : Nat) = 1 by omega)]
        exact this
      · have k3 : kk tx L p = 3 := by unfold kk at *; omega
        have he : ee tx L p = ss tx L p + 1 := by unfold ee; rw [k3, if_neg (by omega), if_pos rfl]
        rw [if_neg (fun q => k2 (kd_2.mpr q)), k3, he, if_neg (show ¬ (3 : Nat) = 2 by omega), if_neg (show ¬ (3 : Nat) = 1 by omega), nI_1]
        rfl
  · have e1 : hr tx L (ss tx L p) = -1 := if_neg hs
    have h0 : kk tx L p = 0 := by unfold kk; rw [kd_0]; omega
    have he : ee tx L p = ss tx L p := by unfold ee; rw [if_pos h0]
    rw [e1, if_neg (show ¬ (0 : Int32) ≤ -1 by decide), if_neg (fun q => hs q.1), if_neg (fun q => hs q.1), if_pos (show (-1 : Int32) < 0 by decide), h0, he, if_neg (show ¬ (0 : Nat) = 2 by omega), if_neg (show ¬ (0 : Nat) = 1 by omega)]
    rfl
theorem e_read {text : Nat → Int32} (hX : rX tx L text) {p : Nat} (hp : p ≤ L) : fX7_read text (nI L) (nI p) = some (nI (ee tx L p), nI (ss tx L p), nI (rt (kk tx L p)), nu tx L p, le tx L p) := by
  have hL := hX.1
  obtain ⟨h1, h2, h3, h4⟩ := ss_spec (tx := tx) (L := L) p
  have h2 := h2 hp
  unfold fX7_read
  refine wh_seq _ (ss tx L p - p) (fun i => nI (p + i)) _ (fun i hi => ?_) ?_
  · obtain ⟨g1, g2⟩ := h3 (p + i) (by omega) (by omega)
    unfold sX7_read_0
    rw [e_here hX (by omega), Option.bind_some, show hr tx L (p + i) = nI (tx (p + i)) from if_pos g1, g2, zl32, if_pos rfl, nI_1]
    rfl
  · have e : p + (ss tx L p - p) = ss tx L p := by omega
    unfold sX7_read_0
    rw [e, e_here hX (by omega), Option.bind_some, e_read_22 hX hp]
    by_cases hs : ss tx L p < L
    · obtain ⟨x1, x2, x3⟩ := hX.2 _ hs
      rw [show hr tx L (ss tx L p) = nI (tx (ss tx L p)) from if_pos hs, zl32, ite_eqN (by omega) (by omega), if_neg (fun q => h4 ⟨hs, q⟩)]
    · rw [show hr tx L (ss tx L p) = -1 from if_neg hs, if_neg (by decide)]
/-- the token's number, in the class -/
theorem c_tokenNumber {text : Nat → Int32} (hX : rX tx L text) {p : Nat} (hp : p ≤ L) : fX5_tokenNumber text (nI (ss tx L p)) (nI (ee tx L p)) (nI (kk tx L p)) = some (nu tx L p) := by
  have hL := hX.1
  have h2 := (ss_spec (tx := tx) (L := L) p).2.1 hp
  have hk := kd_le (tx := tx) (L := L) (j := ss tx L p)
  obtain ⟨g1, g2, g3⟩ := ee_spec (tx := tx) hp
  unfold fX5_tokenNumber nu
  rw [nm_eq, zl2, ite_eqN (by unfold kk; omega) (by omega), pk_sub g1, ite_ltN (by omega) (by omega), ite_eqN (by omega) (by omega)]
  by_cases k2 : kk tx L p = 2
  · have hs := kk_lt (tx := tx) (L := L) (p := p) (by omega)
    have g3 := g3 (by omega)
    have he : ee tx L p = rn tx L (ss tx L p) := by unfold ee; rw [k2, if_neg (by omega), if_neg (by omega)]
    obtain ⟨r1, r2, r3, r4⟩ := rn_spec (tx := tx) (L := L) (ss tx L p)
    obtain ⟨x1, x2, x3⟩ := hX.2 _ hs
    rw [if_pos k2, if_pos k2, gd_in (by omega), nI_cl (by omega), x3, zl48, ite_eqN (by omega) (by omega)]
    have loop : ee tx L p - ss tx L p ≤ 2 → uX5_tokenNumber_44 text (nI (ss tx L p)) (nI (ee tx L p)) = some (nv tx (ss tx L p) (ee tx L p - ss tx L p)) := by
      intro hl
      have e0 : (nI 0, nI (ss tx L p)) = (nv tx (ss tx L p) 0, nI (ss tx L p + 0)) := by
        rw [show nv tx (ss tx L p) 0 = nI 0 from if_pos rfl]; rfl
      unfold uX5_tokenNumber_44
      show wh _ (nI 0, nI (ss tx L p)) = _
      rw [e0]
      refine wh_seq _ (ee tx L p - ss tx L p) (fun i => (nv tx (ss tx L p) i, nI (ss tx L p + i))) _ (fun i hi => ?_) ?_
      · obtain ⟨q1, q2⟩ := r3 (ss tx L p + i) (by omega) (by omega)
        rw [show kd tx L (ss tx L p) = 2 from k2] at q2
        have q3 := kd_2.mp q2
        obtain ⟨y1, y2, y3⟩ := hX.2 _ q1
        unfold sX5_tokenNumber_51
        rw [ite_leN (by omega) (by omega), if_neg (by omega), gd_in (by omega), nm_eq, nm_eq, nI_cl (by omega), y3, zl48, pk_sub q3.2.1, nI_1, zl10]
        rcases (show i = 0 ∨ i = 1 by omega) with rfl | rfl
        · rw [show nv tx (ss tx L p) 0 = nI 0 from if_pos rfl, pk_mul, nI_add, show nv tx (ss tx L p) (0 + 1) = nI (tx (ss tx L p) - 48) from rfl]
          rw [show 0 * 10 + (tx (ss tx L p + 0) - 48) = tx (ss tx L p) - 48 by rw [Nat.add_zero]; omega]
        · rw [show nv tx (ss tx L p) 1 = nI (tx (ss tx L p) - 48) from rfl, pk_mul, nI_add, show nv tx (ss tx L p) (1 + 1) = nI (10 * (tx (ss tx L p) - 48) + (tx (ss tx L p + 1) - 48)) from rfl]
          rw [show (tx (ss tx L p) - 48) * 10 + (tx (ss tx L p + 1) - 48) = 10 * (tx (ss tx L p) - 48) + (tx (ss tx L p + 1) - 48) by omega]
      · unfold sX5_tokenNumber_51
        rw [ite_leN (by omega) (by omega), if_pos (by omega)]
    by_cases l2 : 2 < ee tx L p - ss tx L p
    · rw [if_pos l2, if_neg (fun q => by omega)]
    · rw [if_neg l2, loop (by omega)]
      by_cases l3 : ee tx L p - ss tx L p = 2
      · rw [if_pos l3]
        by_cases l4 : tx (ss tx L p) = 48
        · rw [if_pos l4, if_neg (fun q => by omega)]
        · rw [if_neg l4, if_pos (Or.inr ⟨l3, l4⟩)]
      · rw [if_neg l3, if_pos (Or.inl (by omega))]
  · rw [if_neg k2, if_neg k2]
end P39p
