/-! The text: items. -/
/-- an int below a bound -/
abbrev iN (N : Nat) (x : Int32) : Prop := ¬ x < 0 ∧ x < nI N
theorem iN_ex {N : Nat} (hN : N < 2 ^ 31) {x : Int32} : iN N x ↔ ∃ n, n < N ∧ x = nI n := by
  constructor
  · rintro ⟨h1, h2⟩
    obtain ⟨j, hj, rfl⟩ := nI_of h1
    exact ⟨j, (nI_ltI hj hN).mp h2, rfl⟩
  · rintro ⟨n, hn, rfl⟩
    exact ⟨nI_pos (by omega), (nI_ltI (by omega) hN).mpr hn⟩
theorem iN_sub {N : Nat} (hN : N < 2 ^ 30) {x : Int32} : oN x 0 (nI N - 1) ↔ iN N x := by
  have e : (nI N - 1).toInt = (N : Int) - 1 := by
    rw [zl1, pk_sub_toInt hN (by omega)]; rfl
  have h : ¬ (nI N - 1 < x) ↔ x < nI N := by
    rw [Int32.lt_iff_toInt_lt, Int32.lt_iff_toInt_lt, e, nI_toInt (by omega)]
    omega
  exact ⟨fun q => ⟨q.1, h.mp q.2⟩, fun q => ⟨q.1, h.mpr q.2⟩⟩
theorem c_iN {N : Nat} {x : Int32} : (if x < 0 then some (0 : Int32) else if nI N ≤ x then some (0 : Int32) else some (1 : Int32)) = some (bI (iN N x)) := by
  by_cases h1 : x < 0
  · rw [if_pos h1, bI_f (fun q => q.1 h1)]
  · rw [if_neg h1]
    by_cases h2 : nI N ≤ x
    · rw [if_pos h2, bI_f (fun q => Int32.not_lt.mpr h2 q.2)]
    · rw [if_neg h2, bI_t ⟨h1, Int32.not_le.mp h2⟩]
section P39r
variable {tx : Nat → Nat} {L : Nat} {T : zA} {V : Nat}
theorem e_isNode (hI : aInv V T) {x : Int32} : fX7_isNode x (zI T) = some (bI (iN (aNN T) x)) := by
  have := hI.1.1
  unfold fX7_isNode
  rw [e_in2, Option.bind_some, gd_t (bI_bz _), show vp_in (0 : Int32) 1557 = vp_in (nI 0) 1557 from rfl, gd_in (by omega), show (0 : Int32).toNatClampNeg = 0 from rfl, zI_h (by omega)]
  exact congrArg some (bI_congr (iN_sub (N := aNN T) (by omega)))
theorem e_isLink (hI : aInv V T) {x : Int32} : fX7_isLink x (zI T) = some (bI (iN (aNL T) x)) := by
  have := hI.1.2.1
  unfold fX7_isLink
  rw [e_in2, Option.bind_some, gd_t (bI_bz _), show vp_in (1 : Int32) 1557 = vp_in (nI 1) 1557 from rfl, gd_in (by omega), show (1 : Int32).toNatClampNeg = 1 from rfl, zI_h (by omega)]
  exact congrArg some (bI_congr (iN_sub (N := aNL T) (by omega)))
theorem e_isTunnel (hI : aInv V T) {x : Int32} : fX7_isTunnel x (zI T) = some (bI (iN (aNT T) x)) := by
  have := hI.1.2.2
  unfold fX7_isTunnel
  rw [e_in2, Option.bind_some, gd_t (bI_bz _), show vp_in (2 : Int32) 1557 = vp_in (nI 2) 1557 from rfl, gd_in (by omega), show (2 : Int32).toNatClampNeg = 2 from rfl, zI_h (by omega)]
  exact congrArg some (bI_congr (iN_sub (N := aNT T) (by omega)))
theorem e_isArea {x : Int32} : fX7_isArea x = some (bI (iN 4 x)) := by
  unfold fX7_isArea
  rw [e_in2, Option.bind_some, gd_t (bI_bz _), show (3 : Int32) = nI 4 - 1 from rfl]
  exact congrArg some (bI_congr (iN_sub (by omega)))
theorem c_isNode {N : Nat} {x : Int32} : fX6_isNode x (nI N) = some (bI (iN N x)) := c_iN
theorem c_isLink {N : Nat} {x : Int32} : fX6_isLink x (nI N) = some (bI (iN N x)) := c_iN
theorem c_isTunnel {N : Nat} {x : Int32} : fX6_isTunnel x (nI N) = some (bI (iN N x)) := c_iN
theorem c_isArea {x : Int32} : fX6_isArea x = some (bI (iN 4 x)) := c_iN
/-- two of a kind that are not the same -/
abbrev iP (N : Nat) (x y : Int32) : Prop := iN N x ∧ iN N y ∧ ¬ x = y
theorem z_pair {N : Nat} {x y : Int32} : ((some (bI (iN N x))).bind (fun y1 => if y1 = 0 then some (0 : Int32) else (some (bI (iN N y))).bind (fun y2 => if y2 = 0 then some (0 : Int32) else if x = y then some (0 : Int32) else some (1 : Int32)))) = some (bI (iP N x y)) := by
  simp only [Option.bind_some, ite_bI]
  by_cases h1 : iN N x
  · rw [if_pos h1]
    by_cases h2 : iN N y
    · rw [if_pos h2]
      by_cases h3 : x = y
      · rw [if_pos h3, bI_f (fun q => q.2.2 h3)]
      · rw [if_neg h3, bI_t ⟨h1, h2, h3⟩]
    · rw [if_neg h2, bI_f (fun q => h2 q.2.1)]
  · rw [if_neg h1, bI_f (fun q => h1 q.1)]
theorem e_areNodes (hI : aInv V T) {x y : Int32} : fX7_areNodes x y (zI T) = some (bI (iP (aNN T) x y)) := by
  unfold fX7_areNodes
  rw [e_isNode hI, e_isNode hI]
  exact z_pair
theorem e_areAreas {x y : Int32} : fX7_areAreas x y = some (bI (iP 4 x y)) := by
  unfold fX7_areAreas
  rw [e_isArea, e_isArea]
  exact z_pair
theorem c_isPair {N : Nat} {x y : Int32} : fX6_isPair x y (nI N) = some (bI (iP N x y)) := by
  unfold fX6_isPair
  rw [c_isNode, c_isNode]
  exact z_pair
theorem c_areTwoAreas {x y : Int32} : fX6_areTwoAreas x y = some (bI (iP 4 x y)) := by
  unfold fX6_areTwoAreas
  rw [c_isArea, c_isArea]
  exact z_pair
theorem iP_ex {N : Nat} (hN : N < 2 ^ 31) {x y : Int32} : iP N x y ↔ ∃ a b, a < N ∧ b < N ∧ a ≠ b ∧ x = nI a ∧ y = nI b := by
  constructor
  · rintro ⟨h1, h2, h3⟩
    obtain ⟨a, ha, rfl⟩ := (iN_ex hN).mp h1
    obtain ⟨b, hb, rfl⟩ := (iN_ex hN).mp h2
    exact ⟨a, b, ha, hb, fun q => h3 (by rw [q]), rfl, rfl⟩
  · rintro ⟨a, b, ha, hb, hab, rfl, rfl⟩
    exact ⟨(iN_ex hN).mpr ⟨a, ha, rfl⟩, (iN_ex hN).mpr ⟨b, hb, rfl⟩, fun q => hab ((nI_eq (by omega) (by omega)).mp q)⟩

theorem e_takeNode {text : Nat → Int32} (hX : rX tx L text) (hI : aInv V T) {p : Nat} (hp : p ≤ L) {x : Int32} : fX7_takeNode x (zI T) text (nI L) (nI (ee tx L p)) (nI (ss tx L p)) (nI (rt (kk tx L p))) (nu tx L p) (le tx L p) 0 = some (if iN (aNN T) (nu tx L p) ∧ ¬ (nu tx L p) = x then (nu tx L p, nI (ee tx L (ee tx L p)), nI (ss tx L (ee tx L p)), nI (rt (kk tx L (ee tx L p))), nu tx L (ee tx L p), le tx L (ee tx L p), 0) else (0, nI (ee tx L p), nI (ss tx L p), nI (rt (kk tx L p)), nu tx L p, le tx L p, 1)) := by
  obtain ⟨g1, g2, g3⟩ := ee_spec (tx := tx) hp
  have main : uX7_takeNode_16 x (nu tx L p) (zI T) text (nI L) (nI (ee tx L p)) (nI (ss tx L p)) (nI (rt (kk tx L p))) (nu tx L p) (le tx L p) 0 = some (if iN (aNN T) (nu tx L p) ∧ ¬ (nu tx L p) = x then (nu tx L p, nI (ee tx L (ee tx L p)), nI (ss tx L (ee tx L p)), nI (rt (kk tx L (ee tx L p))), nu tx L (ee tx L p), le tx L (ee tx L p), 0) else (0, nI (ee tx L p), nI (ss tx L p), nI (rt (kk tx L p)), nu tx L p, le tx L p, 1)) := by
    unfold uX7_takeNode_16 uX7_takeNode_35 uX7_takeNode_36
    rw [e_isNode hI, Option.bind_some, ite_bI, e_take_n, e_take_y hX g2 (by decide)]
    simp only [Option.bind_some]
    rw [if_pos trivial, if_neg (show ¬ (1 : Int32) = 0 by decide)]
    by_cases h1 : iN (aNN T) (nu tx L p)
    · rw [if_pos h1]
      by_cases h2 : nu tx L p = x
      · rw [if_pos h2, if_neg (fun q => q.2 h2)]
      · rw [if_neg h2, if_pos ⟨h1, h2⟩]
    · rw [if_neg h1, if_neg (fun q => h1 q.1)]
  unfold fX7_takeNode
  by_cases k2 : kk tx L p = 2
  · rw [if_pos (rt_1.mpr k2)]; exact main
  · rw [if_neg (fun q => k2 (rt_1.mp q))]
    rw [nu_not k2] at main ⊢
    exact main
theorem e_takeNode_w (hI : aInv V T) {text : Nat → Int32} {x l a b c d : Int32} {e : Int64} : fX7_takeNode x (zI T) text l a b c d e 1 = some (0, a, b, c, d, e, 1) := by
  have main : ∀ k0, uX7_takeNode_16 x k0 (zI T) text l a b c d e 1 = some (0, a, b, c, d, e, 1) := by
    intro k0
    unfold uX7_takeNode_16 uX7_takeNode_35 uX7_takeNode_36
    rw [e_isNode hI, Option.bind_some, e_take_w, e_take_w]
    simp only [Option.bind_some]
    rw [if_neg (show ¬ (1 : Int32) = 0 by decide)]
    split
    · rfl
    · split <;> rfl
  unfold fX7_takeNode
  rw [main, main]
  split <;> rfl
/-- a number read, in the class -/
abbrev cR (x lo hi ex : Int32) : Prop := ¬ x < lo ∧ ¬ hi < x ∧ ¬ x = ex
theorem c_readNumber {text : Nat → Int32} (hX : rX tx L text) {q : Nat} (hq : q ≤ L) {lo hi ex a b : Int32} : fX5_readNumber lo hi ex text (nI L) a (nI q) b (-1) = some (nu tx L q, nI (ss tx L q), nI (ee tx L q), nI (kk tx L q), if cR (nu tx L q) lo hi ex then -1 else nI (ss tx L q)) := by
  unfold fX5_readNumber
  rw [if_pos rfl, c_takeToken hX hq, Option.bind_some, c_tokenNumber hX hq, Option.bind_some]
  have e : ∀ v s e k, uX5_readNumber_38 v s e k = some (v, s, e, k, s) := fun v s e k => rfl
  rw [e]
  by_cases h1 : nu tx L q < lo
  · rw [if_pos h1, if_neg (fun z => z.1 h1)]
  · rw [if_neg h1]
    by_cases h2 : hi < nu tx L q
    · rw [if_pos h2, if_neg (fun z => z.2.1 h2)]
    · rw [if_neg h2]
      by_cases h3 : nu tx L q = ex
      · rw [if_pos h3, if_neg (fun z => z.2.2 h3)]
      · rw [if_neg h3, if_pos ⟨h1, h2, h3⟩]
theorem c_readNumber_w {text : Nat → Int32} {lo hi ex l a b c : Int32} {e : Nat} (he : e ≤ 120) : fX5_readNumber lo hi ex text l a b c (nI e) = some (-1, a, b, c, nI e) := by
  unfold fX5_readNumber
  rw [if_neg (nI_neg (by omega) (by decide))]
/-- the semicolon -/
abbrev sc (tx : Nat → Nat) (L q : Nat) : Prop := kk tx L q = 3 ∧ tx (ss tx L q) = 59
theorem c_semi {text : Nat → Int32} (hX : rX tx L text) {q : Nat} (hq : q ≤ L) {a b t f s c : Int32} : uX5_readItem_139 text (nI L) a (nI q) b (-1) t f s c = some (nI (ss tx L q), nI (ee tx L q), nI (kk tx L q), if sc tx L q then -1 else nI (ss tx L q), t, f, s, c) := by
  have hL := hX.1
  have hk := kd_le (tx := tx) (L := L) (j := ss tx L q)
  unfold uX5_readItem_139 fX5_readSemicolon
  rw [if_pos rfl, c_takeToken hX hq, Option.bind_some]
  have e : ∀ s e k, uX5_readSemicolon_35 s e k = some (s, e, k, s) := fun s e k => rfl
  rw [e, zl3, ite_eqN (by unfold kk; omega) (by omega)]
  by_cases k3 : kk tx L q = 3
  · have hs := kk_lt (tx := tx) (L := L) (p := q) (by omega)
    obtain ⟨x1, x2, x3⟩ := hX.2 _ hs
    rw [if_pos k3, gd_in (by omega), nI_cl (by omega), x3, zl59, ite_eqN (by omega) (by omega)]
    by_cases h : tx (ss tx L q) = 59
    · rw [if_pos h, if_pos ⟨k3, h⟩]; rfl
    · rw [if_neg h, if_neg (fun z => h z.2)]; rfl
  · rw [if_neg k3, if_neg (fun z => k3 z.1)]; rfl
theorem c_semi_w {text : Nat → Int32} {l a b k t f s c : Int32} {e : Nat} (he : e ≤ 120) : uX5_readItem_139 text l a b k (nI e) t f s c = some (a, b, k, nI e, t, f, s, c) := by
  unfold uX5_readItem_139 fX5_readSemicolon
  rw [if_neg (nI_neg (by omega) (by decide))]
  rfl
theorem rt_2 {p : Nat} : nI (rt (kk tx L p)) = (2 : Int32) ↔ kk tx L p = 3 := by
  have hk : kk tx L p ≤ 3 := kd_le
  rw [zl2, nI_eq (by unfold rt; split <;> omega) (by omega)]
  unfold rt
  split <;> omega
theorem e_semi {text : Nat → Int32} (hX : rX tx L text) {p : Nat} (hp : p ≤ L) {s : Nat → Int32} : uX7_readItem_160 s text (nI L) (nI (ee tx L p)) (nI (ss tx L p)) (nI (rt (kk tx L p))) (nu tx L p) (le tx L p) 0 = some (if sc tx L p then (s, nI (ee tx L (ee tx L p)), nI (ss tx L (ee tx L p)), nI (rt (kk tx L (ee tx L p))), nu tx L (ee tx L p), le tx L (ee tx L p), 0) else (s, nI (ee tx L p), nI (ss tx L p), nI (rt (kk tx L p)), nu tx L p, le tx L p, 1)) := by
  have hL := hX.1
  obtain ⟨g1, g2, g3⟩ := ee_spec (tx := tx) hp
  unfold uX7_readItem_160
  have e1 : uX7_readItem_195 1 s text (nI L) (nI (ee tx L p)) (nI (ss tx L p)) (nI (rt (kk tx L p))) (nu tx L p) (le tx L p) 0 = some (s, nI (ee tx L (ee tx L p)), nI (ss tx L (ee tx L p)), nI (rt (kk tx L (ee tx L p))), nu tx L (ee tx L p), le tx L (ee tx L p), 0) := by
    unfold uX7_readItem_195
    rw [e_take_y hX g2 (by decide)]; rfl
  have e2 : uX7_readItem_194 s text (nI L) (nI (ee tx L p)) (nI (ss tx L p)) (nI (rt (kk tx L p))) (nu tx L p) (le tx L p) 0 = some (s, nI (ee tx L p), nI (ss tx L p), nI (rt (kk tx L p)), nu tx L p, le tx L p, 1) := by
    unfold uX7_readItem_194 uX7_readItem_195
    rw [e_take_n]; rfl
  rw [if_pos rfl, e1, e2]
  by_cases k3 : kk tx L p = 3
  · have hs := kk_lt (tx := tx) (L := L) (p := p) (by omega)
    obtain ⟨x1, x2, x3⟩ := hX.2 _ hs
    rw [if_pos (rt_2.mpr k3), gd_in (by omega), nI_cl (by omega), x3, zl59, ite_eqN (by omega) (by omega)]
    by_cases h : tx (ss tx L p) = 59
    · rw [if_pos h, if_pos ⟨k3, h⟩]
    · rw [if_neg h, if_neg (fun z => h z.2)]
  · rw [if_neg (fun z => k3 (rt_2.mp z)), if_neg (fun z => k3 z.1)]
theorem e_semi_w {text : Nat → Int32} {l a b c d : Int32} {e : Int64} {s : Nat → Int32} : uX7_readItem_160 s text l a b c d e 1 = some (s, a, b, c, d, e, 1) := by
  unfold uX7_readItem_160
  rw [if_neg (by decide)]
  unfold uX7_readItem_194 uX7_readItem_195
  rw [e_take_w]; rfl
end P39r
