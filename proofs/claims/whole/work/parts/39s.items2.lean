/-! The text: whole items. -/
section P39s
variable {tx : Nat → Nat} {L : Nat} {T : zA} {V : Nat}
def jInv (T : zA) : Prop := aInv 1 T ∧ ∀ i, i < 16 → aGv T i = aGr T i
theorem j_node (h : jInv T) {a : Nat} (hn : aNN T < 10) (ha : a < 4) : jInv (aMkN T a) := by
  refine ⟨aMkN_inv h.1 hn ha, fun i hi => ?_⟩
  have e1 : aGv (aMkN T a) i = aGv T i := by
    unfold aGv aMkN
    dsimp only
    rw [un_ne (by omega), un_ne (by omega)]
  have e2 : aGr (aMkN T a) i = aGr T i := by
    unfold aGr aMkN
    dsimp only
    rw [un_ne (by omega), un_ne (by omega)]
  rw [e1, e2]; exact h.2 i hi
theorem j_link (h : jInv T) {f s c pr : Nat} (hn : aNL T < 16) (hf : f < aNN T) (hs : s < aNN T) (hfs : f ≠ s) (hc1 : 1 ≤ c) (hc : c ≤ 20) (hpr : pr ≤ 1) : jInv (aChL (aMkL0 T f s c pr) (aNL T) 1) := by
  refine ⟨aChL_inv (aMkL0_inv h.1 (by omega) hn hf hs hfs hc1 hc hpr) (by rw [aMkL0_n]; omega), fun i hi => ?_⟩
  unfold aGv aGr
  rw [aChL_1, aMkL0_ot (by omega) (by omega), aMkL0_ot (by omega) (by omega)]
  exact h.2 i hi
theorem j_tun (h : jInv T) {f s c : Nat} (hn : aNT T < 3) (hf : f < aNN T) (hs : s < aNN T) (hfs : f ≠ s) (hc1 : 1 ≤ c) (hc : c ≤ 40) : jInv (aChT (aMkT0 T f s c) (aNT T)) := by
  refine ⟨aChT_inv (aMkT0_inv h.1 (by omega) hn hf hs hfs hc1 hc) (by rw [aMkT0_n]; omega), fun i hi => ?_⟩
  unfold aGv aGr
  rw [aChT_1, aMkT0_ot (by omega) (by omega), aMkT0_ot (by omega) (by omega)]
  exact h.2 i hi
theorem aInv.low {V' : Nat} (h : aInv V' T) (h1 : ∀ k, k < aNL T → aL T k 5 ≤ V) (h2 : ∀ k, k < aNT T → aT T k 4 ≤ V) (h3 : ∀ i, i < 16 → aGv T i ≤ V) (h4 : ∀ n i, n < 10 → i < 35 → T.2 n i 0 ≤ V) : aInv V T := by
  obtain ⟨i1, i2, i3, i4, i5, i6, i7, i8, i9⟩ := h
  refine ⟨i1, i2, fun k hk => ?_, i4, fun k hk => ?_, i6, fun i hi => ?_, i8, fun n i hn hi => ?_⟩
  · obtain ⟨a, b, c, d, e, f, g, j, l⟩ := i3 k hk
    exact ⟨a, b, c, d, e, f, g, j, h1 k hk⟩
  · obtain ⟨a, b, c, d, e, f, g, j⟩ := i5 k hk
    exact ⟨a, b, c, d, e, f, g, h2 k hk⟩
  · obtain ⟨a, b, c⟩ := i7 i hi
    exact ⟨a, h3 i hi, c⟩
  · obtain ⟨a, b⟩ := i9 n i hn hi
    exact ⟨h4 n i hn hi, b⟩
theorem j_grant (h : jInv T) {o b : Nat} (ho : o < 4) (hb : b < 4) (hob : o ≠ b) (hg : aGr T (4 * o + b) = 0) : jInv (aChG T o b 1) := by
  have hI := h.1
  have hgv : aGv T (4 * o + b) = 0 := by rw [h.2 _ (by omega)]; exact hg
  have hI2 : aInv 2 (aSG T (4 * o + b) 1) := aSG_inv hI (by omega) (by omega) (by omega)
  have eL : aNL (aSG T (4 * o + b) 1) = aNL T := aSG_ot (by omega) (by omega)
  have eT : aNT (aSG T (4 * o + b) 1) = aNT T := aSG_ot (by omega) (by omega)
  have eN : aNN (aSG T (4 * o + b) 1) = aNN T := aSG_ot (by omega) (by omega)
  have hI3 : aInv 1 (aSG T (4 * o + b) 1) := by
    refine hI2.low (fun k hk => ?_) (fun k hk => ?_) (fun i hi => ?_) (fun n i hn hi => ?_)
    · have e : aL (aSG T (4 * o + b) 1) k 5 = aL T k 5 := aSG_ot (by omega) (by omega)
      rw [e]; exact (hI.2.2.1 k (by omega)).2.2.2.2.2.2.2.2
    · have e : aT (aSG T (4 * o + b) 1) k 4 = aT T k 4 := aSG_ot (by omega) (by omega)
      rw [e]; exact (hI.2.2.2.2.1 k (by omega)).2.2.2.2.2.2.2
    · by_cases hx : i = 4 * o + b
      · subst hx; rw [aSG_v, hgv]; exact Nat.le_refl 1
      · have e : aGv (aSG T (4 * o + b) 1) i = aGv T i := aSG_ot (by omega) (by omega)
        rw [e]; exact (hI.2.2.2.2.2.2.1 i hi).2.1
    · exact (hI.db hn hi).1
  rw [aChG_eq]
  refine ⟨aGrB_inv hI3 (by omega) (by omega) (by rw [aSG_v]; omega) (by omega) _ (by omega), fun i hi => ?_⟩
  unfold aGv aGr
  rw [aGrB_1]
  by_cases hx : i = 4 * o + b
  · subst hx
    show aGv (aSG T (4 * o + b) 1) (4 * o + b) = aGr (aSG T (4 * o + b) 1) (4 * o + b)
    rw [aSG_v, aSG_g, hgv]
  · rw [aSG_ot (by omega) (by omega), aSG_ot (by omega) (by omega)]
    exact h.2 i hi
theorem ee_ge {p : Nat} (hp : p ≤ L) : p ≤ ee tx L p ∧ ee tx L p ≤ L ∧ ss tx L p ≤ L := by
  obtain ⟨g1, g2, g3⟩ := ee_spec (tx := tx) hp
  have := (ss_spec (tx := tx) (L := L) p).1
  omega

/-- what an item's reading gives: both fail at one place, or both go on -/
def iOut (tx : Nat → Nat) (L : Nat) (N : zNet) (p : Nat) (r : (Nat → Int32) × Int32 × Int32 × Int32 × Int32 × Int64 × Int32) (y : Int32 × Int32 × Int32 × Int32 × Int32 × Int32 × Int32 × Int32) : Prop :=
  (∃ e, e ≤ 120 ∧ r.2.2.1 = nI e ∧ r.2.2.2.2.2.2 = 1 ∧ y.2.2.2.1 = nI e) ∨
  (∃ T' q, p < q ∧ q ≤ L ∧ r = (zI T', nI (ee tx L q), nI (ss tx L q), nI (rt (kk tx L q)), nu tx L q, le tx L q, 0) ∧ y.2.1 = nI q ∧ y.2.2.2.1 = -1 ∧ jInv T' ∧ ∃ m, fX5_addThing y.2.2.2.2.1 y.2.2.2.2.2.1 y.2.2.2.2.2.2.1 y.2.2.2.2.2.2.2 N.1 N.2.1 N.2.2.1 N.2.2.2.2.1 N.2.2.2.2.2.1 N.2.2.2.2.2.2.1 N.2.2.2.2.2.2.2.1 N.2.2.2.2.2.2.2.2.1 N.2.2.2.2.2.2.2.2.2.1 N.2.2.2.2.2.2.2.2.2.2.1 N.2.2.2.2.2.2.2.2.2.2.2.1 N.2.2.2.2.2.2.2.2.2.2.2.2 = some m ∧ aRel T' (m.1, m.2.1, m.2.2.1, N.2.2.2.1, m.2.2.2.1, m.2.2.2.2.1, m.2.2.2.2.2.1, m.2.2.2.2.2.2.1, m.2.2.2.2.2.2.2.1, m.2.2.2.2.2.2.2.2.1, m.2.2.2.2.2.2.2.2.2.1, m.2.2.2.2.2.2.2.2.2.2.1, m.2.2.2.2.2.2.2.2.2.2.2))
theorem iOut_bad {N : zNet} {p e : Nat} (he : e ≤ 120) {s : Nat → Int32} {a b c x1 x2 x3 x4 x5 x6 x7 : Int32} {d : Int64} : iOut tx L N p (s, a, nI e, b, c, d, 1) (x1, x2, x3, nI e, x4, x5, x6, x7) := Or.inl ⟨e, he, rfl, rfl, rfl⟩
theorem iOut_semi {text textX : Nat → Int32} (hX : rX tx L text) (hY : rX tx L textX) {N : zNet} {T' : zA} (hJ : jInv T') {p q : Nat} (hpq : p < q) (hq : q ≤ L) {a b t f s c : Int32} (hm : ∃ m, fX5_addThing t f s c N.1 N.2.1 N.2.2.1 N.2.2.2.2.1 N.2.2.2.2.2.1 N.2.2.2.2.2.2.1 N.2.2.2.2.2.2.2.1 N.2.2.2.2.2.2.2.2.1 N.2.2.2.2.2.2.2.2.2.1 N.2.2.2.2.2.2.2.2.2.2.1 N.2.2.2.2.2.2.2.2.2.2.2.1 N.2.2.2.2.2.2.2.2.2.2.2.2 = some m ∧ aRel T' (m.1, m.2.1, m.2.2.1, N.2.2.2.1, m.2.2.2.1, m.2.2.2.2.1, m.2.2.2.2.2.1, m.2.2.2.2.2.2.1, m.2.2.2.2.2.2.2.1, m.2.2.2.2.2.2.2.2.1, m.2.2.2.2.2.2.2.2.2.1, m.2.2.2.2.2.2.2.2.2.2.1, m.2.2.2.2.2.2.2.2.2.2.2)) :
    ∃ r y, uX7_readItem_160 (zI T') text (nI L) (nI (ee tx L q)) (nI (ss tx L q)) (nI (rt (kk tx L q))) (nu tx L q) (le tx L q) 0 = some r ∧ uX5_readItem_139 textX (nI L) a (nI q) b (-1) t f s c = some y ∧ iOut tx L N p r y := by
  have hL := hX.1
  have g := ee_ge (tx := tx) hq
  refine ⟨_, _, e_semi hX hq, c_semi hY hq, ?_⟩
  by_cases h : sc tx L q
  · rw [if_pos h, if_pos h]
    exact Or.inr ⟨T', ee tx L q, by omega, by omega, rfl, rfl, rfl, hJ, hm⟩
  · rw [if_neg h, if_neg h]
    exact iOut_bad (by omega)
theorem oN_cR0 {x hi : Int32} : cR x 0 hi (-1) ↔ oN x 0 hi := ⟨fun q => ⟨q.1, q.2.1⟩, fun q => ⟨q.1, q.2, fun z => q.1 (by rw [z]; decide)⟩⟩
theorem oN_cR1 {x hi : Int32} : cR x 1 hi (-1) ↔ oN x 1 hi := ⟨fun q => ⟨q.1, q.2.1⟩, fun q => ⟨q.1, q.2, fun z => q.1 (by rw [z]; decide)⟩⟩
theorem iN_cR {n : Nat} (hn : n < 2 ^ 30) {x : Int32} : cR x 0 (nI n - 1) (-1) ↔ iN n x := oN_cR0.trans (iN_sub hn)
theorem iN_cR2 {n : Nat} (hn : n < 2 ^ 30) {x y : Int32} : cR x 0 (nI n - 1) y ↔ (iN n x ∧ ¬ x = y) := ⟨fun q => ⟨(iN_sub hn).mp ⟨q.1, q.2.1⟩, q.2.2⟩, fun q => ⟨((iN_sub hn).mpr q.1).1, ((iN_sub hn).mpr q.1).2, q.2⟩⟩
theorem iN_9 {n : Nat} {x : Int32} : (iN n x ∧ ¬ x = -9) ↔ iN n x := ⟨fun q => q.1, fun q => ⟨q, fun z => q.1 (by rw [z]; decide)⟩⟩
theorem oN_ex {x : Int32} {a b : Nat} (hb : b < 2 ^ 31) (ha : a < 2 ^ 31) : oN x (nI a) (nI b) ↔ ∃ n, a ≤ n ∧ n ≤ b ∧ x = nI n := by
  constructor
  · intro h
    have h0 : ¬ x < 0 := fun z => h.1 (by
      have z1 := Int32.lt_iff_toInt_lt.mp z
      have z2 : (0 : Int32).toInt = 0 := rfl
      rw [Int32.lt_iff_toInt_lt, nI_toInt ha]
      omega)
    obtain ⟨j, hj, rfl⟩ := nI_of h0
    rw [oN, nI_ltI hj ha, nI_ltI hb hj] at h
    exact ⟨j, by omega, by omega, rfl⟩
  · rintro ⟨n, h1, h2, rfl⟩
    rw [oN, nI_ltI (by omega) ha, nI_ltI hb (by omega)]
    omega

theorem item_node {text textX : Nat → Int32} (hX : rX tx L text) (hY : rX tx L textX) (hJ : jInv T) {N : zNet} (hR : aRel T N) {p : Nat} (hp : p ≤ L) (hk : ¬ kk tx L p = 0) {b2 b3 : Int32} :
    ∃ r y, (if (10 : Int32) ≤ nI (aNN T) then uX7_readItem_41 (0 : Int32) (zI T) text (nI L) (nI (ee tx L p)) (nI (ss tx L p)) (nI (rt (kk tx L p))) (nu tx L p) (le tx L p) 0 else uX7_readItem_41 (1 : Int32) (zI T) text (nI L) (nI (ee tx L p)) (nI (ss tx L p)) (nI (rt (kk tx L p))) (nu tx L p) (le tx L p) 0) = some r ∧ ((fX5_readNode textX (nI L) (nI (ss tx L p)) (nI (ee tx L p)) (nI (kk tx L p)) (-1) (nI (aNN T))).bind (fun y2 => uX5_readItem_139 textX (nI L) y2.1 y2.2.1 y2.2.2.1 y2.2.2.2.1 (nI 1) y2.2.2.2.2 b2 b3)) = some y ∧ iOut tx L N p r y := by
  have hL := hX.1
  have h10 := hJ.1.1.1
  have g1 := ee_ge (tx := tx) hp
  have g2 := ee_ge (tx := tx) g1.2.1
  have g3 := (ee_spec (tx := tx) hp).2.2 hk
  have g4 := (ss_spec (tx := tx) (L := L) p).1
  unfold fX5_readNode
  rw [zl10, ite_leN (by omega) (by omega), ite_ltN (by omega) (by omega)]
  by_cases hn : aNN T < 10
  · rw [if_neg (by omega), if_pos hn]
    unfold uX7_readItem_41 uX5_readNode_13
    rw [e_take_y hX g1.2.1 (by decide), Option.bind_some, e_takeNumber hX g1.2.1, Option.bind_some, c_readNumber hY g1.2.1, Option.bind_some, Option.bind_some]
    by_cases ho : oN (nu tx L (ee tx L p)) 0 3
    · obtain ⟨a, ha1, ha2, ha⟩ := (oN_ex (a := 0) (b := 3) (by omega) (by omega)).mp ho
      rw [if_pos ho, if_pos (oN_cR0.mpr ho)]
      dsimp only
      rw [if_pos rfl, ha, e_makeNode hJ.1 hn, Option.bind_some]
      dsimp only
      unfold uX7_readItem_67
      rw [if_pos rfl, if_pos (nI_pos' (by omega))]
      unfold uX7_readItem_87
      rw [gd_t bz0]
      refine iOut_semi hX hY (j_node hJ hn (by omega)) (by omega) g2.2.1 ?_
      obtain ⟨q, c1, c2, c3⟩ := c_createNode hJ.1 hR (a := a) hn
      unfold fX5_addThing
      rw [if_pos zl1.symm, c1]
      exact ⟨_, rfl, c3⟩
    · rw [if_neg ho, if_neg (fun q => ho (oN_cR0.mp q))]
      dsimp only
      rw [if_neg (by decide), c_semi_w (by omega)]
      unfold uX7_readItem_67 uX7_readItem_82 uX7_readItem_87
      rw [if_neg (by decide), gd_t bz1, e_semi_w]
      exact ⟨_, _, rfl, rfl, iOut_bad (by omega)⟩
  · have e : fX5_fail (nI (ss tx L p)) = some (nI (ss tx L p)) := rfl
    rw [if_pos (by omega), if_neg hn, e, Option.bind_some]
    unfold uX7_readItem_41 uX5_readNode_13
    rw [e_take_n, Option.bind_some, e_takeNumber_w, Option.bind_some, c_readNumber_w (by omega), Option.bind_some, Option.bind_some]
    dsimp only
    rw [if_neg (by decide), c_semi_w (by omega)]
    unfold uX7_readItem_67 uX7_readItem_82 uX7_readItem_87
    rw [if_neg (by decide), gd_t bz1, e_semi_w]
    exact ⟨_, _, rfl, rfl, iOut_bad (by omega)⟩

theorem c_line {text : Nat → Int32} (hX : rX tx L text) (hI : aInv V T) {p : Nat} (hp : p ≤ L) {hi : Nat} : fX5_readLine 1 (nI hi) text (nI L) (nI (ss tx L p)) (nI (ee tx L p)) (nI (kk tx L p)) (-1) (nI (aNN T)) =
    some (if iN (aNN T) (nu tx L (ee tx L p)) then (if (iN (aNN T) (nu tx L (ee tx L (ee tx L p))) ∧ ¬ (nu tx L (ee tx L (ee tx L p))) = (nu tx L (ee tx L p))) then (if oN (nu tx L (ee tx L (ee tx L (ee tx L p)))) 1 (nI hi) then (nI (ss tx L (ee tx L (ee tx L (ee tx L p)))), nI (ee tx L (ee tx L (ee tx L (ee tx L p)))), nI (kk tx L (ee tx L (ee tx L (ee tx L p)))), -1, nu tx L (ee tx L p), nu tx L (ee tx L (ee tx L p)), nu tx L (ee tx L (ee tx L (ee tx L p)))) else (nI (ss tx L (ee tx L (ee tx L (ee tx L p)))), nI (ee tx L (ee tx L (ee tx L (ee tx L p)))), nI (kk tx L (ee tx L (ee tx L (ee tx L p)))), nI (ss tx L (ee tx L (ee tx L (ee tx L p)))), nu tx L (ee tx L p), nu tx L (ee tx L (ee tx L p)), nu tx L (ee tx L (ee tx L (ee tx L p))))) else (nI (ss tx L (ee tx L (ee tx L p))), nI (ee tx L (ee tx L (ee tx L p))), nI (kk tx L (ee tx L (ee tx L p))), nI (ss tx L (ee tx L (ee tx L p))), nu tx L (ee tx L p), nu tx L (ee tx L (ee tx L p)), -1)) else (nI (ss tx L (ee tx L p)), nI (ee tx L (ee tx L p)), nI (kk tx L (ee tx L p)), nI (ss tx L (ee tx L p)), nu tx L (ee tx L p), -1, -1)) := by
  have hL := hX.1
  have h10 := hI.1.1
  have g1 := ee_ge (tx := tx) hp
  have g2 := ee_ge (tx := tx) g1.2.1
  have g3 := ee_ge (tx := tx) g2.2.1
  have g4 := ee_ge (tx := tx) g3.2.1
  unfold fX5_readLine
  rw [if_neg (by decide)]
  unfold uX5_readLine_8
  rw [c_readNumber hX g1.2.1, Option.bind_some]
  by_cases h1 : iN (aNN T) (nu tx L (ee tx L p))
  · rw [if_pos h1, if_pos ((iN_cR (by omega)).mpr h1)]
    dsimp only
    rw [c_readNumber hX g2.2.1, Option.bind_some]
    by_cases h2 : (iN (aNN T) (nu tx L (ee tx L (ee tx L p))) ∧ ¬ (nu tx L (ee tx L (ee tx L p))) = (nu tx L (ee tx L p)))
    · rw [if_pos h2, if_pos ((iN_cR2 (by omega)).mpr h2)]
      dsimp only
      rw [c_readNumber hX g3.2.1, Option.bind_some]
      by_cases h3 : oN (nu tx L (ee tx L (ee tx L (ee tx L p)))) 1 (nI hi)
      · rw [if_pos h3, if_pos (oN_cR1.mpr h3)]
      · rw [if_neg h3, if_neg (fun q => h3 (oN_cR1.mp q))]
    · rw [if_neg h2, if_neg (fun q => h2 ((iN_cR2 (by omega)).mp q))]
      dsimp only
      rw [c_readNumber_w (by omega), Option.bind_some]
  · rw [if_neg h1, if_neg (fun q => h1 ((iN_cR (by omega)).mp q))]
    dsimp only
    rw [c_readNumber_w (by omega), Option.bind_some, c_readNumber_w (by omega), Option.bind_some]
theorem c_line_0 {text : Nat → Int32} (hL : L ≤ 120) (hI : aInv V T) {p : Nat} (hp : p ≤ L) {hi : Int32} : fX5_readLine 0 hi text (nI L) (nI (ss tx L p)) (nI (ee tx L p)) (nI (kk tx L p)) (-1) (nI (aNN T)) = some (nI (ss tx L p), nI (ee tx L p), nI (kk tx L p), nI (ss tx L p), -1, -1, -1) := by
  have g1 := ee_ge (tx := tx) hp
  have e : fX5_fail (nI (ss tx L p)) = some (nI (ss tx L p)) := rfl
  unfold fX5_readLine
  rw [if_pos rfl, e, Option.bind_some]
  unfold uX5_readLine_8
  rw [c_readNumber_w (by omega), Option.bind_some, c_readNumber_w (by omega), Option.bind_some, c_readNumber_w (by omega), Option.bind_some]

theorem e_readLink {text : Nat → Int32} (hX : rX tx L text) (hI : aInv V T) {p pr : Nat} (hp : p ≤ L) : fX7_readLink (nI pr) (zI T) text (nI L) (nI (ee tx L p)) (nI (ss tx L p)) (nI (rt (kk tx L p))) (nu tx L p) (le tx L p) 0 =
    if aNL T < 16 then (if iN (aNN T) (nu tx L (ee tx L p)) then (if (iN (aNN T) (nu tx L (ee tx L (ee tx L p))) ∧ ¬ (nu tx L (ee tx L (ee tx L p))) = (nu tx L (ee tx L p))) then (if oN (nu tx L (ee tx L (ee tx L (ee tx L p)))) 1 (nI 20) then ((fX7_makeLink (nu tx L (ee tx L p)) (nu tx L (ee tx L (ee tx L p))) (nu tx L (ee tx L (ee tx L (ee tx L p)))) (nI pr) (zI T)).bind (fun y6 => some (y6.2, nI (ee tx L (ee tx L (ee tx L (ee tx L (ee tx L p))))), nI (ss tx L (ee tx L (ee tx L (ee tx L (ee tx L p))))), nI (rt (kk tx L (ee tx L (ee tx L (ee tx L (ee tx L p)))))), nu tx L (ee tx L (ee tx L (ee tx L (ee tx L p)))), le tx L (ee tx L (ee tx L (ee tx L (ee tx L p)))), 0))) else some (zI T, nI (ee tx L (ee tx L (ee tx L (ee tx L p)))), nI (ss tx L (ee tx L (ee tx L (ee tx L p)))), nI (rt (kk tx L (ee tx L (ee tx L (ee tx L p))))), nu tx L (ee tx L (ee tx L (ee tx L p))), le tx L (ee tx L (ee tx L (ee tx L p))), 1)) else some (zI T, nI (ee tx L (ee tx L (ee tx L p))), nI (ss tx L (ee tx L (ee tx L p))), nI (rt (kk tx L (ee tx L (ee tx L p)))), nu tx L (ee tx L (ee tx L p)), le tx L (ee tx L (ee tx L p)), 1)) else some (zI T, nI (ee tx L (ee tx L p)), nI (ss tx L (ee tx L p)), nI (rt (kk tx L (ee tx L p))), nu tx L (ee tx L p), le tx L (ee tx L p), 1)) else some (zI T, nI (ee tx L p), nI (ss tx L p), nI (rt (kk tx L p)), nu tx L p, le tx L p, 1) := by
  have hL := hX.1
  have hb := hI.1
  have g1 := ee_ge (tx := tx) hp
  have g2 := ee_ge (tx := tx) g1.2.1
  have g3 := ee_ge (tx := tx) g2.2.1
  unfold fX7_readLink
  rw [show vp_in (1 : Int32) 1557 = vp_in (nI 1) 1557 from rfl, gd_in (by omega), show (1 : Int32).toNatClampNeg = 1 from rfl, zI_h (by omega), show (16 : Int32) = nI 16 from rfl, ite_leN (show 16 < 2 ^ 31 by omega) (show aNL T < 2 ^ 31 by omega)]
  by_cases hn : aNL T < 16
  · rw [if_pos hn, if_neg (show ¬ 16 ≤ aNL T by omega)]
    unfold uX7_readLink_17
    rw [e_take_y hX g1.2.1 (by decide), Option.bind_some, e_takeNode hX hI g1.2.1, Option.bind_some]
    by_cases h1 : iN (aNN T) (nu tx L (ee tx L p))
    · rw [if_pos h1, if_pos (iN_9.mpr h1)]
      dsimp only
      rw [e_takeNode hX hI g2.2.1, Option.bind_some]
      by_cases h2 : (iN (aNN T) (nu tx L (ee tx L (ee tx L p))) ∧ ¬ (nu tx L (ee tx L (ee tx L p))) = (nu tx L (ee tx L p)))
      · rw [if_pos h2, if_pos h2]
        dsimp only
        rw [zl20, e_takeNumber hX g3.2.1, Option.bind_some]
        by_cases h3 : oN (nu tx L (ee tx L (ee tx L (ee tx L p)))) 1 (nI 20)
        · rw [if_pos h3, if_pos h3]
          dsimp only
          rw [if_pos rfl]
        · rw [if_neg h3, if_neg h3]
          dsimp only
          rw [if_neg (by decide)]
      · rw [if_neg h2, if_neg h2]
        dsimp only
        rw [e_takeNumber_w, Option.bind_some]
        dsimp only
        rw [if_neg (by decide)]
    · rw [if_neg h1, if_neg (fun q => h1 (iN_9.mp q))]
      dsimp only
      rw [e_takeNode_w hI, Option.bind_some]
      dsimp only
      rw [e_takeNumber_w, Option.bind_some]
      dsimp only
      rw [if_neg (by decide)]
  · rw [if_neg hn, if_pos (show 16 ≤ aNL T by omega)]
    unfold uX7_readLink_17
    rw [e_take_n, Option.bind_some]
    dsimp only
    rw [e_takeNode_w hI, Option.bind_some]
    dsimp only
    rw [e_takeNode_w hI, Option.bind_some]
    dsimp only
    rw [e_takeNumber_w, Option.bind_some]
    dsimp only
    rw [if_neg (by decide)]

theorem e_readTunnel {text : Nat → Int32} (hX : rX tx L text) (hI : aInv V T) {p : Nat} (hp : p ≤ L) : fX7_readTunnel (zI T) text (nI L) (nI (ee tx L p)) (nI (ss tx L p)) (nI (rt (kk tx L p))) (nu tx L p) (le tx L p) 0 =
    if aNT T < 3 then (if iN (aNN T) (nu tx L (ee tx L p)) then (if (iN (aNN T) (nu tx L (ee tx L (ee tx L p))) ∧ ¬ (nu tx L (ee tx L (ee tx L p))) = (nu tx L (ee tx L p))) then (if oN (nu tx L (ee tx L (ee tx L (ee tx L p)))) 1 (nI 40) then ((fX7_makeTunnel (nu tx L (ee tx L p)) (nu tx L (ee tx L (ee tx L p))) (nu tx L (ee tx L (ee tx L (ee tx L p)))) (zI T)).bind (fun y6 => some (y6.2, nI (ee tx L (ee tx L (ee tx L (ee tx L (ee tx L p))))), nI (ss tx L (ee tx L (ee tx L (ee tx L (ee tx L p))))), nI (rt (kk tx L (ee tx L (ee tx L (ee tx L (ee tx L p)))))), nu tx L (ee tx L (ee tx L (ee tx L (ee tx L p)))), le tx L (ee tx L (ee tx L (ee tx L (ee tx L p)))), 0))) else some (zI T, nI (ee tx L (ee tx L (ee tx L (ee tx L p)))), nI (ss tx L (ee tx L (ee tx L (ee tx L p)))), nI (rt (kk tx L (ee tx L (ee tx L (ee tx L p))))), nu tx L (ee tx L (ee tx L (ee tx L p))), le tx L (ee tx L (ee tx L (ee tx L p))), 1)) else some (zI T, nI (ee tx L (ee tx L (ee tx L p))), nI (ss tx L (ee tx L (ee tx L p))), nI (rt (kk tx L (ee tx L (ee tx L p)))), nu tx L (ee tx L (ee tx L p)), le tx L (ee tx L (ee tx L p)), 1)) else some (zI T, nI (ee tx L (ee tx L p)), nI (ss tx L (ee tx L p)), nI (rt (kk tx L (ee tx L p))), nu tx L (ee tx L p), le tx L (ee tx L p), 1)) else some (zI T, nI (ee tx L p), nI (ss tx L p), nI (rt (kk tx L p)), nu tx L p, le tx L p, 1) := by
  have hL := hX.1
  have hb := hI.1
  have g1 := ee_ge (tx := tx) hp
  have g2 := ee_ge (tx := tx) g1.2.1
  have g3 := ee_ge (tx := tx) g2.2.1
  unfold fX7_readTunnel
  rw [show vp_in (2 : Int32) 1557 = vp_in (nI 2) 1557 from rfl, gd_in (by omega), show (2 : Int32).toNatClampNeg = 2 from rfl, zI_h (by omega), show (3 : Int32) = nI 3 from rfl, ite_leN (show 3 < 2 ^ 31 by omega) (show aNT T < 2 ^ 31 by omega)]
  by_cases hn : aNT T < 3
  · rw [if_pos hn, if_neg (show ¬ 3 ≤ aNT T by omega)]
    unfold uX7_readTunnel_16
    rw [e_take_y hX g1.2.1 (by decide), Option.bind_some, e_takeNode hX hI g1.2.1, Option.bind_some]
    by_cases h1 : iN (aNN T) (nu tx L (ee tx L p))
    · rw [if_pos h1, if_pos (iN_9.mpr h1)]
      dsimp only
      rw [e_takeNode hX hI g2.2.1, Option.bind_some]
      by_cases h2 : (iN (aNN T) (nu tx L (ee tx L (ee tx L p))) ∧ ¬ (nu tx L (ee tx L (ee tx L p))) = (nu tx L (ee tx L p)))
      · rw [if_pos h2, if_pos h2]
        dsimp only
        rw [zl40, e_takeNumber hX g3.2.1, Option.bind_some]
        by_cases h3 : oN (nu tx L (ee tx L (ee tx L (ee tx L p)))) 1 (nI 40)
        · rw [if_pos h3, if_pos h3]
          dsimp only
          rw [if_pos rfl]
        · rw [if_neg h3, if_neg h3]
          dsimp only
          rw [if_neg (by decide)]
      · rw [if_neg h2, if_neg h2]
        dsimp only
        rw [e_takeNumber_w, Option.bind_some]
        dsimp only
        rw [if_neg (by decide)]
    · rw [if_neg h1, if_neg (fun q => h1 (iN_9.mp q))]
      dsimp only
      rw [e_takeNode_w hI, Option.bind_some]
      dsimp only
      rw [e_takeNumber_w, Option.bind_some]
      dsimp only
      rw [if_neg (by decide)]
  · rw [if_neg hn, if_pos (show 3 ≤ aNT T by omega)]
    unfold uX7_readTunnel_16
    rw [e_take_n, Option.bind_some]
    dsimp only
    rw [e_takeNode_w hI, Option.bind_some]
    dsimp only
    rw [e_takeNode_w hI, Option.bind_some]
    dsimp only
    rw [e_takeNumber_w, Option.bind_some]
    dsimp only
    rw [if_neg (by decide)]

end P39s
