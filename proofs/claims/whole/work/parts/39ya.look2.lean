/-! The calls that look (2). -/
section P39ya
variable {V : Nat} {X : zX} {M : zM} {T : zA}
theorem op_node (hV : V < 2 ^ 20) (h : zRel V X M) (x y : Int32) : zOp V (gX_node X x y) (gM_node M x y) := by
  refine z_look h ?_
  obtain ⟨T, S, sz, tl, ⟨n1, n2, n3⟩, ⟨s1, s2, s3⟩, ⟨t1, t2, t3, t4⟩, ⟨w1, w2⟩⟩ := h
  have hb := n1.1
  have hp : fX6_isNode x X.2.1.1 = some (bI (iN (aNN T) x)) := by rw [n2.1]; exact c_isNode
  unfold fX6_node fX7_node
  rw [n3, hp, e_isNode n1, show fX7_in y (0 : Int32) (4 : Int32) = some (bI (oN y (nI 0) (nI 4))) from e_in3]
  simp only [Option.bind_some, ite_bI]
  by_cases h1 : iN (aNN T) x
  · rw [if_pos h1, if_pos h1]
    obtain ⟨n, hn, rfl⟩ := (iN_ex (by omega)).mp h1
    by_cases h2 : oN y (nI 0) (nI 4)
    · rw [if_pos h2]
      obtain ⟨p, -, hp4, rfl⟩ := (oN_ex (by omega) (by omega)).mp h2
      rcases (show p = 0 ∨ p = 1 ∨ p = 2 ∨ p = 3 ∨ p = 4 by omega) with rfl | rfl | rfl | rfl | rfl
      · rw [if_pos zl0.symm, if_pos zl0.symm, gd_in (by omega), nI_cl (by omega), n2.2.2.2.2.1 n hn, e_area (by omega)]
        exact ⟨_, _, rfl, rfl⟩
      · rw [if_neg (show ¬ nI 1 = 0 by decide), if_neg (show ¬ nI 1 = 0 by decide), if_pos zl1.symm, if_pos zl1.symm, c_facts n1 hV n2.2.2.2.2.2.2.2.2.1 (by omega), e_facts n1 hV (by omega)]
        exact ⟨_, _, rfl, rfl⟩
      · rw [if_neg (show ¬ nI 2 = 0 by decide), if_neg (show ¬ nI 2 = 0 by decide), if_neg (show ¬ nI 2 = 1 by decide), if_neg (show ¬ nI 2 = 1 by decide), if_pos zl2.symm, if_pos zl2.symm, gd_in (by omega), nI_cl (by omega), c_bitCount (d := fun i => T.2 n i 3) (fun i hi => (n1.db (by omega) hi).2.2.2.1) (fun j hj => n2.2.2.2.2.2.2.2.2.2 n j (by omega) hj), e_newsOf (by omega)]
        exact ⟨_, _, rfl, rfl⟩
      · rw [if_neg (show ¬ nI 3 = 0 by decide), if_neg (show ¬ nI 3 = 0 by decide), if_neg (show ¬ nI 3 = 1 by decide), if_neg (show ¬ nI 3 = 1 by decide), if_neg (show ¬ nI 3 = 2 by decide), if_neg (show ¬ nI 3 = 2 by decide), if_pos zl3.symm, if_pos zl3.symm, c_behind n1 hV n2 hn, e_behind n1 hV (by omega)]
        exact ⟨_, _, rfl, rfl⟩
      · rw [if_neg (show ¬ nI 4 = 0 by decide), if_neg (show ¬ nI 4 = 0 by decide), if_neg (show ¬ nI 4 = 1 by decide), if_neg (show ¬ nI 4 = 1 by decide), if_neg (show ¬ nI 4 = 2 by decide), if_neg (show ¬ nI 4 = 2 by decide), if_neg (show ¬ nI 4 = 3 by decide), if_neg (show ¬ nI 4 = 3 by decide), if_pos zl4.symm, c_secrets n1 hV n2 hn, e_secrets n1 hV (by omega)]
        exact ⟨_, _, rfl, rfl⟩
    · rw [if_neg h2, if_neg (fun q => h2 (by rw [q]; exact ⟨by decide, by decide⟩)), if_neg (fun q => h2 (by rw [q]; exact ⟨by decide, by decide⟩)), if_neg (fun q => h2 (by rw [q]; exact ⟨by decide, by decide⟩)), if_neg (fun q => h2 (by rw [q]; exact ⟨by decide, by decide⟩)), if_neg (fun q => h2 (by rw [q]; exact ⟨by decide, by decide⟩))]
      exact ⟨_, _, rfl, rfl⟩
  · rw [if_neg h1, if_neg h1]
    exact ⟨_, _, rfl, rfl⟩

theorem op_link (hV : V < 2 ^ 20) (h : zRel V X M) (x y : Int32) : zOp V (gX_link X x y) (gM_link M x y) := by
  refine z_look h ?_
  obtain ⟨T, S, sz, tl, ⟨n1, n2, n3⟩, ⟨s1, s2, s3⟩, ⟨t1, t2, t3, t4⟩, ⟨w1, w2⟩⟩ := h
  have hb := n1.1
  have hp : fX6_isLink x X.2.1.2.1 = some (bI (iN (aNL T) x)) := by rw [n2.2.1]; exact c_isLink
  unfold fX6_link fX7_link
  rw [n3, hp, e_isLink n1, show fX7_in y (0 : Int32) (5 : Int32) = some (bI (oN y (nI 0) (nI 5))) from e_in3]
  simp only [Option.bind_some, ite_bI]
  by_cases h1 : iN (aNL T) x
  · rw [if_pos h1, if_pos h1]
    obtain ⟨k, hk, rfl⟩ := (iN_ex (by omega)).mp h1
    have hl := n1.2.2.1 k hk
    have et := n2.2.2.2.2.2.2.2.1 (16 + k) (by omega)
    rw [(aTx_l (T := T) (k := k) (by omega)).1, (aTx_l (T := T) (k := k) (by omega)).2.1, (aTx_l (T := T) (k := k) (by omega)).2.2] at et
    rw [zl16, nI_add, gd_in (by omega), nI_cl (show 16 + k < 2 ^ 31 by omega), nm_eq, et]
    by_cases h2 : oN y (nI 0) (nI 5)
    · rw [if_pos h2]
      obtain ⟨p, -, hp4, rfl⟩ := (oN_ex (by omega) (by omega)).mp h2
      rw [e_linkPart (by omega) (by omega)]
      rcases (show p = 0 ∨ p = 1 ∨ p = 2 ∨ p = 3 ∨ p = 4 ∨ p = 5 by omega) with rfl | rfl | rfl | rfl | rfl | rfl
      · rw [if_pos zl0.symm, gd_in (by omega), nI_cl (show k < 2 ^ 31 by omega), (n2.2.2.2.2.2.1 k hk).1]
        exact ⟨_, _, rfl, rfl⟩
      · rw [if_neg (show ¬ nI 1 = 0 by decide), if_pos zl1.symm, gd_in (by omega), nI_cl (show k < 2 ^ 31 by omega), (n2.2.2.2.2.2.1 k hk).2.1]
        exact ⟨_, _, rfl, rfl⟩
      · rw [if_neg (show ¬ nI 2 = 0 by decide), if_neg (show ¬ nI 2 = 1 by decide), if_pos zl2.symm, c_price hl.2.2.2.2.2.2.2.2 hV hl.2.2.2.2.2.1 (by omega)]
        exact ⟨_, _, rfl, rfl⟩
      · rw [if_neg (show ¬ nI 3 = 0 by decide), if_neg (show ¬ nI 3 = 1 by decide), if_neg (show ¬ nI 3 = 2 by decide), if_pos zl3.symm, c_state hl.2.2.2.2.2.2.2.2 hV hl.2.2.2.2.2.1 (by omega)]
        exact ⟨_, _, rfl, rfl⟩
      · rw [if_neg (show ¬ nI 4 = 0 by decide), if_neg (show ¬ nI 4 = 1 by decide), if_neg (show ¬ nI 4 = 2 by decide), if_neg (show ¬ nI 4 = 3 by decide), if_pos zl4.symm, gd_in (by omega), nI_cl (show k < 2 ^ 31 by omega), (n2.2.2.2.2.2.1 k hk).2.2]
        exact ⟨_, _, rfl, rfl⟩
      · rw [if_neg (show ¬ nI 5 = 0 by decide), if_neg (show ¬ nI 5 = 1 by decide), if_neg (show ¬ nI 5 = 2 by decide), if_neg (show ¬ nI 5 = 3 by decide), if_neg (show ¬ nI 5 = 4 by decide), if_pos zl5.symm, c_version hl.2.2.2.2.2.2.2.2 hV hl.2.2.2.2.2.1 (by omega)]
        exact ⟨_, _, rfl, rfl⟩
    · rw [if_neg h2, if_neg (fun q => h2 (by rw [q]; exact ⟨by decide, by decide⟩)), if_neg (fun q => h2 (by rw [q]; exact ⟨by decide, by decide⟩)), if_neg (fun q => h2 (by rw [q]; exact ⟨by decide, by decide⟩)), if_neg (fun q => h2 (by rw [q]; exact ⟨by decide, by decide⟩)), if_neg (fun q => h2 (by rw [q]; exact ⟨by decide, by decide⟩)), if_neg (fun q => h2 (by rw [q]; exact ⟨by decide, by decide⟩))]
      exact ⟨_, _, rfl, rfl⟩
  · rw [if_neg h1, if_neg h1]
    exact ⟨_, _, rfl, rfl⟩
theorem op_tunnel (hV : V < 2 ^ 20) (h : zRel V X M) (x y : Int32) : zOp V (gX_tunnel X x y) (gM_tunnel M x y) := by
  refine z_look h ?_
  obtain ⟨T, S, sz, tl, ⟨n1, n2, n3⟩, ⟨s1, s2, s3⟩, ⟨t1, t2, t3, t4⟩, ⟨w1, w2⟩⟩ := h
  have hb := n1.1
  have hp : fX6_isTunnel x X.2.1.2.2.1 = some (bI (iN (aNT T) x)) := by rw [n2.2.2.1]; exact c_isTunnel
  unfold fX6_tunnel fX7_tunnel
  rw [n3, hp, e_isTunnel n1, show fX7_in y (0 : Int32) (4 : Int32) = some (bI (oN y (nI 0) (nI 4))) from e_in3]
  simp only [Option.bind_some, ite_bI]
  by_cases h1 : iN (aNT T) x
  · rw [if_pos h1, if_pos h1]
    obtain ⟨k, hk, rfl⟩ := (iN_ex (by omega)).mp h1
    have hl := n1.2.2.2.2.1 k hk
    have et := n2.2.2.2.2.2.2.2.1 (32 + k) (by omega)
    rw [(aTx_t (T := T) (k := k)).1, (aTx_t (T := T) (k := k)).2.1, (aTx_t (T := T) (k := k)).2.2] at et
    rw [zl32, nI_add, gd_in (by omega), nI_cl (show 32 + k < 2 ^ 31 by omega), nm_eq, et]
    by_cases h2 : oN y (nI 0) (nI 4)
    · rw [if_pos h2]
      obtain ⟨p, -, hp4, rfl⟩ := (oN_ex (by omega) (by omega)).mp h2
      rw [e_tunnelPart (by omega) (by omega)]
      rcases (show p = 0 ∨ p = 1 ∨ p = 2 ∨ p = 3 ∨ p = 4 by omega) with rfl | rfl | rfl | rfl | rfl
      · rw [if_pos zl0.symm, gd_in (by omega), nI_cl (show k < 2 ^ 31 by omega), (n2.2.2.2.2.2.2.1 k hk).1]
        exact ⟨_, _, rfl, rfl⟩
      · rw [if_neg (show ¬ nI 1 = 0 by decide), if_pos zl1.symm, gd_in (by omega), nI_cl (show k < 2 ^ 31 by omega), (n2.2.2.2.2.2.2.1 k hk).2]
        exact ⟨_, _, rfl, rfl⟩
      · rw [if_neg (show ¬ nI 2 = 0 by decide), if_neg (show ¬ nI 2 = 1 by decide), if_pos zl2.symm, c_price hl.2.2.2.2.2.2.2 hV hl.2.2.2.2.2.1 (by omega)]
        exact ⟨_, _, rfl, rfl⟩
      · rw [if_neg (show ¬ nI 3 = 0 by decide), if_neg (show ¬ nI 3 = 1 by decide), if_neg (show ¬ nI 3 = 2 by decide), if_pos zl3.symm, c_state hl.2.2.2.2.2.2.2 hV hl.2.2.2.2.2.1 (by omega)]
        exact ⟨_, _, rfl, rfl⟩
      · rw [if_neg (show ¬ nI 4 = 0 by decide), if_neg (show ¬ nI 4 = 1 by decide), if_neg (show ¬ nI 4 = 2 by decide), if_neg (show ¬ nI 4 = 3 by decide), if_pos zl4.symm, c_version hl.2.2.2.2.2.2.2 hV hl.2.2.2.2.2.1 (by omega)]
        exact ⟨_, _, rfl, rfl⟩
    · rw [if_neg h2, if_neg (fun q => h2 (by rw [q]; exact ⟨by decide, by decide⟩)), if_neg (fun q => h2 (by rw [q]; exact ⟨by decide, by decide⟩)), if_neg (fun q => h2 (by rw [q]; exact ⟨by decide, by decide⟩)), if_neg (fun q => h2 (by rw [q]; exact ⟨by decide, by decide⟩)), if_neg (fun q => h2 (by rw [q]; exact ⟨by decide, by decide⟩))]
      exact ⟨_, _, rfl, rfl⟩
  · rw [if_neg h1, if_neg h1]
    exact ⟨_, _, rfl, rfl⟩
theorem op_grant (hV : V < 2 ^ 20) (h : zRel V X M) (x y z : Int32) : zOp V (gX_grant X x y z) (gM_grant M x y z) := by
  refine z_look h ?_
  obtain ⟨T, S, sz, tl, ⟨n1, n2, n3⟩, ⟨s1, s2, s3⟩, ⟨t1, t2, t3, t4⟩, ⟨w1, w2⟩⟩ := h
  have hb := n1.1
  unfold fX6_grant fX7_grant
  rw [n3, c_areTwoAreas, e_areAreas, show fX7_in z (0 : Int32) (1 : Int32) = some (bI (oN z (nI 0) (nI 1))) from e_in3]
  simp only [Option.bind_some, ite_bI]
  by_cases h1 : iP 4 x y
  · rw [if_pos h1, if_pos h1]
    obtain ⟨a, b, ha, hbb, hab, rfl, rfl⟩ := (iP_ex (by omega)).mp h1
    have hg := n1.2.2.2.2.2.2.1 (4 * a + b) (by omega)
    have et := n2.2.2.2.2.2.2.2.1 (4 * a + b) (by omega)
    rw [(aTx_g (T := T) (i := 4 * a + b) (by omega)).1, (aTx_g (T := T) (i := 4 * a + b) (by omega)).2.1, (aTx_g (T := T) (i := 4 * a + b) (by omega)).2.2] at et
    have eg : zI T (14 + 4 * a + b) = nI (aGr T (4 * a + b)) := by rw [Nat.add_assoc, zI_h (by omega)]
    have ev : zI T (30 + 4 * a + b) = nI (aGv T (4 * a + b)) := by rw [Nat.add_assoc, zI_h (by omega)]
    rw [c_grantItem, Option.bind_some, gd_in (by omega), nI_cl (by omega), nm_eq, et, c_state hg.2.1 hV hg.1 (by omega), c_version hg.2.1 hV hg.1 (by omega)]
    unfold uX7_grant_39
    rw [show (4 : Int32) = nI 4 from zl4, pk_mul, show (14 : Int32) = nI 14 from zl14, show (30 : Int32) = nI 30 from zl30, nI_add, nI_add, nI_add, nI_add, gd_in (show 14 + 4 * a + b < 1557 by omega), gd_in (show 30 + 4 * a + b < 1557 by omega), nI_cl (show 14 + 4 * a + b < 2 ^ 31 by omega), nI_cl (show 30 + 4 * a + b < 2 ^ 31 by omega), eg, ev]
    by_cases h2 : oN z (nI 0) (nI 1)
    · rw [if_pos h2]
      obtain ⟨p, -, hp4, rfl⟩ := (oN_ex (by omega) (by omega)).mp h2
      rcases (show p = 0 ∨ p = 1 by omega) with rfl | rfl
      · rw [if_pos zl0.symm, if_pos zl0.symm]
        exact ⟨_, _, rfl, rfl⟩
      · rw [if_neg (show ¬ nI 1 = 0 by decide), if_neg (show ¬ nI 1 = 0 by decide), if_pos zl1.symm]
        exact ⟨_, _, rfl, rfl⟩
    · rw [if_neg h2, if_neg (fun q => h2 (by rw [q]; exact ⟨by decide, by decide⟩)), if_neg (fun q => h2 (by rw [q]; exact ⟨by decide, by decide⟩))]
      exact ⟨_, _, rfl, rfl⟩
  · rw [if_neg h1, if_neg h1]
    exact ⟨_, _, rfl, rfl⟩
theorem k_item (hI : aInv V T) {y : Int32} : (∃ i, y = nI i ∧ aEx T i ∧ fX6_isItem y (nI (aNL T)) (nI (aNT T)) = some 1 ∧ fX7_isItem y (zI T) = some 1) ∨ (fX6_isItem y (nI (aNL T)) (nI (aNT T)) = some 0 ∧ fX7_isItem y (zI T) = some 0) := by
  have hb := hI.1
  by_cases h0 : y < 0
  · right
    have z0 := Int32.lt_iff_toInt_lt.mp h0
    have z1 : (0 : Int32).toInt = 0 := rfl
    have l16 : y < 16 := by
      rw [Int32.lt_iff_toInt_lt]
      have : (16 : Int32).toInt = 16 := rfl
      omega
    have l32 : y < 32 := by
      rw [Int32.lt_iff_toInt_lt]
      have : (32 : Int32).toInt = 32 := rfl
      omega
    constructor
    · unfold fX6_isItem
      rw [if_neg (Int32.not_le.mpr h0)]
    · unfold fX7_isItem
      rw [e_in2, Option.bind_some, bI_f (fun q => q.1 h0), if_pos rfl]
      unfold uX7_isItem_19
      rw [if_pos l16]
      unfold uX7_isItem_38
      rw [if_pos l32]
  · obtain ⟨j, hj, rfl⟩ := nI_of h0
    have c : fX6_isItem (nI j) (nI (aNL T)) (nI (aNT T)) = some (bI (aEx T j)) := by
      unfold fX6_isItem
      rw [if_pos (nI_pos' hj), zl16, zl32, ite_leN (by omega) hj, ite_leN (by omega) hj]
      by_cases h16 : 16 ≤ j
      · rw [if_pos h16]
        by_cases h32 : 32 ≤ j
        · rw [if_pos h32, pk_sub h32, c_isTunnel, Option.bind_some, gd_t (bI_bz _)]
          refine congrArg some (bI_congr ?_)
          rw [iN_ex (by omega)]
          constructor
          · rintro ⟨n, hn, e⟩
            have := (nI_eq (by omega) (by omega)).mp e
            omega
          · intro q
            exact ⟨j - 32, by omega, rfl⟩
        · rw [if_neg h32, pk_sub h16, c_isLink, Option.bind_some, gd_t (bI_bz _)]
          refine congrArg some (bI_congr ?_)
          rw [iN_ex (by omega)]
          constructor
          · rintro ⟨n, hn, e⟩
            have := (nI_eq (by omega) (by omega)).mp e
            omega
          · intro q
            exact ⟨j - 16, by omega, rfl⟩
      · rw [if_neg h16, c_grantOwner (by omega), Option.bind_some, c_grantArea (by omega), Option.bind_some, ite_eqN (by omega) (by omega)]
        by_cases hd : j / 4 = j % 4
        · rw [if_pos hd, bI_f (by omega)]
        · rw [if_neg hd, bI_t (by omega)]
    have e : fX7_isItem (nI j) (zI T) = some (bI (aEx T j)) := by
      by_cases h30 : j < 2 ^ 30
      · exact e_isItem hI h30
      · have g0 : ¬ aEx T j := by omega
        unfold fX7_isItem
        rw [e_in2, Option.bind_some, bI_f (p := oN (nI j) 0 15) (fun q => q.2 (show nI 15 < nI j from nI_lt (by omega) hj)), if_pos rfl, bI_f g0]
        unfold uX7_isItem_19
        rw [if_neg (show ¬ nI j < (16 : Int32) from nI_nlt (b := 16) (by omega) hj)]
        rw [show vp_in (1 : Int32) 1557 = vp_in (nI 1) 1557 from rfl, gd_in (by omega), show (1 : Int32).toNatClampNeg = 1 from rfl, zI_h (by omega), zl16, nI_add, if_neg (nI_nlt (show 16 + aNL T ≤ j by omega) hj)]
        unfold uX7_isItem_38
        rw [zl32, if_neg (nI_nlt (show 32 ≤ j by omega) hj), show vp_in (2 : Int32) 1557 = vp_in (nI 2) 1557 from rfl, gd_in (by omega), show (2 : Int32).toNatClampNeg = 2 from rfl, zI_h (by omega), nI_add, if_pos (nI_le (show 32 + aNT T ≤ j by omega) hj)]
    by_cases hx : aEx T j
    · left
      rw [c, e, bI_t hx]
      exact ⟨j, rfl, hx, rfl, rfl⟩
    · right
      rw [c, e, bI_f hx]
      exact ⟨rfl, rfl⟩
theorem op_known (hV : V < 2 ^ 20) (h : zRel V X M) (x y z : Int32) : zOp V (gX_known X x y z) (gM_known M x y z) := by
  refine z_look h ?_
  obtain ⟨T, S, sz, tl, ⟨n1, n2, n3⟩, ⟨s1, s2, s3⟩, ⟨t1, t2, t3, t4⟩, ⟨w1, w2⟩⟩ := h
  have hb := n1.1
  have hp : fX6_isNode x X.2.1.1 = some (bI (iN (aNN T) x)) := by rw [n2.1]; exact c_isNode
  unfold fX6_known fX7_known
  rw [n3, hp, e_isNode n1, show fX7_in z (0 : Int32) (3 : Int32) = some (bI (oN z (nI 0) (nI 3))) from e_in3, n2.2.1, n2.2.2.1]
  simp only [Option.bind_some, ite_bI]
  by_cases h1 : iN (aNN T) x
  · rw [if_pos h1, if_pos h1]
    obtain ⟨n, hn, rfl⟩ := (iN_ex (by omega)).mp h1
    rcases k_item n1 (y := y) with ⟨i, rfl, hx, c1, c2⟩ | ⟨c1, c2⟩
    · obtain ⟨hi, -⟩ := aEx.lt n1 hx
      have hd := n1.db (n := n) (by omega) hi
      have zz : nI (zpk (T.2 n i 0) (T.2 n i 1) (T.2 n i 2)) = (0 : Int32) ↔ T.2 n i 0 = 0 := zpk_0 hd.1 hV hd.2.1 hd.2.2.1 (fun q => ⟨(hd.2.2.2.2 q).1, (hd.2.2.2.2 q).2.1⟩)
      rw [c1, c2, Option.bind_some, Option.bind_some, if_neg (show ¬ (1 : Int32) = 0 by decide), if_neg (show ¬ (1 : Int32) = 0 by decide), c_place, Option.bind_some, gd_in (by omega), nm_eq, nI_cl (by omega), n2.2.2.2.2.2.2.2.2.1 n i (by omega) hi, c_version hd.1 hV hd.2.1 hd.2.2.1, c_state hd.1 hV hd.2.1 hd.2.2.1, c_price hd.1 hV hd.2.1 hd.2.2.1]
      by_cases h2 : oN z (nI 0) (nI 3)
      · rw [if_pos h2]
        obtain ⟨p, -, hp3, rfl⟩ := (oN_ex (by omega) (by omega)).mp h2
        have e63 : uX7_known_63 (nI n) (nI i) (nI p) 0 (zI T) = some (nI (T.2 n i p), 0) := by
          unfold uX7_known_63
          rw [e_fact (by omega) hi (by omega)]; rfl
        unfold uX7_known_47
        rw [e63, show fX7_fact (nI n) (nI i) (0 : Int32) (zI T) = some (nI (T.2 n i 0)) from e_fact (p := 0) (by omega) hi (by omega), if_pos rfl, if_neg (show ¬ (1 : Int32) = 0 by decide)]
        simp only [Option.bind_some]
        rw [show ∀ (α : Type) (a b : α), (if nI (T.2 n i 0) ≤ (0 : Int32) then a else b) = if T.2 n i 0 ≤ 0 then a else b from fun α a b => ite_leN (b := 0) (by omega) (by omega)]
        rcases (show p = 0 ∨ p = 1 ∨ p = 2 ∨ p = 3 by omega) with rfl | rfl | rfl | rfl
        · rw [if_pos zl0.symm, if_pos zl0.symm]
          split <;> exact ⟨_, _, rfl, rfl⟩
        · rw [if_neg (show ¬ nI 1 = 0 by decide), if_pos zl1.symm, if_neg (show ¬ nI 1 = 0 by decide), if_neg (show ¬ nI 1 = 3 by decide)]
          by_cases hv : T.2 n i 0 = 0
          · rw [if_pos (zz.mpr hv), if_pos (by omega)]
            exact ⟨_, _, rfl, rfl⟩
          · rw [if_neg (fun q => hv (zz.mp q)), if_neg (by omega)]
            exact ⟨_, _, rfl, rfl⟩
        · rw [if_neg (show ¬ nI 2 = 0 by decide), if_neg (show ¬ nI 2 = 1 by decide), if_pos zl2.symm, if_neg (show ¬ nI 2 = 0 by decide), if_neg (show ¬ nI 2 = 3 by decide)]
          by_cases hv : T.2 n i 0 = 0
          · rw [if_pos (zz.mpr hv), if_pos (by omega)]
            exact ⟨_, _, rfl, rfl⟩
          · rw [if_neg (fun q => hv (zz.mp q)), if_neg (by omega)]
            exact ⟨_, _, rfl, rfl⟩
        · have en : fX3_isNews (nI n) (nI i) X.2.1.2.2.2.2.2.2.2.2.2.2.2.2 = some (nI (T.2 n i 3)) := by
            unfold fX3_isNews
            rw [gd_in (by omega), nI_cl (by omega)]
            have hbt := n2.2.2.2.2.2.2.2.2.2 n i (by omega) (by omega)
            by_cases h3 : T.2 n i 3 = 1
            · rw [if_pos ((bt_test (by omega)).mpr (by rw [hbt]; exact decide_eq_true ⟨hi, h3⟩)), h3]; rfl
            · rw [if_neg (fun q => h3 (by
                have := (bt_test (by omega)).mp q
                rw [hbt] at this
                exact (of_decide_eq_true this).2)), show T.2 n i 3 = 0 by omega]; rfl
          rw [if_neg (show ¬ nI 3 = 0 by decide), if_neg (show ¬ nI 3 = 1 by decide), if_neg (show ¬ nI 3 = 2 by decide), if_pos zl3.symm, en, Option.bind_some, if_neg (show ¬ nI 3 = 0 by decide), if_pos zl3.symm]
          have r : (if nI (T.2 n i 3) = 0 then some (0 : Int32) else some 1) = some (nI (T.2 n i 3)) := by
            rcases (show T.2 n i 3 = 0 ∨ T.2 n i 3 = 1 by omega) with e | e <;> rw [e] <;> rfl
          rw [r]
          split <;> exact ⟨_, _, rfl, rfl⟩
      · rw [if_neg h2, if_neg (fun q => h2 (by rw [q]; exact ⟨by decide, by decide⟩)), if_neg (fun q => h2 (by rw [q]; exact ⟨by decide, by decide⟩)), if_neg (fun q => h2 (by rw [q]; exact ⟨by decide, by decide⟩)), if_neg (fun q => h2 (by rw [q]; exact ⟨by decide, by decide⟩))]
        exact ⟨_, _, rfl, rfl⟩
    · rw [c1, c2]
      exact ⟨_, _, rfl, rfl⟩
  · rw [if_neg h1, if_neg h1]
    exact ⟨_, _, rfl, rfl⟩

end P39ya
