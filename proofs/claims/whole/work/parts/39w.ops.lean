/-! The calls that change the network. -/
section P39w
variable {V : Nat} {X : zX} {M : zM}
theorem zRel.mono1 (h : zRel V X M) : zRel (V + 1) X M := h.mono (by omega)
theorem zOp.mono {V' : Nat} {a : Option (Int32 × zX)} {b : Option (Int32 × zM)} (h : zOp V a b) (hv : V ≤ V') : zOp V' a b := by
  obtain ⟨p, q, h1, h2, h3, h4⟩ := h
  exact ⟨p, q, h1, h2, h3, h4.mono hv⟩
theorem c_isCost {x : Int32} {n : Nat} : fX6_isCost x (nI n) = some (bI (oN x (nI 1) (nI n))) := by
  unfold fX6_isCost
  rw [zl1]
  by_cases h1 : x < nI 1
  · rw [if_pos h1, bI_f (fun q => q.1 h1)]
  · rw [if_neg h1]
    by_cases h2 : nI n < x
    · rw [if_pos h2, bI_f (fun q => q.2 h2)]
    · rw [if_neg h2, bI_t ⟨h1, h2⟩]; rfl
theorem c_isFlag {x : Int32} : fX6_isFlag x = some (bI (oN x (nI 0) (nI 1))) := by
  have e9 : uX6_isFlag_9 = some 1 := rfl
  unfold fX6_isFlag
  rw [e9]
  by_cases h : oN x (nI 0) (nI 1)
  · rw [bI_t h]
    obtain ⟨n, h1, h2, rfl⟩ := (oN_ex (by omega) (by omega)).mp h
    rcases (show n = 0 ∨ n = 1 by omega) with rfl | rfl
    · rw [if_pos zl0.symm]
    · rw [if_neg (by decide), if_pos zl1.symm]
  · rw [bI_f h, if_neg (fun q => h ((oN_ex (by omega) (by omega)).mpr ⟨0, by omega, by omega, q.trans zl0⟩)), if_neg (fun q => h ((oN_ex (by omega) (by omega)).mpr ⟨1, by omega, by omega, q.trans zl1⟩))]
theorem e_in3 {x : Int32} {a b : Nat} : fX7_in x (nI a) (nI b) = some (bI (oN x (nI a) (nI b))) := e_in2
theorem k_lt {a : Int32} {n b : Nat} (h : a = nI n) (hn : n < 2 ^ 31) (hb : b < 2 ^ 31) : a < nI b ↔ n < b := by rw [h]; exact nI_ltI hn hb

theorem op_addNode (h : zRel V X M) (x : Int32) : zOp V (gX_addNode X x) (gM_addNode M x) := by
  obtain ⟨T, S, sz, tl, ⟨n1, n2, n3⟩, ⟨s1, s2, s3⟩, ⟨t1, t2, t3, t4⟩, ⟨w1, w2⟩⟩ := h
  have hb := n1.1
  unfold gX_addNode gM_addNode fX6_addNode fX7_addNode
  rw [n3, c_isArea, e_isArea]
  simp only [Option.bind_some, ite_bI]
  by_cases ha : iN 4 x
  · rw [if_pos ha, if_pos ha, show vp_in (0 : Int32) 1557 = vp_in (nI 0) 1557 from rfl, gd_in (by omega), show (0 : Int32).toNatClampNeg = 0 from rfl, zI_h (by omega), zl10, ite_eqN (show aNN T < 2 ^ 31 by omega) (by omega)]
    obtain ⟨a, ha4, rfl⟩ := (iN_ex (by omega)).mp ha
    by_cases hn : aNN T < 10
    · obtain ⟨S', sz', saved', as', hF', hG', hN', p1, p2, p3⟩ := h_act n1 n2 s3 (aside := M.2.2.2.2.1)
      obtain ⟨q, c1, c2, c3⟩ := c_createNode n1 n2 (a := a) hn
      rw [if_pos ((k_lt n2.1 (by omega) (by omega)).mpr hn), if_neg (show ¬ aNN T = 10 by omega), s1, s2, p1, p2, e_makeNode n1 hn, Option.bind_some, Option.bind_some, c1]
      exact ⟨_, _, rfl, rfl, c2, aMkN T a, S', sz', tl, ⟨aMkN_inv n1 hn ha4, c3, rfl⟩, ⟨rfl, rfl, p3⟩, ⟨t1, t2, t3, t4⟩, rfl, Or.inl rfl⟩
    · rw [if_neg (fun q => hn ((k_lt n2.1 (by omega) (by omega)).mp q)), if_pos (show aNN T = 10 by omega)]
      exact ⟨_, _, rfl, rfl, rfl, T, S, sz, tl, ⟨n1, n2, rfl⟩, ⟨s1, s2, s3⟩, ⟨t1, t2, t3, t4⟩, w1, w2⟩
  · rw [if_neg ha, if_neg ha]
    exact ⟨_, _, rfl, rfl, rfl, T, S, sz, tl, ⟨n1, n2, rfl⟩, ⟨s1, s2, s3⟩, ⟨t1, t2, t3, t4⟩, w1, w2⟩
theorem op_addLink (hV1 : 1 ≤ V) (hV : V < 2 ^ 20) (h : zRel V X M) (x y z u : Int32) : zOp V (gX_addLink X x y z u) (gM_addLink M x y z u) := by
  obtain ⟨T, S, sz, tl, ⟨n1, n2, n3⟩, ⟨s1, s2, s3⟩, ⟨t1, t2, t3, t4⟩, ⟨w1, w2⟩⟩ := h
  have hb := n1.1
  have hp : fX6_isPair x y X.2.1.1 = some (bI (iP (aNN T) x y)) := by rw [n2.1]; exact c_isPair
  unfold gX_addLink gM_addLink fX6_addLink fX7_addLink
  rw [n3, hp, e_areNodes n1, show (20 : Int32) = nI 20 from zl20, c_isCost, c_isFlag, show fX7_in z (1 : Int32) (nI 20) = some (bI (oN z (nI 1) (nI 20))) from e_in3, show fX7_in u (0 : Int32) (1 : Int32) = some (bI (oN u (nI 0) (nI 1))) from e_in3]
  simp only [Option.bind_some, ite_bI]
  by_cases h1 : iP (aNN T) x y
  · rw [if_pos h1, if_pos h1]
    by_cases h2 : oN z (nI 1) (nI 20)
    · rw [if_pos h2, if_pos h2]
      by_cases h3 : oN u (nI 0) (nI 1)
      · rw [if_pos h3, if_pos h3, show vp_in (1 : Int32) 1557 = vp_in (nI 1) 1557 from rfl, gd_in (by omega), show (1 : Int32).toNatClampNeg = 1 from rfl, zI_h (by omega), zl16, ite_eqN (show aNL T < 2 ^ 31 by omega) (by omega)]
        obtain ⟨f, s, hf, hs, hfs, rfl, rfl⟩ := (iP_ex (by omega)).mp h1
        obtain ⟨c, hc1, hc, rfl⟩ := (oN_ex (by omega) (by omega)).mp h2
        obtain ⟨pr, hpr1, hpr, rfl⟩ := (oN_ex (by omega) (by omega)).mp h3
        by_cases hn : aNL T < 16
        · obtain ⟨S', sz', saved', as', hF', hG', hN', p1, p2, p3⟩ := h_act n1 n2 s3 (aside := M.2.2.2.2.1)
          obtain ⟨q, c1, c2, c3⟩ := c_createLink n1 hV1 hV n2 hn hf hs hfs hc1 hc hpr
          rw [if_pos ((k_lt n2.2.1 (by omega) (by omega)).mpr hn), if_neg (show ¬ aNL T = 16 by omega), s1, s2, p1, p2, e_makeLink n1 hV1 hV hn hf hs hfs hc1 hc hpr, Option.bind_some, Option.bind_some, c1]
          exact ⟨_, _, rfl, rfl, c2, aChL (aMkL0 T f s c pr) (aNL T) 1, S', sz', tl, ⟨aChL_inv (aMkL0_inv n1 hV1 hn hf hs hfs hc1 hc hpr) (by rw [aMkL0_n]; omega), c3, rfl⟩, ⟨rfl, rfl, p3⟩, ⟨t1, t2, t3, t4⟩, rfl, Or.inl rfl⟩
        · rw [if_neg (fun q => hn ((k_lt n2.2.1 (by omega) (by omega)).mp q)), if_pos (show aNL T = 16 by omega)]
          exact ⟨_, _, rfl, rfl, rfl, T, S, sz, tl, ⟨n1, n2, rfl⟩, ⟨s1, s2, s3⟩, ⟨t1, t2, t3, t4⟩, w1, w2⟩
      · rw [if_neg h3, if_neg h3]
        exact ⟨_, _, rfl, rfl, rfl, T, S, sz, tl, ⟨n1, n2, rfl⟩, ⟨s1, s2, s3⟩, ⟨t1, t2, t3, t4⟩, w1, w2⟩
    · rw [if_neg h2, if_neg h2]
      exact ⟨_, _, rfl, rfl, rfl, T, S, sz, tl, ⟨n1, n2, rfl⟩, ⟨s1, s2, s3⟩, ⟨t1, t2, t3, t4⟩, w1, w2⟩
  · rw [if_neg h1, if_neg h1]
    exact ⟨_, _, rfl, rfl, rfl, T, S, sz, tl, ⟨n1, n2, rfl⟩, ⟨s1, s2, s3⟩, ⟨t1, t2, t3, t4⟩, w1, w2⟩
theorem op_addTunnel (hV1 : 1 ≤ V) (hV : V < 2 ^ 20) (h : zRel V X M) (x y z : Int32) : zOp V (gX_addTunnel X x y z) (gM_addTunnel M x y z) := by
  obtain ⟨T, S, sz, tl, ⟨n1, n2, n3⟩, ⟨s1, s2, s3⟩, ⟨t1, t2, t3, t4⟩, ⟨w1, w2⟩⟩ := h
  have hb := n1.1
  have hp : fX6_isPair x y X.2.1.1 = some (bI (iP (aNN T) x y)) := by rw [n2.1]; exact c_isPair
  unfold gX_addTunnel gM_addTunnel fX6_addTunnel fX7_addTunnel
  rw [n3, hp, e_areNodes n1, show (40 : Int32) = nI 40 from zl40, c_isCost, show fX7_in z (1 : Int32) (nI 40) = some (bI (oN z (nI 1) (nI 40))) from e_in3]
  simp only [Option.bind_some, ite_bI]
  by_cases h1 : iP (aNN T) x y
  · rw [if_pos h1, if_pos h1]
    by_cases h2 : oN z (nI 1) (nI 40)
    · rw [if_pos h2, if_pos h2, show vp_in (2 : Int32) 1557 = vp_in (nI 2) 1557 from rfl, gd_in (by omega), show (2 : Int32).toNatClampNeg = 2 from rfl, zI_h (by omega), zl3, ite_eqN (show aNT T < 2 ^ 31 by omega) (by omega)]
      obtain ⟨f, s, hf, hs, hfs, rfl, rfl⟩ := (iP_ex (by omega)).mp h1
      obtain ⟨c, hc1, hc, rfl⟩ := (oN_ex (by omega) (by omega)).mp h2
      by_cases hn : aNT T < 3
      · obtain ⟨S', sz', saved', as', hF', hG', hN', p1, p2, p3⟩ := h_act n1 n2 s3 (aside := M.2.2.2.2.1)
        obtain ⟨q, c1, c2, c3⟩ := c_createTunnel n1 hV1 hV n2 hn hf hs hfs hc1 hc
        rw [if_pos ((k_lt n2.2.2.1 (by omega) (by omega)).mpr hn), if_neg (show ¬ aNT T = 3 by omega), s1, s2, p1, p2, e_makeTunnel n1 hV1 hV hn hf hs hfs hc1 hc, Option.bind_some, Option.bind_some, c1]
        exact ⟨_, _, rfl, rfl, c2, aChT (aMkT0 T f s c) (aNT T), S', sz', tl, ⟨aChT_inv (aMkT0_inv n1 hV1 hn hf hs hfs hc1 hc) (by rw [aMkT0_n]; omega), c3, rfl⟩, ⟨rfl, rfl, p3⟩, ⟨t1, t2, t3, t4⟩, rfl, Or.inl rfl⟩
      · rw [if_neg (fun q => hn ((k_lt n2.2.2.1 (by omega) (by omega)).mp q)), if_pos (show aNT T = 3 by omega)]
        exact ⟨_, _, rfl, rfl, rfl, T, S, sz, tl, ⟨n1, n2, rfl⟩, ⟨s1, s2, s3⟩, ⟨t1, t2, t3, t4⟩, w1, w2⟩
    · rw [if_neg h2, if_neg h2]
      exact ⟨_, _, rfl, rfl, rfl, T, S, sz, tl, ⟨n1, n2, rfl⟩, ⟨s1, s2, s3⟩, ⟨t1, t2, t3, t4⟩, w1, w2⟩
  · rw [if_neg h1, if_neg h1]
    exact ⟨_, _, rfl, rfl, rfl, T, S, sz, tl, ⟨n1, n2, rfl⟩, ⟨s1, s2, s3⟩, ⟨t1, t2, t3, t4⟩, w1, w2⟩
theorem op_setGrant (hV : V + 1 < 2 ^ 20) (h : zRel V X M) (x y z : Int32) : zOp (V + 1) (gX_setGrant X x y z) (gM_setGrant M x y z) := by
  obtain ⟨T, S, sz, tl, ⟨n1, n2, n3⟩, ⟨s1, s2, s3⟩, ⟨t1, t2, t3, t4⟩, ⟨w1, w2⟩⟩ := h
  have hb := n1.1
  unfold gX_setGrant gM_setGrant fX6_setGrant fX7_setGrant
  rw [n3, c_areTwoAreas, e_areAreas, c_isFlag, show fX7_in z (0 : Int32) (1 : Int32) = some (bI (oN z (nI 0) (nI 1))) from e_in3]
  simp only [Option.bind_some, ite_bI]
  by_cases h1 : iP 4 x y
  · rw [if_pos h1, if_pos h1]
    by_cases h2 : oN z (nI 0) (nI 1)
    · rw [if_pos h2, if_pos h2]
      obtain ⟨a, b, ha, hbb, hab, rfl, rfl⟩ := (iP_ex (by omega)).mp h1
      obtain ⟨on, hon1, hon, rfl⟩ := (oN_ex (by omega) (by omega)).mp h2
      have hg := n1.2.2.2.2.2.2.1 (4 * a + b) (by omega)
      have eg : zI T (14 + 4 * a + b) = nI (aGr T (4 * a + b)) := by rw [Nat.add_assoc, zI_h (by omega)]
      have et := n2.2.2.2.2.2.2.2.1 (4 * a + b) (by omega)
      rw [(aTx_g (T := T) (i := 4 * a + b) (by omega)).1, (aTx_g (T := T) (i := 4 * a + b) (by omega)).2.1, (aTx_g (T := T) (i := 4 * a + b) (by omega)).2.2] at et
      rw [c_grantItem, Option.bind_some, gd_in (by omega), nI_cl (by omega), et, c_state hg.2.1 (by omega) hg.1 (by omega), Option.bind_some, ite_eqN (by omega) (by omega), zl14, zl4, pk_mul, nI_add, nI_add, gd_in (show 14 + 4 * a + b < 1557 by omega), nI_cl (show 14 + 4 * a + b < 2 ^ 31 by omega), eg, ite_eqN (by omega) (by omega)]
      by_cases h3 : aGr T (4 * a + b) = on
      · rw [if_pos h3, if_pos h3]
        exact ⟨_, _, rfl, rfl, rfl, T, S, sz, tl, ⟨n1.mono (by omega), n2, rfl⟩, ⟨s1, s2, s3.mono (by omega)⟩, ⟨t1, t2, t3, t4⟩, w1, w2⟩
      · obtain ⟨S', sz', saved', as', hF', hG', hN', p1, p2, p3⟩ := h_act n1 n2 s3 (aside := M.2.2.2.2.1)
        obtain ⟨q, c1, c2, c3⟩ := c_setGrant n1 hV n2 ha hbb hab hon
        have ev : zI (aChG T a b on) (30 + 4 * a + b) = nI (aGv T (4 * a + b) + 1) := by
          rw [Nat.add_assoc, zI_h (by omega)]
          have : (aChG T a b on).1 (30 + (4 * a + b)) = aGv (aSG T (4 * a + b) on) (4 * a + b) := by
            rw [aChG_eq, aGrB_1]
          rw [this, aSG_v]
        rw [if_neg h3, if_neg h3, s1, s2, p1, p2, e_changeGrant n1 hV ha hbb hab hon, Option.bind_some, Option.bind_some, c1, Option.bind_some, Option.bind_some, Option.bind_some, zl30, nI_add, nI_add, gd_in (by omega), nI_cl (by omega), ev]
        exact ⟨_, _, rfl, rfl, c2, aChG T a b on, S', sz', tl, ⟨aChG_inv n1 ha hbb hab hon, c3, rfl⟩, ⟨rfl, rfl, p3.mono (by omega)⟩, ⟨t1, t2, t3, t4⟩, rfl, Or.inl rfl⟩
    · rw [if_neg h2, if_neg h2]
      exact ⟨_, _, rfl, rfl, rfl, T, S, sz, tl, ⟨n1.mono (by omega), n2, rfl⟩, ⟨s1, s2, s3.mono (by omega)⟩, ⟨t1, t2, t3, t4⟩, w1, w2⟩
  · rw [if_neg h1, if_neg h1]
    exact ⟨_, _, rfl, rfl, rfl, T, S, sz, tl, ⟨n1.mono (by omega), n2, rfl⟩, ⟨s1, s2, s3.mono (by omega)⟩, ⟨t1, t2, t3, t4⟩, w1, w2⟩
theorem op_setLink (hV : V + 1 < 2 ^ 20) (h : zRel V X M) (x y z : Int32) : zOp (V + 1) (gX_setLink X x y z) (gM_setLink M x y z) := by
  obtain ⟨T, S, sz, tl, ⟨n1, n2, n3⟩, ⟨s1, s2, s3⟩, ⟨t1, t2, t3, t4⟩, ⟨w1, w2⟩⟩ := h
  have hb := n1.1
  have hp : fX6_isLink x X.2.1.2.1 = some (bI (iN (aNL T) x)) := by rw [n2.2.1]; exact c_isLink
  unfold gX_setLink gM_setLink fX6_setLink fX7_setLink
  rw [n3, hp, e_isLink n1, show (20 : Int32) = nI 20 from zl20, c_isCost, c_isFlag, show fX7_in z (1 : Int32) (nI 20) = some (bI (oN z (nI 1) (nI 20))) from e_in3, show fX7_in y (0 : Int32) (1 : Int32) = some (bI (oN y (nI 0) (nI 1))) from e_in3]
  simp only [Option.bind_some, ite_bI]
  by_cases h1 : iN (aNL T) x
  · rw [if_pos h1, if_pos h1]
    by_cases h2 : oN y (nI 0) (nI 1)
    · rw [if_pos h2, if_pos h2]
      by_cases h3 : oN z (nI 1) (nI 20)
      · rw [if_pos h3, if_pos h3]
        obtain ⟨k, hk, rfl⟩ := (iN_ex (by omega)).mp h1
        obtain ⟨up, hup1, hup, rfl⟩ := (oN_ex (by omega) (by omega)).mp h2
        obtain ⟨c, hc1, hc, rfl⟩ := (oN_ex (by omega) (by omega)).mp h3
        have hl := n1.2.2.1 k hk
        have et := n2.2.2.2.2.2.2.2.1 (16 + k) (by omega)
        rw [(aTx_l (T := T) (k := k) (by omega)).1, (aTx_l (T := T) (k := k) (by omega)).2.1, (aTx_l (T := T) (k := k) (by omega)).2.2] at et
        have big : ∃ p q, uX6_setLink_61 (nI k) (nI up) (nI c) X.1.1 X.2.1.1 X.2.1.2.1 X.2.1.2.2.1 X.2.1.2.2.2.1 X.2.1.2.2.2.2.1 X.2.1.2.2.2.2.2.1 X.2.1.2.2.2.2.2.2.1 X.2.1.2.2.2.2.2.2.2.1 X.2.1.2.2.2.2.2.2.2.2.1 X.2.1.2.2.2.2.2.2.2.2.2.1 X.2.1.2.2.2.2.2.2.2.2.2.2.1 X.2.1.2.2.2.2.2.2.2.2.2.2.2.1 X.2.1.2.2.2.2.2.2.2.2.2.2.2.2 X.2.2.2.2.2.2.2.2.1 X.2.2.2.2.2.2.2.2.2.1 X.2.2.2.2.2.2.2.2.2.2 = some p ∧ uX7_setLink_61 (nI k) (nI up) (nI c) (nI (aL T k 3)) (0 : Int32) (zI T) M.2.2.1 M.2.2.2.1 M.2.2.2.2.1 = some q ∧ p.1 = q.1 ∧ ∃ S' sz', p.2.1 = nI sz' ∧ p.2.2.1 = 0 ∧ q.2.2.2.2.1 = nI sz' ∧ q.2.2.2.2.2.2 = 0 ∧ q.2.2.1 = zI (aChL (aSL T k up c) k (if up = 1 ∧ aL T k 3 = 0 then 1 else 0)) ∧ hRel V S' sz' q.2.2.2.1 p.2.2.2.2.2.2.1 p.2.2.2.2.2.2.2.1 p.2.2.2.2.2.2.2.2 ∧ aRel (aChL (aSL T k up c) k (if up = 1 ∧ aL T k 3 = 0 then 1 else 0)) (X.2.1.1, X.2.1.2.1, X.2.1.2.2.1, X.2.1.2.2.2.1, X.2.1.2.2.2.2.1, X.2.1.2.2.2.2.2.1, X.2.1.2.2.2.2.2.2.1, X.2.1.2.2.2.2.2.2.2.1, X.2.1.2.2.2.2.2.2.2.2.1, X.2.1.2.2.2.2.2.2.2.2.2.1, p.2.2.2.1, p.2.2.2.2.1, p.2.2.2.2.2.1) := by
          obtain ⟨S', sz', saved', as', hF', hG', hN', p1, p2, p3⟩ := h_act n1 n2 s3 (aside := M.2.2.2.2.1)
          obtain ⟨q, c1, c2, c3⟩ := c_setLink n1 hV n2 hk hup hc1 hc
          have hI2 := aSL_inv n1 hk hup hc1 hc
          have e1 : upd (upd (upd (zI T) (46 + 6 * k + 3) (nI up)) (46 + 6 * k + 2) (nI c)) (46 + 6 * k + 5) ((upd (upd (zI T) (46 + 6 * k + 3) (nI up)) (46 + 6 * k + 2) (nI c)) (46 + 6 * k + 5) + 1) = zI (aSL T k up c) := by
            rw [upd_h (by omega), upd_h (by omega), zI_h (by omega)]
            dsimp only
            rw [un_ne (by omega), un_ne (by omega), nI_1, upd_h (by omega)]
            rfl
          unfold uX6_setLink_61 uX7_setLink_61
          rw [s1, s2, p1, p2, Option.bind_some, c1, Option.bind_some, Option.bind_some, nm_eq, zl46, zl6, pk_mul, nI_add, zl2, zl3, zl5, nI_add, nI_add, nI_add, gd_in (show 46 + 6 * k + 3 < 1557 by omega), gd_in (show 46 + 6 * k + 2 < 1557 by omega), gd_in (show 46 + 6 * k + 5 < 1557 by omega), gd_in (show 46 + 6 * k + 5 < 1557 by omega), nI_cl (show 46 + 6 * k + 3 < 2 ^ 31 by omega), nI_cl (show 46 + 6 * k + 2 < 2 ^ 31 by omega), nI_cl (show 46 + 6 * k + 5 < 2 ^ 31 by omega), e1]
          have fin : ∀ b, b ≤ 1 → (fX7_changeLink (nI k) (nI b) (zI (aSL T k up c))).bind (fun y11 => (fX7_linkPart (nI k) (nI 5) y11).bind (fun y12 => some (y12, (0 : Int32), y11, saved', nI sz', as', (0 : Int32)))) = some (nI (aL T k 5 + 1), 0, zI (aChL (aSL T k up c) k b), saved', nI sz', as', 0) := by
            intro b hbb
            rw [e_changeLink hI2 (by omega) (by rw [show aNL (aSL T k up c) = aNL T from aSL_ot (by omega)]; exact hk) hbb, Option.bind_some, e_linkPart (by omega) (by omega), Option.bind_some]
            have : aL (aChL (aSL T k up c) k b) k 5 = aL T k 5 + 1 := by
              rw [aL_of aChL_1, aSL_at (by omega)]; rfl
            rw [this]
          have f0 := fin 0 (by omega)
          have f1 := fin 1 (by omega)
          unfold uX7_setLink_123 uX7_setLink_124
          rw [ite_eq0 (by omega), zl1, ite_eqN (by omega) (by omega), zl5]
          by_cases b1 : aL T k 3 = 0
          · rw [if_pos b1]
            by_cases b2 : up = 1
            · rw [if_pos b2]
              rw [if_pos ⟨b2, b1⟩] at c3 ⊢
              exact ⟨_, _, rfl, f1, c2, S', sz', rfl, rfl, rfl, rfl, rfl, p3, c3⟩
            · rw [if_neg b2]
              rw [if_neg (fun q => b2 q.1)] at c3 ⊢
              exact ⟨_, _, rfl, f0, c2, S', sz', rfl, rfl, rfl, rfl, rfl, p3, c3⟩
          · rw [if_neg b1]
            rw [if_neg (fun q => b1 q.2)] at c3 ⊢
            exact ⟨_, _, rfl, f0, c2, S', sz', rfl, rfl, rfl, rfl, rfl, p3, c3⟩
        rw [show (16 : Int32) = nI 16 from zl16, nI_add, gd_in (by omega), nm_eq, nI_cl (by omega), et, c_state hl.2.2.2.2.2.2.2.2 (by omega) hl.2.2.2.2.2.1 (by omega), c_price hl.2.2.2.2.2.2.2.2 (by omega) hl.2.2.2.2.2.1 (by omega), show (3 : Int32) = nI 3 from zl3, e_linkPart (by omega) (by omega), show (2 : Int32) = nI 2 from zl2, e_linkPart (by omega) (by omega)]
        simp only [Option.bind_some]
        rw [ite_eqN (show aL T k 3 < 2 ^ 31 by omega) (by omega), ite_eqN (show aL T k 2 < 2 ^ 31 by omega) (by omega), ite_eqN (show aL T k 3 < 2 ^ 31 by omega) (by omega), ite_eqN (show aL T k 2 < 2 ^ 31 by omega) (by omega)]
        obtain ⟨p, q, g1, g2, g3, S', sz', d1, d2, d3, d4, d5, d6, d7⟩ := big
        rw [g1, g2]
        by_cases h4 : aL T k 3 = up
        · rw [if_pos h4, if_pos h4]
          by_cases h5 : aL T k 2 = c
          · rw [if_pos h5, if_pos h5]
            exact ⟨_, _, rfl, rfl, rfl, T, S, sz, tl, ⟨n1.mono (by omega), n2, rfl⟩, ⟨s1, s2, s3.mono (by omega)⟩, ⟨t1, t2, t3, t4⟩, w1, w2⟩
          · rw [if_neg h5, if_neg h5]
            exact ⟨_, _, rfl, rfl, g3, aChL (aSL T k up c) k (if up = 1 ∧ aL T k 3 = 0 then 1 else 0), S', sz', tl, ⟨aChL_inv (aSL_inv n1 hk hup hc1 hc) (by rw [show aNL (aSL T k up c) = aNL T from aSL_ot (by omega)]; exact hk), d7, d5⟩, ⟨d1, d3, d6.mono (by omega)⟩, ⟨t1, t2, t3, t4⟩, d2.trans d4.symm, Or.inl d2⟩
        · rw [if_neg h4, if_neg h4]
          exact ⟨_, _, rfl, rfl, g3, aChL (aSL T k up c) k (if up = 1 ∧ aL T k 3 = 0 then 1 else 0), S', sz', tl, ⟨aChL_inv (aSL_inv n1 hk hup hc1 hc) (by rw [show aNL (aSL T k up c) = aNL T from aSL_ot (by omega)]; exact hk), d7, d5⟩, ⟨d1, d3, d6.mono (by omega)⟩, ⟨t1, t2, t3, t4⟩, d2.trans d4.symm, Or.inl d2⟩
      · rw [if_neg h3, if_neg h3]
        exact ⟨_, _, rfl, rfl, rfl, T, S, sz, tl, ⟨n1.mono (by omega), n2, rfl⟩, ⟨s1, s2, s3.mono (by omega)⟩, ⟨t1, t2, t3, t4⟩, w1, w2⟩
    · rw [if_neg h2, if_neg h2]
      exact ⟨_, _, rfl, rfl, rfl, T, S, sz, tl, ⟨n1.mono (by omega), n2, rfl⟩, ⟨s1, s2, s3.mono (by omega)⟩, ⟨t1, t2, t3, t4⟩, w1, w2⟩
  · rw [if_neg h1, if_neg h1]
    exact ⟨_, _, rfl, rfl, rfl, T, S, sz, tl, ⟨n1.mono (by omega), n2, rfl⟩, ⟨s1, s2, s3.mono (by omega)⟩, ⟨t1, t2, t3, t4⟩, w1, w2⟩
theorem op_setTunnel (hV : V + 1 < 2 ^ 20) (h : zRel V X M) (x y z : Int32) : zOp (V + 1) (gX_setTunnel X x y z) (gM_setTunnel M x y z) := by
  obtain ⟨T, S, sz, tl, ⟨n1, n2, n3⟩, ⟨s1, s2, s3⟩, ⟨t1, t2, t3, t4⟩, ⟨w1, w2⟩⟩ := h
  have hb := n1.1
  have hp : fX6_isTunnel x X.2.1.2.2.1 = some (bI (iN (aNT T) x)) := by rw [n2.2.2.1]; exact c_isTunnel
  unfold gX_setTunnel gM_setTunnel fX6_setTunnel fX7_setTunnel
  rw [n3, hp, e_isTunnel n1, show (40 : Int32) = nI 40 from zl40, c_isCost, c_isFlag, show fX7_in z (1 : Int32) (nI 40) = some (bI (oN z (nI 1) (nI 40))) from e_in3, show fX7_in y (0 : Int32) (1 : Int32) = some (bI (oN y (nI 0) (nI 1))) from e_in3]
  simp only [Option.bind_some, ite_bI]
  by_cases h1 : iN (aNT T) x
  · rw [if_pos h1, if_pos h1]
    by_cases h2 : oN y (nI 0) (nI 1)
    · rw [if_pos h2, if_pos h2]
      by_cases h3 : oN z (nI 1) (nI 40)
      · rw [if_pos h3, if_pos h3]
        obtain ⟨k, hk, rfl⟩ := (iN_ex (by omega)).mp h1
        obtain ⟨up, hup1, hup, rfl⟩ := (oN_ex (by omega) (by omega)).mp h2
        obtain ⟨c, hc1, hc, rfl⟩ := (oN_ex (by omega) (by omega)).mp h3
        have hl := n1.2.2.2.2.1 k hk
        have et := n2.2.2.2.2.2.2.2.1 (32 + k) (by omega)
        rw [(aTx_t (T := T) (k := k)).1, (aTx_t (T := T) (k := k)).2.1, (aTx_t (T := T) (k := k)).2.2] at et
        have big : ∃ p q, uX6_setTunnel_61 (nI k) (nI up) (nI c) X.1.1 X.2.1.1 X.2.1.2.1 X.2.1.2.2.1 X.2.1.2.2.2.1 X.2.1.2.2.2.2.1 X.2.1.2.2.2.2.2.1 X.2.1.2.2.2.2.2.2.1 X.2.1.2.2.2.2.2.2.2.1 X.2.1.2.2.2.2.2.2.2.2.1 X.2.1.2.2.2.2.2.2.2.2.2.1 X.2.1.2.2.2.2.2.2.2.2.2.2.1 X.2.1.2.2.2.2.2.2.2.2.2.2.2.1 X.2.1.2.2.2.2.2.2.2.2.2.2.2.2 X.2.2.2.2.2.2.2.2.1 X.2.2.2.2.2.2.2.2.2.1 X.2.2.2.2.2.2.2.2.2.2 = some p ∧ uX7_setTunnel_57 (nI k) (nI up) (nI c) (0 : Int32) (zI T) M.2.2.1 M.2.2.2.1 M.2.2.2.2.1 = some q ∧ p.1 = q.1 ∧ ∃ S' sz', p.2.1 = nI sz' ∧ p.2.2.1 = 0 ∧ q.2.2.2.2.1 = nI sz' ∧ q.2.2.2.2.2.2 = 0 ∧ q.2.2.1 = zI (aChT (aST T k up c) k) ∧ hRel V S' sz' q.2.2.2.1 p.2.2.2.2.2.2.1 p.2.2.2.2.2.2.2.1 p.2.2.2.2.2.2.2.2 ∧ aRel (aChT (aST T k up c) k) (X.2.1.1, X.2.1.2.1, X.2.1.2.2.1, X.2.1.2.2.2.1, X.2.1.2.2.2.2.1, X.2.1.2.2.2.2.2.1, X.2.1.2.2.2.2.2.2.1, X.2.1.2.2.2.2.2.2.2.1, X.2.1.2.2.2.2.2.2.2.2.1, X.2.1.2.2.2.2.2.2.2.2.2.1, p.2.2.2.1, p.2.2.2.2.1, p.2.2.2.2.2.1) := by
          obtain ⟨S', sz', saved', as', hF', hG', hN', p1, p2, p3⟩ := h_act n1 n2 s3 (aside := M.2.2.2.2.1)
          obtain ⟨q, c1, c2, c3⟩ := c_setTunnel n1 hV n2 hk hup hc1 hc
          have hI2 := aST_inv n1 hk hup hc1 hc
          have e1 : upd (upd (upd (zI T) (142 + 5 * k + 3) (nI up)) (142 + 5 * k + 2) (nI c)) (142 + 5 * k + 4) ((upd (upd (zI T) (142 + 5 * k + 3) (nI up)) (142 + 5 * k + 2) (nI c)) (142 + 5 * k + 4) + 1) = zI (aST T k up c) := by
            rw [upd_h (by omega), upd_h (by omega), zI_h (by omega)]
            dsimp only
            rw [un_ne (by omega), un_ne (by omega), nI_1, upd_h (by omega)]
            rfl
          unfold uX6_setTunnel_61 uX7_setTunnel_57
          rw [s1, s2, p1, p2, Option.bind_some, c1, Option.bind_some, Option.bind_some, nm_eq, zl142, zl5, pk_mul, nI_add, zl2, zl3, zl4, nI_add, nI_add, nI_add, gd_in (show 142 + 5 * k + 3 < 1557 by omega), gd_in (show 142 + 5 * k + 2 < 1557 by omega), gd_in (show 142 + 5 * k + 4 < 1557 by omega), gd_in (show 142 + 5 * k + 4 < 1557 by omega), nI_cl (show 142 + 5 * k + 3 < 2 ^ 31 by omega), nI_cl (show 142 + 5 * k + 2 < 2 ^ 31 by omega), nI_cl (show 142 + 5 * k + 4 < 2 ^ 31 by omega), e1]
          have f0 : aT (aChT (aST T k up c) k) k 4 = aT T k 4 + 1 := by
            unfold aT
            rw [aChT_1]
            exact (aST_at (T := T) (k := k) (up := up) (c := c) (p := 4) (by omega)).trans rfl
          rw [e_changeTunnel hI2 (by omega) (by omega), Option.bind_some, e_tunnelPart (by omega) (by omega), Option.bind_some, f0]
          exact ⟨_, _, rfl, rfl, c2, S', sz', rfl, rfl, rfl, rfl, rfl, p3, c3⟩
        rw [show (32 : Int32) = nI 32 from zl32, nI_add, gd_in (by omega), nm_eq, nI_cl (by omega), et, c_state hl.2.2.2.2.2.2.2 (by omega) hl.2.2.2.2.2.1 (by omega), c_price hl.2.2.2.2.2.2.2 (by omega) hl.2.2.2.2.2.1 (by omega), show (3 : Int32) = nI 3 from zl3, e_tunnelPart (by omega) (by omega), show (2 : Int32) = nI 2 from zl2, e_tunnelPart (by omega) (by omega)]
        simp only [Option.bind_some]
        rw [ite_eqN (show aT T k 3 < 2 ^ 31 by omega) (by omega), ite_eqN (show aT T k 2 < 2 ^ 31 by omega) (by omega), ite_eqN (show aT T k 3 < 2 ^ 31 by omega) (by omega), ite_eqN (show aT T k 2 < 2 ^ 31 by omega) (by omega)]
        obtain ⟨p, q, g1, g2, g3, S', sz', d1, d2, d3, d4, d5, d6, d7⟩ := big
        rw [g1, g2]
        by_cases h4 : aT T k 3 = up
        · rw [if_pos h4, if_pos h4]
          by_cases h5 : aT T k 2 = c
          · rw [if_pos h5, if_pos h5]
            exact ⟨_, _, rfl, rfl, rfl, T, S, sz, tl, ⟨n1.mono (by omega), n2, rfl⟩, ⟨s1, s2, s3.mono (by omega)⟩, ⟨t1, t2, t3, t4⟩, w1, w2⟩
          · rw [if_neg h5, if_neg h5]
            exact ⟨_, _, rfl, rfl, g3, aChT (aST T k up c) k, S', sz', tl, ⟨aChT_inv (aST_inv n1 hk hup hc1 hc) (by rw [show aNT (aST T k up c) = aNT T from aST_ot (by omega)]; exact hk), d7, d5⟩, ⟨d1, d3, d6.mono (by omega)⟩, ⟨t1, t2, t3, t4⟩, d2.trans d4.symm, Or.inl d2⟩
        · rw [if_neg h4, if_neg h4]
          exact ⟨_, _, rfl, rfl, g3, aChT (aST T k up c) k, S', sz', tl, ⟨aChT_inv (aST_inv n1 hk hup hc1 hc) (by rw [show aNT (aST T k up c) = aNT T from aST_ot (by omega)]; exact hk), d7, d5⟩, ⟨d1, d3, d6.mono (by omega)⟩, ⟨t1, t2, t3, t4⟩, d2.trans d4.symm, Or.inl d2⟩
      · rw [if_neg h3, if_neg h3]
        exact ⟨_, _, rfl, rfl, rfl, T, S, sz, tl, ⟨n1.mono (by omega), n2, rfl⟩, ⟨s1, s2, s3.mono (by omega)⟩, ⟨t1, t2, t3, t4⟩, w1, w2⟩
    · rw [if_neg h2, if_neg h2]
      exact ⟨_, _, rfl, rfl, rfl, T, S, sz, tl, ⟨n1.mono (by omega), n2, rfl⟩, ⟨s1, s2, s3.mono (by omega)⟩, ⟨t1, t2, t3, t4⟩, w1, w2⟩
  · rw [if_neg h1, if_neg h1]
    exact ⟨_, _, rfl, rfl, rfl, T, S, sz, tl, ⟨n1.mono (by omega), n2, rfl⟩, ⟨s1, s2, s3.mono (by omega)⟩, ⟨t1, t2, t3, t4⟩, w1, w2⟩
theorem op_append (h : zRel V X M) (x : Int32) : zOp V (gX_append X x) (gM_append M x) := by
  obtain ⟨T, S, sz, tl, ⟨n1, n2, n3⟩, ⟨s1, s2, s3⟩, ⟨t1, t2, t3, t4⟩, ⟨w1, w2⟩⟩ := h
  have hb := n1.1
  unfold gX_append gM_append fX6_append fX7_append
  rw [show fX7_in x (1 : Int32) (255 : Int32) = some (bI (oN x (nI 1) (nI 255))) from e_in3, Option.bind_some, ite_bI, show (1 : Int32) = nI 1 from zl1, show (255 : Int32) = nI 255 from zl255]
  by_cases h1 : oN x (nI 1) (nI 255)
  · obtain ⟨c, hc1, hc, rfl⟩ := (oN_ex (by omega) (by omega)).mp h1
    have en : vp_nar .char ((nI c).toUInt32 % 65536).toInt32 = nI c := by
      rw [pk_vc, pk_char, pk_tn (by omega), Nat.mod_eq_of_lt (by omega)]
    rw [if_pos h1, if_neg h1.1, if_pos (nI_le hc (by omega)), t2, t3, zl120, ite_eqN (by omega) (by omega), ite_ltN (by omega) (by omega), en]
    by_cases hn : tl < 120
    · rw [if_pos hn, if_neg (by omega), gd_in hn, gd_in hn, nI_cl (by omega), nI_add]
      have ht : ∀ j, j < tl + 1 → ∃ d, 1 ≤ d ∧ d ≤ 255 ∧ upd X.2.2.2.1.1 tl (nI c) j = nI d ∧ upd M.2.2.2.2.2.2.1 tl (nI c) j = nI d := by
        intro j hj
        by_cases hj2 : j = tl
        · subst hj2
          exact ⟨c, hc1, hc, if_pos rfl, if_pos rfl⟩
        · obtain ⟨d, d1, d2, d3, d4⟩ := t4 j (by omega)
          exact ⟨d, d1, d2, (if_neg hj2).trans d3, (if_neg hj2).trans d4⟩
      exact ⟨_, _, rfl, rfl, rfl, T, S, sz, tl + 1, ⟨n1, n2, n3⟩, ⟨s1, s2, s3⟩, ⟨by omega, rfl, rfl, ht⟩, w1, w2⟩
    · rw [if_neg hn, if_pos (by omega)]
      exact ⟨_, _, rfl, rfl, rfl, T, S, sz, tl, ⟨n1, n2, n3⟩, ⟨s1, s2, s3⟩, ⟨t1, rfl, rfl, t4⟩, w1, w2⟩
  · rw [if_neg h1]
    by_cases h2 : x < nI 1
    · rw [if_pos h2]
      exact ⟨_, _, rfl, rfl, rfl, T, S, sz, tl, ⟨n1, n2, n3⟩, ⟨s1, s2, s3⟩, ⟨t1, t2, t3, t4⟩, w1, w2⟩
    · rw [if_neg h2, if_neg (fun q => h1 ⟨h2, Int32.not_lt.mpr q⟩)]
      exact ⟨_, _, rfl, rfl, rfl, T, S, sz, tl, ⟨n1, n2, n3⟩, ⟨s1, s2, s3⟩, ⟨t1, t2, t3, t4⟩, w1, w2⟩
theorem op_clearText (h : zRel V X M) : zOp V (gX_clearText X) (gM_clearText M) := by
  obtain ⟨T, S, sz, tl, ⟨n1, n2, n3⟩, ⟨s1, s2, s3⟩, ⟨t1, t2, t3, t4⟩, ⟨w1, w2⟩⟩ := h
  have hb := n1.1
  unfold gX_clearText gM_clearText fX6_clearText fX7_clearText
  exact ⟨_, _, rfl, rfl, t2.trans t3.symm, T, S, sz, 0, ⟨n1, n2, n3⟩, ⟨s1, s2, s3⟩, ⟨by omega, rfl, rfl, fun j hj => by omega⟩, w1, w2⟩
end P39w
