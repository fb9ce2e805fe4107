/-! The text: items, and load. -/
section P39t
variable {tx : Nat → Nat} {L : Nat} {T : zA} {V : Nat}
theorem ite_eq0 {α : Type} {a : Nat} {x y : α} (ha : a < 2 ^ 31) : (if nI a = (0 : Int32) then x else y) = if a = 0 then x else y := ite_eqN (b := 0) ha (by omega)
theorem item_link {text textX : Nat → Int32} (hX : rX tx L text) (hY : rX tx L textX) (hJ : jInv T) {N : zNet} (hR : aRel T N) {p pr t : Nat} (ht : (t = 2 ∧ pr = 0) ∨ (t = 3 ∧ pr = 1)) (hp : p ≤ L) (hk : ¬ kk tx L p = 0) :
    ∃ r y, ((fX7_readLink (nI pr) (zI T) text (nI L) (nI (ee tx L p)) (nI (ss tx L p)) (nI (rt (kk tx L p))) (nu tx L p) (le tx L p) 0).bind (fun y6 => uX7_readItem_160 y6.1 text (nI L) y6.2.1 y6.2.2.1 y6.2.2.2.1 y6.2.2.2.2.1 y6.2.2.2.2.2.1 y6.2.2.2.2.2.2)) = some r ∧ (if (16 : Int32) ≤ nI (aNL T) then ((fX5_readLine 0 (20 : Int32) textX (nI L) (nI (ss tx L p)) (nI (ee tx L p)) (nI (kk tx L p)) (-1) (nI (aNN T))).bind (fun y4 => uX5_readItem_139 textX (nI L) y4.1 y4.2.1 y4.2.2.1 y4.2.2.2.1 (nI t) y4.2.2.2.2.1 y4.2.2.2.2.2.1 y4.2.2.2.2.2.2)) else ((fX5_readLine 1 (20 : Int32) textX (nI L) (nI (ss tx L p)) (nI (ee tx L p)) (nI (kk tx L p)) (-1) (nI (aNN T))).bind (fun y4 => uX5_readItem_139 textX (nI L) y4.1 y4.2.1 y4.2.2.1 y4.2.2.2.1 (nI t) y4.2.2.2.2.1 y4.2.2.2.2.2.1 y4.2.2.2.2.2.2))) = some y ∧ iOut tx L N p r y := by
  have hL := hX.1
  have hb := hJ.1.1
  have g1 := ee_ge (tx := tx) hp
  have g2 := ee_ge (tx := tx) g1.2.1
  have g3 := ee_ge (tx := tx) g2.2.1
  have g4 := ee_ge (tx := tx) g3.2.1
  have g5 := (ee_spec (tx := tx) hp).2.2 hk
  have g6 := (ss_spec (tx := tx) (L := L) p).1
  rw [e_readLink hX hJ.1 hp, zl16, ite_leN (by omega) (by omega)]
  by_cases hn : aNL T < 16
  · rw [if_pos hn, if_neg (show ¬ 16 ≤ aNL T by omega), zl20, c_line hY hJ.1 hp, Option.bind_some]
    by_cases h1 : iN (aNN T) (nu tx L (ee tx L p))
    · rw [if_pos h1, if_pos h1]
      by_cases h2 : (iN (aNN T) (nu tx L (ee tx L (ee tx L p))) ∧ ¬ (nu tx L (ee tx L (ee tx L p))) = (nu tx L (ee tx L p)))
      · rw [if_pos h2, if_pos h2]
        by_cases h3 : oN (nu tx L (ee tx L (ee tx L (ee tx L p)))) 1 (nI 20)
        · rw [if_pos h3, if_pos h3]
          obtain ⟨f, hf, ef⟩ := (iN_ex (by omega)).mp h1
          obtain ⟨s, hs, es⟩ := (iN_ex (by omega)).mp h2.1
          obtain ⟨c, hc1, hc, ec⟩ := (oN_ex (a := 1) (b := 20) (by omega) (by omega)).mp h3
          have hfs : f ≠ s := by
            rintro rfl
            exact h2.2 (by rw [ef, es])
          dsimp only
          rw [ef, es, ec, e_makeLink hJ.1 (Nat.le_refl 1) (by omega) hn hf hs hfs hc1 hc (pr := pr) (by omega), Option.bind_some, Option.bind_some]
          refine iOut_semi hX hY (j_link hJ hn hf hs hfs hc1 hc (by omega)) (by omega) g4.2.1 ?_
          obtain ⟨q, c1, c2, c3⟩ := c_createLink hJ.1 (Nat.le_refl 1) (by omega) hR hn hf hs hfs hc1 hc (pr := pr) (by omega)
          unfold fX5_addThing
          rcases ht with ⟨rfl, rfl⟩ | ⟨rfl, rfl⟩
          · rw [if_neg (by decide), if_pos zl2.symm, zl0, c1]
            exact ⟨_, rfl, c3⟩
          · rw [if_neg (by decide), if_neg (by decide), if_pos zl3.symm, show (1 : Int32) = nI 1 from zl1, c1]
            exact ⟨_, rfl, c3⟩
        · rw [if_neg h3, if_neg h3, Option.bind_some]
          dsimp only
          rw [e_semi_w, c_semi_w (by omega)]
          exact ⟨_, _, rfl, rfl, iOut_bad (by omega)⟩
      · rw [if_neg h2, if_neg h2, Option.bind_some]
        dsimp only
        rw [e_semi_w, c_semi_w (by omega)]
        exact ⟨_, _, rfl, rfl, iOut_bad (by omega)⟩
    · rw [if_neg h1, if_neg h1, Option.bind_some]
      dsimp only
      rw [e_semi_w, c_semi_w (by omega)]
      exact ⟨_, _, rfl, rfl, iOut_bad (by omega)⟩
  · rw [if_neg hn, if_pos (show 16 ≤ aNL T by omega), c_line_0 hL hJ.1 hp, Option.bind_some, Option.bind_some]
    dsimp only
    rw [e_semi_w, c_semi_w (by omega)]
    exact ⟨_, _, rfl, rfl, iOut_bad (by omega)⟩
theorem item_tunnel {text textX : Nat → Int32} (hX : rX tx L text) (hY : rX tx L textX) (hJ : jInv T) {N : zNet} (hR : aRel T N) {p t : Nat} (ht : t = 5) (hp : p ≤ L) (hk : ¬ kk tx L p = 0) :
    ∃ r y, ((fX7_readTunnel (zI T) text (nI L) (nI (ee tx L p)) (nI (ss tx L p)) (nI (rt (kk tx L p))) (nu tx L p) (le tx L p) 0).bind (fun y6 => uX7_readItem_160 y6.1 text (nI L) y6.2.1 y6.2.2.1 y6.2.2.2.1 y6.2.2.2.2.1 y6.2.2.2.2.2.1 y6.2.2.2.2.2.2)) = some r ∧ (if (3 : Int32) ≤ nI (aNT T) then ((fX5_readLine 0 (40 : Int32) textX (nI L) (nI (ss tx L p)) (nI (ee tx L p)) (nI (kk tx L p)) (-1) (nI (aNN T))).bind (fun y4 => uX5_readItem_139 textX (nI L) y4.1 y4.2.1 y4.2.2.1 y4.2.2.2.1 (nI t) y4.2.2.2.2.1 y4.2.2.2.2.2.1 y4.2.2.2.2.2.2)) else ((fX5_readLine 1 (40 : Int32) textX (nI L) (nI (ss tx L p)) (nI (ee tx L p)) (nI (kk tx L p)) (-1) (nI (aNN T))).bind (fun y4 => uX5_readItem_139 textX (nI L) y4.1 y4.2.1 y4.2.2.1 y4.2.2.2.1 (nI t) y4.2.2.2.2.1 y4.2.2.2.2.2.1 y4.2.2.2.2.2.2))) = some y ∧ iOut tx L N p r y := by
  have hL := hX.1
  have hb := hJ.1.1
  have g1 := ee_ge (tx := tx) hp
  have g2 := ee_ge (tx := tx) g1.2.1
  have g3 := ee_ge (tx := tx) g2.2.1
  have g4 := ee_ge (tx := tx) g3.2.1
  have g5 := (ee_spec (tx := tx) hp).2.2 hk
  have g6 := (ss_spec (tx := tx) (L := L) p).1
  rw [e_readTunnel hX hJ.1 hp, zl3, ite_leN (by omega) (by omega)]
  by_cases hn : aNT T < 3
  · rw [if_pos hn, if_neg (show ¬ 3 ≤ aNT T by omega), zl40, c_line hY hJ.1 hp, Option.bind_some]
    by_cases h1 : iN (aNN T) (nu tx L (ee tx L p))
    · rw [if_pos h1, if_pos h1]
      by_cases h2 : (iN (aNN T) (nu tx L (ee tx L (ee tx L p))) ∧ ¬ (nu tx L (ee tx L (ee tx L p))) = (nu tx L (ee tx L p)))
      · rw [if_pos h2, if_pos h2]
        by_cases h3 : oN (nu tx L (ee tx L (ee tx L (ee tx L p)))) 1 (nI 40)
        · rw [if_pos h3, if_pos h3]
          obtain ⟨f, hf, ef⟩ := (iN_ex (by omega)).mp h1
          obtain ⟨s, hs, es⟩ := (iN_ex (by omega)).mp h2.1
          obtain ⟨c, hc1, hc, ec⟩ := (oN_ex (a := 1) (b := 40) (by omega) (by omega)).mp h3
          have hfs : f ≠ s := by
            rintro rfl
            exact h2.2 (by rw [ef, es])
          dsimp only
          rw [ef, es, ec, e_makeTunnel hJ.1 (Nat.le_refl 1) (by omega) hn hf hs hfs hc1 hc, Option.bind_some, Option.bind_some]
          refine iOut_semi hX hY (j_tun hJ hn hf hs hfs hc1 hc) (by omega) g4.2.1 ?_
          obtain ⟨q, c1, c2, c3⟩ := c_createTunnel hJ.1 (Nat.le_refl 1) (by omega) hR hn hf hs hfs hc1 hc
          unfold fX5_addThing
          subst ht
          rw [if_neg (by decide), if_neg (by decide), if_neg (by decide), if_neg (by decide), if_pos zl5.symm, c1]
          exact ⟨_, rfl, c3⟩
        · rw [if_neg h3, if_neg h3, Option.bind_some]
          dsimp only
          rw [e_semi_w, c_semi_w (by omega)]
          exact ⟨_, _, rfl, rfl, iOut_bad (by omega)⟩
      · rw [if_neg h2, if_neg h2, Option.bind_some]
        dsimp only
        rw [e_semi_w, c_semi_w (by omega)]
        exact ⟨_, _, rfl, rfl, iOut_bad (by omega)⟩
    · rw [if_neg h1, if_neg h1, Option.bind_some]
      dsimp only
      rw [e_semi_w, c_semi_w (by omega)]
      exact ⟨_, _, rfl, rfl, iOut_bad (by omega)⟩
  · rw [if_neg hn, if_pos (show 3 ≤ aNT T by omega), c_line_0 hL hJ.1 hp, Option.bind_some, Option.bind_some]
    dsimp only
    rw [e_semi_w, c_semi_w (by omega)]
    exact ⟨_, _, rfl, rfl, iOut_bad (by omega)⟩
theorem item_grant {text textX : Nat → Int32} (hX : rX tx L text) (hY : rX tx L textX) (hJ : jInv T) {N : zNet} (hR : aRel T N) {p : Nat} (hp : p ≤ L) (hk : ¬ kk tx L p = 0) {b3 : Int32} :
    ∃ r y, ((fX7_readGrant (zI T) text (nI L) (nI (ee tx L p)) (nI (ss tx L p)) (nI (rt (kk tx L p))) (nu tx L p) (le tx L p) 0).bind (fun y4 => uX7_readItem_160 y4.1 text (nI L) y4.2.1 y4.2.2.1 y4.2.2.2.1 y4.2.2.2.2.1 y4.2.2.2.2.2.1 y4.2.2.2.2.2.2)) = some r ∧ ((fX5_readGrant textX (nI L) (nI (ss tx L p)) (nI (ee tx L p)) (nI (kk tx L p)) (-1) N.2.2.2.2.2.2.2.2.2.2.1).bind (fun y6 => uX5_readItem_139 textX (nI L) y6.1 y6.2.1 y6.2.2.1 y6.2.2.2.1 (nI 4) y6.2.2.2.2.1 y6.2.2.2.2.2 b3)) = some y ∧ iOut tx L N p r y := by
  have hL := hX.1
  have g1 := ee_ge (tx := tx) hp
  have g2 := ee_ge (tx := tx) g1.2.1
  have g3 := ee_ge (tx := tx) g2.2.1
  have g5 := (ee_spec (tx := tx) hp).2.2 hk
  have g6 := (ss_spec (tx := tx) (L := L) p).1
  have e4 : (3 : Int32) = nI 4 - 1 := rfl
  unfold fX7_readGrant fX5_readGrant
  rw [e_take_y hX g1.2.1 (by decide), Option.bind_some]
  dsimp only
  rw [e4, e_takeNumber hX g1.2.1, Option.bind_some, c_readNumber hY g1.2.1, Option.bind_some]
  dsimp only
  by_cases h1 : iN 4 (nu tx L (ee tx L p))
  · rw [if_pos ((iN_sub (by omega)).mpr h1), if_pos ((iN_cR (by omega)).mpr h1)]
    dsimp only
    rw [c_readNumber hY g2.2.1, Option.bind_some]
    dsimp only
    have ref : (if nI (rt (kk tx L (ee tx L (ee tx L p)))) = (1 : Int32) then uX7_readGrant_28 (nu tx L (ee tx L p)) (nu tx L (ee tx L (ee tx L p))) (zI T) text (nI L) (nI (ee tx L (ee tx L (ee tx L p)))) (nI (ss tx L (ee tx L (ee tx L p)))) (nI (rt (kk tx L (ee tx L (ee tx L p))))) (nu tx L (ee tx L (ee tx L p))) (le tx L (ee tx L (ee tx L p))) 0 else uX7_readGrant_28 (nu tx L (ee tx L p)) (-1) (zI T) text (nI L) (nI (ee tx L (ee tx L (ee tx L p)))) (nI (ss tx L (ee tx L (ee tx L p)))) (nI (rt (kk tx L (ee tx L (ee tx L p))))) (nu tx L (ee tx L (ee tx L p))) (le tx L (ee tx L (ee tx L p))) 0) = uX7_readGrant_28 (nu tx L (ee tx L p)) (nu tx L (ee tx L (ee tx L p))) (zI T) text (nI L) (nI (ee tx L (ee tx L (ee tx L p)))) (nI (ss tx L (ee tx L (ee tx L p)))) (nI (rt (kk tx L (ee tx L (ee tx L p))))) (nu tx L (ee tx L (ee tx L p))) (le tx L (ee tx L (ee tx L p))) 0 := by
      by_cases k2 : kk tx L (ee tx L (ee tx L p)) = 2
      · rw [if_pos (rt_1.mpr k2)]
      · rw [if_neg (fun q => k2 (rt_1.mp q)), nu_not k2]
    have r65 : uX7_readGrant_65 (nu tx L (ee tx L p)) (nu tx L (ee tx L (ee tx L p))) (zI T) text (nI L) (nI (ee tx L (ee tx L (ee tx L p)))) (nI (ss tx L (ee tx L (ee tx L p)))) (nI (rt (kk tx L (ee tx L (ee tx L p))))) (nu tx L (ee tx L (ee tx L p))) (le tx L (ee tx L (ee tx L p))) 0 = some (zI T, nI (ee tx L (ee tx L (ee tx L p))), nI (ss tx L (ee tx L (ee tx L p))), nI (rt (kk tx L (ee tx L (ee tx L p)))), nu tx L (ee tx L (ee tx L p)), le tx L (ee tx L (ee tx L p)), 1) := by
      unfold uX7_readGrant_65 uX7_readGrant_66
      rw [e_take_n, Option.bind_some]
      dsimp only
      rw [if_neg (by decide)]
    rw [ref]
    unfold uX7_readGrant_28
    rw [if_pos rfl, e_areAreas, Option.bind_some, ite_bI]
    by_cases h2 : iP 4 (nu tx L (ee tx L p)) (nu tx L (ee tx L (ee tx L p)))
    · obtain ⟨a, b, ha, hb, hab, ea, eb⟩ := (iP_ex (by omega)).mp h2
      have hgr := hJ.1.2.2.2.2.2.2.1 (4 * a + b) (by omega)
      have hUp := c_isUp hJ.1 (by omega) hR.2.2.2.2.2.2.2.1 (i := 4 * a + b) (by omega)
      rw [(aTx_g (T := T) (i := 4 * a + b) (by omega)).2.1] at hUp
      rw [if_pos h2, if_pos ((iN_cR2 (by omega)).mpr ⟨h2.2.1, fun q => h2.2.2 q.symm⟩), if_pos rfl, r65]
      have eg : zI T (14 + 4 * a + b) = nI (aGr T (4 * a + b)) := by rw [Nat.add_assoc, zI_h (by omega)]
      rw [ea, eb, c_grantItem, Option.bind_some, hUp, Option.bind_some, ite_bI, zl14, zl4, pk_mul, nI_add, nI_add, gd_in (by omega), nI_cl (by omega), eg, ite_eq0 (by omega)]
      by_cases h3 : aGr T (4 * a + b) = 0
      · rw [if_pos h3, if_neg (show ¬ aGr T (4 * a + b) = 1 by omega)]
        unfold uX7_readGrant_66
        rw [e_take_y hX g3.2.1 (show (1 : Int32) ≠ 0 by decide), Option.bind_some]
        dsimp only
        rw [if_pos rfl, zl1, e_changeGrant hJ.1 (by omega) ha hb hab (by omega)]
        simp only [Option.bind_some]
        refine iOut_semi hX hY (j_grant hJ ha hb hab h3) (by omega) g3.2.1 ?_
        obtain ⟨q, c1, c2, c3⟩ := c_setGrant hJ.1 (by omega) hR ha hb hab (on := 1) (by omega)
        unfold fX5_addThing
        rw [if_neg (by decide), if_neg (by decide), if_neg (by decide), if_pos zl4.symm, show (1 : Int32) = nI 1 from zl1, c1]
        exact ⟨_, rfl, c3⟩
      · rw [if_neg h3, if_pos (show aGr T (4 * a + b) = 1 by omega)]
        rw [show ∀ x, fX5_fail x = some x from fun x => rfl]
        simp only [Option.bind_some]
        rw [e_semi_w, c_semi_w (by omega)]
        exact ⟨_, _, rfl, rfl, iOut_bad (by omega)⟩
    · have h3 : ¬ cR (nu tx L (ee tx L (ee tx L p))) 0 (nI 4 - 1) (nu tx L (ee tx L p)) := fun q => h2 ⟨h1, ((iN_cR2 (by omega)).mp q).1, fun z => q.2.2 z.symm⟩
      rw [if_neg h2, r65, if_neg h3, if_neg (nI_neg (by omega) (by decide))]
      simp only [Option.bind_some]
      rw [e_semi_w, c_semi_w (by omega)]
      exact ⟨_, _, rfl, rfl, iOut_bad (by omega)⟩
  · rw [if_neg (fun q => h1 ((iN_sub (by omega)).mp q)), if_neg (fun q => h1 ((iN_cR (by omega)).mp q))]
    dsimp only
    rw [c_readNumber_w (by omega), Option.bind_some]
    dsimp only
    rw [if_neg (show ¬ nI (ss tx L (ee tx L p)) = -1 from nI_neg (by omega) (by decide))]
    have r28 : ∀ k0, uX7_readGrant_28 0 k0 (zI T) text (nI L) (nI (ee tx L (ee tx L p))) (nI (ss tx L (ee tx L p))) (nI (rt (kk tx L (ee tx L p)))) (nu tx L (ee tx L p)) (le tx L (ee tx L p)) 1 = some (zI T, nI (ee tx L (ee tx L p)), nI (ss tx L (ee tx L p)), nI (rt (kk tx L (ee tx L p))), nu tx L (ee tx L p), le tx L (ee tx L p), 1) := by
      intro k0
      unfold uX7_readGrant_28
      rw [if_neg (by decide)]
      unfold uX7_readGrant_65 uX7_readGrant_66
      rw [e_take_w, Option.bind_some]
      dsimp only
      rw [if_neg (by decide)]
    rw [r28, show ∀ (k : Int32), uX7_readGrant_28 0 k (zI T) text (nI L) (nI (ee tx L (ee tx L p))) (nI (ss tx L (ee tx L p))) (nI (rt (kk tx L (ee tx L p)))) (nu tx L (ee tx L p)) (le tx L (ee tx L p)) 1 = some (zI T, nI (ee tx L (ee tx L p)), nI (ss tx L (ee tx L p)), nI (rt (kk tx L (ee tx L p))), nu tx L (ee tx L p), le tx L (ee tx L p), 1) from r28, show ∀ (P : Prop) [Decidable P] (x : Option ((Nat → Int32) × Int32 × Int32 × Int32 × Int32 × Int64 × Int32)), (if P then x else x) = x from fun P _ x => by split <;> rfl]
    simp only [Option.bind_some]
    rw [e_semi_w, c_semi_w (by omega)]
    exact ⟨_, _, rfl, rfl, iOut_bad (by omega)⟩

theorem item {text textX : Nat → Int32} (hX : rX tx L text) (hY : rX tx L textX) (hJ : jInv T) {N : zNet} (hR : aRel T N) {p : Nat} (hp : p ≤ L) (hk : ¬ kk tx L p = 0) {b1 b2 b3 : Int32} :
    ∃ r y, fX7_readItem (zI T) text (nI L) (nI (ee tx L p)) (nI (ss tx L p)) (nI (rt (kk tx L p))) (nu tx L p) (le tx L p) 0 = some r ∧ fX5_readItem textX (nI L) (nI (ss tx L p)) (nI (ee tx L p)) (nI (kk tx L p)) (-1) b1 b2 b3 N.1 N.2.1 N.2.2.1 N.2.2.2.2.2.2.2.2.2.2.1 = some y ∧ iOut tx L N p r y := by
  have hL := hX.1
  have g1 := ee_ge (tx := tx) hp
  have e15 : fX7_readItem (zI T) text (nI L) (nI (ee tx L p)) (nI (ss tx L p)) (nI (rt (kk tx L p))) (nu tx L p) (le tx L p) 0 = uX7_readItem_15 (le tx L p) (zI T) text (nI L) (nI (ee tx L p)) (nI (ss tx L p)) (nI (rt (kk tx L p))) (nu tx L p) (le tx L p) 0 := by
    have hk3 : kk tx L p ≤ 3 := kd_le
    unfold fX7_readItem
    by_cases k1 : kk tx L p = 1
    · rw [if_pos (by rw [k1]; rfl)]
    · rw [if_neg (by
        rw [zl0, nI_eq (by unfold rt; split <;> omega) (by omega)]
        unfold rt
        split <;> omega), show le tx L p = 0 from if_neg k1]
  rw [e15, hR.1, hR.2.1, hR.2.2.1]
  unfold uX7_readItem_15 fX5_readItem
  rw [c_tokenThing hY hp, Option.bind_some, show vp_in (0 : Int32) 1557 = vp_in (nI 0) 1557 from rfl, gd_in (by omega), show (0 : Int32).toNatClampNeg = 0 from rfl, zI_h (by omega)]
  unfold th
  by_cases a0 : wrd tx L w0 4 p
  · rw [if_pos ((le_wrd hp (by omega) (by omega) w0_ok w0_c).mpr a0), if_pos a0, if_pos zl1.symm]
    exact item_node hX hY hJ hR hp hk
  · rw [if_neg (fun q => a0 ((le_wrd hp (by omega) (by omega) w0_ok w0_c).mp q)), if_neg a0]
    by_cases a1 : wrd tx L w1 4 p
    · rw [if_pos ((le_wrd hp (by omega) (by omega) w1_ok w1_c).mpr a1), if_pos a1, if_neg (by decide), if_pos zl2.symm]
      exact item_link hX hY hJ hR (pr := 0) (t := 2) (Or.inl ⟨rfl, rfl⟩) hp hk
    · rw [if_neg (fun q => a1 ((le_wrd hp (by omega) (by omega) w1_ok w1_c).mp q)), if_neg a1]
      by_cases a2 : wrd tx L w2 7 p
      · rw [if_pos ((le_wrd hp (by omega) (by omega) w2_ok w2_c).mpr a2), if_pos a2, if_neg (by decide), if_neg (by decide), if_pos zl3.symm]
        exact item_link hX hY hJ hR (pr := 1) (t := 3) (Or.inr ⟨rfl, rfl⟩) hp hk
      · rw [if_neg (fun q => a2 ((le_wrd hp (by omega) (by omega) w2_ok w2_c).mp q)), if_neg a2]
        by_cases a3 : wrd tx L w3 5 p
        · rw [if_pos ((le_wrd hp (by omega) (by omega) w3_ok w3_c).mpr a3), if_pos a3, if_neg (by decide), if_neg (by decide), if_neg (by decide), if_pos zl4.symm]
          exact item_grant hX hY hJ hR hp hk
        · rw [if_neg (fun q => a3 ((le_wrd hp (by omega) (by omega) w3_ok w3_c).mp q)), if_neg a3]
          by_cases a4 : wrd tx L w4 6 p
          · rw [if_pos ((le_wrd hp (by omega) (by omega) w4_ok w4_c).mpr a4), if_pos a4, if_neg (by decide), if_neg (by decide), if_neg (by decide), if_neg (by decide), if_pos zl5.symm]
            exact item_tunnel hX hY hJ hR (t := 5) rfl hp hk
          · rw [if_neg (fun q => a4 ((le_wrd hp (by omega) (by omega) w4_ok w4_c).mp q)), if_neg a4, if_neg (by decide), if_neg (by decide), if_neg (by decide), if_neg (by decide), if_neg (by decide), e_semi_w, show ∀ x, fX5_fail x = some x from fun x => rfl, Option.bind_some, c_semi_w (by omega)]
            exact ⟨_, _, rfl, rfl, iOut_bad (by omega)⟩

end P39t
