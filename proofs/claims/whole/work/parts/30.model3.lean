/-! The reference: what is added and set. -/
section P30
variable {T : zA} {V : Nat}
theorem e_makeNode (hI : aInv V T) {a : Nat} (hn : aNN T < 10) : fX7_makeNode (nI a) (zI T) = some (nI (aNN T), zI (aMkN T a)) := by
  simp only [fX7_makeNode, zl0, zl4, zl1]
  rw [gd_in (by omega), nm_eq, nI_cl (by omega), zI_h (by omega)]
  show gd (vp_in (nI 4 + nI (aNN T)) 1557) _ = _
  rw [nI_add, gd_in (by omega), gd_in (by omega), gd_in (by omega), nI_cl (by omega), upd_h (by omega), zI_h (by omega)]
  have e : un T.1 (4 + aNN T) a 0 = aNN T := un_ne (by omega)
  dsimp only
  rw [e, nI_add, upd_h (by omega)]
  rfl
theorem e_makeLink (hI : aInv V T) (hV1 : 1 ≤ V) (hV : V < 2 ^ 20) {f s c pr : Nat} (hn : aNL T < 16) (hf : f < aNN T) (hs : s < aNN T) (hfs : f ≠ s) (hc1 : 1 ≤ c) (hc : c ≤ 20) (hpr : pr ≤ 1) : fX7_makeLink (nI f) (nI s) (nI c) (nI pr) (zI T) = some (nI (aNL T), zI (aChL (aMkL0 T f s c pr) (aNL T) 1)) := by
  simp only [fX7_makeLink, zl1, zl2, zl3, zl4, zl5, zl46, zl6]
  rw [gd_in (by omega), nm_eq, nI_cl (by omega), zI_h (by omega), nm_eq]
  show gd (vp_in (nI 46 + nI 6 * nI (aNL T)) 1557) _ = _
  rw [pk_mul, nI_add, nI_add, nI_add, nI_add, nI_add, nI_add, gd_in (by omega), gd_in (by omega), gd_in (by omega), gd_in (by omega), gd_in (by omega), gd_in (by omega), gd_in (by omega), gd_in (by omega), nI_cl (by omega), nI_cl (by omega), nI_cl (by omega), nI_cl (by omega), nI_cl (by omega), nI_cl (by omega), upd_h (by omega), upd_h (T := (_, T.2)) (by omega), upd_h (T := (_, T.2)) (by omega), upd_h (T := (_, T.2)) (by omega), upd_h (T := (_, T.2)) (by omega), upd_h (T := (_, T.2)) (by omega), zI_h (by omega)]
  dsimp only
  rw [un_ne (by omega), un_ne (by omega), un_ne (by omega), un_ne (by omega), un_ne (by omega), un_ne (by omega), nI_add, upd_h (T := (_, T.2)) (by omega)]
  have hI2 := aMkL0_inv hI hV1 hn hf hs hfs hc1 hc hpr
  show (fX7_changeLink (nI (aNL T)) (nI 1) (zI (aMkL0 T f s c pr))).bind _ = _
  rw [e_changeLink hI2 hV (by rw [aMkL0_n]; omega) (by omega)]
  rfl
theorem e_makeTunnel (hI : aInv V T) (hV1 : 1 ≤ V) (hV : V < 2 ^ 20) {en ex c : Nat} (hn : aNT T < 3) (hf : en < aNN T) (hs : ex < aNN T) (hfs : en ≠ ex) (hc1 : 1 ≤ c) (hc : c ≤ 40) : fX7_makeTunnel (nI en) (nI ex) (nI c) (zI T) = some (nI (aNT T), zI (aChT (aMkT0 T en ex c) (aNT T))) := by
  simp only [fX7_makeTunnel, zl1, zl2, zl3, zl4, zl5, zl142]
  rw [gd_in (by omega), nm_eq, nI_cl (by omega), zI_h (by omega), nm_eq]
  show gd (vp_in (nI 142 + nI 5 * nI (aNT T)) 1557) _ = _
  rw [pk_mul, nI_add, nI_add, nI_add, nI_add, nI_add, gd_in (by omega), gd_in (by omega), gd_in (by omega), gd_in (by omega), gd_in (by omega), gd_in (by omega), gd_in (by omega), nI_cl (by omega), nI_cl (by omega), nI_cl (by omega), nI_cl (by omega), nI_cl (by omega), upd_h (by omega), upd_h (T := (_, T.2)) (by omega), upd_h (T := (_, T.2)) (by omega), upd_h (T := (_, T.2)) (by omega), upd_h (T := (_, T.2)) (by omega), zI_h (by omega)]
  dsimp only
  rw [un_ne (by omega), un_ne (by omega), un_ne (by omega), un_ne (by omega), un_ne (by omega), nI_add, upd_h (T := (_, T.2)) (by omega)]
  have hI2 := aMkT0_inv hI hV1 hn hf hs hfs hc1 hc
  show (fX7_changeTunnel (nI (aNT T)) (zI (aMkT0 T en ex c))).bind _ = _
  rw [e_changeTunnel hI2 hV (by omega)]
  rfl
theorem e_changeGrant (hI : aInv V T) (hV : V + 1 < 2 ^ 20) {o b on : Nat} (ho : o < 4) (hb : b < 4) (hob : o ≠ b) (hon : on ≤ 1) : fX7_changeGrant (nI o) (nI b) (nI on) (zI T) = some (zI (aChG T o b on)) := by
  simp only [fX7_changeGrant, zl4, zl14, zl30, zl1, zl0]
  rw [nm_eq, pk_mul, nI_add, nI_add, nI_add, gd_in (by omega), gd_in (by omega), gd_in (by omega), nI_cl (by omega), nI_cl (by omega), upd_h (by omega), zI_h (by omega)]
  dsimp only
  rw [un_ne (by omega), nI_add, upd_h (T := (_, T.2)) (by omega)]
  have hI2 : aInv (V + 1) (aSG T (4 * o + b) on) := aSG_inv hI (by omega) (by omega) hon
  have e : aNN (aSG T (4 * o + b) on) = aNN T := aSG_ot (by omega) (by omega)
  have := e_changeGrant_35 hI2 hV (o := o) (i := 4 * o + b) (st := on) (by omega) (by omega) ho (by rw [aSG_v]; omega) hon
  rw [e] at this
  exact this
theorem aChG_eq {o b on : Nat} : aChG T o b on = aGrB (aSG T (4 * o + b) on) o (4 * o + b) on (aNN T) := rfl
theorem aChG_inv (hI : aInv V T) {o b on : Nat} (ho : o < 4) (hb : b < 4) (hob : o ≠ b) (hon : on ≤ 1) : aInv (V + 1) (aChG T o b on) := by
  have hI2 : aInv (V + 1) (aSG T (4 * o + b) on) := aSG_inv hI (by omega) (by omega) hon
  have e : aNN (aSG T (4 * o + b) on) = aNN T := aSG_ot (by omega) (by omega)
  exact aGrB_inv hI2 (by omega) (by omega) (by rw [aSG_v]; omega) hon _ (by omega)
end P30
