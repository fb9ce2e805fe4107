noncomputable def sJ7_fill_53178_5 (v1 : Int32) (v3 : Int32) (nw : Nat) (v2 : Int32) (w_f : (Nat → Int32)) : Option ((Int32 × (Nat → Int32)) ⊕ ((Nat → Int32))) :=
  if v3 ≤ v2 then
  oi (some w_f)
  else
  gd (vp_in v2 nw) (
  nm (v2 + (1 : Int32)) (fun w4 =>
  some (.inl (w4, upd w_f (v2).toNatClampNeg v1))))
noncomputable abbrev lJ7_fill_53178_5 (v1 : Int32) (v3 : Int32) (nw : Nat) (v2 : Int32) (w_f : (Nat → Int32)) : Option ((Nat → Int32)) :=
  wh (fun b : Int32 × (Nat → Int32) => sJ7_fill_53178_5 v1 v3 nw b.1 b.2) (v2, w_f)
noncomputable def fJ7_fill_53178 (v1 : Int32) (w_f : (Nat → Int32)) (nw : Nat) : Option ((Nat → Int32)) :=
  nm (Int32.ofNat nw) (fun w1 =>
  lJ7_fill_53178_5 v1 w1 nw (0 : Int32) w_f)
noncomputable def sJ7_fill_d0a16_6 (v1 : Int64) (v4 : Int32) (nw : Nat) (v3 : Int32) (w_f : (Nat → Int64)) : Option ((Int32 × (Nat → Int64)) ⊕ ((Nat → Int64))) :=
  if v4 ≤ v3 then
  oi (some w_f)
  else
  gd (vp_in v3 nw) (
  nm (v3 + (1 : Int32)) (fun w4 =>
  some (.inl (w4, vp_updL w_f (v3).toNatClampNeg v1))))
noncomputable abbrev lJ7_fill_d0a16_6 (v1 : Int64) (v4 : Int32) (nw : Nat) (v3 : Int32) (w_f : (Nat → Int64)) : Option ((Nat → Int64)) :=
  wh (fun b : Int32 × (Nat → Int64) => sJ7_fill_d0a16_6 v1 v4 nw b.1 b.2) (v3, w_f)
noncomputable def fJ7_fill_d0a16 (v1 : Int64) (w_f : (Nat → Int64)) (nw : Nat) : Option ((Nat → Int64)) :=
  nm (Int32.ofNat nw) (fun w1 =>
  lJ7_fill_d0a16_6 v1 w1 nw (0 : Int32) w_f)
noncomputable def fJ13_bitCount_95d88 (v0 : Int64) : Option (Int32) :=
  nm (v0 - ((zushrL v0 (1 : Int32)) &&& (6148914691236517205 : Int64))) (fun w1 =>
  nm ((w1 &&& (3689348814741910323 : Int64)) + ((zushrL w1 (2 : Int32)) &&& (3689348814741910323 : Int64))) (fun w2 =>
  nm ((w2 + (zushrL w2 (4 : Int32))) &&& (1085102592571150095 : Int64)) (fun w3 =>
  nm (w3 + (zushrL w3 (8 : Int32))) (fun w4 =>
  nm (w4 + (zushrL w4 (16 : Int32))) (fun w5 =>
  nm (w5 + (zushrL w5 (32 : Int32))) (fun w6 =>
  some (((w6).toInt32) &&& (127 : Int32))))))))
