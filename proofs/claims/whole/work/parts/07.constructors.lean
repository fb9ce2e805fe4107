abbrev oX1 (Z : zT) (u : Nat → Nat) : va_W := wX1 Z u (fun _ => 0) (fun _ => 0)
set_option maxRecDepth 100000 in
set_option maxHeartbeats 4000000 in
theorem nX1_init (l : Launch) (Z : zT) (sz : Nat) (h0 : Nat) : Met l yX1_init (Cond.code yX1_init cX1_init 1 none :: zWs) { frames := 1, cells := 2, slots := 360, locals := 12 } (zP Z [(h0, .inr (0, [.null, .null]))] sz [.ref h0]) (zQs Z (fun u : Nat → Nat => u 0 = h0) (fun u => oX1 Z u) (va_A [(h0, .inr (0, [.null, .null]))] sz)) 2 360 (va_A [(h0, .inr (0, [.null, .null]))] sz) := by
  refine zMetI (own := RX1) (fun A => zQs Z (fun u : Nat → Nat => u 0 = h0) (fun u => oX1 Z u) A) (by decide) rfl rfl (Nat.le_of_ble_eq_true rfl) ?_
  intro p e s m args below meth c ls A hin E hw hl
  refine r_aload_n E hl 0 rfl dX1_init_0 rfl ?_
  refine r_objInit E hl kL_X1_3 dX1_init_1 ⟨Nat.le_of_ble_eq_true rfl, Nat.le_of_ble_eq_true rfl⟩ ?_
  refine r_aload_n E hl 0 rfl dX1_init_4 rfl ?_
  refine r_sipush E (350) dX1_init_5 (by decide) ?_
  refine r_newaI E hw 350 (by decide) (by decide) (by decide) ⟨Nat.le_of_ble_eq_true rfl, Nat.le_of_ble_eq_true rfl⟩ dX1_init_8 (fun q1 H hw => ?_)
  replace hw : zW Z A ([(h0, .inr (0, [.null, .null])), (q1, .inl (Z.2.1, 350, .inl (fun _ => 0)))]) s.heap H _ := hw
  refine r_putF E hin ([(h0, .inr (0, [.ref q1, .null])), (q1, .inl (Z.2.1, 350, .inl (fun _ => 0)))]) kW_X1 tyX1_ok nmX1 hw 0 rfl rfl 0 (by decide) kF_X1_9 rfl rfl rfl rfl (Nat.le_of_ble_eq_true rfl) rfl dX1_init_10 (fun H locs hw => ?_)
  refine r_aload_n E hl 0 rfl dX1_init_13 rfl ?_
  refine r_bipush E (10) dX1_init_14 (by decide) ?_
  refine r_newaJ E hw 10 (by decide) (by decide) (by decide) ⟨Nat.le_of_ble_eq_true rfl, Nat.le_of_ble_eq_true rfl⟩ dX1_init_16 (fun q2 H hw => ?_)
  replace hw : zW Z A ([(h0, .inr (0, [.ref q1, .null])), (q1, .inl (Z.2.1, 350, .inl (fun _ => 0))), (q2, .inl (Z.2.2.1, 10, .inr (.inl (fun _ => 0))))]) s.heap H _ := hw
  refine r_putF E hin ([(h0, .inr (0, [.ref q1, .ref q2])), (q1, .inl (Z.2.1, 350, .inl (fun _ => 0))), (q2, .inl (Z.2.2.1, 10, .inr (.inl (fun _ => 0))))]) kW_X1 tyX1_ok nmX1 hw 0 rfl rfl 1 (by decide) kF_X1_15 rfl rfl rfl rfl (Nat.le_of_ble_eq_true rfl) rfl dX1_init_18 (fun H locs hw => ?_)
  exact r_cret (Wf := fun u => oX1 Z u) E (fun k => ([h0, q1, q2] : List Nat).getD k 0) rfl hw dX1_init_21
abbrev oX2 (Z : zT) (u : Nat → Nat) : va_W := wX2 Z u (0 : Int32) (0 : Int32) (fun _ => 0) (fun _ => 0) (fun _ => 0) (fun _ => 0) (fun _ => 0)
set_option maxRecDepth 100000 in
set_option maxHeartbeats 4000000 in
theorem nX2_init (l : Launch) (Z : zT) (sz : Nat) (h0 : Nat) : Met l yX2_init (Cond.code yX2_init cX2_init 1 none :: zWs) { frames := 1, cells := 5, slots := 150, locals := 12 } (zP Z [(h0, .inr (1, [.int 0, .int 0, .null, .null, .null, .null, .null]))] sz [.ref h0]) (zQs Z (fun u : Nat → Nat => u 0 = h0) (fun u => oX2 Z u) (va_A [(h0, .inr (1, [.int 0, .int 0, .null, .null, .null, .null, .null]))] sz)) 5 150 (va_A [(h0, .inr (1, [.int 0, .int 0, .null, .null, .null, .null, .null]))] sz) := by
  refine zMetI (own := RX2) (fun A => zQs Z (fun u : Nat → Nat => u 0 = h0) (fun u => oX2 Z u) A) (by decide) rfl rfl (Nat.le_of_ble_eq_true rfl) ?_
  intro p e s m args below meth c ls A hin E hw hl
  refine r_aload_n E hl 0 rfl dX2_init_0 rfl ?_
  refine r_objInit E hl kL_X2_3 dX2_init_1 ⟨Nat.le_of_ble_eq_true rfl, Nat.le_of_ble_eq_true rfl⟩ ?_
  refine r_aload_n E hl 0 rfl dX2_init_4 rfl ?_
  refine r_iconst E (0) dX2_init_5 (by decide) ?_
  refine r_put E ([(h0, .inr (1, [.int (0 : Int32), .int 0, .null, .null, .null, .null, .null]))]) kW_X2 tyX2_ok nmX2 hw 0 rfl rfl 0 (by decide) kF_X2_9 rfl rfl rfl (Nat.le_of_ble_eq_true rfl) rfl dX2_init_6 (fun H locs hw => ?_)
  refine r_aload_n E hl 0 rfl dX2_init_9 rfl ?_
  refine r_iconst E (0) dX2_init_10 (by decide) ?_
  refine r_put E ([(h0, .inr (1, [.int (0 : Int32), .int (0 : Int32), .null, .null, .null, .null, .null]))]) kW_X2 tyX2_ok nmX2 hw 0 rfl rfl 1 (by decide) kF_X2_15 rfl rfl rfl (Nat.le_of_ble_eq_true rfl) rfl dX2_init_11 (fun H locs hw => ?_)
  refine r_aload_n E hl 0 rfl dX2_init_14 rfl ?_
  refine r_bipush E (35) dX2_init_15 (by decide) ?_
  refine r_newaI E hw 35 (by decide) (by decide) (by decide) ⟨Nat.le_of_ble_eq_true rfl, Nat.le_of_ble_eq_true rfl⟩ dX2_init_17 (fun q1 H hw => ?_)
  replace hw : zW Z A ([(h0, .inr (1, [.int (0 : Int32), .int (0 : Int32), .null, .null, .null, .null, .null])), (q1, .inl (Z.2.1, 35, .inl (fun _ => 0)))]) s.heap H _ := hw
  refine r_putF E hin ([(h0, .inr (1, [.int (0 : Int32), .int (0 : Int32), .ref q1, .null, .null, .null, .null])), (q1, .inl (Z.2.1, 35, .inl (fun _ => 0)))]) kW_X2 tyX2_ok nmX2 hw 0 rfl rfl 2 (by decide) kF_X2_18 rfl rfl rfl rfl (Nat.le_of_ble_eq_true rfl) rfl dX2_init_19 (fun H locs hw => ?_)
  refine r_aload_n E hl 0 rfl dX2_init_22 rfl ?_
  refine r_bipush E (35) dX2_init_23 (by decide) ?_
  refine r_newaI E hw 35 (by decide) (by decide) (by decide) ⟨Nat.le_of_ble_eq_true rfl, Nat.le_of_ble_eq_true rfl⟩ dX2_init_25 (fun q2 H hw => ?_)
  replace hw : zW Z A ([(h0, .inr (1, [.int (0 : Int32), .int (0 : Int32), .ref q1, .null, .null, .null, .null])), (q1, .inl (Z.2.1, 35, .inl (fun _ => 0))), (q2, .inl (Z.2.1, 35, .inl (fun _ => 0)))]) s.heap H _ := hw
  refine r_putF E hin ([(h0, .inr (1, [.int (0 : Int32), .int (0 : Int32), .ref q1, .ref q2, .null, .null, .null])), (q1, .inl (Z.2.1, 35, .inl (fun _ => 0))), (q2, .inl (Z.2.1, 35, .inl (fun _ => 0)))]) kW_X2 tyX2_ok nmX2 hw 0 rfl rfl 3 (by decide) kF_X2_22 rfl rfl rfl rfl (Nat.le_of_ble_eq_true rfl) rfl dX2_init_27 (fun H locs hw => ?_)
  refine r_aload_n E hl 0 rfl dX2_init_30 rfl ?_
  refine r_bipush E (35) dX2_init_31 (by decide) ?_
  refine r_newaI E hw 35 (by decide) (by decide) (by decide) ⟨Nat.le_of_ble_eq_true rfl, Nat.le_of_ble_eq_true rfl⟩ dX2_init_33 (fun q3 H hw => ?_)
  replace hw : zW Z A ([(h0, .inr (1, [.int (0 : Int32), .int (0 : Int32), .ref q1, .ref q2, .null, .null, .null])), (q1, .inl (Z.2.1, 35, .inl (fun _ => 0))), (q2, .inl (Z.2.1, 35, .inl (fun _ => 0))), (q3, .inl (Z.2.1, 35, .inl (fun _ => 0)))]) s.heap H _ := hw
  refine r_putF E hin ([(h0, .inr (1, [.int (0 : Int32), .int (0 : Int32), .ref q1, .ref q2, .ref q3, .null, .null])), (q1, .inl (Z.2.1, 35, .inl (fun _ => 0))), (q2, .inl (Z.2.1, 35, .inl (fun _ => 0))), (q3, .inl (Z.2.1, 35, .inl (fun _ => 0)))]) kW_X2 tyX2_ok nmX2 hw 0 rfl rfl 4 (by decide) kF_X2_25 rfl rfl rfl rfl (Nat.le_of_ble_eq_true rfl) rfl dX2_init_35 (fun H locs hw => ?_)
  refine r_aload_n E hl 0 rfl dX2_init_38 rfl ?_
  refine r_bipush E (35) dX2_init_39 (by decide) ?_
  refine r_newaI E hw 35 (by decide) (by decide) (by decide) ⟨Nat.le_of_ble_eq_true rfl, Nat.le_of_ble_eq_true rfl⟩ dX2_init_41 (fun q4 H hw => ?_)
  replace hw : zW Z A ([(h0, .inr (1, [.int (0 : Int32), .int (0 : Int32), .ref q1, .ref q2, .ref q3, .null, .null])), (q1, .inl (Z.2.1, 35, .inl (fun _ => 0))), (q2, .inl (Z.2.1, 35, .inl (fun _ => 0))), (q3, .inl (Z.2.1, 35, .inl (fun _ => 0))), (q4, .inl (Z.2.1, 35, .inl (fun _ => 0)))]) s.heap H _ := hw
  refine r_putF E hin ([(h0, .inr (1, [.int (0 : Int32), .int (0 : Int32), .ref q1, .ref q2, .ref q3, .ref q4, .null])), (q1, .inl (Z.2.1, 35, .inl (fun _ => 0))), (q2, .inl (Z.2.1, 35, .inl (fun _ => 0))), (q3, .inl (Z.2.1, 35, .inl (fun _ => 0))), (q4, .inl (Z.2.1, 35, .inl (fun _ => 0)))]) kW_X2 tyX2_ok nmX2 hw 0 rfl rfl 5 (by decide) kF_X2_28 rfl rfl rfl rfl (Nat.le_of_ble_eq_true rfl) rfl dX2_init_43 (fun H locs hw => ?_)
  refine r_aload_n E hl 0 rfl dX2_init_46 rfl ?_
  refine r_bipush E (10) dX2_init_47 (by decide) ?_
  refine r_newaI E hw 10 (by decide) (by decide) (by decide) ⟨Nat.le_of_ble_eq_true rfl, Nat.le_of_ble_eq_true rfl⟩ dX2_init_49 (fun q5 H hw => ?_)
  replace hw : zW Z A ([(h0, .inr (1, [.int (0 : Int32), .int (0 : Int32), .ref q1, .ref q2, .ref q3, .ref q4, .null])), (q1, .inl (Z.2.1, 35, .inl (fun _ => 0))), (q2, .inl (Z.2.1, 35, .inl (fun _ => 0))), (q3, .inl (Z.2.1, 35, .inl (fun _ => 0))), (q4, .inl (Z.2.1, 35, .inl (fun _ => 0))), (q5, .inl (Z.2.1, 10, .inl (fun _ => 0)))]) s.heap H _ := hw
  refine r_putF E hin ([(h0, .inr (1, [.int (0 : Int32), .int (0 : Int32), .ref q1, .ref q2, .ref q3, .ref q4, .ref q5])), (q1, .inl (Z.2.1, 35, .inl (fun _ => 0))), (q2, .inl (Z.2.1, 35, .inl (fun _ => 0))), (q3, .inl (Z.2.1, 35, .inl (fun _ => 0))), (q4, .inl (Z.2.1, 35, .inl (fun _ => 0))), (q5, .inl (Z.2.1, 10, .inl (fun _ => 0)))]) kW_X2 tyX2_ok nmX2 hw 0 rfl rfl 6 (by decide) kF_X2_31 rfl rfl rfl rfl (Nat.le_of_ble_eq_true rfl) rfl dX2_init_51 (fun H locs hw => ?_)
  exact r_cret (Wf := fun u => oX2 Z u) E (fun k => ([h0, q1, q2, q3, q4, q5] : List Nat).getD k 0) rfl hw dX2_init_54
abbrev oX3 (Z : zT) (u : Nat → Nat) : va_W := wX3 Z u 0 0 0 0 (fun _ => 0) (fun _ => 0) (fun _ => 0) (fun _ => 0) (fun _ => 0) (fun _ => 0) (fun _ => 0) (fun _ => 0) (fun _ => 0)
set_option maxRecDepth 100000 in
set_option maxHeartbeats 4000000 in
theorem nX3_init (l : Launch) (Z : zT) (sz : Nat) (h0 : Nat) : Met l yX3_init (Cond.code yX3_init cX3_init 1 none :: zWs) { frames := 1, cells := 9, slots := 459, locals := 12 } (zP Z [(h0, .inr (2, [.int 0, .int 0, .int 0, .int 0, .null, .null, .null, .null, .null, .null, .null, .null, .null]))] sz [.ref h0]) (zQs Z (fun u : Nat → Nat => u 0 = h0) (fun u => oX3 Z u) (va_A [(h0, .inr (2, [.int 0, .int 0, .int 0, .int 0, .null, .null, .null, .null, .null, .null, .null, .null, .null]))] sz)) 9 459 (va_A [(h0, .inr (2, [.int 0, .int 0, .int 0, .int 0, .null, .null, .null, .null, .null, .null, .null, .null, .null]))] sz) := by
  refine zMetI (own := RX3) (fun A => zQs Z (fun u : Nat → Nat => u 0 = h0) (fun u => oX3 Z u) A) (by decide) rfl rfl (Nat.le_of_ble_eq_true rfl) ?_
  intro p e s m args below meth c ls A hin E hw hl
  refine r_aload_n E hl 0 rfl dX3_init_0 rfl ?_
  refine r_objInit E hl kL_X3_3 dX3_init_1 ⟨Nat.le_of_ble_eq_true rfl, Nat.le_of_ble_eq_true rfl⟩ ?_
  refine r_aload_n E hl 0 rfl dX3_init_4 rfl ?_
  refine r_bipush E (10) dX3_init_5 (by decide) ?_
  refine r_newaI E hw 10 (by decide) (by decide) (by decide) ⟨Nat.le_of_ble_eq_true rfl, Nat.le_of_ble_eq_true rfl⟩ dX3_init_7 (fun q1 H hw => ?_)
  replace hw : zW Z A ([(h0, .inr (2, [.int 0, .int 0, .int 0, .int 0, .null, .null, .null, .null, .null, .null, .null, .null, .null])), (q1, .inl (Z.2.1, 10, .inl (fun _ => 0)))]) s.heap H _ := hw
  refine r_putF E hin ([(h0, .inr (2, [.int 0, .int 0, .int 0, .int 0, .ref q1, .null, .null, .null, .null, .null, .null, .null, .null])), (q1, .inl (Z.2.1, 10, .inl (fun _ => 0)))]) kW_X3 tyX3_ok nmX3 hw 0 rfl rfl 4 (by decide) kF_X3_9 rfl rfl rfl rfl (Nat.le_of_ble_eq_true rfl) rfl dX3_init_9 (fun H locs hw => ?_)
  refine r_aload_n E hl 0 rfl dX3_init_12 rfl ?_
  refine r_bipush E (16) dX3_init_13 (by decide) ?_
  refine r_newaI E hw 16 (by decide) (by decide) (by decide) ⟨Nat.le_of_ble_eq_true rfl, Nat.le_of_ble_eq_true rfl⟩ dX3_init_15 (fun q2 H hw => ?_)
  replace hw : zW Z A ([(h0, .inr (2, [.int 0, .int 0, .int 0, .int 0, .ref q1, .null, .null, .null, .null, .null, .null, .null, .null])), (q1, .inl (Z.2.1, 10, .inl (fun _ => 0))), (q2, .inl (Z.2.1, 16, .inl (fun _ => 0)))]) s.heap H _ := hw
  refine r_putF E hin ([(h0, .inr (2, [.int 0, .int 0, .int 0, .int 0, .ref q1, .ref q2, .null, .null, .null, .null, .null, .null, .null])), (q1, .inl (Z.2.1, 10, .inl (fun _ => 0))), (q2, .inl (Z.2.1, 16, .inl (fun _ => 0)))]) kW_X3 tyX3_ok nmX3 hw 0 rfl rfl 5 (by decide) kF_X3_15 rfl rfl rfl rfl (Nat.le_of_ble_eq_true rfl) rfl dX3_init_17 (fun H locs hw => ?_)
  refine r_aload_n E hl 0 rfl dX3_init_20 rfl ?_
  refine r_bipush E (16) dX3_init_21 (by decide) ?_
  refine r_newaI E hw 16 (by decide) (by decide) (by decide) ⟨Nat.le_of_ble_eq_true rfl, Nat.le_of_ble_eq_true rfl⟩ dX3_init_23 (fun q3 H hw => ?_)
  replace hw : zW Z A ([(h0, .inr (2, [.int 0, .int 0, .int 0, .int 0, .ref q1, .ref q2, .null, .null, .null, .null, .null, .null, .null])), (q1, .inl (Z.2.1, 10, .inl (fun _ => 0))), (q2, .inl (Z.2.1, 16, .inl (fun _ => 0))), (q3, .inl (Z.2.1, 16, .inl (fun _ => 0)))]) s.heap H _ := hw
  refine r_putF E hin ([(h0, .inr (2, [.int 0, .int 0, .int 0, .int 0, .ref q1, .ref q2, .ref q3, .null, .null, .null, .null, .null, .null])), (q1, .inl (Z.2.1, 10, .inl (fun _ => 0))), (q2, .inl (Z.2.1, 16, .inl (fun _ => 0))), (q3, .inl (Z.2.1, 16, .inl (fun _ => 0)))]) kW_X3 tyX3_ok nmX3 hw 0 rfl rfl 6 (by decide) kF_X3_18 rfl rfl rfl rfl (Nat.le_of_ble_eq_true rfl) rfl dX3_init_25 (fun H locs hw => ?_)
  refine r_aload_n E hl 0 rfl dX3_init_28 rfl ?_
  refine r_bipush E (16) dX3_init_29 (by decide) ?_
  refine r_newaI E hw 16 (by decide) (by decide) (by decide) ⟨Nat.le_of_ble_eq_true rfl, Nat.le_of_ble_eq_true rfl⟩ dX3_init_31 (fun q4 H hw => ?_)
  replace hw : zW Z A ([(h0, .inr (2, [.int 0, .int 0, .int 0, .int 0, .ref q1, .ref q2, .ref q3, .null, .null, .null, .null, .null, .null])), (q1, .inl (Z.2.1, 10, .inl (fun _ => 0))), (q2, .inl (Z.2.1, 16, .inl (fun _ => 0))), (q3, .inl (Z.2.1, 16, .inl (fun _ => 0))), (q4, .inl (Z.2.1, 16, .inl (fun _ => 0)))]) s.heap H _ := hw
  refine r_putF E hin ([(h0, .inr (2, [.int 0, .int 0, .int 0, .int 0, .ref q1, .ref q2, .ref q3, .ref q4, .null, .null, .null, .null, .null])), (q1, .inl (Z.2.1, 10, .inl (fun _ => 0))), (q2, .inl (Z.2.1, 16, .inl (fun _ => 0))), (q3, .inl (Z.2.1, 16, .inl (fun _ => 0))), (q4, .inl (Z.2.1, 16, .inl (fun _ => 0)))]) kW_X3 tyX3_ok nmX3 hw 0 rfl rfl 7 (by decide) kF_X3_21 rfl rfl rfl rfl (Nat.le_of_ble_eq_true rfl) rfl dX3_init_33 (fun H locs hw => ?_)
  refine r_aload_n E hl 0 rfl dX3_init_36 rfl ?_
  refine r_iconst E (3) dX3_init_37 (by decide) ?_
  refine r_newaI E hw 3 (by decide) (by decide) (by decide) ⟨Nat.le_of_ble_eq_true rfl, Nat.le_of_ble_eq_true rfl⟩ dX3_init_38 (fun q5 H hw => ?_)
  replace hw : zW Z A ([(h0, .inr (2, [.int 0, .int 0, .int 0, .int 0, .ref q1, .ref q2, .ref q3, .ref q4, .null, .null, .null, .null, .null])), (q1, .inl (Z.2.1, 10, .inl (fun _ => 0))), (q2, .inl (Z.2.1, 16, .inl (fun _ => 0))), (q3, .inl (Z.2.1, 16, .inl (fun _ => 0))), (q4, .inl (Z.2.1, 16, .inl (fun _ => 0))), (q5, .inl (Z.2.1, 3, .inl (fun _ => 0)))]) s.heap H _ := hw
  refine r_putF E hin ([(h0, .inr (2, [.int 0, .int 0, .int 0, .int 0, .ref q1, .ref q2, .ref q3, .ref q4, .ref q5, .null, .null, .null, .null])), (q1, .inl (Z.2.1, 10, .inl (fun _ => 0))), (q2, .inl (Z.2.1, 16, .inl (fun _ => 0))), (q3, .inl (Z.2.1, 16, .inl (fun _ => 0))), (q4, .inl (Z.2.1, 16, .inl (fun _ => 0))), (q5, .inl (Z.2.1, 3, .inl (fun _ => 0)))]) kW_X3 tyX3_ok nmX3 hw 0 rfl rfl 8 (by decide) kF_X3_24 rfl rfl rfl rfl (Nat.le_of_ble_eq_true rfl) rfl dX3_init_40 (fun H locs hw => ?_)
  refine r_aload_n E hl 0 rfl dX3_init_43 rfl ?_
  refine r_iconst E (3) dX3_init_44 (by decide) ?_
  refine r_newaI E hw 3 (by decide) (by decide) (by decide) ⟨Nat.le_of_ble_eq_true rfl, Nat.le_of_ble_eq_true rfl⟩ dX3_init_45 (fun q6 H hw => ?_)
  replace hw : zW Z A ([(h0, .inr (2, [.int 0, .int 0, .int 0, .int 0, .ref q1, .ref q2, .ref q3, .ref q4, .ref q5, .null, .null, .null, .null])), (q1, .inl (Z.2.1, 10, .inl (fun _ => 0))), (q2, .inl (Z.2.1, 16, .inl (fun _ => 0))), (q3, .inl (Z.2.1, 16, .inl (fun _ => 0))), (q4, .inl (Z.2.1, 16, .inl (fun _ => 0))), (q5, .inl (Z.2.1, 3, .inl (fun _ => 0))), (q6, .inl (Z.2.1, 3, .inl (fun _ => 0)))]) s.heap H _ := hw
  refine r_putF E hin ([(h0, .inr (2, [.int 0, .int 0, .int 0, .int 0, .ref q1, .ref q2, .ref q3, .ref q4, .ref q5, .ref q6, .null, .null, .null])), (q1, .inl (Z.2.1, 10, .inl (fun _ => 0))), (q2, .inl (Z.2.1, 16, .inl (fun _ => 0))), (q3, .inl (Z.2.1, 16, .inl (fun _ => 0))), (q4, .inl (Z.2.1, 16, .inl (fun _ => 0))), (q5, .inl (Z.2.1, 3, .inl (fun _ => 0))), (q6, .inl (Z.2.1, 3, .inl (fun _ => 0)))]) kW_X3 tyX3_ok nmX3 hw 0 rfl rfl 9 (by decide) kF_X3_27 rfl rfl rfl rfl (Nat.le_of_ble_eq_true rfl) rfl dX3_init_47 (fun H locs hw => ?_)
  refine r_aload_n E hl 0 rfl dX3_init_50 rfl ?_
  refine r_bipush E (35) dX3_init_51 (by decide) ?_
  refine r_newaI E hw 35 (by decide) (by decide) (by decide) ⟨Nat.le_of_ble_eq_true rfl, Nat.le_of_ble_eq_true rfl⟩ dX3_init_53 (fun q7 H hw => ?_)
  replace hw : zW Z A ([(h0, .inr (2, [.int 0, .int 0, .int 0, .int 0, .ref q1, .ref q2, .ref q3, .ref q4, .ref q5, .ref q6, .null, .null, .null])), (q1, .inl (Z.2.1, 10, .inl (fun _ => 0))), (q2, .inl (Z.2.1, 16, .inl (fun _ => 0))), (q3, .inl (Z.2.1, 16, .inl (fun _ => 0))), (q4, .inl (Z.2.1, 16, .inl (fun _ => 0))), (q5, .inl (Z.2.1, 3, .inl (fun _ => 0))), (q6, .inl (Z.2.1, 3, .inl (fun _ => 0))), (q7, .inl (Z.2.1, 35, .inl (fun _ => 0)))]) s.heap H _ := hw
  refine r_putF E hin ([(h0, .inr (2, [.int 0, .int 0, .int 0, .int 0, .ref q1, .ref q2, .ref q3, .ref q4, .ref q5, .ref q6, .ref q7, .null, .null])), (q1, .inl (Z.2.1, 10, .inl (fun _ => 0))), (q2, .inl (Z.2.1, 16, .inl (fun _ => 0))), (q3, .inl (Z.2.1, 16, .inl (fun _ => 0))), (q4, .inl (Z.2.1, 16, .inl (fun _ => 0))), (q5, .inl (Z.2.1, 3, .inl (fun _ => 0))), (q6, .inl (Z.2.1, 3, .inl (fun _ => 0))), (q7, .inl (Z.2.1, 35, .inl (fun _ => 0)))]) kW_X3 tyX3_ok nmX3 hw 0 rfl rfl 10 (by decide) kF_X3_30 rfl rfl rfl rfl (Nat.le_of_ble_eq_true rfl) rfl dX3_init_55 (fun H locs hw => ?_)
  refine r_aload_n E hl 0 rfl dX3_init_58 rfl ?_
  refine r_sipush E (350) dX3_init_59 (by decide) ?_
  refine r_newaI E hw 350 (by decide) (by decide) (by decide) ⟨Nat.le_of_ble_eq_true rfl, Nat.le_of_ble_eq_true rfl⟩ dX3_init_62 (fun q8 H hw => ?_)
  replace hw : zW Z A ([(h0, .inr (2, [.int 0, .int 0, .int 0, .int 0, .ref q1, .ref q2, .ref q3, .ref q4, .ref q5, .ref q6, .ref q7, .null, .null])), (q1, .inl (Z.2.1, 10, .inl (fun _ => 0))), (q2, .inl (Z.2.1, 16, .inl (fun _ => 0))), (q3, .inl (Z.2.1, 16, .inl (fun _ => 0))), (q4, .inl (Z.2.1, 16, .inl (fun _ => 0))), (q5, .inl (Z.2.1, 3, .inl (fun _ => 0))), (q6, .inl (Z.2.1, 3, .inl (fun _ => 0))), (q7, .inl (Z.2.1, 35, .inl (fun _ => 0))), (q8, .inl (Z.2.1, 350, .inl (fun _ => 0)))]) s.heap H _ := hw
  refine r_putF E hin ([(h0, .inr (2, [.int 0, .int 0, .int 0, .int 0, .ref q1, .ref q2, .ref q3, .ref q4, .ref q5, .ref q6, .ref q7, .ref q8, .null])), (q1, .inl (Z.2.1, 10, .inl (fun _ => 0))), (q2, .inl (Z.2.1, 16, .inl (fun _ => 0))), (q3, .inl (Z.2.1, 16, .inl (fun _ => 0))), (q4, .inl (Z.2.1, 16, .inl (fun _ => 0))), (q5, .inl (Z.2.1, 3, .inl (fun _ => 0))), (q6, .inl (Z.2.1, 3, .inl (fun _ => 0))), (q7, .inl (Z.2.1, 35, .inl (fun _ => 0))), (q8, .inl (Z.2.1, 350, .inl (fun _ => 0)))]) kW_X3 tyX3_ok nmX3 hw 0 rfl rfl 11 (by decide) kF_X3_33 rfl rfl rfl rfl (Nat.le_of_ble_eq_true rfl) rfl dX3_init_64 (fun H locs hw => ?_)
  refine r_aload_n E hl 0 rfl dX3_init_67 rfl ?_
  refine r_bipush E (10) dX3_init_68 (by decide) ?_
  refine r_newaJ E hw 10 (by decide) (by decide) (by decide) ⟨Nat.le_of_ble_eq_true rfl, Nat.le_of_ble_eq_true rfl⟩ dX3_init_70 (fun q9 H hw => ?_)
  replace hw : zW Z A ([(h0, .inr (2, [.int 0, .int 0, .int 0, .int 0, .ref q1, .ref q2, .ref q3, .ref q4, .ref q5, .ref q6, .ref q7, .ref q8, .null])), (q1, .inl (Z.2.1, 10, .inl (fun _ => 0))), (q2, .inl (Z.2.1, 16, .inl (fun _ => 0))), (q3, .inl (Z.2.1, 16, .inl (fun _ => 0))), (q4, .inl (Z.2.1, 16, .inl (fun _ => 0))), (q5, .inl (Z.2.1, 3, .inl (fun _ => 0))), (q6, .inl (Z.2.1, 3, .inl (fun _ => 0))), (q7, .inl (Z.2.1, 35, .inl (fun _ => 0))), (q8, .inl (Z.2.1, 350, .inl (fun _ => 0))), (q9, .inl (Z.2.2.1, 10, .inr (.inl (fun _ => 0))))]) s.heap H _ := hw
  refine r_putF E hin ([(h0, .inr (2, [.int 0, .int 0, .int 0, .int 0, .ref q1, .ref q2, .ref q3, .ref q4, .ref q5, .ref q6, .ref q7, .ref q8, .ref q9])), (q1, .inl (Z.2.1, 10, .inl (fun _ => 0))), (q2, .inl (Z.2.1, 16, .inl (fun _ => 0))), (q3, .inl (Z.2.1, 16, .inl (fun _ => 0))), (q4, .inl (Z.2.1, 16, .inl (fun _ => 0))), (q5, .inl (Z.2.1, 3, .inl (fun _ => 0))), (q6, .inl (Z.2.1, 3, .inl (fun _ => 0))), (q7, .inl (Z.2.1, 35, .inl (fun _ => 0))), (q8, .inl (Z.2.1, 350, .inl (fun _ => 0))), (q9, .inl (Z.2.2.1, 10, .inr (.inl (fun _ => 0))))]) kW_X3 tyX3_ok nmX3 hw 0 rfl rfl 12 (by decide) kF_X3_36 rfl rfl rfl rfl (Nat.le_of_ble_eq_true rfl) rfl dX3_init_72 (fun H locs hw => ?_)
  exact r_cret (Wf := fun u => oX3 Z u) E (fun k => ([h0, q1, q2, q3, q4, q5, q6, q7, q8, q9] : List Nat).getD k 0) rfl hw dX3_init_75
abbrev oX4 (Z : zT) (u : Nat → Nat) : va_W := wX4 Z u (0 : Int32) (0 : Int32) (fun _ => 0) (0 : Int32) (0 : Int32) (-1 : Int32)
set_option maxRecDepth 100000 in
set_option maxHeartbeats 4000000 in
theorem nX4_init (l : Launch) (Z : zT) (sz : Nat) (h0 : Nat) : Met l yX4_init (Cond.code yX4_init cX4_init 1 none :: zWs) { frames := 1, cells := 1, slots := 21, locals := 12 } (zP Z [(h0, .inr (3, [.int 0, .int 0, .null, .int 0, .int 0, .int 0]))] sz [.ref h0]) (zQs Z (fun u : Nat → Nat => u 0 = h0) (fun u => oX4 Z u) (va_A [(h0, .inr (3, [.int 0, .int 0, .null, .int 0, .int 0, .int 0]))] sz)) 1 21 (va_A [(h0, .inr (3, [.int 0, .int 0, .null, .int 0, .int 0, .int 0]))] sz) := by
  refine zMetI (own := RX4) (fun A => zQs Z (fun u : Nat → Nat => u 0 = h0) (fun u => oX4 Z u) A) (by decide) rfl rfl (Nat.le_of_ble_eq_true rfl) ?_
  intro p e s m args below meth c ls A hin E hw hl
  refine r_aload_n E hl 0 rfl dX4_init_0 rfl ?_
  refine r_objInit E hl kL_X4_3 dX4_init_1 ⟨Nat.le_of_ble_eq_true rfl, Nat.le_of_ble_eq_true rfl⟩ ?_
  refine r_aload_n E hl 0 rfl dX4_init_4 rfl ?_
  refine r_iconst E (0) dX4_init_5 (by decide) ?_
  refine r_put E ([(h0, .inr (3, [.int (0 : Int32), .int 0, .null, .int 0, .int 0, .int 0]))]) kW_X4 tyX4_ok nmX4 hw 0 rfl rfl 0 (by decide) kF_X4_9 rfl rfl rfl (Nat.le_of_ble_eq_true rfl) rfl dX4_init_6 (fun H locs hw => ?_)
  refine r_aload_n E hl 0 rfl dX4_init_9 rfl ?_
  refine r_iconst E (0) dX4_init_10 (by decide) ?_
  refine r_put E ([(h0, .inr (3, [.int (0 : Int32), .int (0 : Int32), .null, .int 0, .int 0, .int 0]))]) kW_X4 tyX4_ok nmX4 hw 0 rfl rfl 1 (by decide) kF_X4_15 rfl rfl rfl (Nat.le_of_ble_eq_true rfl) rfl dX4_init_11 (fun H locs hw => ?_)
  refine r_aload_n E hl 0 rfl dX4_init_14 rfl ?_
  refine r_bipush E (21) dX4_init_15 (by decide) ?_
  refine r_newaI E hw 21 (by decide) (by decide) (by decide) ⟨Nat.le_of_ble_eq_true rfl, Nat.le_of_ble_eq_true rfl⟩ dX4_init_17 (fun q1 H hw => ?_)
  replace hw : zW Z A ([(h0, .inr (3, [.int (0 : Int32), .int (0 : Int32), .null, .int 0, .int 0, .int 0])), (q1, .inl (Z.2.1, 21, .inl (fun _ => 0)))]) s.heap H _ := hw
  refine r_putF E hin ([(h0, .inr (3, [.int (0 : Int32), .int (0 : Int32), .ref q1, .int 0, .int 0, .int 0])), (q1, .inl (Z.2.1, 21, .inl (fun _ => 0)))]) kW_X4 tyX4_ok nmX4 hw 0 rfl rfl 2 (by decide) kF_X4_18 rfl rfl rfl rfl (Nat.le_of_ble_eq_true rfl) rfl dX4_init_19 (fun H locs hw => ?_)
  refine r_aload_n E hl 0 rfl dX4_init_22 rfl ?_
  refine r_iconst E (0) dX4_init_23 (by decide) ?_
  refine r_put E ([(h0, .inr (3, [.int (0 : Int32), .int (0 : Int32), .ref q1, .int (0 : Int32), .int 0, .int 0])), (q1, .inl (Z.2.1, 21, .inl (fun _ => 0)))]) kW_X4 tyX4_ok nmX4 hw 0 rfl rfl 3 (by decide) kF_X4_22 rfl rfl rfl (Nat.le_of_ble_eq_true rfl) rfl dX4_init_24 (fun H locs hw => ?_)
  refine r_aload_n E hl 0 rfl dX4_init_27 rfl ?_
  refine r_iconst E (0) dX4_init_28 (by decide) ?_
  refine r_put E ([(h0, .inr (3, [.int (0 : Int32), .int (0 : Int32), .ref q1, .int (0 : Int32), .int (0 : Int32), .int 0])), (q1, .inl (Z.2.1, 21, .inl (fun _ => 0)))]) kW_X4 tyX4_ok nmX4 hw 0 rfl rfl 4 (by decide) kF_X4_25 rfl rfl rfl (Nat.le_of_ble_eq_true rfl) rfl dX4_init_29 (fun H locs hw => ?_)
  refine r_aload_n E hl 0 rfl dX4_init_32 rfl ?_
  refine r_iconst E (-1) dX4_init_33 (by decide) ?_
  refine r_put E ([(h0, .inr (3, [.int (0 : Int32), .int (0 : Int32), .ref q1, .int (0 : Int32), .int (0 : Int32), .int (-1 : Int32)])), (q1, .inl (Z.2.1, 21, .inl (fun _ => 0)))]) kW_X4 tyX4_ok nmX4 hw 0 rfl rfl 5 (by decide) kF_X4_28 rfl rfl rfl (Nat.le_of_ble_eq_true rfl) rfl dX4_init_34 (fun H locs hw => ?_)
  exact r_cret (Wf := fun u => oX4 Z u) E (fun k => ([h0, q1] : List Nat).getD k 0) rfl hw dX4_init_37
abbrev oX5 (Z : zT) (u : Nat → Nat) : va_W := wX5 Z u (fun _ => 0) (0 : Int32) (0 : Int32) (0 : Int32) (0 : Int32) (-1 : Int32) (0 : Int32) (0 : Int32) (0 : Int32) (0 : Int32)
set_option maxRecDepth 100000 in
set_option maxHeartbeats 4000000 in
theorem nX5_init (l : Launch) (Z : zT) (sz : Nat) (h0 : Nat) : Met l yX5_init (Cond.code yX5_init cX5_init 1 none :: zWs) { frames := 1, cells := 1, slots := 120, locals := 12 } (zP Z [(h0, .inr (4, [.null, .int 0, .int 0, .int 0, .int 0, .int 0, .int 0, .int 0, .int 0, .int 0]))] sz [.ref h0]) (zQs Z (fun u : Nat → Nat => u 0 = h0) (fun u => oX5 Z u) (va_A [(h0, .inr (4, [.null, .int 0, .int 0, .int 0, .int 0, .int 0, .int 0, .int 0, .int 0, .int 0]))] sz)) 1 120 (va_A [(h0, .inr (4, [.null, .int 0, .int 0, .int 0, .int 0, .int 0, .int 0, .int 0, .int 0, .int 0]))] sz) := by
  refine zMetI (own := RX5) (fun A => zQs Z (fun u : Nat → Nat => u 0 = h0) (fun u => oX5 Z u) A) (by decide) rfl rfl (Nat.le_of_ble_eq_true rfl) ?_
  intro p e s m args below meth c ls A hin E hw hl
  refine r_aload_n E hl 0 rfl dX5_init_0 rfl ?_
  refine r_objInit E hl kL_X5_3 dX5_init_1 ⟨Nat.le_of_ble_eq_true rfl, Nat.le_of_ble_eq_true rfl⟩ ?_
  refine r_aload_n E hl 0 rfl dX5_init_4 rfl ?_
  refine r_bipush E (120) dX5_init_5 (by decide) ?_
  refine r_newaC E hw 120 (by decide) (by decide) (by decide) ⟨Nat.le_of_ble_eq_true rfl, Nat.le_of_ble_eq_true rfl⟩ dX5_init_7 (fun q1 H hw => ?_)
  replace hw : zW Z A ([(h0, .inr (4, [.null, .int 0, .int 0, .int 0, .int 0, .int 0, .int 0, .int 0, .int 0, .int 0])), (q1, .inl (Z.2.2.2.1, 120, .inl (fun _ => 0)))]) s.heap H _ := hw
  refine r_putF E hin ([(h0, .inr (4, [.ref q1, .int 0, .int 0, .int 0, .int 0, .int 0, .int 0, .int 0, .int 0, .int 0])), (q1, .inl (Z.2.2.2.1, 120, .inl (fun _ => 0)))]) kW_X5 tyX5_ok nmX5 hw 0 rfl rfl 0 (by decide) kF_X5_9 rfl rfl rfl rfl (Nat.le_of_ble_eq_true rfl) rfl dX5_init_9 (fun H locs hw => ?_)
  refine r_aload_n E hl 0 rfl dX5_init_12 rfl ?_
  refine r_iconst E (0) dX5_init_13 (by decide) ?_
  refine r_put E ([(h0, .inr (4, [.ref q1, .int (0 : Int32), .int 0, .int 0, .int 0, .int 0, .int 0, .int 0, .int 0, .int 0])), (q1, .inl (Z.2.2.2.1, 120, .inl (fun _ => 0)))]) kW_X5 tyX5_ok nmX5 hw 0 rfl rfl 1 (by decide) kF_X5_15 rfl rfl rfl (Nat.le_of_ble_eq_true rfl) rfl dX5_init_14 (fun H locs hw => ?_)
  refine r_aload_n E hl 0 rfl dX5_init_17 rfl ?_
  refine r_iconst E (0) dX5_init_18 (by decide) ?_
  refine r_put E ([(h0, .inr (4, [.ref q1, .int (0 : Int32), .int (0 : Int32), .int 0, .int 0, .int 0, .int 0, .int 0, .int 0, .int 0])), (q1, .inl (Z.2.2.2.1, 120, .inl (fun _ => 0)))]) kW_X5 tyX5_ok nmX5 hw 0 rfl rfl 2 (by decide) kF_X5_19 rfl rfl rfl (Nat.le_of_ble_eq_true rfl) rfl dX5_init_19 (fun H locs hw => ?_)
  refine r_aload_n E hl 0 rfl dX5_init_22 rfl ?_
  refine r_iconst E (0) dX5_init_23 (by decide) ?_
  refine r_put E ([(h0, .inr (4, [.ref q1, .int (0 : Int32), .int (0 : Int32), .int (0 : Int32), .int 0, .int 0, .int 0, .int 0, .int 0, .int 0])), (q1, .inl (Z.2.2.2.1, 120, .inl (fun _ => 0)))]) kW_X5 tyX5_ok nmX5 hw 0 rfl rfl 3 (by decide) kF_X5_22 rfl rfl rfl (Nat.le_of_ble_eq_true rfl) rfl dX5_init_24 (fun H locs hw => ?_)
  refine r_aload_n E hl 0 rfl dX5_init_27 rfl ?_
  refine r_iconst E (0) dX5_init_28 (by decide) ?_
  refine r_put E ([(h0, .inr (4, [.ref q1, .int (0 : Int32), .int (0 : Int32), .int (0 : Int32), .int (0 : Int32), .int 0, .int 0, .int 0, .int 0, .int 0])), (q1, .inl (Z.2.2.2.1, 120, .inl (fun _ => 0)))]) kW_X5 tyX5_ok nmX5 hw 0 rfl rfl 4 (by decide) kF_X5_25 rfl rfl rfl (Nat.le_of_ble_eq_true rfl) rfl dX5_init_29 (fun H locs hw => ?_)
  refine r_aload_n E hl 0 rfl dX5_init_32 rfl ?_
  refine r_iconst E (-1) dX5_init_33 (by decide) ?_
  refine r_put E ([(h0, .inr (4, [.ref q1, .int (0 : Int32), .int (0 : Int32), .int (0 : Int32), .int (0 : Int32), .int (-1 : Int32), .int 0, .int 0, .int 0, .int 0])), (q1, .inl (Z.2.2.2.1, 120, .inl (fun _ => 0)))]) kW_X5 tyX5_ok nmX5 hw 0 rfl rfl 5 (by decide) kF_X5_28 rfl rfl rfl (Nat.le_of_ble_eq_true rfl) rfl dX5_init_34 (fun H locs hw => ?_)
  refine r_aload_n E hl 0 rfl dX5_init_37 rfl ?_
  refine r_iconst E (0) dX5_init_38 (by decide) ?_
  refine r_put E ([(h0, .inr (4, [.ref q1, .int (0 : Int32), .int (0 : Int32), .int (0 : Int32), .int (0 : Int32), .int (-1 : Int32), .int (0 : Int32), .int 0, .int 0, .int 0])), (q1, .inl (Z.2.2.2.1, 120, .inl (fun _ => 0)))]) kW_X5 tyX5_ok nmX5 hw 0 rfl rfl 6 (by decide) kF_X5_31 rfl rfl rfl (Nat.le_of_ble_eq_true rfl) rfl dX5_init_39 (fun H locs hw => ?_)
  refine r_aload_n E hl 0 rfl dX5_init_42 rfl ?_
  refine r_iconst E (0) dX5_init_43 (by decide) ?_
  refine r_put E ([(h0, .inr (4, [.ref q1, .int (0 : Int32), .int (0 : Int32), .int (0 : Int32), .int (0 : Int32), .int (-1 : Int32), .int (0 : Int32), .int (0 : Int32), .int 0, .int 0])), (q1, .inl (Z.2.2.2.1, 120, .inl (fun _ => 0)))]) kW_X5 tyX5_ok nmX5 hw 0 rfl rfl 7 (by decide) kF_X5_34 rfl rfl rfl (Nat.le_of_ble_eq_true rfl) rfl dX5_init_44 (fun H locs hw => ?_)
  refine r_aload_n E hl 0 rfl dX5_init_47 rfl ?_
  refine r_iconst E (0) dX5_init_48 (by decide) ?_
  refine r_put E ([(h0, .inr (4, [.ref q1, .int (0 : Int32), .int (0 : Int32), .int (0 : Int32), .int (0 : Int32), .int (-1 : Int32), .int (0 : Int32), .int (0 : Int32), .int (0 : Int32), .int 0])), (q1, .inl (Z.2.2.2.1, 120, .inl (fun _ => 0)))]) kW_X5 tyX5_ok nmX5 hw 0 rfl rfl 8 (by decide) kF_X5_37 rfl rfl rfl (Nat.le_of_ble_eq_true rfl) rfl dX5_init_49 (fun H locs hw => ?_)
  refine r_aload_n E hl 0 rfl dX5_init_52 rfl ?_
  refine r_iconst E (0) dX5_init_53 (by decide) ?_
  refine r_put E ([(h0, .inr (4, [.ref q1, .int (0 : Int32), .int (0 : Int32), .int (0 : Int32), .int (0 : Int32), .int (-1 : Int32), .int (0 : Int32), .int (0 : Int32), .int (0 : Int32), .int (0 : Int32)])), (q1, .inl (Z.2.2.2.1, 120, .inl (fun _ => 0)))]) kW_X5 tyX5_ok nmX5 hw 0 rfl rfl 9 (by decide) kF_X5_40 rfl rfl rfl (Nat.le_of_ble_eq_true rfl) rfl dX5_init_54 (fun H locs hw => ?_)
  exact r_cret (Wf := fun u => oX5 Z u) E (fun k => ([h0, q1] : List Nat).getD k 0) rfl hw dX5_init_57
abbrev oX7 (Z : zT) (u : Nat → Nat) : va_W := wX7 Z u (0 : Int32) (fun _ => 0) (fun _ => 0) 0 (fun _ => 0) (fun _ => 0) (fun _ => 0) 0 (fun _ => 0) 0 0 0 0 0 0 0 0 0 (fun _ => 0) (fun _ => 0) 0 (fun _ => 0) 0 0 (fun _ => 0)
set_option maxRecDepth 100000 in
set_option maxHeartbeats 4000000 in
theorem nX7_init (l : Launch) (Z : zT) (sz : Nat) (h0 : Nat) : Met l yX7_init (Cond.code yX7_init cX7_init 1 none :: zWs) { frames := 1, cells := 10, slots := 12648, locals := 12 } (zP Z [(h0, .inr (6, [.int 0, .null, .null, .int 0, .null, .null, .null, .int 0, .null, .int 0, .int 0, .int 0, .int 0, .int 0, .int 0, .int 0, .long 0, .int 0, .null, .null, .int 0, .null, .int 0, .int 0, .null]))] sz [.ref h0]) (zQs Z (fun u : Nat → Nat => u 0 = h0) (fun u => oX7 Z u) (va_A [(h0, .inr (6, [.int 0, .null, .null, .int 0, .null, .null, .null, .int 0, .null, .int 0, .int 0, .int 0, .int 0, .int 0, .int 0, .int 0, .long 0, .int 0, .null, .null, .int 0, .null, .int 0, .int 0, .null]))] sz)) 10 12648 (va_A [(h0, .inr (6, [.int 0, .null, .null, .int 0, .null, .null, .null, .int 0, .null, .int 0, .int 0, .int 0, .int 0, .int 0, .int 0, .int 0, .long 0, .int 0, .null, .null, .int 0, .null, .int 0, .int 0, .null]))] sz) := by
  refine zMetI (own := RX7) (fun A => zQs Z (fun u : Nat → Nat => u 0 = h0) (fun u => oX7 Z u) A) (by decide) rfl rfl (Nat.le_of_ble_eq_true rfl) ?_
  intro p e s m args below meth c ls A hin E hw hl
  refine r_aload_n E hl 0 rfl dX7_init_0 rfl ?_
  refine r_objInit E hl kL_X7_1 dX7_init_1 ⟨Nat.le_of_ble_eq_true rfl, Nat.le_of_ble_eq_true rfl⟩ ?_
  refine r_aload_n E hl 0 rfl dX7_init_4 rfl ?_
  refine r_sipush E (1557) dX7_init_5 (by decide) ?_
  refine r_newaI E hw 1557 (by decide) (by decide) (by decide) ⟨Nat.le_of_ble_eq_true rfl, Nat.le_of_ble_eq_true rfl⟩ dX7_init_8 (fun q1 H hw => ?_)
  replace hw : zW Z A ([(h0, .inr (6, [.int 0, .null, .null, .int 0, .null, .null, .null, .int 0, .null, .int 0, .int 0, .int 0, .int 0, .int 0, .int 0, .int 0, .long 0, .int 0, .null, .null, .int 0, .null, .int 0, .int 0, .null])), (q1, .inl (Z.2.1, 1557, .inl (fun _ => 0)))]) s.heap H _ := hw
  refine r_putF E hin ([(h0, .inr (6, [.int 0, .ref q1, .null, .int 0, .null, .null, .null, .int 0, .null, .int 0, .int 0, .int 0, .int 0, .int 0, .int 0, .int 0, .long 0, .int 0, .null, .null, .int 0, .null, .int 0, .int 0, .null])), (q1, .inl (Z.2.1, 1557, .inl (fun _ => 0)))]) kW_X7 tyX7_ok nmX7 hw 0 rfl rfl 1 (by decide) kF_X7_7 rfl rfl rfl rfl (Nat.le_of_ble_eq_true rfl) rfl dX7_init_10 (fun H locs hw => ?_)
  refine r_aload_n E hl 0 rfl dX7_init_13 rfl ?_
  refine r_sipush E (7785) dX7_init_14 (by decide) ?_
  refine r_newaI E hw 7785 (by decide) (by decide) (by decide) ⟨Nat.le_of_ble_eq_true rfl, Nat.le_of_ble_eq_true rfl⟩ dX7_init_17 (fun q2 H hw => ?_)
  replace hw : zW Z A ([(h0, .inr (6, [.int 0, .ref q1, .null, .int 0, .null, .null, .null, .int 0, .null, .int 0, .int 0, .int 0, .int 0, .int 0, .int 0, .int 0, .long 0, .int 0, .null, .null, .int 0, .null, .int 0, .int 0, .null])), (q1, .inl (Z.2.1, 1557, .inl (fun _ => 0))), (q2, .inl (Z.2.1, 7785, .inl (fun _ => 0)))]) s.heap H _ := hw
  refine r_putF E hin ([(h0, .inr (6, [.int 0, .ref q1, .ref q2, .int 0, .null, .null, .null, .int 0, .null, .int 0, .int 0, .int 0, .int 0, .int 0, .int 0, .int 0, .long 0, .int 0, .null, .null, .int 0, .null, .int 0, .int 0, .null])), (q1, .inl (Z.2.1, 1557, .inl (fun _ => 0))), (q2, .inl (Z.2.1, 7785, .inl (fun _ => 0)))]) kW_X7 tyX7_ok nmX7 hw 0 rfl rfl 2 (by decide) kF_X7_13 rfl rfl rfl rfl (Nat.le_of_ble_eq_true rfl) rfl dX7_init_19 (fun H locs hw => ?_)
  refine r_aload_n E hl 0 rfl dX7_init_22 rfl ?_
  refine r_sipush E (1557) dX7_init_23 (by decide) ?_
  refine r_newaI E hw 1557 (by decide) (by decide) (by decide) ⟨Nat.le_of_ble_eq_true rfl, Nat.le_of_ble_eq_true rfl⟩ dX7_init_26 (fun q3 H hw => ?_)
  replace hw : zW Z A ([(h0, .inr (6, [.int 0, .ref q1, .ref q2, .int 0, .null, .null, .null, .int 0, .null, .int 0, .int 0, .int 0, .int 0, .int 0, .int 0, .int 0, .long 0, .int 0, .null, .null, .int 0, .null, .int 0, .int 0, .null])), (q1, .inl (Z.2.1, 1557, .inl (fun _ => 0))), (q2, .inl (Z.2.1, 7785, .inl (fun _ => 0))), (q3, .inl (Z.2.1, 1557, .inl (fun _ => 0)))]) s.heap H _ := hw
  refine r_putF E hin ([(h0, .inr (6, [.int 0, .ref q1, .ref q2, .int 0, .ref q3, .null, .null, .int 0, .null, .int 0, .int 0, .int 0, .int 0, .int 0, .int 0, .int 0, .long 0, .int 0, .null, .null, .int 0, .null, .int 0, .int 0, .null])), (q1, .inl (Z.2.1, 1557, .inl (fun _ => 0))), (q2, .inl (Z.2.1, 7785, .inl (fun _ => 0))), (q3, .inl (Z.2.1, 1557, .inl (fun _ => 0)))]) kW_X7 tyX7_ok nmX7 hw 0 rfl rfl 4 (by decide) kF_X7_16 rfl rfl rfl rfl (Nat.le_of_ble_eq_true rfl) rfl dX7_init_28 (fun H locs hw => ?_)
  refine r_aload_n E hl 0 rfl dX7_init_31 rfl ?_
  refine r_sipush E (1557) dX7_init_32 (by decide) ?_
  refine r_newaI E hw 1557 (by decide) (by decide) (by decide) ⟨Nat.le_of_ble_eq_true rfl, Nat.le_of_ble_eq_true rfl⟩ dX7_init_35 (fun q4 H hw => ?_)
  replace hw : zW Z A ([(h0, .inr (6, [.int 0, .ref q1, .ref q2, .int 0, .ref q3, .null, .null, .int 0, .null, .int 0, .int 0, .int 0, .int 0, .int 0, .int 0, .int 0, .long 0, .int 0, .null, .null, .int 0, .null, .int 0, .int 0, .null])), (q1, .inl (Z.2.1, 1557, .inl (fun _ => 0))), (q2, .inl (Z.2.1, 7785, .inl (fun _ => 0))), (q3, .inl (Z.2.1, 1557, .inl (fun _ => 0))), (q4, .inl (Z.2.1, 1557, .inl (fun _ => 0)))]) s.heap H _ := hw
  refine r_putF E hin ([(h0, .inr (6, [.int 0, .ref q1, .ref q2, .int 0, .ref q3, .ref q4, .null, .int 0, .null, .int 0, .int 0, .int 0, .int 0, .int 0, .int 0, .int 0, .long 0, .int 0, .null, .null, .int 0, .null, .int 0, .int 0, .null])), (q1, .inl (Z.2.1, 1557, .inl (fun _ => 0))), (q2, .inl (Z.2.1, 7785, .inl (fun _ => 0))), (q3, .inl (Z.2.1, 1557, .inl (fun _ => 0))), (q4, .inl (Z.2.1, 1557, .inl (fun _ => 0)))]) kW_X7 tyX7_ok nmX7 hw 0 rfl rfl 5 (by decide) kF_X7_19 rfl rfl rfl rfl (Nat.le_of_ble_eq_true rfl) rfl dX7_init_37 (fun H locs hw => ?_)
  refine r_aload_n E hl 0 rfl dX7_init_40 rfl ?_
  refine r_bipush E (120) dX7_init_41 (by decide) ?_
  refine r_newaI E hw 120 (by decide) (by decide) (by decide) ⟨Nat.le_of_ble_eq_true rfl, Nat.le_of_ble_eq_true rfl⟩ dX7_init_43 (fun q5 H hw => ?_)
  replace hw : zW Z A ([(h0, .inr (6, [.int 0, .ref q1, .ref q2, .int 0, .ref q3, .ref q4, .null, .int 0, .null, .int 0, .int 0, .int 0, .int 0, .int 0, .int 0, .int 0, .long 0, .int 0, .null, .null, .int 0, .null, .int 0, .int 0, .null])), (q1, .inl (Z.2.1, 1557, .inl (fun _ => 0))), (q2, .inl (Z.2.1, 7785, .inl (fun _ => 0))), (q3, .inl (Z.2.1, 1557, .inl (fun _ => 0))), (q4, .inl (Z.2.1, 1557, .inl (fun _ => 0))), (q5, .inl (Z.2.1, 120, .inl (fun _ => 0)))]) s.heap H _ := hw
  refine r_putF E hin ([(h0, .inr (6, [.int 0, .ref q1, .ref q2, .int 0, .ref q3, .ref q4, .ref q5, .int 0, .null, .int 0, .int 0, .int 0, .int 0, .int 0, .int 0, .int 0, .long 0, .int 0, .null, .null, .int 0, .null, .int 0, .int 0, .null])), (q1, .inl (Z.2.1, 1557, .inl (fun _ => 0))), (q2, .inl (Z.2.1, 7785, .inl (fun _ => 0))), (q3, .inl (Z.2.1, 1557, .inl (fun _ => 0))), (q4, .inl (Z.2.1, 1557, .inl (fun _ => 0))), (q5, .inl (Z.2.1, 120, .inl (fun _ => 0)))]) kW_X7 tyX7_ok nmX7 hw 0 rfl rfl 6 (by decide) kF_X7_22 rfl rfl rfl rfl (Nat.le_of_ble_eq_true rfl) rfl dX7_init_45 (fun H locs hw => ?_)
  refine r_aload_n E hl 0 rfl dX7_init_48 rfl ?_
  refine r_bipush E (21) dX7_init_49 (by decide) ?_
  refine r_newaI E hw 21 (by decide) (by decide) (by decide) ⟨Nat.le_of_ble_eq_true rfl, Nat.le_of_ble_eq_true rfl⟩ dX7_init_51 (fun q6 H hw => ?_)
  replace hw : zW Z A ([(h0, .inr (6, [.int 0, .ref q1, .ref q2, .int 0, .ref q3, .ref q4, .ref q5, .int 0, .null, .int 0, .int 0, .int 0, .int 0, .int 0, .int 0, .int 0, .long 0, .int 0, .null, .null, .int 0, .null, .int 0, .int 0, .null])), (q1, .inl (Z.2.1, 1557, .inl (fun _ => 0))), (q2, .inl (Z.2.1, 7785, .inl (fun _ => 0))), (q3, .inl (Z.2.1, 1557, .inl (fun _ => 0))), (q4, .inl (Z.2.1, 1557, .inl (fun _ => 0))), (q5, .inl (Z.2.1, 120, .inl (fun _ => 0))), (q6, .inl (Z.2.1, 21, .inl (fun _ => 0)))]) s.heap H _ := hw
  refine r_putF E hin ([(h0, .inr (6, [.int 0, .ref q1, .ref q2, .int 0, .ref q3, .ref q4, .ref q5, .int 0, .ref q6, .int 0, .int 0, .int 0, .int 0, .int 0, .int 0, .int 0, .long 0, .int 0, .null, .null, .int 0, .null, .int 0, .int 0, .null])), (q1, .inl (Z.2.1, 1557, .inl (fun _ => 0))), (q2, .inl (Z.2.1, 7785, .inl (fun _ => 0))), (q3, .inl (Z.2.1, 1557, .inl (fun _ => 0))), (q4, .inl (Z.2.1, 1557, .inl (fun _ => 0))), (q5, .inl (Z.2.1, 120, .inl (fun _ => 0))), (q6, .inl (Z.2.1, 21, .inl (fun _ => 0)))]) kW_X7 tyX7_ok nmX7 hw 0 rfl rfl 8 (by decide) kF_X7_25 rfl rfl rfl rfl (Nat.le_of_ble_eq_true rfl) rfl dX7_init_53 (fun H locs hw => ?_)
  refine r_aload_n E hl 0 rfl dX7_init_56 rfl ?_
  refine r_bipush E (10) dX7_init_57 (by decide) ?_
  refine r_newaI E hw 10 (by decide) (by decide) (by decide) ⟨Nat.le_of_ble_eq_true rfl, Nat.le_of_ble_eq_true rfl⟩ dX7_init_59 (fun q7 H hw => ?_)
  replace hw : zW Z A ([(h0, .inr (6, [.int 0, .ref q1, .ref q2, .int 0, .ref q3, .ref q4, .ref q5, .int 0, .ref q6, .int 0, .int 0, .int 0, .int 0, .int 0, .int 0, .int 0, .long 0, .int 0, .null, .null, .int 0, .null, .int 0, .int 0, .null])), (q1, .inl (Z.2.1, 1557, .inl (fun _ => 0))), (q2, .inl (Z.2.1, 7785, .inl (fun _ => 0))), (q3, .inl (Z.2.1, 1557, .inl (fun _ => 0))), (q4, .inl (Z.2.1, 1557, .inl (fun _ => 0))), (q5, .inl (Z.2.1, 120, .inl (fun _ => 0))), (q6, .inl (Z.2.1, 21, .inl (fun _ => 0))), (q7, .inl (Z.2.1, 10, .inl (fun _ => 0)))]) s.heap H _ := hw
  refine r_putF E hin ([(h0, .inr (6, [.int 0, .ref q1, .ref q2, .int 0, .ref q3, .ref q4, .ref q5, .int 0, .ref q6, .int 0, .int 0, .int 0, .int 0, .int 0, .int 0, .int 0, .long 0, .int 0, .ref q7, .null, .int 0, .null, .int 0, .int 0, .null])), (q1, .inl (Z.2.1, 1557, .inl (fun _ => 0))), (q2, .inl (Z.2.1, 7785, .inl (fun _ => 0))), (q3, .inl (Z.2.1, 1557, .inl (fun _ => 0))), (q4, .inl (Z.2.1, 1557, .inl (fun _ => 0))), (q5, .inl (Z.2.1, 120, .inl (fun _ => 0))), (q6, .inl (Z.2.1, 21, .inl (fun _ => 0))), (q7, .inl (Z.2.1, 10, .inl (fun _ => 0)))]) kW_X7 tyX7_ok nmX7 hw 0 rfl rfl 18 (by decide) kF_X7_28 rfl rfl rfl rfl (Nat.le_of_ble_eq_true rfl) rfl dX7_init_61 (fun H locs hw => ?_)
  refine r_aload_n E hl 0 rfl dX7_init_64 rfl ?_
  refine r_bipush E (10) dX7_init_65 (by decide) ?_
  refine r_newaI E hw 10 (by decide) (by decide) (by decide) ⟨Nat.le_of_ble_eq_true rfl, Nat.le_of_ble_eq_true rfl⟩ dX7_init_67 (fun q8 H hw => ?_)
  replace hw : zW Z A ([(h0, .inr (6, [.int 0, .ref q1, .ref q2, .int 0, .ref q3, .ref q4, .ref q5, .int 0, .ref q6, .int 0, .int 0, .int 0, .int 0, .int 0, .int 0, .int 0, .long 0, .int 0, .ref q7, .null, .int 0, .null, .int 0, .int 0, .null])), (q1, .inl (Z.2.1, 1557, .inl (fun _ => 0))), (q2, .inl (Z.2.1, 7785, .inl (fun _ => 0))), (q3, .inl (Z.2.1, 1557, .inl (fun _ => 0))), (q4, .inl (Z.2.1, 1557, .inl (fun _ => 0))), (q5, .inl (Z.2.1, 120, .inl (fun _ => 0))), (q6, .inl (Z.2.1, 21, .inl (fun _ => 0))), (q7, .inl (Z.2.1, 10, .inl (fun _ => 0))), (q8, .inl (Z.2.1, 10, .inl (fun _ => 0)))]) s.heap H _ := hw
  refine r_putF E hin ([(h0, .inr (6, [.int 0, .ref q1, .ref q2, .int 0, .ref q3, .ref q4, .ref q5, .int 0, .ref q6, .int 0, .int 0, .int 0, .int 0, .int 0, .int 0, .int 0, .long 0, .int 0, .ref q7, .ref q8, .int 0, .null, .int 0, .int 0, .null])), (q1, .inl (Z.2.1, 1557, .inl (fun _ => 0))), (q2, .inl (Z.2.1, 7785, .inl (fun _ => 0))), (q3, .inl (Z.2.1, 1557, .inl (fun _ => 0))), (q4, .inl (Z.2.1, 1557, .inl (fun _ => 0))), (q5, .inl (Z.2.1, 120, .inl (fun _ => 0))), (q6, .inl (Z.2.1, 21, .inl (fun _ => 0))), (q7, .inl (Z.2.1, 10, .inl (fun _ => 0))), (q8, .inl (Z.2.1, 10, .inl (fun _ => 0)))]) kW_X7 tyX7_ok nmX7 hw 0 rfl rfl 19 (by decide) kF_X7_31 rfl rfl rfl rfl (Nat.le_of_ble_eq_true rfl) rfl dX7_init_69 (fun H locs hw => ?_)
  refine r_aload_n E hl 0 rfl dX7_init_72 rfl ?_
  refine r_bipush E (21) dX7_init_73 (by decide) ?_
  refine r_newaI E hw 21 (by decide) (by decide) (by decide) ⟨Nat.le_of_ble_eq_true rfl, Nat.le_of_ble_eq_true rfl⟩ dX7_init_75 (fun q9 H hw => ?_)
  replace hw : zW Z A ([(h0, .inr (6, [.int 0, .ref q1, .ref q2, .int 0, .ref q3, .ref q4, .ref q5, .int 0, .ref q6, .int 0, .int 0, .int 0, .int 0, .int 0, .int 0, .int 0, .long 0, .int 0, .ref q7, .ref q8, .int 0, .null, .int 0, .int 0, .null])), (q1, .inl (Z.2.1, 1557, .inl (fun _ => 0))), (q2, .inl (Z.2.1, 7785, .inl (fun _ => 0))), (q3, .inl (Z.2.1, 1557, .inl (fun _ => 0))), (q4, .inl (Z.2.1, 1557, .inl (fun _ => 0))), (q5, .inl (Z.2.1, 120, .inl (fun _ => 0))), (q6, .inl (Z.2.1, 21, .inl (fun _ => 0))), (q7, .inl (Z.2.1, 10, .inl (fun _ => 0))), (q8, .inl (Z.2.1, 10, .inl (fun _ => 0))), (q9, .inl (Z.2.1, 21, .inl (fun _ => 0)))]) s.heap H _ := hw
  refine r_putF E hin ([(h0, .inr (6, [.int 0, .ref q1, .ref q2, .int 0, .ref q3, .ref q4, .ref q5, .int 0, .ref q6, .int 0, .int 0, .int 0, .int 0, .int 0, .int 0, .int 0, .long 0, .int 0, .ref q7, .ref q8, .int 0, .ref q9, .int 0, .int 0, .null])), (q1, .inl (Z.2.1, 1557, .inl (fun _ => 0))), (q2, .inl (Z.2.1, 7785, .inl (fun _ => 0))), (q3, .inl (Z.2.1, 1557, .inl (fun _ => 0))), (q4, .inl (Z.2.1, 1557, .inl (fun _ => 0))), (q5, .inl (Z.2.1, 120, .inl (fun _ => 0))), (q6, .inl (Z.2.1, 21, .inl (fun _ => 0))), (q7, .inl (Z.2.1, 10, .inl (fun _ => 0))), (q8, .inl (Z.2.1, 10, .inl (fun _ => 0))), (q9, .inl (Z.2.1, 21, .inl (fun _ => 0)))]) kW_X7 tyX7_ok nmX7 hw 0 rfl rfl 21 (by decide) kF_X7_34 rfl rfl rfl rfl (Nat.le_of_ble_eq_true rfl) rfl dX7_init_77 (fun H locs hw => ?_)
  refine r_aload_n E hl 0 rfl dX7_init_80 rfl ?_
  refine r_bipush E (10) dX7_init_81 (by decide) ?_
  refine r_newaI E hw 10 (by decide) (by decide) (by decide) ⟨Nat.le_of_ble_eq_true rfl, Nat.le_of_ble_eq_true rfl⟩ dX7_init_83 (fun q10 H hw => ?_)
  replace hw : zW Z A ([(h0, .inr (6, [.int 0, .ref q1, .ref q2, .int 0, .ref q3, .ref q4, .ref q5, .int 0, .ref q6, .int 0, .int 0, .int 0, .int 0, .int 0, .int 0, .int 0, .long 0, .int 0, .ref q7, .ref q8, .int 0, .ref q9, .int 0, .int 0, .null])), (q1, .inl (Z.2.1, 1557, .inl (fun _ => 0))), (q2, .inl (Z.2.1, 7785, .inl (fun _ => 0))), (q3, .inl (Z.2.1, 1557, .inl (fun _ => 0))), (q4, .inl (Z.2.1, 1557, .inl (fun _ => 0))), (q5, .inl (Z.2.1, 120, .inl (fun _ => 0))), (q6, .inl (Z.2.1, 21, .inl (fun _ => 0))), (q7, .inl (Z.2.1, 10, .inl (fun _ => 0))), (q8, .inl (Z.2.1, 10, .inl (fun _ => 0))), (q9, .inl (Z.2.1, 21, .inl (fun _ => 0))), (q10, .inl (Z.2.1, 10, .inl (fun _ => 0)))]) s.heap H _ := hw
  refine r_putF E hin ([(h0, .inr (6, [.int 0, .ref q1, .ref q2, .int 0, .ref q3, .ref q4, .ref q5, .int 0, .ref q6, .int 0, .int 0, .int 0, .int 0, .int 0, .int 0, .int 0, .long 0, .int 0, .ref q7, .ref q8, .int 0, .ref q9, .int 0, .int 0, .ref q10])), (q1, .inl (Z.2.1, 1557, .inl (fun _ => 0))), (q2, .inl (Z.2.1, 7785, .inl (fun _ => 0))), (q3, .inl (Z.2.1, 1557, .inl (fun _ => 0))), (q4, .inl (Z.2.1, 1557, .inl (fun _ => 0))), (q5, .inl (Z.2.1, 120, .inl (fun _ => 0))), (q6, .inl (Z.2.1, 21, .inl (fun _ => 0))), (q7, .inl (Z.2.1, 10, .inl (fun _ => 0))), (q8, .inl (Z.2.1, 10, .inl (fun _ => 0))), (q9, .inl (Z.2.1, 21, .inl (fun _ => 0))), (q10, .inl (Z.2.1, 10, .inl (fun _ => 0)))]) kW_X7 tyX7_ok nmX7 hw 0 rfl rfl 24 (by decide) kF_X7_37 rfl rfl rfl rfl (Nat.le_of_ble_eq_true rfl) rfl dX7_init_85 (fun H locs hw => ?_)
  refine r_aload_n E hl 0 rfl dX7_init_88 rfl ?_
  refine r_iconst E (0) dX7_init_89 (by decide) ?_
  refine r_put E ([(h0, .inr (6, [.int (0 : Int32), .ref q1, .ref q2, .int 0, .ref q3, .ref q4, .ref q5, .int 0, .ref q6, .int 0, .int 0, .int 0, .int 0, .int 0, .int 0, .int 0, .long 0, .int 0, .ref q7, .ref q8, .int 0, .ref q9, .int 0, .int 0, .ref q10])), (q1, .inl (Z.2.1, 1557, .inl (fun _ => 0))), (q2, .inl (Z.2.1, 7785, .inl (fun _ => 0))), (q3, .inl (Z.2.1, 1557, .inl (fun _ => 0))), (q4, .inl (Z.2.1, 1557, .inl (fun _ => 0))), (q5, .inl (Z.2.1, 120, .inl (fun _ => 0))), (q6, .inl (Z.2.1, 21, .inl (fun _ => 0))), (q7, .inl (Z.2.1, 10, .inl (fun _ => 0))), (q8, .inl (Z.2.1, 10, .inl (fun _ => 0))), (q9, .inl (Z.2.1, 21, .inl (fun _ => 0))), (q10, .inl (Z.2.1, 10, .inl (fun _ => 0)))]) kW_X7 tyX7_ok nmX7 hw 0 rfl rfl 0 (by decide) kF_X7_40 rfl rfl rfl (Nat.le_of_ble_eq_true rfl) rfl dX7_init_90 (fun H locs hw => ?_)
  exact r_cret (Wf := fun u => oX7 Z u) E (fun k => ([h0, q1, q2, q3, q4, q5, q6, q7, q8, q9, q10] : List Nat).getD k 0) rfl hw dX7_init_93
abbrev zNet0 : zNet := (0, 0, 0, 0, fun _ => 0, fun _ => 0, fun _ => 0, fun _ => 0, fun _ => 0, fun _ => 0, fun _ => 0, fun _ => 0, fun _ => 0)
abbrev oX6 (Z : zT) (ho : Nat) (u : Nat × (Nat → Nat) × (Nat → Nat) × (Nat → Nat) × (Nat → Nat) × (Nat → Nat) × (Nat → Nat) × (Nat → Nat) × (Nat → Option Nat) × (Nat → Nat → Nat)) : va_W := wX6 Z ho u.1 u.2.1 u.2.2.1 u.2.2.2.1 u.2.2.2.2.1 u.2.2.2.2.2.1 u.2.2.2.2.2.2.1 u.2.2.2.2.2.2.2.1 0 0 ++ oX3 Z u.2.1 ++ oX3 Z u.2.2.1 ++ oX5 Z u.2.2.2.1 ++ oX1 Z u.2.2.2.2.1 ++ oX2 Z u.2.2.2.2.2.1 ++ oX4 Z u.2.2.2.2.2.2.1 ++ oX4 Z u.2.2.2.2.2.2.2.1 ++ wH Z u.1 u.2.2.2.2.2.2.2.2.1 u.2.2.2.2.2.2.2.2.2 (fun _ => zNet0)
set_option maxRecDepth 100000 in
set_option maxHeartbeats 4000000 in
theorem nX6_init (l : Launch) (Z : zT) (sz : Nat) (h0 : Nat) : Met l yX6_init (Cond.code yX6_init cX6_init 2 none :: zWs) { frames := 2, cells := 86, slots := 4012, locals := 32 } (zP Z [(h0, .inr (5, [.null, .null, .null, .int 0, .null, .null, .null, .null, .null, .int 0]))] sz [.ref h0]) (zQs Z (fun u : Nat × (Nat → Nat) × (Nat → Nat) × (Nat → Nat) × (Nat → Nat) × (Nat → Nat) × (Nat → Nat) × (Nat → Nat) × (Nat → Option Nat) × (Nat → Nat → Nat) => ∀ k, k < 5 → u.2.2.2.2.2.2.2.2.1 k = some (u.2.2.2.2.2.2.2.2.2 k 0)) (fun u => oX6 Z h0 u) (va_A [(h0, .inr (5, [.null, .null, .null, .int 0, .null, .null, .null, .null, .null, .int 0]))] sz)) 86 4012 (va_A [(h0, .inr (5, [.null, .null, .null, .int 0, .null, .null, .null, .null, .null, .int 0]))] sz) := by
  refine zMetI (own := RX6) (fun A => zQs Z (fun u : Nat × (Nat → Nat) × (Nat → Nat) × (Nat → Nat) × (Nat → Nat) × (Nat → Nat) × (Nat → Nat) × (Nat → Nat) × (Nat → Option Nat) × (Nat → Nat → Nat) => ∀ k, k < 5 → u.2.2.2.2.2.2.2.2.1 k = some (u.2.2.2.2.2.2.2.2.2 k 0)) (fun u => oX6 Z h0 u) A) (by decide) rfl rfl (Nat.le_of_ble_eq_true rfl) ?_
  intro p e s m args below meth c ls A hin E hw hl
  refine r_aload_n E hl 0 rfl dX6_init_0 rfl ?_
  refine r_objInit E hl kL_X6_3 dX6_init_1 ⟨Nat.le_of_ble_eq_true rfl, Nat.le_of_ble_eq_true rfl⟩ ?_
  refine r_aload_n E hl 0 rfl dX6_init_4 rfl ?_
  refine r_new (ci := 2) E hw [.int 0, .int 0, .int 0, .int 0, .null, .null, .null, .null, .null, .null, .null, .null, .null] kW_X3 tyX3_ok kK_X6_9 kO_X3 kN_X3 rfl (fun j hj => by rcases (show j = 0 ∨ j = 1 ∨ j = 2 ∨ j = 3 ∨ j = 4 ∨ j = 5 ∨ j = 6 ∨ j = 7 ∨ j = 8 ∨ j = 9 ∨ j = 10 ∨ j = 11 ∨ j = 12 by omega) with rfl | rfl | rfl | rfl | rfl | rfl | rfl | rfl | rfl | rfl | rfl | rfl | rfl <;> rfl) ⟨Nat.le_of_ble_eq_true rfl, Nat.le_of_ble_eq_true rfl⟩ dX6_init_5 (fun q1 H hw => ?_)
  refine r_dup E dX6_init_8 rfl ?_
  refine r_callIN E ([(h0, .inr (5, [.null, .null, .null, .int 0, .null, .null, .null, .null, .null, .int 0]))]) hw (nX3_init l Z _ q1) E.2.2.2.2.1.2.2.2.2.2.2.2.1 kI_X3_init kN_X3 kC_X3_init rfl rfl rfl hdX3_init ⟨Nat.le_of_ble_eq_true rfl, Nat.le_of_ble_eq_true rfl⟩ hl (Nat.le_of_ble_eq_true rfl) dX6_init_9 ⟨Nat.le_of_ble_eq_true rfl, Nat.le_of_ble_eq_true rfl⟩ (fun u2 H locs hu2 hw => ?_)
  revert hw
  subst hu2
  intro hw
  replace hw : zW Z A ([(h0, .inr (5, [.null, .null, .null, .int 0, .null, .null, .null, .null, .null, .int 0]))] ++ oX3 Z u2) s.heap H locs := hw
  refine r_putF E hin (([(h0, .inr (5, [.ref (u2 0), .null, .null, .int 0, .null, .null, .null, .null, .null, .int 0]))] ++ oX3 Z u2)) kW_X6 tyX6_ok nmX6 hw 0 rfl rfl 0 (by decide) kF_X6_12 rfl rfl rfl rfl (Nat.le_of_ble_eq_true rfl) rfl dX6_init_12 (fun H locs hw => ?_)
  refine r_aload_n E hl 0 rfl dX6_init_15 rfl ?_
  refine r_new (ci := 2) E hw [.int 0, .int 0, .int 0, .int 0, .null, .null, .null, .null, .null, .null, .null, .null, .null] kW_X3 tyX3_ok kK_X6_9 kO_X3 kN_X3 rfl (fun j hj => by rcases (show j = 0 ∨ j = 1 ∨ j = 2 ∨ j = 3 ∨ j = 4 ∨ j = 5 ∨ j = 6 ∨ j = 7 ∨ j = 8 ∨ j = 9 ∨ j = 10 ∨ j = 11 ∨ j = 12 by omega) with rfl | rfl | rfl | rfl | rfl | rfl | rfl | rfl | rfl | rfl | rfl | rfl | rfl <;> rfl) ⟨Nat.le_of_ble_eq_true rfl, Nat.le_of_ble_eq_true rfl⟩ dX6_init_16 (fun q3 H hw => ?_)
  refine r_dup E dX6_init_19 rfl ?_
  refine r_callIN E ([(h0, .inr (5, [.ref (u2 0), .null, .null, .int 0, .null, .null, .null, .null, .null, .int 0]))] ++ oX3 Z u2) hw (nX3_init l Z _ q3) E.2.2.2.2.1.2.2.2.2.2.2.2.1 kI_X3_init kN_X3 kC_X3_init rfl rfl rfl hdX3_init ⟨Nat.le_of_ble_eq_true rfl, Nat.le_of_ble_eq_true rfl⟩ hl (Nat.le_of_ble_eq_true rfl) dX6_init_20 ⟨Nat.le_of_ble_eq_true rfl, Nat.le_of_ble_eq_true rfl⟩ (fun u4 H locs hu4 hw => ?_)
  revert hw
  subst hu4
  intro hw
  replace hw : zW Z A ([(h0, .inr (5, [.ref (u2 0), .null, .null, .int 0, .null, .null, .null, .null, .null, .int 0]))] ++ oX3 Z u2 ++ oX3 Z u4) s.heap H locs := hw
  refine r_putF E hin (([(h0, .inr (5, [.ref (u2 0), .ref (u4 0), .null, .int 0, .null, .null, .null, .null, .null, .int 0]))] ++ oX3 Z u2 ++ oX3 Z u4)) kW_X6 tyX6_ok nmX6 hw 0 rfl rfl 1 (by decide) kF_X6_16 rfl rfl rfl rfl (Nat.le_of_ble_eq_true rfl) rfl dX6_init_23 (fun H locs hw => ?_)
  refine r_aload_n E hl 0 rfl dX6_init_26 rfl ?_
  refine r_iconst E (5) dX6_init_27 (by decide) ?_
  refine r_anewa E hw 5 (by decide) (by decide) (by decide) ⟨Nat.le_of_ble_eq_true rfl, Nat.le_of_ble_eq_true rfl⟩ kK_X6_9 dX6_init_28 (fun q5 H hw => ?_)
  replace hw : zW Z A ([(h0, .inr (5, [.ref (u2 0), .ref (u4 0), .null, .int 0, .null, .null, .null, .null, .null, .int 0]))] ++ oX3 Z u2 ++ oX3 Z u4 ++ wHa Z q5 (fun _ => none)) s.heap H _ := hw
  refine r_putF E hin (([(h0, .inr (5, [.ref (u2 0), .ref (u4 0), .ref q5, .int 0, .null, .null, .null, .null, .null, .int 0]))] ++ oX3 Z u2 ++ oX3 Z u4 ++ wHa Z q5 (fun _ => none))) kW_X6 tyX6_ok nmX6 hw 0 rfl rfl 2 (by decide) kF_X6_19 rfl rfl rfl rfl (Nat.le_of_ble_eq_true rfl) rfl dX6_init_31 (fun H locs hw => ?_)
  refine r_aload_n E hl 0 rfl dX6_init_34 rfl ?_
  refine r_iconst E (0) dX6_init_35 (by decide) ?_
  refine r_put E (([(h0, .inr (5, [.ref (u2 0), .ref (u4 0), .ref q5, .int (0 : Int32), .null, .null, .null, .null, .null, .int 0]))] ++ oX3 Z u2 ++ oX3 Z u4 ++ wHa Z q5 (fun _ => none))) kW_X6 tyX6_ok nmX6 hw 0 rfl rfl 3 (by decide) kF_X6_23 rfl rfl rfl (Nat.le_of_ble_eq_true rfl) rfl dX6_init_36 (fun H locs hw => ?_)
  refine r_aload_n E hl 0 rfl dX6_init_39 rfl ?_
  refine r_new (ci := 4) E hw [.null, .int 0, .int 0, .int 0, .int 0, .int 0, .int 0, .int 0, .int 0, .int 0] kW_X5 tyX5_ok kK_X6_27 kO_X5 kN_X5 rfl (fun j hj => by rcases (show j = 0 ∨ j = 1 ∨ j = 2 ∨ j = 3 ∨ j = 4 ∨ j = 5 ∨ j = 6 ∨ j = 7 ∨ j = 8 ∨ j = 9 by omega) with rfl | rfl | rfl | rfl | rfl | rfl | rfl | rfl | rfl | rfl <;> rfl) ⟨Nat.le_of_ble_eq_true rfl, Nat.le_of_ble_eq_true rfl⟩ dX6_init_40 (fun q6 H hw => ?_)
  refine r_dup E dX6_init_43 rfl ?_
  refine r_callIN E ([(h0, .inr (5, [.ref (u2 0), .ref (u4 0), .ref q5, .int (0 : Int32), .null, .null, .null, .null, .null, .int 0]))] ++ oX3 Z u2 ++ oX3 Z u4 ++ wHa Z q5 (fun _ => none)) hw (nX5_init l Z _ q6) E.2.2.2.2.1.2.2.2.2.2.2.2.2.1 kI_X5_init kN_X5 kC_X5_init rfl rfl rfl hdX5_init ⟨Nat.le_of_ble_eq_true rfl, Nat.le_of_ble_eq_true rfl⟩ hl (Nat.le_of_ble_eq_true rfl) dX6_init_44 ⟨Nat.le_of_ble_eq_true rfl, Nat.le_of_ble_eq_true rfl⟩ (fun u7 H locs hu7 hw => ?_)
  revert hw
  subst hu7
  intro hw
  replace hw : zW Z A ([(h0, .inr (5, [.ref (u2 0), .ref (u4 0), .ref q5, .int (0 : Int32), .null, .null, .null, .null, .null, .int 0]))] ++ oX3 Z u2 ++ oX3 Z u4 ++ wHa Z q5 (fun _ => none) ++ oX5 Z u7) s.heap H locs := hw
  refine r_putF E hin (([(h0, .inr (5, [.ref (u2 0), .ref (u4 0), .ref q5, .int (0 : Int32), .ref (u7 0), .null, .null, .null, .null, .int 0]))] ++ oX3 Z u2 ++ oX3 Z u4 ++ wHa Z q5 (fun _ => none) ++ oX5 Z u7)) kW_X6 tyX6_ok nmX6 hw 0 rfl rfl 4 (by decide) kF_X6_30 rfl rfl rfl rfl (Nat.le_of_ble_eq_true rfl) rfl dX6_init_47 (fun H locs hw => ?_)
  refine r_aload_n E hl 0 rfl dX6_init_50 rfl ?_
  refine r_new (ci := 0) E hw [.null, .null] kW_X1 tyX1_ok kK_X6_34 kO_X1 kN_X1 rfl (fun j hj => by rcases (show j = 0 ∨ j = 1 by omega) with rfl | rfl <;> rfl) ⟨Nat.le_of_ble_eq_true rfl, Nat.le_of_ble_eq_true rfl⟩ dX6_init_51 (fun q8 H hw => ?_)
  refine r_dup E dX6_init_54 rfl ?_
  refine r_callIN E ([(h0, .inr (5, [.ref (u2 0), .ref (u4 0), .ref q5, .int (0 : Int32), .ref (u7 0), .null, .null, .null, .null, .int 0]))] ++ oX3 Z u2 ++ oX3 Z u4 ++ wHa Z q5 (fun _ => none) ++ oX5 Z u7) hw (nX1_init l Z _ q8) E.2.2.2.2.1.2.2.2.2.2.2.2.2.2.1 kI_X1_init kN_X1 kC_X1_init rfl rfl rfl hdX1_init ⟨Nat.le_of_ble_eq_true rfl, Nat.le_of_ble_eq_true rfl⟩ hl (Nat.le_of_ble_eq_true rfl) dX6_init_55 ⟨Nat.le_of_ble_eq_true rfl, Nat.le_of_ble_eq_true rfl⟩ (fun u9 H locs hu9 hw => ?_)
  revert hw
  subst hu9
  intro hw
  replace hw : zW Z A ([(h0, .inr (5, [.ref (u2 0), .ref (u4 0), .ref q5, .int (0 : Int32), .ref (u7 0), .null, .null, .null, .null, .int 0]))] ++ oX3 Z u2 ++ oX3 Z u4 ++ wHa Z q5 (fun _ => none) ++ oX5 Z u7 ++ oX1 Z u9) s.heap H locs := hw
  refine r_putF E hin (([(h0, .inr (5, [.ref (u2 0), .ref (u4 0), .ref q5, .int (0 : Int32), .ref (u7 0), .ref (u9 0), .null, .null, .null, .int 0]))] ++ oX3 Z u2 ++ oX3 Z u4 ++ wHa Z q5 (fun _ => none) ++ oX5 Z u7 ++ oX1 Z u9)) kW_X6 tyX6_ok nmX6 hw 0 rfl rfl 5 (by decide) kF_X6_37 rfl rfl rfl rfl (Nat.le_of_ble_eq_true rfl) rfl dX6_init_58 (fun H locs hw => ?_)
  refine r_aload_n E hl 0 rfl dX6_init_61 rfl ?_
  refine r_new (ci := 1) E hw [.int 0, .int 0, .null, .null, .null, .null, .null] kW_X2 tyX2_ok kK_X6_41 kO_X2 kN_X2 rfl (fun j hj => by rcases (show j = 0 ∨ j = 1 ∨ j = 2 ∨ j = 3 ∨ j = 4 ∨ j = 5 ∨ j = 6 by omega) with rfl | rfl | rfl | rfl | rfl | rfl | rfl <;> rfl) ⟨Nat.le_of_ble_eq_true rfl, Nat.le_of_ble_eq_true rfl⟩ dX6_init_62 (fun q10 H hw => ?_)
  refine r_dup E dX6_init_65 rfl ?_
  refine r_callIN E ([(h0, .inr (5, [.ref (u2 0), .ref (u4 0), .ref q5, .int (0 : Int32), .ref (u7 0), .ref (u9 0), .null, .null, .null, .int 0]))] ++ oX3 Z u2 ++ oX3 Z u4 ++ wHa Z q5 (fun _ => none) ++ oX5 Z u7 ++ oX1 Z u9) hw (nX2_init l Z _ q10) E.2.2.2.2.1.2.2.2.2.2.2.2.2.2.2.1 kI_X2_init kN_X2 kC_X2_init rfl rfl rfl hdX2_init ⟨Nat.le_of_ble_eq_true rfl, Nat.le_of_ble_eq_true rfl⟩ hl (Nat.le_of_ble_eq_true rfl) dX6_init_66 ⟨Nat.le_of_ble_eq_true rfl, Nat.le_of_ble_eq_true rfl⟩ (fun u11 H locs hu11 hw => ?_)
  revert hw
  subst hu11
  intro hw
  replace hw : zW Z A ([(h0, .inr (5, [.ref (u2 0), .ref (u4 0), .ref q5, .int (0 : Int32), .ref (u7 0), .ref (u9 0), .null, .null, .null, .int 0]))] ++ oX3 Z u2 ++ oX3 Z u4 ++ wHa Z q5 (fun _ => none) ++ oX5 Z u7 ++ oX1 Z u9 ++ oX2 Z u11) s.heap H locs := hw
  refine r_putF E hin (([(h0, .inr (5, [.ref (u2 0), .ref (u4 0), .ref q5, .int (0 : Int32), .ref (u7 0), .ref (u9 0), .ref (u11 0), .null, .null, .int 0]))] ++ oX3 Z u2 ++ oX3 Z u4 ++ wHa Z q5 (fun _ => none) ++ oX5 Z u7 ++ oX1 Z u9 ++ oX2 Z u11)) kW_X6 tyX6_ok nmX6 hw 0 rfl rfl 6 (by decide) kF_X6_44 rfl rfl rfl rfl (Nat.le_of_ble_eq_true rfl) rfl dX6_init_69 (fun H locs hw => ?_)
  refine r_aload_n E hl 0 rfl dX6_init_72 rfl ?_
  refine r_new (ci := 3) E hw [.int 0, .int 0, .null, .int 0, .int 0, .int 0] kW_X4 tyX4_ok kK_X6_48 kO_X4 kN_X4 rfl (fun j hj => by rcases (show j = 0 ∨ j = 1 ∨ j = 2 ∨ j = 3 ∨ j = 4 ∨ j = 5 by omega) with rfl | rfl | rfl | rfl | rfl | rfl <;> rfl) ⟨Nat.le_of_ble_eq_true rfl, Nat.le_of_ble_eq_true rfl⟩ dX6_init_73 (fun q12 H hw => ?_)
  refine r_dup E dX6_init_76 rfl ?_
  refine r_callIN E ([(h0, .inr (5, [.ref (u2 0), .ref (u4 0), .ref q5, .int (0 : Int32), .ref (u7 0), .ref (u9 0), .ref (u11 0), .null, .null, .int 0]))] ++ oX3 Z u2 ++ oX3 Z u4 ++ wHa Z q5 (fun _ => none) ++ oX5 Z u7 ++ oX1 Z u9 ++ oX2 Z u11) hw (nX4_init l Z _ q12) E.2.2.2.2.1.2.2.2.2.2.2.2.2.2.2.2.1 kI_X4_init kN_X4 kC_X4_init rfl rfl rfl hdX4_init ⟨Nat.le_of_ble_eq_true rfl, Nat.le_of_ble_eq_true rfl⟩ hl (Nat.le_of_ble_eq_true rfl) dX6_init_77 ⟨Nat.le_of_ble_eq_true rfl, Nat.le_of_ble_eq_true rfl⟩ (fun u13 H locs hu13 hw => ?_)
  revert hw
  subst hu13
  intro hw
  replace hw : zW Z A ([(h0, .inr (5, [.ref (u2 0), .ref (u4 0), .ref q5, .int (0 : Int32), .ref (u7 0), .ref (u9 0), .ref (u11 0), .null, .null, .int 0]))] ++ oX3 Z u2 ++ oX3 Z u4 ++ wHa Z q5 (fun _ => none) ++ oX5 Z u7 ++ oX1 Z u9 ++ oX2 Z u11 ++ oX4 Z u13) s.heap H locs := hw
  refine r_putF E hin (([(h0, .inr (5, [.ref (u2 0), .ref (u4 0), .ref q5, .int (0 : Int32), .ref (u7 0), .ref (u9 0), .ref (u11 0), .ref (u13 0), .null, .int 0]))] ++ oX3 Z u2 ++ oX3 Z u4 ++ wHa Z q5 (fun _ => none) ++ oX5 Z u7 ++ oX1 Z u9 ++ oX2 Z u11 ++ oX4 Z u13)) kW_X6 tyX6_ok nmX6 hw 0 rfl rfl 7 (by decide) kF_X6_51 rfl rfl rfl rfl (Nat.le_of_ble_eq_true rfl) rfl dX6_init_80 (fun H locs hw => ?_)
  refine r_aload_n E hl 0 rfl dX6_init_83 rfl ?_
  refine r_new (ci := 3) E hw [.int 0, .int 0, .null, .int 0, .int 0, .int 0] kW_X4 tyX4_ok kK_X6_48 kO_X4 kN_X4 rfl (fun j hj => by rcases (show j = 0 ∨ j = 1 ∨ j = 2 ∨ j = 3 ∨ j = 4 ∨ j = 5 by omega) with rfl | rfl | rfl | rfl | rfl | rfl <;> rfl) ⟨Nat.le_of_ble_eq_true rfl, Nat.le_of_ble_eq_true rfl⟩ dX6_init_84 (fun q14 H hw => ?_)
  refine r_dup E dX6_init_87 rfl ?_
  refine r_callIN E ([(h0, .inr (5, [.ref (u2 0), .ref (u4 0), .ref q5, .int (0 : Int32), .ref (u7 0), .ref (u9 0), .ref (u11 0), .ref (u13 0), .null, .int 0]))] ++ oX3 Z u2 ++ oX3 Z u4 ++ wHa Z q5 (fun _ => none) ++ oX5 Z u7 ++ oX1 Z u9 ++ oX2 Z u11 ++ oX4 Z u13) hw (nX4_init l Z _ q14) E.2.2.2.2.1.2.2.2.2.2.2.2.2.2.2.2.1 kI_X4_init kN_X4 kC_X4_init rfl rfl rfl hdX4_init ⟨Nat.le_of_ble_eq_true rfl, Nat.le_of_ble_eq_true rfl⟩ hl (Nat.le_of_ble_eq_true rfl) dX6_init_88 ⟨Nat.le_of_ble_eq_true rfl, Nat.le_of_ble_eq_true rfl⟩ (fun u15 H locs hu15 hw => ?_)
  revert hw
  subst hu15
  intro hw
  replace hw : zW Z A ([(h0, .inr (5, [.ref (u2 0), .ref (u4 0), .ref q5, .int (0 : Int32), .ref (u7 0), .ref (u9 0), .ref (u11 0), .ref (u13 0), .null, .int 0]))] ++ oX3 Z u2 ++ oX3 Z u4 ++ wHa Z q5 (fun _ => none) ++ oX5 Z u7 ++ oX1 Z u9 ++ oX2 Z u11 ++ oX4 Z u13 ++ oX4 Z u15) s.heap H locs := hw
  refine r_putF E hin (([(h0, .inr (5, [.ref (u2 0), .ref (u4 0), .ref q5, .int (0 : Int32), .ref (u7 0), .ref (u9 0), .ref (u11 0), .ref (u13 0), .ref (u15 0), .int 0]))] ++ oX3 Z u2 ++ oX3 Z u4 ++ wHa Z q5 (fun _ => none) ++ oX5 Z u7 ++ oX1 Z u9 ++ oX2 Z u11 ++ oX4 Z u13 ++ oX4 Z u15)) kW_X6 tyX6_ok nmX6 hw 0 rfl rfl 8 (by decide) kF_X6_55 rfl rfl rfl rfl (Nat.le_of_ble_eq_true rfl) rfl dX6_init_91 (fun H locs hw => ?_)
  refine r_aload_n E hl 0 rfl dX6_init_94 rfl ?_
  refine r_iconst E (0) dX6_init_95 (by decide) ?_
  refine r_put E (([(h0, .inr (5, [.ref (u2 0), .ref (u4 0), .ref q5, .int (0 : Int32), .ref (u7 0), .ref (u9 0), .ref (u11 0), .ref (u13 0), .ref (u15 0), .int (0 : Int32)]))] ++ oX3 Z u2 ++ oX3 Z u4 ++ wHa Z q5 (fun _ => none) ++ oX5 Z u7 ++ oX1 Z u9 ++ oX2 Z u11 ++ oX4 Z u13 ++ oX4 Z u15)) kW_X6 tyX6_ok nmX6 hw 0 rfl rfl 9 (by decide) kF_X6_58 rfl rfl rfl (Nat.le_of_ble_eq_true rfl) rfl dX6_init_96 (fun H locs hw => ?_)
  refine r_iconst E (0) dX6_init_99 (by decide) ?_
  refine r_istore_n E [(1, .int (0 : Int32)), (0, .ref h0)] hl dX6_init_100 rfl (by decide) rfl (fun ls hl => ?_)
  refine r_iload_n E hl 0 rfl dX6_init_101 rfl ?_
  refine r_iconst E (5) dX6_init_102 (by decide) ?_
  refine r_icmp_ge E 125 dX6_init_103 (by decide) (fun hx => absurd hx (by decide)) (fun _ => ?_)
  refine r_aload_n E hl 1 rfl dX6_init_106 rfl ?_
  refine r_get E kW_X6 hw 0 rfl rfl 2 (by decide) kF_X6_19 rfl dX6_init_107 ?_
  refine r_iload_n E hl 0 rfl dX6_init_110 rfl ?_
  refine r_new (ci := 2) E hw [.int 0, .int 0, .int 0, .int 0, .null, .null, .null, .null, .null, .null, .null, .null, .null] kW_X3 tyX3_ok kK_X6_9 kO_X3 kN_X3 rfl (fun j hj => by rcases (show j = 0 ∨ j = 1 ∨ j = 2 ∨ j = 3 ∨ j = 4 ∨ j = 5 ∨ j = 6 ∨ j = 7 ∨ j = 8 ∨ j = 9 ∨ j = 10 ∨ j = 11 ∨ j = 12 by omega) with rfl | rfl | rfl | rfl | rfl | rfl | rfl | rfl | rfl | rfl | rfl | rfl | rfl <;> rfl) ⟨Nat.le_of_ble_eq_true rfl, Nat.le_of_ble_eq_true rfl⟩ dX6_init_111 (fun q16 H hw => ?_)
  refine r_dup E dX6_init_114 rfl ?_
  refine r_callIN E ([(h0, .inr (5, [.ref (u2 0), .ref (u4 0), .ref q5, .int (0 : Int32), .ref (u7 0), .ref (u9 0), .ref (u11 0), .ref (u13 0), .ref (u15 0), .int (0 : Int32)]))] ++ oX3 Z u2 ++ oX3 Z u4 ++ wHa Z q5 (fun _ => none) ++ oX5 Z u7 ++ oX1 Z u9 ++ oX2 Z u11 ++ oX4 Z u13 ++ oX4 Z u15) hw (nX3_init l Z _ q16) E.2.2.2.2.1.2.2.2.2.2.2.2.1 kI_X3_init kN_X3 kC_X3_init rfl rfl rfl hdX3_init ⟨Nat.le_of_ble_eq_true rfl, Nat.le_of_ble_eq_true rfl⟩ hl (Nat.le_of_ble_eq_true rfl) dX6_init_115 ⟨Nat.le_of_ble_eq_true rfl, Nat.le_of_ble_eq_true rfl⟩ (fun u17 H locs hu17 hw => ?_)
  revert hw
  subst hu17
  intro hw
  replace hw : zW Z A ([(h0, .inr (5, [.ref (u2 0), .ref (u4 0), .ref q5, .int (0 : Int32), .ref (u7 0), .ref (u9 0), .ref (u11 0), .ref (u13 0), .ref (u15 0), .int (0 : Int32)]))] ++ oX3 Z u2 ++ oX3 Z u4 ++ wHa Z q5 (fun _ => none) ++ oX5 Z u7 ++ oX1 Z u9 ++ oX2 Z u11 ++ oX4 Z u13 ++ oX4 Z u15 ++ oX3 Z u17) s.heap H locs := hw
  refine r_aast E ([(h0, .inr (5, [.ref (u2 0), .ref (u4 0), .ref q5, .int (0 : Int32), .ref (u7 0), .ref (u9 0), .ref (u11 0), .ref (u13 0), .ref (u15 0), .int (0 : Int32)]))] ++ oX3 Z u2 ++ oX3 Z u4 ++ wHa Z q5 (va_up (fun _ => none) 0 (some (u17 0))) ++ oX5 Z u7 ++ oX1 Z u9 ++ oX2 Z u11 ++ oX4 Z u13 ++ oX4 Z u15 ++ oX3 Z u17) hw 21 37 rfl rfl (by unfold vp_in; decide) 0 (by decide) rfl dX6_init_118 (fun H locs hw => ?_)
  refine r_iinc E 1 [(1, .int (1 : Int32)), (0, .ref h0)] hl (k := 0) rfl dX6_init_119 (by decide) (by decide) rfl (fun ls hl => ?_)
  refine r_goto E 101 dX6_init_122 (by decide) ?_
  refine r_iload_n E hl 0 rfl dX6_init_101 rfl ?_
  refine r_iconst E (5) dX6_init_102 (by decide) ?_
  refine r_icmp_ge E 125 dX6_init_103 (by decide) (fun hx => absurd hx (by decide)) (fun _ => ?_)
  refine r_aload_n E hl 1 rfl dX6_init_106 rfl ?_
  refine r_get E kW_X6 hw 0 rfl rfl 2 (by decide) kF_X6_19 rfl dX6_init_107 ?_
  refine r_iload_n E hl 0 rfl dX6_init_110 rfl ?_
  refine r_new (ci := 2) E hw [.int 0, .int 0, .int 0, .int 0, .null, .null, .null, .null, .null, .null, .null, .null, .null] kW_X3 tyX3_ok kK_X6_9 kO_X3 kN_X3 rfl (fun j hj => by rcases (show j = 0 ∨ j = 1 ∨ j = 2 ∨ j = 3 ∨ j = 4 ∨ j = 5 ∨ j = 6 ∨ j = 7 ∨ j = 8 ∨ j = 9 ∨ j = 10 ∨ j = 11 ∨ j = 12 by omega) with rfl | rfl | rfl | rfl | rfl | rfl | rfl | rfl | rfl | rfl | rfl | rfl | rfl <;> rfl) ⟨Nat.le_of_ble_eq_true rfl, Nat.le_of_ble_eq_true rfl⟩ dX6_init_111 (fun q18 H hw => ?_)
  refine r_dup E dX6_init_114 rfl ?_
  refine r_callIN E ([(h0, .inr (5, [.ref (u2 0), .ref (u4 0), .ref q5, .int (0 : Int32), .ref (u7 0), .ref (u9 0), .ref (u11 0), .ref (u13 0), .ref (u15 0), .int (0 : Int32)]))] ++ oX3 Z u2 ++ oX3 Z u4 ++ wHa Z q5 (va_up (fun _ => none) 0 (some (u17 0))) ++ oX5 Z u7 ++ oX1 Z u9 ++ oX2 Z u11 ++ oX4 Z u13 ++ oX4 Z u15 ++ oX3 Z u17) hw (nX3_init l Z _ q18) E.2.2.2.2.1.2.2.2.2.2.2.2.1 kI_X3_init kN_X3 kC_X3_init rfl rfl rfl hdX3_init ⟨Nat.le_of_ble_eq_true rfl, Nat.le_of_ble_eq_true rfl⟩ hl (Nat.le_of_ble_eq_true rfl) dX6_init_115 ⟨Nat.le_of_ble_eq_true rfl, Nat.le_of_ble_eq_true rfl⟩ (fun u19 H locs hu19 hw => ?_)
  revert hw
  subst hu19
  intro hw
  replace hw : zW Z A ([(h0, .inr (5, [.ref (u2 0), .ref (u4 0), .ref q5, .int (0 : Int32), .ref (u7 0), .ref (u9 0), .ref (u11 0), .ref (u13 0), .ref (u15 0), .int (0 : Int32)]))] ++ oX3 Z u2 ++ oX3 Z u4 ++ wHa Z q5 (va_up (fun _ => none) 0 (some (u17 0))) ++ oX5 Z u7 ++ oX1 Z u9 ++ oX2 Z u11 ++ oX4 Z u13 ++ oX4 Z u15 ++ oX3 Z u17 ++ oX3 Z u19) s.heap H locs := hw
  refine r_aast E ([(h0, .inr (5, [.ref (u2 0), .ref (u4 0), .ref q5, .int (0 : Int32), .ref (u7 0), .ref (u9 0), .ref (u11 0), .ref (u13 0), .ref (u15 0), .int (0 : Int32)]))] ++ oX3 Z u2 ++ oX3 Z u4 ++ wHa Z q5 (va_up (va_up (fun _ => none) 0 (some (u17 0))) 1 (some (u19 0))) ++ oX5 Z u7 ++ oX1 Z u9 ++ oX2 Z u11 ++ oX4 Z u13 ++ oX4 Z u15 ++ oX3 Z u17 ++ oX3 Z u19) hw 21 47 rfl rfl (by unfold vp_in; decide) 1 (by decide) rfl dX6_init_118 (fun H locs hw => ?_)
  refine r_iinc E 2 [(1, .int (2 : Int32)), (0, .ref h0)] hl (k := 0) rfl dX6_init_119 (by decide) (by decide) rfl (fun ls hl => ?_)
  refine r_goto E 101 dX6_init_122 (by decide) ?_
  refine r_iload_n E hl 0 rfl dX6_init_101 rfl ?_
  refine r_iconst E (5) dX6_init_102 (by decide) ?_
  refine r_icmp_ge E 125 dX6_init_103 (by decide) (fun hx => absurd hx (by decide)) (fun _ => ?_)
  refine r_aload_n E hl 1 rfl dX6_init_106 rfl ?_
  refine r_get E kW_X6 hw 0 rfl rfl 2 (by decide) kF_X6_19 rfl dX6_init_107 ?_
  refine r_iload_n E hl 0 rfl dX6_init_110 rfl ?_
  refine r_new (ci := 2) E hw [.int 0, .int 0, .int 0, .int 0, .null, .null, .null, .null, .null, .null, .null, .null, .null] kW_X3 tyX3_ok kK_X6_9 kO_X3 kN_X3 rfl (fun j hj => by rcases (show j = 0 ∨ j = 1 ∨ j = 2 ∨ j = 3 ∨ j = 4 ∨ j = 5 ∨ j = 6 ∨ j = 7 ∨ j = 8 ∨ j = 9 ∨ j = 10 ∨ j = 11 ∨ j = 12 by omega) with rfl | rfl | rfl | rfl | rfl | rfl | rfl | rfl | rfl | rfl | rfl | rfl | rfl <;> rfl) ⟨Nat.le_of_ble_eq_true rfl, Nat.le_of_ble_eq_true rfl⟩ dX6_init_111 (fun q20 H hw => ?_)
  refine r_dup E dX6_init_114 rfl ?_
  refine r_callIN E ([(h0, .inr (5, [.ref (u2 0), .ref (u4 0), .ref q5, .int (0 : Int32), .ref (u7 0), .ref (u9 0), .ref (u11 0), .ref (u13 0), .ref (u15 0), .int (0 : Int32)]))] ++ oX3 Z u2 ++ oX3 Z u4 ++ wHa Z q5 (va_up (va_up (fun _ => none) 0 (some (u17 0))) 1 (some (u19 0))) ++ oX5 Z u7 ++ oX1 Z u9 ++ oX2 Z u11 ++ oX4 Z u13 ++ oX4 Z u15 ++ oX3 Z u17 ++ oX3 Z u19) hw (nX3_init l Z _ q20) E.2.2.2.2.1.2.2.2.2.2.2.2.1 kI_X3_init kN_X3 kC_X3_init rfl rfl rfl hdX3_init ⟨Nat.le_of_ble_eq_true rfl, Nat.le_of_ble_eq_true rfl⟩ hl (Nat.le_of_ble_eq_true rfl) dX6_init_115 ⟨Nat.le_of_ble_eq_true rfl, Nat.le_of_ble_eq_true rfl⟩ (fun u21 H locs hu21 hw => ?_)
  revert hw
  subst hu21
  intro hw
  replace hw : zW Z A ([(h0, .inr (5, [.ref (u2 0), .ref (u4 0), .ref q5, .int (0 : Int32), .ref (u7 0), .ref (u9 0), .ref (u11 0), .ref (u13 0), .ref (u15 0), .int (0 : Int32)]))] ++ oX3 Z u2 ++ oX3 Z u4 ++ wHa Z q5 (va_up (va_up (fun _ => none) 0 (some (u17 0))) 1 (some (u19 0))) ++ oX5 Z u7 ++ oX1 Z u9 ++ oX2 Z u11 ++ oX4 Z u13 ++ oX4 Z u15 ++ oX3 Z u17 ++ oX3 Z u19 ++ oX3 Z u21) s.heap H locs := hw
  refine r_aast E ([(h0, .inr (5, [.ref (u2 0), .ref (u4 0), .ref q5, .int (0 : Int32), .ref (u7 0), .ref (u9 0), .ref (u11 0), .ref (u13 0), .ref (u15 0), .int (0 : Int32)]))] ++ oX3 Z u2 ++ oX3 Z u4 ++ wHa Z q5 (va_up (va_up (va_up (fun _ => none) 0 (some (u17 0))) 1 (some (u19 0))) 2 (some (u21 0))) ++ oX5 Z u7 ++ oX1 Z u9 ++ oX2 Z u11 ++ oX4 Z u13 ++ oX4 Z u15 ++ oX3 Z u17 ++ oX3 Z u19 ++ oX3 Z u21) hw 21 57 rfl rfl (by unfold vp_in; decide) 2 (by decide) rfl dX6_init_118 (fun H locs hw => ?_)
  refine r_iinc E 3 [(1, .int (3 : Int32)), (0, .ref h0)] hl (k := 0) rfl dX6_init_119 (by decide) (by decide) rfl (fun ls hl => ?_)
  refine r_goto E 101 dX6_init_122 (by decide) ?_
  refine r_iload_n E hl 0 rfl dX6_init_101 rfl ?_
  refine r_iconst E (5) dX6_init_102 (by decide) ?_
  refine r_icmp_ge E 125 dX6_init_103 (by decide) (fun hx => absurd hx (by decide)) (fun _ => ?_)
  refine r_aload_n E hl 1 rfl dX6_init_106 rfl ?_
  refine r_get E kW_X6 hw 0 rfl rfl 2 (by decide) kF_X6_19 rfl dX6_init_107 ?_
  refine r_iload_n E hl 0 rfl dX6_init_110 rfl ?_
  refine r_new (ci := 2) E hw [.int 0, .int 0, .int 0, .int 0, .null, .null, .null, .null, .null, .null, .null, .null, .null] kW_X3 tyX3_ok kK_X6_9 kO_X3 kN_X3 rfl (fun j hj => by rcases (show j = 0 ∨ j = 1 ∨ j = 2 ∨ j = 3 ∨ j = 4 ∨ j = 5 ∨ j = 6 ∨ j = 7 ∨ j = 8 ∨ j = 9 ∨ j = 10 ∨ j = 11 ∨ j = 12 by omega) with rfl | rfl | rfl | rfl | rfl | rfl | rfl | rfl | rfl | rfl | rfl | rfl | rfl <;> rfl) ⟨Nat.le_of_ble_eq_true rfl, Nat.le_of_ble_eq_true rfl⟩ dX6_init_111 (fun q22 H hw => ?_)
  refine r_dup E dX6_init_114 rfl ?_
  refine r_callIN E ([(h0, .inr (5, [.ref (u2 0), .ref (u4 0), .ref q5, .int (0 : Int32), .ref (u7 0), .ref (u9 0), .ref (u11 0), .ref (u13 0), .ref (u15 0), .int (0 : Int32)]))] ++ oX3 Z u2 ++ oX3 Z u4 ++ wHa Z q5 (va_up (va_up (va_up (fun _ => none) 0 (some (u17 0))) 1 (some (u19 0))) 2 (some (u21 0))) ++ oX5 Z u7 ++ oX1 Z u9 ++ oX2 Z u11 ++ oX4 Z u13 ++ oX4 Z u15 ++ oX3 Z u17 ++ oX3 Z u19 ++ oX3 Z u21) hw (nX3_init l Z _ q22) E.2.2.2.2.1.2.2.2.2.2.2.2.1 kI_X3_init kN_X3 kC_X3_init rfl rfl rfl hdX3_init ⟨Nat.le_of_ble_eq_true rfl, Nat.le_of_ble_eq_true rfl⟩ hl (Nat.le_of_ble_eq_true rfl) dX6_init_115 ⟨Nat.le_of_ble_eq_true rfl, Nat.le_of_ble_eq_true rfl⟩ (fun u23 H locs hu23 hw => ?_)
  revert hw
  subst hu23
  intro hw
  replace hw : zW Z A ([(h0, .inr (5, [.ref (u2 0), .ref (u4 0), .ref q5, .int (0 : Int32), .ref (u7 0), .ref (u9 0), .ref (u11 0), .ref (u13 0), .ref (u15 0), .int (0 : Int32)]))] ++ oX3 Z u2 ++ oX3 Z u4 ++ wHa Z q5 (va_up (va_up (va_up (fun _ => none) 0 (some (u17 0))) 1 (some (u19 0))) 2 (some (u21 0))) ++ oX5 Z u7 ++ oX1 Z u9 ++ oX2 Z u11 ++ oX4 Z u13 ++ oX4 Z u15 ++ oX3 Z u17 ++ oX3 Z u19 ++ oX3 Z u21 ++ oX3 Z u23) s.heap H locs := hw
  refine r_aast E ([(h0, .inr (5, [.ref (u2 0), .ref (u4 0), .ref q5, .int (0 : Int32), .ref (u7 0), .ref (u9 0), .ref (u11 0), .ref (u13 0), .ref (u15 0), .int (0 : Int32)]))] ++ oX3 Z u2 ++ oX3 Z u4 ++ wHa Z q5 (va_up (va_up (va_up (va_up (fun _ => none) 0 (some (u17 0))) 1 (some (u19 0))) 2 (some (u21 0))) 3 (some (u23 0))) ++ oX5 Z u7 ++ oX1 Z u9 ++ oX2 Z u11 ++ oX4 Z u13 ++ oX4 Z u15 ++ oX3 Z u17 ++ oX3 Z u19 ++ oX3 Z u21 ++ oX3 Z u23) hw 21 67 rfl rfl (by unfold vp_in; decide) 3 (by decide) rfl dX6_init_118 (fun H locs hw => ?_)
  refine r_iinc E 4 [(1, .int (4 : Int32)), (0, .ref h0)] hl (k := 0) rfl dX6_init_119 (by decide) (by decide) rfl (fun ls hl => ?_)
  refine r_goto E 101 dX6_init_122 (by decide) ?_
  refine r_iload_n E hl 0 rfl dX6_init_101 rfl ?_
  refine r_iconst E (5) dX6_init_102 (by decide) ?_
  refine r_icmp_ge E 125 dX6_init_103 (by decide) (fun hx => absurd hx (by decide)) (fun _ => ?_)
  refine r_aload_n E hl 1 rfl dX6_init_106 rfl ?_
  refine r_get E kW_X6 hw 0 rfl rfl 2 (by decide) kF_X6_19 rfl dX6_init_107 ?_
  refine r_iload_n E hl 0 rfl dX6_init_110 rfl ?_
  refine r_new (ci := 2) E hw [.int 0, .int 0, .int 0, .int 0, .null, .null, .null, .null, .null, .null, .null, .null, .null] kW_X3 tyX3_ok kK_X6_9 kO_X3 kN_X3 rfl (fun j hj => by rcases (show j = 0 ∨ j = 1 ∨ j = 2 ∨ j = 3 ∨ j = 4 ∨ j = 5 ∨ j = 6 ∨ j = 7 ∨ j = 8 ∨ j = 9 ∨ j = 10 ∨ j = 11 ∨ j = 12 by omega) with rfl | rfl | rfl | rfl | rfl | rfl | rfl | rfl | rfl | rfl | rfl | rfl | rfl <;> rfl) ⟨Nat.le_of_ble_eq_true rfl, Nat.le_of_ble_eq_true rfl⟩ dX6_init_111 (fun q24 H hw => ?_)
  refine r_dup E dX6_init_114 rfl ?_
  refine r_callIN E ([(h0, .inr (5, [.ref (u2 0), .ref (u4 0), .ref q5, .int (0 : Int32), .ref (u7 0), .ref (u9 0), .ref (u11 0), .ref (u13 0), .ref (u15 0), .int (0 : Int32)]))] ++ oX3 Z u2 ++ oX3 Z u4 ++ wHa Z q5 (va_up (va_up (va_up (va_up (fun _ => none) 0 (some (u17 0))) 1 (some (u19 0))) 2 (some (u21 0))) 3 (some (u23 0))) ++ oX5 Z u7 ++ oX1 Z u9 ++ oX2 Z u11 ++ oX4 Z u13 ++ oX4 Z u15 ++ oX3 Z u17 ++ oX3 Z u19 ++ oX3 Z u21 ++ oX3 Z u23) hw (nX3_init l Z _ q24) E.2.2.2.2.1.2.2.2.2.2.2.2.1 kI_X3_init kN_X3 kC_X3_init rfl rfl rfl hdX3_init ⟨Nat.le_of_ble_eq_true rfl, Nat.le_of_ble_eq_true rfl⟩ hl (Nat.le_of_ble_eq_true rfl) dX6_init_115 ⟨Nat.le_of_ble_eq_true rfl, Nat.le_of_ble_eq_true rfl⟩ (fun u25 H locs hu25 hw => ?_)
  revert hw
  subst hu25
  intro hw
  replace hw : zW Z A ([(h0, .inr (5, [.ref (u2 0), .ref (u4 0), .ref q5, .int (0 : Int32), .ref (u7 0), .ref (u9 0), .ref (u11 0), .ref (u13 0), .ref (u15 0), .int (0 : Int32)]))] ++ oX3 Z u2 ++ oX3 Z u4 ++ wHa Z q5 (va_up (va_up (va_up (va_up (fun _ => none) 0 (some (u17 0))) 1 (some (u19 0))) 2 (some (u21 0))) 3 (some (u23 0))) ++ oX5 Z u7 ++ oX1 Z u9 ++ oX2 Z u11 ++ oX4 Z u13 ++ oX4 Z u15 ++ oX3 Z u17 ++ oX3 Z u19 ++ oX3 Z u21 ++ oX3 Z u23 ++ oX3 Z u25) s.heap H locs := hw
  refine r_aast E ([(h0, .inr (5, [.ref (u2 0), .ref (u4 0), .ref q5, .int (0 : Int32), .ref (u7 0), .ref (u9 0), .ref (u11 0), .ref (u13 0), .ref (u15 0), .int (0 : Int32)]))] ++ oX3 Z u2 ++ oX3 Z u4 ++ wHa Z q5 (va_up (va_up (va_up (va_up (va_up (fun _ => none) 0 (some (u17 0))) 1 (some (u19 0))) 2 (some (u21 0))) 3 (some (u23 0))) 4 (some (u25 0))) ++ oX5 Z u7 ++ oX1 Z u9 ++ oX2 Z u11 ++ oX4 Z u13 ++ oX4 Z u15 ++ oX3 Z u17 ++ oX3 Z u19 ++ oX3 Z u21 ++ oX3 Z u23 ++ oX3 Z u25) hw 21 77 rfl rfl (by unfold vp_in; decide) 4 (by decide) rfl dX6_init_118 (fun H locs hw => ?_)
  refine r_iinc E 5 [(1, .int (5 : Int32)), (0, .ref h0)] hl (k := 0) rfl dX6_init_119 (by decide) (by decide) rfl (fun ls hl => ?_)
  refine r_goto E 101 dX6_init_122 (by decide) ?_
  refine r_iload_n E hl 0 rfl dX6_init_101 rfl ?_
  refine r_iconst E (5) dX6_init_102 (by decide) ?_
  refine r_icmp_ge E 125 dX6_init_103 (by decide) (fun _ => ?_) (fun hx => absurd hx (by decide))
  replace hw : zW Z A ((wX6 Z h0 q5 u2 u4 u7 u9 u11 u13 u15 0 0 ++ oX3 Z u2 ++ oX3 Z u4 ++ wHa Z q5 (va_up (va_up (va_up (va_up (va_up (fun _ => none) 0 (some (u17 0))) 1 (some (u19 0))) 2 (some (u21 0))) 3 (some (u23 0))) 4 (some (u25 0))) ++ oX5 Z u7 ++ oX1 Z u9 ++ oX2 Z u11 ++ oX4 Z u13 ++ oX4 Z u15 ++ oX3 Z u17 ++ oX3 Z u19 ++ oX3 Z u21 ++ oX3 Z u23 ++ oX3 Z u25)) s.heap H locs := hw
  replace hw := zW.sums (ws' := wX6 Z h0 q5 u2 u4 u7 u9 u11 u13 u15 0 0 ++ oX3 Z u2 ++ oX3 Z u4 ++ oX5 Z u7 ++ oX1 Z u9 ++ oX2 Z u11 ++ oX4 Z u13 ++ oX4 Z u15 ++ (wHa Z q5 (va_up (va_up (va_up (va_up (va_up (fun _ => none) 0 (some (u17 0))) 1 (some (u19 0))) 2 (some (u21 0))) 3 (some (u23 0))) 4 (some (u25 0))) ++ oX3 Z u17 ++ oX3 Z u19 ++ oX3 Z u21 ++ oX3 Z u23 ++ oX3 Z u25)) hw (fun f => by simp only [sf_app] <;> omega)
  exact r_cret (Wf := fun u => oX6 Z h0 u) E (q5, u2, u4, u7, u9, u11, u13, u15, (va_up (va_up (va_up (va_up (va_up (fun _ => none) 0 (some (u17 0))) 1 (some (u19 0))) 2 (some (u21 0))) 3 (some (u23 0))) 4 (some (u25 0))), (fun k => ([u17, u19, u21, u23, u25] : List (Nat → Nat)).getD k u17)) (fun k hk => by rcases (show k = 0 ∨ k = 1 ∨ k = 2 ∨ k = 3 ∨ k = 4 by omega) with rfl | rfl | rfl | rfl | rfl <;> rfl) hw dX6_init_125
