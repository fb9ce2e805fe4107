abbrev rmX5_fail : Room := { frames := 0, cells := 0, slots := 0, locals := 0 }

set_option maxRecDepth 100000 in
set_option maxHeartbeats 4000000 in
theorem mX5_fail (l : Launch) (Z : zT) (sz : Nat) (Ar : Nat → Nat) (r_text : (Nat → Int32)) (r_length : Int32) (r_start : Int32) (r_end : Int32) (r_kind : Int32) (r_error : Int32) (r_thing : Int32) (r_first : Int32) (r_second : Int32) (r_cost : Int32)  {res : Int32} (h : fX5_fail r_start = some res) : Met l yX5_fail (Cond.code yX5_fail cX5_fail 1 none :: zWs) rmX5_fail (zP Z (wX5 Z Ar r_text r_length r_start r_end r_kind r_error r_thing r_first r_second r_cost) sz [.ref (Ar 0)]) (zQv Z (wX5 Z Ar r_text r_length r_start r_end r_kind res r_thing r_first r_second r_cost) (va_A (wX5 Z Ar r_text r_length r_start r_end r_kind r_error r_thing r_first r_second r_cost) sz)) 0 0 (va_A (wX5 Z Ar r_text r_length r_start r_end r_kind r_error r_thing r_first r_second r_cost) sz) := by
  refine zMet (own := RX5) (fun A => zQv Z (wX5 Z Ar r_text r_length r_start r_end r_kind res r_thing r_first r_second r_cost) A) (by decide) rfl (Nat.le_of_ble_eq_true rfl) ?_
  intro p e s m args below meth c ls A E hw hl
  unfold fX5_fail at h
  refine r_aload_n E hl 0 rfl dX5_fail_0 rfl ?_
  refine r_aload_n E hl 0 rfl dX5_fail_1 rfl ?_
  refine r_get E kW_X5 hw 0 rfl rfl 2 (by decide) kF_X5_19 rfl dX5_fail_2 ?_
  refine r_put E (wX5 Z Ar r_text r_length r_start r_end r_kind r_start r_thing r_first r_second r_cost) kW_X5 tyX5_ok nmX5 hw 0 rfl rfl 5 (by decide) kF_X5_28 rfl rfl rfl (Nat.le_of_ble_eq_true rfl) rfl dX5_fail_5 (fun H locs hw => ?_)
  obtain rfl := Option.some.inj h
  exact r_vret E hw dX5_fail_8
abbrev rmX5_kindAt : Room := { frames := 0, cells := 0, slots := 0, locals := 0 }

set_option maxRecDepth 100000 in
set_option maxHeartbeats 4000000 in
theorem vX5_kindAt_47 {Z : zT} {p : Program} {l : Launch} {e : Env} {s : State} {m : MethodId} {args : Array Value} {below : List Frame} {meth : Method} {c : Code} {A : Nat → Prop} (E : zE Z p s m args meth c RX5 cX5_kindAt 3 (some .int) A) {Ar : Nat → Nat} {r_text : (Nat → Int32)} {r_length : Int32} {r_start : Int32} {r_end : Int32} {r_kind : Int32} {r_error : Int32} {r_thing : Int32} {r_first : Int32} {r_second : Int32} {r_cost : Int32} {res : Int32}  {H : Heap} {locs : List Loc} {ls : Array Slot} (hw : zW Z A (wX5 Z Ar r_text r_length r_start r_end r_kind r_error r_thing r_first r_second r_cost) s.heap H locs) (hl : lv_has ls 3 []) (h : uX5_kindAt_47  = some res) : W p l e rmX5_kindAt s m args below meth c H locs 0 0 (MQ below (zQi Z res (wX5 Z Ar r_text r_length r_start r_end r_kind r_error r_thing r_first r_second r_cost) A) args s 0 0 A) (F0 m 47 ls []) := by
  unfold uX5_kindAt_47 at h
  refine r_iconst E 3 dX5_kindAt_47 (by decide) ?_
  obtain rfl := Option.some.inj h
  exact r_iret E hw dX5_kindAt_48
set_option maxRecDepth 100000 in
set_option maxHeartbeats 4000000 in
theorem vX5_kindAt_31 {Z : zT} {p : Program} {l : Launch} {e : Env} {s : State} {m : MethodId} {args : Array Value} {below : List Frame} {meth : Method} {c : Code} {A : Nat → Prop} (E : zE Z p s m args meth c RX5 cX5_kindAt 3 (some .int) A) {Ar : Nat → Nat} {v2 : Int32} {r_text : (Nat → Int32)} {r_length : Int32} {r_start : Int32} {r_end : Int32} {r_kind : Int32} {r_error : Int32} {r_thing : Int32} {r_first : Int32} {r_second : Int32} {r_cost : Int32} {res : Int32}  {H : Heap} {locs : List Loc} {ls : Array Slot} (hw : zW Z A (wX5 Z Ar r_text r_length r_start r_end r_kind r_error r_thing r_first r_second r_cost) s.heap H locs) (hl : lv_has ls 3 [(2, .int v2)]) (h : uX5_kindAt_31 v2 = some res) : W p l e rmX5_kindAt s m args below meth c H locs 0 0 (MQ below (zQi Z res (wX5 Z Ar r_text r_length r_start r_end r_kind r_error r_thing r_first r_second r_cost) A) args s 0 0 A) (F0 m 31 ls []) := by
  unfold uX5_kindAt_31 at h
  refine r_iload_n E hl 0 rfl dX5_kindAt_31 rfl ?_
  refine r_bipush E 48 dX5_kindAt_32 (by decide) ?_
  refine r_icmp_lt E 47 dX5_kindAt_34 (by decide) (fun hc => ?_) (fun hc => ?_)
  · replace h := ite_t hc h
    exact vX5_kindAt_47 E  hw (lv_sub hl [] rfl) h
  · replace h := ite_f hc h
    refine r_iload_n E hl 0 rfl dX5_kindAt_37 rfl ?_
    refine r_bipush E 57 dX5_kindAt_38 (by decide) ?_
    refine r_icmp_gt E 47 dX5_kindAt_40 (by decide) (fun hc => ?_) (fun hc => ?_)
    · replace h := ite_t hc h
      exact vX5_kindAt_47 E  hw (lv_sub hl [] rfl) h
    · replace h := ite_f hc h
      refine r_iconst E 2 dX5_kindAt_43 (by decide) ?_
      refine r_goto E 48 dX5_kindAt_44 (by decide) ?_
      obtain rfl := Option.some.inj h
      exact r_iret E hw dX5_kindAt_48
set_option maxRecDepth 100000 in
set_option maxHeartbeats 4000000 in
theorem mX5_kindAt (l : Launch) (Z : zT) (sz : Nat) (Ar : Nat → Nat) (r_text : (Nat → Int32)) (r_length : Int32) (r_start : Int32) (r_end : Int32) (r_kind : Int32) (r_error : Int32) (r_thing : Int32) (r_first : Int32) (r_second : Int32) (r_cost : Int32) (v1 : Int32) {res : Int32} (h : fX5_kindAt v1 r_text r_length = some res) : Met l yX5_kindAt (Cond.code yX5_kindAt cX5_kindAt 3 (some .int) :: zWs) rmX5_kindAt (zP Z (wX5 Z Ar r_text r_length r_start r_end r_kind r_error r_thing r_first r_second r_cost) sz [.ref (Ar 0), .int v1]) (zQi Z res (wX5 Z Ar r_text r_length r_start r_end r_kind r_error r_thing r_first r_second r_cost) (va_A (wX5 Z Ar r_text r_length r_start r_end r_kind r_error r_thing r_first r_second r_cost) sz)) 0 0 (va_A (wX5 Z Ar r_text r_length r_start r_end r_kind r_error r_thing r_first r_second r_cost) sz) := by
  refine zMet (own := RX5) (fun A => zQi Z res (wX5 Z Ar r_text r_length r_start r_end r_kind r_error r_thing r_first r_second r_cost) A) (by decide) rfl (Nat.le_of_ble_eq_true rfl) ?_
  intro p e s m args below meth c ls A E hw hl
  unfold fX5_kindAt at h
  refine r_iload_n E hl 1 rfl dX5_kindAt_0 rfl ?_
  refine r_aload_n E hl 0 rfl dX5_kindAt_1 rfl ?_
  refine r_get E kW_X5 hw 0 rfl rfl 1 (by decide) kF_X5_15 rfl dX5_kindAt_2 ?_
  refine r_icmp_lt E 10 dX5_kindAt_5 (by decide) (fun hc => ?_) (fun hc => ?_)
  · replace h := ite_t hc h
    refine r_aload_n E hl 0 rfl dX5_kindAt_10 rfl ?_
    refine r_get E kW_X5 hw 0 rfl rfl 0 (by decide) kF_X5_9 rfl dX5_kindAt_11 ?_
    refine r_iload_n E hl 1 rfl dX5_kindAt_14 rfl ?_
    obtain ⟨hg1, h⟩ := gd_some h
    refine r_cald E hw 1 rfl hg1 dX5_kindAt_15 ?_
    obtain ⟨w2, hw2, h⟩ := nm_out h
    refine r_nm hw2 ?_
    refine r_istore_n E [(2, .int w2), (0, .ref (Ar 0)), (1, .int v1)] hl dX5_kindAt_16 rfl (by decide) rfl (fun ls hl => ?_)
    refine r_iload_n E hl 0 rfl dX5_kindAt_17 rfl ?_
    refine r_bipush E 97 dX5_kindAt_18 (by decide) ?_
    refine r_icmp_lt E 31 dX5_kindAt_20 (by decide) (fun hc => ?_) (fun hc => ?_)
    · replace h := ite_t hc h
      exact vX5_kindAt_31 E  hw (lv_sub hl [0] rfl) h
    · replace h := ite_f hc h
      refine r_iload_n E hl 0 rfl dX5_kindAt_23 rfl ?_
      refine r_bipush E 122 dX5_kindAt_24 (by decide) ?_
      refine r_icmp_gt E 31 dX5_kindAt_26 (by decide) (fun hc => ?_) (fun hc => ?_)
      · replace h := ite_t hc h
        exact vX5_kindAt_31 E  hw (lv_sub hl [0] rfl) h
      · replace h := ite_f hc h
        refine r_iconst E 1 dX5_kindAt_29 (by decide) ?_
        obtain rfl := Option.some.inj h
        exact r_iret E hw dX5_kindAt_30
  · replace h := ite_f hc h
    refine r_iconst E 0 dX5_kindAt_8 (by decide) ?_
    obtain rfl := Option.some.inj h
    exact r_iret E hw dX5_kindAt_9
abbrev rmX5_takeToken : Room := { frames := 1, cells := 0, slots := 0, locals := 22 }

set_option maxRecDepth 100000 in
set_option maxHeartbeats 4000000 in
theorem tX5_takeToken_94 {Z : zT} {p : Program} {l : Launch} {e : Env} {s : State} {m : MethodId} {args : Array Value} {below : List Frame} {meth : Method} {c : Code} {A : Nat → Prop} (E : zE Z p s m args meth c RX5 cX5_takeToken 1 none A) {Ar : Nat → Nat} {r_text : (Nat → Int32)} {r_length : Int32} {r_start : Int32} {r_kind : Int32} {r_error : Int32} {r_thing : Int32} {r_first : Int32} {r_second : Int32} {r_cost : Int32} {res : Int32 × Int32 × Int32}  : ∀ (n : Nat) (r_end : Int32) (H : Heap) (locs : List Loc) (ls : Array Slot), iter (fun b : Int32 => sX5_takeToken_94 r_text r_length r_start r_kind b) n r_end = some res → zW Z A (wX5 Z Ar r_text r_length r_start r_end r_kind r_error r_thing r_first r_second r_cost) s.heap H locs → lv_has ls 1 [(0, .ref (Ar 0))] → W p l e rmX5_takeToken s m args below meth c H locs 0 0 (MQ below (zQv Z (wX5 Z Ar r_text r_length res.1 res.2.1 res.2.2 r_error r_thing r_first r_second r_cost) A) args s 0 0 A) (F0 m 94 ls []) := by
  intro n
  induction n with
  | zero => intro r_end H locs ls h; cases h
  | succ n ih =>
    intro r_end H locs ls h hw hl
    obtain ⟨q1, h, hn1, hr1⟩ := iter_out h
    have hb1 : ∀ b : Int32, q1 = .inl b → ∀ (H : Heap) (locs : List Loc) (ls : Array Slot), zW Z A (wX5 Z Ar r_text r_length r_start b r_kind r_error r_thing r_first r_second r_cost) s.heap H locs → lv_has ls 1 [(0, .ref (Ar 0))] → W p l e rmX5_takeToken s m args below meth c H locs 0 0 (MQ below (zQv Z (wX5 Z Ar r_text r_length res.1 res.2.1 res.2.2 r_error r_thing r_first r_second r_cost) A) args s 0 0 A) (F0 m 94 ls []) := fun b eb H locs ls hw hl => ih b H locs ls (hn1 b eb) hw hl
    replace h : sX5_takeToken_94 r_text r_length r_start r_kind r_end = some q1 := h
    unfold sX5_takeToken_94 at h
    refine r_aload_n E hl 0 rfl dX5_takeToken_94 rfl ?_
    refine r_get E kW_X5 hw 0 rfl rfl 3 (by decide) kF_X5_22 rfl dX5_takeToken_95 ?_
    refine r_aload_n E hl 0 rfl dX5_takeToken_98 rfl ?_
    refine r_get E kW_X5 hw 0 rfl rfl 1 (by decide) kF_X5_15 rfl dX5_takeToken_99 ?_
    refine r_icmp_ge E 133 dX5_takeToken_102 (by decide) (fun hc => ?_) (fun hc => ?_)
    · replace h := ite_t hc h
      obtain ⟨ro2, h, hro2⟩ := oi_some h
      rw [hr1 _ hro2] at h
      obtain rfl := Option.some.inj h
      exact r_vret E hw dX5_takeToken_133
    · replace h := ite_f hc h
      refine r_aload_n E hl 0 rfl dX5_takeToken_105 rfl ?_
      refine r_aload_n E hl 0 rfl dX5_takeToken_106 rfl ?_
      refine r_get E kW_X5 hw 0 rfl rfl 3 (by decide) kF_X5_22 rfl dX5_takeToken_107 ?_
      obtain ⟨y3, hy3, h⟩ := bd_some h
      refine r_callVAi E hw (mX5_kindAt l Z _ Ar r_text r_length r_start r_end r_kind r_error r_thing r_first r_second r_cost r_end hy3) kL_X5_116 kI_X5_kindAt kS_X5_kindAt kN_X5 kC_X5_kindAt rfl rfl hdX5_kindAt ⟨Nat.le_of_ble_eq_true rfl, Nat.le_of_ble_eq_true rfl⟩ 0 rfl rfl rfl rfl hl [] rfl (Nat.le_of_ble_eq_true rfl) dX5_takeToken_110 ⟨Nat.zero_le _, Nat.zero_le _⟩ (fun H locs hw => ?_)
      refine r_aload_n E hl 0 rfl dX5_takeToken_113 rfl ?_
      refine r_get E kW_X5 hw 0 rfl rfl 4 (by decide) kF_X5_25 rfl dX5_takeToken_114 ?_
      refine r_icmp_ne E 133 dX5_takeToken_117 (by decide) (fun hc => ?_) (fun hc => ?_)
      · replace h := ite_f hc h
        obtain ⟨ro4, h, hro4⟩ := oi_some h
        rw [hr1 _ hro4] at h
        obtain rfl := Option.some.inj h
        exact r_vret E hw dX5_takeToken_133
      · replace h := ite_t hc h
        refine r_aload_n E hl 0 rfl dX5_takeToken_120 rfl ?_
        refine r_dup E dX5_takeToken_121 rfl ?_
        refine r_get E kW_X5 hw 0 rfl rfl 3 (by decide) kF_X5_22 rfl dX5_takeToken_122 ?_
        refine r_iconst E 1 dX5_takeToken_125 (by decide) ?_
        refine r_iadd E dX5_takeToken_126 ?_
        refine r_put E (wX5 Z Ar r_text r_length r_start (r_end + (1 : Int32)) r_kind r_error r_thing r_first r_second r_cost) kW_X5 tyX5_ok nmX5 hw 0 rfl rfl 3 (by decide) kF_X5_22 rfl rfl rfl (Nat.le_of_ble_eq_true rfl) rfl dX5_takeToken_127 (fun H locs hw => ?_)
        refine r_goto E 94 dX5_takeToken_130 (by decide) ?_
        exact hb1 _ (Option.some.inj h).symm _ _ _ hw hl
set_option maxRecDepth 100000 in
set_option maxHeartbeats 4000000 in
theorem vX5_takeToken_46 {Z : zT} {p : Program} {l : Launch} {e : Env} {s : State} {m : MethodId} {args : Array Value} {below : List Frame} {meth : Method} {c : Code} {A : Nat → Prop} (E : zE Z p s m args meth c RX5 cX5_takeToken 1 none A) {Ar : Nat → Nat} {r_text : (Nat → Int32)} {r_length : Int32} {r_start : Int32} {r_end : Int32} {r_kind : Int32} {r_error : Int32} {r_thing : Int32} {r_first : Int32} {r_second : Int32} {r_cost : Int32} {res : Int32 × Int32 × Int32}  {H : Heap} {locs : List Loc} {ls : Array Slot} (hw : zW Z A (wX5 Z Ar r_text r_length r_start r_end r_kind r_error r_thing r_first r_second r_cost) s.heap H locs) (hl : lv_has ls 1 [(0, .ref (Ar 0))]) (h : uX5_takeToken_46 r_text r_length r_start = some res) : W p l e rmX5_takeToken s m args below meth c H locs 0 0 (MQ below (zQv Z (wX5 Z Ar r_text r_length res.1 res.2.1 res.2.2 r_error r_thing r_first r_second r_cost) A) args s 0 0 A) (F0 m 46 ls []) := by
  unfold uX5_takeToken_46 at h
  refine r_aload_n E hl 0 rfl dX5_takeToken_46 rfl ?_
  refine r_aload_n E hl 0 rfl dX5_takeToken_47 rfl ?_
  refine r_aload_n E hl 0 rfl dX5_takeToken_48 rfl ?_
  refine r_get E kW_X5 hw 0 rfl rfl 2 (by decide) kF_X5_19 rfl dX5_takeToken_49 ?_
  obtain ⟨y1, hy1, h⟩ := bd_some h
  refine r_callVAi E hw (mX5_kindAt l Z _ Ar r_text r_length r_start r_end r_kind r_error r_thing r_first r_second r_cost r_start hy1) kL_X5_116 kI_X5_kindAt kS_X5_kindAt kN_X5 kC_X5_kindAt rfl rfl hdX5_kindAt ⟨Nat.le_of_ble_eq_true rfl, Nat.le_of_ble_eq_true rfl⟩ 0 rfl rfl rfl rfl hl [.ref (Ar 0)] rfl (Nat.le_of_ble_eq_true rfl) dX5_takeToken_52 ⟨Nat.zero_le _, Nat.zero_le _⟩ (fun H locs hw => ?_)
  refine r_put E (wX5 Z Ar r_text r_length r_start r_end y1 r_error r_thing r_first r_second r_cost) kW_X5 tyX5_ok nmX5 hw 0 rfl rfl 4 (by decide) kF_X5_25 rfl rfl rfl (Nat.le_of_ble_eq_true rfl) rfl dX5_takeToken_55 (fun H locs hw => ?_)
  refine r_aload_n E hl 0 rfl dX5_takeToken_58 rfl ?_
  refine r_aload_n E hl 0 rfl dX5_takeToken_59 rfl ?_
  refine r_get E kW_X5 hw 0 rfl rfl 2 (by decide) kF_X5_19 rfl dX5_takeToken_60 ?_
  refine r_put E (wX5 Z Ar r_text r_length r_start r_start y1 r_error r_thing r_first r_second r_cost) kW_X5 tyX5_ok nmX5 hw 0 rfl rfl 3 (by decide) kF_X5_22 rfl rfl rfl (Nat.le_of_ble_eq_true rfl) rfl dX5_takeToken_63 (fun H locs hw => ?_)
  refine r_aload_n E hl 0 rfl dX5_takeToken_66 rfl ?_
  refine r_get E kW_X5 hw 0 rfl rfl 4 (by decide) kF_X5_25 rfl dX5_takeToken_67 ?_
  refine r_iconst E 3 dX5_takeToken_70 (by decide) ?_
  refine r_icmp_ne E 87 dX5_takeToken_71 (by decide) (fun hc => ?_) (fun hc => ?_)
  · replace h := ite_f hc h
    refine r_aload_n E hl 0 rfl dX5_takeToken_87 rfl ?_
    refine r_get E kW_X5 hw 0 rfl rfl 4 (by decide) kF_X5_25 rfl dX5_takeToken_88 ?_
    refine r_if_eq E 133 dX5_takeToken_91 (by decide) (fun hc => ?_) (fun hc => ?_)
    · replace h := ite_t hc h
      obtain rfl := Option.some.inj h
      exact r_vret E hw dX5_takeToken_133
    · replace h := ite_f hc h
      obtain ⟨n5, h⟩ := wh_some h
      exact tX5_takeToken_94 E  n5 _ _ _ _ h hw hl
  · replace h := ite_t hc h
    refine r_aload_n E hl 0 rfl dX5_takeToken_74 rfl ?_
    refine r_dup E dX5_takeToken_75 rfl ?_
    refine r_get E kW_X5 hw 0 rfl rfl 3 (by decide) kF_X5_22 rfl dX5_takeToken_76 ?_
    refine r_iconst E 1 dX5_takeToken_79 (by decide) ?_
    refine r_iadd E dX5_takeToken_80 ?_
    refine r_put E (wX5 Z Ar r_text r_length r_start (r_start + (1 : Int32)) y1 r_error r_thing r_first r_second r_cost) kW_X5 tyX5_ok nmX5 hw 0 rfl rfl 3 (by decide) kF_X5_22 rfl rfl rfl (Nat.le_of_ble_eq_true rfl) rfl dX5_takeToken_81 (fun H locs hw => ?_)
    refine r_goto E 133 dX5_takeToken_84 (by decide) ?_
    obtain rfl := Option.some.inj h
    exact r_vret E hw dX5_takeToken_133
set_option maxRecDepth 100000 in
set_option maxHeartbeats 4000000 in
theorem tX5_takeToken_8 {Z : zT} {p : Program} {l : Launch} {e : Env} {s : State} {m : MethodId} {args : Array Value} {below : List Frame} {meth : Method} {c : Code} {A : Nat → Prop} (E : zE Z p s m args meth c RX5 cX5_takeToken 1 none A) {Ar : Nat → Nat} {r_text : (Nat → Int32)} {r_length : Int32} {r_end : Int32} {r_kind : Int32} {r_error : Int32} {r_thing : Int32} {r_first : Int32} {r_second : Int32} {r_cost : Int32} {res : Int32 × Int32 × Int32}  : ∀ (n : Nat) (r_start : Int32) (H : Heap) (locs : List Loc) (ls : Array Slot), iter (fun b : Int32 => sX5_takeToken_8 r_text r_length b) n r_start = some res → zW Z A (wX5 Z Ar r_text r_length r_start r_end r_kind r_error r_thing r_first r_second r_cost) s.heap H locs → lv_has ls 1 [(0, .ref (Ar 0))] → W p l e rmX5_takeToken s m args below meth c H locs 0 0 (MQ below (zQv Z (wX5 Z Ar r_text r_length res.1 res.2.1 res.2.2 r_error r_thing r_first r_second r_cost) A) args s 0 0 A) (F0 m 8 ls []) := by
  intro n
  induction n with
  | zero => intro r_start H locs ls h; cases h
  | succ n ih =>
    intro r_start H locs ls h hw hl
    obtain ⟨q1, h, hn1, hr1⟩ := iter_out h
    have hb1 : ∀ b : Int32, q1 = .inl b → ∀ (H : Heap) (locs : List Loc) (ls : Array Slot), zW Z A (wX5 Z Ar r_text r_length b r_end r_kind r_error r_thing r_first r_second r_cost) s.heap H locs → lv_has ls 1 [(0, .ref (Ar 0))] → W p l e rmX5_takeToken s m args below meth c H locs 0 0 (MQ below (zQv Z (wX5 Z Ar r_text r_length res.1 res.2.1 res.2.2 r_error r_thing r_first r_second r_cost) A) args s 0 0 A) (F0 m 8 ls []) := fun b eb H locs ls hw hl => ih b H locs ls (hn1 b eb) hw hl
    replace h : sX5_takeToken_8 r_text r_length r_start = some q1 := h
    unfold sX5_takeToken_8 at h
    refine r_aload_n E hl 0 rfl dX5_takeToken_8 rfl ?_
    refine r_get E kW_X5 hw 0 rfl rfl 2 (by decide) kF_X5_19 rfl dX5_takeToken_9 ?_
    refine r_aload_n E hl 0 rfl dX5_takeToken_12 rfl ?_
    refine r_get E kW_X5 hw 0 rfl rfl 1 (by decide) kF_X5_15 rfl dX5_takeToken_13 ?_
    refine r_icmp_ge E 46 dX5_takeToken_16 (by decide) (fun hc => ?_) (fun hc => ?_)
    · replace h := ite_t hc h
      obtain ⟨ro6, h, hro6⟩ := oi_some h
      rw [hr1 _ hro6] at h
      exact vX5_takeToken_46 E  hw hl h
    · replace h := ite_f hc h
      refine r_aload_n E hl 0 rfl dX5_takeToken_19 rfl ?_
      refine r_get E kW_X5 hw 0 rfl rfl 0 (by decide) kF_X5_9 rfl dX5_takeToken_20 ?_
      refine r_aload_n E hl 0 rfl dX5_takeToken_23 rfl ?_
      refine r_get E kW_X5 hw 0 rfl rfl 2 (by decide) kF_X5_19 rfl dX5_takeToken_24 ?_
      obtain ⟨hg7, h⟩ := gd_some h
      refine r_cald E hw 1 rfl hg7 dX5_takeToken_27 ?_
      refine r_bipush E 32 dX5_takeToken_28 (by decide) ?_
      refine r_icmp_ne E 46 dX5_takeToken_30 (by decide) (fun hc => ?_) (fun hc => ?_)
      · replace h := ite_f hc h
        obtain ⟨ro8, h, hro8⟩ := oi_some h
        rw [hr1 _ hro8] at h
        exact vX5_takeToken_46 E  hw hl h
      · replace h := ite_t hc h
        refine r_aload_n E hl 0 rfl dX5_takeToken_33 rfl ?_
        refine r_dup E dX5_takeToken_34 rfl ?_
        refine r_get E kW_X5 hw 0 rfl rfl 2 (by decide) kF_X5_19 rfl dX5_takeToken_35 ?_
        refine r_iconst E 1 dX5_takeToken_38 (by decide) ?_
        refine r_iadd E dX5_takeToken_39 ?_
        refine r_put E (wX5 Z Ar r_text r_length (r_start + (1 : Int32)) r_end r_kind r_error r_thing r_first r_second r_cost) kW_X5 tyX5_ok nmX5 hw 0 rfl rfl 2 (by decide) kF_X5_19 rfl rfl rfl (Nat.le_of_ble_eq_true rfl) rfl dX5_takeToken_40 (fun H locs hw => ?_)
        refine r_goto E 8 dX5_takeToken_43 (by decide) ?_
        exact hb1 _ (Option.some.inj h).symm _ _ _ hw hl
set_option maxRecDepth 100000 in
set_option maxHeartbeats 4000000 in
theorem mX5_takeToken (l : Launch) (Z : zT) (sz : Nat) (Ar : Nat → Nat) (r_text : (Nat → Int32)) (r_length : Int32) (r_start : Int32) (r_end : Int32) (r_kind : Int32) (r_error : Int32) (r_thing : Int32) (r_first : Int32) (r_second : Int32) (r_cost : Int32)  {res : Int32 × Int32 × Int32} (h : fX5_takeToken r_text r_length r_end = some res) : Met l yX5_takeToken (Cond.code yX5_takeToken cX5_takeToken 1 none :: zWs) rmX5_takeToken (zP Z (wX5 Z Ar r_text r_length r_start r_end r_kind r_error r_thing r_first r_second r_cost) sz [.ref (Ar 0)]) (zQv Z (wX5 Z Ar r_text r_length res.1 res.2.1 res.2.2 r_error r_thing r_first r_second r_cost) (va_A (wX5 Z Ar r_text r_length r_start r_end r_kind r_error r_thing r_first r_second r_cost) sz)) 0 0 (va_A (wX5 Z Ar r_text r_length r_start r_end r_kind r_error r_thing r_first r_second r_cost) sz) := by
  refine zMet (own := RX5) (fun A => zQv Z (wX5 Z Ar r_text r_length res.1 res.2.1 res.2.2 r_error r_thing r_first r_second r_cost) A) (by decide) rfl (Nat.le_of_ble_eq_true rfl) ?_
  intro p e s m args below meth c ls A E hw hl
  unfold fX5_takeToken at h
  refine r_aload_n E hl 0 rfl dX5_takeToken_0 rfl ?_
  refine r_aload_n E hl 0 rfl dX5_takeToken_1 rfl ?_
  refine r_get E kW_X5 hw 0 rfl rfl 3 (by decide) kF_X5_22 rfl dX5_takeToken_2 ?_
  refine r_put E (wX5 Z Ar r_text r_length r_end r_end r_kind r_error r_thing r_first r_second r_cost) kW_X5 tyX5_ok nmX5 hw 0 rfl rfl 2 (by decide) kF_X5_19 rfl rfl rfl (Nat.le_of_ble_eq_true rfl) rfl dX5_takeToken_5 (fun H locs hw => ?_)
  obtain ⟨n9, h⟩ := wh_some h
  exact tX5_takeToken_8 E  n9 _ _ _ _ h hw hl
abbrev rmX5_tokenNumber : Room := { frames := 0, cells := 0, slots := 0, locals := 0 }

set_option maxRecDepth 100000 in
set_option maxHeartbeats 4000000 in
theorem tX5_tokenNumber_51 {Z : zT} {p : Program} {l : Launch} {e : Env} {s : State} {m : MethodId} {args : Array Value} {below : List Frame} {meth : Method} {c : Code} {A : Nat → Prop} (E : zE Z p s m args meth c RX5 cX5_tokenNumber 4 (some .int) A) {Ar : Nat → Nat} {r_text : (Nat → Int32)} {r_length : Int32} {r_start : Int32} {r_end : Int32} {r_kind : Int32} {r_error : Int32} {r_thing : Int32} {r_first : Int32} {r_second : Int32} {r_cost : Int32} {res : Int32}  : ∀ (n : Nat) (v2 : Int32) (v3 : Int32) (H : Heap) (locs : List Loc) (ls : Array Slot), iter (fun b : Int32 × Int32 => sX5_tokenNumber_51 r_text r_end b.1 b.2) n (v2, v3) = some res → zW Z A (wX5 Z Ar r_text r_length r_start r_end r_kind r_error r_thing r_first r_second r_cost) s.heap H locs → lv_has ls 4 [(0, .ref (Ar 0)), (2, .int v2), (3, .int v3)] → W p l e rmX5_tokenNumber s m args below meth c H locs 0 0 (MQ below (zQi Z res (wX5 Z Ar r_text r_length r_start r_end r_kind r_error r_thing r_first r_second r_cost) A) args s 0 0 A) (F0 m 51 ls []) := by
  intro n
  induction n with
  | zero => intro v2 v3 H locs ls h; cases h
  | succ n ih =>
    intro v2 v3 H locs ls h hw hl
    obtain ⟨q1, h, hn1, hr1⟩ := iter_out h
    have hb1 : ∀ b : Int32 × Int32, q1 = .inl b → ∀ (H : Heap) (locs : List Loc) (ls : Array Slot), zW Z A (wX5 Z Ar r_text r_length r_start r_end r_kind r_error r_thing r_first r_second r_cost) s.heap H locs → lv_has ls 4 [(0, .ref (Ar 0)), (2, .int b.1), (3, .int b.2)] → W p l e rmX5_tokenNumber s m args below meth c H locs 0 0 (MQ below (zQi Z res (wX5 Z Ar r_text r_length r_start r_end r_kind r_error r_thing r_first r_second r_cost) A) args s 0 0 A) (F0 m 51 ls []) := fun b eb H locs ls hw hl => ih b.1 b.2 H locs ls (hn1 b eb) hw hl
    replace h : sX5_tokenNumber_51 r_text r_end v2 v3 = some q1 := h
    unfold sX5_tokenNumber_51 at h
    refine r_iload_n E hl 2 rfl dX5_tokenNumber_51 rfl ?_
    refine r_aload_n E hl 0 rfl dX5_tokenNumber_52 rfl ?_
    refine r_get E kW_X5 hw 0 rfl rfl 3 (by decide) kF_X5_22 rfl dX5_tokenNumber_53 ?_
    refine r_icmp_ge E 80 dX5_tokenNumber_56 (by decide) (fun hc => ?_) (fun hc => ?_)
    · replace h := ite_t hc h
      obtain ⟨ro2, h, hro2⟩ := oi_some h
      rw [hr1 _ hro2] at h
      refine r_iload_n E hl 1 rfl dX5_tokenNumber_80 rfl ?_
      obtain rfl := Option.some.inj h
      exact r_iret E hw dX5_tokenNumber_81
    · replace h := ite_f hc h
      refine r_iload_n E hl 1 rfl dX5_tokenNumber_59 rfl ?_
      refine r_bipush E 10 dX5_tokenNumber_60 (by decide) ?_
      refine r_imul E dX5_tokenNumber_62 ?_
      refine r_aload_n E hl 0 rfl dX5_tokenNumber_63 rfl ?_
      refine r_get E kW_X5 hw 0 rfl rfl 0 (by decide) kF_X5_9 rfl dX5_tokenNumber_64 ?_
      refine r_iload_n E hl 2 rfl dX5_tokenNumber_67 rfl ?_
      obtain ⟨hg3, h⟩ := gd_some h
      refine r_cald E hw 1 rfl hg3 dX5_tokenNumber_68 ?_
      refine r_bipush E 48 dX5_tokenNumber_69 (by decide) ?_
      refine r_isub E dX5_tokenNumber_71 ?_
      refine r_iadd E dX5_tokenNumber_72 ?_
      obtain ⟨w4, hw4, h⟩ := nm_out h
      refine r_nm hw4 ?_
      refine r_istore_n E [(2, .int w4), (0, .ref (Ar 0)), (3, .int v3)] hl dX5_tokenNumber_73 rfl (by decide) rfl (fun ls hl => ?_)
      obtain ⟨w5, hw5, h⟩ := nm_out h
      refine r_iinc E w5 [(3, .int w5), (2, .int w4), (0, .ref (Ar 0))] hl (k := 2) rfl dX5_tokenNumber_74 hw5.symm (by decide) rfl (fun ls hl => ?_)
      refine r_goto E 51 dX5_tokenNumber_77 (by decide) ?_
      exact hb1 _ (Option.some.inj h).symm _ _ _ hw (lv_sub hl [2, 1, 0] rfl)
set_option maxRecDepth 100000 in
set_option maxHeartbeats 4000000 in
theorem vX5_tokenNumber_44 {Z : zT} {p : Program} {l : Launch} {e : Env} {s : State} {m : MethodId} {args : Array Value} {below : List Frame} {meth : Method} {c : Code} {A : Nat → Prop} (E : zE Z p s m args meth c RX5 cX5_tokenNumber 4 (some .int) A) {Ar : Nat → Nat} {r_text : (Nat → Int32)} {r_length : Int32} {r_start : Int32} {r_end : Int32} {r_kind : Int32} {r_error : Int32} {r_thing : Int32} {r_first : Int32} {r_second : Int32} {r_cost : Int32} {res : Int32}  {H : Heap} {locs : List Loc} {ls : Array Slot} (hw : zW Z A (wX5 Z Ar r_text r_length r_start r_end r_kind r_error r_thing r_first r_second r_cost) s.heap H locs) (hl : lv_has ls 4 [(0, .ref (Ar 0))]) (h : uX5_tokenNumber_44 r_text r_start r_end = some res) : W p l e rmX5_tokenNumber s m args below meth c H locs 0 0 (MQ below (zQi Z res (wX5 Z Ar r_text r_length r_start r_end r_kind r_error r_thing r_first r_second r_cost) A) args s 0 0 A) (F0 m 44 ls []) := by
  unfold uX5_tokenNumber_44 at h
  refine r_iconst E 0 dX5_tokenNumber_44 (by decide) ?_
  refine r_istore_n E [(2, .int (0 : Int32)), (0, .ref (Ar 0))] hl dX5_tokenNumber_45 rfl (by decide) rfl (fun ls hl => ?_)
  refine r_aload_n E hl 1 rfl dX5_tokenNumber_46 rfl ?_
  refine r_get E kW_X5 hw 0 rfl rfl 2 (by decide) kF_X5_19 rfl dX5_tokenNumber_47 ?_
  refine r_istore_n E [(3, .int r_start), (2, .int (0 : Int32)), (0, .ref (Ar 0))] hl dX5_tokenNumber_50 rfl (by decide) rfl (fun ls hl => ?_)
  obtain ⟨n6, h⟩ := wh_some h
  exact tX5_tokenNumber_51 E  n6 _ _ _ _ _ h hw (lv_sub hl [2, 1, 0] rfl)
set_option maxRecDepth 100000 in
set_option maxHeartbeats 4000000 in
theorem mX5_tokenNumber (l : Launch) (Z : zT) (sz : Nat) (Ar : Nat → Nat) (r_text : (Nat → Int32)) (r_length : Int32) (r_start : Int32) (r_end : Int32) (r_kind : Int32) (r_error : Int32) (r_thing : Int32) (r_first : Int32) (r_second : Int32) (r_cost : Int32)  {res : Int32} (h : fX5_tokenNumber r_text r_start r_end r_kind = some res) : Met l yX5_tokenNumber (Cond.code yX5_tokenNumber cX5_tokenNumber 4 (some .int) :: zWs) rmX5_tokenNumber (zP Z (wX5 Z Ar r_text r_length r_start r_end r_kind r_error r_thing r_first r_second r_cost) sz [.ref (Ar 0)]) (zQi Z res (wX5 Z Ar r_text r_length r_start r_end r_kind r_error r_thing r_first r_second r_cost) (va_A (wX5 Z Ar r_text r_length r_start r_end r_kind r_error r_thing r_first r_second r_cost) sz)) 0 0 (va_A (wX5 Z Ar r_text r_length r_start r_end r_kind r_error r_thing r_first r_second r_cost) sz) := by
  refine zMet (own := RX5) (fun A => zQi Z res (wX5 Z Ar r_text r_length r_start r_end r_kind r_error r_thing r_first r_second r_cost) A) (by decide) rfl (Nat.le_of_ble_eq_true rfl) ?_
  intro p e s m args below meth c ls A E hw hl
  unfold fX5_tokenNumber at h
  refine r_aload_n E hl 0 rfl dX5_tokenNumber_0 rfl ?_
  refine r_get E kW_X5 hw 0 rfl rfl 3 (by decide) kF_X5_22 rfl dX5_tokenNumber_1 ?_
  refine r_aload_n E hl 0 rfl dX5_tokenNumber_4 rfl ?_
  refine r_get E kW_X5 hw 0 rfl rfl 2 (by decide) kF_X5_19 rfl dX5_tokenNumber_5 ?_
  refine r_isub E dX5_tokenNumber_8 ?_
  obtain ⟨w1, hw1, h⟩ := nm_out h
  refine r_nm hw1 ?_
  refine r_istore_n E [(1, .int w1), (0, .ref (Ar 0))] hl dX5_tokenNumber_9 rfl (by decide) rfl (fun ls hl => ?_)
  refine r_aload_n E hl 1 rfl dX5_tokenNumber_10 rfl ?_
  refine r_get E kW_X5 hw 0 rfl rfl 4 (by decide) kF_X5_25 rfl dX5_tokenNumber_11 ?_
  refine r_iconst E 2 dX5_tokenNumber_14 (by decide) ?_
  refine r_icmp_ne E 42 dX5_tokenNumber_15 (by decide) (fun hc => ?_) (fun hc => ?_)
  · replace h := ite_f hc h
    refine r_iconst E (-1) dX5_tokenNumber_42 (by decide) ?_
    obtain rfl := Option.some.inj h
    exact r_iret E hw dX5_tokenNumber_43
  · replace h := ite_t hc h
    refine r_iload_n E hl 0 rfl dX5_tokenNumber_18 rfl ?_
    refine r_iconst E 2 dX5_tokenNumber_19 (by decide) ?_
    refine r_icmp_gt E 42 dX5_tokenNumber_20 (by decide) (fun hc => ?_) (fun hc => ?_)
    · replace h := ite_t hc h
      refine r_iconst E (-1) dX5_tokenNumber_42 (by decide) ?_
      obtain rfl := Option.some.inj h
      exact r_iret E hw dX5_tokenNumber_43
    · replace h := ite_f hc h
      refine r_iload_n E hl 0 rfl dX5_tokenNumber_23 rfl ?_
      refine r_iconst E 2 dX5_tokenNumber_24 (by decide) ?_
      refine r_icmp_ne E 44 dX5_tokenNumber_25 (by decide) (fun hc => ?_) (fun hc => ?_)
      · replace h := ite_f hc h
        exact vX5_tokenNumber_44 E  hw (lv_sub hl [1] rfl) h
      · replace h := ite_t hc h
        refine r_aload_n E hl 1 rfl dX5_tokenNumber_28 rfl ?_
        refine r_get E kW_X5 hw 0 rfl rfl 0 (by decide) kF_X5_9 rfl dX5_tokenNumber_29 ?_
        refine r_aload_n E hl 1 rfl dX5_tokenNumber_32 rfl ?_
        refine r_get E kW_X5 hw 0 rfl rfl 2 (by decide) kF_X5_19 rfl dX5_tokenNumber_33 ?_
        obtain ⟨hg7, h⟩ := gd_some h
        refine r_cald E hw 1 rfl hg7 dX5_tokenNumber_36 ?_
        refine r_bipush E 48 dX5_tokenNumber_37 (by decide) ?_
        refine r_icmp_ne E 44 dX5_tokenNumber_39 (by decide) (fun hc => ?_) (fun hc => ?_)
        · replace h := ite_f hc h
          exact vX5_tokenNumber_44 E  hw (lv_sub hl [1] rfl) h
        · replace h := ite_t hc h
          refine r_iconst E (-1) dX5_tokenNumber_42 (by decide) ?_
          obtain rfl := Option.some.inj h
          exact r_iret E hw dX5_tokenNumber_43
abbrev rmX5_readNumber : Room := { frames := 2, cells := 0, slots := 0, locals := 42 }

set_option maxRecDepth 100000 in
set_option maxHeartbeats 4000000 in
theorem vX5_readNumber_38 {Z : zT} {p : Program} {l : Launch} {e : Env} {s : State} {m : MethodId} {args : Array Value} {below : List Frame} {meth : Method} {c : Code} {A : Nat → Prop} (E : zE Z p s m args meth c RX5 cX5_readNumber 5 (some .int) A) {Ar : Nat → Nat} {v4 : Int32} {r_text : (Nat → Int32)} {r_length : Int32} {r_start : Int32} {r_end : Int32} {r_kind : Int32} {r_error : Int32} {r_thing : Int32} {r_first : Int32} {r_second : Int32} {r_cost : Int32} {res : Int32 × Int32 × Int32 × Int32 × Int32}  {H : Heap} {locs : List Loc} {ls : Array Slot} (hw : zW Z A (wX5 Z Ar r_text r_length r_start r_end r_kind r_error r_thing r_first r_second r_cost) s.heap H locs) (hl : lv_has ls 5 [(0, .ref (Ar 0)), (4, .int v4)]) (h : uX5_readNumber_38 v4 r_start r_end r_kind = some res) : W p l e rmX5_readNumber s m args below meth c H locs 0 0 (MQ below (zQi Z res.1 (wX5 Z Ar r_text r_length res.2.1 res.2.2.1 res.2.2.2.1 res.2.2.2.2 r_thing r_first r_second r_cost) A) args s 0 0 A) (F0 m 38 ls []) := by
  unfold uX5_readNumber_38 at h
  refine r_aload_n E hl 0 rfl dX5_readNumber_38 rfl ?_
  obtain ⟨y3, hy3, h⟩ := bd_some h
  refine r_callVAv E hw (mX5_fail l Z _ Ar r_text r_length r_start r_end r_kind r_error r_thing r_first r_second r_cost hy3) kL_X5_93 kI_X5_fail kS_X5_fail kN_X5 kC_X5_fail rfl rfl hdX5_fail ⟨Nat.le_of_ble_eq_true rfl, Nat.le_of_ble_eq_true rfl⟩ 0 rfl rfl rfl rfl hl [] rfl (Nat.le_of_ble_eq_true rfl) dX5_readNumber_39 ⟨Nat.zero_le _, Nat.zero_le _⟩ (fun H locs hw => ?_)
  refine r_iload E hl 1 rfl dX5_readNumber_42 ?_
  obtain rfl := Option.some.inj h
  exact r_iret E hw dX5_readNumber_44
set_option maxRecDepth 100000 in
set_option maxHeartbeats 4000000 in
theorem mX5_readNumber (l : Launch) (Z : zT) (sz : Nat) (Ar : Nat → Nat) (r_text : (Nat → Int32)) (r_length : Int32) (r_start : Int32) (r_end : Int32) (r_kind : Int32) (r_error : Int32) (r_thing : Int32) (r_first : Int32) (r_second : Int32) (r_cost : Int32) (v1 : Int32) (v2 : Int32) (v3 : Int32) {res : Int32 × Int32 × Int32 × Int32 × Int32} (h : fX5_readNumber v1 v2 v3 r_text r_length r_start r_end r_kind r_error = some res) : Met l yX5_readNumber (Cond.code yX5_readNumber cX5_readNumber 5 (some .int) :: zWs) rmX5_readNumber (zP Z (wX5 Z Ar r_text r_length r_start r_end r_kind r_error r_thing r_first r_second r_cost) sz [.ref (Ar 0), .int v1, .int v2, .int v3]) (zQi Z res.1 (wX5 Z Ar r_text r_length res.2.1 res.2.2.1 res.2.2.2.1 res.2.2.2.2 r_thing r_first r_second r_cost) (va_A (wX5 Z Ar r_text r_length r_start r_end r_kind r_error r_thing r_first r_second r_cost) sz)) 0 0 (va_A (wX5 Z Ar r_text r_length r_start r_end r_kind r_error r_thing r_first r_second r_cost) sz) := by
  refine zMet (own := RX5) (fun A => zQi Z res.1 (wX5 Z Ar r_text r_length res.2.1 res.2.2.1 res.2.2.2.1 res.2.2.2.2 r_thing r_first r_second r_cost) A) (by decide) rfl (Nat.le_of_ble_eq_true rfl) ?_
  intro p e s m args below meth c ls A E hw hl
  unfold fX5_readNumber at h
  refine r_aload_n E hl 0 rfl dX5_readNumber_0 rfl ?_
  refine r_get E kW_X5 hw 0 rfl rfl 5 (by decide) kF_X5_28 rfl dX5_readNumber_1 ?_
  refine r_iconst E (-1) dX5_readNumber_4 (by decide) ?_
  refine r_icmp_eq E 10 dX5_readNumber_5 (by decide) (fun hc => ?_) (fun hc => ?_)
  · replace h := ite_t hc h
    refine r_aload_n E hl 0 rfl dX5_readNumber_10 rfl ?_
    obtain ⟨y1, hy1, h⟩ := bd_some h
    refine r_callVAv E hw (mX5_takeToken l Z _ Ar r_text r_length r_start r_end r_kind r_error r_thing r_first r_second r_cost hy1) kL_X5_48 kI_X5_takeToken kS_X5_takeToken kN_X5 kC_X5_takeToken rfl rfl hdX5_takeToken ⟨Nat.le_of_ble_eq_true rfl, Nat.le_of_ble_eq_true rfl⟩ 0 rfl rfl rfl rfl hl [] rfl (Nat.le_of_ble_eq_true rfl) dX5_readNumber_11 ⟨Nat.zero_le _, Nat.zero_le _⟩ (fun H locs hw => ?_)
    refine r_aload_n E hl 0 rfl dX5_readNumber_14 rfl ?_
    obtain ⟨y2, hy2, h⟩ := bd_some h
    refine r_callVAi E hw (mX5_tokenNumber l Z _ Ar r_text r_length y1.1 y1.2.1 y1.2.2 r_error r_thing r_first r_second r_cost hy2) kL_X5_113 kI_X5_tokenNumber kS_X5_tokenNumber kN_X5 kC_X5_tokenNumber rfl rfl hdX5_tokenNumber ⟨Nat.le_of_ble_eq_true rfl, Nat.le_of_ble_eq_true rfl⟩ 0 rfl rfl rfl rfl hl [] rfl (Nat.le_of_ble_eq_true rfl) dX5_readNumber_15 ⟨Nat.zero_le _, Nat.zero_le _⟩ (fun H locs hw => ?_)
    refine r_istore E [(4, .int y2), (0, .ref (Ar 0)), (1, .int v1), (2, .int v2), (3, .int v3)] hl dX5_readNumber_18 (by decide) rfl (fun ls hl => ?_)
    refine r_iload E hl 0 rfl dX5_readNumber_20 ?_
    refine r_iload_n E hl 2 rfl dX5_readNumber_22 rfl ?_
    refine r_icmp_lt E 38 dX5_readNumber_23 (by decide) (fun hc => ?_) (fun hc => ?_)
    · replace h := ite_t hc h
      exact vX5_readNumber_38 E  hw (lv_sub hl [1, 0] rfl) h
    · replace h := ite_f hc h
      refine r_iload E hl 0 rfl dX5_readNumber_26 ?_
      refine r_iload_n E hl 3 rfl dX5_readNumber_28 rfl ?_
      refine r_icmp_gt E 38 dX5_readNumber_29 (by decide) (fun hc => ?_) (fun hc => ?_)
      · replace h := ite_t hc h
        exact vX5_readNumber_38 E  hw (lv_sub hl [1, 0] rfl) h
      · replace h := ite_f hc h
        refine r_iload E hl 0 rfl dX5_readNumber_32 ?_
        refine r_iload_n E hl 4 rfl dX5_readNumber_34 rfl ?_
        refine r_icmp_ne E 42 dX5_readNumber_35 (by decide) (fun hc => ?_) (fun hc => ?_)
        · replace h := ite_f hc h
          refine r_iload E hl 0 rfl dX5_readNumber_42 ?_
          obtain rfl := Option.some.inj h
          exact r_iret E hw dX5_readNumber_44
        · replace h := ite_t hc h
          exact vX5_readNumber_38 E  hw (lv_sub hl [1, 0] rfl) h
  · replace h := ite_f hc h
    refine r_iconst E (-1) dX5_readNumber_8 (by decide) ?_
    obtain rfl := Option.some.inj h
    exact r_iret E hw dX5_readNumber_9
abbrev rmX5_readSemicolon : Room := { frames := 2, cells := 0, slots := 0, locals := 42 }

set_option maxRecDepth 100000 in
set_option maxHeartbeats 4000000 in
theorem vX5_readSemicolon_35 {Z : zT} {p : Program} {l : Launch} {e : Env} {s : State} {m : MethodId} {args : Array Value} {below : List Frame} {meth : Method} {c : Code} {A : Nat → Prop} (E : zE Z p s m args meth c RX5 cX5_readSemicolon 1 none A) {Ar : Nat → Nat} {r_text : (Nat → Int32)} {r_length : Int32} {r_start : Int32} {r_end : Int32} {r_kind : Int32} {r_error : Int32} {r_thing : Int32} {r_first : Int32} {r_second : Int32} {r_cost : Int32} {res : Int32 × Int32 × Int32 × Int32}  {H : Heap} {locs : List Loc} {ls : Array Slot} (hw : zW Z A (wX5 Z Ar r_text r_length r_start r_end r_kind r_error r_thing r_first r_second r_cost) s.heap H locs) (hl : lv_has ls 1 [(0, .ref (Ar 0))]) (h : uX5_readSemicolon_35 r_start r_end r_kind = some res) : W p l e rmX5_readSemicolon s m args below meth c H locs 0 0 (MQ below (zQv Z (wX5 Z Ar r_text r_length res.1 res.2.1 res.2.2.1 res.2.2.2 r_thing r_first r_second r_cost) A) args s 0 0 A) (F0 m 35 ls []) := by
  unfold uX5_readSemicolon_35 at h
  refine r_aload_n E hl 0 rfl dX5_readSemicolon_35 rfl ?_
  obtain ⟨y2, hy2, h⟩ := bd_some h
  refine r_callVAv E hw (mX5_fail l Z _ Ar r_text r_length r_start r_end r_kind r_error r_thing r_first r_second r_cost hy2) kL_X5_93 kI_X5_fail kS_X5_fail kN_X5 kC_X5_fail rfl rfl hdX5_fail ⟨Nat.le_of_ble_eq_true rfl, Nat.le_of_ble_eq_true rfl⟩ 0 rfl rfl rfl rfl hl [] rfl (Nat.le_of_ble_eq_true rfl) dX5_readSemicolon_36 ⟨Nat.zero_le _, Nat.zero_le _⟩ (fun H locs hw => ?_)
  obtain rfl := Option.some.inj h
  exact r_vret E hw dX5_readSemicolon_39
set_option maxRecDepth 100000 in
set_option maxHeartbeats 4000000 in
theorem mX5_readSemicolon (l : Launch) (Z : zT) (sz : Nat) (Ar : Nat → Nat) (r_text : (Nat → Int32)) (r_length : Int32) (r_start : Int32) (r_end : Int32) (r_kind : Int32) (r_error : Int32) (r_thing : Int32) (r_first : Int32) (r_second : Int32) (r_cost : Int32)  {res : Int32 × Int32 × Int32 × Int32} (h : fX5_readSemicolon r_text r_length r_start r_end r_kind r_error = some res) : Met l yX5_readSemicolon (Cond.code yX5_readSemicolon cX5_readSemicolon 1 none :: zWs) rmX5_readSemicolon (zP Z (wX5 Z Ar r_text r_length r_start r_end r_kind r_error r_thing r_first r_second r_cost) sz [.ref (Ar 0)]) (zQv Z (wX5 Z Ar r_text r_length res.1 res.2.1 res.2.2.1 res.2.2.2 r_thing r_first r_second r_cost) (va_A (wX5 Z Ar r_text r_length r_start r_end r_kind r_error r_thing r_first r_second r_cost) sz)) 0 0 (va_A (wX5 Z Ar r_text r_length r_start r_end r_kind r_error r_thing r_first r_second r_cost) sz) := by
  refine zMet (own := RX5) (fun A => zQv Z (wX5 Z Ar r_text r_length res.1 res.2.1 res.2.2.1 res.2.2.2 r_thing r_first r_second r_cost) A) (by decide) rfl (Nat.le_of_ble_eq_true rfl) ?_
  intro p e s m args below meth c ls A E hw hl
  unfold fX5_readSemicolon at h
  refine r_aload_n E hl 0 rfl dX5_readSemicolon_0 rfl ?_
  refine r_get E kW_X5 hw 0 rfl rfl 5 (by decide) kF_X5_28 rfl dX5_readSemicolon_1 ?_
  refine r_iconst E (-1) dX5_readSemicolon_4 (by decide) ?_
  refine r_icmp_eq E 9 dX5_readSemicolon_5 (by decide) (fun hc => ?_) (fun hc => ?_)
  · replace h := ite_t hc h
    refine r_aload_n E hl 0 rfl dX5_readSemicolon_9 rfl ?_
    obtain ⟨y1, hy1, h⟩ := bd_some h
    refine r_callVAv E hw (mX5_takeToken l Z _ Ar r_text r_length r_start r_end r_kind r_error r_thing r_first r_second r_cost hy1) kL_X5_48 kI_X5_takeToken kS_X5_takeToken kN_X5 kC_X5_takeToken rfl rfl hdX5_takeToken ⟨Nat.le_of_ble_eq_true rfl, Nat.le_of_ble_eq_true rfl⟩ 0 rfl rfl rfl rfl hl [] rfl (Nat.le_of_ble_eq_true rfl) dX5_readSemicolon_10 ⟨Nat.zero_le _, Nat.zero_le _⟩ (fun H locs hw => ?_)
    refine r_aload_n E hl 0 rfl dX5_readSemicolon_13 rfl ?_
    refine r_get E kW_X5 hw 0 rfl rfl 4 (by decide) kF_X5_25 rfl dX5_readSemicolon_14 ?_
    refine r_iconst E 3 dX5_readSemicolon_17 (by decide) ?_
    refine r_icmp_ne E 35 dX5_readSemicolon_18 (by decide) (fun hc => ?_) (fun hc => ?_)
    · replace h := ite_f hc h
      exact vX5_readSemicolon_35 E  hw hl h
    · replace h := ite_t hc h
      refine r_aload_n E hl 0 rfl dX5_readSemicolon_21 rfl ?_
      refine r_get E kW_X5 hw 0 rfl rfl 0 (by decide) kF_X5_9 rfl dX5_readSemicolon_22 ?_
      refine r_aload_n E hl 0 rfl dX5_readSemicolon_25 rfl ?_
      refine r_get E kW_X5 hw 0 rfl rfl 2 (by decide) kF_X5_19 rfl dX5_readSemicolon_26 ?_
      obtain ⟨hg3, h⟩ := gd_some h
      refine r_cald E hw 1 rfl hg3 dX5_readSemicolon_29 ?_
      refine r_bipush E 59 dX5_readSemicolon_30 (by decide) ?_
      refine r_icmp_eq E 39 dX5_readSemicolon_32 (by decide) (fun hc => ?_) (fun hc => ?_)
      · replace h := ite_t hc h
        obtain rfl := Option.some.inj h
        exact r_vret E hw dX5_readSemicolon_39
      · replace h := ite_f hc h
        exact vX5_readSemicolon_35 E  hw hl h
  · replace h := ite_f hc h
    obtain rfl := Option.some.inj h
    exact r_vret E hw dX5_readSemicolon_8
abbrev rmX5_readNode : Room := { frames := 3, cells := 0, slots := 0, locals := 66 }

set_option maxRecDepth 100000 in
set_option maxHeartbeats 4000000 in
theorem vX5_readNode_13 {Z : zT} {p : Program} {l : Launch} {e : Env} {s : State} {m : MethodId} {args : Array Value} {below : List Frame} {meth : Method} {c : Code} {A : Nat → Prop} (E : zE Z p s m args meth c RX5 cX5_readNode 2 none A) {Ar : Nat → Nat} {An : Nat → Nat} {r_text : (Nat → Int32)} {r_length : Int32} {r_start : Int32} {r_end : Int32} {r_kind : Int32} {r_error : Int32} {r_thing : Int32} {r_first : Int32} {r_second : Int32} {r_cost : Int32} {n_nodes : Int32} {n_links : Int32} {n_tunnels : Int32} {n_messages : Int32} {n_areas : (Nat → Int32)} {n_firsts : (Nat → Int32)} {n_seconds : (Nat → Int32)} {n_privates : (Nat → Int32)} {n_entries : (Nat → Int32)} {n_exits : (Nat → Int32)} {n_truth : (Nat → Int32)} {n_facts : (Nat → Int32)} {n_news : (Nat → Int64)} {res : Int32 × Int32 × Int32 × Int32 × Int32}  {H : Heap} {locs : List Loc} {ls : Array Slot} (hw : zW Z A ((wX5 Z Ar r_text r_length r_start r_end r_kind r_error r_thing r_first r_second r_cost ++ wX3 Z An n_nodes n_links n_tunnels n_messages n_areas n_firsts n_seconds n_privates n_entries n_exits n_truth n_facts n_news)) s.heap H locs) (hl : lv_has ls 2 [(0, .ref (Ar 0))]) (h : uX5_readNode_13 r_text r_length r_start r_end r_kind r_error = some res) : W p l e rmX5_readNode s m args below meth c H locs 0 0 (MQ below (zQv Z ((wX5 Z Ar r_text r_length res.1 res.2.1 res.2.2.1 res.2.2.2.1 r_thing res.2.2.2.2 r_second r_cost ++ wX3 Z An n_nodes n_links n_tunnels n_messages n_areas n_firsts n_seconds n_privates n_entries n_exits n_truth n_facts n_news)) A) args s 0 0 A) (F0 m 13 ls []) := by
  unfold uX5_readNode_13 at h
  refine r_aload_n E hl 0 rfl dX5_readNode_13 rfl ?_
  refine r_aload_n E hl 0 rfl dX5_readNode_14 rfl ?_
  refine r_iconst E 0 dX5_readNode_15 (by decide) ?_
  refine r_iconst E 3 dX5_readNode_16 (by decide) ?_
  refine r_iconst E (-1) dX5_readNode_17 (by decide) ?_
  obtain ⟨y1, hy1, h⟩ := bd_some h
  refine r_callVQi E ((wX5 Z Ar r_text r_length y1.2.1 y1.2.2.1 y1.2.2.2.1 y1.2.2.2.2 r_thing r_first r_second r_cost ++ wX3 Z An n_nodes n_links n_tunnels n_messages n_areas n_firsts n_seconds n_privates n_entries n_exits n_truth n_facts n_news)) (wX3 Z An n_nodes n_links n_tunnels n_messages n_areas n_firsts n_seconds n_privates n_entries n_exits n_truth n_facts n_news) hw (mX5_readNumber l Z _ Ar r_text r_length r_start r_end r_kind r_error r_thing r_first r_second r_cost (0 : Int32) (3 : Int32) (-1 : Int32) hy1) kL_X5_102 kI_X5_readNumber kS_X5_readNumber kN_X5 kC_X5_readNumber rfl rfl hdX5_readNumber ⟨Nat.le_of_ble_eq_true rfl, Nat.le_of_ble_eq_true rfl⟩ (fun f => by simp only [sf_app] <;> omega) (fun f => by simp only [sf_app] <;> omega) 0 rfl rfl rfl rfl hl [.ref (Ar 0)] rfl (Nat.le_of_ble_eq_true rfl) dX5_readNode_18 ⟨Nat.zero_le _, Nat.zero_le _⟩ (fun H locs hw => ?_)
  refine r_put E ((wX5 Z Ar r_text r_length y1.2.1 y1.2.2.1 y1.2.2.2.1 y1.2.2.2.2 r_thing y1.1 r_second r_cost ++ wX3 Z An n_nodes n_links n_tunnels n_messages n_areas n_firsts n_seconds n_privates n_entries n_exits n_truth n_facts n_news)) kW_X5 tyX5_ok nmX5 hw 0 rfl rfl 7 (by decide) kF_X5_34 rfl rfl rfl (Nat.le_of_ble_eq_true rfl) rfl dX5_readNode_21 (fun H locs hw => ?_)
  obtain rfl := Option.some.inj h
  exact r_vret E hw dX5_readNode_24
set_option maxRecDepth 100000 in
set_option maxHeartbeats 4000000 in
theorem mX5_readNode (l : Launch) (Z : zT) (sz : Nat) (Ar : Nat → Nat) (An : Nat → Nat) (r_text : (Nat → Int32)) (r_length : Int32) (r_start : Int32) (r_end : Int32) (r_kind : Int32) (r_error : Int32) (r_thing : Int32) (r_first : Int32) (r_second : Int32) (r_cost : Int32) (n_nodes : Int32) (n_links : Int32) (n_tunnels : Int32) (n_messages : Int32) (n_areas : (Nat → Int32)) (n_firsts : (Nat → Int32)) (n_seconds : (Nat → Int32)) (n_privates : (Nat → Int32)) (n_entries : (Nat → Int32)) (n_exits : (Nat → Int32)) (n_truth : (Nat → Int32)) (n_facts : (Nat → Int32)) (n_news : (Nat → Int64))  {res : Int32 × Int32 × Int32 × Int32 × Int32} (h : fX5_readNode r_text r_length r_start r_end r_kind r_error n_nodes = some res) : Met l yX5_readNode (Cond.code yX5_readNode cX5_readNode 2 none :: zWs) rmX5_readNode (zP Z ((wX5 Z Ar r_text r_length r_start r_end r_kind r_error r_thing r_first r_second r_cost ++ wX3 Z An n_nodes n_links n_tunnels n_messages n_areas n_firsts n_seconds n_privates n_entries n_exits n_truth n_facts n_news)) sz [.ref (Ar 0), .ref (An 0)]) (zQv Z ((wX5 Z Ar r_text r_length res.1 res.2.1 res.2.2.1 res.2.2.2.1 r_thing res.2.2.2.2 r_second r_cost ++ wX3 Z An n_nodes n_links n_tunnels n_messages n_areas n_firsts n_seconds n_privates n_entries n_exits n_truth n_facts n_news)) (va_A ((wX5 Z Ar r_text r_length r_start r_end r_kind r_error r_thing r_first r_second r_cost ++ wX3 Z An n_nodes n_links n_tunnels n_messages n_areas n_firsts n_seconds n_privates n_entries n_exits n_truth n_facts n_news)) sz)) 0 0 (va_A ((wX5 Z Ar r_text r_length r_start r_end r_kind r_error r_thing r_first r_second r_cost ++ wX3 Z An n_nodes n_links n_tunnels n_messages n_areas n_firsts n_seconds n_privates n_entries n_exits n_truth n_facts n_news)) sz) := by
  refine zMet (own := RX5) (fun A => zQv Z ((wX5 Z Ar r_text r_length res.1 res.2.1 res.2.2.1 res.2.2.2.1 r_thing res.2.2.2.2 r_second r_cost ++ wX3 Z An n_nodes n_links n_tunnels n_messages n_areas n_firsts n_seconds n_privates n_entries n_exits n_truth n_facts n_news)) A) (by decide) rfl (Nat.le_of_ble_eq_true rfl) ?_
  intro p e s m args below meth c ls A E hw hl
  unfold fX5_readNode at h
  refine r_aload_n E hl 1 rfl dX5_readNode_0 rfl ?_
  refine r_get E kW_X3 hw 2 rfl rfl 0 (by decide) kF_X5_99 rfl dX5_readNode_1 ?_
  refine r_bipush E 10 dX5_readNode_4 (by decide) ?_
  refine r_icmp_lt E 13 dX5_readNode_6 (by decide) (fun hc => ?_) (fun hc => ?_)
  · replace h := ite_t hc h
    exact vX5_readNode_13 E  hw (lv_sub hl [0] rfl) h
  · replace h := ite_f hc h
    refine r_aload_n E hl 0 rfl dX5_readNode_9 rfl ?_
    obtain ⟨y2, hy2, h⟩ := bd_some h
    refine r_callVQv E ((wX5 Z Ar r_text r_length r_start r_end r_kind y2 r_thing r_first r_second r_cost ++ wX3 Z An n_nodes n_links n_tunnels n_messages n_areas n_firsts n_seconds n_privates n_entries n_exits n_truth n_facts n_news)) (wX3 Z An n_nodes n_links n_tunnels n_messages n_areas n_firsts n_seconds n_privates n_entries n_exits n_truth n_facts n_news) hw (mX5_fail l Z _ Ar r_text r_length r_start r_end r_kind r_error r_thing r_first r_second r_cost hy2) kL_X5_93 kI_X5_fail kS_X5_fail kN_X5 kC_X5_fail rfl rfl hdX5_fail ⟨Nat.le_of_ble_eq_true rfl, Nat.le_of_ble_eq_true rfl⟩ (fun f => by simp only [sf_app] <;> omega) (fun f => by simp only [sf_app] <;> omega) 0 rfl rfl rfl rfl hl [] rfl (Nat.le_of_ble_eq_true rfl) dX5_readNode_10 ⟨Nat.zero_le _, Nat.zero_le _⟩ (fun H locs hw => ?_)
    exact vX5_readNode_13 E  hw (lv_sub hl [0] rfl) h
abbrev rmX5_readLine : Room := { frames := 3, cells := 0, slots := 0, locals := 66 }

set_option maxRecDepth 100000 in
set_option maxHeartbeats 4000000 in
theorem vX5_readLine_8 {Z : zT} {p : Program} {l : Launch} {e : Env} {s : State} {m : MethodId} {args : Array Value} {below : List Frame} {meth : Method} {c : Code} {A : Nat → Prop} (E : zE Z p s m args meth c RX5 cX5_readLine 4 none A) {Ar : Nat → Nat} {An : Nat → Nat} {v3 : Int32} {r_text : (Nat → Int32)} {r_length : Int32} {r_start : Int32} {r_end : Int32} {r_kind : Int32} {r_error : Int32} {r_thing : Int32} {r_first : Int32} {r_second : Int32} {r_cost : Int32} {n_nodes : Int32} {n_links : Int32} {n_tunnels : Int32} {n_messages : Int32} {n_areas : (Nat → Int32)} {n_firsts : (Nat → Int32)} {n_seconds : (Nat → Int32)} {n_privates : (Nat → Int32)} {n_entries : (Nat → Int32)} {n_exits : (Nat → Int32)} {n_truth : (Nat → Int32)} {n_facts : (Nat → Int32)} {n_news : (Nat → Int64)} {res : Int32 × Int32 × Int32 × Int32 × Int32 × Int32 × Int32}  {H : Heap} {locs : List Loc} {ls : Array Slot} (hw : zW Z A ((wX5 Z Ar r_text r_length r_start r_end r_kind r_error r_thing r_first r_second r_cost ++ wX3 Z An n_nodes n_links n_tunnels n_messages n_areas n_firsts n_seconds n_privates n_entries n_exits n_truth n_facts n_news)) s.heap H locs) (hl : lv_has ls 4 [(0, .ref (Ar 0)), (1, .ref (An 0)), (3, .int v3)]) (h : uX5_readLine_8 v3 r_text r_length r_start r_end r_kind r_error n_nodes = some res) : W p l e rmX5_readLine s m args below meth c H locs 0 0 (MQ below (zQv Z ((wX5 Z Ar r_text r_length res.1 res.2.1 res.2.2.1 res.2.2.2.1 r_thing res.2.2.2.2.1 res.2.2.2.2.2.1 res.2.2.2.2.2.2 ++ wX3 Z An n_nodes n_links n_tunnels n_messages n_areas n_firsts n_seconds n_privates n_entries n_exits n_truth n_facts n_news)) A) args s 0 0 A) (F0 m 8 ls []) := by
  unfold uX5_readLine_8 at h
  refine r_aload_n E hl 0 rfl dX5_readLine_8 rfl ?_
  refine r_aload_n E hl 0 rfl dX5_readLine_9 rfl ?_
  refine r_iconst E 0 dX5_readLine_10 (by decide) ?_
  refine r_aload_n E hl 1 rfl dX5_readLine_11 rfl ?_
  refine r_get E kW_X3 hw 2 rfl rfl 0 (by decide) kF_X5_99 rfl dX5_readLine_12 ?_
  refine r_iconst E 1 dX5_readLine_15 (by decide) ?_
  refine r_isub E dX5_readLine_16 ?_
  refine r_iconst E (-1) dX5_readLine_17 (by decide) ?_
  obtain ⟨y1, hy1, h⟩ := bd_some h
  refine r_callVQi E ((wX5 Z Ar r_text r_length y1.2.1 y1.2.2.1 y1.2.2.2.1 y1.2.2.2.2 r_thing r_first r_second r_cost ++ wX3 Z An n_nodes n_links n_tunnels n_messages n_areas n_firsts n_seconds n_privates n_entries n_exits n_truth n_facts n_news)) (wX3 Z An n_nodes n_links n_tunnels n_messages n_areas n_firsts n_seconds n_privates n_entries n_exits n_truth n_facts n_news) hw (mX5_readNumber l Z _ Ar r_text r_length r_start r_end r_kind r_error r_thing r_first r_second r_cost (0 : Int32) (n_nodes - (1 : Int32)) (-1 : Int32) hy1) kL_X5_102 kI_X5_readNumber kS_X5_readNumber kN_X5 kC_X5_readNumber rfl rfl hdX5_readNumber ⟨Nat.le_of_ble_eq_true rfl, Nat.le_of_ble_eq_true rfl⟩ (fun f => by simp only [sf_app] <;> omega) (fun f => by simp only [sf_app] <;> omega) 0 rfl rfl rfl rfl hl [.ref (Ar 0)] rfl (Nat.le_of_ble_eq_true rfl) dX5_readLine_18 ⟨Nat.zero_le _, Nat.zero_le _⟩ (fun H locs hw => ?_)
  refine r_put E ((wX5 Z Ar r_text r_length y1.2.1 y1.2.2.1 y1.2.2.2.1 y1.2.2.2.2 r_thing y1.1 r_second r_cost ++ wX3 Z An n_nodes n_links n_tunnels n_messages n_areas n_firsts n_seconds n_privates n_entries n_exits n_truth n_facts n_news)) kW_X5 tyX5_ok nmX5 hw 0 rfl rfl 7 (by decide) kF_X5_34 rfl rfl rfl (Nat.le_of_ble_eq_true rfl) rfl dX5_readLine_21 (fun H locs hw => ?_)
  refine r_aload_n E hl 0 rfl dX5_readLine_24 rfl ?_
  refine r_aload_n E hl 0 rfl dX5_readLine_25 rfl ?_
  refine r_iconst E 0 dX5_readLine_26 (by decide) ?_
  refine r_aload_n E hl 1 rfl dX5_readLine_27 rfl ?_
  refine r_get E kW_X3 hw 2 rfl rfl 0 (by decide) kF_X5_99 rfl dX5_readLine_28 ?_
  refine r_iconst E 1 dX5_readLine_31 (by decide) ?_
  refine r_isub E dX5_readLine_32 ?_
  refine r_aload_n E hl 0 rfl dX5_readLine_33 rfl ?_
  refine r_get E kW_X5 hw 0 rfl rfl 7 (by decide) kF_X5_34 rfl dX5_readLine_34 ?_
  obtain ⟨y2, hy2, h⟩ := bd_some h
  refine r_callVQi E ((wX5 Z Ar r_text r_length y2.2.1 y2.2.2.1 y2.2.2.2.1 y2.2.2.2.2 r_thing y1.1 r_second r_cost ++ wX3 Z An n_nodes n_links n_tunnels n_messages n_areas n_firsts n_seconds n_privates n_entries n_exits n_truth n_facts n_news)) (wX3 Z An n_nodes n_links n_tunnels n_messages n_areas n_firsts n_seconds n_privates n_entries n_exits n_truth n_facts n_news) hw (mX5_readNumber l Z _ Ar r_text r_length y1.2.1 y1.2.2.1 y1.2.2.2.1 y1.2.2.2.2 r_thing y1.1 r_second r_cost (0 : Int32) (n_nodes - (1 : Int32)) y1.1 hy2) kL_X5_102 kI_X5_readNumber kS_X5_readNumber kN_X5 kC_X5_readNumber rfl rfl hdX5_readNumber ⟨Nat.le_of_ble_eq_true rfl, Nat.le_of_ble_eq_true rfl⟩ (fun f => by simp only [sf_app] <;> omega) (fun f => by simp only [sf_app] <;> omega) 0 rfl rfl rfl rfl hl [.ref (Ar 0)] rfl (Nat.le_of_ble_eq_true rfl) dX5_readLine_37 ⟨Nat.zero_le _, Nat.zero_le _⟩ (fun H locs hw => ?_)
  refine r_put E ((wX5 Z Ar r_text r_length y2.2.1 y2.2.2.1 y2.2.2.2.1 y2.2.2.2.2 r_thing y1.1 y2.1 r_cost ++ wX3 Z An n_nodes n_links n_tunnels n_messages n_areas n_firsts n_seconds n_privates n_entries n_exits n_truth n_facts n_news)) kW_X5 tyX5_ok nmX5 hw 0 rfl rfl 8 (by decide) kF_X5_37 rfl rfl rfl (Nat.le_of_ble_eq_true rfl) rfl dX5_readLine_40 (fun H locs hw => ?_)
  refine r_aload_n E hl 0 rfl dX5_readLine_43 rfl ?_
  refine r_aload_n E hl 0 rfl dX5_readLine_44 rfl ?_
  refine r_iconst E 1 dX5_readLine_45 (by decide) ?_
  refine r_iload_n E hl 2 rfl dX5_readLine_46 rfl ?_
  refine r_iconst E (-1) dX5_readLine_47 (by decide) ?_
  obtain ⟨y3, hy3, h⟩ := bd_some h
  refine r_callVQi E ((wX5 Z Ar r_text r_length y3.2.1 y3.2.2.1 y3.2.2.2.1 y3.2.2.2.2 r_thing y1.1 y2.1 r_cost ++ wX3 Z An n_nodes n_links n_tunnels n_messages n_areas n_firsts n_seconds n_privates n_entries n_exits n_truth n_facts n_news)) (wX3 Z An n_nodes n_links n_tunnels n_messages n_areas n_firsts n_seconds n_privates n_entries n_exits n_truth n_facts n_news) hw (mX5_readNumber l Z _ Ar r_text r_length y2.2.1 y2.2.2.1 y2.2.2.2.1 y2.2.2.2.2 r_thing y1.1 y2.1 r_cost (1 : Int32) v3 (-1 : Int32) hy3) kL_X5_102 kI_X5_readNumber kS_X5_readNumber kN_X5 kC_X5_readNumber rfl rfl hdX5_readNumber ⟨Nat.le_of_ble_eq_true rfl, Nat.le_of_ble_eq_true rfl⟩ (fun f => by simp only [sf_app] <;> omega) (fun f => by simp only [sf_app] <;> omega) 0 rfl rfl rfl rfl hl [.ref (Ar 0)] rfl (Nat.le_of_ble_eq_true rfl) dX5_readLine_48 ⟨Nat.zero_le _, Nat.zero_le _⟩ (fun H locs hw => ?_)
  refine r_put E ((wX5 Z Ar r_text r_length y3.2.1 y3.2.2.1 y3.2.2.2.1 y3.2.2.2.2 r_thing y1.1 y2.1 y3.1 ++ wX3 Z An n_nodes n_links n_tunnels n_messages n_areas n_firsts n_seconds n_privates n_entries n_exits n_truth n_facts n_news)) kW_X5 tyX5_ok nmX5 hw 0 rfl rfl 9 (by decide) kF_X5_40 rfl rfl rfl (Nat.le_of_ble_eq_true rfl) rfl dX5_readLine_51 (fun H locs hw => ?_)
  obtain rfl := Option.some.inj h
  exact r_vret E hw dX5_readLine_54
set_option maxRecDepth 100000 in
set_option maxHeartbeats 4000000 in
theorem mX5_readLine (l : Launch) (Z : zT) (sz : Nat) (Ar : Nat → Nat) (An : Nat → Nat) (r_text : (Nat → Int32)) (r_length : Int32) (r_start : Int32) (r_end : Int32) (r_kind : Int32) (r_error : Int32) (r_thing : Int32) (r_first : Int32) (r_second : Int32) (r_cost : Int32) (n_nodes : Int32) (n_links : Int32) (n_tunnels : Int32) (n_messages : Int32) (n_areas : (Nat → Int32)) (n_firsts : (Nat → Int32)) (n_seconds : (Nat → Int32)) (n_privates : (Nat → Int32)) (n_entries : (Nat → Int32)) (n_exits : (Nat → Int32)) (n_truth : (Nat → Int32)) (n_facts : (Nat → Int32)) (n_news : (Nat → Int64)) (v2 : Int32) (v3 : Int32) {res : Int32 × Int32 × Int32 × Int32 × Int32 × Int32 × Int32} (h : fX5_readLine v2 v3 r_text r_length r_start r_end r_kind r_error n_nodes = some res) : Met l yX5_readLine (Cond.code yX5_readLine cX5_readLine 4 none :: zWs) rmX5_readLine (zP Z ((wX5 Z Ar r_text r_length r_start r_end r_kind r_error r_thing r_first r_second r_cost ++ wX3 Z An n_nodes n_links n_tunnels n_messages n_areas n_firsts n_seconds n_privates n_entries n_exits n_truth n_facts n_news)) sz [.ref (Ar 0), .ref (An 0), .int v2, .int v3]) (zQv Z ((wX5 Z Ar r_text r_length res.1 res.2.1 res.2.2.1 res.2.2.2.1 r_thing res.2.2.2.2.1 res.2.2.2.2.2.1 res.2.2.2.2.2.2 ++ wX3 Z An n_nodes n_links n_tunnels n_messages n_areas n_firsts n_seconds n_privates n_entries n_exits n_truth n_facts n_news)) (va_A ((wX5 Z Ar r_text r_length r_start r_end r_kind r_error r_thing r_first r_second r_cost ++ wX3 Z An n_nodes n_links n_tunnels n_messages n_areas n_firsts n_seconds n_privates n_entries n_exits n_truth n_facts n_news)) sz)) 0 0 (va_A ((wX5 Z Ar r_text r_length r_start r_end r_kind r_error r_thing r_first r_second r_cost ++ wX3 Z An n_nodes n_links n_tunnels n_messages n_areas n_firsts n_seconds n_privates n_entries n_exits n_truth n_facts n_news)) sz) := by
  refine zMet (own := RX5) (fun A => zQv Z ((wX5 Z Ar r_text r_length res.1 res.2.1 res.2.2.1 res.2.2.2.1 r_thing res.2.2.2.2.1 res.2.2.2.2.2.1 res.2.2.2.2.2.2 ++ wX3 Z An n_nodes n_links n_tunnels n_messages n_areas n_firsts n_seconds n_privates n_entries n_exits n_truth n_facts n_news)) A) (by decide) rfl (Nat.le_of_ble_eq_true rfl) ?_
  intro p e s m args below meth c ls A E hw hl
  unfold fX5_readLine at h
  refine r_iload_n E hl 2 rfl dX5_readLine_0 rfl ?_
  refine r_if_ne E 8 dX5_readLine_1 (by decide) (fun hc => ?_) (fun hc => ?_)
  · replace h := ite_f hc h
    exact vX5_readLine_8 E  hw (lv_sub hl [0, 1, 3] rfl) h
  · replace h := ite_t hc h
    refine r_aload_n E hl 0 rfl dX5_readLine_4 rfl ?_
    obtain ⟨y4, hy4, h⟩ := bd_some h
    refine r_callVQv E ((wX5 Z Ar r_text r_length r_start r_end r_kind y4 r_thing r_first r_second r_cost ++ wX3 Z An n_nodes n_links n_tunnels n_messages n_areas n_firsts n_seconds n_privates n_entries n_exits n_truth n_facts n_news)) (wX3 Z An n_nodes n_links n_tunnels n_messages n_areas n_firsts n_seconds n_privates n_entries n_exits n_truth n_facts n_news) hw (mX5_fail l Z _ Ar r_text r_length r_start r_end r_kind r_error r_thing r_first r_second r_cost hy4) kL_X5_93 kI_X5_fail kS_X5_fail kN_X5 kC_X5_fail rfl rfl hdX5_fail ⟨Nat.le_of_ble_eq_true rfl, Nat.le_of_ble_eq_true rfl⟩ (fun f => by simp only [sf_app] <;> omega) (fun f => by simp only [sf_app] <;> omega) 0 rfl rfl rfl rfl hl [] rfl (Nat.le_of_ble_eq_true rfl) dX5_readLine_5 ⟨Nat.zero_le _, Nat.zero_le _⟩ (fun H locs hw => ?_)
    exact vX5_readLine_8 E  hw (lv_sub hl [0, 1, 3] rfl) h
abbrev rmX5_readGrant : Room := { frames := 3, cells := 0, slots := 0, locals := 66 }

set_option maxRecDepth 100000 in
set_option maxHeartbeats 4000000 in
theorem mX5_readGrant (l : Launch) (Z : zT) (sz : Nat) (Ar : Nat → Nat) (An : Nat → Nat) (r_text : (Nat → Int32)) (r_length : Int32) (r_start : Int32) (r_end : Int32) (r_kind : Int32) (r_error : Int32) (r_thing : Int32) (r_first : Int32) (r_second : Int32) (r_cost : Int32) (n_nodes : Int32) (n_links : Int32) (n_tunnels : Int32) (n_messages : Int32) (n_areas : (Nat → Int32)) (n_firsts : (Nat → Int32)) (n_seconds : (Nat → Int32)) (n_privates : (Nat → Int32)) (n_entries : (Nat → Int32)) (n_exits : (Nat → Int32)) (n_truth : (Nat → Int32)) (n_facts : (Nat → Int32)) (n_news : (Nat → Int64))  {res : Int32 × Int32 × Int32 × Int32 × Int32 × Int32} (h : fX5_readGrant r_text r_length r_start r_end r_kind r_error n_truth = some res) : Met l yX5_readGrant (Cond.code yX5_readGrant cX5_readGrant 2 none :: zWs) rmX5_readGrant (zP Z ((wX5 Z Ar r_text r_length r_start r_end r_kind r_error r_thing r_first r_second r_cost ++ wX3 Z An n_nodes n_links n_tunnels n_messages n_areas n_firsts n_seconds n_privates n_entries n_exits n_truth n_facts n_news)) sz [.ref (Ar 0), .ref (An 0)]) (zQv Z ((wX5 Z Ar r_text r_length res.1 res.2.1 res.2.2.1 res.2.2.2.1 r_thing res.2.2.2.2.1 res.2.2.2.2.2 r_cost ++ wX3 Z An n_nodes n_links n_tunnels n_messages n_areas n_firsts n_seconds n_privates n_entries n_exits n_truth n_facts n_news)) (va_A ((wX5 Z Ar r_text r_length r_start r_end r_kind r_error r_thing r_first r_second r_cost ++ wX3 Z An n_nodes n_links n_tunnels n_messages n_areas n_firsts n_seconds n_privates n_entries n_exits n_truth n_facts n_news)) sz)) 0 0 (va_A ((wX5 Z Ar r_text r_length r_start r_end r_kind r_error r_thing r_first r_second r_cost ++ wX3 Z An n_nodes n_links n_tunnels n_messages n_areas n_firsts n_seconds n_privates n_entries n_exits n_truth n_facts n_news)) sz) := by
  refine zMet (own := RX5) (fun A => zQv Z ((wX5 Z Ar r_text r_length res.1 res.2.1 res.2.2.1 res.2.2.2.1 r_thing res.2.2.2.2.1 res.2.2.2.2.2 r_cost ++ wX3 Z An n_nodes n_links n_tunnels n_messages n_areas n_firsts n_seconds n_privates n_entries n_exits n_truth n_facts n_news)) A) (by decide) rfl (Nat.le_of_ble_eq_true rfl) ?_
  intro p e s m args below meth c ls A E hw hl
  unfold fX5_readGrant at h
  refine r_aload_n E hl 0 rfl dX5_readGrant_0 rfl ?_
  refine r_aload_n E hl 0 rfl dX5_readGrant_1 rfl ?_
  refine r_iconst E 0 dX5_readGrant_2 (by decide) ?_
  refine r_iconst E 3 dX5_readGrant_3 (by decide) ?_
  refine r_iconst E (-1) dX5_readGrant_4 (by decide) ?_
  obtain ⟨y1, hy1, h⟩ := bd_some h
  refine r_callVQi E ((wX5 Z Ar r_text r_length y1.2.1 y1.2.2.1 y1.2.2.2.1 y1.2.2.2.2 r_thing r_first r_second r_cost ++ wX3 Z An n_nodes n_links n_tunnels n_messages n_areas n_firsts n_seconds n_privates n_entries n_exits n_truth n_facts n_news)) (wX3 Z An n_nodes n_links n_tunnels n_messages n_areas n_firsts n_seconds n_privates n_entries n_exits n_truth n_facts n_news) hw (mX5_readNumber l Z _ Ar r_text r_length r_start r_end r_kind r_error r_thing r_first r_second r_cost (0 : Int32) (3 : Int32) (-1 : Int32) hy1) kL_X5_102 kI_X5_readNumber kS_X5_readNumber kN_X5 kC_X5_readNumber rfl rfl hdX5_readNumber ⟨Nat.le_of_ble_eq_true rfl, Nat.le_of_ble_eq_true rfl⟩ (fun f => by simp only [sf_app] <;> omega) (fun f => by simp only [sf_app] <;> omega) 0 rfl rfl rfl rfl hl [.ref (Ar 0)] rfl (Nat.le_of_ble_eq_true rfl) dX5_readGrant_5 ⟨Nat.zero_le _, Nat.zero_le _⟩ (fun H locs hw => ?_)
  refine r_put E ((wX5 Z Ar r_text r_length y1.2.1 y1.2.2.1 y1.2.2.2.1 y1.2.2.2.2 r_thing y1.1 r_second r_cost ++ wX3 Z An n_nodes n_links n_tunnels n_messages n_areas n_firsts n_seconds n_privates n_entries n_exits n_truth n_facts n_news)) kW_X5 tyX5_ok nmX5 hw 0 rfl rfl 7 (by decide) kF_X5_34 rfl rfl rfl (Nat.le_of_ble_eq_true rfl) rfl dX5_readGrant_8 (fun H locs hw => ?_)
  refine r_aload_n E hl 0 rfl dX5_readGrant_11 rfl ?_
  refine r_aload_n E hl 0 rfl dX5_readGrant_12 rfl ?_
  refine r_iconst E 0 dX5_readGrant_13 (by decide) ?_
  refine r_iconst E 3 dX5_readGrant_14 (by decide) ?_
  refine r_aload_n E hl 0 rfl dX5_readGrant_15 rfl ?_
  refine r_get E kW_X5 hw 0 rfl rfl 7 (by decide) kF_X5_34 rfl dX5_readGrant_16 ?_
  obtain ⟨y2, hy2, h⟩ := bd_some h
  refine r_callVQi E ((wX5 Z Ar r_text r_length y2.2.1 y2.2.2.1 y2.2.2.2.1 y2.2.2.2.2 r_thing y1.1 r_second r_cost ++ wX3 Z An n_nodes n_links n_tunnels n_messages n_areas n_firsts n_seconds n_privates n_entries n_exits n_truth n_facts n_news)) (wX3 Z An n_nodes n_links n_tunnels n_messages n_areas n_firsts n_seconds n_privates n_entries n_exits n_truth n_facts n_news) hw (mX5_readNumber l Z _ Ar r_text r_length y1.2.1 y1.2.2.1 y1.2.2.2.1 y1.2.2.2.2 r_thing y1.1 r_second r_cost (0 : Int32) (3 : Int32) y1.1 hy2) kL_X5_102 kI_X5_readNumber kS_X5_readNumber kN_X5 kC_X5_readNumber rfl rfl hdX5_readNumber ⟨Nat.le_of_ble_eq_true rfl, Nat.le_of_ble_eq_true rfl⟩ (fun f => by simp only [sf_app] <;> omega) (fun f => by simp only [sf_app] <;> omega) 0 rfl rfl rfl rfl hl [.ref (Ar 0)] rfl (Nat.le_of_ble_eq_true rfl) dX5_readGrant_19 ⟨Nat.zero_le _, Nat.zero_le _⟩ (fun H locs hw => ?_)
  refine r_put E ((wX5 Z Ar r_text r_length y2.2.1 y2.2.2.1 y2.2.2.2.1 y2.2.2.2.2 r_thing y1.1 y2.1 r_cost ++ wX3 Z An n_nodes n_links n_tunnels n_messages n_areas n_firsts n_seconds n_privates n_entries n_exits n_truth n_facts n_news)) kW_X5 tyX5_ok nmX5 hw 0 rfl rfl 8 (by decide) kF_X5_37 rfl rfl rfl (Nat.le_of_ble_eq_true rfl) rfl dX5_readGrant_22 (fun H locs hw => ?_)
  refine r_aload_n E hl 0 rfl dX5_readGrant_25 rfl ?_
  refine r_get E kW_X5 hw 0 rfl rfl 5 (by decide) kF_X5_28 rfl dX5_readGrant_26 ?_
  refine r_iconst E (-1) dX5_readGrant_29 (by decide) ?_
  refine r_icmp_ne E 55 dX5_readGrant_30 (by decide) (fun hc => ?_) (fun hc => ?_)
  · replace h := ite_f hc h
    obtain rfl := Option.some.inj h
    exact r_vret E hw dX5_readGrant_55
  · replace h := ite_t hc h
    refine r_aload_n E hl 1 rfl dX5_readGrant_33 rfl ?_
    refine r_aload_n E hl 0 rfl dX5_readGrant_34 rfl ?_
    refine r_get E kW_X5 hw 0 rfl rfl 7 (by decide) kF_X5_34 rfl dX5_readGrant_35 ?_
    refine r_aload_n E hl 0 rfl dX5_readGrant_38 rfl ?_
    refine r_get E kW_X5 hw 0 rfl rfl 8 (by decide) kF_X5_37 rfl dX5_readGrant_39 ?_
    obtain ⟨y3, hy3, h⟩ := bd_some h
    refine r_callSN0i E hw (mX6_grantItem l Z _ y1.1 y2.1 hy3) E.2.2.2.2.1.2.2.2.2.1 kT_X6_grantItem kN_X6 kC_X6_grantItem rfl rfl hdX6_grantItem ⟨Nat.le_of_ble_eq_true rfl, Nat.le_of_ble_eq_true rfl⟩ rfl hl [.ref (An 0)] rfl (Nat.le_of_ble_eq_true rfl) dX5_readGrant_42 ⟨Nat.zero_le _, Nat.zero_le _⟩ (fun H locs hw => ?_)
    obtain ⟨y4, hy4, h⟩ := bd_some h
    refine r_callVQi E ((wX5 Z Ar r_text r_length y2.2.1 y2.2.2.1 y2.2.2.2.1 y2.2.2.2.2 r_thing y1.1 y2.1 r_cost ++ wX3 Z An n_nodes n_links n_tunnels n_messages n_areas n_firsts n_seconds n_privates n_entries n_exits n_truth n_facts n_news)) (wX5 Z Ar r_text r_length y2.2.1 y2.2.2.1 y2.2.2.2.1 y2.2.2.2.2 r_thing y1.1 y2.1 r_cost) hw (mX3_isUp l Z _ An n_nodes n_links n_tunnels n_messages n_areas n_firsts n_seconds n_privates n_entries n_exits n_truth n_facts n_news y3 hy4) kL_X5_109 kI_X3_isUp kS_X3_isUp kN_X3 kC_X3_isUp rfl rfl hdX3_isUp ⟨Nat.le_of_ble_eq_true rfl, Nat.le_of_ble_eq_true rfl⟩ (fun f => by simp only [sf_app] <;> omega) (fun f => by simp only [sf_app] <;> omega) 2 rfl rfl rfl rfl hl [] rfl (Nat.le_of_ble_eq_true rfl) dX5_readGrant_45 ⟨Nat.zero_le _, Nat.zero_le _⟩ (fun H locs hw => ?_)
    refine r_if_eq E 55 dX5_readGrant_48 (by decide) (fun hc => ?_) (fun hc => ?_)
    · replace h := ite_t hc h
      obtain rfl := Option.some.inj h
      exact r_vret E hw dX5_readGrant_55
    · replace h := ite_f hc h
      refine r_aload_n E hl 0 rfl dX5_readGrant_51 rfl ?_
      obtain ⟨y5, hy5, h⟩ := bd_some h
      refine r_callVQv E ((wX5 Z Ar r_text r_length y2.2.1 y2.2.2.1 y2.2.2.2.1 y5 r_thing y1.1 y2.1 r_cost ++ wX3 Z An n_nodes n_links n_tunnels n_messages n_areas n_firsts n_seconds n_privates n_entries n_exits n_truth n_facts n_news)) (wX3 Z An n_nodes n_links n_tunnels n_messages n_areas n_firsts n_seconds n_privates n_entries n_exits n_truth n_facts n_news) hw (mX5_fail l Z _ Ar r_text r_length y2.2.1 y2.2.2.1 y2.2.2.2.1 y2.2.2.2.2 r_thing y1.1 y2.1 r_cost hy5) kL_X5_93 kI_X5_fail kS_X5_fail kN_X5 kC_X5_fail rfl rfl hdX5_fail ⟨Nat.le_of_ble_eq_true rfl, Nat.le_of_ble_eq_true rfl⟩ (fun f => by simp only [sf_app] <;> omega) (fun f => by simp only [sf_app] <;> omega) 0 rfl rfl rfl rfl hl [] rfl (Nat.le_of_ble_eq_true rfl) dX5_readGrant_52 ⟨Nat.zero_le _, Nat.zero_le _⟩ (fun H locs hw => ?_)
      obtain rfl := Option.some.inj h
      exact r_vret E hw dX5_readGrant_55
abbrev rmX5_addThing : Room := { frames := 5, cells := 0, slots := 0, locals := 122 }

set_option maxRecDepth 100000 in
set_option maxHeartbeats 4000000 in
theorem mX5_addThing (l : Launch) (Z : zT) (sz : Nat) (Ar : Nat → Nat) (An : Nat → Nat) (r_text : (Nat → Int32)) (r_length : Int32) (r_start : Int32) (r_end : Int32) (r_kind : Int32) (r_error : Int32) (r_thing : Int32) (r_first : Int32) (r_second : Int32) (r_cost : Int32) (n_nodes : Int32) (n_links : Int32) (n_tunnels : Int32) (n_messages : Int32) (n_areas : (Nat → Int32)) (n_firsts : (Nat → Int32)) (n_seconds : (Nat → Int32)) (n_privates : (Nat → Int32)) (n_entries : (Nat → Int32)) (n_exits : (Nat → Int32)) (n_truth : (Nat → Int32)) (n_facts : (Nat → Int32)) (n_news : (Nat → Int64))  {res : Int32 × Int32 × Int32 × (Nat → Int32) × (Nat → Int32) × (Nat → Int32) × (Nat → Int32) × (Nat → Int32) × (Nat → Int32) × (Nat → Int32) × (Nat → Int32) × (Nat → Int64)} (h : fX5_addThing r_thing r_first r_second r_cost n_nodes n_links n_tunnels n_areas n_firsts n_seconds n_privates n_entries n_exits n_truth n_facts n_news = some res) : Met l yX5_addThing (Cond.code yX5_addThing cX5_addThing 2 none :: zWs) rmX5_addThing (zP Z ((wX5 Z Ar r_text r_length r_start r_end r_kind r_error r_thing r_first r_second r_cost ++ wX3 Z An n_nodes n_links n_tunnels n_messages n_areas n_firsts n_seconds n_privates n_entries n_exits n_truth n_facts n_news)) sz [.ref (Ar 0), .ref (An 0)]) (zQv Z ((wX5 Z Ar r_text r_length r_start r_end r_kind r_error r_thing r_first r_second r_cost ++ wX3 Z An res.1 res.2.1 res.2.2.1 n_messages res.2.2.2.1 res.2.2.2.2.1 res.2.2.2.2.2.1 res.2.2.2.2.2.2.1 res.2.2.2.2.2.2.2.1 res.2.2.2.2.2.2.2.2.1 res.2.2.2.2.2.2.2.2.2.1 res.2.2.2.2.2.2.2.2.2.2.1 res.2.2.2.2.2.2.2.2.2.2.2)) (va_A ((wX5 Z Ar r_text r_length r_start r_end r_kind r_error r_thing r_first r_second r_cost ++ wX3 Z An n_nodes n_links n_tunnels n_messages n_areas n_firsts n_seconds n_privates n_entries n_exits n_truth n_facts n_news)) sz)) 0 0 (va_A ((wX5 Z Ar r_text r_length r_start r_end r_kind r_error r_thing r_first r_second r_cost ++ wX3 Z An n_nodes n_links n_tunnels n_messages n_areas n_firsts n_seconds n_privates n_entries n_exits n_truth n_facts n_news)) sz) := by
  refine zMet (own := RX5) (fun A => zQv Z ((wX5 Z Ar r_text r_length r_start r_end r_kind r_error r_thing r_first r_second r_cost ++ wX3 Z An res.1 res.2.1 res.2.2.1 n_messages res.2.2.2.1 res.2.2.2.2.1 res.2.2.2.2.2.1 res.2.2.2.2.2.2.1 res.2.2.2.2.2.2.2.1 res.2.2.2.2.2.2.2.2.1 res.2.2.2.2.2.2.2.2.2.1 res.2.2.2.2.2.2.2.2.2.2.1 res.2.2.2.2.2.2.2.2.2.2.2)) A) (by decide) rfl (Nat.le_of_ble_eq_true rfl) ?_
  intro p e s m args below meth c ls A E hw hl
  unfold fX5_addThing at h
  refine r_aload_n E hl 0 rfl dX5_addThing_0 rfl ?_
  refine r_get E kW_X5 hw 0 rfl rfl 6 (by decide) kF_X5_31 rfl dX5_addThing_1 ?_
  by_cases hc1 : r_thing = (1 : Int32)
  · replace h := ite_t hc1 h
    refine r_tabIn E 40 dX5_addThing_4 (1 : Int32) hc1 (by decide) (by decide) rfl (by decide) ?_
    refine r_aload_n E hl 1 rfl dX5_addThing_40 rfl ?_
    refine r_aload_n E hl 0 rfl dX5_addThing_41 rfl ?_
    refine r_get E kW_X5 hw 0 rfl rfl 7 (by decide) kF_X5_34 rfl dX5_addThing_42 ?_
    obtain ⟨y1, hy1, h⟩ := bd_some h
    refine r_callVQi E ((wX5 Z Ar r_text r_length r_start r_end r_kind r_error r_thing r_first r_second r_cost ++ wX3 Z An y1.2.1 n_links n_tunnels n_messages y1.2.2 n_firsts n_seconds n_privates n_entries n_exits n_truth n_facts n_news)) (wX5 Z Ar r_text r_length r_start r_end r_kind r_error r_thing r_first r_second r_cost) hw (mX3_createNode l Z _ An n_nodes n_links n_tunnels n_messages n_areas n_firsts n_seconds n_privates n_entries n_exits n_truth n_facts n_news r_first hy1) kL_X5_58 kI_X3_createNode kS_X3_createNode kN_X3 kC_X3_createNode rfl rfl hdX3_createNode ⟨Nat.le_of_ble_eq_true rfl, Nat.le_of_ble_eq_true rfl⟩ (fun f => by simp only [sf_app] <;> omega) (fun f => by simp only [sf_app] <;> omega) 2 rfl rfl rfl rfl hl [] rfl (Nat.le_of_ble_eq_true rfl) dX5_addThing_45 ⟨Nat.zero_le _, Nat.zero_le _⟩ (fun H locs hw => ?_)
    refine r_pop E dX5_addThing_48 rfl ?_
    refine r_goto E 131 dX5_addThing_49 (by decide) ?_
    obtain rfl := Option.some.inj h
    exact r_vret E hw dX5_addThing_131
  replace h := ite_f hc1 h
  by_cases hc2 : r_thing = (2 : Int32)
  · replace h := ite_t hc2 h
    refine r_tabIn E 52 dX5_addThing_4 (2 : Int32) hc2 (by decide) (by decide) rfl (by decide) ?_
    refine r_aload_n E hl 1 rfl dX5_addThing_52 rfl ?_
    refine r_aload_n E hl 0 rfl dX5_addThing_53 rfl ?_
    refine r_get E kW_X5 hw 0 rfl rfl 7 (by decide) kF_X5_34 rfl dX5_addThing_54 ?_
    refine r_aload_n E hl 0 rfl dX5_addThing_57 rfl ?_
    refine r_get E kW_X5 hw 0 rfl rfl 8 (by decide) kF_X5_37 rfl dX5_addThing_58 ?_
    refine r_aload_n E hl 0 rfl dX5_addThing_61 rfl ?_
    refine r_get E kW_X5 hw 0 rfl rfl 9 (by decide) kF_X5_40 rfl dX5_addThing_62 ?_
    refine r_iconst E 0 dX5_addThing_65 (by decide) ?_
    obtain ⟨y2, hy2, h⟩ := bd_some h
    refine r_callVQi E ((wX5 Z Ar r_text r_length r_start r_end r_kind r_error r_thing r_first r_second r_cost ++ wX3 Z An n_nodes y2.2.1 n_tunnels n_messages n_areas y2.2.2.1 y2.2.2.2.1 y2.2.2.2.2.1 n_entries n_exits y2.2.2.2.2.2.1 y2.2.2.2.2.2.2.1 y2.2.2.2.2.2.2.2)) (wX5 Z Ar r_text r_length r_start r_end r_kind r_error r_thing r_first r_second r_cost) hw (mX3_createLink l Z _ An n_nodes n_links n_tunnels n_messages n_areas n_firsts n_seconds n_privates n_entries n_exits n_truth n_facts n_news r_first r_second r_cost (0 : Int32) hy2) kL_X5_62 kI_X3_createLink kS_X3_createLink kN_X3 kC_X3_createLink rfl rfl hdX3_createLink ⟨Nat.le_of_ble_eq_true rfl, Nat.le_of_ble_eq_true rfl⟩ (fun f => by simp only [sf_app] <;> omega) (fun f => by simp only [sf_app] <;> omega) 2 rfl rfl rfl rfl hl [] rfl (Nat.le_of_ble_eq_true rfl) dX5_addThing_66 ⟨Nat.zero_le _, Nat.zero_le _⟩ (fun H locs hw => ?_)
    refine r_pop E dX5_addThing_69 rfl ?_
    refine r_goto E 131 dX5_addThing_70 (by decide) ?_
    obtain rfl := Option.some.inj h
    exact r_vret E hw dX5_addThing_131
  replace h := ite_f hc2 h
  by_cases hc3 : r_thing = (3 : Int32)
  · replace h := ite_t hc3 h
    refine r_tabIn E 73 dX5_addThing_4 (3 : Int32) hc3 (by decide) (by decide) rfl (by decide) ?_
    refine r_aload_n E hl 1 rfl dX5_addThing_73 rfl ?_
    refine r_aload_n E hl 0 rfl dX5_addThing_74 rfl ?_
    refine r_get E kW_X5 hw 0 rfl rfl 7 (by decide) kF_X5_34 rfl dX5_addThing_75 ?_
    refine r_aload_n E hl 0 rfl dX5_addThing_78 rfl ?_
    refine r_get E kW_X5 hw 0 rfl rfl 8 (by decide) kF_X5_37 rfl dX5_addThing_79 ?_
    refine r_aload_n E hl 0 rfl dX5_addThing_82 rfl ?_
    refine r_get E kW_X5 hw 0 rfl rfl 9 (by decide) kF_X5_40 rfl dX5_addThing_83 ?_
    refine r_iconst E 1 dX5_addThing_86 (by decide) ?_
    obtain ⟨y3, hy3, h⟩ := bd_some h
    refine r_callVQi E ((wX5 Z Ar r_text r_length r_start r_end r_kind r_error r_thing r_first r_second r_cost ++ wX3 Z An n_nodes y3.2.1 n_tunnels n_messages n_areas y3.2.2.1 y3.2.2.2.1 y3.2.2.2.2.1 n_entries n_exits y3.2.2.2.2.2.1 y3.2.2.2.2.2.2.1 y3.2.2.2.2.2.2.2)) (wX5 Z Ar r_text r_length r_start r_end r_kind r_error r_thing r_first r_second r_cost) hw (mX3_createLink l Z _ An n_nodes n_links n_tunnels n_messages n_areas n_firsts n_seconds n_privates n_entries n_exits n_truth n_facts n_news r_first r_second r_cost (1 : Int32) hy3) kL_X5_62 kI_X3_createLink kS_X3_createLink kN_X3 kC_X3_createLink rfl rfl hdX3_createLink ⟨Nat.le_of_ble_eq_true rfl, Nat.le_of_ble_eq_true rfl⟩ (fun f => by simp only [sf_app] <;> omega) (fun f => by simp only [sf_app] <;> omega) 2 rfl rfl rfl rfl hl [] rfl (Nat.le_of_ble_eq_true rfl) dX5_addThing_87 ⟨Nat.zero_le _, Nat.zero_le _⟩ (fun H locs hw => ?_)
    refine r_pop E dX5_addThing_90 rfl ?_
    refine r_goto E 131 dX5_addThing_91 (by decide) ?_
    obtain rfl := Option.some.inj h
    exact r_vret E hw dX5_addThing_131
  replace h := ite_f hc3 h
  by_cases hc4 : r_thing = (4 : Int32)
  · replace h := ite_t hc4 h
    refine r_tabIn E 94 dX5_addThing_4 (4 : Int32) hc4 (by decide) (by decide) rfl (by decide) ?_
    refine r_aload_n E hl 1 rfl dX5_addThing_94 rfl ?_
    refine r_aload_n E hl 0 rfl dX5_addThing_95 rfl ?_
    refine r_get E kW_X5 hw 0 rfl rfl 7 (by decide) kF_X5_34 rfl dX5_addThing_96 ?_
    refine r_aload_n E hl 0 rfl dX5_addThing_99 rfl ?_
    refine r_get E kW_X5 hw 0 rfl rfl 8 (by decide) kF_X5_37 rfl dX5_addThing_100 ?_
    refine r_iconst E 1 dX5_addThing_103 (by decide) ?_
    obtain ⟨y4, hy4, h⟩ := bd_some h
    refine r_callVQi E ((wX5 Z Ar r_text r_length r_start r_end r_kind r_error r_thing r_first r_second r_cost ++ wX3 Z An n_nodes n_links n_tunnels n_messages n_areas n_firsts n_seconds n_privates n_entries n_exits y4.2.1 y4.2.2.1 y4.2.2.2)) (wX5 Z Ar r_text r_length r_start r_end r_kind r_error r_thing r_first r_second r_cost) hw (mX3_changeGrant l Z _ An n_nodes n_links n_tunnels n_messages n_areas n_firsts n_seconds n_privates n_entries n_exits n_truth n_facts n_news r_first r_second (1 : Int32) hy4) kL_X5_66 kI_X3_changeGrant kS_X3_changeGrant kN_X3 kC_X3_changeGrant rfl rfl hdX3_changeGrant ⟨Nat.le_of_ble_eq_true rfl, Nat.le_of_ble_eq_true rfl⟩ (fun f => by simp only [sf_app] <;> omega) (fun f => by simp only [sf_app] <;> omega) 2 rfl rfl rfl rfl hl [] rfl (Nat.le_of_ble_eq_true rfl) dX5_addThing_104 ⟨Nat.zero_le _, Nat.zero_le _⟩ (fun H locs hw => ?_)
    refine r_pop E dX5_addThing_107 rfl ?_
    refine r_goto E 131 dX5_addThing_108 (by decide) ?_
    obtain rfl := Option.some.inj h
    exact r_vret E hw dX5_addThing_131
  replace h := ite_f hc4 h
  by_cases hc5 : r_thing = (5 : Int32)
  · replace h := ite_t hc5 h
    refine r_tabIn E 111 dX5_addThing_4 (5 : Int32) hc5 (by decide) (by decide) rfl (by decide) ?_
    refine r_aload_n E hl 1 rfl dX5_addThing_111 rfl ?_
    refine r_aload_n E hl 0 rfl dX5_addThing_112 rfl ?_
    refine r_get E kW_X5 hw 0 rfl rfl 7 (by decide) kF_X5_34 rfl dX5_addThing_113 ?_
    refine r_aload_n E hl 0 rfl dX5_addThing_116 rfl ?_
    refine r_get E kW_X5 hw 0 rfl rfl 8 (by decide) kF_X5_37 rfl dX5_addThing_117 ?_
    refine r_aload_n E hl 0 rfl dX5_addThing_120 rfl ?_
    refine r_get E kW_X5 hw 0 rfl rfl 9 (by decide) kF_X5_40 rfl dX5_addThing_121 ?_
    obtain ⟨y5, hy5, h⟩ := bd_some h
    refine r_callVQi E ((wX5 Z Ar r_text r_length r_start r_end r_kind r_error r_thing r_first r_second r_cost ++ wX3 Z An n_nodes n_links y5.2.1 n_messages n_areas n_firsts n_seconds n_privates y5.2.2.1 y5.2.2.2.1 y5.2.2.2.2.1 y5.2.2.2.2.2.1 y5.2.2.2.2.2.2)) (wX5 Z Ar r_text r_length r_start r_end r_kind r_error r_thing r_first r_second r_cost) hw (mX3_createTunnel l Z _ An n_nodes n_links n_tunnels n_messages n_areas n_firsts n_seconds n_privates n_entries n_exits n_truth n_facts n_news r_first r_second r_cost hy5) kL_X5_70 kI_X3_createTunnel kS_X3_createTunnel kN_X3 kC_X3_createTunnel rfl rfl hdX3_createTunnel ⟨Nat.le_of_ble_eq_true rfl, Nat.le_of_ble_eq_true rfl⟩ (fun f => by simp only [sf_app] <;> omega) (fun f => by simp only [sf_app] <;> omega) 2 rfl rfl rfl rfl hl [] rfl (Nat.le_of_ble_eq_true rfl) dX5_addThing_124 ⟨Nat.zero_le _, Nat.zero_le _⟩ (fun H locs hw => ?_)
    refine r_pop E dX5_addThing_127 rfl ?_
    refine r_goto E 131 dX5_addThing_128 (by decide) ?_
    obtain rfl := Option.some.inj h
    exact r_vret E hw dX5_addThing_131
  replace h := ite_f hc5 h
  refine r_tabOut E 131 dX5_addThing_4 (by have a1 := ne_toInt hc1 (k := 1) (by decide); have a2 := ne_toInt hc2 (k := 2) (by decide); have a3 := ne_toInt hc3 (k := 3) (by decide); have a4 := ne_toInt hc4 (k := 4) (by decide); have a5 := ne_toInt hc5 (k := 5) (by decide); omega) (by decide) ?_
  obtain rfl := Option.some.inj h
  exact r_vret E hw dX5_addThing_131
abbrev rmX5_isWord : Room := { frames := 4, cells := 0, slots := 0, locals := 85 }

set_option maxRecDepth 100000 in
set_option maxHeartbeats 4000000 in
theorem tX5_isWord_28 {Z : zT} {p : Program} {l : Launch} {e : Env} {s : State} {m : MethodId} {args : Array Value} {below : List Frame} {meth : Method} {c : Code} {A : Nat → Prop} (E : zE Z p s m args meth c RX5 cX5_isWord 3 (some .boolean) A) {Ar : Nat → Nat} {iw : Nat} {r_text : (Nat → Int32)} {r_length : Int32} {r_start : Int32} {r_end : Int32} {r_kind : Int32} {r_error : Int32} {r_thing : Int32} {r_first : Int32} {r_second : Int32} {r_cost : Int32} {res : Int32}  : ∀ (n : Nat) (v2 : Int32) (H : Heap) (locs : List Loc) (ls : Array Slot), iter (fun b : Int32 => sX5_isWord_28 r_text r_start iw b) n v2 = some res → zW Z A (wX5 Z Ar r_text r_length r_start r_end r_kind r_error r_thing r_first r_second r_cost) s.heap H locs → lv_has ls 3 [(0, .ref (Ar 0)), (1, .ref (Z.2.2.2.2.2.1 iw)), (2, .int v2)] → W p l e rmX5_isWord s m args below meth c H locs 0 0 (MQ below (zQi Z res (wX5 Z Ar r_text r_length r_start r_end r_kind r_error r_thing r_first r_second r_cost) A) args s 0 0 A) (F0 m 28 ls []) := by
  intro n
  induction n with
  | zero => intro v2 H locs ls h; cases h
  | succ n ih =>
    intro v2 H locs ls h hw hl
    obtain ⟨q1, h, hn1, hr1⟩ := iter_out h
    have hb1 : ∀ b : Int32, q1 = .inl b → ∀ (H : Heap) (locs : List Loc) (ls : Array Slot), zW Z A (wX5 Z Ar r_text r_length r_start r_end r_kind r_error r_thing r_first r_second r_cost) s.heap H locs → lv_has ls 3 [(0, .ref (Ar 0)), (1, .ref (Z.2.2.2.2.2.1 iw)), (2, .int b)] → W p l e rmX5_isWord s m args below meth c H locs 0 0 (MQ below (zQi Z res (wX5 Z Ar r_text r_length r_start r_end r_kind r_error r_thing r_first r_second r_cost) A) args s 0 0 A) (F0 m 28 ls []) := fun b eb H locs ls hw hl => ih b H locs ls (hn1 b eb) hw hl
    replace h : sX5_isWord_28 r_text r_start iw v2 = some q1 := h
    unfold sX5_isWord_28 at h
    refine r_iload_n E hl 2 rfl dX5_isWord_28 rfl ?_
    refine r_aload_n E hl 1 rfl dX5_isWord_29 rfl ?_
    obtain ⟨hi5, h⟩ := gd_some h
    refine r_callTi E hi5 hw (mJ0_length l Z _ iw hi5) kL_X5_133 kI_J0_length_8abf5 kS_J0_length_8abf5 kN_J0 kC_J0_length_8abf5 rfl rfl hdJ0_length_8abf5 ⟨Nat.le_of_ble_eq_true rfl, Nat.le_of_ble_eq_true rfl⟩ rfl hl [.int v2] rfl (Nat.le_of_ble_eq_true rfl) dX5_isWord_30 ⟨Nat.zero_le _, Nat.zero_le _⟩ (fun H locs hw => ?_)
    refine r_icmp_ge E 63 dX5_isWord_33 (by decide) (fun hc => ?_) (fun hc => ?_)
    · replace h := ite_t hc h
      obtain ⟨ro7, h, hro7⟩ := oi_some h
      rw [hr1 _ hro7] at h
      refine r_iconst E 1 dX5_isWord_63 (by decide) ?_
      obtain rfl := Option.some.inj h
      exact r_zret E bz_1 hw dX5_isWord_64
    · replace h := ite_f hc h
      refine r_aload_n E hl 0 rfl dX5_isWord_36 rfl ?_
      refine r_get E kW_X5 hw 0 rfl rfl 0 (by decide) kF_X5_9 rfl dX5_isWord_37 ?_
      refine r_aload_n E hl 0 rfl dX5_isWord_40 rfl ?_
      refine r_get E kW_X5 hw 0 rfl rfl 2 (by decide) kF_X5_19 rfl dX5_isWord_41 ?_
      refine r_iload_n E hl 2 rfl dX5_isWord_44 rfl ?_
      refine r_iadd E dX5_isWord_45 ?_
      obtain ⟨hg8, h⟩ := gd_some h
      refine r_cald E hw 1 rfl hg8 dX5_isWord_46 ?_
      refine r_aload_n E hl 1 rfl dX5_isWord_47 rfl ?_
      refine r_iload_n E hl 2 rfl dX5_isWord_48 rfl ?_
      obtain ⟨hi10, h⟩ := gd_some h
      obtain ⟨hk11, h⟩ := gd_some h
      refine r_callTi E hi10 hw (mJ0_charAt l Z _ iw v2 hi10 hk11) kL_X5_137 kI_J0_charAt_5068e kS_J0_charAt_5068e kN_J0 kC_J0_charAt_5068e rfl rfl hdJ0_charAt_5068e ⟨Nat.le_of_ble_eq_true rfl, Nat.le_of_ble_eq_true rfl⟩ rfl hl [.int (r_text (r_start + v2).toNatClampNeg)] rfl (Nat.le_of_ble_eq_true rfl) dX5_isWord_49 ⟨Nat.zero_le _, Nat.zero_le _⟩ (fun H locs hw => ?_)
      refine r_icmp_eq E 57 dX5_isWord_52 (by decide) (fun hc => ?_) (fun hc => ?_)
      · replace h := ite_t hc h
        obtain ⟨w12, hw12, h⟩ := nm_out h
        refine r_iinc E w12 [(2, .int w12), (0, .ref (Ar 0)), (1, .ref (Z.2.2.2.2.2.1 iw))] hl (k := 2) rfl dX5_isWord_57 hw12.symm (by decide) rfl (fun ls hl => ?_)
        refine r_goto E 28 dX5_isWord_60 (by decide) ?_
        exact hb1 _ (Option.some.inj h).symm _ _ _ hw (lv_sub hl [1, 2, 0] rfl)
      · replace h := ite_f hc h
        obtain ⟨ro13, h, hro13⟩ := oi_some h
        rw [hr1 _ hro13] at h
        refine r_iconst E 0 dX5_isWord_55 (by decide) ?_
        obtain rfl := Option.some.inj h
        exact r_zret E bz_0 hw dX5_isWord_56
set_option maxRecDepth 100000 in
set_option maxHeartbeats 4000000 in
theorem mX5_isWord (l : Launch) (Z : zT) (sz : Nat) (Ar : Nat → Nat) (iw : Nat) (r_text : (Nat → Int32)) (r_length : Int32) (r_start : Int32) (r_end : Int32) (r_kind : Int32) (r_error : Int32) (r_thing : Int32) (r_first : Int32) (r_second : Int32) (r_cost : Int32)  {res : Int32} (h : fX5_isWord r_text r_start r_end r_kind iw = some res) : Met l yX5_isWord (Cond.code yX5_isWord cX5_isWord 3 (some .boolean) :: zWs) rmX5_isWord (zP Z (wX5 Z Ar r_text r_length r_start r_end r_kind r_error r_thing r_first r_second r_cost) sz [.ref (Ar 0), .ref (Z.2.2.2.2.2.1 iw)]) (zQi Z res (wX5 Z Ar r_text r_length r_start r_end r_kind r_error r_thing r_first r_second r_cost) (va_A (wX5 Z Ar r_text r_length r_start r_end r_kind r_error r_thing r_first r_second r_cost) sz)) 0 0 (va_A (wX5 Z Ar r_text r_length r_start r_end r_kind r_error r_thing r_first r_second r_cost) sz) := by
  refine zMet (own := RX5) (fun A => zQi Z res (wX5 Z Ar r_text r_length r_start r_end r_kind r_error r_thing r_first r_second r_cost) A) (by decide) rfl (Nat.le_of_ble_eq_true rfl) ?_
  intro p e s m args below meth c ls A E hw hl
  unfold fX5_isWord at h
  refine r_aload_n E hl 0 rfl dX5_isWord_0 rfl ?_
  refine r_get E kW_X5 hw 0 rfl rfl 4 (by decide) kF_X5_25 rfl dX5_isWord_1 ?_
  refine r_iconst E 1 dX5_isWord_4 (by decide) ?_
  refine r_icmp_ne E 24 dX5_isWord_5 (by decide) (fun hc => ?_) (fun hc => ?_)
  · replace h := ite_f hc h
    refine r_iconst E 0 dX5_isWord_24 (by decide) ?_
    obtain rfl := Option.some.inj h
    exact r_zret E bz_0 hw dX5_isWord_25
  · replace h := ite_t hc h
    refine r_aload_n E hl 0 rfl dX5_isWord_8 rfl ?_
    refine r_get E kW_X5 hw 0 rfl rfl 3 (by decide) kF_X5_22 rfl dX5_isWord_9 ?_
    refine r_aload_n E hl 0 rfl dX5_isWord_12 rfl ?_
    refine r_get E kW_X5 hw 0 rfl rfl 2 (by decide) kF_X5_19 rfl dX5_isWord_13 ?_
    refine r_isub E dX5_isWord_16 ?_
    refine r_aload_n E hl 1 rfl dX5_isWord_17 rfl ?_
    obtain ⟨hi2, h⟩ := gd_some h
    refine r_callTi E hi2 hw (mJ0_length l Z _ iw hi2) kL_X5_133 kI_J0_length_8abf5 kS_J0_length_8abf5 kN_J0 kC_J0_length_8abf5 rfl rfl hdJ0_length_8abf5 ⟨Nat.le_of_ble_eq_true rfl, Nat.le_of_ble_eq_true rfl⟩ rfl hl [.int (r_end - r_start)] rfl (Nat.le_of_ble_eq_true rfl) dX5_isWord_18 ⟨Nat.zero_le _, Nat.zero_le _⟩ (fun H locs hw => ?_)
    refine r_icmp_eq E 26 dX5_isWord_21 (by decide) (fun hc => ?_) (fun hc => ?_)
    · replace h := ite_t hc h
      refine r_iconst E 0 dX5_isWord_26 (by decide) ?_
      refine r_istore_n E [(2, .int (0 : Int32)), (0, .ref (Ar 0)), (1, .ref (Z.2.2.2.2.2.1 iw))] hl dX5_isWord_27 rfl (by decide) rfl (fun ls hl => ?_)
      obtain ⟨n14, h⟩ := wh_some h
      exact tX5_isWord_28 E  n14 _ _ _ _ h hw (lv_sub hl [1, 2, 0] rfl)
    · replace h := ite_f hc h
      refine r_iconst E 0 dX5_isWord_24 (by decide) ?_
      obtain rfl := Option.some.inj h
      exact r_zret E bz_0 hw dX5_isWord_25
abbrev rmX5_tokenThing : Room := { frames := 5, cells := 0, slots := 0, locals := 107 }

set_option maxRecDepth 100000 in
set_option maxHeartbeats 4000000 in
theorem mX5_tokenThing (l : Launch) (Z : zT) (sz : Nat) (Ar : Nat → Nat) (r_text : (Nat → Int32)) (r_length : Int32) (r_start : Int32) (r_end : Int32) (r_kind : Int32) (r_error : Int32) (r_thing : Int32) (r_first : Int32) (r_second : Int32) (r_cost : Int32)  {res : Int32} (h : fX5_tokenThing r_text r_start r_end r_kind = some res) : Met l yX5_tokenThing (Cond.code yX5_tokenThing cX5_tokenThing 1 (some .int) :: zWs) rmX5_tokenThing (zP Z (wX5 Z Ar r_text r_length r_start r_end r_kind r_error r_thing r_first r_second r_cost) sz [.ref (Ar 0)]) (zQi Z res (wX5 Z Ar r_text r_length r_start r_end r_kind r_error r_thing r_first r_second r_cost) (va_A (wX5 Z Ar r_text r_length r_start r_end r_kind r_error r_thing r_first r_second r_cost) sz)) 0 0 (va_A (wX5 Z Ar r_text r_length r_start r_end r_kind r_error r_thing r_first r_second r_cost) sz) := by
  refine zMet (own := RX5) (fun A => zQi Z res (wX5 Z Ar r_text r_length r_start r_end r_kind r_error r_thing r_first r_second r_cost) A) (by decide) rfl (Nat.le_of_ble_eq_true rfl) ?_
  intro p e s m args below meth c ls A E hw hl
  unfold fX5_tokenThing at h
  refine r_aload_n E hl 0 rfl dX5_tokenThing_0 rfl ?_
  refine r_ldcS E E.2.2.2.2.2.2.2.2.2.1 dX5_tokenThing_1 ?_
  obtain ⟨y1, hy1, h⟩ := bd_some h
  refine r_callVAi E hw (mX5_isWord l Z _ Ar 0 r_text r_length r_start r_end r_kind r_error r_thing r_first r_second r_cost hy1) kL_X5_121 kI_X5_isWord kS_X5_isWord kN_X5 kC_X5_isWord rfl rfl hdX5_isWord ⟨Nat.le_of_ble_eq_true rfl, Nat.le_of_ble_eq_true rfl⟩ 0 rfl rfl rfl rfl hl [] rfl (Nat.le_of_ble_eq_true rfl) dX5_tokenThing_3 ⟨Nat.zero_le _, Nat.zero_le _⟩ (fun H locs hw => ?_)
  refine r_if_eq E 11 dX5_tokenThing_6 (by decide) (fun hc => ?_) (fun hc => ?_)
  · replace h := ite_t hc h
    refine r_aload_n E hl 0 rfl dX5_tokenThing_11 rfl ?_
    refine r_ldcS E E.2.2.2.2.2.2.2.2.2.2.1 dX5_tokenThing_12 ?_
    obtain ⟨y2, hy2, h⟩ := bd_some h
    refine r_callVAi E hw (mX5_isWord l Z _ Ar 1 r_text r_length r_start r_end r_kind r_error r_thing r_first r_second r_cost hy2) kL_X5_121 kI_X5_isWord kS_X5_isWord kN_X5 kC_X5_isWord rfl rfl hdX5_isWord ⟨Nat.le_of_ble_eq_true rfl, Nat.le_of_ble_eq_true rfl⟩ 0 rfl rfl rfl rfl hl [] rfl (Nat.le_of_ble_eq_true rfl) dX5_tokenThing_14 ⟨Nat.zero_le _, Nat.zero_le _⟩ (fun H locs hw => ?_)
    refine r_if_eq E 22 dX5_tokenThing_17 (by decide) (fun hc => ?_) (fun hc => ?_)
    · replace h := ite_t hc h
      refine r_aload_n E hl 0 rfl dX5_tokenThing_22 rfl ?_
      refine r_ldcS E E.2.2.2.2.2.2.2.2.2.2.2.1 dX5_tokenThing_23 ?_
      obtain ⟨y3, hy3, h⟩ := bd_some h
      refine r_callVAi E hw (mX5_isWord l Z _ Ar 2 r_text r_length r_start r_end r_kind r_error r_thing r_first r_second r_cost hy3) kL_X5_121 kI_X5_isWord kS_X5_isWord kN_X5 kC_X5_isWord rfl rfl hdX5_isWord ⟨Nat.le_of_ble_eq_true rfl, Nat.le_of_ble_eq_true rfl⟩ 0 rfl rfl rfl rfl hl [] rfl (Nat.le_of_ble_eq_true rfl) dX5_tokenThing_25 ⟨Nat.zero_le _, Nat.zero_le _⟩ (fun H locs hw => ?_)
      refine r_if_eq E 33 dX5_tokenThing_28 (by decide) (fun hc => ?_) (fun hc => ?_)
      · replace h := ite_t hc h
        refine r_aload_n E hl 0 rfl dX5_tokenThing_33 rfl ?_
        refine r_ldcS E E.2.2.2.2.2.2.2.2.2.2.2.2.1 dX5_tokenThing_34 ?_
        obtain ⟨y4, hy4, h⟩ := bd_some h
        refine r_callVAi E hw (mX5_isWord l Z _ Ar 3 r_text r_length r_start r_end r_kind r_error r_thing r_first r_second r_cost hy4) kL_X5_121 kI_X5_isWord kS_X5_isWord kN_X5 kC_X5_isWord rfl rfl hdX5_isWord ⟨Nat.le_of_ble_eq_true rfl, Nat.le_of_ble_eq_true rfl⟩ 0 rfl rfl rfl rfl hl [] rfl (Nat.le_of_ble_eq_true rfl) dX5_tokenThing_36 ⟨Nat.zero_le _, Nat.zero_le _⟩ (fun H locs hw => ?_)
        refine r_if_eq E 44 dX5_tokenThing_39 (by decide) (fun hc => ?_) (fun hc => ?_)
        · replace h := ite_t hc h
          refine r_aload_n E hl 0 rfl dX5_tokenThing_44 rfl ?_
          refine r_ldcS E E.2.2.2.2.2.2.2.2.2.2.2.2.2 dX5_tokenThing_45 ?_
          obtain ⟨y5, hy5, h⟩ := bd_some h
          refine r_callVAi E hw (mX5_isWord l Z _ Ar 4 r_text r_length r_start r_end r_kind r_error r_thing r_first r_second r_cost hy5) kL_X5_121 kI_X5_isWord kS_X5_isWord kN_X5 kC_X5_isWord rfl rfl hdX5_isWord ⟨Nat.le_of_ble_eq_true rfl, Nat.le_of_ble_eq_true rfl⟩ 0 rfl rfl rfl rfl hl [] rfl (Nat.le_of_ble_eq_true rfl) dX5_tokenThing_47 ⟨Nat.zero_le _, Nat.zero_le _⟩ (fun H locs hw => ?_)
          refine r_if_eq E 57 dX5_tokenThing_50 (by decide) (fun hc => ?_) (fun hc => ?_)
          · replace h := ite_t hc h
            refine r_iconst E 0 dX5_tokenThing_57 (by decide) ?_
            obtain rfl := Option.some.inj h
            exact r_iret E hw dX5_tokenThing_58
          · replace h := ite_f hc h
            refine r_iconst E 5 dX5_tokenThing_53 (by decide) ?_
            refine r_goto E 58 dX5_tokenThing_54 (by decide) ?_
            obtain rfl := Option.some.inj h
            exact r_iret E hw dX5_tokenThing_58
        · replace h := ite_f hc h
          refine r_iconst E 4 dX5_tokenThing_42 (by decide) ?_
          obtain rfl := Option.some.inj h
          exact r_iret E hw dX5_tokenThing_43
      · replace h := ite_f hc h
        refine r_iconst E 3 dX5_tokenThing_31 (by decide) ?_
        obtain rfl := Option.some.inj h
        exact r_iret E hw dX5_tokenThing_32
    · replace h := ite_f hc h
      refine r_iconst E 2 dX5_tokenThing_20 (by decide) ?_
      obtain rfl := Option.some.inj h
      exact r_iret E hw dX5_tokenThing_21
  · replace h := ite_f hc h
    refine r_iconst E 1 dX5_tokenThing_9 (by decide) ?_
    obtain rfl := Option.some.inj h
    exact r_iret E hw dX5_tokenThing_10
abbrev rmX5_readItem : Room := { frames := 6, cells := 0, slots := 0, locals := 127 }

set_option maxRecDepth 100000 in
set_option maxHeartbeats 4000000 in
theorem vX5_readItem_139 {Z : zT} {p : Program} {l : Launch} {e : Env} {s : State} {m : MethodId} {args : Array Value} {below : List Frame} {meth : Method} {c : Code} {A : Nat → Prop} (E : zE Z p s m args meth c RX5 cX5_readItem 2 none A) {Ar : Nat → Nat} {An : Nat → Nat} {r_text : (Nat → Int32)} {r_length : Int32} {r_start : Int32} {r_end : Int32} {r_kind : Int32} {r_error : Int32} {r_thing : Int32} {r_first : Int32} {r_second : Int32} {r_cost : Int32} {n_nodes : Int32} {n_links : Int32} {n_tunnels : Int32} {n_messages : Int32} {n_areas : (Nat → Int32)} {n_firsts : (Nat → Int32)} {n_seconds : (Nat → Int32)} {n_privates : (Nat → Int32)} {n_entries : (Nat → Int32)} {n_exits : (Nat → Int32)} {n_truth : (Nat → Int32)} {n_facts : (Nat → Int32)} {n_news : (Nat → Int64)} {res : Int32 × Int32 × Int32 × Int32 × Int32 × Int32 × Int32 × Int32}  {H : Heap} {locs : List Loc} {ls : Array Slot} (hw : zW Z A ((wX5 Z Ar r_text r_length r_start r_end r_kind r_error r_thing r_first r_second r_cost ++ wX3 Z An n_nodes n_links n_tunnels n_messages n_areas n_firsts n_seconds n_privates n_entries n_exits n_truth n_facts n_news)) s.heap H locs) (hl : lv_has ls 2 [(0, .ref (Ar 0))]) (h : uX5_readItem_139 r_text r_length r_start r_end r_kind r_error r_thing r_first r_second r_cost = some res) : W p l e rmX5_readItem s m args below meth c H locs 0 0 (MQ below (zQv Z ((wX5 Z Ar r_text r_length res.1 res.2.1 res.2.2.1 res.2.2.2.1 res.2.2.2.2.1 res.2.2.2.2.2.1 res.2.2.2.2.2.2.1 res.2.2.2.2.2.2.2 ++ wX3 Z An n_nodes n_links n_tunnels n_messages n_areas n_firsts n_seconds n_privates n_entries n_exits n_truth n_facts n_news)) A) args s 0 0 A) (F0 m 139 ls []) := by
  unfold uX5_readItem_139 at h
  refine r_aload_n E hl 0 rfl dX5_readItem_139 rfl ?_
  obtain ⟨y3, hy3, h⟩ := bd_some h
  refine r_callVQv E ((wX5 Z Ar r_text r_length y3.1 y3.2.1 y3.2.2.1 y3.2.2.2 r_thing r_first r_second r_cost ++ wX3 Z An n_nodes n_links n_tunnels n_messages n_areas n_firsts n_seconds n_privates n_entries n_exits n_truth n_facts n_news)) (wX3 Z An n_nodes n_links n_tunnels n_messages n_areas n_firsts n_seconds n_privates n_entries n_exits n_truth n_facts n_news) hw (mX5_readSemicolon l Z _ Ar r_text r_length r_start r_end r_kind r_error r_thing r_first r_second r_cost hy3) kL_X5_96 kI_X5_readSemicolon kS_X5_readSemicolon kN_X5 kC_X5_readSemicolon rfl rfl hdX5_readSemicolon ⟨Nat.le_of_ble_eq_true rfl, Nat.le_of_ble_eq_true rfl⟩ (fun f => by simp only [sf_app] <;> omega) (fun f => by simp only [sf_app] <;> omega) 0 rfl rfl rfl rfl hl [] rfl (Nat.le_of_ble_eq_true rfl) dX5_readItem_140 ⟨Nat.zero_le _, Nat.zero_le _⟩ (fun H locs hw => ?_)
  obtain rfl := Option.some.inj h
  exact r_vret E hw dX5_readItem_143
set_option maxRecDepth 100000 in
set_option maxHeartbeats 4000000 in
theorem vX5_readItem_72 {Z : zT} {p : Program} {l : Launch} {e : Env} {s : State} {m : MethodId} {args : Array Value} {below : List Frame} {meth : Method} {c : Code} {A : Nat → Prop} (E : zE Z p s m args meth c RX5 cX5_readItem 2 none A) {Ar : Nat → Nat} {An : Nat → Nat} {k2 : Int32} {r_text : (Nat → Int32)} {r_length : Int32} {r_start : Int32} {r_end : Int32} {r_kind : Int32} {r_error : Int32} {r_thing : Int32} {r_first : Int32} {r_second : Int32} {r_cost : Int32} {n_nodes : Int32} {n_links : Int32} {n_tunnels : Int32} {n_messages : Int32} {n_areas : (Nat → Int32)} {n_firsts : (Nat → Int32)} {n_seconds : (Nat → Int32)} {n_privates : (Nat → Int32)} {n_entries : (Nat → Int32)} {n_exits : (Nat → Int32)} {n_truth : (Nat → Int32)} {n_facts : (Nat → Int32)} {n_news : (Nat → Int64)} {res : Int32 × Int32 × Int32 × Int32 × Int32 × Int32 × Int32 × Int32}  {H : Heap} {locs : List Loc} {ls : Array Slot} (hw : zW Z A ((wX5 Z Ar r_text r_length r_start r_end r_kind r_error r_thing r_first r_second r_cost ++ wX3 Z An n_nodes n_links n_tunnels n_messages n_areas n_firsts n_seconds n_privates n_entries n_exits n_truth n_facts n_news)) s.heap H locs) (hl : lv_has ls 2 [(0, .ref (Ar 0))]) (h : uX5_readItem_72 k2 r_text r_length r_start r_end r_kind r_error r_thing n_nodes = some res) : W p l e rmX5_readItem s m args below meth c H locs 0 0 (MQ below (zQv Z ((wX5 Z Ar r_text r_length res.1 res.2.1 res.2.2.1 res.2.2.2.1 res.2.2.2.2.1 res.2.2.2.2.2.1 res.2.2.2.2.2.2.1 res.2.2.2.2.2.2.2 ++ wX3 Z An n_nodes n_links n_tunnels n_messages n_areas n_firsts n_seconds n_privates n_entries n_exits n_truth n_facts n_news)) A) args s 0 0 A) (F0 m 72 ls [.int k2, .ref (An 0), .ref (Ar 0)]) := by
  unfold uX5_readItem_72 at h
  refine r_bipush E 20 dX5_readItem_72 (by decide) ?_
  obtain ⟨y4, hy4, h⟩ := bd_some h
  refine r_callVAv E hw (mX5_readLine l Z _ Ar An r_text r_length r_start r_end r_kind r_error r_thing r_first r_second r_cost n_nodes n_links n_tunnels n_messages n_areas n_firsts n_seconds n_privates n_entries n_exits n_truth n_facts n_news k2 (20 : Int32) hy4) kL_X5_83 kI_X5_readLine kS_X5_readLine kN_X5 kC_X5_readLine rfl rfl hdX5_readLine ⟨Nat.le_of_ble_eq_true rfl, Nat.le_of_ble_eq_true rfl⟩ 0 rfl rfl rfl rfl hl [] rfl (Nat.le_of_ble_eq_true rfl) dX5_readItem_74 ⟨Nat.zero_le _, Nat.zero_le _⟩ (fun H locs hw => ?_)
  refine r_goto E 139 dX5_readItem_77 (by decide) ?_
  exact vX5_readItem_139 E  hw hl h
set_option maxRecDepth 100000 in
set_option maxHeartbeats 4000000 in
theorem vX5_readItem_96 {Z : zT} {p : Program} {l : Launch} {e : Env} {s : State} {m : MethodId} {args : Array Value} {below : List Frame} {meth : Method} {c : Code} {A : Nat → Prop} (E : zE Z p s m args meth c RX5 cX5_readItem 2 none A) {Ar : Nat → Nat} {An : Nat → Nat} {k2 : Int32} {r_text : (Nat → Int32)} {r_length : Int32} {r_start : Int32} {r_end : Int32} {r_kind : Int32} {r_error : Int32} {r_thing : Int32} {r_first : Int32} {r_second : Int32} {r_cost : Int32} {n_nodes : Int32} {n_links : Int32} {n_tunnels : Int32} {n_messages : Int32} {n_areas : (Nat → Int32)} {n_firsts : (Nat → Int32)} {n_seconds : (Nat → Int32)} {n_privates : (Nat → Int32)} {n_entries : (Nat → Int32)} {n_exits : (Nat → Int32)} {n_truth : (Nat → Int32)} {n_facts : (Nat → Int32)} {n_news : (Nat → Int64)} {res : Int32 × Int32 × Int32 × Int32 × Int32 × Int32 × Int32 × Int32}  {H : Heap} {locs : List Loc} {ls : Array Slot} (hw : zW Z A ((wX5 Z Ar r_text r_length r_start r_end r_kind r_error r_thing r_first r_second r_cost ++ wX3 Z An n_nodes n_links n_tunnels n_messages n_areas n_firsts n_seconds n_privates n_entries n_exits n_truth n_facts n_news)) s.heap H locs) (hl : lv_has ls 2 [(0, .ref (Ar 0))]) (h : uX5_readItem_96 k2 r_text r_length r_start r_end r_kind r_error r_thing n_nodes = some res) : W p l e rmX5_readItem s m args below meth c H locs 0 0 (MQ below (zQv Z ((wX5 Z Ar r_text r_length res.1 res.2.1 res.2.2.1 res.2.2.2.1 res.2.2.2.2.1 res.2.2.2.2.2.1 res.2.2.2.2.2.2.1 res.2.2.2.2.2.2.2 ++ wX3 Z An n_nodes n_links n_tunnels n_messages n_areas n_firsts n_seconds n_privates n_entries n_exits n_truth n_facts n_news)) A) args s 0 0 A) (F0 m 96 ls [.int k2, .ref (An 0), .ref (Ar 0)]) := by
  unfold uX5_readItem_96 at h
  refine r_bipush E 20 dX5_readItem_96 (by decide) ?_
  obtain ⟨y5, hy5, h⟩ := bd_some h
  refine r_callVAv E hw (mX5_readLine l Z _ Ar An r_text r_length r_start r_end r_kind r_error r_thing r_first r_second r_cost n_nodes n_links n_tunnels n_messages n_areas n_firsts n_seconds n_privates n_entries n_exits n_truth n_facts n_news k2 (20 : Int32) hy5) kL_X5_83 kI_X5_readLine kS_X5_readLine kN_X5 kC_X5_readLine rfl rfl hdX5_readLine ⟨Nat.le_of_ble_eq_true rfl, Nat.le_of_ble_eq_true rfl⟩ 0 rfl rfl rfl rfl hl [] rfl (Nat.le_of_ble_eq_true rfl) dX5_readItem_98 ⟨Nat.zero_le _, Nat.zero_le _⟩ (fun H locs hw => ?_)
  refine r_goto E 139 dX5_readItem_101 (by decide) ?_
  exact vX5_readItem_139 E  hw hl h
set_option maxRecDepth 100000 in
set_option maxHeartbeats 4000000 in
theorem vX5_readItem_127 {Z : zT} {p : Program} {l : Launch} {e : Env} {s : State} {m : MethodId} {args : Array Value} {below : List Frame} {meth : Method} {c : Code} {A : Nat → Prop} (E : zE Z p s m args meth c RX5 cX5_readItem 2 none A) {Ar : Nat → Nat} {An : Nat → Nat} {k2 : Int32} {r_text : (Nat → Int32)} {r_length : Int32} {r_start : Int32} {r_end : Int32} {r_kind : Int32} {r_error : Int32} {r_thing : Int32} {r_first : Int32} {r_second : Int32} {r_cost : Int32} {n_nodes : Int32} {n_links : Int32} {n_tunnels : Int32} {n_messages : Int32} {n_areas : (Nat → Int32)} {n_firsts : (Nat → Int32)} {n_seconds : (Nat → Int32)} {n_privates : (Nat → Int32)} {n_entries : (Nat → Int32)} {n_exits : (Nat → Int32)} {n_truth : (Nat → Int32)} {n_facts : (Nat → Int32)} {n_news : (Nat → Int64)} {res : Int32 × Int32 × Int32 × Int32 × Int32 × Int32 × Int32 × Int32}  {H : Heap} {locs : List Loc} {ls : Array Slot} (hw : zW Z A ((wX5 Z Ar r_text r_length r_start r_end r_kind r_error r_thing r_first r_second r_cost ++ wX3 Z An n_nodes n_links n_tunnels n_messages n_areas n_firsts n_seconds n_privates n_entries n_exits n_truth n_facts n_news)) s.heap H locs) (hl : lv_has ls 2 [(0, .ref (Ar 0))]) (h : uX5_readItem_127 k2 r_text r_length r_start r_end r_kind r_error r_thing n_nodes = some res) : W p l e rmX5_readItem s m args below meth c H locs 0 0 (MQ below (zQv Z ((wX5 Z Ar r_text r_length res.1 res.2.1 res.2.2.1 res.2.2.2.1 res.2.2.2.2.1 res.2.2.2.2.2.1 res.2.2.2.2.2.2.1 res.2.2.2.2.2.2.2 ++ wX3 Z An n_nodes n_links n_tunnels n_messages n_areas n_firsts n_seconds n_privates n_entries n_exits n_truth n_facts n_news)) A) args s 0 0 A) (F0 m 127 ls [.int k2, .ref (An 0), .ref (Ar 0)]) := by
  unfold uX5_readItem_127 at h
  refine r_bipush E 40 dX5_readItem_127 (by decide) ?_
  obtain ⟨y7, hy7, h⟩ := bd_some h
  refine r_callVAv E hw (mX5_readLine l Z _ Ar An r_text r_length r_start r_end r_kind r_error r_thing r_first r_second r_cost n_nodes n_links n_tunnels n_messages n_areas n_firsts n_seconds n_privates n_entries n_exits n_truth n_facts n_news k2 (40 : Int32) hy7) kL_X5_83 kI_X5_readLine kS_X5_readLine kN_X5 kC_X5_readLine rfl rfl hdX5_readLine ⟨Nat.le_of_ble_eq_true rfl, Nat.le_of_ble_eq_true rfl⟩ 0 rfl rfl rfl rfl hl [] rfl (Nat.le_of_ble_eq_true rfl) dX5_readItem_129 ⟨Nat.zero_le _, Nat.zero_le _⟩ (fun H locs hw => ?_)
  refine r_goto E 139 dX5_readItem_132 (by decide) ?_
  exact vX5_readItem_139 E  hw hl h
set_option maxRecDepth 100000 in
set_option maxHeartbeats 4000000 in
theorem mX5_readItem (l : Launch) (Z : zT) (sz : Nat) (Ar : Nat → Nat) (An : Nat → Nat) (r_text : (Nat → Int32)) (r_length : Int32) (r_start : Int32) (r_end : Int32) (r_kind : Int32) (r_error : Int32) (r_thing : Int32) (r_first : Int32) (r_second : Int32) (r_cost : Int32) (n_nodes : Int32) (n_links : Int32) (n_tunnels : Int32) (n_messages : Int32) (n_areas : (Nat → Int32)) (n_firsts : (Nat → Int32)) (n_seconds : (Nat → Int32)) (n_privates : (Nat → Int32)) (n_entries : (Nat → Int32)) (n_exits : (Nat → Int32)) (n_truth : (Nat → Int32)) (n_facts : (Nat → Int32)) (n_news : (Nat → Int64))  {res : Int32 × Int32 × Int32 × Int32 × Int32 × Int32 × Int32 × Int32} (h : fX5_readItem r_text r_length r_start r_end r_kind r_error r_first r_second r_cost n_nodes n_links n_tunnels n_truth = some res) : Met l yX5_readItem (Cond.code yX5_readItem cX5_readItem 2 none :: zWs) rmX5_readItem (zP Z ((wX5 Z Ar r_text r_length r_start r_end r_kind r_error r_thing r_first r_second r_cost ++ wX3 Z An n_nodes n_links n_tunnels n_messages n_areas n_firsts n_seconds n_privates n_entries n_exits n_truth n_facts n_news)) sz [.ref (Ar 0), .ref (An 0)]) (zQv Z ((wX5 Z Ar r_text r_length res.1 res.2.1 res.2.2.1 res.2.2.2.1 res.2.2.2.2.1 res.2.2.2.2.2.1 res.2.2.2.2.2.2.1 res.2.2.2.2.2.2.2 ++ wX3 Z An n_nodes n_links n_tunnels n_messages n_areas n_firsts n_seconds n_privates n_entries n_exits n_truth n_facts n_news)) (va_A ((wX5 Z Ar r_text r_length r_start r_end r_kind r_error r_thing r_first r_second r_cost ++ wX3 Z An n_nodes n_links n_tunnels n_messages n_areas n_firsts n_seconds n_privates n_entries n_exits n_truth n_facts n_news)) sz)) 0 0 (va_A ((wX5 Z Ar r_text r_length r_start r_end r_kind r_error r_thing r_first r_second r_cost ++ wX3 Z An n_nodes n_links n_tunnels n_messages n_areas n_firsts n_seconds n_privates n_entries n_exits n_truth n_facts n_news)) sz) := by
  refine zMet (own := RX5) (fun A => zQv Z ((wX5 Z Ar r_text r_length res.1 res.2.1 res.2.2.1 res.2.2.2.1 res.2.2.2.2.1 res.2.2.2.2.2.1 res.2.2.2.2.2.2.1 res.2.2.2.2.2.2.2 ++ wX3 Z An n_nodes n_links n_tunnels n_messages n_areas n_firsts n_seconds n_privates n_entries n_exits n_truth n_facts n_news)) A) (by decide) rfl (Nat.le_of_ble_eq_true rfl) ?_
  intro p e s m args below meth c ls A E hw hl
  unfold fX5_readItem at h
  refine r_aload_n E hl 0 rfl dX5_readItem_0 rfl ?_
  refine r_aload_n E hl 0 rfl dX5_readItem_1 rfl ?_
  obtain ⟨y1, hy1, h⟩ := bd_some h
  refine r_callVQi E ((wX5 Z Ar r_text r_length r_start r_end r_kind r_error r_thing r_first r_second r_cost ++ wX3 Z An n_nodes n_links n_tunnels n_messages n_areas n_firsts n_seconds n_privates n_entries n_exits n_truth n_facts n_news)) (wX3 Z An n_nodes n_links n_tunnels n_messages n_areas n_firsts n_seconds n_privates n_entries n_exits n_truth n_facts n_news) hw (mX5_tokenThing l Z _ Ar r_text r_length r_start r_end r_kind r_error r_thing r_first r_second r_cost hy1) kL_X5_73 kI_X5_tokenThing kS_X5_tokenThing kN_X5 kC_X5_tokenThing rfl rfl hdX5_tokenThing ⟨Nat.le_of_ble_eq_true rfl, Nat.le_of_ble_eq_true rfl⟩ (fun f => by simp only [sf_app] <;> omega) (fun f => by simp only [sf_app] <;> omega) 0 rfl rfl rfl rfl hl [.ref (Ar 0)] rfl (Nat.le_of_ble_eq_true rfl) dX5_readItem_2 ⟨Nat.zero_le _, Nat.zero_le _⟩ (fun H locs hw => ?_)
  refine r_put E ((wX5 Z Ar r_text r_length r_start r_end r_kind r_error y1 r_first r_second r_cost ++ wX3 Z An n_nodes n_links n_tunnels n_messages n_areas n_firsts n_seconds n_privates n_entries n_exits n_truth n_facts n_news)) kW_X5 tyX5_ok nmX5 hw 0 rfl rfl 6 (by decide) kF_X5_31 rfl rfl rfl (Nat.le_of_ble_eq_true rfl) rfl dX5_readItem_5 (fun H locs hw => ?_)
  refine r_aload_n E hl 0 rfl dX5_readItem_8 rfl ?_
  refine r_get E kW_X5 hw 0 rfl rfl 6 (by decide) kF_X5_31 rfl dX5_readItem_9 ?_
  by_cases hc1 : y1 = (1 : Int32)
  · replace h := ite_t hc1 h
    refine r_tabIn E 48 dX5_readItem_12 (1 : Int32) hc1 (by decide) (by decide) rfl (by decide) ?_
    refine r_aload_n E hl 0 rfl dX5_readItem_48 rfl ?_
    refine r_aload_n E hl 1 rfl dX5_readItem_49 rfl ?_
    obtain ⟨y2, hy2, h⟩ := bd_some h
    refine r_callVAv E hw (mX5_readNode l Z _ Ar An r_text r_length r_start r_end r_kind r_error y1 r_first r_second r_cost n_nodes n_links n_tunnels n_messages n_areas n_firsts n_seconds n_privates n_entries n_exits n_truth n_facts n_news hy2) kL_X5_77 kI_X5_readNode kS_X5_readNode kN_X5 kC_X5_readNode rfl rfl hdX5_readNode ⟨Nat.le_of_ble_eq_true rfl, Nat.le_of_ble_eq_true rfl⟩ 0 rfl rfl rfl rfl hl [] rfl (Nat.le_of_ble_eq_true rfl) dX5_readItem_50 ⟨Nat.zero_le _, Nat.zero_le _⟩ (fun H locs hw => ?_)
    refine r_goto E 139 dX5_readItem_53 (by decide) ?_
    exact vX5_readItem_139 E  hw (lv_sub hl [0] rfl) h
  replace h := ite_f hc1 h
  by_cases hc2 : y1 = (2 : Int32)
  · replace h := ite_t hc2 h
    refine r_tabIn E 56 dX5_readItem_12 (2 : Int32) hc2 (by decide) (by decide) rfl (by decide) ?_
    refine r_aload_n E hl 0 rfl dX5_readItem_56 rfl ?_
    refine r_aload_n E hl 1 rfl dX5_readItem_57 rfl ?_
    refine r_aload_n E hl 1 rfl dX5_readItem_58 rfl ?_
    refine r_get E kW_X3 hw 2 rfl rfl 1 (by decide) kF_X5_80 rfl dX5_readItem_59 ?_
    refine r_bipush E 16 dX5_readItem_62 (by decide) ?_
    refine r_icmp_ge E 71 dX5_readItem_64 (by decide) (fun hc => ?_) (fun hc => ?_)
    · replace h := ite_t hc h
      refine r_iconst E 0 dX5_readItem_71 (by decide) ?_
      exact vX5_readItem_72 E  hw (lv_sub hl [0] rfl) h
    · replace h := ite_f hc h
      refine r_iconst E 1 dX5_readItem_67 (by decide) ?_
      refine r_goto E 72 dX5_readItem_68 (by decide) ?_
      exact vX5_readItem_72 E  hw (lv_sub hl [0] rfl) h
  replace h := ite_f hc2 h
  by_cases hc3 : y1 = (3 : Int32)
  · replace h := ite_t hc3 h
    refine r_tabIn E 80 dX5_readItem_12 (3 : Int32) hc3 (by decide) (by decide) rfl (by decide) ?_
    refine r_aload_n E hl 0 rfl dX5_readItem_80 rfl ?_
    refine r_aload_n E hl 1 rfl dX5_readItem_81 rfl ?_
    refine r_aload_n E hl 1 rfl dX5_readItem_82 rfl ?_
    refine r_get E kW_X3 hw 2 rfl rfl 1 (by decide) kF_X5_80 rfl dX5_readItem_83 ?_
    refine r_bipush E 16 dX5_readItem_86 (by decide) ?_
    refine r_icmp_ge E 95 dX5_readItem_88 (by decide) (fun hc => ?_) (fun hc => ?_)
    · replace h := ite_t hc h
      refine r_iconst E 0 dX5_readItem_95 (by decide) ?_
      exact vX5_readItem_96 E  hw (lv_sub hl [0] rfl) h
    · replace h := ite_f hc h
      refine r_iconst E 1 dX5_readItem_91 (by decide) ?_
      refine r_goto E 96 dX5_readItem_92 (by decide) ?_
      exact vX5_readItem_96 E  hw (lv_sub hl [0] rfl) h
  replace h := ite_f hc3 h
  by_cases hc4 : y1 = (4 : Int32)
  · replace h := ite_t hc4 h
    refine r_tabIn E 104 dX5_readItem_12 (4 : Int32) hc4 (by decide) (by decide) rfl (by decide) ?_
    refine r_aload_n E hl 0 rfl dX5_readItem_104 rfl ?_
    refine r_aload_n E hl 1 rfl dX5_readItem_105 rfl ?_
    obtain ⟨y6, hy6, h⟩ := bd_some h
    refine r_callVAv E hw (mX5_readGrant l Z _ Ar An r_text r_length r_start r_end r_kind r_error y1 r_first r_second r_cost n_nodes n_links n_tunnels n_messages n_areas n_firsts n_seconds n_privates n_entries n_exits n_truth n_facts n_news hy6) kL_X5_87 kI_X5_readGrant kS_X5_readGrant kN_X5 kC_X5_readGrant rfl rfl hdX5_readGrant ⟨Nat.le_of_ble_eq_true rfl, Nat.le_of_ble_eq_true rfl⟩ 0 rfl rfl rfl rfl hl [] rfl (Nat.le_of_ble_eq_true rfl) dX5_readItem_106 ⟨Nat.zero_le _, Nat.zero_le _⟩ (fun H locs hw => ?_)
    refine r_goto E 139 dX5_readItem_109 (by decide) ?_
    exact vX5_readItem_139 E  hw (lv_sub hl [0] rfl) h
  replace h := ite_f hc4 h
  by_cases hc5 : y1 = (5 : Int32)
  · replace h := ite_t hc5 h
    refine r_tabIn E 112 dX5_readItem_12 (5 : Int32) hc5 (by decide) (by decide) rfl (by decide) ?_
    refine r_aload_n E hl 0 rfl dX5_readItem_112 rfl ?_
    refine r_aload_n E hl 1 rfl dX5_readItem_113 rfl ?_
    refine r_aload_n E hl 1 rfl dX5_readItem_114 rfl ?_
    refine r_get E kW_X3 hw 2 rfl rfl 2 (by decide) kF_X5_90 rfl dX5_readItem_115 ?_
    refine r_iconst E 3 dX5_readItem_118 (by decide) ?_
    refine r_icmp_ge E 126 dX5_readItem_119 (by decide) (fun hc => ?_) (fun hc => ?_)
    · replace h := ite_t hc h
      refine r_iconst E 0 dX5_readItem_126 (by decide) ?_
      exact vX5_readItem_127 E  hw (lv_sub hl [0] rfl) h
    · replace h := ite_f hc h
      refine r_iconst E 1 dX5_readItem_122 (by decide) ?_
      refine r_goto E 127 dX5_readItem_123 (by decide) ?_
      exact vX5_readItem_127 E  hw (lv_sub hl [0] rfl) h
  replace h := ite_f hc5 h
  refine r_tabOut E 135 dX5_readItem_12 (by have a1 := ne_toInt hc1 (k := 1) (by decide); have a2 := ne_toInt hc2 (k := 2) (by decide); have a3 := ne_toInt hc3 (k := 3) (by decide); have a4 := ne_toInt hc4 (k := 4) (by decide); have a5 := ne_toInt hc5 (k := 5) (by decide); omega) (by decide) ?_
  refine r_aload_n E hl 0 rfl dX5_readItem_135 rfl ?_
  obtain ⟨y8, hy8, h⟩ := bd_some h
  refine r_callVQv E ((wX5 Z Ar r_text r_length r_start r_end r_kind y8 y1 r_first r_second r_cost ++ wX3 Z An n_nodes n_links n_tunnels n_messages n_areas n_firsts n_seconds n_privates n_entries n_exits n_truth n_facts n_news)) (wX3 Z An n_nodes n_links n_tunnels n_messages n_areas n_firsts n_seconds n_privates n_entries n_exits n_truth n_facts n_news) hw (mX5_fail l Z _ Ar r_text r_length r_start r_end r_kind r_error y1 r_first r_second r_cost hy8) kL_X5_93 kI_X5_fail kS_X5_fail kN_X5 kC_X5_fail rfl rfl hdX5_fail ⟨Nat.le_of_ble_eq_true rfl, Nat.le_of_ble_eq_true rfl⟩ (fun f => by simp only [sf_app] <;> omega) (fun f => by simp only [sf_app] <;> omega) 0 rfl rfl rfl rfl hl [] rfl (Nat.le_of_ble_eq_true rfl) dX5_readItem_136 ⟨Nat.zero_le _, Nat.zero_le _⟩ (fun H locs hw => ?_)
  exact vX5_readItem_139 E  hw (lv_sub hl [0] rfl) h
abbrev rmX5_readNetwork : Room := { frames := 7, cells := 0, slots := 0, locals := 148 }

set_option maxRecDepth 100000 in
set_option maxHeartbeats 4000000 in
theorem vX5_readNetwork_46 {Z : zT} {p : Program} {l : Launch} {e : Env} {s : State} {m : MethodId} {args : Array Value} {below : List Frame} {meth : Method} {c : Code} {A : Nat → Prop} (E : zE Z p s m args meth c RX5 cX5_readNetwork 3 (some .int) A) {Ar : Nat → Nat} {An : Nat → Nat} {r_text : (Nat → Int32)} {r_length : Int32} {r_start : Int32} {r_end : Int32} {r_kind : Int32} {r_error : Int32} {r_thing : Int32} {r_first : Int32} {r_second : Int32} {r_cost : Int32} {n_nodes : Int32} {n_links : Int32} {n_tunnels : Int32} {n_messages : Int32} {n_areas : (Nat → Int32)} {n_firsts : (Nat → Int32)} {n_seconds : (Nat → Int32)} {n_privates : (Nat → Int32)} {n_entries : (Nat → Int32)} {n_exits : (Nat → Int32)} {n_truth : (Nat → Int32)} {n_facts : (Nat → Int32)} {n_news : (Nat → Int64)} {res : Int32 × Int32 × Int32 × Int32 × Int32 × Int32 × Int32 × Int32 × Int32 × Int32 × Int32 × Int32 × Int32 × (Nat → Int32) × (Nat → Int32) × (Nat → Int32) × (Nat → Int32) × (Nat → Int32) × (Nat → Int32) × (Nat → Int32) × (Nat → Int32) × (Nat → Int64)}  {H : Heap} {locs : List Loc} {ls : Array Slot} (hw : zW Z A ((wX5 Z Ar r_text r_length r_start r_end r_kind r_error r_thing r_first r_second r_cost ++ wX3 Z An n_nodes n_links n_tunnels n_messages n_areas n_firsts n_seconds n_privates n_entries n_exits n_truth n_facts n_news)) s.heap H locs) (hl : lv_has ls 3 [(0, .ref (Ar 0))]) (h : uX5_readNetwork_46 r_start r_end r_kind r_error r_thing r_first r_second r_cost n_nodes n_links n_tunnels n_messages n_areas n_firsts n_seconds n_privates n_entries n_exits n_truth n_facts n_news = some res) : W p l e rmX5_readNetwork s m args below meth c H locs 0 0 (MQ below (zQi Z res.1 ((wX5 Z Ar r_text r_length res.2.1 res.2.2.1 res.2.2.2.1 res.2.2.2.2.1 res.2.2.2.2.2.1 res.2.2.2.2.2.2.1 res.2.2.2.2.2.2.2.1 res.2.2.2.2.2.2.2.2.1 ++ wX3 Z An res.2.2.2.2.2.2.2.2.2.1 res.2.2.2.2.2.2.2.2.2.2.1 res.2.2.2.2.2.2.2.2.2.2.2.1 res.2.2.2.2.2.2.2.2.2.2.2.2.1 res.2.2.2.2.2.2.2.2.2.2.2.2.2.1 res.2.2.2.2.2.2.2.2.2.2.2.2.2.2.1 res.2.2.2.2.2.2.2.2.2.2.2.2.2.2.2.1 res.2.2.2.2.2.2.2.2.2.2.2.2.2.2.2.2.1 res.2.2.2.2.2.2.2.2.2.2.2.2.2.2.2.2.2.1 res.2.2.2.2.2.2.2.2.2.2.2.2.2.2.2.2.2.2.1 res.2.2.2.2.2.2.2.2.2.2.2.2.2.2.2.2.2.2.2.1 res.2.2.2.2.2.2.2.2.2.2.2.2.2.2.2.2.2.2.2.2.1 res.2.2.2.2.2.2.2.2.2.2.2.2.2.2.2.2.2.2.2.2.2)) A) args s 0 0 A) (F0 m 46 ls []) := by
  unfold uX5_readNetwork_46 at h
  refine r_bipush E (-10) dX5_readNetwork_46 (by decide) ?_
  refine r_aload_n E hl 0 rfl dX5_readNetwork_48 rfl ?_
  refine r_get E kW_X5 hw 0 rfl rfl 5 (by decide) kF_X5_28 rfl dX5_readNetwork_49 ?_
  refine r_isub E dX5_readNetwork_52 ?_
  obtain rfl := Option.some.inj h
  exact r_iret E hw dX5_readNetwork_53
set_option maxRecDepth 100000 in
set_option maxHeartbeats 4000000 in
theorem tX5_readNetwork_20 {Z : zT} {p : Program} {l : Launch} {e : Env} {s : State} {m : MethodId} {args : Array Value} {below : List Frame} {meth : Method} {c : Code} {A : Nat → Prop} (E : zE Z p s m args meth c RX5 cX5_readNetwork 3 (some .int) A) {Ar : Nat → Nat} {An : Nat → Nat} {r_text : (Nat → Int32)} {r_length : Int32} {n_messages : Int32} {res : Int32 × Int32 × Int32 × Int32 × Int32 × Int32 × Int32 × Int32 × Int32 × Int32 × Int32 × Int32 × Int32 × (Nat → Int32) × (Nat → Int32) × (Nat → Int32) × (Nat → Int32) × (Nat → Int32) × (Nat → Int32) × (Nat → Int32) × (Nat → Int32) × (Nat → Int64)}  : ∀ (n : Nat) (v2 : Int32) (r_start : Int32) (r_end : Int32) (r_kind : Int32) (r_error : Int32) (r_thing : Int32) (r_first : Int32) (r_second : Int32) (r_cost : Int32) (n_nodes : Int32) (n_links : Int32) (n_tunnels : Int32) (n_areas : (Nat → Int32)) (n_firsts : (Nat → Int32)) (n_seconds : (Nat → Int32)) (n_privates : (Nat → Int32)) (n_entries : (Nat → Int32)) (n_exits : (Nat → Int32)) (n_truth : (Nat → Int32)) (n_facts : (Nat → Int32)) (n_news : (Nat → Int64)) (H : Heap) (locs : List Loc) (ls : Array Slot), iter (fun b : Int32 × Int32 × Int32 × Int32 × Int32 × Int32 × Int32 × Int32 × Int32 × Int32 × Int32 × Int32 × (Nat → Int32) × (Nat → Int32) × (Nat → Int32) × (Nat → Int32) × (Nat → Int32) × (Nat → Int32) × (Nat → Int32) × (Nat → Int32) × (Nat → Int64) => sX5_readNetwork_20 r_text r_length n_messages b.1 b.2.1 b.2.2.1 b.2.2.2.1 b.2.2.2.2.1 b.2.2.2.2.2.1 b.2.2.2.2.2.2.1 b.2.2.2.2.2.2.2.1 b.2.2.2.2.2.2.2.2.1 b.2.2.2.2.2.2.2.2.2.1 b.2.2.2.2.2.2.2.2.2.2.1 b.2.2.2.2.2.2.2.2.2.2.2.1 b.2.2.2.2.2.2.2.2.2.2.2.2.1 b.2.2.2.2.2.2.2.2.2.2.2.2.2.1 b.2.2.2.2.2.2.2.2.2.2.2.2.2.2.1 b.2.2.2.2.2.2.2.2.2.2.2.2.2.2.2.1 b.2.2.2.2.2.2.2.2.2.2.2.2.2.2.2.2.1 b.2.2.2.2.2.2.2.2.2.2.2.2.2.2.2.2.2.1 b.2.2.2.2.2.2.2.2.2.2.2.2.2.2.2.2.2.2.1 b.2.2.2.2.2.2.2.2.2.2.2.2.2.2.2.2.2.2.2.1 b.2.2.2.2.2.2.2.2.2.2.2.2.2.2.2.2.2.2.2.2) n (v2, r_start, r_end, r_kind, r_error, r_thing, r_first, r_second, r_cost, n_nodes, n_links, n_tunnels, n_areas, n_firsts, n_seconds, n_privates, n_entries, n_exits, n_truth, n_facts, n_news) = some res → zW Z A ((wX5 Z Ar r_text r_length r_start r_end r_kind r_error r_thing r_first r_second r_cost ++ wX3 Z An n_nodes n_links n_tunnels n_messages n_areas n_firsts n_seconds n_privates n_entries n_exits n_truth n_facts n_news)) s.heap H locs → lv_has ls 3 [(0, .ref (Ar 0)), (1, .ref (An 0)), (2, .int v2)] → W p l e rmX5_readNetwork s m args below meth c H locs 0 0 (MQ below (zQi Z res.1 ((wX5 Z Ar r_text r_length res.2.1 res.2.2.1 res.2.2.2.1 res.2.2.2.2.1 res.2.2.2.2.2.1 res.2.2.2.2.2.2.1 res.2.2.2.2.2.2.2.1 res.2.2.2.2.2.2.2.2.1 ++ wX3 Z An res.2.2.2.2.2.2.2.2.2.1 res.2.2.2.2.2.2.2.2.2.2.1 res.2.2.2.2.2.2.2.2.2.2.2.1 res.2.2.2.2.2.2.2.2.2.2.2.2.1 res.2.2.2.2.2.2.2.2.2.2.2.2.2.1 res.2.2.2.2.2.2.2.2.2.2.2.2.2.2.1 res.2.2.2.2.2.2.2.2.2.2.2.2.2.2.2.1 res.2.2.2.2.2.2.2.2.2.2.2.2.2.2.2.2.1 res.2.2.2.2.2.2.2.2.2.2.2.2.2.2.2.2.2.1 res.2.2.2.2.2.2.2.2.2.2.2.2.2.2.2.2.2.2.1 res.2.2.2.2.2.2.2.2.2.2.2.2.2.2.2.2.2.2.2.1 res.2.2.2.2.2.2.2.2.2.2.2.2.2.2.2.2.2.2.2.2.1 res.2.2.2.2.2.2.2.2.2.2.2.2.2.2.2.2.2.2.2.2.2)) A) args s 0 0 A) (F0 m 20 ls []) := by
  intro n
  induction n with
  | zero => intro v2 r_start r_end r_kind r_error r_thing r_first r_second r_cost n_nodes n_links n_tunnels n_areas n_firsts n_seconds n_privates n_entries n_exits n_truth n_facts n_news H locs ls h; cases h
  | succ n ih =>
    intro v2 r_start r_end r_kind r_error r_thing r_first r_second r_cost n_nodes n_links n_tunnels n_areas n_firsts n_seconds n_privates n_entries n_exits n_truth n_facts n_news H locs ls h hw hl
    obtain ⟨q1, h, hn1, hr1⟩ := iter_out h
    have hb1 : ∀ b : Int32 × Int32 × Int32 × Int32 × Int32 × Int32 × Int32 × Int32 × Int32 × Int32 × Int32 × Int32 × (Nat → Int32) × (Nat → Int32) × (Nat → Int32) × (Nat → Int32) × (Nat → Int32) × (Nat → Int32) × (Nat → Int32) × (Nat → Int32) × (Nat → Int64), q1 = .inl b → ∀ (H : Heap) (locs : List Loc) (ls : Array Slot), zW Z A ((wX5 Z Ar r_text r_length b.2.1 b.2.2.1 b.2.2.2.1 b.2.2.2.2.1 b.2.2.2.2.2.1 b.2.2.2.2.2.2.1 b.2.2.2.2.2.2.2.1 b.2.2.2.2.2.2.2.2.1 ++ wX3 Z An b.2.2.2.2.2.2.2.2.2.1 b.2.2.2.2.2.2.2.2.2.2.1 b.2.2.2.2.2.2.2.2.2.2.2.1 n_messages b.2.2.2.2.2.2.2.2.2.2.2.2.1 b.2.2.2.2.2.2.2.2.2.2.2.2.2.1 b.2.2.2.2.2.2.2.2.2.2.2.2.2.2.1 b.2.2.2.2.2.2.2.2.2.2.2.2.2.2.2.1 b.2.2.2.2.2.2.2.2.2.2.2.2.2.2.2.2.1 b.2.2.2.2.2.2.2.2.2.2.2.2.2.2.2.2.2.1 b.2.2.2.2.2.2.2.2.2.2.2.2.2.2.2.2.2.2.1 b.2.2.2.2.2.2.2.2.2.2.2.2.2.2.2.2.2.2.2.1 b.2.2.2.2.2.2.2.2.2.2.2.2.2.2.2.2.2.2.2.2)) s.heap H locs → lv_has ls 3 [(0, .ref (Ar 0)), (1, .ref (An 0)), (2, .int b.1)] → W p l e rmX5_readNetwork s m args below meth c H locs 0 0 (MQ below (zQi Z res.1 ((wX5 Z Ar r_text r_length res.2.1 res.2.2.1 res.2.2.2.1 res.2.2.2.2.1 res.2.2.2.2.2.1 res.2.2.2.2.2.2.1 res.2.2.2.2.2.2.2.1 res.2.2.2.2.2.2.2.2.1 ++ wX3 Z An res.2.2.2.2.2.2.2.2.2.1 res.2.2.2.2.2.2.2.2.2.2.1 res.2.2.2.2.2.2.2.2.2.2.2.1 res.2.2.2.2.2.2.2.2.2.2.2.2.1 res.2.2.2.2.2.2.2.2.2.2.2.2.2.1 res.2.2.2.2.2.2.2.2.2.2.2.2.2.2.1 res.2.2.2.2.2.2.2.2.2.2.2.2.2.2.2.1 res.2.2.2.2.2.2.2.2.2.2.2.2.2.2.2.2.1 res.2.2.2.2.2.2.2.2.2.2.2.2.2.2.2.2.2.1 res.2.2.2.2.2.2.2.2.2.2.2.2.2.2.2.2.2.2.1 res.2.2.2.2.2.2.2.2.2.2.2.2.2.2.2.2.2.2.2.1 res.2.2.2.2.2.2.2.2.2.2.2.2.2.2.2.2.2.2.2.2.1 res.2.2.2.2.2.2.2.2.2.2.2.2.2.2.2.2.2.2.2.2.2)) A) args s 0 0 A) (F0 m 20 ls []) := fun b eb H locs ls hw hl => ih b.1 b.2.1 b.2.2.1 b.2.2.2.1 b.2.2.2.2.1 b.2.2.2.2.2.1 b.2.2.2.2.2.2.1 b.2.2.2.2.2.2.2.1 b.2.2.2.2.2.2.2.2.1 b.2.2.2.2.2.2.2.2.2.1 b.2.2.2.2.2.2.2.2.2.2.1 b.2.2.2.2.2.2.2.2.2.2.2.1 b.2.2.2.2.2.2.2.2.2.2.2.2.1 b.2.2.2.2.2.2.2.2.2.2.2.2.2.1 b.2.2.2.2.2.2.2.2.2.2.2.2.2.2.1 b.2.2.2.2.2.2.2.2.2.2.2.2.2.2.2.1 b.2.2.2.2.2.2.2.2.2.2.2.2.2.2.2.2.1 b.2.2.2.2.2.2.2.2.2.2.2.2.2.2.2.2.2.1 b.2.2.2.2.2.2.2.2.2.2.2.2.2.2.2.2.2.2.1 b.2.2.2.2.2.2.2.2.2.2.2.2.2.2.2.2.2.2.2.1 b.2.2.2.2.2.2.2.2.2.2.2.2.2.2.2.2.2.2.2.2 H locs ls (hn1 b eb) hw hl
    replace h : sX5_readNetwork_20 r_text r_length n_messages v2 r_start r_end r_kind r_error r_thing r_first r_second r_cost n_nodes n_links n_tunnels n_areas n_firsts n_seconds n_privates n_entries n_exits n_truth n_facts n_news = some q1 := h
    unfold sX5_readNetwork_20 at h
    refine r_iload_n E hl 2 rfl dX5_readNetwork_20 rfl ?_
    refine r_bipush E 120 dX5_readNetwork_21 (by decide) ?_
    refine r_icmp_ge E 69 dX5_readNetwork_23 (by decide) (fun hc => ?_) (fun hc => ?_)
    · replace h := ite_t hc h
      obtain ⟨ro3, h, hro3⟩ := oi_some h
      rw [hr1 _ hro3] at h
      refine r_iload_n E hl 2 rfl dX5_readNetwork_69 rfl ?_
      obtain rfl := Option.some.inj h
      exact r_iret E hw dX5_readNetwork_70
    · replace h := ite_f hc h
      refine r_aload_n E hl 0 rfl dX5_readNetwork_26 rfl ?_
      refine r_get E kW_X5 hw 0 rfl rfl 4 (by decide) kF_X5_25 rfl dX5_readNetwork_27 ?_
      refine r_if_eq E 69 dX5_readNetwork_30 (by decide) (fun hc => ?_) (fun hc => ?_)
      · replace h := ite_t hc h
        obtain ⟨ro4, h, hro4⟩ := oi_some h
        rw [hr1 _ hro4] at h
        refine r_iload_n E hl 2 rfl dX5_readNetwork_69 rfl ?_
        obtain rfl := Option.some.inj h
        exact r_iret E hw dX5_readNetwork_70
      · replace h := ite_f hc h
        refine r_aload_n E hl 0 rfl dX5_readNetwork_33 rfl ?_
        refine r_aload_n E hl 1 rfl dX5_readNetwork_34 rfl ?_
        obtain ⟨y5, hy5, h⟩ := bd_some h
        refine r_callVAv E hw (mX5_readItem l Z _ Ar An r_text r_length r_start r_end r_kind r_error r_thing r_first r_second r_cost n_nodes n_links n_tunnels n_messages n_areas n_firsts n_seconds n_privates n_entries n_exits n_truth n_facts n_news hy5) kL_X5_51 kI_X5_readItem kS_X5_readItem kN_X5 kC_X5_readItem rfl rfl hdX5_readItem ⟨Nat.le_of_ble_eq_true rfl, Nat.le_of_ble_eq_true rfl⟩ 0 rfl rfl rfl rfl hl [] rfl (Nat.le_of_ble_eq_true rfl) dX5_readNetwork_35 ⟨Nat.zero_le _, Nat.zero_le _⟩ (fun H locs hw => ?_)
        refine r_aload_n E hl 0 rfl dX5_readNetwork_38 rfl ?_
        refine r_get E kW_X5 hw 0 rfl rfl 5 (by decide) kF_X5_28 rfl dX5_readNetwork_39 ?_
        refine r_iconst E (-1) dX5_readNetwork_42 (by decide) ?_
        refine r_icmp_eq E 54 dX5_readNetwork_43 (by decide) (fun hc => ?_) (fun hc => ?_)
        · replace h := ite_t hc h
          refine r_aload_n E hl 0 rfl dX5_readNetwork_54 rfl ?_
          refine r_aload_n E hl 1 rfl dX5_readNetwork_55 rfl ?_
          obtain ⟨y6, hy6, h⟩ := bd_some h
          refine r_callVAv E hw (mX5_addThing l Z _ Ar An r_text r_length y5.1 y5.2.1 y5.2.2.1 y5.2.2.2.1 y5.2.2.2.2.1 y5.2.2.2.2.2.1 y5.2.2.2.2.2.2.1 y5.2.2.2.2.2.2.2 n_nodes n_links n_tunnels n_messages n_areas n_firsts n_seconds n_privates n_entries n_exits n_truth n_facts n_news hy6) kL_X5_55 kI_X5_addThing kS_X5_addThing kN_X5 kC_X5_addThing rfl rfl hdX5_addThing ⟨Nat.le_of_ble_eq_true rfl, Nat.le_of_ble_eq_true rfl⟩ 0 rfl rfl rfl rfl hl [] rfl (Nat.le_of_ble_eq_true rfl) dX5_readNetwork_56 ⟨Nat.zero_le _, Nat.zero_le _⟩ (fun H locs hw => ?_)
          obtain ⟨w7, hw7, h⟩ := nm_out h
          refine r_iinc E w7 [(2, .int w7), (0, .ref (Ar 0)), (1, .ref (An 0))] hl (k := 2) rfl dX5_readNetwork_59 hw7.symm (by decide) rfl (fun ls hl => ?_)
          refine r_aload_n E hl 1 rfl dX5_readNetwork_62 rfl ?_
          obtain ⟨y8, hy8, h⟩ := bd_some h
          refine r_callVQv E ((wX5 Z Ar r_text r_length y8.1 y8.2.1 y8.2.2 y5.2.2.2.1 y5.2.2.2.2.1 y5.2.2.2.2.2.1 y5.2.2.2.2.2.2.1 y5.2.2.2.2.2.2.2 ++ wX3 Z An y6.1 y6.2.1 y6.2.2.1 n_messages y6.2.2.2.1 y6.2.2.2.2.1 y6.2.2.2.2.2.1 y6.2.2.2.2.2.2.1 y6.2.2.2.2.2.2.2.1 y6.2.2.2.2.2.2.2.2.1 y6.2.2.2.2.2.2.2.2.2.1 y6.2.2.2.2.2.2.2.2.2.2.1 y6.2.2.2.2.2.2.2.2.2.2.2)) (wX3 Z An y6.1 y6.2.1 y6.2.2.1 n_messages y6.2.2.2.1 y6.2.2.2.2.1 y6.2.2.2.2.2.1 y6.2.2.2.2.2.2.1 y6.2.2.2.2.2.2.2.1 y6.2.2.2.2.2.2.2.2.1 y6.2.2.2.2.2.2.2.2.2.1 y6.2.2.2.2.2.2.2.2.2.2.1 y6.2.2.2.2.2.2.2.2.2.2.2) hw (mX5_takeToken l Z _ Ar r_text r_length y5.1 y5.2.1 y5.2.2.1 y5.2.2.2.1 y5.2.2.2.2.1 y5.2.2.2.2.2.1 y5.2.2.2.2.2.2.1 y5.2.2.2.2.2.2.2 hy8) kL_X5_48 kI_X5_takeToken kS_X5_takeToken kN_X5 kC_X5_takeToken rfl rfl hdX5_takeToken ⟨Nat.le_of_ble_eq_true rfl, Nat.le_of_ble_eq_true rfl⟩ (fun f => by simp only [sf_app] <;> omega) (fun f => by simp only [sf_app] <;> omega) 0 rfl rfl rfl rfl hl [] rfl (Nat.le_of_ble_eq_true rfl) dX5_readNetwork_63 ⟨Nat.zero_le _, Nat.zero_le _⟩ (fun H locs hw => ?_)
          refine r_goto E 20 dX5_readNetwork_66 (by decide) ?_
          exact hb1 _ (Option.some.inj h).symm _ _ _ hw (lv_sub hl [1, 2, 0] rfl)
        · replace h := ite_f hc h
          obtain ⟨ro9, h, hro9⟩ := oi_some h
          rw [hr1 _ hro9] at h
          exact vX5_readNetwork_46 E  hw (lv_sub hl [0] rfl) h
set_option maxRecDepth 100000 in
set_option maxHeartbeats 4000000 in
theorem mX5_readNetwork (l : Launch) (Z : zT) (sz : Nat) (Ar : Nat → Nat) (An : Nat → Nat) (r_text : (Nat → Int32)) (r_length : Int32) (r_start : Int32) (r_end : Int32) (r_kind : Int32) (r_error : Int32) (r_thing : Int32) (r_first : Int32) (r_second : Int32) (r_cost : Int32) (n_nodes : Int32) (n_links : Int32) (n_tunnels : Int32) (n_messages : Int32) (n_areas : (Nat → Int32)) (n_firsts : (Nat → Int32)) (n_seconds : (Nat → Int32)) (n_privates : (Nat → Int32)) (n_entries : (Nat → Int32)) (n_exits : (Nat → Int32)) (n_truth : (Nat → Int32)) (n_facts : (Nat → Int32)) (n_news : (Nat → Int64))  {res : Int32 × Int32 × Int32 × Int32 × Int32 × Int32 × Int32 × Int32 × Int32 × Int32 × Int32 × Int32 × Int32 × (Nat → Int32) × (Nat → Int32) × (Nat → Int32) × (Nat → Int32) × (Nat → Int32) × (Nat → Int32) × (Nat → Int32) × (Nat → Int32) × (Nat → Int64)} (h : fX5_readNetwork r_text r_length r_thing r_first r_second r_cost n_areas n_firsts n_seconds n_privates n_entries n_exits n_truth n_facts n_news = some res) : Met l yX5_readNetwork (Cond.code yX5_readNetwork cX5_readNetwork 3 (some .int) :: zWs) rmX5_readNetwork (zP Z ((wX5 Z Ar r_text r_length r_start r_end r_kind r_error r_thing r_first r_second r_cost ++ wX3 Z An n_nodes n_links n_tunnels n_messages n_areas n_firsts n_seconds n_privates n_entries n_exits n_truth n_facts n_news)) sz [.ref (Ar 0), .ref (An 0)]) (zQi Z res.1 ((wX5 Z Ar r_text r_length res.2.1 res.2.2.1 res.2.2.2.1 res.2.2.2.2.1 res.2.2.2.2.2.1 res.2.2.2.2.2.2.1 res.2.2.2.2.2.2.2.1 res.2.2.2.2.2.2.2.2.1 ++ wX3 Z An res.2.2.2.2.2.2.2.2.2.1 res.2.2.2.2.2.2.2.2.2.2.1 res.2.2.2.2.2.2.2.2.2.2.2.1 res.2.2.2.2.2.2.2.2.2.2.2.2.1 res.2.2.2.2.2.2.2.2.2.2.2.2.2.1 res.2.2.2.2.2.2.2.2.2.2.2.2.2.2.1 res.2.2.2.2.2.2.2.2.2.2.2.2.2.2.2.1 res.2.2.2.2.2.2.2.2.2.2.2.2.2.2.2.2.1 res.2.2.2.2.2.2.2.2.2.2.2.2.2.2.2.2.2.1 res.2.2.2.2.2.2.2.2.2.2.2.2.2.2.2.2.2.2.1 res.2.2.2.2.2.2.2.2.2.2.2.2.2.2.2.2.2.2.2.1 res.2.2.2.2.2.2.2.2.2.2.2.2.2.2.2.2.2.2.2.2.1 res.2.2.2.2.2.2.2.2.2.2.2.2.2.2.2.2.2.2.2.2.2)) (va_A ((wX5 Z Ar r_text r_length r_start r_end r_kind r_error r_thing r_first r_second r_cost ++ wX3 Z An n_nodes n_links n_tunnels n_messages n_areas n_firsts n_seconds n_privates n_entries n_exits n_truth n_facts n_news)) sz)) 0 0 (va_A ((wX5 Z Ar r_text r_length r_start r_end r_kind r_error r_thing r_first r_second r_cost ++ wX3 Z An n_nodes n_links n_tunnels n_messages n_areas n_firsts n_seconds n_privates n_entries n_exits n_truth n_facts n_news)) sz) := by
  refine zMet (own := RX5) (fun A => zQi Z res.1 ((wX5 Z Ar r_text r_length res.2.1 res.2.2.1 res.2.2.2.1 res.2.2.2.2.1 res.2.2.2.2.2.1 res.2.2.2.2.2.2.1 res.2.2.2.2.2.2.2.1 res.2.2.2.2.2.2.2.2.1 ++ wX3 Z An res.2.2.2.2.2.2.2.2.2.1 res.2.2.2.2.2.2.2.2.2.2.1 res.2.2.2.2.2.2.2.2.2.2.2.1 res.2.2.2.2.2.2.2.2.2.2.2.2.1 res.2.2.2.2.2.2.2.2.2.2.2.2.2.1 res.2.2.2.2.2.2.2.2.2.2.2.2.2.2.1 res.2.2.2.2.2.2.2.2.2.2.2.2.2.2.2.1 res.2.2.2.2.2.2.2.2.2.2.2.2.2.2.2.2.1 res.2.2.2.2.2.2.2.2.2.2.2.2.2.2.2.2.2.1 res.2.2.2.2.2.2.2.2.2.2.2.2.2.2.2.2.2.2.1 res.2.2.2.2.2.2.2.2.2.2.2.2.2.2.2.2.2.2.2.1 res.2.2.2.2.2.2.2.2.2.2.2.2.2.2.2.2.2.2.2.2.1 res.2.2.2.2.2.2.2.2.2.2.2.2.2.2.2.2.2.2.2.2.2)) A) (by decide) rfl (Nat.le_of_ble_eq_true rfl) ?_
  intro p e s m args below meth c ls A E hw hl
  unfold fX5_readNetwork at h
  refine r_aload_n E hl 1 rfl dX5_readNetwork_0 rfl ?_
  obtain ⟨y1, hy1, h⟩ := bd_some h
  refine r_callVQv E ((wX5 Z Ar r_text r_length r_start r_end r_kind r_error r_thing r_first r_second r_cost ++ wX3 Z An y1.1 y1.2.1 y1.2.2.1 y1.2.2.2.1 n_areas n_firsts n_seconds n_privates n_entries n_exits y1.2.2.2.2.1 y1.2.2.2.2.2.1 y1.2.2.2.2.2.2)) (wX5 Z Ar r_text r_length r_start r_end r_kind r_error r_thing r_first r_second r_cost) hw (mX3_makeEmpty l Z _ An n_nodes n_links n_tunnels n_messages n_areas n_firsts n_seconds n_privates n_entries n_exits n_truth n_facts n_news hy1) kL_X5_43 kI_X3_makeEmpty kS_X3_makeEmpty kN_X3 kC_X3_makeEmpty rfl rfl hdX3_makeEmpty ⟨Nat.le_of_ble_eq_true rfl, Nat.le_of_ble_eq_true rfl⟩ (fun f => by simp only [sf_app] <;> omega) (fun f => by simp only [sf_app] <;> omega) 2 rfl rfl rfl rfl hl [] rfl (Nat.le_of_ble_eq_true rfl) dX5_readNetwork_1 ⟨Nat.zero_le _, Nat.zero_le _⟩ (fun H locs hw => ?_)
  refine r_aload_n E hl 0 rfl dX5_readNetwork_4 rfl ?_
  refine r_iconst E 0 dX5_readNetwork_5 (by decide) ?_
  refine r_put E ((wX5 Z Ar r_text r_length r_start (0 : Int32) r_kind r_error r_thing r_first r_second r_cost ++ wX3 Z An y1.1 y1.2.1 y1.2.2.1 y1.2.2.2.1 n_areas n_firsts n_seconds n_privates n_entries n_exits y1.2.2.2.2.1 y1.2.2.2.2.2.1 y1.2.2.2.2.2.2)) kW_X5 tyX5_ok nmX5 hw 0 rfl rfl 3 (by decide) kF_X5_22 rfl rfl rfl (Nat.le_of_ble_eq_true rfl) rfl dX5_readNetwork_6 (fun H locs hw => ?_)
  refine r_aload_n E hl 0 rfl dX5_readNetwork_9 rfl ?_
  refine r_iconst E (-1) dX5_readNetwork_10 (by decide) ?_
  refine r_put E ((wX5 Z Ar r_text r_length r_start (0 : Int32) r_kind (-1 : Int32) r_thing r_first r_second r_cost ++ wX3 Z An y1.1 y1.2.1 y1.2.2.1 y1.2.2.2.1 n_areas n_firsts n_seconds n_privates n_entries n_exits y1.2.2.2.2.1 y1.2.2.2.2.2.1 y1.2.2.2.2.2.2)) kW_X5 tyX5_ok nmX5 hw 0 rfl rfl 5 (by decide) kF_X5_28 rfl rfl rfl (Nat.le_of_ble_eq_true rfl) rfl dX5_readNetwork_11 (fun H locs hw => ?_)
  refine r_iconst E 0 dX5_readNetwork_14 (by decide) ?_
  refine r_istore_n E [(2, .int (0 : Int32)), (0, .ref (Ar 0)), (1, .ref (An 0))] hl dX5_readNetwork_15 rfl (by decide) rfl (fun ls hl => ?_)
  refine r_aload_n E hl 1 rfl dX5_readNetwork_16 rfl ?_
  obtain ⟨y2, hy2, h⟩ := bd_some h
  refine r_callVQv E ((wX5 Z Ar r_text r_length y2.1 y2.2.1 y2.2.2 (-1 : Int32) r_thing r_first r_second r_cost ++ wX3 Z An y1.1 y1.2.1 y1.2.2.1 y1.2.2.2.1 n_areas n_firsts n_seconds n_privates n_entries n_exits y1.2.2.2.2.1 y1.2.2.2.2.2.1 y1.2.2.2.2.2.2)) (wX3 Z An y1.1 y1.2.1 y1.2.2.1 y1.2.2.2.1 n_areas n_firsts n_seconds n_privates n_entries n_exits y1.2.2.2.2.1 y1.2.2.2.2.2.1 y1.2.2.2.2.2.2) hw (mX5_takeToken l Z _ Ar r_text r_length r_start (0 : Int32) r_kind (-1 : Int32) r_thing r_first r_second r_cost hy2) kL_X5_48 kI_X5_takeToken kS_X5_takeToken kN_X5 kC_X5_takeToken rfl rfl hdX5_takeToken ⟨Nat.le_of_ble_eq_true rfl, Nat.le_of_ble_eq_true rfl⟩ (fun f => by simp only [sf_app] <;> omega) (fun f => by simp only [sf_app] <;> omega) 0 rfl rfl rfl rfl hl [] rfl (Nat.le_of_ble_eq_true rfl) dX5_readNetwork_17 ⟨Nat.zero_le _, Nat.zero_le _⟩ (fun H locs hw => ?_)
  obtain ⟨n10, h⟩ := wh_some h
  exact tX5_readNetwork_20 E  n10 _ _ _ _ _ _ _ _ _ _ _ _ _ _ _ _ _ _ _ _ _ _ _ _ h hw (lv_sub hl [1, 2, 0] rfl)
