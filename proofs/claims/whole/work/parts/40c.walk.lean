abbrev rmJ7_fill_53178 : Room := { frames := 0, cells := 0, slots := 0, locals := 0 }

set_option maxRecDepth 100000 in
set_option maxHeartbeats 4000000 in
theorem tJ7_fill_53178_5 {Z : zT} {p : Program} {l : Launch} {e : Env} {s : State} {m : MethodId} {args : Array Value} {below : List Frame} {meth : Method} {c : Code} {A : Nat → Prop} (E : zE Z p s m args meth c RJ7 cJ7_fill_53178 4 none A) {Aw : Nat → Nat} {nw : Nat} {v1 : Int32} {v3 : Int32} {res : (Nat → Int32)}  : ∀ (n : Nat) (v2 : Int32) (w_f : (Nat → Int32)) (H : Heap) (locs : List Loc) (ls : Array Slot), iter (fun b : Int32 × (Nat → Int32) => sJ7_fill_53178_5 v1 v3 nw b.1 b.2) n (v2, w_f) = some res → zW Z A (wAI Z Aw nw w_f) s.heap H locs → lv_has ls 4 [(0, .ref (Aw 0)), (1, .int v1), (2, .int v2), (3, .int v3)] → W p l e rmJ7_fill_53178 s m args below meth c H locs 0 0 (MQ below (zQv Z (wAI Z Aw nw res) A) args s 0 0 A) (F0 m 5 ls []) := by
  intro n
  induction n with
  | zero => intro v2 w_f H locs ls h; cases h
  | succ n ih =>
    intro v2 w_f H locs ls h hw hl
    obtain ⟨q1, h, hn1, hr1⟩ := iter_out h
    have hb1 : ∀ b : Int32 × (Nat → Int32), q1 = .inl b → ∀ (H : Heap) (locs : List Loc) (ls : Array Slot), zW Z A (wAI Z Aw nw b.2) s.heap H locs → lv_has ls 4 [(0, .ref (Aw 0)), (1, .int v1), (2, .int b.1), (3, .int v3)] → W p l e rmJ7_fill_53178 s m args below meth c H locs 0 0 (MQ below (zQv Z (wAI Z Aw nw res) A) args s 0 0 A) (F0 m 5 ls []) := fun b eb H locs ls hw hl => ih b.1 b.2 H locs ls (hn1 b eb) hw hl
    replace h : sJ7_fill_53178_5 v1 v3 nw v2 w_f = some q1 := h
    unfold sJ7_fill_53178_5 at h
    refine r_iload_n E hl 2 rfl dJ7_fill_53178_5 rfl ?_
    refine r_iload_n E hl 3 rfl dJ7_fill_53178_6 rfl ?_
    refine r_icmp_ge E 20 dJ7_fill_53178_7 (by decide) (fun hc => ?_) (fun hc => ?_)
    · replace h := ite_t hc h
      obtain ⟨ro2, h, hro2⟩ := oi_some h
      rw [hr1 _ hro2] at h
      obtain rfl := Option.some.inj h
      exact r_vret E hw dJ7_fill_53178_20
    · replace h := ite_f hc h
      refine r_aload_n E hl 0 rfl dJ7_fill_53178_10 rfl ?_
      refine r_iload_n E hl 2 rfl dJ7_fill_53178_11 rfl ?_
      refine r_iload_n E hl 1 rfl dJ7_fill_53178_12 rfl ?_
      obtain ⟨hg3, h⟩ := gd_some h
      refine r_iast E (wAI Z Aw nw (upd w_f (v2).toNatClampNeg v1)) hw 0 rfl hg3 rfl dJ7_fill_53178_13 (fun H locs hw => ?_)
      obtain ⟨w4, hw4, h⟩ := nm_out h
      refine r_iinc E w4 [(2, .int w4), (0, .ref (Aw 0)), (1, .int v1), (3, .int v3)] hl (k := 2) rfl dJ7_fill_53178_14 hw4.symm (by decide) rfl (fun ls hl => ?_)
      refine r_goto E 5 dJ7_fill_53178_17 (by decide) ?_
      exact hb1 _ (Option.some.inj h).symm _ _ _ hw (lv_sub hl [1, 2, 0, 3] rfl)
set_option maxRecDepth 100000 in
set_option maxHeartbeats 4000000 in
theorem mJ7_fill_53178 (l : Launch) (Z : zT) (sz : Nat) (Aw : Nat → Nat) (nw : Nat) (w_f : (Nat → Int32)) (v1 : Int32) {res : (Nat → Int32)} (h : fJ7_fill_53178 v1 w_f nw = some res) : Met l yJ7_fill_53178 (Cond.code yJ7_fill_53178 cJ7_fill_53178 4 none :: zWs) rmJ7_fill_53178 (zP Z (wAI Z Aw nw w_f) sz [.ref (Aw 0), .int v1]) (zQv Z (wAI Z Aw nw res) (va_A (wAI Z Aw nw w_f) sz)) 0 0 (va_A (wAI Z Aw nw w_f) sz) := by
  refine zMet (own := RJ7) (fun A => zQv Z (wAI Z Aw nw res) A) (by decide) rfl (Nat.le_of_ble_eq_true rfl) ?_
  intro p e s m args below meth c ls A E hw hl
  unfold fJ7_fill_53178 at h
  refine r_iconst E 0 dJ7_fill_53178_0 (by decide) ?_
  refine r_istore_n E [(2, .int (0 : Int32)), (0, .ref (Aw 0)), (1, .int v1)] hl dJ7_fill_53178_1 rfl (by decide) rfl (fun ls hl => ?_)
  refine r_aload_n E hl 1 rfl dJ7_fill_53178_2 rfl ?_
  refine r_alen E hw 0 0 rfl rfl dJ7_fill_53178_3 ?_
  obtain ⟨w1, hw1, h⟩ := nm_out h
  refine r_nm hw1 ?_
  refine r_istore_n E [(3, .int w1), (2, .int (0 : Int32)), (0, .ref (Aw 0)), (1, .int v1)] hl dJ7_fill_53178_4 rfl (by decide) rfl (fun ls hl => ?_)
  obtain ⟨n5, h⟩ := wh_some h
  exact tJ7_fill_53178_5 E  n5 _ _ _ _ _ h hw (lv_sub hl [2, 3, 1, 0] rfl)
abbrev rmJ7_fill_d0a16 : Room := { frames := 0, cells := 0, slots := 0, locals := 0 }

set_option maxRecDepth 100000 in
set_option maxHeartbeats 4000000 in
theorem tJ7_fill_d0a16_6 {Z : zT} {p : Program} {l : Launch} {e : Env} {s : State} {m : MethodId} {args : Array Value} {below : List Frame} {meth : Method} {c : Code} {A : Nat → Prop} (E : zE Z p s m args meth c RJ7 cJ7_fill_d0a16 5 none A) {Aw : Nat → Nat} {nw : Nat} {v1 : Int64} {v4 : Int32} {res : (Nat → Int64)}  : ∀ (n : Nat) (v3 : Int32) (w_f : (Nat → Int64)) (H : Heap) (locs : List Loc) (ls : Array Slot), iter (fun b : Int32 × (Nat → Int64) => sJ7_fill_d0a16_6 v1 v4 nw b.1 b.2) n (v3, w_f) = some res → zW Z A (wAJ Z Aw nw w_f) s.heap H locs → lv_has ls 5 [(0, .ref (Aw 0)), (1, .long v1), (3, .int v3), (4, .int v4)] → W p l e rmJ7_fill_d0a16 s m args below meth c H locs 0 0 (MQ below (zQv Z (wAJ Z Aw nw res) A) args s 0 0 A) (F0 m 6 ls []) := by
  intro n
  induction n with
  | zero => intro v3 w_f H locs ls h; cases h
  | succ n ih =>
    intro v3 w_f H locs ls h hw hl
    obtain ⟨q1, h, hn1, hr1⟩ := iter_out h
    have hb1 : ∀ b : Int32 × (Nat → Int64), q1 = .inl b → ∀ (H : Heap) (locs : List Loc) (ls : Array Slot), zW Z A (wAJ Z Aw nw b.2) s.heap H locs → lv_has ls 5 [(0, .ref (Aw 0)), (1, .long v1), (3, .int b.1), (4, .int v4)] → W p l e rmJ7_fill_d0a16 s m args below meth c H locs 0 0 (MQ below (zQv Z (wAJ Z Aw nw res) A) args s 0 0 A) (F0 m 6 ls []) := fun b eb H locs ls hw hl => ih b.1 b.2 H locs ls (hn1 b eb) hw hl
    replace h : sJ7_fill_d0a16_6 v1 v4 nw v3 w_f = some q1 := h
    unfold sJ7_fill_d0a16_6 at h
    refine r_iload_n E hl 2 rfl dJ7_fill_d0a16_6 rfl ?_
    refine r_iload E hl 3 rfl dJ7_fill_d0a16_7 ?_
    refine r_icmp_ge E 22 dJ7_fill_d0a16_9 (by decide) (fun hc => ?_) (fun hc => ?_)
    · replace h := ite_t hc h
      obtain ⟨ro2, h, hro2⟩ := oi_some h
      rw [hr1 _ hro2] at h
      obtain rfl := Option.some.inj h
      exact r_vret E hw dJ7_fill_d0a16_22
    · replace h := ite_f hc h
      refine r_aload_n E hl 0 rfl dJ7_fill_d0a16_12 rfl ?_
      refine r_iload_n E hl 2 rfl dJ7_fill_d0a16_13 rfl ?_
      refine r_lload_n E hl 1 rfl dJ7_fill_d0a16_14 rfl ?_
      obtain ⟨hg3, h⟩ := gd_some h
      refine r_last E (wAJ Z Aw nw (vp_updL w_f (v3).toNatClampNeg v1)) hw 0 rfl hg3 rfl dJ7_fill_d0a16_15 (fun H locs hw => ?_)
      obtain ⟨w4, hw4, h⟩ := nm_out h
      refine r_iinc E w4 [(3, .int w4), (0, .ref (Aw 0)), (1, .long v1), (4, .int v4)] hl (k := 2) rfl dJ7_fill_d0a16_16 hw4.symm (by decide) rfl (fun ls hl => ?_)
      refine r_goto E 6 dJ7_fill_d0a16_19 (by decide) ?_
      exact hb1 _ (Option.some.inj h).symm _ _ _ hw (lv_sub hl [1, 2, 0, 3] rfl)
set_option maxRecDepth 100000 in
set_option maxHeartbeats 4000000 in
theorem mJ7_fill_d0a16 (l : Launch) (Z : zT) (sz : Nat) (Aw : Nat → Nat) (nw : Nat) (w_f : (Nat → Int64)) (v1 : Int64) {res : (Nat → Int64)} (h : fJ7_fill_d0a16 v1 w_f nw = some res) : Met l yJ7_fill_d0a16 (Cond.code yJ7_fill_d0a16 cJ7_fill_d0a16 5 none :: zWs) rmJ7_fill_d0a16 (zP Z (wAJ Z Aw nw w_f) sz [.ref (Aw 0), .long v1]) (zQv Z (wAJ Z Aw nw res) (va_A (wAJ Z Aw nw w_f) sz)) 0 0 (va_A (wAJ Z Aw nw w_f) sz) := by
  refine zMet (own := RJ7) (fun A => zQv Z (wAJ Z Aw nw res) A) (by decide) rfl (Nat.le_of_ble_eq_true rfl) ?_
  intro p e s m args below meth c ls A E hw hl
  unfold fJ7_fill_d0a16 at h
  refine r_iconst E 0 dJ7_fill_d0a16_0 (by decide) ?_
  refine r_istore_n E [(3, .int (0 : Int32)), (0, .ref (Aw 0)), (1, .long v1)] hl dJ7_fill_d0a16_1 rfl (by decide) rfl (fun ls hl => ?_)
  refine r_aload_n E hl 1 rfl dJ7_fill_d0a16_2 rfl ?_
  refine r_alen E hw 0 1 rfl rfl dJ7_fill_d0a16_3 ?_
  obtain ⟨w1, hw1, h⟩ := nm_out h
  refine r_nm hw1 ?_
  refine r_istore E [(4, .int w1), (3, .int (0 : Int32)), (0, .ref (Aw 0)), (1, .long v1)] hl dJ7_fill_d0a16_4 (by decide) rfl (fun ls hl => ?_)
  obtain ⟨n5, h⟩ := wh_some h
  exact tJ7_fill_d0a16_6 E  n5 _ _ _ _ _ h hw (lv_sub hl [2, 3, 1, 0] rfl)
abbrev rmJ13_bitCount_95d88 : Room := { frames := 0, cells := 0, slots := 0, locals := 0 }

set_option maxRecDepth 100000 in
set_option maxHeartbeats 4000000 in
theorem mJ13_bitCount_95d88 (l : Launch) (Z : zT) (sz : Nat)   (v0 : Int64) {res : Int32} (h : fJ13_bitCount_95d88 v0 = some res) : Met l yJ13_bitCount_95d88 (Cond.code yJ13_bitCount_95d88 cJ13_bitCount_95d88 2 (some .int) :: zWs) rmJ13_bitCount_95d88 (zP Z ([]) sz [.long v0]) (zQi Z res ([]) (va_A ([]) sz)) 0 0 (va_A ([]) sz) := by
  refine zMet (own := RJ13) (fun A => zQi Z res ([]) A) (by decide) rfl (Nat.le_of_ble_eq_true rfl) ?_
  intro p e s m args below meth c ls A E hw hl
  unfold fJ13_bitCount_95d88 at h
  refine r_lload_n E hl 0 rfl dJ13_bitCount_95d88_0 rfl ?_
  refine r_lload_n E hl 0 rfl dJ13_bitCount_95d88_1 rfl ?_
  refine r_iconst E 1 dJ13_bitCount_95d88_2 (by decide) ?_
  refine r_lushr E dJ13_bitCount_95d88_3 ?_
  refine r_ldc2 E (6148914691236517205) kQ_J13_314 dJ13_bitCount_95d88_4 ?_
  refine r_land E dJ13_bitCount_95d88_7 ?_
  refine r_lsub E dJ13_bitCount_95d88_8 ?_
  obtain ⟨w1, hw1, h⟩ := nm_out h
  refine r_nmL hw1 ?_
  refine r_lstore_n E [(0, .long w1)] hl dJ13_bitCount_95d88_9 rfl (by decide) rfl (fun ls hl => ?_)
  refine r_lload_n E hl 0 rfl dJ13_bitCount_95d88_10 rfl ?_
  refine r_ldc2 E (3689348814741910323) kQ_J13_316 dJ13_bitCount_95d88_11 ?_
  refine r_land E dJ13_bitCount_95d88_14 ?_
  refine r_lload_n E hl 0 rfl dJ13_bitCount_95d88_15 rfl ?_
  refine r_iconst E 2 dJ13_bitCount_95d88_16 (by decide) ?_
  refine r_lushr E dJ13_bitCount_95d88_17 ?_
  refine r_ldc2 E (3689348814741910323) kQ_J13_316 dJ13_bitCount_95d88_18 ?_
  refine r_land E dJ13_bitCount_95d88_21 ?_
  refine r_ladd E dJ13_bitCount_95d88_22 ?_
  obtain ⟨w2, hw2, h⟩ := nm_out h
  refine r_nmL hw2 ?_
  refine r_lstore_n E [(0, .long w2)] hl dJ13_bitCount_95d88_23 rfl (by decide) rfl (fun ls hl => ?_)
  refine r_lload_n E hl 0 rfl dJ13_bitCount_95d88_24 rfl ?_
  refine r_lload_n E hl 0 rfl dJ13_bitCount_95d88_25 rfl ?_
  refine r_iconst E 4 dJ13_bitCount_95d88_26 (by decide) ?_
  refine r_lushr E dJ13_bitCount_95d88_27 ?_
  refine r_ladd E dJ13_bitCount_95d88_28 ?_
  refine r_ldc2 E (1085102592571150095) kQ_J13_318 dJ13_bitCount_95d88_29 ?_
  refine r_land E dJ13_bitCount_95d88_32 ?_
  obtain ⟨w3, hw3, h⟩ := nm_out h
  refine r_nmL hw3 ?_
  refine r_lstore_n E [(0, .long w3)] hl dJ13_bitCount_95d88_33 rfl (by decide) rfl (fun ls hl => ?_)
  refine r_lload_n E hl 0 rfl dJ13_bitCount_95d88_34 rfl ?_
  refine r_lload_n E hl 0 rfl dJ13_bitCount_95d88_35 rfl ?_
  refine r_bipush E 8 dJ13_bitCount_95d88_36 (by decide) ?_
  refine r_lushr E dJ13_bitCount_95d88_38 ?_
  refine r_ladd E dJ13_bitCount_95d88_39 ?_
  obtain ⟨w4, hw4, h⟩ := nm_out h
  refine r_nmL hw4 ?_
  refine r_lstore_n E [(0, .long w4)] hl dJ13_bitCount_95d88_40 rfl (by decide) rfl (fun ls hl => ?_)
  refine r_lload_n E hl 0 rfl dJ13_bitCount_95d88_41 rfl ?_
  refine r_lload_n E hl 0 rfl dJ13_bitCount_95d88_42 rfl ?_
  refine r_bipush E 16 dJ13_bitCount_95d88_43 (by decide) ?_
  refine r_lushr E dJ13_bitCount_95d88_45 ?_
  refine r_ladd E dJ13_bitCount_95d88_46 ?_
  obtain ⟨w5, hw5, h⟩ := nm_out h
  refine r_nmL hw5 ?_
  refine r_lstore_n E [(0, .long w5)] hl dJ13_bitCount_95d88_47 rfl (by decide) rfl (fun ls hl => ?_)
  refine r_lload_n E hl 0 rfl dJ13_bitCount_95d88_48 rfl ?_
  refine r_lload_n E hl 0 rfl dJ13_bitCount_95d88_49 rfl ?_
  refine r_bipush E 32 dJ13_bitCount_95d88_50 (by decide) ?_
  refine r_lushr E dJ13_bitCount_95d88_52 ?_
  refine r_ladd E dJ13_bitCount_95d88_53 ?_
  obtain ⟨w6, hw6, h⟩ := nm_out h
  refine r_nmL hw6 ?_
  refine r_lstore_n E [(0, .long w6)] hl dJ13_bitCount_95d88_54 rfl (by decide) rfl (fun ls hl => ?_)
  refine r_lload_n E hl 0 rfl dJ13_bitCount_95d88_55 rfl ?_
  refine r_l2i E dJ13_bitCount_95d88_56 ?_
  refine r_bipush E 127 dJ13_bitCount_95d88_57 (by decide) ?_
  refine r_iand E dJ13_bitCount_95d88_59 ?_
  obtain rfl := Option.some.inj h
  exact r_iret E hw dJ13_bitCount_95d88_60
