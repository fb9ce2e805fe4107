abbrev rmX7_newsOf : Room := { frames := 2, cells := 0, slots := 0, locals := 44 }

set_option maxRecDepth 100000 in
set_option maxHeartbeats 4000000 in
theorem tX7_newsOf_4 {Z : zT} {p : Program} {l : Launch} {e : Env} {s : State} {m : MethodId} {args : Array Value} {below : List Frame} {meth : Method} {c : Code} {A : Nat → Prop} (E : zE Z p s m args meth c RX7 cX7_newsOf 4 (some .int) A) {Am : Nat → Nat} {v1 : Int32} {m_thrown : Int32} {m_s : (Nat → Int32)} {m_saved : (Nat → Int32)} {m_savedMany : Int32} {m_aside : (Nat → Int32)} {m_sent : (Nat → Int32)} {m_text : (Nat → Int32)} {m_length : Int32} {m_way : (Nat → Int32)} {m_crossed : Int32} {m_wayCost : Int32} {m_isWay : Int32} {m_next : Int32} {m_start : Int32} {m_token : Int32} {m_number : Int32} {m_letters : Int64} {m_isWrong : Int32} {m_sums : (Nat → Int32)} {m_steps : (Nat → Int32)} {m_chosen : Int32} {m_passed : (Nat → Int32)} {m_passedMany : Int32} {m_passedCost : Int32} {m_reach : (Nat → Int32)} {res : Int32}  : ∀ (n : Nat) (v2 : Int32) (v3 : Int32) (H : Heap) (locs : List Loc) (ls : Array Slot), iter (fun b : Int32 × Int32 => sX7_newsOf_4 v1 m_s b.1 b.2) n (v2, v3) = some res → zW Z A (wX7 Z Am m_thrown m_s m_saved m_savedMany m_aside m_sent m_text m_length m_way m_crossed m_wayCost m_isWay m_next m_start m_token m_number m_letters m_isWrong m_sums m_steps m_chosen m_passed m_passedMany m_passedCost m_reach) s.heap H locs → lv_has ls 4 [(0, .ref (Am 0)), (1, .int v1), (2, .int v2), (3, .int v3)] → W p l e rmX7_newsOf s m args below meth c H locs 0 0 (MQ below (zQi Z res (wX7 Z Am m_thrown m_s m_saved m_savedMany m_aside m_sent m_text m_length m_way m_crossed m_wayCost m_isWay m_next m_start m_token m_number m_letters m_isWrong m_sums m_steps m_chosen m_passed m_passedMany m_passedCost m_reach) A) args s 0 0 A) (F0 m 4 ls []) := by
  intro n
  induction n with
  | zero => intro v2 v3 H locs ls h; cases h
  | succ n ih =>
    intro v2 v3 H locs ls h hw hl
    obtain ⟨q1, h, hn1, hr1⟩ := iter_out h
    have hb1 : ∀ b : Int32 × Int32, q1 = .inl b → ∀ (H : Heap) (locs : List Loc) (ls : Array Slot), zW Z A (wX7 Z Am m_thrown m_s m_saved m_savedMany m_aside m_sent m_text m_length m_way m_crossed m_wayCost m_isWay m_next m_start m_token m_number m_letters m_isWrong m_sums m_steps m_chosen m_passed m_passedMany m_passedCost m_reach) s.heap H locs → lv_has ls 4 [(0, .ref (Am 0)), (1, .int v1), (2, .int b.1), (3, .int b.2)] → W p l e rmX7_newsOf s m args below meth c H locs 0 0 (MQ below (zQi Z res (wX7 Z Am m_thrown m_s m_saved m_savedMany m_aside m_sent m_text m_length m_way m_crossed m_wayCost m_isWay m_next m_start m_token m_number m_letters m_isWrong m_sums m_steps m_chosen m_passed m_passedMany m_passedCost m_reach) A) args s 0 0 A) (F0 m 4 ls []) := fun b eb H locs ls hw hl => ih b.1 b.2 H locs ls (hn1 b eb) hw hl
    replace h : sX7_newsOf_4 v1 m_s v2 v3 = some q1 := h
    unfold sX7_newsOf_4 at h
    refine r_iload_n E hl 3 rfl dX7_newsOf_4 rfl ?_
    refine r_bipush E 35 dX7_newsOf_5 (by decide) ?_
    refine r_icmp_ge E 26 dX7_newsOf_7 (by decide) (fun hc => ?_) (fun hc => ?_)
    · replace h := ite_t hc h
      obtain ⟨ro1, h, hro1⟩ := oi_some h
      rw [hr1 _ hro1] at h
      refine r_iload_n E hl 2 rfl dX7_newsOf_26 rfl ?_
      obtain rfl := Option.some.inj h
      exact r_iret E hw dX7_newsOf_27
    · replace h := ite_f hc h
      refine r_iload_n E hl 2 rfl dX7_newsOf_10 rfl ?_
      refine r_aload_n E hl 0 rfl dX7_newsOf_11 rfl ?_
      refine r_iload_n E hl 1 rfl dX7_newsOf_12 rfl ?_
      refine r_iload_n E hl 3 rfl dX7_newsOf_13 rfl ?_
      refine r_iconst E 3 dX7_newsOf_14 (by decide) ?_
      obtain ⟨y2, hy2, h⟩ := bd_some h
      refine r_callVAi E hw (mX7_fact l Z _ Am m_thrown m_s m_saved m_savedMany m_aside m_sent m_text m_length m_way m_crossed m_wayCost m_isWay m_next m_start m_token m_number m_letters m_isWrong m_sums m_steps m_chosen m_passed m_passedMany m_passedCost m_reach v1 v3 (3 : Int32) hy2) kL_X7_73 kI_X7_fact kS_X7_fact kN_X7 kC_X7_fact rfl rfl hdX7_fact ⟨Nat.le_of_ble_eq_true rfl, Nat.le_of_ble_eq_true rfl⟩ 0 rfl rfl rfl rfl hl [.int v2] rfl (Nat.le_of_ble_eq_true rfl) dX7_newsOf_15 ⟨Nat.zero_le _, Nat.zero_le _⟩ (fun H locs hw => ?_)
      refine r_iadd E dX7_newsOf_18 ?_
      obtain ⟨w3, hw3, h⟩ := nm_out h
      refine r_nm hw3 ?_
      refine r_istore_n E [(2, .int w3), (0, .ref (Am 0)), (1, .int v1), (3, .int v3)] hl dX7_newsOf_19 rfl (by decide) rfl (fun ls hl => ?_)
      obtain ⟨w4, hw4, h⟩ := nm_out h
      refine r_iinc E w4 [(3, .int w4), (2, .int w3), (0, .ref (Am 0)), (1, .int v1)] hl (k := 3) rfl dX7_newsOf_20 hw4.symm (by decide) rfl (fun ls hl => ?_)
      refine r_goto E 4 dX7_newsOf_23 (by decide) ?_
      exact hb1 _ (Option.some.inj h).symm _ _ _ hw (lv_sub hl [2, 3, 1, 0] rfl)
set_option maxRecDepth 100000 in
set_option maxHeartbeats 4000000 in
theorem mX7_newsOf (l : Launch) (Z : zT) (sz : Nat) (Am : Nat → Nat) (m_thrown : Int32) (m_s : (Nat → Int32)) (m_saved : (Nat → Int32)) (m_savedMany : Int32) (m_aside : (Nat → Int32)) (m_sent : (Nat → Int32)) (m_text : (Nat → Int32)) (m_length : Int32) (m_way : (Nat → Int32)) (m_crossed : Int32) (m_wayCost : Int32) (m_isWay : Int32) (m_next : Int32) (m_start : Int32) (m_token : Int32) (m_number : Int32) (m_letters : Int64) (m_isWrong : Int32) (m_sums : (Nat → Int32)) (m_steps : (Nat → Int32)) (m_chosen : Int32) (m_passed : (Nat → Int32)) (m_passedMany : Int32) (m_passedCost : Int32) (m_reach : (Nat → Int32)) (v1 : Int32) {res : Int32} (h : fX7_newsOf v1 m_s = some res) : Met l yX7_newsOf (Cond.code yX7_newsOf cX7_newsOf 4 (some .int) :: zWs) rmX7_newsOf (zP Z (wX7 Z Am m_thrown m_s m_saved m_savedMany m_aside m_sent m_text m_length m_way m_crossed m_wayCost m_isWay m_next m_start m_token m_number m_letters m_isWrong m_sums m_steps m_chosen m_passed m_passedMany m_passedCost m_reach) sz [.ref (Am 0), .int v1]) (zQi Z res (wX7 Z Am m_thrown m_s m_saved m_savedMany m_aside m_sent m_text m_length m_way m_crossed m_wayCost m_isWay m_next m_start m_token m_number m_letters m_isWrong m_sums m_steps m_chosen m_passed m_passedMany m_passedCost m_reach) (va_A (wX7 Z Am m_thrown m_s m_saved m_savedMany m_aside m_sent m_text m_length m_way m_crossed m_wayCost m_isWay m_next m_start m_token m_number m_letters m_isWrong m_sums m_steps m_chosen m_passed m_passedMany m_passedCost m_reach) sz)) 0 0 (va_A (wX7 Z Am m_thrown m_s m_saved m_savedMany m_aside m_sent m_text m_length m_way m_crossed m_wayCost m_isWay m_next m_start m_token m_number m_letters m_isWrong m_sums m_steps m_chosen m_passed m_passedMany m_passedCost m_reach) sz) := by
  refine zMet (own := RX7) (fun A => zQi Z res (wX7 Z Am m_thrown m_s m_saved m_savedMany m_aside m_sent m_text m_length m_way m_crossed m_wayCost m_isWay m_next m_start m_token m_number m_letters m_isWrong m_sums m_steps m_chosen m_passed m_passedMany m_passedCost m_reach) A) (by decide) rfl (Nat.le_of_ble_eq_true rfl) ?_
  intro p e s m args below meth c ls A E hw hl
  unfold fX7_newsOf at h
  refine r_iconst E 0 dX7_newsOf_0 (by decide) ?_
  refine r_istore_n E [(2, .int (0 : Int32)), (0, .ref (Am 0)), (1, .int v1)] hl dX7_newsOf_1 rfl (by decide) rfl (fun ls hl => ?_)
  refine r_iconst E 0 dX7_newsOf_2 (by decide) ?_
  refine r_istore_n E [(3, .int (0 : Int32)), (2, .int (0 : Int32)), (0, .ref (Am 0)), (1, .int v1)] hl dX7_newsOf_3 rfl (by decide) rfl (fun ls hl => ?_)
  obtain ⟨n5, h⟩ := wh_some h
  exact tX7_newsOf_4 E  n5 _ _ _ _ _ h hw (lv_sub hl [2, 3, 1, 0] rfl)
abbrev rmX7_isQuiet : Room := { frames := 3, cells := 0, slots := 0, locals := 67 }

set_option maxRecDepth 100000 in
set_option maxHeartbeats 4000000 in
theorem vX7_isQuiet_28 {Z : zT} {p : Program} {l : Launch} {e : Env} {s : State} {m : MethodId} {args : Array Value} {below : List Frame} {meth : Method} {c : Code} {A : Nat → Prop} (E : zE Z p s m args meth c RX7 cX7_isQuiet 3 (some .boolean) A) {Am : Nat → Nat} {v1 : Int32} {m_thrown : Int32} {m_s : (Nat → Int32)} {m_saved : (Nat → Int32)} {m_savedMany : Int32} {m_aside : (Nat → Int32)} {m_sent : (Nat → Int32)} {m_text : (Nat → Int32)} {m_length : Int32} {m_way : (Nat → Int32)} {m_crossed : Int32} {m_wayCost : Int32} {m_isWay : Int32} {m_next : Int32} {m_start : Int32} {m_token : Int32} {m_number : Int32} {m_letters : Int64} {m_isWrong : Int32} {m_sums : (Nat → Int32)} {m_steps : (Nat → Int32)} {m_chosen : Int32} {m_passed : (Nat → Int32)} {m_passedMany : Int32} {m_passedCost : Int32} {m_reach : (Nat → Int32)} {res : Int32}  {H : Heap} {locs : List Loc} {ls : Array Slot} (hw : zW Z A (wX7 Z Am m_thrown m_s m_saved m_savedMany m_aside m_sent m_text m_length m_way m_crossed m_wayCost m_isWay m_next m_start m_token m_number m_letters m_isWrong m_sums m_steps m_chosen m_passed m_passedMany m_passedCost m_reach) s.heap H locs) (hl : lv_has ls 3 [(1, .int v1)]) (h : uX7_isQuiet_28 v1 = some res) : W p l e rmX7_isQuiet s m args below meth c H locs 0 0 (MQ below (zQi Z res (wX7 Z Am m_thrown m_s m_saved m_savedMany m_aside m_sent m_text m_length m_way m_crossed m_wayCost m_isWay m_next m_start m_token m_number m_letters m_isWrong m_sums m_steps m_chosen m_passed m_passedMany m_passedCost m_reach) A) args s 0 0 A) (F0 m 28 ls []) := by
  unfold uX7_isQuiet_28 at h
  refine r_iload_n E hl 0 rfl dX7_isQuiet_28 rfl ?_
  refine r_if_ne E 36 dX7_isQuiet_29 (by decide) (fun hc => ?_) (fun hc => ?_)
  · replace h := ite_f hc h
    refine r_iconst E 0 dX7_isQuiet_36 (by decide) ?_
    obtain rfl := Option.some.inj h
    exact r_zret E bz_0 hw dX7_isQuiet_37
  · replace h := ite_t hc h
    refine r_iconst E 1 dX7_isQuiet_32 (by decide) ?_
    refine r_goto E 37 dX7_isQuiet_33 (by decide) ?_
    obtain rfl := Option.some.inj h
    exact r_zret E bz_1 hw dX7_isQuiet_37
set_option maxRecDepth 100000 in
set_option maxHeartbeats 4000000 in
theorem tX7_isQuiet_4 {Z : zT} {p : Program} {l : Launch} {e : Env} {s : State} {m : MethodId} {args : Array Value} {below : List Frame} {meth : Method} {c : Code} {A : Nat → Prop} (E : zE Z p s m args meth c RX7 cX7_isQuiet 3 (some .boolean) A) {Am : Nat → Nat} {m_thrown : Int32} {m_s : (Nat → Int32)} {m_saved : (Nat → Int32)} {m_savedMany : Int32} {m_aside : (Nat → Int32)} {m_sent : (Nat → Int32)} {m_text : (Nat → Int32)} {m_length : Int32} {m_way : (Nat → Int32)} {m_crossed : Int32} {m_wayCost : Int32} {m_isWay : Int32} {m_next : Int32} {m_start : Int32} {m_token : Int32} {m_number : Int32} {m_letters : Int64} {m_isWrong : Int32} {m_sums : (Nat → Int32)} {m_steps : (Nat → Int32)} {m_chosen : Int32} {m_passed : (Nat → Int32)} {m_passedMany : Int32} {m_passedCost : Int32} {m_reach : (Nat → Int32)} {res : Int32}  : ∀ (n : Nat) (v1 : Int32) (v2 : Int32) (H : Heap) (locs : List Loc) (ls : Array Slot), iter (fun b : Int32 × Int32 => sX7_isQuiet_4 m_s b.1 b.2) n (v1, v2) = some res → zW Z A (wX7 Z Am m_thrown m_s m_saved m_savedMany m_aside m_sent m_text m_length m_way m_crossed m_wayCost m_isWay m_next m_start m_token m_number m_letters m_isWrong m_sums m_steps m_chosen m_passed m_passedMany m_passedCost m_reach) s.heap H locs → lv_has ls 3 [(0, .ref (Am 0)), (1, .int v1), (2, .int v2)] → W p l e rmX7_isQuiet s m args below meth c H locs 0 0 (MQ below (zQi Z res (wX7 Z Am m_thrown m_s m_saved m_savedMany m_aside m_sent m_text m_length m_way m_crossed m_wayCost m_isWay m_next m_start m_token m_number m_letters m_isWrong m_sums m_steps m_chosen m_passed m_passedMany m_passedCost m_reach) A) args s 0 0 A) (F0 m 4 ls []) := by
  intro n
  induction n with
  | zero => intro v1 v2 H locs ls h; cases h
  | succ n ih =>
    intro v1 v2 H locs ls h hw hl
    obtain ⟨q1, h, hn1, hr1⟩ := iter_out h
    have hb1 : ∀ b : Int32 × Int32, q1 = .inl b → ∀ (H : Heap) (locs : List Loc) (ls : Array Slot), zW Z A (wX7 Z Am m_thrown m_s m_saved m_savedMany m_aside m_sent m_text m_length m_way m_crossed m_wayCost m_isWay m_next m_start m_token m_number m_letters m_isWrong m_sums m_steps m_chosen m_passed m_passedMany m_passedCost m_reach) s.heap H locs → lv_has ls 3 [(0, .ref (Am 0)), (1, .int b.1), (2, .int b.2)] → W p l e rmX7_isQuiet s m args below meth c H locs 0 0 (MQ below (zQi Z res (wX7 Z Am m_thrown m_s m_saved m_savedMany m_aside m_sent m_text m_length m_way m_crossed m_wayCost m_isWay m_next m_start m_token m_number m_letters m_isWrong m_sums m_steps m_chosen m_passed m_passedMany m_passedCost m_reach) A) args s 0 0 A) (F0 m 4 ls []) := fun b eb H locs ls hw hl => ih b.1 b.2 H locs ls (hn1 b eb) hw hl
    replace h : sX7_isQuiet_4 m_s v1 v2 = some q1 := h
    unfold sX7_isQuiet_4 at h
    refine r_iload_n E hl 2 rfl dX7_isQuiet_4 rfl ?_
    refine r_aload_n E hl 0 rfl dX7_isQuiet_5 rfl ?_
    refine r_get E kW_X7 hw 0 rfl rfl 1 (by decide) kF_X7_7 rfl dX7_isQuiet_6 ?_
    refine r_iconst E 0 dX7_isQuiet_9 (by decide) ?_
    obtain ⟨hg1, h⟩ := gd_some h
    refine r_iald E hw 1 rfl hg1 dX7_isQuiet_10 ?_
    refine r_icmp_ge E 28 dX7_isQuiet_11 (by decide) (fun hc => ?_) (fun hc => ?_)
    · replace h := ite_t hc h
      obtain ⟨ro2, h, hro2⟩ := oi_some h
      rw [hr1 _ hro2] at h
      exact vX7_isQuiet_28 E  hw (lv_sub hl [1] rfl) h
    · replace h := ite_f hc h
      refine r_iload_n E hl 1 rfl dX7_isQuiet_14 rfl ?_
      refine r_aload_n E hl 0 rfl dX7_isQuiet_15 rfl ?_
      refine r_iload_n E hl 2 rfl dX7_isQuiet_16 rfl ?_
      obtain ⟨y3, hy3, h⟩ := bd_some h
      refine r_callVAi E hw (mX7_newsOf l Z _ Am m_thrown m_s m_saved m_savedMany m_aside m_sent m_text m_length m_way m_crossed m_wayCost m_isWay m_next m_start m_token m_number m_letters m_isWrong m_sums m_steps m_chosen m_passed m_passedMany m_passedCost m_reach v2 hy3) kL_X7_216 kI_X7_newsOf kS_X7_newsOf kN_X7 kC_X7_newsOf rfl rfl hdX7_newsOf ⟨Nat.le_of_ble_eq_true rfl, Nat.le_of_ble_eq_true rfl⟩ 0 rfl rfl rfl rfl hl [.int v1] rfl (Nat.le_of_ble_eq_true rfl) dX7_isQuiet_17 ⟨Nat.zero_le _, Nat.zero_le _⟩ (fun H locs hw => ?_)
      refine r_iadd E dX7_isQuiet_20 ?_
      obtain ⟨w4, hw4, h⟩ := nm_out h
      refine r_nm hw4 ?_
      refine r_istore_n E [(1, .int w4), (0, .ref (Am 0)), (2, .int v2)] hl dX7_isQuiet_21 rfl (by decide) rfl (fun ls hl => ?_)
      obtain ⟨w5, hw5, h⟩ := nm_out h
      refine r_iinc E w5 [(2, .int w5), (1, .int w4), (0, .ref (Am 0))] hl (k := 2) rfl dX7_isQuiet_22 hw5.symm (by decide) rfl (fun ls hl => ?_)
      refine r_goto E 4 dX7_isQuiet_25 (by decide) ?_
      exact hb1 _ (Option.some.inj h).symm _ _ _ hw (lv_sub hl [2, 1, 0] rfl)
set_option maxRecDepth 100000 in
set_option maxHeartbeats 4000000 in
theorem mX7_isQuiet (l : Launch) (Z : zT) (sz : Nat) (Am : Nat → Nat) (m_thrown : Int32) (m_s : (Nat → Int32)) (m_saved : (Nat → Int32)) (m_savedMany : Int32) (m_aside : (Nat → Int32)) (m_sent : (Nat → Int32)) (m_text : (Nat → Int32)) (m_length : Int32) (m_way : (Nat → Int32)) (m_crossed : Int32) (m_wayCost : Int32) (m_isWay : Int32) (m_next : Int32) (m_start : Int32) (m_token : Int32) (m_number : Int32) (m_letters : Int64) (m_isWrong : Int32) (m_sums : (Nat → Int32)) (m_steps : (Nat → Int32)) (m_chosen : Int32) (m_passed : (Nat → Int32)) (m_passedMany : Int32) (m_passedCost : Int32) (m_reach : (Nat → Int32))  {res : Int32} (h : fX7_isQuiet m_s = some res) : Met l yX7_isQuiet (Cond.code yX7_isQuiet cX7_isQuiet 3 (some .boolean) :: zWs) rmX7_isQuiet (zP Z (wX7 Z Am m_thrown m_s m_saved m_savedMany m_aside m_sent m_text m_length m_way m_crossed m_wayCost m_isWay m_next m_start m_token m_number m_letters m_isWrong m_sums m_steps m_chosen m_passed m_passedMany m_passedCost m_reach) sz [.ref (Am 0)]) (zQi Z res (wX7 Z Am m_thrown m_s m_saved m_savedMany m_aside m_sent m_text m_length m_way m_crossed m_wayCost m_isWay m_next m_start m_token m_number m_letters m_isWrong m_sums m_steps m_chosen m_passed m_passedMany m_passedCost m_reach) (va_A (wX7 Z Am m_thrown m_s m_saved m_savedMany m_aside m_sent m_text m_length m_way m_crossed m_wayCost m_isWay m_next m_start m_token m_number m_letters m_isWrong m_sums m_steps m_chosen m_passed m_passedMany m_passedCost m_reach) sz)) 0 0 (va_A (wX7 Z Am m_thrown m_s m_saved m_savedMany m_aside m_sent m_text m_length m_way m_crossed m_wayCost m_isWay m_next m_start m_token m_number m_letters m_isWrong m_sums m_steps m_chosen m_passed m_passedMany m_passedCost m_reach) sz) := by
  refine zMet (own := RX7) (fun A => zQi Z res (wX7 Z Am m_thrown m_s m_saved m_savedMany m_aside m_sent m_text m_length m_way m_crossed m_wayCost m_isWay m_next m_start m_token m_number m_letters m_isWrong m_sums m_steps m_chosen m_passed m_passedMany m_passedCost m_reach) A) (by decide) rfl (Nat.le_of_ble_eq_true rfl) ?_
  intro p e s m args below meth c ls A E hw hl
  unfold fX7_isQuiet at h
  refine r_iconst E 0 dX7_isQuiet_0 (by decide) ?_
  refine r_istore_n E [(1, .int (0 : Int32)), (0, .ref (Am 0))] hl dX7_isQuiet_1 rfl (by decide) rfl (fun ls hl => ?_)
  refine r_iconst E 0 dX7_isQuiet_2 (by decide) ?_
  refine r_istore_n E [(2, .int (0 : Int32)), (1, .int (0 : Int32)), (0, .ref (Am 0))] hl dX7_isQuiet_3 rfl (by decide) rfl (fun ls hl => ?_)
  obtain ⟨n6, h⟩ := wh_some h
  exact tX7_isQuiet_4 E  n6 _ _ _ _ _ h hw (lv_sub hl [2, 1, 0] rfl)
abbrev rmX7_other : Room := { frames := 1, cells := 0, slots := 0, locals := 22 }

set_option maxRecDepth 100000 in
set_option maxHeartbeats 4000000 in
theorem mX7_other (l : Launch) (Z : zT) (sz : Nat) (Am : Nat → Nat) (m_thrown : Int32) (m_s : (Nat → Int32)) (m_saved : (Nat → Int32)) (m_savedMany : Int32) (m_aside : (Nat → Int32)) (m_sent : (Nat → Int32)) (m_text : (Nat → Int32)) (m_length : Int32) (m_way : (Nat → Int32)) (m_crossed : Int32) (m_wayCost : Int32) (m_isWay : Int32) (m_next : Int32) (m_start : Int32) (m_token : Int32) (m_number : Int32) (m_letters : Int64) (m_isWrong : Int32) (m_sums : (Nat → Int32)) (m_steps : (Nat → Int32)) (m_chosen : Int32) (m_passed : (Nat → Int32)) (m_passedMany : Int32) (m_passedCost : Int32) (m_reach : (Nat → Int32)) (v1 : Int32) (v2 : Int32) {res : Int32} (h : fX7_other v1 v2 m_s = some res) : Met l yX7_other (Cond.code yX7_other cX7_other 3 (some .int) :: zWs) rmX7_other (zP Z (wX7 Z Am m_thrown m_s m_saved m_savedMany m_aside m_sent m_text m_length m_way m_crossed m_wayCost m_isWay m_next m_start m_token m_number m_letters m_isWrong m_sums m_steps m_chosen m_passed m_passedMany m_passedCost m_reach) sz [.ref (Am 0), .int v1, .int v2]) (zQi Z res (wX7 Z Am m_thrown m_s m_saved m_savedMany m_aside m_sent m_text m_length m_way m_crossed m_wayCost m_isWay m_next m_start m_token m_number m_letters m_isWrong m_sums m_steps m_chosen m_passed m_passedMany m_passedCost m_reach) (va_A (wX7 Z Am m_thrown m_s m_saved m_savedMany m_aside m_sent m_text m_length m_way m_crossed m_wayCost m_isWay m_next m_start m_token m_number m_letters m_isWrong m_sums m_steps m_chosen m_passed m_passedMany m_passedCost m_reach) sz)) 0 0 (va_A (wX7 Z Am m_thrown m_s m_saved m_savedMany m_aside m_sent m_text m_length m_way m_crossed m_wayCost m_isWay m_next m_start m_token m_number m_letters m_isWrong m_sums m_steps m_chosen m_passed m_passedMany m_passedCost m_reach) sz) := by
  refine zMet (own := RX7) (fun A => zQi Z res (wX7 Z Am m_thrown m_s m_saved m_savedMany m_aside m_sent m_text m_length m_way m_crossed m_wayCost m_isWay m_next m_start m_token m_number m_letters m_isWrong m_sums m_steps m_chosen m_passed m_passedMany m_passedCost m_reach) A) (by decide) rfl (Nat.le_of_ble_eq_true rfl) ?_
  intro p e s m args below meth c ls A E hw hl
  unfold fX7_other at h
  refine r_aload_n E hl 0 rfl dX7_other_0 rfl ?_
  refine r_iload_n E hl 1 rfl dX7_other_1 rfl ?_
  refine r_iconst E 0 dX7_other_2 (by decide) ?_
  obtain ⟨y1, hy1, h⟩ := bd_some h
  refine r_callVAi E hw (mX7_linkPart l Z _ Am m_thrown m_s m_saved m_savedMany m_aside m_sent m_text m_length m_way m_crossed m_wayCost m_isWay m_next m_start m_token m_number m_letters m_isWrong m_sums m_steps m_chosen m_passed m_passedMany m_passedCost m_reach v1 (0 : Int32) hy1) kL_X7_62 kI_X7_linkPart kS_X7_linkPart kN_X7 kC_X7_linkPart rfl rfl hdX7_linkPart ⟨Nat.le_of_ble_eq_true rfl, Nat.le_of_ble_eq_true rfl⟩ 0 rfl rfl rfl rfl hl [] rfl (Nat.le_of_ble_eq_true rfl) dX7_other_3 ⟨Nat.zero_le _, Nat.zero_le _⟩ (fun H locs hw => ?_)
  refine r_aload_n E hl 0 rfl dX7_other_6 rfl ?_
  refine r_iload_n E hl 1 rfl dX7_other_7 rfl ?_
  refine r_iconst E 1 dX7_other_8 (by decide) ?_
  obtain ⟨y2, hy2, h⟩ := bd_some h
  refine r_callVAi E hw (mX7_linkPart l Z _ Am m_thrown m_s m_saved m_savedMany m_aside m_sent m_text m_length m_way m_crossed m_wayCost m_isWay m_next m_start m_token m_number m_letters m_isWrong m_sums m_steps m_chosen m_passed m_passedMany m_passedCost m_reach v1 (1 : Int32) hy2) kL_X7_62 kI_X7_linkPart kS_X7_linkPart kN_X7 kC_X7_linkPart rfl rfl hdX7_linkPart ⟨Nat.le_of_ble_eq_true rfl, Nat.le_of_ble_eq_true rfl⟩ 0 rfl rfl rfl rfl hl [.int y1] rfl (Nat.le_of_ble_eq_true rfl) dX7_other_9 ⟨Nat.zero_le _, Nat.zero_le _⟩ (fun H locs hw => ?_)
  refine r_iadd E dX7_other_12 ?_
  refine r_iload_n E hl 2 rfl dX7_other_13 rfl ?_
  refine r_isub E dX7_other_14 ?_
  obtain rfl := Option.some.inj h
  exact r_iret E hw dX7_other_15
abbrev rmX7_receive : Room := { frames := 5, cells := 0, slots := 0, locals := 120 }

set_option maxRecDepth 100000 in
set_option maxHeartbeats 4000000 in
theorem vX7_receive_117 {Z : zT} {p : Program} {l : Launch} {e : Env} {s : State} {m : MethodId} {args : Array Value} {below : List Frame} {meth : Method} {c : Code} {A : Nat → Prop} (E : zE Z p s m args meth c RX7 cX7_receive 6 none A) {Am : Nat → Nat} {v1 : Int32} {v2 : Int32} {v3 : Int32} {m_thrown : Int32} {m_s : (Nat → Int32)} {m_saved : (Nat → Int32)} {m_savedMany : Int32} {m_aside : (Nat → Int32)} {m_sent : (Nat → Int32)} {m_text : (Nat → Int32)} {m_length : Int32} {m_way : (Nat → Int32)} {m_crossed : Int32} {m_wayCost : Int32} {m_isWay : Int32} {m_next : Int32} {m_start : Int32} {m_token : Int32} {m_number : Int32} {m_letters : Int64} {m_isWrong : Int32} {m_sums : (Nat → Int32)} {m_steps : (Nat → Int32)} {m_chosen : Int32} {m_passed : (Nat → Int32)} {m_passedMany : Int32} {m_passedCost : Int32} {m_reach : (Nat → Int32)} {res : (Nat → Int32)} {q1 : (Int32 × (Nat → Int32)) ⊕ ((Nat → Int32))} (hb1 : ∀ b : Int32 × (Nat → Int32), q1 = .inl b → ∀ (H : Heap) (locs : List Loc) (ls : Array Slot), zW Z A (wX7 Z Am m_thrown b.2 m_saved m_savedMany m_aside m_sent m_text m_length m_way m_crossed m_wayCost m_isWay m_next m_start m_token m_number m_letters m_isWrong m_sums m_steps m_chosen m_passed m_passedMany m_passedCost m_reach) s.heap H locs → lv_has ls 6 [(0, .ref (Am 0)), (1, .int v1), (2, .int v2), (3, .int b.1)] → W p l e rmX7_receive s m args below meth c H locs 0 0 (MQ below (zQv Z (wX7 Z Am m_thrown res m_saved m_savedMany m_aside m_sent m_text m_length m_way m_crossed m_wayCost m_isWay m_next m_start m_token m_number m_letters m_isWrong m_sums m_steps m_chosen m_passed m_passedMany m_passedCost m_reach) A) args s 0 0 A) (F0 m 2 ls [])) (hr1 : ∀ r' , q1 = .inr r' → r' = res) {H : Heap} {locs : List Loc} {ls : Array Slot} (hw : zW Z A (wX7 Z Am m_thrown m_s m_saved m_savedMany m_aside m_sent m_text m_length m_way m_crossed m_wayCost m_isWay m_next m_start m_token m_number m_letters m_isWrong m_sums m_steps m_chosen m_passed m_passedMany m_passedCost m_reach) s.heap H locs) (hl : lv_has ls 6 [(0, .ref (Am 0)), (1, .int v1), (2, .int v2), (3, .int v3)]) (h : uX7_receive_117 v3 m_s = some q1) : W p l e rmX7_receive s m args below meth c H locs 0 0 (MQ below (zQv Z (wX7 Z Am m_thrown res m_saved m_savedMany m_aside m_sent m_text m_length m_way m_crossed m_wayCost m_isWay m_next m_start m_token m_number m_letters m_isWrong m_sums m_steps m_chosen m_passed m_passedMany m_passedCost m_reach) A) args s 0 0 A) (F0 m 117 ls []) := by
  unfold uX7_receive_117 at h
  obtain ⟨w5, hw5, h⟩ := nm_out h
  refine r_iinc E w5 [(3, .int w5), (0, .ref (Am 0)), (1, .int v1), (2, .int v2)] hl (k := 3) rfl dX7_receive_117 hw5.symm (by decide) rfl (fun ls hl => ?_)
  refine r_goto E 2 dX7_receive_120 (by decide) ?_
  exact hb1 _ (Option.some.inj h).symm _ _ _ hw (lv_sub hl [1, 2, 3, 0] rfl)
set_option maxRecDepth 100000 in
set_option maxHeartbeats 4000000 in
theorem vX7_receive_111 {Z : zT} {p : Program} {l : Launch} {e : Env} {s : State} {m : MethodId} {args : Array Value} {below : List Frame} {meth : Method} {c : Code} {A : Nat → Prop} (E : zE Z p s m args meth c RX7 cX7_receive 6 none A) {Am : Nat → Nat} {v1 : Int32} {v2 : Int32} {v3 : Int32} {v4 : Int32} {v5 : Int32} {m_thrown : Int32} {m_s : (Nat → Int32)} {m_saved : (Nat → Int32)} {m_savedMany : Int32} {m_aside : (Nat → Int32)} {m_sent : (Nat → Int32)} {m_text : (Nat → Int32)} {m_length : Int32} {m_way : (Nat → Int32)} {m_crossed : Int32} {m_wayCost : Int32} {m_isWay : Int32} {m_next : Int32} {m_start : Int32} {m_token : Int32} {m_number : Int32} {m_letters : Int64} {m_isWrong : Int32} {m_sums : (Nat → Int32)} {m_steps : (Nat → Int32)} {m_chosen : Int32} {m_passed : (Nat → Int32)} {m_passedMany : Int32} {m_passedCost : Int32} {m_reach : (Nat → Int32)} {res : (Nat → Int32)} {q1 : (Int32 × (Nat → Int32)) ⊕ ((Nat → Int32))} (hb1 : ∀ b : Int32 × (Nat → Int32), q1 = .inl b → ∀ (H : Heap) (locs : List Loc) (ls : Array Slot), zW Z A (wX7 Z Am m_thrown b.2 m_saved m_savedMany m_aside m_sent m_text m_length m_way m_crossed m_wayCost m_isWay m_next m_start m_token m_number m_letters m_isWrong m_sums m_steps m_chosen m_passed m_passedMany m_passedCost m_reach) s.heap H locs → lv_has ls 6 [(0, .ref (Am 0)), (1, .int v1), (2, .int v2), (3, .int b.1)] → W p l e rmX7_receive s m args below meth c H locs 0 0 (MQ below (zQv Z (wX7 Z Am m_thrown res m_saved m_savedMany m_aside m_sent m_text m_length m_way m_crossed m_wayCost m_isWay m_next m_start m_token m_number m_letters m_isWrong m_sums m_steps m_chosen m_passed m_passedMany m_passedCost m_reach) A) args s 0 0 A) (F0 m 2 ls [])) (hr1 : ∀ r' , q1 = .inr r' → r' = res) {q2 : (Int32 × (Nat → Int32)) ⊕ ((Int32 × (Nat → Int32)) ⊕ ((Nat → Int32)))} (hb2 : ∀ b : Int32 × (Nat → Int32), q2 = .inl b → ∀ (H : Heap) (locs : List Loc) (ls : Array Slot), zW Z A (wX7 Z Am m_thrown b.2 m_saved m_savedMany m_aside m_sent m_text m_length m_way m_crossed m_wayCost m_isWay m_next m_start m_token m_number m_letters m_isWrong m_sums m_steps m_chosen m_passed m_passedMany m_passedCost m_reach) s.heap H locs → lv_has ls 6 [(0, .ref (Am 0)), (1, .int v1), (2, .int v2), (3, .int v3), (4, .int v4), (5, .int b.1)] → W p l e rmX7_receive s m args below meth c H locs 0 0 (MQ below (zQv Z (wX7 Z Am m_thrown res m_saved m_savedMany m_aside m_sent m_text m_length m_way m_crossed m_wayCost m_isWay m_next m_start m_token m_number m_letters m_isWrong m_sums m_steps m_chosen m_passed m_passedMany m_passedCost m_reach) A) args s 0 0 A) (F0 m 22 ls [])) (hr2 : ∀ r' , q2 = .inr r' → r' = q1) {H : Heap} {locs : List Loc} {ls : Array Slot} (hw : zW Z A (wX7 Z Am m_thrown m_s m_saved m_savedMany m_aside m_sent m_text m_length m_way m_crossed m_wayCost m_isWay m_next m_start m_token m_number m_letters m_isWrong m_sums m_steps m_chosen m_passed m_passedMany m_passedCost m_reach) s.heap H locs) (hl : lv_has ls 6 [(0, .ref (Am 0)), (1, .int v1), (2, .int v2), (3, .int v3), (4, .int v4), (5, .int v5)]) (h : uX7_receive_111 v5 m_s = some q2) : W p l e rmX7_receive s m args below meth c H locs 0 0 (MQ below (zQv Z (wX7 Z Am m_thrown res m_saved m_savedMany m_aside m_sent m_text m_length m_way m_crossed m_wayCost m_isWay m_next m_start m_token m_number m_letters m_isWrong m_sums m_steps m_chosen m_passed m_passedMany m_passedCost m_reach) A) args s 0 0 A) (F0 m 111 ls []) := by
  unfold uX7_receive_111 at h
  obtain ⟨w10, hw10, h⟩ := nm_out h
  refine r_iinc E w10 [(5, .int w10), (0, .ref (Am 0)), (1, .int v1), (2, .int v2), (3, .int v3), (4, .int v4)] hl (k := 5) rfl dX7_receive_111 hw10.symm (by decide) rfl (fun ls hl => ?_)
  refine r_goto E 22 dX7_receive_114 (by decide) ?_
  exact hb2 _ (Option.some.inj h).symm _ _ _ hw (lv_sub hl [1, 2, 3, 4, 5, 0] rfl)
set_option maxRecDepth 100000 in
set_option maxHeartbeats 4000000 in
theorem tX7_receive_22 {Z : zT} {p : Program} {l : Launch} {e : Env} {s : State} {m : MethodId} {args : Array Value} {below : List Frame} {meth : Method} {c : Code} {A : Nat → Prop} (E : zE Z p s m args meth c RX7 cX7_receive 6 none A) {Am : Nat → Nat} {v1 : Int32} {v2 : Int32} {v3 : Int32} {v4 : Int32} {m_thrown : Int32} {m_saved : (Nat → Int32)} {m_savedMany : Int32} {m_aside : (Nat → Int32)} {m_sent : (Nat → Int32)} {m_text : (Nat → Int32)} {m_length : Int32} {m_way : (Nat → Int32)} {m_crossed : Int32} {m_wayCost : Int32} {m_isWay : Int32} {m_next : Int32} {m_start : Int32} {m_token : Int32} {m_number : Int32} {m_letters : Int64} {m_isWrong : Int32} {m_sums : (Nat → Int32)} {m_steps : (Nat → Int32)} {m_chosen : Int32} {m_passed : (Nat → Int32)} {m_passedMany : Int32} {m_passedCost : Int32} {m_reach : (Nat → Int32)} {res : (Nat → Int32)} {q1 : (Int32 × (Nat → Int32)) ⊕ ((Nat → Int32))} (hb1 : ∀ b : Int32 × (Nat → Int32), q1 = .inl b → ∀ (H : Heap) (locs : List Loc) (ls : Array Slot), zW Z A (wX7 Z Am m_thrown b.2 m_saved m_savedMany m_aside m_sent m_text m_length m_way m_crossed m_wayCost m_isWay m_next m_start m_token m_number m_letters m_isWrong m_sums m_steps m_chosen m_passed m_passedMany m_passedCost m_reach) s.heap H locs → lv_has ls 6 [(0, .ref (Am 0)), (1, .int v1), (2, .int v2), (3, .int b.1)] → W p l e rmX7_receive s m args below meth c H locs 0 0 (MQ below (zQv Z (wX7 Z Am m_thrown res m_saved m_savedMany m_aside m_sent m_text m_length m_way m_crossed m_wayCost m_isWay m_next m_start m_token m_number m_letters m_isWrong m_sums m_steps m_chosen m_passed m_passedMany m_passedCost m_reach) A) args s 0 0 A) (F0 m 2 ls [])) (hr1 : ∀ r' , q1 = .inr r' → r' = res) : ∀ (n : Nat) (v5 : Int32) (m_s : (Nat → Int32)) (H : Heap) (locs : List Loc) (ls : Array Slot), iter (fun b : Int32 × (Nat → Int32) => sX7_receive_22 v1 v2 v3 v4 m_sent b.1 b.2) n (v5, m_s) = some q1 → zW Z A (wX7 Z Am m_thrown m_s m_saved m_savedMany m_aside m_sent m_text m_length m_way m_crossed m_wayCost m_isWay m_next m_start m_token m_number m_letters m_isWrong m_sums m_steps m_chosen m_passed m_passedMany m_passedCost m_reach) s.heap H locs → lv_has ls 6 [(0, .ref (Am 0)), (1, .int v1), (2, .int v2), (3, .int v3), (4, .int v4), (5, .int v5)] → W p l e rmX7_receive s m args below meth c H locs 0 0 (MQ below (zQv Z (wX7 Z Am m_thrown res m_saved m_savedMany m_aside m_sent m_text m_length m_way m_crossed m_wayCost m_isWay m_next m_start m_token m_number m_letters m_isWrong m_sums m_steps m_chosen m_passed m_passedMany m_passedCost m_reach) A) args s 0 0 A) (F0 m 22 ls []) := by
  intro n
  induction n with
  | zero => intro v5 m_s H locs ls h; cases h
  | succ n ih =>
    intro v5 m_s H locs ls h hw hl
    obtain ⟨q2, h, hn2, hr2⟩ := iter_out h
    have hb2 : ∀ b : Int32 × (Nat → Int32), q2 = .inl b → ∀ (H : Heap) (locs : List Loc) (ls : Array Slot), zW Z A (wX7 Z Am m_thrown b.2 m_saved m_savedMany m_aside m_sent m_text m_length m_way m_crossed m_wayCost m_isWay m_next m_start m_token m_number m_letters m_isWrong m_sums m_steps m_chosen m_passed m_passedMany m_passedCost m_reach) s.heap H locs → lv_has ls 6 [(0, .ref (Am 0)), (1, .int v1), (2, .int v2), (3, .int v3), (4, .int v4), (5, .int b.1)] → W p l e rmX7_receive s m args below meth c H locs 0 0 (MQ below (zQv Z (wX7 Z Am m_thrown res m_saved m_savedMany m_aside m_sent m_text m_length m_way m_crossed m_wayCost m_isWay m_next m_start m_token m_number m_letters m_isWrong m_sums m_steps m_chosen m_passed m_passedMany m_passedCost m_reach) A) args s 0 0 A) (F0 m 22 ls []) := fun b eb H locs ls hw hl => ih b.1 b.2 H locs ls (hn2 b eb) hw hl
    replace h : sX7_receive_22 v1 v2 v3 v4 m_sent v5 m_s = some q2 := h
    unfold sX7_receive_22 at h
    refine r_iload E hl 5 rfl dX7_receive_22 ?_
    refine r_aload_n E hl 0 rfl dX7_receive_24 rfl ?_
    refine r_get E kW_X7 hw 0 rfl rfl 1 (by decide) kF_X7_7 rfl dX7_receive_25 ?_
    refine r_iconst E 1 dX7_receive_28 (by decide) ?_
    obtain ⟨hg4, h⟩ := gd_some h
    refine r_iald E hw 1 rfl hg4 dX7_receive_29 ?_
    refine r_icmp_ge E 117 dX7_receive_30 (by decide) (fun hc => ?_) (fun hc => ?_)
    · replace h := ite_t hc h
      obtain ⟨ro6, h, hro6⟩ := oi_some h
      rw [hr2 _ hro6] at h
      exact vX7_receive_117 E hb1 hr1 hw (lv_sub hl [0, 1, 2, 3] rfl) h
    · replace h := ite_f hc h
      refine r_aload_n E hl 0 rfl dX7_receive_33 rfl ?_
      refine r_get E kW_X7 hw 0 rfl rfl 5 (by decide) kF_X7_19 rfl dX7_receive_34 ?_
      refine r_iload E hl 4 rfl dX7_receive_37 ?_
      refine r_iconst E 3 dX7_receive_39 (by decide) ?_
      refine r_iadd E dX7_receive_40 ?_
      obtain ⟨hg7, h⟩ := gd_some h
      refine r_iald E hw 4 rfl hg7 dX7_receive_41 ?_
      refine r_iconst E 1 dX7_receive_42 (by decide) ?_
      refine r_icmp_ne E 117 dX7_receive_43 (by decide) (fun hc => ?_) (fun hc => ?_)
      · replace h := ite_f hc h
        obtain ⟨ro8, h, hro8⟩ := oi_some h
        rw [hr2 _ hro8] at h
        exact vX7_receive_117 E hb1 hr1 hw (lv_sub hl [0, 1, 2, 3] rfl) h
      · replace h := ite_t hc h
        refine r_aload_n E hl 0 rfl dX7_receive_46 rfl ?_
        refine r_iload E hl 5 rfl dX7_receive_47 ?_
        refine r_iconst E 3 dX7_receive_49 (by decide) ?_
        obtain ⟨y9, hy9, h⟩ := bd_some h
        refine r_callVAi E hw (mX7_linkPart l Z _ Am m_thrown m_s m_saved m_savedMany m_aside m_sent m_text m_length m_way m_crossed m_wayCost m_isWay m_next m_start m_token m_number m_letters m_isWrong m_sums m_steps m_chosen m_passed m_passedMany m_passedCost m_reach v5 (3 : Int32) hy9) kL_X7_62 kI_X7_linkPart kS_X7_linkPart kN_X7 kC_X7_linkPart rfl rfl hdX7_linkPart ⟨Nat.le_of_ble_eq_true rfl, Nat.le_of_ble_eq_true rfl⟩ 0 rfl rfl rfl rfl hl [] rfl (Nat.le_of_ble_eq_true rfl) dX7_receive_50 ⟨Nat.zero_le _, Nat.zero_le _⟩ (fun H locs hw => ?_)
        refine r_iconst E 1 dX7_receive_53 (by decide) ?_
        refine r_icmp_ne E 111 dX7_receive_54 (by decide) (fun hc => ?_) (fun hc => ?_)
        · replace h := ite_f hc h
          exact vX7_receive_111 E hb1 hr1 hb2 hr2 hw hl h
        · replace h := ite_t hc h
          refine r_aload_n E hl 0 rfl dX7_receive_57 rfl ?_
          refine r_iload_n E hl 1 rfl dX7_receive_58 rfl ?_
          refine r_iload E hl 5 rfl dX7_receive_59 ?_
          obtain ⟨y11, hy11, h⟩ := bd_some h
          refine r_callVAi E hw (mX7_isEnd l Z _ Am m_thrown m_s m_saved m_savedMany m_aside m_sent m_text m_length m_way m_crossed m_wayCost m_isWay m_next m_start m_token m_number m_letters m_isWrong m_sums m_steps m_chosen m_passed m_passedMany m_passedCost m_reach v1 v5 hy11) kL_X7_84 kI_X7_isEnd kS_X7_isEnd kN_X7 kC_X7_isEnd rfl rfl hdX7_isEnd ⟨Nat.le_of_ble_eq_true rfl, Nat.le_of_ble_eq_true rfl⟩ 0 rfl rfl rfl rfl hl [] rfl (Nat.le_of_ble_eq_true rfl) dX7_receive_61 ⟨Nat.zero_le _, Nat.zero_le _⟩ (fun H locs hw => ?_)
          refine r_if_eq E 111 dX7_receive_64 (by decide) (fun hc => ?_) (fun hc => ?_)
          · replace h := ite_t hc h
            exact vX7_receive_111 E hb1 hr1 hb2 hr2 hw hl h
          · replace h := ite_f hc h
            refine r_aload_n E hl 0 rfl dX7_receive_67 rfl ?_
            refine r_iload E hl 5 rfl dX7_receive_68 ?_
            refine r_iload_n E hl 1 rfl dX7_receive_70 rfl ?_
            obtain ⟨y12, hy12, h⟩ := bd_some h
            refine r_callVAi E hw (mX7_other l Z _ Am m_thrown m_s m_saved m_savedMany m_aside m_sent m_text m_length m_way m_crossed m_wayCost m_isWay m_next m_start m_token m_number m_letters m_isWrong m_sums m_steps m_chosen m_passed m_passedMany m_passedCost m_reach v5 v1 hy12) kL_X7_219 kI_X7_other kS_X7_other kN_X7 kC_X7_other rfl rfl hdX7_other ⟨Nat.le_of_ble_eq_true rfl, Nat.le_of_ble_eq_true rfl⟩ 0 rfl rfl rfl rfl hl [] rfl (Nat.le_of_ble_eq_true rfl) dX7_receive_71 ⟨Nat.zero_le _, Nat.zero_le _⟩ (fun H locs hw => ?_)
            refine r_iload_n E hl 3 rfl dX7_receive_74 rfl ?_
            refine r_icmp_ne E 111 dX7_receive_75 (by decide) (fun hc => ?_) (fun hc => ?_)
            · replace h := ite_f hc h
              exact vX7_receive_111 E hb1 hr1 hb2 hr2 hw hl h
            · replace h := ite_t hc h
              refine r_aload_n E hl 0 rfl dX7_receive_78 rfl ?_
              refine r_iload_n E hl 1 rfl dX7_receive_79 rfl ?_
              refine r_iload_n E hl 2 rfl dX7_receive_80 rfl ?_
              refine r_aload_n E hl 0 rfl dX7_receive_81 rfl ?_
              refine r_get E kW_X7 hw 0 rfl rfl 5 (by decide) kF_X7_19 rfl dX7_receive_82 ?_
              refine r_iload E hl 4 rfl dX7_receive_85 ?_
              refine r_iconst E 0 dX7_receive_87 (by decide) ?_
              refine r_iadd E dX7_receive_88 ?_
              obtain ⟨hg13, h⟩ := gd_some h
              refine r_iald E hw 4 rfl hg13 dX7_receive_89 ?_
              refine r_aload_n E hl 0 rfl dX7_receive_90 rfl ?_
              refine r_get E kW_X7 hw 0 rfl rfl 5 (by decide) kF_X7_19 rfl dX7_receive_91 ?_
              refine r_iload E hl 4 rfl dX7_receive_94 ?_
              refine r_iconst E 1 dX7_receive_96 (by decide) ?_
              refine r_iadd E dX7_receive_97 ?_
              obtain ⟨hg14, h⟩ := gd_some h
              refine r_iald E hw 4 rfl hg14 dX7_receive_98 ?_
              refine r_aload_n E hl 0 rfl dX7_receive_99 rfl ?_
              refine r_get E kW_X7 hw 0 rfl rfl 5 (by decide) kF_X7_19 rfl dX7_receive_100 ?_
              refine r_iload E hl 4 rfl dX7_receive_103 ?_
              refine r_iconst E 2 dX7_receive_105 (by decide) ?_
              refine r_iadd E dX7_receive_106 ?_
              obtain ⟨hg15, h⟩ := gd_some h
              refine r_iald E hw 4 rfl hg15 dX7_receive_107 ?_
              obtain ⟨y16, hy16, h⟩ := bd_some h
              refine r_callVAv E hw (mX7_learn l Z _ Am m_thrown m_s m_saved m_savedMany m_aside m_sent m_text m_length m_way m_crossed m_wayCost m_isWay m_next m_start m_token m_number m_letters m_isWrong m_sums m_steps m_chosen m_passed m_passedMany m_passedCost m_reach v1 v2 (m_sent (v4 + (0 : Int32)).toNatClampNeg) (m_sent (v4 + (1 : Int32)).toNatClampNeg) (m_sent (v4 + (2 : Int32)).toNatClampNeg) hy16) kL_X7_94 kI_X7_learn kS_X7_learn kN_X7 kC_X7_learn rfl rfl hdX7_learn ⟨Nat.le_of_ble_eq_true rfl, Nat.le_of_ble_eq_true rfl⟩ 0 rfl rfl rfl rfl hl [] rfl (Nat.le_of_ble_eq_true rfl) dX7_receive_108 ⟨Nat.zero_le _, Nat.zero_le _⟩ (fun H locs hw => ?_)
              exact vX7_receive_111 E hb1 hr1 hb2 hr2 hw hl h
set_option maxRecDepth 100000 in
set_option maxHeartbeats 4000000 in
theorem tX7_receive_2 {Z : zT} {p : Program} {l : Launch} {e : Env} {s : State} {m : MethodId} {args : Array Value} {below : List Frame} {meth : Method} {c : Code} {A : Nat → Prop} (E : zE Z p s m args meth c RX7 cX7_receive 6 none A) {Am : Nat → Nat} {v1 : Int32} {v2 : Int32} {m_thrown : Int32} {m_saved : (Nat → Int32)} {m_savedMany : Int32} {m_aside : (Nat → Int32)} {m_sent : (Nat → Int32)} {m_text : (Nat → Int32)} {m_length : Int32} {m_way : (Nat → Int32)} {m_crossed : Int32} {m_wayCost : Int32} {m_isWay : Int32} {m_next : Int32} {m_start : Int32} {m_token : Int32} {m_number : Int32} {m_letters : Int64} {m_isWrong : Int32} {m_sums : (Nat → Int32)} {m_steps : (Nat → Int32)} {m_chosen : Int32} {m_passed : (Nat → Int32)} {m_passedMany : Int32} {m_passedCost : Int32} {m_reach : (Nat → Int32)} {res : (Nat → Int32)}  : ∀ (n : Nat) (v3 : Int32) (m_s : (Nat → Int32)) (H : Heap) (locs : List Loc) (ls : Array Slot), iter (fun b : Int32 × (Nat → Int32) => sX7_receive_2 v1 v2 m_sent b.1 b.2) n (v3, m_s) = some res → zW Z A (wX7 Z Am m_thrown m_s m_saved m_savedMany m_aside m_sent m_text m_length m_way m_crossed m_wayCost m_isWay m_next m_start m_token m_number m_letters m_isWrong m_sums m_steps m_chosen m_passed m_passedMany m_passedCost m_reach) s.heap H locs → lv_has ls 6 [(0, .ref (Am 0)), (1, .int v1), (2, .int v2), (3, .int v3)] → W p l e rmX7_receive s m args below meth c H locs 0 0 (MQ below (zQv Z (wX7 Z Am m_thrown res m_saved m_savedMany m_aside m_sent m_text m_length m_way m_crossed m_wayCost m_isWay m_next m_start m_token m_number m_letters m_isWrong m_sums m_steps m_chosen m_passed m_passedMany m_passedCost m_reach) A) args s 0 0 A) (F0 m 2 ls []) := by
  intro n
  induction n with
  | zero => intro v3 m_s H locs ls h; cases h
  | succ n ih =>
    intro v3 m_s H locs ls h hw hl
    obtain ⟨q1, h, hn1, hr1⟩ := iter_out h
    have hb1 : ∀ b : Int32 × (Nat → Int32), q1 = .inl b → ∀ (H : Heap) (locs : List Loc) (ls : Array Slot), zW Z A (wX7 Z Am m_thrown b.2 m_saved m_savedMany m_aside m_sent m_text m_length m_way m_crossed m_wayCost m_isWay m_next m_start m_token m_number m_letters m_isWrong m_sums m_steps m_chosen m_passed m_passedMany m_passedCost m_reach) s.heap H locs → lv_has ls 6 [(0, .ref (Am 0)), (1, .int v1), (2, .int v2), (3, .int b.1)] → W p l e rmX7_receive s m args below meth c H locs 0 0 (MQ below (zQv Z (wX7 Z Am m_thrown res m_saved m_savedMany m_aside m_sent m_text m_length m_way m_crossed m_wayCost m_isWay m_next m_start m_token m_number m_letters m_isWrong m_sums m_steps m_chosen m_passed m_passedMany m_passedCost m_reach) A) args s 0 0 A) (F0 m 2 ls []) := fun b eb H locs ls hw hl => ih b.1 b.2 H locs ls (hn1 b eb) hw hl
    replace h : sX7_receive_2 v1 v2 m_sent v3 m_s = some q1 := h
    unfold sX7_receive_2 at h
    refine r_iload_n E hl 3 rfl dX7_receive_2 rfl ?_
    refine r_aload_n E hl 0 rfl dX7_receive_3 rfl ?_
    refine r_get E kW_X7 hw 0 rfl rfl 1 (by decide) kF_X7_7 rfl dX7_receive_4 ?_
    refine r_iconst E 0 dX7_receive_7 (by decide) ?_
    obtain ⟨hg1, h⟩ := gd_some h
    refine r_iald E hw 1 rfl hg1 dX7_receive_8 ?_
    refine r_icmp_ge E 123 dX7_receive_9 (by decide) (fun hc => ?_) (fun hc => ?_)
    · replace h := ite_t hc h
      obtain ⟨ro2, h, hro2⟩ := oi_some h
      rw [hr1 _ hro2] at h
      obtain rfl := Option.some.inj h
      exact r_vret E hw dX7_receive_123
    · replace h := ite_f hc h
      refine r_iload_n E hl 3 rfl dX7_receive_12 rfl ?_
      refine r_iload_n E hl 2 rfl dX7_receive_13 rfl ?_
      obtain ⟨y3, hy3, h⟩ := bd_some h
      refine r_callS0i E hw (mX7_at l Z _ v3 v2 hy3) kL_X7_70 kT_X7_at kN_X7 kC_X7_at rfl rfl hdX7_at ⟨Nat.le_of_ble_eq_true rfl, Nat.le_of_ble_eq_true rfl⟩ rfl hl [] rfl (Nat.le_of_ble_eq_true rfl) dX7_receive_14 ⟨Nat.zero_le _, Nat.zero_le _⟩ (fun H locs hw => ?_)
      refine r_istore E [(4, .int y3), (0, .ref (Am 0)), (1, .int v1), (2, .int v2), (3, .int v3)] hl dX7_receive_17 (by decide) rfl (fun ls hl => ?_)
      refine r_iconst E 0 dX7_receive_19 (by decide) ?_
      refine r_istore E [(5, .int (0 : Int32)), (4, .int y3), (0, .ref (Am 0)), (1, .int v1), (2, .int v2), (3, .int v3)] hl dX7_receive_20 (by decide) rfl (fun ls hl => ?_)
      obtain ⟨n17, h⟩ := wh_some h
      exact tX7_receive_22 E hb1 hr1 n17 _ _ _ _ _ h hw (lv_sub hl [2, 3, 4, 5, 1, 0] rfl)
set_option maxRecDepth 100000 in
set_option maxHeartbeats 4000000 in
theorem mX7_receive (l : Launch) (Z : zT) (sz : Nat) (Am : Nat → Nat) (m_thrown : Int32) (m_s : (Nat → Int32)) (m_saved : (Nat → Int32)) (m_savedMany : Int32) (m_aside : (Nat → Int32)) (m_sent : (Nat → Int32)) (m_text : (Nat → Int32)) (m_length : Int32) (m_way : (Nat → Int32)) (m_crossed : Int32) (m_wayCost : Int32) (m_isWay : Int32) (m_next : Int32) (m_start : Int32) (m_token : Int32) (m_number : Int32) (m_letters : Int64) (m_isWrong : Int32) (m_sums : (Nat → Int32)) (m_steps : (Nat → Int32)) (m_chosen : Int32) (m_passed : (Nat → Int32)) (m_passedMany : Int32) (m_passedCost : Int32) (m_reach : (Nat → Int32)) (v1 : Int32) (v2 : Int32) {res : (Nat → Int32)} (h : fX7_receive v1 v2 m_s m_sent = some res) : Met l yX7_receive (Cond.code yX7_receive cX7_receive 6 none :: zWs) rmX7_receive (zP Z (wX7 Z Am m_thrown m_s m_saved m_savedMany m_aside m_sent m_text m_length m_way m_crossed m_wayCost m_isWay m_next m_start m_token m_number m_letters m_isWrong m_sums m_steps m_chosen m_passed m_passedMany m_passedCost m_reach) sz [.ref (Am 0), .int v1, .int v2]) (zQv Z (wX7 Z Am m_thrown res m_saved m_savedMany m_aside m_sent m_text m_length m_way m_crossed m_wayCost m_isWay m_next m_start m_token m_number m_letters m_isWrong m_sums m_steps m_chosen m_passed m_passedMany m_passedCost m_reach) (va_A (wX7 Z Am m_thrown m_s m_saved m_savedMany m_aside m_sent m_text m_length m_way m_crossed m_wayCost m_isWay m_next m_start m_token m_number m_letters m_isWrong m_sums m_steps m_chosen m_passed m_passedMany m_passedCost m_reach) sz)) 0 0 (va_A (wX7 Z Am m_thrown m_s m_saved m_savedMany m_aside m_sent m_text m_length m_way m_crossed m_wayCost m_isWay m_next m_start m_token m_number m_letters m_isWrong m_sums m_steps m_chosen m_passed m_passedMany m_passedCost m_reach) sz) := by
  refine zMet (own := RX7) (fun A => zQv Z (wX7 Z Am m_thrown res m_saved m_savedMany m_aside m_sent m_text m_length m_way m_crossed m_wayCost m_isWay m_next m_start m_token m_number m_letters m_isWrong m_sums m_steps m_chosen m_passed m_passedMany m_passedCost m_reach) A) (by decide) rfl (Nat.le_of_ble_eq_true rfl) ?_
  intro p e s m args below meth c ls A E hw hl
  unfold fX7_receive at h
  refine r_iconst E 0 dX7_receive_0 (by decide) ?_
  refine r_istore_n E [(3, .int (0 : Int32)), (0, .ref (Am 0)), (1, .int v1), (2, .int v2)] hl dX7_receive_1 rfl (by decide) rfl (fun ls hl => ?_)
  obtain ⟨n18, h⟩ := wh_some h
  exact tX7_receive_2 E  n18 _ _ _ _ _ h hw (lv_sub hl [1, 2, 3, 0] rfl)
abbrev rmX7_round : Room := { frames := 6, cells := 0, slots := 0, locals := 145 }

set_option maxRecDepth 100000 in
set_option maxHeartbeats 4000000 in
theorem vX7_round_150 {Z : zT} {p : Program} {l : Launch} {e : Env} {s : State} {m : MethodId} {args : Array Value} {below : List Frame} {meth : Method} {c : Code} {A : Nat → Prop} (E : zE Z p s m args meth c RX7 cX7_round 3 none A) {Am : Nat → Nat} {v1 : Int32} {m_thrown : Int32} {m_s : (Nat → Int32)} {m_saved : (Nat → Int32)} {m_savedMany : Int32} {m_aside : (Nat → Int32)} {m_sent : (Nat → Int32)} {m_text : (Nat → Int32)} {m_length : Int32} {m_way : (Nat → Int32)} {m_crossed : Int32} {m_wayCost : Int32} {m_isWay : Int32} {m_next : Int32} {m_start : Int32} {m_token : Int32} {m_number : Int32} {m_letters : Int64} {m_isWrong : Int32} {m_sums : (Nat → Int32)} {m_steps : (Nat → Int32)} {m_chosen : Int32} {m_passed : (Nat → Int32)} {m_passedMany : Int32} {m_passedCost : Int32} {m_reach : (Nat → Int32)} {res : (Nat → Int32) × (Nat → Int32)} {q1 : (Int32 × (Nat → Int32)) ⊕ ((Nat → Int32) × (Nat → Int32))} (hb1 : ∀ b : Int32 × (Nat → Int32), q1 = .inl b → ∀ (H : Heap) (locs : List Loc) (ls : Array Slot), zW Z A (wX7 Z Am m_thrown b.2 m_saved m_savedMany m_aside m_sent m_text m_length m_way m_crossed m_wayCost m_isWay m_next m_start m_token m_number m_letters m_isWrong m_sums m_steps m_chosen m_passed m_passedMany m_passedCost m_reach) s.heap H locs → lv_has ls 3 [(0, .ref (Am 0)), (1, .int b.1)] → W p l e rmX7_round s m args below meth c H locs 0 0 (MQ below (zQv Z (wX7 Z Am m_thrown res.1 m_saved m_savedMany m_aside res.2 m_text m_length m_way m_crossed m_wayCost m_isWay m_next m_start m_token m_number m_letters m_isWrong m_sums m_steps m_chosen m_passed m_passedMany m_passedCost m_reach) A) args s 0 0 A) (F0 m 120 ls [])) (hr1 : ∀ r' , q1 = .inr r' → r' = res) {H : Heap} {locs : List Loc} {ls : Array Slot} (hw : zW Z A (wX7 Z Am m_thrown m_s m_saved m_savedMany m_aside m_sent m_text m_length m_way m_crossed m_wayCost m_isWay m_next m_start m_token m_number m_letters m_isWrong m_sums m_steps m_chosen m_passed m_passedMany m_passedCost m_reach) s.heap H locs) (hl : lv_has ls 3 [(0, .ref (Am 0)), (1, .int v1)]) (h : uX7_round_150 v1 m_s = some q1) : W p l e rmX7_round s m args below meth c H locs 0 0 (MQ below (zQv Z (wX7 Z Am m_thrown res.1 m_saved m_savedMany m_aside res.2 m_text m_length m_way m_crossed m_wayCost m_isWay m_next m_start m_token m_number m_letters m_isWrong m_sums m_steps m_chosen m_passed m_passedMany m_passedCost m_reach) A) args s 0 0 A) (F0 m 150 ls []) := by
  unfold uX7_round_150 at h
  obtain ⟨w6, hw6, h⟩ := nm_out h
  refine r_iinc E w6 [(1, .int w6), (0, .ref (Am 0))] hl (k := 1) rfl dX7_round_150 hw6.symm (by decide) rfl (fun ls hl => ?_)
  refine r_goto E 120 dX7_round_153 (by decide) ?_
  exact hb1 _ (Option.some.inj h).symm _ _ _ hw (lv_sub hl [1, 0] rfl)
set_option maxRecDepth 100000 in
set_option maxHeartbeats 4000000 in
theorem tX7_round_132 {Z : zT} {p : Program} {l : Launch} {e : Env} {s : State} {m : MethodId} {args : Array Value} {below : List Frame} {meth : Method} {c : Code} {A : Nat → Prop} (E : zE Z p s m args meth c RX7 cX7_round 3 none A) {Am : Nat → Nat} {v1 : Int32} {m_thrown : Int32} {m_saved : (Nat → Int32)} {m_savedMany : Int32} {m_aside : (Nat → Int32)} {m_sent : (Nat → Int32)} {m_text : (Nat → Int32)} {m_length : Int32} {m_way : (Nat → Int32)} {m_crossed : Int32} {m_wayCost : Int32} {m_isWay : Int32} {m_next : Int32} {m_start : Int32} {m_token : Int32} {m_number : Int32} {m_letters : Int64} {m_isWrong : Int32} {m_sums : (Nat → Int32)} {m_steps : (Nat → Int32)} {m_chosen : Int32} {m_passed : (Nat → Int32)} {m_passedMany : Int32} {m_passedCost : Int32} {m_reach : (Nat → Int32)} {res : (Nat → Int32) × (Nat → Int32)} {q1 : (Int32 × (Nat → Int32)) ⊕ ((Nat → Int32) × (Nat → Int32))} (hb1 : ∀ b : Int32 × (Nat → Int32), q1 = .inl b → ∀ (H : Heap) (locs : List Loc) (ls : Array Slot), zW Z A (wX7 Z Am m_thrown b.2 m_saved m_savedMany m_aside m_sent m_text m_length m_way m_crossed m_wayCost m_isWay m_next m_start m_token m_number m_letters m_isWrong m_sums m_steps m_chosen m_passed m_passedMany m_passedCost m_reach) s.heap H locs → lv_has ls 3 [(0, .ref (Am 0)), (1, .int b.1)] → W p l e rmX7_round s m args below meth c H locs 0 0 (MQ below (zQv Z (wX7 Z Am m_thrown res.1 m_saved m_savedMany m_aside res.2 m_text m_length m_way m_crossed m_wayCost m_isWay m_next m_start m_token m_number m_letters m_isWrong m_sums m_steps m_chosen m_passed m_passedMany m_passedCost m_reach) A) args s 0 0 A) (F0 m 120 ls [])) (hr1 : ∀ r' , q1 = .inr r' → r' = res) : ∀ (n : Nat) (v2 : Int32) (m_s : (Nat → Int32)) (H : Heap) (locs : List Loc) (ls : Array Slot), iter (fun b : Int32 × (Nat → Int32) => sX7_round_132 v1 m_sent b.1 b.2) n (v2, m_s) = some q1 → zW Z A (wX7 Z Am m_thrown m_s m_saved m_savedMany m_aside m_sent m_text m_length m_way m_crossed m_wayCost m_isWay m_next m_start m_token m_number m_letters m_isWrong m_sums m_steps m_chosen m_passed m_passedMany m_passedCost m_reach) s.heap H locs → lv_has ls 3 [(0, .ref (Am 0)), (1, .int v1), (2, .int v2)] → W p l e rmX7_round s m args below meth c H locs 0 0 (MQ below (zQv Z (wX7 Z Am m_thrown res.1 m_saved m_savedMany m_aside res.2 m_text m_length m_way m_crossed m_wayCost m_isWay m_next m_start m_token m_number m_letters m_isWrong m_sums m_steps m_chosen m_passed m_passedMany m_passedCost m_reach) A) args s 0 0 A) (F0 m 132 ls []) := by
  intro n
  induction n with
  | zero => intro v2 m_s H locs ls h; cases h
  | succ n ih =>
    intro v2 m_s H locs ls h hw hl
    obtain ⟨q2, h, hn2, hr2⟩ := iter_out h
    have hb2 : ∀ b : Int32 × (Nat → Int32), q2 = .inl b → ∀ (H : Heap) (locs : List Loc) (ls : Array Slot), zW Z A (wX7 Z Am m_thrown b.2 m_saved m_savedMany m_aside m_sent m_text m_length m_way m_crossed m_wayCost m_isWay m_next m_start m_token m_number m_letters m_isWrong m_sums m_steps m_chosen m_passed m_passedMany m_passedCost m_reach) s.heap H locs → lv_has ls 3 [(0, .ref (Am 0)), (1, .int v1), (2, .int b.1)] → W p l e rmX7_round s m args below meth c H locs 0 0 (MQ below (zQv Z (wX7 Z Am m_thrown res.1 m_saved m_savedMany m_aside res.2 m_text m_length m_way m_crossed m_wayCost m_isWay m_next m_start m_token m_number m_letters m_isWrong m_sums m_steps m_chosen m_passed m_passedMany m_passedCost m_reach) A) args s 0 0 A) (F0 m 132 ls []) := fun b eb H locs ls hw hl => ih b.1 b.2 H locs ls (hn2 b eb) hw hl
    replace h : sX7_round_132 v1 m_sent v2 m_s = some q2 := h
    unfold sX7_round_132 at h
    refine r_iload_n E hl 2 rfl dX7_round_132 rfl ?_
    refine r_bipush E 35 dX7_round_133 (by decide) ?_
    refine r_icmp_ge E 150 dX7_round_135 (by decide) (fun hc => ?_) (fun hc => ?_)
    · replace h := ite_t hc h
      obtain ⟨ro7, h, hro7⟩ := oi_some h
      rw [hr2 _ hro7] at h
      exact vX7_round_150 E hb1 hr1 hw (lv_sub hl [0, 1] rfl) h
    · replace h := ite_f hc h
      refine r_aload_n E hl 0 rfl dX7_round_138 rfl ?_
      refine r_iload_n E hl 1 rfl dX7_round_139 rfl ?_
      refine r_iload_n E hl 2 rfl dX7_round_140 rfl ?_
      obtain ⟨y8, hy8, h⟩ := bd_some h
      refine r_callVAv E hw (mX7_receive l Z _ Am m_thrown m_s m_saved m_savedMany m_aside m_sent m_text m_length m_way m_crossed m_wayCost m_isWay m_next m_start m_token m_number m_letters m_isWrong m_sums m_steps m_chosen m_passed m_passedMany m_passedCost m_reach v1 v2 hy8) kL_X7_222 kI_X7_receive kS_X7_receive kN_X7 kC_X7_receive rfl rfl hdX7_receive ⟨Nat.le_of_ble_eq_true rfl, Nat.le_of_ble_eq_true rfl⟩ 0 rfl rfl rfl rfl hl [] rfl (Nat.le_of_ble_eq_true rfl) dX7_round_141 ⟨Nat.zero_le _, Nat.zero_le _⟩ (fun H locs hw => ?_)
      obtain ⟨w9, hw9, h⟩ := nm_out h
      refine r_iinc E w9 [(2, .int w9), (0, .ref (Am 0)), (1, .int v1)] hl (k := 2) rfl dX7_round_144 hw9.symm (by decide) rfl (fun ls hl => ?_)
      refine r_goto E 132 dX7_round_147 (by decide) ?_
      exact hb2 _ (Option.some.inj h).symm _ _ _ hw (lv_sub hl [1, 2, 0] rfl)
set_option maxRecDepth 100000 in
set_option maxHeartbeats 4000000 in
theorem tX7_round_120 {Z : zT} {p : Program} {l : Launch} {e : Env} {s : State} {m : MethodId} {args : Array Value} {below : List Frame} {meth : Method} {c : Code} {A : Nat → Prop} (E : zE Z p s m args meth c RX7 cX7_round 3 none A) {Am : Nat → Nat} {m_thrown : Int32} {m_saved : (Nat → Int32)} {m_savedMany : Int32} {m_aside : (Nat → Int32)} {m_sent : (Nat → Int32)} {m_text : (Nat → Int32)} {m_length : Int32} {m_way : (Nat → Int32)} {m_crossed : Int32} {m_wayCost : Int32} {m_isWay : Int32} {m_next : Int32} {m_start : Int32} {m_token : Int32} {m_number : Int32} {m_letters : Int64} {m_isWrong : Int32} {m_sums : (Nat → Int32)} {m_steps : (Nat → Int32)} {m_chosen : Int32} {m_passed : (Nat → Int32)} {m_passedMany : Int32} {m_passedCost : Int32} {m_reach : (Nat → Int32)} {res : (Nat → Int32) × (Nat → Int32)}  : ∀ (n : Nat) (v1 : Int32) (m_s : (Nat → Int32)) (H : Heap) (locs : List Loc) (ls : Array Slot), iter (fun b : Int32 × (Nat → Int32) => sX7_round_120 m_sent b.1 b.2) n (v1, m_s) = some res → zW Z A (wX7 Z Am m_thrown m_s m_saved m_savedMany m_aside m_sent m_text m_length m_way m_crossed m_wayCost m_isWay m_next m_start m_token m_number m_letters m_isWrong m_sums m_steps m_chosen m_passed m_passedMany m_passedCost m_reach) s.heap H locs → lv_has ls 3 [(0, .ref (Am 0)), (1, .int v1)] → W p l e rmX7_round s m args below meth c H locs 0 0 (MQ below (zQv Z (wX7 Z Am m_thrown res.1 m_saved m_savedMany m_aside res.2 m_text m_length m_way m_crossed m_wayCost m_isWay m_next m_start m_token m_number m_letters m_isWrong m_sums m_steps m_chosen m_passed m_passedMany m_passedCost m_reach) A) args s 0 0 A) (F0 m 120 ls []) := by
  intro n
  induction n with
  | zero => intro v1 m_s H locs ls h; cases h
  | succ n ih =>
    intro v1 m_s H locs ls h hw hl
    obtain ⟨q1, h, hn1, hr1⟩ := iter_out h
    have hb1 : ∀ b : Int32 × (Nat → Int32), q1 = .inl b → ∀ (H : Heap) (locs : List Loc) (ls : Array Slot), zW Z A (wX7 Z Am m_thrown b.2 m_saved m_savedMany m_aside m_sent m_text m_length m_way m_crossed m_wayCost m_isWay m_next m_start m_token m_number m_letters m_isWrong m_sums m_steps m_chosen m_passed m_passedMany m_passedCost m_reach) s.heap H locs → lv_has ls 3 [(0, .ref (Am 0)), (1, .int b.1)] → W p l e rmX7_round s m args below meth c H locs 0 0 (MQ below (zQv Z (wX7 Z Am m_thrown res.1 m_saved m_savedMany m_aside res.2 m_text m_length m_way m_crossed m_wayCost m_isWay m_next m_start m_token m_number m_letters m_isWrong m_sums m_steps m_chosen m_passed m_passedMany m_passedCost m_reach) A) args s 0 0 A) (F0 m 120 ls []) := fun b eb H locs ls hw hl => ih b.1 b.2 H locs ls (hn1 b eb) hw hl
    replace h : sX7_round_120 m_sent v1 m_s = some q1 := h
    unfold sX7_round_120 at h
    refine r_iload_n E hl 1 rfl dX7_round_120 rfl ?_
    refine r_aload_n E hl 0 rfl dX7_round_121 rfl ?_
    refine r_get E kW_X7 hw 0 rfl rfl 1 (by decide) kF_X7_7 rfl dX7_round_122 ?_
    refine r_iconst E 0 dX7_round_125 (by decide) ?_
    obtain ⟨hg4, h⟩ := gd_some h
    refine r_iald E hw 1 rfl hg4 dX7_round_126 ?_
    refine r_icmp_ge E 156 dX7_round_127 (by decide) (fun hc => ?_) (fun hc => ?_)
    · replace h := ite_t hc h
      obtain ⟨ro5, h, hro5⟩ := oi_some h
      rw [hr1 _ hro5] at h
      obtain rfl := Option.some.inj h
      exact r_vret E hw dX7_round_156
    · replace h := ite_f hc h
      refine r_iconst E 0 dX7_round_130 (by decide) ?_
      refine r_istore_n E [(2, .int (0 : Int32)), (0, .ref (Am 0)), (1, .int v1)] hl dX7_round_131 rfl (by decide) rfl (fun ls hl => ?_)
      obtain ⟨n10, h⟩ := wh_some h
      exact tX7_round_132 E hb1 hr1 n10 _ _ _ _ _ h hw (lv_sub hl [1, 2, 0] rfl)
set_option maxRecDepth 100000 in
set_option maxHeartbeats 4000000 in
theorem vX7_round_118 {Z : zT} {p : Program} {l : Launch} {e : Env} {s : State} {m : MethodId} {args : Array Value} {below : List Frame} {meth : Method} {c : Code} {A : Nat → Prop} (E : zE Z p s m args meth c RX7 cX7_round 3 none A) {Am : Nat → Nat} {m_thrown : Int32} {m_s : (Nat → Int32)} {m_saved : (Nat → Int32)} {m_savedMany : Int32} {m_aside : (Nat → Int32)} {m_sent : (Nat → Int32)} {m_text : (Nat → Int32)} {m_length : Int32} {m_way : (Nat → Int32)} {m_crossed : Int32} {m_wayCost : Int32} {m_isWay : Int32} {m_next : Int32} {m_start : Int32} {m_token : Int32} {m_number : Int32} {m_letters : Int64} {m_isWrong : Int32} {m_sums : (Nat → Int32)} {m_steps : (Nat → Int32)} {m_chosen : Int32} {m_passed : (Nat → Int32)} {m_passedMany : Int32} {m_passedCost : Int32} {m_reach : (Nat → Int32)} {res : (Nat → Int32) × (Nat → Int32)}  {H : Heap} {locs : List Loc} {ls : Array Slot} (hw : zW Z A (wX7 Z Am m_thrown m_s m_saved m_savedMany m_aside m_sent m_text m_length m_way m_crossed m_wayCost m_isWay m_next m_start m_token m_number m_letters m_isWrong m_sums m_steps m_chosen m_passed m_passedMany m_passedCost m_reach) s.heap H locs) (hl : lv_has ls 3 [(0, .ref (Am 0))]) (h : uX7_round_118 m_s m_sent = some res) : W p l e rmX7_round s m args below meth c H locs 0 0 (MQ below (zQv Z (wX7 Z Am m_thrown res.1 m_saved m_savedMany m_aside res.2 m_text m_length m_way m_crossed m_wayCost m_isWay m_next m_start m_token m_number m_letters m_isWrong m_sums m_steps m_chosen m_passed m_passedMany m_passedCost m_reach) A) args s 0 0 A) (F0 m 118 ls []) := by
  unfold uX7_round_118 at h
  refine r_iconst E 0 dX7_round_118 (by decide) ?_
  refine r_istore_n E [(1, .int (0 : Int32)), (0, .ref (Am 0))] hl dX7_round_119 rfl (by decide) rfl (fun ls hl => ?_)
  obtain ⟨n11, h⟩ := wh_some h
  exact tX7_round_120 E  n11 _ _ _ _ _ h hw (lv_sub hl [1, 0] rfl)
set_option maxRecDepth 100000 in
set_option maxHeartbeats 4000000 in
theorem vX7_round_112 {Z : zT} {p : Program} {l : Launch} {e : Env} {s : State} {m : MethodId} {args : Array Value} {below : List Frame} {meth : Method} {c : Code} {A : Nat → Prop} (E : zE Z p s m args meth c RX7 cX7_round 3 none A) {Am : Nat → Nat} {v1 : Int32} {m_thrown : Int32} {m_s : (Nat → Int32)} {m_saved : (Nat → Int32)} {m_savedMany : Int32} {m_aside : (Nat → Int32)} {m_sent : (Nat → Int32)} {m_text : (Nat → Int32)} {m_length : Int32} {m_way : (Nat → Int32)} {m_crossed : Int32} {m_wayCost : Int32} {m_isWay : Int32} {m_next : Int32} {m_start : Int32} {m_token : Int32} {m_number : Int32} {m_letters : Int64} {m_isWrong : Int32} {m_sums : (Nat → Int32)} {m_steps : (Nat → Int32)} {m_chosen : Int32} {m_passed : (Nat → Int32)} {m_passedMany : Int32} {m_passedCost : Int32} {m_reach : (Nat → Int32)} {res : (Nat → Int32) × (Nat → Int32)} {q1 : (Int32 × (Nat → Int32)) ⊕ ((Nat → Int32) × (Nat → Int32))} (hb1 : ∀ b : Int32 × (Nat → Int32), q1 = .inl b → ∀ (H : Heap) (locs : List Loc) (ls : Array Slot), zW Z A (wX7 Z Am m_thrown b.2 m_saved m_savedMany m_aside m_sent m_text m_length m_way m_crossed m_wayCost m_isWay m_next m_start m_token m_number m_letters m_isWrong m_sums m_steps m_chosen m_passed m_passedMany m_passedCost m_reach) s.heap H locs → lv_has ls 3 [(0, .ref (Am 0)), (1, .int b.1)] → W p l e rmX7_round s m args below meth c H locs 0 0 (MQ below (zQv Z (wX7 Z Am m_thrown res.1 m_saved m_savedMany m_aside res.2 m_text m_length m_way m_crossed m_wayCost m_isWay m_next m_start m_token m_number m_letters m_isWrong m_sums m_steps m_chosen m_passed m_passedMany m_passedCost m_reach) A) args s 0 0 A) (F0 m 75 ls [])) (hr1 : ∀ r' , q1 = .inr r' → r' = res) {H : Heap} {locs : List Loc} {ls : Array Slot} (hw : zW Z A (wX7 Z Am m_thrown m_s m_saved m_savedMany m_aside m_sent m_text m_length m_way m_crossed m_wayCost m_isWay m_next m_start m_token m_number m_letters m_isWrong m_sums m_steps m_chosen m_passed m_passedMany m_passedCost m_reach) s.heap H locs) (hl : lv_has ls 3 [(0, .ref (Am 0)), (1, .int v1)]) (h : uX7_round_112 v1 m_s = some q1) : W p l e rmX7_round s m args below meth c H locs 0 0 (MQ below (zQv Z (wX7 Z Am m_thrown res.1 m_saved m_savedMany m_aside res.2 m_text m_length m_way m_crossed m_wayCost m_isWay m_next m_start m_token m_number m_letters m_isWrong m_sums m_steps m_chosen m_passed m_passedMany m_passedCost m_reach) A) args s 0 0 A) (F0 m 112 ls []) := by
  unfold uX7_round_112 at h
  obtain ⟨w13, hw13, h⟩ := nm_out h
  refine r_iinc E w13 [(1, .int w13), (0, .ref (Am 0))] hl (k := 1) rfl dX7_round_112 hw13.symm (by decide) rfl (fun ls hl => ?_)
  refine r_goto E 75 dX7_round_115 (by decide) ?_
  exact hb1 _ (Option.some.inj h).symm _ _ _ hw (lv_sub hl [1, 0] rfl)
set_option maxRecDepth 100000 in
set_option maxHeartbeats 4000000 in
theorem tX7_round_87 {Z : zT} {p : Program} {l : Launch} {e : Env} {s : State} {m : MethodId} {args : Array Value} {below : List Frame} {meth : Method} {c : Code} {A : Nat → Prop} (E : zE Z p s m args meth c RX7 cX7_round 3 none A) {Am : Nat → Nat} {v1 : Int32} {m_thrown : Int32} {m_saved : (Nat → Int32)} {m_savedMany : Int32} {m_aside : (Nat → Int32)} {m_sent : (Nat → Int32)} {m_text : (Nat → Int32)} {m_length : Int32} {m_way : (Nat → Int32)} {m_crossed : Int32} {m_wayCost : Int32} {m_isWay : Int32} {m_next : Int32} {m_start : Int32} {m_token : Int32} {m_number : Int32} {m_letters : Int64} {m_isWrong : Int32} {m_sums : (Nat → Int32)} {m_steps : (Nat → Int32)} {m_chosen : Int32} {m_passed : (Nat → Int32)} {m_passedMany : Int32} {m_passedCost : Int32} {m_reach : (Nat → Int32)} {res : (Nat → Int32) × (Nat → Int32)} {q1 : (Int32 × (Nat → Int32)) ⊕ ((Nat → Int32) × (Nat → Int32))} (hb1 : ∀ b : Int32 × (Nat → Int32), q1 = .inl b → ∀ (H : Heap) (locs : List Loc) (ls : Array Slot), zW Z A (wX7 Z Am m_thrown b.2 m_saved m_savedMany m_aside m_sent m_text m_length m_way m_crossed m_wayCost m_isWay m_next m_start m_token m_number m_letters m_isWrong m_sums m_steps m_chosen m_passed m_passedMany m_passedCost m_reach) s.heap H locs → lv_has ls 3 [(0, .ref (Am 0)), (1, .int b.1)] → W p l e rmX7_round s m args below meth c H locs 0 0 (MQ below (zQv Z (wX7 Z Am m_thrown res.1 m_saved m_savedMany m_aside res.2 m_text m_length m_way m_crossed m_wayCost m_isWay m_next m_start m_token m_number m_letters m_isWrong m_sums m_steps m_chosen m_passed m_passedMany m_passedCost m_reach) A) args s 0 0 A) (F0 m 75 ls [])) (hr1 : ∀ r' , q1 = .inr r' → r' = res) : ∀ (n : Nat) (v2 : Int32) (m_s : (Nat → Int32)) (H : Heap) (locs : List Loc) (ls : Array Slot), iter (fun b : Int32 × (Nat → Int32) => sX7_round_87 v1 b.1 b.2) n (v2, m_s) = some q1 → zW Z A (wX7 Z Am m_thrown m_s m_saved m_savedMany m_aside m_sent m_text m_length m_way m_crossed m_wayCost m_isWay m_next m_start m_token m_number m_letters m_isWrong m_sums m_steps m_chosen m_passed m_passedMany m_passedCost m_reach) s.heap H locs → lv_has ls 3 [(0, .ref (Am 0)), (1, .int v1), (2, .int v2)] → W p l e rmX7_round s m args below meth c H locs 0 0 (MQ below (zQv Z (wX7 Z Am m_thrown res.1 m_saved m_savedMany m_aside res.2 m_text m_length m_way m_crossed m_wayCost m_isWay m_next m_start m_token m_number m_letters m_isWrong m_sums m_steps m_chosen m_passed m_passedMany m_passedCost m_reach) A) args s 0 0 A) (F0 m 87 ls []) := by
  intro n
  induction n with
  | zero => intro v2 m_s H locs ls h; cases h
  | succ n ih =>
    intro v2 m_s H locs ls h hw hl
    obtain ⟨q2, h, hn2, hr2⟩ := iter_out h
    have hb2 : ∀ b : Int32 × (Nat → Int32), q2 = .inl b → ∀ (H : Heap) (locs : List Loc) (ls : Array Slot), zW Z A (wX7 Z Am m_thrown b.2 m_saved m_savedMany m_aside m_sent m_text m_length m_way m_crossed m_wayCost m_isWay m_next m_start m_token m_number m_letters m_isWrong m_sums m_steps m_chosen m_passed m_passedMany m_passedCost m_reach) s.heap H locs → lv_has ls 3 [(0, .ref (Am 0)), (1, .int v1), (2, .int b.1)] → W p l e rmX7_round s m args below meth c H locs 0 0 (MQ below (zQv Z (wX7 Z Am m_thrown res.1 m_saved m_savedMany m_aside res.2 m_text m_length m_way m_crossed m_wayCost m_isWay m_next m_start m_token m_number m_letters m_isWrong m_sums m_steps m_chosen m_passed m_passedMany m_passedCost m_reach) A) args s 0 0 A) (F0 m 87 ls []) := fun b eb H locs ls hw hl => ih b.1 b.2 H locs ls (hn2 b eb) hw hl
    replace h : sX7_round_87 v1 v2 m_s = some q2 := h
    unfold sX7_round_87 at h
    refine r_iload_n E hl 2 rfl dX7_round_87 rfl ?_
    refine r_bipush E 35 dX7_round_88 (by decide) ?_
    refine r_icmp_ge E 112 dX7_round_90 (by decide) (fun hc => ?_) (fun hc => ?_)
    · replace h := ite_t hc h
      obtain ⟨ro14, h, hro14⟩ := oi_some h
      rw [hr2 _ hro14] at h
      exact vX7_round_112 E hb1 hr1 hw (lv_sub hl [0, 1] rfl) h
    · replace h := ite_f hc h
      refine r_aload_n E hl 0 rfl dX7_round_93 rfl ?_
      refine r_get E kW_X7 hw 0 rfl rfl 1 (by decide) kF_X7_7 rfl dX7_round_94 ?_
      refine r_iload_n E hl 1 rfl dX7_round_97 rfl ?_
      refine r_iload_n E hl 2 rfl dX7_round_98 rfl ?_
      obtain ⟨y15, hy15, h⟩ := bd_some h
      refine r_callS0i E hw (mX7_at l Z _ v1 v2 hy15) kL_X7_70 kT_X7_at kN_X7 kC_X7_at rfl rfl hdX7_at ⟨Nat.le_of_ble_eq_true rfl, Nat.le_of_ble_eq_true rfl⟩ rfl hl [.ref (Am 1)] rfl (Nat.le_of_ble_eq_true rfl) dX7_round_99 ⟨Nat.zero_le _, Nat.zero_le _⟩ (fun H locs hw => ?_)
      refine r_iconst E 3 dX7_round_102 (by decide) ?_
      refine r_iadd E dX7_round_103 ?_
      refine r_iconst E 0 dX7_round_104 (by decide) ?_
      obtain ⟨hg16, h⟩ := gd_some h
      refine r_iast E (wX7 Z Am m_thrown (upd m_s (y15 + (3 : Int32)).toNatClampNeg (0 : Int32)) m_saved m_savedMany m_aside m_sent m_text m_length m_way m_crossed m_wayCost m_isWay m_next m_start m_token m_number m_letters m_isWrong m_sums m_steps m_chosen m_passed m_passedMany m_passedCost m_reach) hw 1 rfl hg16 rfl dX7_round_105 (fun H locs hw => ?_)
      obtain ⟨w17, hw17, h⟩ := nm_out h
      refine r_iinc E w17 [(2, .int w17), (0, .ref (Am 0)), (1, .int v1)] hl (k := 2) rfl dX7_round_106 hw17.symm (by decide) rfl (fun ls hl => ?_)
      refine r_goto E 87 dX7_round_109 (by decide) ?_
      exact hb2 _ (Option.some.inj h).symm _ _ _ hw (lv_sub hl [1, 2, 0] rfl)
set_option maxRecDepth 100000 in
set_option maxHeartbeats 4000000 in
theorem tX7_round_75 {Z : zT} {p : Program} {l : Launch} {e : Env} {s : State} {m : MethodId} {args : Array Value} {below : List Frame} {meth : Method} {c : Code} {A : Nat → Prop} (E : zE Z p s m args meth c RX7 cX7_round 3 none A) {Am : Nat → Nat} {m_thrown : Int32} {m_saved : (Nat → Int32)} {m_savedMany : Int32} {m_aside : (Nat → Int32)} {m_sent : (Nat → Int32)} {m_text : (Nat → Int32)} {m_length : Int32} {m_way : (Nat → Int32)} {m_crossed : Int32} {m_wayCost : Int32} {m_isWay : Int32} {m_next : Int32} {m_start : Int32} {m_token : Int32} {m_number : Int32} {m_letters : Int64} {m_isWrong : Int32} {m_sums : (Nat → Int32)} {m_steps : (Nat → Int32)} {m_chosen : Int32} {m_passed : (Nat → Int32)} {m_passedMany : Int32} {m_passedCost : Int32} {m_reach : (Nat → Int32)} {res : (Nat → Int32) × (Nat → Int32)}  : ∀ (n : Nat) (v1 : Int32) (m_s : (Nat → Int32)) (H : Heap) (locs : List Loc) (ls : Array Slot), iter (fun b : Int32 × (Nat → Int32) => sX7_round_75 m_sent b.1 b.2) n (v1, m_s) = some res → zW Z A (wX7 Z Am m_thrown m_s m_saved m_savedMany m_aside m_sent m_text m_length m_way m_crossed m_wayCost m_isWay m_next m_start m_token m_number m_letters m_isWrong m_sums m_steps m_chosen m_passed m_passedMany m_passedCost m_reach) s.heap H locs → lv_has ls 3 [(0, .ref (Am 0)), (1, .int v1)] → W p l e rmX7_round s m args below meth c H locs 0 0 (MQ below (zQv Z (wX7 Z Am m_thrown res.1 m_saved m_savedMany m_aside res.2 m_text m_length m_way m_crossed m_wayCost m_isWay m_next m_start m_token m_number m_letters m_isWrong m_sums m_steps m_chosen m_passed m_passedMany m_passedCost m_reach) A) args s 0 0 A) (F0 m 75 ls []) := by
  intro n
  induction n with
  | zero => intro v1 m_s H locs ls h; cases h
  | succ n ih =>
    intro v1 m_s H locs ls h hw hl
    obtain ⟨q1, h, hn1, hr1⟩ := iter_out h
    have hb1 : ∀ b : Int32 × (Nat → Int32), q1 = .inl b → ∀ (H : Heap) (locs : List Loc) (ls : Array Slot), zW Z A (wX7 Z Am m_thrown b.2 m_saved m_savedMany m_aside m_sent m_text m_length m_way m_crossed m_wayCost m_isWay m_next m_start m_token m_number m_letters m_isWrong m_sums m_steps m_chosen m_passed m_passedMany m_passedCost m_reach) s.heap H locs → lv_has ls 3 [(0, .ref (Am 0)), (1, .int b.1)] → W p l e rmX7_round s m args below meth c H locs 0 0 (MQ below (zQv Z (wX7 Z Am m_thrown res.1 m_saved m_savedMany m_aside res.2 m_text m_length m_way m_crossed m_wayCost m_isWay m_next m_start m_token m_number m_letters m_isWrong m_sums m_steps m_chosen m_passed m_passedMany m_passedCost m_reach) A) args s 0 0 A) (F0 m 75 ls []) := fun b eb H locs ls hw hl => ih b.1 b.2 H locs ls (hn1 b eb) hw hl
    replace h : sX7_round_75 m_sent v1 m_s = some q1 := h
    unfold sX7_round_75 at h
    refine r_iload_n E hl 1 rfl dX7_round_75 rfl ?_
    refine r_aload_n E hl 0 rfl dX7_round_76 rfl ?_
    refine r_get E kW_X7 hw 0 rfl rfl 1 (by decide) kF_X7_7 rfl dX7_round_77 ?_
    refine r_iconst E 0 dX7_round_80 (by decide) ?_
    obtain ⟨hg3, h⟩ := gd_some h
    refine r_iald E hw 1 rfl hg3 dX7_round_81 ?_
    refine r_icmp_ge E 118 dX7_round_82 (by decide) (fun hc => ?_) (fun hc => ?_)
    · replace h := ite_t hc h
      obtain ⟨ro12, h, hro12⟩ := oi_some h
      rw [hr1 _ hro12] at h
      exact vX7_round_118 E  hw (lv_sub hl [0] rfl) h
    · replace h := ite_f hc h
      refine r_iconst E 0 dX7_round_85 (by decide) ?_
      refine r_istore_n E [(2, .int (0 : Int32)), (0, .ref (Am 0)), (1, .int v1)] hl dX7_round_86 rfl (by decide) rfl (fun ls hl => ?_)
      obtain ⟨n18, h⟩ := wh_some h
      exact tX7_round_87 E hb1 hr1 n18 _ _ _ _ _ h hw (lv_sub hl [1, 2, 0] rfl)
set_option maxRecDepth 100000 in
set_option maxHeartbeats 4000000 in
theorem vX7_round_73 {Z : zT} {p : Program} {l : Launch} {e : Env} {s : State} {m : MethodId} {args : Array Value} {below : List Frame} {meth : Method} {c : Code} {A : Nat → Prop} (E : zE Z p s m args meth c RX7 cX7_round 3 none A) {Am : Nat → Nat} {m_thrown : Int32} {m_s : (Nat → Int32)} {m_saved : (Nat → Int32)} {m_savedMany : Int32} {m_aside : (Nat → Int32)} {m_sent : (Nat → Int32)} {m_text : (Nat → Int32)} {m_length : Int32} {m_way : (Nat → Int32)} {m_crossed : Int32} {m_wayCost : Int32} {m_isWay : Int32} {m_next : Int32} {m_start : Int32} {m_token : Int32} {m_number : Int32} {m_letters : Int64} {m_isWrong : Int32} {m_sums : (Nat → Int32)} {m_steps : (Nat → Int32)} {m_chosen : Int32} {m_passed : (Nat → Int32)} {m_passedMany : Int32} {m_passedCost : Int32} {m_reach : (Nat → Int32)} {res : (Nat → Int32) × (Nat → Int32)}  {H : Heap} {locs : List Loc} {ls : Array Slot} (hw : zW Z A (wX7 Z Am m_thrown m_s m_saved m_savedMany m_aside m_sent m_text m_length m_way m_crossed m_wayCost m_isWay m_next m_start m_token m_number m_letters m_isWrong m_sums m_steps m_chosen m_passed m_passedMany m_passedCost m_reach) s.heap H locs) (hl : lv_has ls 3 [(0, .ref (Am 0))]) (h : uX7_round_73 m_s m_sent = some res) : W p l e rmX7_round s m args below meth c H locs 0 0 (MQ below (zQv Z (wX7 Z Am m_thrown res.1 m_saved m_savedMany m_aside res.2 m_text m_length m_way m_crossed m_wayCost m_isWay m_next m_start m_token m_number m_letters m_isWrong m_sums m_steps m_chosen m_passed m_passedMany m_passedCost m_reach) A) args s 0 0 A) (F0 m 73 ls []) := by
  unfold uX7_round_73 at h
  refine r_iconst E 0 dX7_round_73 (by decide) ?_
  refine r_istore_n E [(1, .int (0 : Int32)), (0, .ref (Am 0))] hl dX7_round_74 rfl (by decide) rfl (fun ls hl => ?_)
  obtain ⟨n19, h⟩ := wh_some h
  exact tX7_round_75 E  n19 _ _ _ _ _ h hw (lv_sub hl [1, 0] rfl)
set_option maxRecDepth 100000 in
set_option maxHeartbeats 4000000 in
theorem vX7_round_65 {Z : zT} {p : Program} {l : Launch} {e : Env} {s : State} {m : MethodId} {args : Array Value} {below : List Frame} {meth : Method} {c : Code} {A : Nat → Prop} (E : zE Z p s m args meth c RX7 cX7_round 3 none A) {Am : Nat → Nat} {v1 : Int32} {k1 : Int32} {k2 : Int32} {k3 : Int32} {m_thrown : Int32} {m_s : (Nat → Int32)} {m_saved : (Nat → Int32)} {m_savedMany : Int32} {m_aside : (Nat → Int32)} {m_sent : (Nat → Int32)} {m_text : (Nat → Int32)} {m_length : Int32} {m_way : (Nat → Int32)} {m_crossed : Int32} {m_wayCost : Int32} {m_isWay : Int32} {m_next : Int32} {m_start : Int32} {m_token : Int32} {m_number : Int32} {m_letters : Int64} {m_isWrong : Int32} {m_sums : (Nat → Int32)} {m_steps : (Nat → Int32)} {m_chosen : Int32} {m_passed : (Nat → Int32)} {m_passedMany : Int32} {m_passedCost : Int32} {m_reach : (Nat → Int32)} {res : (Nat → Int32) × (Nat → Int32)} {q1 : (Int32 × (Nat → Int32)) ⊕ ((Nat → Int32) × (Nat → Int32))} (hb1 : ∀ b : Int32 × (Nat → Int32), q1 = .inl b → ∀ (H : Heap) (locs : List Loc) (ls : Array Slot), zW Z A (wX7 Z Am m_thrown b.2 m_saved m_savedMany m_aside m_sent m_text m_length m_way m_crossed m_wayCost m_isWay m_next m_start m_token m_number m_letters m_isWrong m_sums m_steps m_chosen m_passed m_passedMany m_passedCost m_reach) s.heap H locs → lv_has ls 3 [(0, .ref (Am 0)), (1, .int b.1)] → W p l e rmX7_round s m args below meth c H locs 0 0 (MQ below (zQv Z (wX7 Z Am m_thrown res.1 m_saved m_savedMany m_aside res.2 m_text m_length m_way m_crossed m_wayCost m_isWay m_next m_start m_token m_number m_letters m_isWrong m_sums m_steps m_chosen m_passed m_passedMany m_passedCost m_reach) A) args s 0 0 A) (F0 m 14 ls [])) (hr1 : ∀ r' , q1 = .inr r' → r' = res) {H : Heap} {locs : List Loc} {ls : Array Slot} (hw : zW Z A (wX7 Z Am m_thrown m_s m_saved m_savedMany m_aside m_sent m_text m_length m_way m_crossed m_wayCost m_isWay m_next m_start m_token m_number m_letters m_isWrong m_sums m_steps m_chosen m_passed m_passedMany m_passedCost m_reach) s.heap H locs) (hl : lv_has ls 3 [(0, .ref (Am 0)), (1, .int v1)]) (h : uX7_round_65 v1 k1 k2 k3 m_s = some q1) : W p l e rmX7_round s m args below meth c H locs 0 0 (MQ below (zQv Z (wX7 Z Am m_thrown res.1 m_saved m_savedMany m_aside res.2 m_text m_length m_way m_crossed m_wayCost m_isWay m_next m_start m_token m_number m_letters m_isWrong m_sums m_steps m_chosen m_passed m_passedMany m_passedCost m_reach) A) args s 0 0 A) (F0 m 65 ls [.int k3, .int k2, .int k1, .ref (Am 1)]) := by
  unfold uX7_round_65 at h
  refine r_iadd E dX7_round_65 ?_
  obtain ⟨hg27, h⟩ := gd_some h
  refine r_iast E (wX7 Z Am m_thrown (upd m_s (k1).toNatClampNeg (k2 + k3)) m_saved m_savedMany m_aside m_sent m_text m_length m_way m_crossed m_wayCost m_isWay m_next m_start m_token m_number m_letters m_isWrong m_sums m_steps m_chosen m_passed m_passedMany m_passedCost m_reach) hw 1 rfl hg27 rfl dX7_round_66 (fun H locs hw => ?_)
  obtain ⟨w28, hw28, h⟩ := nm_out h
  refine r_iinc E w28 [(1, .int w28), (0, .ref (Am 0))] hl (k := 1) rfl dX7_round_67 hw28.symm (by decide) rfl (fun ls hl => ?_)
  refine r_goto E 14 dX7_round_70 (by decide) ?_
  exact hb1 _ (Option.some.inj h).symm _ _ _ hw (lv_sub hl [1, 0] rfl)
set_option maxRecDepth 100000 in
set_option maxHeartbeats 4000000 in
theorem tX7_round_14 {Z : zT} {p : Program} {l : Launch} {e : Env} {s : State} {m : MethodId} {args : Array Value} {below : List Frame} {meth : Method} {c : Code} {A : Nat → Prop} (E : zE Z p s m args meth c RX7 cX7_round 3 none A) {Am : Nat → Nat} {m_thrown : Int32} {m_saved : (Nat → Int32)} {m_savedMany : Int32} {m_aside : (Nat → Int32)} {m_sent : (Nat → Int32)} {m_text : (Nat → Int32)} {m_length : Int32} {m_way : (Nat → Int32)} {m_crossed : Int32} {m_wayCost : Int32} {m_isWay : Int32} {m_next : Int32} {m_start : Int32} {m_token : Int32} {m_number : Int32} {m_letters : Int64} {m_isWrong : Int32} {m_sums : (Nat → Int32)} {m_steps : (Nat → Int32)} {m_chosen : Int32} {m_passed : (Nat → Int32)} {m_passedMany : Int32} {m_passedCost : Int32} {m_reach : (Nat → Int32)} {res : (Nat → Int32) × (Nat → Int32)}  : ∀ (n : Nat) (v1 : Int32) (m_s : (Nat → Int32)) (H : Heap) (locs : List Loc) (ls : Array Slot), iter (fun b : Int32 × (Nat → Int32) => sX7_round_14 m_sent b.1 b.2) n (v1, m_s) = some res → zW Z A (wX7 Z Am m_thrown m_s m_saved m_savedMany m_aside m_sent m_text m_length m_way m_crossed m_wayCost m_isWay m_next m_start m_token m_number m_letters m_isWrong m_sums m_steps m_chosen m_passed m_passedMany m_passedCost m_reach) s.heap H locs → lv_has ls 3 [(0, .ref (Am 0)), (1, .int v1)] → W p l e rmX7_round s m args below meth c H locs 0 0 (MQ below (zQv Z (wX7 Z Am m_thrown res.1 m_saved m_savedMany m_aside res.2 m_text m_length m_way m_crossed m_wayCost m_isWay m_next m_start m_token m_number m_letters m_isWrong m_sums m_steps m_chosen m_passed m_passedMany m_passedCost m_reach) A) args s 0 0 A) (F0 m 14 ls []) := by
  intro n
  induction n with
  | zero => intro v1 m_s H locs ls h; cases h
  | succ n ih =>
    intro v1 m_s H locs ls h hw hl
    obtain ⟨q1, h, hn1, hr1⟩ := iter_out h
    have hb1 : ∀ b : Int32 × (Nat → Int32), q1 = .inl b → ∀ (H : Heap) (locs : List Loc) (ls : Array Slot), zW Z A (wX7 Z Am m_thrown b.2 m_saved m_savedMany m_aside m_sent m_text m_length m_way m_crossed m_wayCost m_isWay m_next m_start m_token m_number m_letters m_isWrong m_sums m_steps m_chosen m_passed m_passedMany m_passedCost m_reach) s.heap H locs → lv_has ls 3 [(0, .ref (Am 0)), (1, .int b.1)] → W p l e rmX7_round s m args below meth c H locs 0 0 (MQ below (zQv Z (wX7 Z Am m_thrown res.1 m_saved m_savedMany m_aside res.2 m_text m_length m_way m_crossed m_wayCost m_isWay m_next m_start m_token m_number m_letters m_isWrong m_sums m_steps m_chosen m_passed m_passedMany m_passedCost m_reach) A) args s 0 0 A) (F0 m 14 ls []) := fun b eb H locs ls hw hl => ih b.1 b.2 H locs ls (hn1 b eb) hw hl
    replace h : sX7_round_14 m_sent v1 m_s = some q1 := h
    unfold sX7_round_14 at h
    refine r_iload_n E hl 1 rfl dX7_round_14 rfl ?_
    refine r_aload_n E hl 0 rfl dX7_round_15 rfl ?_
    refine r_get E kW_X7 hw 0 rfl rfl 1 (by decide) kF_X7_7 rfl dX7_round_16 ?_
    refine r_iconst E 1 dX7_round_19 (by decide) ?_
    obtain ⟨hg2, h⟩ := gd_some h
    refine r_iald E hw 1 rfl hg2 dX7_round_20 ?_
    refine r_icmp_ge E 73 dX7_round_21 (by decide) (fun hc => ?_) (fun hc => ?_)
    · replace h := ite_t hc h
      obtain ⟨ro20, h, hro20⟩ := oi_some h
      rw [hr1 _ hro20] at h
      exact vX7_round_73 E  hw (lv_sub hl [0] rfl) h
    · replace h := ite_f hc h
      refine r_aload_n E hl 0 rfl dX7_round_24 rfl ?_
      refine r_get E kW_X7 hw 0 rfl rfl 1 (by decide) kF_X7_7 rfl dX7_round_25 ?_
      refine r_iconst E 3 dX7_round_28 (by decide) ?_
      refine r_dup2 E dX7_round_29 rfl rfl ?_
      obtain ⟨hg21, h⟩ := gd_some h
      refine r_iald E hw 1 rfl hg21 dX7_round_30 ?_
      refine r_aload_n E hl 0 rfl dX7_round_31 rfl ?_
      refine r_iload_n E hl 1 rfl dX7_round_32 rfl ?_
      refine r_iconst E 3 dX7_round_33 (by decide) ?_
      obtain ⟨y22, hy22, h⟩ := bd_some h
      refine r_callVAi E hw (mX7_linkPart l Z _ Am m_thrown m_s m_saved m_savedMany m_aside m_sent m_text m_length m_way m_crossed m_wayCost m_isWay m_next m_start m_token m_number m_letters m_isWrong m_sums m_steps m_chosen m_passed m_passedMany m_passedCost m_reach v1 (3 : Int32) hy22) kL_X7_62 kI_X7_linkPart kS_X7_linkPart kN_X7 kC_X7_linkPart rfl rfl hdX7_linkPart ⟨Nat.le_of_ble_eq_true rfl, Nat.le_of_ble_eq_true rfl⟩ 0 rfl rfl rfl rfl hl [.int (m_s ((3 : Int32)).toNatClampNeg), .int (3 : Int32), .ref (Am 1)] rfl (Nat.le_of_ble_eq_true rfl) dX7_round_34 ⟨Nat.zero_le _, Nat.zero_le _⟩ (fun H locs hw => ?_)
      refine r_if_ne E 44 dX7_round_37 (by decide) (fun hc => ?_) (fun hc => ?_)
      · replace h := ite_f hc h
        refine r_aload_n E hl 0 rfl dX7_round_44 rfl ?_
        refine r_aload_n E hl 0 rfl dX7_round_45 rfl ?_
        refine r_iload_n E hl 1 rfl dX7_round_46 rfl ?_
        refine r_iconst E 0 dX7_round_47 (by decide) ?_
        obtain ⟨y23, hy23, h⟩ := bd_some h
        refine r_callVAi E hw (mX7_linkPart l Z _ Am m_thrown m_s m_saved m_savedMany m_aside m_sent m_text m_length m_way m_crossed m_wayCost m_isWay m_next m_start m_token m_number m_letters m_isWrong m_sums m_steps m_chosen m_passed m_passedMany m_passedCost m_reach v1 (0 : Int32) hy23) kL_X7_62 kI_X7_linkPart kS_X7_linkPart kN_X7 kC_X7_linkPart rfl rfl hdX7_linkPart ⟨Nat.le_of_ble_eq_true rfl, Nat.le_of_ble_eq_true rfl⟩ 0 rfl rfl rfl rfl hl [.ref (Am 0), .int (m_s ((3 : Int32)).toNatClampNeg), .int (3 : Int32), .ref (Am 1)] rfl (Nat.le_of_ble_eq_true rfl) dX7_round_48 ⟨Nat.zero_le _, Nat.zero_le _⟩ (fun H locs hw => ?_)
        obtain ⟨y24, hy24, h⟩ := bd_some h
        refine r_callVAi E hw (mX7_newsOf l Z _ Am m_thrown m_s m_saved m_savedMany m_aside m_sent m_text m_length m_way m_crossed m_wayCost m_isWay m_next m_start m_token m_number m_letters m_isWrong m_sums m_steps m_chosen m_passed m_passedMany m_passedCost m_reach y23 hy24) kL_X7_216 kI_X7_newsOf kS_X7_newsOf kN_X7 kC_X7_newsOf rfl rfl hdX7_newsOf ⟨Nat.le_of_ble_eq_true rfl, Nat.le_of_ble_eq_true rfl⟩ 0 rfl rfl rfl rfl hl [.int (m_s ((3 : Int32)).toNatClampNeg), .int (3 : Int32), .ref (Am 1)] rfl (Nat.le_of_ble_eq_true rfl) dX7_round_51 ⟨Nat.zero_le _, Nat.zero_le _⟩ (fun H locs hw => ?_)
        refine r_aload_n E hl 0 rfl dX7_round_54 rfl ?_
        refine r_aload_n E hl 0 rfl dX7_round_55 rfl ?_
        refine r_iload_n E hl 1 rfl dX7_round_56 rfl ?_
        refine r_iconst E 1 dX7_round_57 (by decide) ?_
        obtain ⟨y25, hy25, h⟩ := bd_some h
        refine r_callVAi E hw (mX7_linkPart l Z _ Am m_thrown m_s m_saved m_savedMany m_aside m_sent m_text m_length m_way m_crossed m_wayCost m_isWay m_next m_start m_token m_number m_letters m_isWrong m_sums m_steps m_chosen m_passed m_passedMany m_passedCost m_reach v1 (1 : Int32) hy25) kL_X7_62 kI_X7_linkPart kS_X7_linkPart kN_X7 kC_X7_linkPart rfl rfl hdX7_linkPart ⟨Nat.le_of_ble_eq_true rfl, Nat.le_of_ble_eq_true rfl⟩ 0 rfl rfl rfl rfl hl [.ref (Am 0), .int y24, .int (m_s ((3 : Int32)).toNatClampNeg), .int (3 : Int32), .ref (Am 1)] rfl (Nat.le_of_ble_eq_true rfl) dX7_round_58 ⟨Nat.zero_le _, Nat.zero_le _⟩ (fun H locs hw => ?_)
        obtain ⟨y26, hy26, h⟩ := bd_some h
        refine r_callVAi E hw (mX7_newsOf l Z _ Am m_thrown m_s m_saved m_savedMany m_aside m_sent m_text m_length m_way m_crossed m_wayCost m_isWay m_next m_start m_token m_number m_letters m_isWrong m_sums m_steps m_chosen m_passed m_passedMany m_passedCost m_reach y25 hy26) kL_X7_216 kI_X7_newsOf kS_X7_newsOf kN_X7 kC_X7_newsOf rfl rfl hdX7_newsOf ⟨Nat.le_of_ble_eq_true rfl, Nat.le_of_ble_eq_true rfl⟩ 0 rfl rfl rfl rfl hl [.int y24, .int (m_s ((3 : Int32)).toNatClampNeg), .int (3 : Int32), .ref (Am 1)] rfl (Nat.le_of_ble_eq_true rfl) dX7_round_61 ⟨Nat.zero_le _, Nat.zero_le _⟩ (fun H locs hw => ?_)
        refine r_iadd E dX7_round_64 ?_
        exact vX7_round_65 E hb1 hr1 hw hl h
      · replace h := ite_t hc h
        refine r_iconst E 0 dX7_round_40 (by decide) ?_
        refine r_goto E 65 dX7_round_41 (by decide) ?_
        exact vX7_round_65 E hb1 hr1 hw hl h
set_option maxRecDepth 100000 in
set_option maxHeartbeats 4000000 in
theorem mX7_round (l : Launch) (Z : zT) (sz : Nat) (Am : Nat → Nat) (m_thrown : Int32) (m_s : (Nat → Int32)) (m_saved : (Nat → Int32)) (m_savedMany : Int32) (m_aside : (Nat → Int32)) (m_sent : (Nat → Int32)) (m_text : (Nat → Int32)) (m_length : Int32) (m_way : (Nat → Int32)) (m_crossed : Int32) (m_wayCost : Int32) (m_isWay : Int32) (m_next : Int32) (m_start : Int32) (m_token : Int32) (m_number : Int32) (m_letters : Int64) (m_isWrong : Int32) (m_sums : (Nat → Int32)) (m_steps : (Nat → Int32)) (m_chosen : Int32) (m_passed : (Nat → Int32)) (m_passedMany : Int32) (m_passedCost : Int32) (m_reach : (Nat → Int32))  {res : (Nat → Int32) × (Nat → Int32)} (h : fX7_round m_s m_sent = some res) : Met l yX7_round (Cond.code yX7_round cX7_round 3 none :: zWs) rmX7_round (zP Z (wX7 Z Am m_thrown m_s m_saved m_savedMany m_aside m_sent m_text m_length m_way m_crossed m_wayCost m_isWay m_next m_start m_token m_number m_letters m_isWrong m_sums m_steps m_chosen m_passed m_passedMany m_passedCost m_reach) sz [.ref (Am 0)]) (zQv Z (wX7 Z Am m_thrown res.1 m_saved m_savedMany m_aside res.2 m_text m_length m_way m_crossed m_wayCost m_isWay m_next m_start m_token m_number m_letters m_isWrong m_sums m_steps m_chosen m_passed m_passedMany m_passedCost m_reach) (va_A (wX7 Z Am m_thrown m_s m_saved m_savedMany m_aside m_sent m_text m_length m_way m_crossed m_wayCost m_isWay m_next m_start m_token m_number m_letters m_isWrong m_sums m_steps m_chosen m_passed m_passedMany m_passedCost m_reach) sz)) 0 0 (va_A (wX7 Z Am m_thrown m_s m_saved m_savedMany m_aside m_sent m_text m_length m_way m_crossed m_wayCost m_isWay m_next m_start m_token m_number m_letters m_isWrong m_sums m_steps m_chosen m_passed m_passedMany m_passedCost m_reach) sz) := by
  refine zMet (own := RX7) (fun A => zQv Z (wX7 Z Am m_thrown res.1 m_saved m_savedMany m_aside res.2 m_text m_length m_way m_crossed m_wayCost m_isWay m_next m_start m_token m_number m_letters m_isWrong m_sums m_steps m_chosen m_passed m_passedMany m_passedCost m_reach) A) (by decide) rfl (Nat.le_of_ble_eq_true rfl) ?_
  intro p e s m args below meth c ls A E hw hl
  unfold fX7_round at h
  refine r_aload_n E hl 0 rfl dX7_round_0 rfl ?_
  refine r_aload_n E hl 0 rfl dX7_round_1 rfl ?_
  refine r_get E kW_X7 hw 0 rfl rfl 5 (by decide) kF_X7_19 rfl dX7_round_2 ?_
  refine r_aload_n E hl 0 rfl dX7_round_5 rfl ?_
  refine r_get E kW_X7 hw 0 rfl rfl 1 (by decide) kF_X7_7 rfl dX7_round_6 ?_
  obtain ⟨y1, hy1, h⟩ := bd_some h
  refine r_callVAv E hw (mX7_copy_sent_s l Z _ Am m_thrown m_s m_saved m_savedMany m_aside m_sent m_text m_length m_way m_crossed m_wayCost m_isWay m_next m_start m_token m_number m_letters m_isWrong m_sums m_steps m_chosen m_passed m_passedMany m_passedCost m_reach hy1) kL_X7_51 kI_X7_copy kS_X7_copy kN_X7 kC_X7_copy rfl rfl hdX7_copy ⟨Nat.le_of_ble_eq_true rfl, Nat.le_of_ble_eq_true rfl⟩ 0 rfl rfl rfl rfl hl [] rfl (Nat.le_of_ble_eq_true rfl) dX7_round_9 ⟨Nat.zero_le _, Nat.zero_le _⟩ (fun H locs hw => ?_)
  refine r_iconst E 0 dX7_round_12 (by decide) ?_
  refine r_istore_n E [(1, .int (0 : Int32)), (0, .ref (Am 0))] hl dX7_round_13 rfl (by decide) rfl (fun ls hl => ?_)
  obtain ⟨n29, h⟩ := wh_some h
  exact tX7_round_14 E  n29 _ _ _ _ _ h hw (lv_sub hl [1, 0] rfl)
abbrev rmX7_step : Room := { frames := 7, cells := 0, slots := 0, locals := 167 }

set_option maxRecDepth 100000 in
set_option maxHeartbeats 4000000 in
theorem vX7_step_55 {Z : zT} {p : Program} {l : Launch} {e : Env} {s : State} {m : MethodId} {args : Array Value} {below : List Frame} {meth : Method} {c : Code} {A : Nat → Prop} (E : zE Z p s m args meth c RX7 cX7_step 4 (some .int) A) {Am : Nat → Nat} {v2 : Int32} {m_thrown : Int32} {m_s : (Nat → Int32)} {m_saved : (Nat → Int32)} {m_savedMany : Int32} {m_aside : (Nat → Int32)} {m_sent : (Nat → Int32)} {m_text : (Nat → Int32)} {m_length : Int32} {m_way : (Nat → Int32)} {m_crossed : Int32} {m_wayCost : Int32} {m_isWay : Int32} {m_next : Int32} {m_start : Int32} {m_token : Int32} {m_number : Int32} {m_letters : Int64} {m_isWrong : Int32} {m_sums : (Nat → Int32)} {m_steps : (Nat → Int32)} {m_chosen : Int32} {m_passed : (Nat → Int32)} {m_passedMany : Int32} {m_passedCost : Int32} {m_reach : (Nat → Int32)} {res : Int32 × Int32 × (Nat → Int32) × (Nat → Int32) × Int32 × (Nat → Int32) × (Nat → Int32) × Int32}  {H : Heap} {locs : List Loc} {ls : Array Slot} (hw : zW Z A (wX7 Z Am m_thrown m_s m_saved m_savedMany m_aside m_sent m_text m_length m_way m_crossed m_wayCost m_isWay m_next m_start m_token m_number m_letters m_isWrong m_sums m_steps m_chosen m_passed m_passedMany m_passedCost m_reach) s.heap H locs) (hl : lv_has ls 4 [(0, .ref (Am 0)), (2, .int v2)]) (h : uX7_step_55 v2 m_thrown m_s m_saved m_savedMany m_aside m_sent m_isWay = some res) : W p l e rmX7_step s m args below meth c H locs 0 0 (MQ below (zQi Z res.1 (wX7 Z Am res.2.1 res.2.2.1 res.2.2.2.1 res.2.2.2.2.1 res.2.2.2.2.2.1 res.2.2.2.2.2.2.1 m_text m_length m_way m_crossed m_wayCost res.2.2.2.2.2.2.2 m_next m_start m_token m_number m_letters m_isWrong m_sums m_steps m_chosen m_passed m_passedMany m_passedCost m_reach) A) args s 0 0 A) (F0 m 55 ls []) := by
  unfold uX7_step_55 at h
  refine r_aload_n E hl 0 rfl dX7_step_55 rfl ?_
  refine r_get E kW_X7 hw 0 rfl rfl 1 (by decide) kF_X7_7 rfl dX7_step_56 ?_
  refine r_iconst E 3 dX7_step_59 (by decide) ?_
  obtain ⟨hg6, h⟩ := gd_some h
  refine r_iald E hw 1 rfl hg6 dX7_step_60 ?_
  refine r_iload_n E hl 1 rfl dX7_step_61 rfl ?_
  refine r_isub E dX7_step_62 ?_
  obtain rfl := Option.some.inj h
  exact r_iret E hw dX7_step_63
set_option maxRecDepth 100000 in
set_option maxHeartbeats 4000000 in
theorem tX7_step_40 {Z : zT} {p : Program} {l : Launch} {e : Env} {s : State} {m : MethodId} {args : Array Value} {below : List Frame} {meth : Method} {c : Code} {A : Nat → Prop} (E : zE Z p s m args meth c RX7 cX7_step 4 (some .int) A) {Am : Nat → Nat} {v1 : Int32} {v2 : Int32} {m_thrown : Int32} {m_saved : (Nat → Int32)} {m_savedMany : Int32} {m_aside : (Nat → Int32)} {m_text : (Nat → Int32)} {m_length : Int32} {m_way : (Nat → Int32)} {m_crossed : Int32} {m_wayCost : Int32} {m_isWay : Int32} {m_next : Int32} {m_start : Int32} {m_token : Int32} {m_number : Int32} {m_letters : Int64} {m_isWrong : Int32} {m_sums : (Nat → Int32)} {m_steps : (Nat → Int32)} {m_chosen : Int32} {m_passed : (Nat → Int32)} {m_passedMany : Int32} {m_passedCost : Int32} {m_reach : (Nat → Int32)} {res : Int32 × Int32 × (Nat → Int32) × (Nat → Int32) × Int32 × (Nat → Int32) × (Nat → Int32) × Int32}  : ∀ (n : Nat) (v3 : Int32) (m_s : (Nat → Int32)) (m_sent : (Nat → Int32)) (H : Heap) (locs : List Loc) (ls : Array Slot), iter (fun b : Int32 × (Nat → Int32) × (Nat → Int32) => sX7_step_40 v1 v2 m_thrown m_saved m_savedMany m_aside m_isWay b.1 b.2.1 b.2.2) n (v3, m_s, m_sent) = some res → zW Z A (wX7 Z Am m_thrown m_s m_saved m_savedMany m_aside m_sent m_text m_length m_way m_crossed m_wayCost m_isWay m_next m_start m_token m_number m_letters m_isWrong m_sums m_steps m_chosen m_passed m_passedMany m_passedCost m_reach) s.heap H locs → lv_has ls 4 [(0, .ref (Am 0)), (1, .int v1), (2, .int v2), (3, .int v3)] → W p l e rmX7_step s m args below meth c H locs 0 0 (MQ below (zQi Z res.1 (wX7 Z Am res.2.1 res.2.2.1 res.2.2.2.1 res.2.2.2.2.1 res.2.2.2.2.2.1 res.2.2.2.2.2.2.1 m_text m_length m_way m_crossed m_wayCost res.2.2.2.2.2.2.2 m_next m_start m_token m_number m_letters m_isWrong m_sums m_steps m_chosen m_passed m_passedMany m_passedCost m_reach) A) args s 0 0 A) (F0 m 40 ls []) := by
  intro n
  induction n with
  | zero => intro v3 m_s m_sent H locs ls h; cases h
  | succ n ih =>
    intro v3 m_s m_sent H locs ls h hw hl
    obtain ⟨q1, h, hn1, hr1⟩ := iter_out h
    have hb1 : ∀ b : Int32 × (Nat → Int32) × (Nat → Int32), q1 = .inl b → ∀ (H : Heap) (locs : List Loc) (ls : Array Slot), zW Z A (wX7 Z Am m_thrown b.2.1 m_saved m_savedMany m_aside b.2.2 m_text m_length m_way m_crossed m_wayCost m_isWay m_next m_start m_token m_number m_letters m_isWrong m_sums m_steps m_chosen m_passed m_passedMany m_passedCost m_reach) s.heap H locs → lv_has ls 4 [(0, .ref (Am 0)), (1, .int v1), (2, .int v2), (3, .int b.1)] → W p l e rmX7_step s m args below meth c H locs 0 0 (MQ below (zQi Z res.1 (wX7 Z Am res.2.1 res.2.2.1 res.2.2.2.1 res.2.2.2.2.1 res.2.2.2.2.2.1 res.2.2.2.2.2.2.1 m_text m_length m_way m_crossed m_wayCost res.2.2.2.2.2.2.2 m_next m_start m_token m_number m_letters m_isWrong m_sums m_steps m_chosen m_passed m_passedMany m_passedCost m_reach) A) args s 0 0 A) (F0 m 40 ls []) := fun b eb H locs ls hw hl => ih b.1 b.2.1 b.2.2 H locs ls (hn1 b eb) hw hl
    replace h : sX7_step_40 v1 v2 m_thrown m_saved m_savedMany m_aside m_isWay v3 m_s m_sent = some q1 := h
    unfold sX7_step_40 at h
    refine r_iload_n E hl 3 rfl dX7_step_40 rfl ?_
    refine r_iload_n E hl 1 rfl dX7_step_41 rfl ?_
    refine r_icmp_ge E 55 dX7_step_42 (by decide) (fun hc => ?_) (fun hc => ?_)
    · replace h := ite_t hc h
      obtain ⟨ro7, h, hro7⟩ := oi_some h
      rw [hr1 _ hro7] at h
      exact vX7_step_55 E  hw (lv_sub hl [0, 2] rfl) h
    · replace h := ite_f hc h
      refine r_aload_n E hl 0 rfl dX7_step_45 rfl ?_
      obtain ⟨y8, hy8, h⟩ := bd_some h
      refine r_callVAv E hw (mX7_round l Z _ Am m_thrown m_s m_saved m_savedMany m_aside m_sent m_text m_length m_way m_crossed m_wayCost m_isWay m_next m_start m_token m_number m_letters m_isWrong m_sums m_steps m_chosen m_passed m_passedMany m_passedCost m_reach hy8) kL_X7_229 kI_X7_round kS_X7_round kN_X7 kC_X7_round rfl rfl hdX7_round ⟨Nat.le_of_ble_eq_true rfl, Nat.le_of_ble_eq_true rfl⟩ 0 rfl rfl rfl rfl hl [] rfl (Nat.le_of_ble_eq_true rfl) dX7_step_46 ⟨Nat.zero_le _, Nat.zero_le _⟩ (fun H locs hw => ?_)
      obtain ⟨w9, hw9, h⟩ := nm_out h
      refine r_iinc E w9 [(3, .int w9), (0, .ref (Am 0)), (1, .int v1), (2, .int v2)] hl (k := 3) rfl dX7_step_49 hw9.symm (by decide) rfl (fun ls hl => ?_)
      refine r_goto E 40 dX7_step_52 (by decide) ?_
      exact hb1 _ (Option.some.inj h).symm _ _ _ hw (lv_sub hl [1, 2, 3, 0] rfl)
set_option maxRecDepth 100000 in
set_option maxHeartbeats 4000000 in
theorem mX7_step (l : Launch) (Z : zT) (sz : Nat) (Am : Nat → Nat) (m_thrown : Int32) (m_s : (Nat → Int32)) (m_saved : (Nat → Int32)) (m_savedMany : Int32) (m_aside : (Nat → Int32)) (m_sent : (Nat → Int32)) (m_text : (Nat → Int32)) (m_length : Int32) (m_way : (Nat → Int32)) (m_crossed : Int32) (m_wayCost : Int32) (m_isWay : Int32) (m_next : Int32) (m_start : Int32) (m_token : Int32) (m_number : Int32) (m_letters : Int64) (m_isWrong : Int32) (m_sums : (Nat → Int32)) (m_steps : (Nat → Int32)) (m_chosen : Int32) (m_passed : (Nat → Int32)) (m_passedMany : Int32) (m_passedCost : Int32) (m_reach : (Nat → Int32)) (v1 : Int32) {res : Int32 × Int32 × (Nat → Int32) × (Nat → Int32) × Int32 × (Nat → Int32) × (Nat → Int32) × Int32} (h : fX7_step v1 m_s m_saved m_savedMany m_aside m_sent m_isWay = some res) : Met l yX7_step (Cond.code yX7_step cX7_step 4 (some .int) :: zWs) rmX7_step (zP Z (wX7 Z Am m_thrown m_s m_saved m_savedMany m_aside m_sent m_text m_length m_way m_crossed m_wayCost m_isWay m_next m_start m_token m_number m_letters m_isWrong m_sums m_steps m_chosen m_passed m_passedMany m_passedCost m_reach) sz [.ref (Am 0), .int v1]) (zQi Z res.1 (wX7 Z Am res.2.1 res.2.2.1 res.2.2.2.1 res.2.2.2.2.1 res.2.2.2.2.2.1 res.2.2.2.2.2.2.1 m_text m_length m_way m_crossed m_wayCost res.2.2.2.2.2.2.2 m_next m_start m_token m_number m_letters m_isWrong m_sums m_steps m_chosen m_passed m_passedMany m_passedCost m_reach) (va_A (wX7 Z Am m_thrown m_s m_saved m_savedMany m_aside m_sent m_text m_length m_way m_crossed m_wayCost m_isWay m_next m_start m_token m_number m_letters m_isWrong m_sums m_steps m_chosen m_passed m_passedMany m_passedCost m_reach) sz)) 0 0 (va_A (wX7 Z Am m_thrown m_s m_saved m_savedMany m_aside m_sent m_text m_length m_way m_crossed m_wayCost m_isWay m_next m_start m_token m_number m_letters m_isWrong m_sums m_steps m_chosen m_passed m_passedMany m_passedCost m_reach) sz) := by
  refine zMet (own := RX7) (fun A => zQi Z res.1 (wX7 Z Am res.2.1 res.2.2.1 res.2.2.2.1 res.2.2.2.2.1 res.2.2.2.2.2.1 res.2.2.2.2.2.2.1 m_text m_length m_way m_crossed m_wayCost res.2.2.2.2.2.2.2 m_next m_start m_token m_number m_letters m_isWrong m_sums m_steps m_chosen m_passed m_passedMany m_passedCost m_reach) A) (by decide) rfl (Nat.le_of_ble_eq_true rfl) ?_
  intro p e s m args below meth c ls A E hw hl
  unfold fX7_step at h
  refine r_aload_n E hl 0 rfl dX7_step_0 rfl ?_
  refine r_iconst E 0 dX7_step_1 (by decide) ?_
  refine r_put E (wX7 Z Am (0 : Int32) m_s m_saved m_savedMany m_aside m_sent m_text m_length m_way m_crossed m_wayCost m_isWay m_next m_start m_token m_number m_letters m_isWrong m_sums m_steps m_chosen m_passed m_passedMany m_passedCost m_reach) kW_X7 tyX7_ok nmX7 hw 0 rfl rfl 0 (by decide) kF_X7_40 rfl rfl rfl (Nat.le_of_ble_eq_true rfl) rfl dX7_step_2 (fun H locs hw => ?_)
  refine r_iload_n E hl 1 rfl dX7_step_5 rfl ?_
  refine r_iconst E 1 dX7_step_6 (by decide) ?_
  refine r_bipush E 40 dX7_step_7 (by decide) ?_
  obtain ⟨y1, hy1, h⟩ := bd_some h
  refine r_callS0i E hw (mX7_in l Z _ v1 (1 : Int32) (40 : Int32) hy1) kL_X7_58 kT_X7_in kN_X7 kC_X7_in rfl rfl hdX7_in ⟨Nat.le_of_ble_eq_true rfl, Nat.le_of_ble_eq_true rfl⟩ rfl hl [] rfl (Nat.le_of_ble_eq_true rfl) dX7_step_9 ⟨Nat.zero_le _, Nat.zero_le _⟩ (fun H locs hw => ?_)
  refine r_if_ne E 17 dX7_step_12 (by decide) (fun hc => ?_) (fun hc => ?_)
  · replace h := ite_f hc h
    refine r_aload_n E hl 0 rfl dX7_step_17 rfl ?_
    obtain ⟨y2, hy2, h⟩ := bd_some h
    refine r_callVAi E hw (mX7_isQuiet l Z _ Am (0 : Int32) m_s m_saved m_savedMany m_aside m_sent m_text m_length m_way m_crossed m_wayCost m_isWay m_next m_start m_token m_number m_letters m_isWrong m_sums m_steps m_chosen m_passed m_passedMany m_passedCost m_reach hy2) kL_X7_225 kI_X7_isQuiet kS_X7_isQuiet kN_X7 kC_X7_isQuiet rfl rfl hdX7_isQuiet ⟨Nat.le_of_ble_eq_true rfl, Nat.le_of_ble_eq_true rfl⟩ 0 rfl rfl rfl rfl hl [] rfl (Nat.le_of_ble_eq_true rfl) dX7_step_18 ⟨Nat.zero_le _, Nat.zero_le _⟩ (fun H locs hw => ?_)
    refine r_if_eq E 27 dX7_step_21 (by decide) (fun hc => ?_) (fun hc => ?_)
    · replace h := ite_t hc h
      refine r_aload_n E hl 0 rfl dX7_step_27 rfl ?_
      obtain ⟨y3, hy3, h⟩ := bd_some h
      refine r_callVAv E hw (mX7_act l Z _ Am (0 : Int32) m_s m_saved m_savedMany m_aside m_sent m_text m_length m_way m_crossed m_wayCost m_isWay m_next m_start m_token m_number m_letters m_isWrong m_sums m_steps m_chosen m_passed m_passedMany m_passedCost m_reach hy3) kL_X7_119 kI_X7_act kS_X7_act kN_X7 kC_X7_act rfl rfl hdX7_act ⟨Nat.le_of_ble_eq_true rfl, Nat.le_of_ble_eq_true rfl⟩ 0 rfl rfl rfl rfl hl [] rfl (Nat.le_of_ble_eq_true rfl) dX7_step_28 ⟨Nat.zero_le _, Nat.zero_le _⟩ (fun H locs hw => ?_)
      refine r_aload_n E hl 0 rfl dX7_step_31 rfl ?_
      refine r_get E kW_X7 hw 0 rfl rfl 1 (by decide) kF_X7_7 rfl dX7_step_32 ?_
      refine r_iconst E 3 dX7_step_35 (by decide) ?_
      obtain ⟨hg4, h⟩ := gd_some h
      refine r_iald E hw 1 rfl hg4 dX7_step_36 ?_
      obtain ⟨w5, hw5, h⟩ := nm_out h
      refine r_nm hw5 ?_
      refine r_istore_n E [(2, .int w5), (0, .ref (Am 0)), (1, .int v1)] hl dX7_step_37 rfl (by decide) rfl (fun ls hl => ?_)
      refine r_iconst E 0 dX7_step_38 (by decide) ?_
      refine r_istore_n E [(3, .int (0 : Int32)), (2, .int w5), (0, .ref (Am 0)), (1, .int v1)] hl dX7_step_39 rfl (by decide) rfl (fun ls hl => ?_)
      obtain ⟨n10, h⟩ := wh_some h
      exact tX7_step_40 E  n10 _ _ _ _ _ _ h hw (lv_sub hl [2, 3, 1, 0] rfl)
    · replace h := ite_f hc h
      refine r_bipush E (-2) dX7_step_24 (by decide) ?_
      obtain rfl := Option.some.inj h
      exact r_iret E hw dX7_step_26
  · replace h := ite_t hc h
    refine r_iconst E (-1) dX7_step_15 (by decide) ?_
    obtain rfl := Option.some.inj h
    exact r_iret E hw dX7_step_16
abbrev rmX7_settleAll : Room := { frames := 7, cells := 0, slots := 0, locals := 167 }

set_option maxRecDepth 100000 in
set_option maxHeartbeats 4000000 in
theorem tX7_settleAll_2 {Z : zT} {p : Program} {l : Launch} {e : Env} {s : State} {m : MethodId} {args : Array Value} {below : List Frame} {meth : Method} {c : Code} {A : Nat → Prop} (E : zE Z p s m args meth c RX7 cX7_settleAll 2 (some .int) A) {Am : Nat → Nat} {m_thrown : Int32} {m_saved : (Nat → Int32)} {m_savedMany : Int32} {m_aside : (Nat → Int32)} {m_text : (Nat → Int32)} {m_length : Int32} {m_way : (Nat → Int32)} {m_crossed : Int32} {m_wayCost : Int32} {m_isWay : Int32} {m_next : Int32} {m_start : Int32} {m_token : Int32} {m_number : Int32} {m_letters : Int64} {m_isWrong : Int32} {m_sums : (Nat → Int32)} {m_steps : (Nat → Int32)} {m_chosen : Int32} {m_passed : (Nat → Int32)} {m_passedMany : Int32} {m_passedCost : Int32} {m_reach : (Nat → Int32)} {res : Int32 × (Nat → Int32) × (Nat → Int32)}  : ∀ (n : Nat) (v1 : Int32) (m_s : (Nat → Int32)) (m_sent : (Nat → Int32)) (H : Heap) (locs : List Loc) (ls : Array Slot), iter (fun b : Int32 × (Nat → Int32) × (Nat → Int32) => sX7_settleAll_2  b.1 b.2.1 b.2.2) n (v1, m_s, m_sent) = some res → zW Z A (wX7 Z Am m_thrown m_s m_saved m_savedMany m_aside m_sent m_text m_length m_way m_crossed m_wayCost m_isWay m_next m_start m_token m_number m_letters m_isWrong m_sums m_steps m_chosen m_passed m_passedMany m_passedCost m_reach) s.heap H locs → lv_has ls 2 [(0, .ref (Am 0)), (1, .int v1)] → W p l e rmX7_settleAll s m args below meth c H locs 0 0 (MQ below (zQi Z res.1 (wX7 Z Am m_thrown res.2.1 m_saved m_savedMany m_aside res.2.2 m_text m_length m_way m_crossed m_wayCost m_isWay m_next m_start m_token m_number m_letters m_isWrong m_sums m_steps m_chosen m_passed m_passedMany m_passedCost m_reach) A) args s 0 0 A) (F0 m 2 ls []) := by
  intro n
  induction n with
  | zero => intro v1 m_s m_sent H locs ls h; cases h
  | succ n ih =>
    intro v1 m_s m_sent H locs ls h hw hl
    obtain ⟨q1, h, hn1, hr1⟩ := iter_out h
    have hb1 : ∀ b : Int32 × (Nat → Int32) × (Nat → Int32), q1 = .inl b → ∀ (H : Heap) (locs : List Loc) (ls : Array Slot), zW Z A (wX7 Z Am m_thrown b.2.1 m_saved m_savedMany m_aside b.2.2 m_text m_length m_way m_crossed m_wayCost m_isWay m_next m_start m_token m_number m_letters m_isWrong m_sums m_steps m_chosen m_passed m_passedMany m_passedCost m_reach) s.heap H locs → lv_has ls 2 [(0, .ref (Am 0)), (1, .int b.1)] → W p l e rmX7_settleAll s m args below meth c H locs 0 0 (MQ below (zQi Z res.1 (wX7 Z Am m_thrown res.2.1 m_saved m_savedMany m_aside res.2.2 m_text m_length m_way m_crossed m_wayCost m_isWay m_next m_start m_token m_number m_letters m_isWrong m_sums m_steps m_chosen m_passed m_passedMany m_passedCost m_reach) A) args s 0 0 A) (F0 m 2 ls []) := fun b eb H locs ls hw hl => ih b.1 b.2.1 b.2.2 H locs ls (hn1 b eb) hw hl
    replace h : sX7_settleAll_2  v1 m_s m_sent = some q1 := h
    unfold sX7_settleAll_2 at h
    refine r_aload_n E hl 0 rfl dX7_settleAll_2 rfl ?_
    obtain ⟨y1, hy1, h⟩ := bd_some h
    refine r_callVAi E hw (mX7_isQuiet l Z _ Am m_thrown m_s m_saved m_savedMany m_aside m_sent m_text m_length m_way m_crossed m_wayCost m_isWay m_next m_start m_token m_number m_letters m_isWrong m_sums m_steps m_chosen m_passed m_passedMany m_passedCost m_reach hy1) kL_X7_225 kI_X7_isQuiet kS_X7_isQuiet kN_X7 kC_X7_isQuiet rfl rfl hdX7_isQuiet ⟨Nat.le_of_ble_eq_true rfl, Nat.le_of_ble_eq_true rfl⟩ 0 rfl rfl rfl rfl hl [] rfl (Nat.le_of_ble_eq_true rfl) dX7_settleAll_3 ⟨Nat.zero_le _, Nat.zero_le _⟩ (fun H locs hw => ?_)
    refine r_if_ne E 19 dX7_settleAll_6 (by decide) (fun hc => ?_) (fun hc => ?_)
    · replace h := ite_f hc h
      obtain ⟨ro2, h, hro2⟩ := oi_some h
      rw [hr1 _ hro2] at h
      refine r_iload_n E hl 1 rfl dX7_settleAll_19 rfl ?_
      obtain rfl := Option.some.inj h
      exact r_iret E hw dX7_settleAll_20
    · replace h := ite_t hc h
      refine r_aload_n E hl 0 rfl dX7_settleAll_9 rfl ?_
      obtain ⟨y3, hy3, h⟩ := bd_some h
      refine r_callVAv E hw (mX7_round l Z _ Am m_thrown m_s m_saved m_savedMany m_aside m_sent m_text m_length m_way m_crossed m_wayCost m_isWay m_next m_start m_token m_number m_letters m_isWrong m_sums m_steps m_chosen m_passed m_passedMany m_passedCost m_reach hy3) kL_X7_229 kI_X7_round kS_X7_round kN_X7 kC_X7_round rfl rfl hdX7_round ⟨Nat.le_of_ble_eq_true rfl, Nat.le_of_ble_eq_true rfl⟩ 0 rfl rfl rfl rfl hl [] rfl (Nat.le_of_ble_eq_true rfl) dX7_settleAll_10 ⟨Nat.zero_le _, Nat.zero_le _⟩ (fun H locs hw => ?_)
      obtain ⟨w4, hw4, h⟩ := nm_out h
      refine r_iinc E w4 [(1, .int w4), (0, .ref (Am 0))] hl (k := 1) rfl dX7_settleAll_13 hw4.symm (by decide) rfl (fun ls hl => ?_)
      refine r_goto E 2 dX7_settleAll_16 (by decide) ?_
      exact hb1 _ (Option.some.inj h).symm _ _ _ hw (lv_sub hl [1, 0] rfl)
set_option maxRecDepth 100000 in
set_option maxHeartbeats 4000000 in
theorem mX7_settleAll (l : Launch) (Z : zT) (sz : Nat) (Am : Nat → Nat) (m_thrown : Int32) (m_s : (Nat → Int32)) (m_saved : (Nat → Int32)) (m_savedMany : Int32) (m_aside : (Nat → Int32)) (m_sent : (Nat → Int32)) (m_text : (Nat → Int32)) (m_length : Int32) (m_way : (Nat → Int32)) (m_crossed : Int32) (m_wayCost : Int32) (m_isWay : Int32) (m_next : Int32) (m_start : Int32) (m_token : Int32) (m_number : Int32) (m_letters : Int64) (m_isWrong : Int32) (m_sums : (Nat → Int32)) (m_steps : (Nat → Int32)) (m_chosen : Int32) (m_passed : (Nat → Int32)) (m_passedMany : Int32) (m_passedCost : Int32) (m_reach : (Nat → Int32))  {res : Int32 × (Nat → Int32) × (Nat → Int32)} (h : fX7_settleAll m_s m_sent = some res) : Met l yX7_settleAll (Cond.code yX7_settleAll cX7_settleAll 2 (some .int) :: zWs) rmX7_settleAll (zP Z (wX7 Z Am m_thrown m_s m_saved m_savedMany m_aside m_sent m_text m_length m_way m_crossed m_wayCost m_isWay m_next m_start m_token m_number m_letters m_isWrong m_sums m_steps m_chosen m_passed m_passedMany m_passedCost m_reach) sz [.ref (Am 0)]) (zQi Z res.1 (wX7 Z Am m_thrown res.2.1 m_saved m_savedMany m_aside res.2.2 m_text m_length m_way m_crossed m_wayCost m_isWay m_next m_start m_token m_number m_letters m_isWrong m_sums m_steps m_chosen m_passed m_passedMany m_passedCost m_reach) (va_A (wX7 Z Am m_thrown m_s m_saved m_savedMany m_aside m_sent m_text m_length m_way m_crossed m_wayCost m_isWay m_next m_start m_token m_number m_letters m_isWrong m_sums m_steps m_chosen m_passed m_passedMany m_passedCost m_reach) sz)) 0 0 (va_A (wX7 Z Am m_thrown m_s m_saved m_savedMany m_aside m_sent m_text m_length m_way m_crossed m_wayCost m_isWay m_next m_start m_token m_number m_letters m_isWrong m_sums m_steps m_chosen m_passed m_passedMany m_passedCost m_reach) sz) := by
  refine zMet (own := RX7) (fun A => zQi Z res.1 (wX7 Z Am m_thrown res.2.1 m_saved m_savedMany m_aside res.2.2 m_text m_length m_way m_crossed m_wayCost m_isWay m_next m_start m_token m_number m_letters m_isWrong m_sums m_steps m_chosen m_passed m_passedMany m_passedCost m_reach) A) (by decide) rfl (Nat.le_of_ble_eq_true rfl) ?_
  intro p e s m args below meth c ls A E hw hl
  unfold fX7_settleAll at h
  refine r_iconst E 0 dX7_settleAll_0 (by decide) ?_
  refine r_istore_n E [(1, .int (0 : Int32)), (0, .ref (Am 0))] hl dX7_settleAll_1 rfl (by decide) rfl (fun ls hl => ?_)
  obtain ⟨n5, h⟩ := wh_some h
  exact tX7_settleAll_2 E  n5 _ _ _ _ _ _ h hw (lv_sub hl [1, 0] rfl)
abbrev rmX7_settle : Room := { frames := 8, cells := 0, slots := 0, locals := 188 }

set_option maxRecDepth 100000 in
set_option maxHeartbeats 4000000 in
theorem mX7_settle (l : Launch) (Z : zT) (sz : Nat) (Am : Nat → Nat) (m_thrown : Int32) (m_s : (Nat → Int32)) (m_saved : (Nat → Int32)) (m_savedMany : Int32) (m_aside : (Nat → Int32)) (m_sent : (Nat → Int32)) (m_text : (Nat → Int32)) (m_length : Int32) (m_way : (Nat → Int32)) (m_crossed : Int32) (m_wayCost : Int32) (m_isWay : Int32) (m_next : Int32) (m_start : Int32) (m_token : Int32) (m_number : Int32) (m_letters : Int64) (m_isWrong : Int32) (m_sums : (Nat → Int32)) (m_steps : (Nat → Int32)) (m_chosen : Int32) (m_passed : (Nat → Int32)) (m_passedMany : Int32) (m_passedCost : Int32) (m_reach : (Nat → Int32))  {res : Int32 × Int32 × (Nat → Int32) × (Nat → Int32) × Int32 × (Nat → Int32) × (Nat → Int32) × Int32} (h : fX7_settle m_s m_saved m_savedMany m_aside m_sent m_isWay = some res) : Met l yX7_settle (Cond.code yX7_settle cX7_settle 1 (some .int) :: zWs) rmX7_settle (zP Z (wX7 Z Am m_thrown m_s m_saved m_savedMany m_aside m_sent m_text m_length m_way m_crossed m_wayCost m_isWay m_next m_start m_token m_number m_letters m_isWrong m_sums m_steps m_chosen m_passed m_passedMany m_passedCost m_reach) sz [.ref (Am 0)]) (zQi Z res.1 (wX7 Z Am res.2.1 res.2.2.1 res.2.2.2.1 res.2.2.2.2.1 res.2.2.2.2.2.1 res.2.2.2.2.2.2.1 m_text m_length m_way m_crossed m_wayCost res.2.2.2.2.2.2.2 m_next m_start m_token m_number m_letters m_isWrong m_sums m_steps m_chosen m_passed m_passedMany m_passedCost m_reach) (va_A (wX7 Z Am m_thrown m_s m_saved m_savedMany m_aside m_sent m_text m_length m_way m_crossed m_wayCost m_isWay m_next m_start m_token m_number m_letters m_isWrong m_sums m_steps m_chosen m_passed m_passedMany m_passedCost m_reach) sz)) 0 0 (va_A (wX7 Z Am m_thrown m_s m_saved m_savedMany m_aside m_sent m_text m_length m_way m_crossed m_wayCost m_isWay m_next m_start m_token m_number m_letters m_isWrong m_sums m_steps m_chosen m_passed m_passedMany m_passedCost m_reach) sz) := by
  refine zMet (own := RX7) (fun A => zQi Z res.1 (wX7 Z Am res.2.1 res.2.2.1 res.2.2.2.1 res.2.2.2.2.1 res.2.2.2.2.2.1 res.2.2.2.2.2.2.1 m_text m_length m_way m_crossed m_wayCost res.2.2.2.2.2.2.2 m_next m_start m_token m_number m_letters m_isWrong m_sums m_steps m_chosen m_passed m_passedMany m_passedCost m_reach) A) (by decide) rfl (Nat.le_of_ble_eq_true rfl) ?_
  intro p e s m args below meth c ls A E hw hl
  unfold fX7_settle at h
  refine r_aload_n E hl 0 rfl dX7_settle_0 rfl ?_
  refine r_iconst E 0 dX7_settle_1 (by decide) ?_
  refine r_put E (wX7 Z Am (0 : Int32) m_s m_saved m_savedMany m_aside m_sent m_text m_length m_way m_crossed m_wayCost m_isWay m_next m_start m_token m_number m_letters m_isWrong m_sums m_steps m_chosen m_passed m_passedMany m_passedCost m_reach) kW_X7 tyX7_ok nmX7 hw 0 rfl rfl 0 (by decide) kF_X7_40 rfl rfl rfl (Nat.le_of_ble_eq_true rfl) rfl dX7_settle_2 (fun H locs hw => ?_)
  refine r_aload_n E hl 0 rfl dX7_settle_5 rfl ?_
  obtain ⟨y1, hy1, h⟩ := bd_some h
  refine r_callVAi E hw (mX7_isQuiet l Z _ Am (0 : Int32) m_s m_saved m_savedMany m_aside m_sent m_text m_length m_way m_crossed m_wayCost m_isWay m_next m_start m_token m_number m_letters m_isWrong m_sums m_steps m_chosen m_passed m_passedMany m_passedCost m_reach hy1) kL_X7_225 kI_X7_isQuiet kS_X7_isQuiet kN_X7 kC_X7_isQuiet rfl rfl hdX7_isQuiet ⟨Nat.le_of_ble_eq_true rfl, Nat.le_of_ble_eq_true rfl⟩ 0 rfl rfl rfl rfl hl [] rfl (Nat.le_of_ble_eq_true rfl) dX7_settle_6 ⟨Nat.zero_le _, Nat.zero_le _⟩ (fun H locs hw => ?_)
  refine r_if_eq E 15 dX7_settle_9 (by decide) (fun hc => ?_) (fun hc => ?_)
  · replace h := ite_t hc h
    refine r_aload_n E hl 0 rfl dX7_settle_15 rfl ?_
    obtain ⟨y2, hy2, h⟩ := bd_some h
    refine r_callVAv E hw (mX7_act l Z _ Am (0 : Int32) m_s m_saved m_savedMany m_aside m_sent m_text m_length m_way m_crossed m_wayCost m_isWay m_next m_start m_token m_number m_letters m_isWrong m_sums m_steps m_chosen m_passed m_passedMany m_passedCost m_reach hy2) kL_X7_119 kI_X7_act kS_X7_act kN_X7 kC_X7_act rfl rfl hdX7_act ⟨Nat.le_of_ble_eq_true rfl, Nat.le_of_ble_eq_true rfl⟩ 0 rfl rfl rfl rfl hl [] rfl (Nat.le_of_ble_eq_true rfl) dX7_settle_16 ⟨Nat.zero_le _, Nat.zero_le _⟩ (fun H locs hw => ?_)
    refine r_aload_n E hl 0 rfl dX7_settle_19 rfl ?_
    obtain ⟨y3, hy3, h⟩ := bd_some h
    refine r_callVAi E hw (mX7_settleAll l Z _ Am (0 : Int32) m_s y2.1 y2.2.1 y2.2.2.1 m_sent m_text m_length m_way m_crossed m_wayCost y2.2.2.2 m_next m_start m_token m_number m_letters m_isWrong m_sums m_steps m_chosen m_passed m_passedMany m_passedCost m_reach hy3) kL_X7_232 kI_X7_settleAll kS_X7_settleAll kN_X7 kC_X7_settleAll rfl rfl hdX7_settleAll ⟨Nat.le_of_ble_eq_true rfl, Nat.le_of_ble_eq_true rfl⟩ 0 rfl rfl rfl rfl hl [] rfl (Nat.le_of_ble_eq_true rfl) dX7_settle_20 ⟨Nat.zero_le _, Nat.zero_le _⟩ (fun H locs hw => ?_)
    obtain rfl := Option.some.inj h
    exact r_iret E hw dX7_settle_23
  · replace h := ite_f hc h
    refine r_bipush E (-2) dX7_settle_12 (by decide) ?_
    obtain rfl := Option.some.inj h
    exact r_iret E hw dX7_settle_14
abbrev rmX7_roundsToQuiet : Room := { frames := 8, cells := 0, slots := 0, locals := 188 }

set_option maxRecDepth 100000 in
set_option maxHeartbeats 4000000 in
theorem mX7_roundsToQuiet (l : Launch) (Z : zT) (sz : Nat) (Am : Nat → Nat) (m_thrown : Int32) (m_s : (Nat → Int32)) (m_saved : (Nat → Int32)) (m_savedMany : Int32) (m_aside : (Nat → Int32)) (m_sent : (Nat → Int32)) (m_text : (Nat → Int32)) (m_length : Int32) (m_way : (Nat → Int32)) (m_crossed : Int32) (m_wayCost : Int32) (m_isWay : Int32) (m_next : Int32) (m_start : Int32) (m_token : Int32) (m_number : Int32) (m_letters : Int64) (m_isWrong : Int32) (m_sums : (Nat → Int32)) (m_steps : (Nat → Int32)) (m_chosen : Int32) (m_passed : (Nat → Int32)) (m_passedMany : Int32) (m_passedCost : Int32) (m_reach : (Nat → Int32))  {res : Int32 × Int32 × (Nat → Int32) × (Nat → Int32) × (Nat → Int32)} (h : fX7_roundsToQuiet m_s m_aside m_sent = some res) : Met l yX7_roundsToQuiet (Cond.code yX7_roundsToQuiet cX7_roundsToQuiet 2 (some .int) :: zWs) rmX7_roundsToQuiet (zP Z (wX7 Z Am m_thrown m_s m_saved m_savedMany m_aside m_sent m_text m_length m_way m_crossed m_wayCost m_isWay m_next m_start m_token m_number m_letters m_isWrong m_sums m_steps m_chosen m_passed m_passedMany m_passedCost m_reach) sz [.ref (Am 0)]) (zQi Z res.1 (wX7 Z Am res.2.1 res.2.2.1 m_saved m_savedMany res.2.2.2.1 res.2.2.2.2 m_text m_length m_way m_crossed m_wayCost m_isWay m_next m_start m_token m_number m_letters m_isWrong m_sums m_steps m_chosen m_passed m_passedMany m_passedCost m_reach) (va_A (wX7 Z Am m_thrown m_s m_saved m_savedMany m_aside m_sent m_text m_length m_way m_crossed m_wayCost m_isWay m_next m_start m_token m_number m_letters m_isWrong m_sums m_steps m_chosen m_passed m_passedMany m_passedCost m_reach) sz)) 0 0 (va_A (wX7 Z Am m_thrown m_s m_saved m_savedMany m_aside m_sent m_text m_length m_way m_crossed m_wayCost m_isWay m_next m_start m_token m_number m_letters m_isWrong m_sums m_steps m_chosen m_passed m_passedMany m_passedCost m_reach) sz) := by
  refine zMet (own := RX7) (fun A => zQi Z res.1 (wX7 Z Am res.2.1 res.2.2.1 m_saved m_savedMany res.2.2.2.1 res.2.2.2.2 m_text m_length m_way m_crossed m_wayCost m_isWay m_next m_start m_token m_number m_letters m_isWrong m_sums m_steps m_chosen m_passed m_passedMany m_passedCost m_reach) A) (by decide) rfl (Nat.le_of_ble_eq_true rfl) ?_
  intro p e s m args below meth c ls A E hw hl
  unfold fX7_roundsToQuiet at h
  refine r_aload_n E hl 0 rfl dX7_roundsToQuiet_0 rfl ?_
  refine r_iconst E 0 dX7_roundsToQuiet_1 (by decide) ?_
  refine r_put E (wX7 Z Am (0 : Int32) m_s m_saved m_savedMany m_aside m_sent m_text m_length m_way m_crossed m_wayCost m_isWay m_next m_start m_token m_number m_letters m_isWrong m_sums m_steps m_chosen m_passed m_passedMany m_passedCost m_reach) kW_X7 tyX7_ok nmX7 hw 0 rfl rfl 0 (by decide) kF_X7_40 rfl rfl rfl (Nat.le_of_ble_eq_true rfl) rfl dX7_roundsToQuiet_2 (fun H locs hw => ?_)
  refine r_aload_n E hl 0 rfl dX7_roundsToQuiet_5 rfl ?_
  refine r_aload_n E hl 0 rfl dX7_roundsToQuiet_6 rfl ?_
  refine r_get E kW_X7 hw 0 rfl rfl 4 (by decide) kF_X7_16 rfl dX7_roundsToQuiet_7 ?_
  refine r_aload_n E hl 0 rfl dX7_roundsToQuiet_10 rfl ?_
  refine r_get E kW_X7 hw 0 rfl rfl 1 (by decide) kF_X7_7 rfl dX7_roundsToQuiet_11 ?_
  obtain ⟨y1, hy1, h⟩ := bd_some h
  refine r_callVAv E hw (mX7_copy_aside_s l Z _ Am (0 : Int32) m_s m_saved m_savedMany m_aside m_sent m_text m_length m_way m_crossed m_wayCost m_isWay m_next m_start m_token m_number m_letters m_isWrong m_sums m_steps m_chosen m_passed m_passedMany m_passedCost m_reach hy1) kL_X7_51 kI_X7_copy kS_X7_copy kN_X7 kC_X7_copy rfl rfl hdX7_copy ⟨Nat.le_of_ble_eq_true rfl, Nat.le_of_ble_eq_true rfl⟩ 0 rfl rfl rfl rfl hl [] rfl (Nat.le_of_ble_eq_true rfl) dX7_roundsToQuiet_14 ⟨Nat.zero_le _, Nat.zero_le _⟩ (fun H locs hw => ?_)
  refine r_aload_n E hl 0 rfl dX7_roundsToQuiet_17 rfl ?_
  obtain ⟨y2, hy2, h⟩ := bd_some h
  refine r_callVAi E hw (mX7_settleAll l Z _ Am (0 : Int32) m_s m_saved m_savedMany y1 m_sent m_text m_length m_way m_crossed m_wayCost m_isWay m_next m_start m_token m_number m_letters m_isWrong m_sums m_steps m_chosen m_passed m_passedMany m_passedCost m_reach hy2) kL_X7_232 kI_X7_settleAll kS_X7_settleAll kN_X7 kC_X7_settleAll rfl rfl hdX7_settleAll ⟨Nat.le_of_ble_eq_true rfl, Nat.le_of_ble_eq_true rfl⟩ 0 rfl rfl rfl rfl hl [] rfl (Nat.le_of_ble_eq_true rfl) dX7_roundsToQuiet_18 ⟨Nat.zero_le _, Nat.zero_le _⟩ (fun H locs hw => ?_)
  refine r_istore_n E [(1, .int y2.1), (0, .ref (Am 0))] hl dX7_roundsToQuiet_21 rfl (by decide) rfl (fun ls hl => ?_)
  refine r_aload_n E hl 1 rfl dX7_roundsToQuiet_22 rfl ?_
  refine r_aload_n E hl 1 rfl dX7_roundsToQuiet_23 rfl ?_
  refine r_get E kW_X7 hw 0 rfl rfl 1 (by decide) kF_X7_7 rfl dX7_roundsToQuiet_24 ?_
  refine r_aload_n E hl 1 rfl dX7_roundsToQuiet_27 rfl ?_
  refine r_get E kW_X7 hw 0 rfl rfl 4 (by decide) kF_X7_16 rfl dX7_roundsToQuiet_28 ?_
  obtain ⟨y3, hy3, h⟩ := bd_some h
  refine r_callVAv E hw (mX7_copy_s_aside l Z _ Am (0 : Int32) y2.2.1 m_saved m_savedMany y1 y2.2.2 m_text m_length m_way m_crossed m_wayCost m_isWay m_next m_start m_token m_number m_letters m_isWrong m_sums m_steps m_chosen m_passed m_passedMany m_passedCost m_reach hy3) kL_X7_51 kI_X7_copy kS_X7_copy kN_X7 kC_X7_copy rfl rfl hdX7_copy ⟨Nat.le_of_ble_eq_true rfl, Nat.le_of_ble_eq_true rfl⟩ 0 rfl rfl rfl rfl hl [] rfl (Nat.le_of_ble_eq_true rfl) dX7_roundsToQuiet_31 ⟨Nat.zero_le _, Nat.zero_le _⟩ (fun H locs hw => ?_)
  refine r_iload_n E hl 0 rfl dX7_roundsToQuiet_34 rfl ?_
  obtain rfl := Option.some.inj h
  exact r_iret E hw dX7_roundsToQuiet_35
abbrev rmX7_undo : Room := { frames := 0, cells := 0, slots := 0, locals := 0 }

set_option maxRecDepth 100000 in
set_option maxHeartbeats 4000000 in
theorem vX7_undo_61 {Z : zT} {p : Program} {l : Launch} {e : Env} {s : State} {m : MethodId} {args : Array Value} {below : List Frame} {meth : Method} {c : Code} {A : Nat → Prop} (E : zE Z p s m args meth c RX7 cX7_undo 2 (some .int) A) {Am : Nat → Nat} {m_thrown : Int32} {m_s : (Nat → Int32)} {m_saved : (Nat → Int32)} {m_savedMany : Int32} {m_aside : (Nat → Int32)} {m_sent : (Nat → Int32)} {m_text : (Nat → Int32)} {m_length : Int32} {m_way : (Nat → Int32)} {m_crossed : Int32} {m_wayCost : Int32} {m_isWay : Int32} {m_next : Int32} {m_start : Int32} {m_token : Int32} {m_number : Int32} {m_letters : Int64} {m_isWrong : Int32} {m_sums : (Nat → Int32)} {m_steps : (Nat → Int32)} {m_chosen : Int32} {m_passed : (Nat → Int32)} {m_passedMany : Int32} {m_passedCost : Int32} {m_reach : (Nat → Int32)} {res : Int32 × Int32 × (Nat → Int32) × Int32 × Int32}  {H : Heap} {locs : List Loc} {ls : Array Slot} (hw : zW Z A (wX7 Z Am m_thrown m_s m_saved m_savedMany m_aside m_sent m_text m_length m_way m_crossed m_wayCost m_isWay m_next m_start m_token m_number m_letters m_isWrong m_sums m_steps m_chosen m_passed m_passedMany m_passedCost m_reach) s.heap H locs) (hl : lv_has ls 2 [(0, .ref (Am 0))]) (h : uX7_undo_61 m_thrown m_s m_savedMany = some res) : W p l e rmX7_undo s m args below meth c H locs 0 0 (MQ below (zQi Z res.1 (wX7 Z Am res.2.1 res.2.2.1 m_saved res.2.2.2.1 m_aside m_sent m_text m_length m_way m_crossed m_wayCost res.2.2.2.2 m_next m_start m_token m_number m_letters m_isWrong m_sums m_steps m_chosen m_passed m_passedMany m_passedCost m_reach) A) args s 0 0 A) (F0 m 61 ls []) := by
  unfold uX7_undo_61 at h
  refine r_aload_n E hl 0 rfl dX7_undo_61 rfl ?_
  refine r_iconst E 0 dX7_undo_62 (by decide) ?_
  refine r_put E (wX7 Z Am m_thrown m_s m_saved m_savedMany m_aside m_sent m_text m_length m_way m_crossed m_wayCost (0 : Int32) m_next m_start m_token m_number m_letters m_isWrong m_sums m_steps m_chosen m_passed m_passedMany m_passedCost m_reach) kW_X7 tyX7_ok nmX7 hw 0 rfl rfl 11 (by decide) kF_X7_47 rfl rfl rfl (Nat.le_of_ble_eq_true rfl) rfl dX7_undo_63 (fun H locs hw => ?_)
  refine r_aload_n E hl 0 rfl dX7_undo_66 rfl ?_
  refine r_get E kW_X7 hw 0 rfl rfl 3 (by decide) kF_X7_44 rfl dX7_undo_67 ?_
  obtain rfl := Option.some.inj h
  exact r_iret E hw dX7_undo_70
set_option maxRecDepth 100000 in
set_option maxHeartbeats 4000000 in
theorem tX7_undo_27 {Z : zT} {p : Program} {l : Launch} {e : Env} {s : State} {m : MethodId} {args : Array Value} {below : List Frame} {meth : Method} {c : Code} {A : Nat → Prop} (E : zE Z p s m args meth c RX7 cX7_undo 2 (some .int) A) {Am : Nat → Nat} {m_thrown : Int32} {m_saved : (Nat → Int32)} {m_savedMany : Int32} {m_aside : (Nat → Int32)} {m_sent : (Nat → Int32)} {m_text : (Nat → Int32)} {m_length : Int32} {m_way : (Nat → Int32)} {m_crossed : Int32} {m_wayCost : Int32} {m_isWay : Int32} {m_next : Int32} {m_start : Int32} {m_token : Int32} {m_number : Int32} {m_letters : Int64} {m_isWrong : Int32} {m_sums : (Nat → Int32)} {m_steps : (Nat → Int32)} {m_chosen : Int32} {m_passed : (Nat → Int32)} {m_passedMany : Int32} {m_passedCost : Int32} {m_reach : (Nat → Int32)} {res : Int32 × Int32 × (Nat → Int32) × Int32 × Int32}  : ∀ (n : Nat) (v1 : Int32) (m_s : (Nat → Int32)) (H : Heap) (locs : List Loc) (ls : Array Slot), iter (fun b : Int32 × (Nat → Int32) => sX7_undo_27 m_thrown m_saved m_savedMany b.1 b.2) n (v1, m_s) = some res → zW Z A (wX7 Z Am m_thrown m_s m_saved m_savedMany m_aside m_sent m_text m_length m_way m_crossed m_wayCost m_isWay m_next m_start m_token m_number m_letters m_isWrong m_sums m_steps m_chosen m_passed m_passedMany m_passedCost m_reach) s.heap H locs → lv_has ls 2 [(0, .ref (Am 0)), (1, .int v1)] → W p l e rmX7_undo s m args below meth c H locs 0 0 (MQ below (zQi Z res.1 (wX7 Z Am res.2.1 res.2.2.1 m_saved res.2.2.2.1 m_aside m_sent m_text m_length m_way m_crossed m_wayCost res.2.2.2.2 m_next m_start m_token m_number m_letters m_isWrong m_sums m_steps m_chosen m_passed m_passedMany m_passedCost m_reach) A) args s 0 0 A) (F0 m 27 ls []) := by
  intro n
  induction n with
  | zero => intro v1 m_s H locs ls h; cases h
  | succ n ih =>
    intro v1 m_s H locs ls h hw hl
    obtain ⟨q1, h, hn1, hr1⟩ := iter_out h
    have hb1 : ∀ b : Int32 × (Nat → Int32), q1 = .inl b → ∀ (H : Heap) (locs : List Loc) (ls : Array Slot), zW Z A (wX7 Z Am m_thrown b.2 m_saved m_savedMany m_aside m_sent m_text m_length m_way m_crossed m_wayCost m_isWay m_next m_start m_token m_number m_letters m_isWrong m_sums m_steps m_chosen m_passed m_passedMany m_passedCost m_reach) s.heap H locs → lv_has ls 2 [(0, .ref (Am 0)), (1, .int b.1)] → W p l e rmX7_undo s m args below meth c H locs 0 0 (MQ below (zQi Z res.1 (wX7 Z Am res.2.1 res.2.2.1 m_saved res.2.2.2.1 m_aside m_sent m_text m_length m_way m_crossed m_wayCost res.2.2.2.2 m_next m_start m_token m_number m_letters m_isWrong m_sums m_steps m_chosen m_passed m_passedMany m_passedCost m_reach) A) args s 0 0 A) (F0 m 27 ls []) := fun b eb H locs ls hw hl => ih b.1 b.2 H locs ls (hn1 b eb) hw hl
    replace h : sX7_undo_27 m_thrown m_saved m_savedMany v1 m_s = some q1 := h
    unfold sX7_undo_27 at h
    refine r_iload_n E hl 1 rfl dX7_undo_27 rfl ?_
    refine r_sipush E 1557 dX7_undo_28 (by decide) ?_
    refine r_icmp_ge E 61 dX7_undo_31 (by decide) (fun hc => ?_) (fun hc => ?_)
    · replace h := ite_t hc h
      obtain ⟨ro1, h, hro1⟩ := oi_some h
      rw [hr1 _ hro1] at h
      exact vX7_undo_61 E  hw (lv_sub hl [0] rfl) h
    · replace h := ite_f hc h
      refine r_aload_n E hl 0 rfl dX7_undo_34 rfl ?_
      refine r_get E kW_X7 hw 0 rfl rfl 1 (by decide) kF_X7_7 rfl dX7_undo_35 ?_
      refine r_iload_n E hl 1 rfl dX7_undo_38 rfl ?_
      refine r_aload_n E hl 0 rfl dX7_undo_39 rfl ?_
      refine r_get E kW_X7 hw 0 rfl rfl 2 (by decide) kF_X7_13 rfl dX7_undo_40 ?_
      refine r_sipush E 1557 dX7_undo_43 (by decide) ?_
      refine r_aload_n E hl 0 rfl dX7_undo_46 rfl ?_
      refine r_get E kW_X7 hw 0 rfl rfl 3 (by decide) kF_X7_44 rfl dX7_undo_47 ?_
      refine r_imul E dX7_undo_50 ?_
      refine r_iload_n E hl 1 rfl dX7_undo_51 rfl ?_
      refine r_iadd E dX7_undo_52 ?_
      obtain ⟨hg2, h⟩ := gd_some h
      refine r_iald E hw 2 rfl hg2 dX7_undo_53 ?_
      obtain ⟨hg3, h⟩ := gd_some h
      refine r_iast E (wX7 Z Am m_thrown (upd m_s (v1).toNatClampNeg (m_saved (((1557 : Int32) * m_savedMany) + v1).toNatClampNeg)) m_saved m_savedMany m_aside m_sent m_text m_length m_way m_crossed m_wayCost m_isWay m_next m_start m_token m_number m_letters m_isWrong m_sums m_steps m_chosen m_passed m_passedMany m_passedCost m_reach) hw 1 rfl hg3 rfl dX7_undo_54 (fun H locs hw => ?_)
      obtain ⟨w4, hw4, h⟩ := nm_out h
      refine r_iinc E w4 [(1, .int w4), (0, .ref (Am 0))] hl (k := 1) rfl dX7_undo_55 hw4.symm (by decide) rfl (fun ls hl => ?_)
      refine r_goto E 27 dX7_undo_58 (by decide) ?_
      exact hb1 _ (Option.some.inj h).symm _ _ _ hw (lv_sub hl [1, 0] rfl)
set_option maxRecDepth 100000 in
set_option maxHeartbeats 4000000 in
theorem mX7_undo (l : Launch) (Z : zT) (sz : Nat) (Am : Nat → Nat) (m_thrown : Int32) (m_s : (Nat → Int32)) (m_saved : (Nat → Int32)) (m_savedMany : Int32) (m_aside : (Nat → Int32)) (m_sent : (Nat → Int32)) (m_text : (Nat → Int32)) (m_length : Int32) (m_way : (Nat → Int32)) (m_crossed : Int32) (m_wayCost : Int32) (m_isWay : Int32) (m_next : Int32) (m_start : Int32) (m_token : Int32) (m_number : Int32) (m_letters : Int64) (m_isWrong : Int32) (m_sums : (Nat → Int32)) (m_steps : (Nat → Int32)) (m_chosen : Int32) (m_passed : (Nat → Int32)) (m_passedMany : Int32) (m_passedCost : Int32) (m_reach : (Nat → Int32))  {res : Int32 × Int32 × (Nat → Int32) × Int32 × Int32} (h : fX7_undo m_s m_saved m_savedMany m_isWay = some res) : Met l yX7_undo (Cond.code yX7_undo cX7_undo 2 (some .int) :: zWs) rmX7_undo (zP Z (wX7 Z Am m_thrown m_s m_saved m_savedMany m_aside m_sent m_text m_length m_way m_crossed m_wayCost m_isWay m_next m_start m_token m_number m_letters m_isWrong m_sums m_steps m_chosen m_passed m_passedMany m_passedCost m_reach) sz [.ref (Am 0)]) (zQi Z res.1 (wX7 Z Am res.2.1 res.2.2.1 m_saved res.2.2.2.1 m_aside m_sent m_text m_length m_way m_crossed m_wayCost res.2.2.2.2 m_next m_start m_token m_number m_letters m_isWrong m_sums m_steps m_chosen m_passed m_passedMany m_passedCost m_reach) (va_A (wX7 Z Am m_thrown m_s m_saved m_savedMany m_aside m_sent m_text m_length m_way m_crossed m_wayCost m_isWay m_next m_start m_token m_number m_letters m_isWrong m_sums m_steps m_chosen m_passed m_passedMany m_passedCost m_reach) sz)) 0 0 (va_A (wX7 Z Am m_thrown m_s m_saved m_savedMany m_aside m_sent m_text m_length m_way m_crossed m_wayCost m_isWay m_next m_start m_token m_number m_letters m_isWrong m_sums m_steps m_chosen m_passed m_passedMany m_passedCost m_reach) sz) := by
  refine zMet (own := RX7) (fun A => zQi Z res.1 (wX7 Z Am res.2.1 res.2.2.1 m_saved res.2.2.2.1 m_aside m_sent m_text m_length m_way m_crossed m_wayCost res.2.2.2.2 m_next m_start m_token m_number m_letters m_isWrong m_sums m_steps m_chosen m_passed m_passedMany m_passedCost m_reach) A) (by decide) rfl (Nat.le_of_ble_eq_true rfl) ?_
  intro p e s m args below meth c ls A E hw hl
  unfold fX7_undo at h
  refine r_aload_n E hl 0 rfl dX7_undo_0 rfl ?_
  refine r_iconst E 0 dX7_undo_1 (by decide) ?_
  refine r_put E (wX7 Z Am (0 : Int32) m_s m_saved m_savedMany m_aside m_sent m_text m_length m_way m_crossed m_wayCost m_isWay m_next m_start m_token m_number m_letters m_isWrong m_sums m_steps m_chosen m_passed m_passedMany m_passedCost m_reach) kW_X7 tyX7_ok nmX7 hw 0 rfl rfl 0 (by decide) kF_X7_40 rfl rfl rfl (Nat.le_of_ble_eq_true rfl) rfl dX7_undo_2 (fun H locs hw => ?_)
  refine r_aload_n E hl 0 rfl dX7_undo_5 rfl ?_
  refine r_get E kW_X7 hw 0 rfl rfl 3 (by decide) kF_X7_44 rfl dX7_undo_6 ?_
  refine r_if_ne E 15 dX7_undo_9 (by decide) (fun hc => ?_) (fun hc => ?_)
  · replace h := ite_f hc h
    refine r_aload_n E hl 0 rfl dX7_undo_15 rfl ?_
    refine r_dup E dX7_undo_16 rfl ?_
    refine r_get E kW_X7 hw 0 rfl rfl 3 (by decide) kF_X7_44 rfl dX7_undo_17 ?_
    refine r_iconst E 1 dX7_undo_20 (by decide) ?_
    refine r_isub E dX7_undo_21 ?_
    refine r_put E (wX7 Z Am (0 : Int32) m_s m_saved (m_savedMany - (1 : Int32)) m_aside m_sent m_text m_length m_way m_crossed m_wayCost m_isWay m_next m_start m_token m_number m_letters m_isWrong m_sums m_steps m_chosen m_passed m_passedMany m_passedCost m_reach) kW_X7 tyX7_ok nmX7 hw 0 rfl rfl 3 (by decide) kF_X7_44 rfl rfl rfl (Nat.le_of_ble_eq_true rfl) rfl dX7_undo_22 (fun H locs hw => ?_)
    refine r_iconst E 0 dX7_undo_25 (by decide) ?_
    refine r_istore_n E [(1, .int (0 : Int32)), (0, .ref (Am 0))] hl dX7_undo_26 rfl (by decide) rfl (fun ls hl => ?_)
    obtain ⟨n5, h⟩ := wh_some h
    exact tX7_undo_27 E  n5 _ _ _ _ _ h hw (lv_sub hl [1, 0] rfl)
  · replace h := ite_t hc h
    refine r_bipush E (-2) dX7_undo_12 (by decide) ?_
    obtain rfl := Option.some.inj h
    exact r_iret E hw dX7_undo_14
abbrev rmX7_count : Room := { frames := 0, cells := 0, slots := 0, locals := 0 }

set_option maxRecDepth 100000 in
set_option maxHeartbeats 4000000 in
theorem tX7_count_75 {Z : zT} {p : Program} {l : Launch} {e : Env} {s : State} {m : MethodId} {args : Array Value} {below : List Frame} {meth : Method} {c : Code} {A : Nat → Prop} (E : zE Z p s m args meth c RX7 cX7_count 4 (some .int) A) {Am : Nat → Nat} {m_thrown : Int32} {m_s : (Nat → Int32)} {m_saved : (Nat → Int32)} {m_savedMany : Int32} {m_aside : (Nat → Int32)} {m_sent : (Nat → Int32)} {m_text : (Nat → Int32)} {m_length : Int32} {m_way : (Nat → Int32)} {m_crossed : Int32} {m_wayCost : Int32} {m_isWay : Int32} {m_next : Int32} {m_start : Int32} {m_token : Int32} {m_number : Int32} {m_letters : Int64} {m_isWrong : Int32} {m_sums : (Nat → Int32)} {m_steps : (Nat → Int32)} {m_chosen : Int32} {m_passed : (Nat → Int32)} {m_passedMany : Int32} {m_passedCost : Int32} {m_reach : (Nat → Int32)} {res : Int32 × Int32}  : ∀ (n : Nat) (v2 : Int32) (v3 : Int32) (H : Heap) (locs : List Loc) (ls : Array Slot), iter (fun b : Int32 × Int32 => sX7_count_75 m_thrown m_s b.1 b.2) n (v2, v3) = some res → zW Z A (wX7 Z Am m_thrown m_s m_saved m_savedMany m_aside m_sent m_text m_length m_way m_crossed m_wayCost m_isWay m_next m_start m_token m_number m_letters m_isWrong m_sums m_steps m_chosen m_passed m_passedMany m_passedCost m_reach) s.heap H locs → lv_has ls 4 [(0, .ref (Am 0)), (2, .int v2), (3, .int v3)] → W p l e rmX7_count s m args below meth c H locs 0 0 (MQ below (zQi Z res.1 (wX7 Z Am res.2 m_s m_saved m_savedMany m_aside m_sent m_text m_length m_way m_crossed m_wayCost m_isWay m_next m_start m_token m_number m_letters m_isWrong m_sums m_steps m_chosen m_passed m_passedMany m_passedCost m_reach) A) args s 0 0 A) (F0 m 75 ls []) := by
  intro n
  induction n with
  | zero => intro v2 v3 H locs ls h; cases h
  | succ n ih =>
    intro v2 v3 H locs ls h hw hl
    obtain ⟨q1, h, hn1, hr1⟩ := iter_out h
    have hb1 : ∀ b : Int32 × Int32, q1 = .inl b → ∀ (H : Heap) (locs : List Loc) (ls : Array Slot), zW Z A (wX7 Z Am m_thrown m_s m_saved m_savedMany m_aside m_sent m_text m_length m_way m_crossed m_wayCost m_isWay m_next m_start m_token m_number m_letters m_isWrong m_sums m_steps m_chosen m_passed m_passedMany m_passedCost m_reach) s.heap H locs → lv_has ls 4 [(0, .ref (Am 0)), (2, .int b.1), (3, .int b.2)] → W p l e rmX7_count s m args below meth c H locs 0 0 (MQ below (zQi Z res.1 (wX7 Z Am res.2 m_s m_saved m_savedMany m_aside m_sent m_text m_length m_way m_crossed m_wayCost m_isWay m_next m_start m_token m_number m_letters m_isWrong m_sums m_steps m_chosen m_passed m_passedMany m_passedCost m_reach) A) args s 0 0 A) (F0 m 75 ls []) := fun b eb H locs ls hw hl => ih b.1 b.2 H locs ls (hn1 b eb) hw hl
    replace h : sX7_count_75 m_thrown m_s v2 v3 = some q1 := h
    unfold sX7_count_75 at h
    refine r_iload_n E hl 2 rfl dX7_count_75 rfl ?_
    refine r_bipush E 16 dX7_count_76 (by decide) ?_
    refine r_icmp_ge E 99 dX7_count_78 (by decide) (fun hc => ?_) (fun hc => ?_)
    · replace h := ite_t hc h
      obtain ⟨ro4, h, hro4⟩ := oi_some h
      rw [hr1 _ hro4] at h
      refine r_iload_n E hl 1 rfl dX7_count_99 rfl ?_
      obtain rfl := Option.some.inj h
      exact r_iret E hw dX7_count_100
    · replace h := ite_f hc h
      refine r_iload_n E hl 1 rfl dX7_count_81 rfl ?_
      refine r_aload_n E hl 0 rfl dX7_count_82 rfl ?_
      refine r_get E kW_X7 hw 0 rfl rfl 1 (by decide) kF_X7_7 rfl dX7_count_83 ?_
      refine r_bipush E 14 dX7_count_86 (by decide) ?_
      refine r_iload_n E hl 2 rfl dX7_count_88 rfl ?_
      refine r_iadd E dX7_count_89 ?_
      obtain ⟨hg5, h⟩ := gd_some h
      refine r_iald E hw 1 rfl hg5 dX7_count_90 ?_
      refine r_iadd E dX7_count_91 ?_
      obtain ⟨w6, hw6, h⟩ := nm_out h
      refine r_nm hw6 ?_
      refine r_istore_n E [(2, .int w6), (0, .ref (Am 0)), (3, .int v3)] hl dX7_count_92 rfl (by decide) rfl (fun ls hl => ?_)
      obtain ⟨w7, hw7, h⟩ := nm_out h
      refine r_iinc E w7 [(3, .int w7), (2, .int w6), (0, .ref (Am 0))] hl (k := 2) rfl dX7_count_93 hw7.symm (by decide) rfl (fun ls hl => ?_)
      refine r_goto E 75 dX7_count_96 (by decide) ?_
      exact hb1 _ (Option.some.inj h).symm _ _ _ hw (lv_sub hl [2, 1, 0] rfl)
set_option maxRecDepth 100000 in
set_option maxHeartbeats 4000000 in
theorem mX7_count (l : Launch) (Z : zT) (sz : Nat) (Am : Nat → Nat) (m_thrown : Int32) (m_s : (Nat → Int32)) (m_saved : (Nat → Int32)) (m_savedMany : Int32) (m_aside : (Nat → Int32)) (m_sent : (Nat → Int32)) (m_text : (Nat → Int32)) (m_length : Int32) (m_way : (Nat → Int32)) (m_crossed : Int32) (m_wayCost : Int32) (m_isWay : Int32) (m_next : Int32) (m_start : Int32) (m_token : Int32) (m_number : Int32) (m_letters : Int64) (m_isWrong : Int32) (m_sums : (Nat → Int32)) (m_steps : (Nat → Int32)) (m_chosen : Int32) (m_passed : (Nat → Int32)) (m_passedMany : Int32) (m_passedCost : Int32) (m_reach : (Nat → Int32)) (v1 : Int32) {res : Int32 × Int32} (h : fX7_count v1 m_s m_savedMany m_length = some res) : Met l yX7_count (Cond.code yX7_count cX7_count 4 (some .int) :: zWs) rmX7_count (zP Z (wX7 Z Am m_thrown m_s m_saved m_savedMany m_aside m_sent m_text m_length m_way m_crossed m_wayCost m_isWay m_next m_start m_token m_number m_letters m_isWrong m_sums m_steps m_chosen m_passed m_passedMany m_passedCost m_reach) sz [.ref (Am 0), .int v1]) (zQi Z res.1 (wX7 Z Am res.2 m_s m_saved m_savedMany m_aside m_sent m_text m_length m_way m_crossed m_wayCost m_isWay m_next m_start m_token m_number m_letters m_isWrong m_sums m_steps m_chosen m_passed m_passedMany m_passedCost m_reach) (va_A (wX7 Z Am m_thrown m_s m_saved m_savedMany m_aside m_sent m_text m_length m_way m_crossed m_wayCost m_isWay m_next m_start m_token m_number m_letters m_isWrong m_sums m_steps m_chosen m_passed m_passedMany m_passedCost m_reach) sz)) 0 0 (va_A (wX7 Z Am m_thrown m_s m_saved m_savedMany m_aside m_sent m_text m_length m_way m_crossed m_wayCost m_isWay m_next m_start m_token m_number m_letters m_isWrong m_sums m_steps m_chosen m_passed m_passedMany m_passedCost m_reach) sz) := by
  refine zMet (own := RX7) (fun A => zQi Z res.1 (wX7 Z Am res.2 m_s m_saved m_savedMany m_aside m_sent m_text m_length m_way m_crossed m_wayCost m_isWay m_next m_start m_token m_number m_letters m_isWrong m_sums m_steps m_chosen m_passed m_passedMany m_passedCost m_reach) A) (by decide) rfl (Nat.le_of_ble_eq_true rfl) ?_
  intro p e s m args below meth c ls A E hw hl
  unfold fX7_count at h
  refine r_aload_n E hl 0 rfl dX7_count_0 rfl ?_
  refine r_iconst E 0 dX7_count_1 (by decide) ?_
  refine r_put E (wX7 Z Am (0 : Int32) m_s m_saved m_savedMany m_aside m_sent m_text m_length m_way m_crossed m_wayCost m_isWay m_next m_start m_token m_number m_letters m_isWrong m_sums m_steps m_chosen m_passed m_passedMany m_passedCost m_reach) kW_X7 tyX7_ok nmX7 hw 0 rfl rfl 0 (by decide) kF_X7_40 rfl rfl rfl (Nat.le_of_ble_eq_true rfl) rfl dX7_count_2 (fun H locs hw => ?_)
  refine r_iconst E 0 dX7_count_5 (by decide) ?_
  refine r_istore_n E [(2, .int (0 : Int32)), (0, .ref (Am 0)), (1, .int v1)] hl dX7_count_6 rfl (by decide) rfl (fun ls hl => ?_)
  refine r_iload_n E hl 2 rfl dX7_count_7 rfl ?_
  by_cases hc0 : v1 = (0 : Int32)
  · replace h := ite_t hc0 h
    refine r_tabIn E 52 dX7_count_8 (0 : Int32) hc0 (by decide) (by decide) rfl (by decide) ?_
    refine r_aload_n E hl 1 rfl dX7_count_52 rfl ?_
    refine r_get E kW_X7 hw 0 rfl rfl 1 (by decide) kF_X7_7 rfl dX7_count_53 ?_
    refine r_iconst E 0 dX7_count_56 (by decide) ?_
    obtain ⟨hg1, h⟩ := gd_some h
    refine r_iald E hw 1 rfl hg1 dX7_count_57 ?_
    obtain rfl := Option.some.inj h
    exact r_iret E hw dX7_count_58
  replace h := ite_f hc0 h
  by_cases hc1 : v1 = (1 : Int32)
  · replace h := ite_t hc1 h
    refine r_tabIn E 59 dX7_count_8 (1 : Int32) hc1 (by decide) (by decide) rfl (by decide) ?_
    refine r_aload_n E hl 1 rfl dX7_count_59 rfl ?_
    refine r_get E kW_X7 hw 0 rfl rfl 1 (by decide) kF_X7_7 rfl dX7_count_60 ?_
    refine r_iconst E 1 dX7_count_63 (by decide) ?_
    obtain ⟨hg2, h⟩ := gd_some h
    refine r_iald E hw 1 rfl hg2 dX7_count_64 ?_
    obtain rfl := Option.some.inj h
    exact r_iret E hw dX7_count_65
  replace h := ite_f hc1 h
  by_cases hc2 : v1 = (2 : Int32)
  · replace h := ite_t hc2 h
    refine r_tabIn E 66 dX7_count_8 (2 : Int32) hc2 (by decide) (by decide) rfl (by decide) ?_
    refine r_aload_n E hl 1 rfl dX7_count_66 rfl ?_
    refine r_get E kW_X7 hw 0 rfl rfl 1 (by decide) kF_X7_7 rfl dX7_count_67 ?_
    refine r_iconst E 2 dX7_count_70 (by decide) ?_
    obtain ⟨hg3, h⟩ := gd_some h
    refine r_iald E hw 1 rfl hg3 dX7_count_71 ?_
    obtain rfl := Option.some.inj h
    exact r_iret E hw dX7_count_72
  replace h := ite_f hc2 h
  by_cases hc3 : v1 = (3 : Int32)
  · replace h := ite_t hc3 h
    refine r_tabIn E 73 dX7_count_8 (3 : Int32) hc3 (by decide) (by decide) rfl (by decide) ?_
    refine r_iconst E 0 dX7_count_73 (by decide) ?_
    refine r_istore_n E [(3, .int (0 : Int32)), (2, .int (0 : Int32)), (0, .ref (Am 0)), (1, .int v1)] hl dX7_count_74 rfl (by decide) rfl (fun ls hl => ?_)
    obtain ⟨n8, h⟩ := wh_some h
    exact tX7_count_75 E  n8 _ _ _ _ _ h hw (lv_sub hl [2, 1, 0] rfl)
  replace h := ite_f hc3 h
  by_cases hc4 : v1 = (4 : Int32)
  · replace h := ite_t hc4 h
    refine r_tabIn E 101 dX7_count_8 (4 : Int32) hc4 (by decide) (by decide) rfl (by decide) ?_
    refine r_aload_n E hl 1 rfl dX7_count_101 rfl ?_
    refine r_get E kW_X7 hw 0 rfl rfl 1 (by decide) kF_X7_7 rfl dX7_count_102 ?_
    refine r_iconst E 3 dX7_count_105 (by decide) ?_
    obtain ⟨hg9, h⟩ := gd_some h
    refine r_iald E hw 1 rfl hg9 dX7_count_106 ?_
    obtain rfl := Option.some.inj h
    exact r_iret E hw dX7_count_107
  replace h := ite_f hc4 h
  by_cases hc5 : v1 = (5 : Int32)
  · replace h := ite_t hc5 h
    refine r_tabIn E 108 dX7_count_8 (5 : Int32) hc5 (by decide) (by decide) rfl (by decide) ?_
    refine r_aload_n E hl 1 rfl dX7_count_108 rfl ?_
    refine r_get E kW_X7 hw 0 rfl rfl 3 (by decide) kF_X7_44 rfl dX7_count_109 ?_
    obtain rfl := Option.some.inj h
    exact r_iret E hw dX7_count_112
  replace h := ite_f hc5 h
  by_cases hc6 : v1 = (6 : Int32)
  · replace h := ite_t hc6 h
    refine r_tabIn E 113 dX7_count_8 (6 : Int32) hc6 (by decide) (by decide) rfl (by decide) ?_
    refine r_aload_n E hl 1 rfl dX7_count_113 rfl ?_
    refine r_get E kW_X7 hw 0 rfl rfl 7 (by decide) kF_X7_151 rfl dX7_count_114 ?_
    obtain rfl := Option.some.inj h
    exact r_iret E hw dX7_count_117
  replace h := ite_f hc6 h
  refine r_tabOut E 118 dX7_count_8 (by have a0 := ne_toInt hc0 (k := 0) (by decide); have a1 := ne_toInt hc1 (k := 1) (by decide); have a2 := ne_toInt hc2 (k := 2) (by decide); have a3 := ne_toInt hc3 (k := 3) (by decide); have a4 := ne_toInt hc4 (k := 4) (by decide); have a5 := ne_toInt hc5 (k := 5) (by decide); have a6 := ne_toInt hc6 (k := 6) (by decide); omega) (by decide) ?_
  refine r_iconst E (-1) dX7_count_118 (by decide) ?_
  obtain rfl := Option.some.inj h
  exact r_iret E hw dX7_count_119
abbrev rmX7_isEntitled : Room := { frames := 2, cells := 0, slots := 0, locals := 43 }

set_option maxRecDepth 100000 in
set_option maxHeartbeats 4000000 in
theorem vX7_isEntitled_39 {Z : zT} {p : Program} {l : Launch} {e : Env} {s : State} {m : MethodId} {args : Array Value} {below : List Frame} {meth : Method} {c : Code} {A : Nat → Prop} (E : zE Z p s m args meth c RX7 cX7_isEntitled 3 (some .boolean) A) {Am : Nat → Nat} {m_thrown : Int32} {m_s : (Nat → Int32)} {m_saved : (Nat → Int32)} {m_savedMany : Int32} {m_aside : (Nat → Int32)} {m_sent : (Nat → Int32)} {m_text : (Nat → Int32)} {m_length : Int32} {m_way : (Nat → Int32)} {m_crossed : Int32} {m_wayCost : Int32} {m_isWay : Int32} {m_next : Int32} {m_start : Int32} {m_token : Int32} {m_number : Int32} {m_letters : Int64} {m_isWrong : Int32} {m_sums : (Nat → Int32)} {m_steps : (Nat → Int32)} {m_chosen : Int32} {m_passed : (Nat → Int32)} {m_passedMany : Int32} {m_passedCost : Int32} {m_reach : (Nat → Int32)} {res : Int32}  {H : Heap} {locs : List Loc} {ls : Array Slot} (hw : zW Z A (wX7 Z Am m_thrown m_s m_saved m_savedMany m_aside m_sent m_text m_length m_way m_crossed m_wayCost m_isWay m_next m_start m_token m_number m_letters m_isWrong m_sums m_steps m_chosen m_passed m_passedMany m_passedCost m_reach) s.heap H locs) (hl : lv_has ls 3 []) (h : uX7_isEntitled_39  = some res) : W p l e rmX7_isEntitled s m args below meth c H locs 0 0 (MQ below (zQi Z res (wX7 Z Am m_thrown m_s m_saved m_savedMany m_aside m_sent m_text m_length m_way m_crossed m_wayCost m_isWay m_next m_start m_token m_number m_letters m_isWrong m_sums m_steps m_chosen m_passed m_passedMany m_passedCost m_reach) A) args s 0 0 A) (F0 m 39 ls []) := by
  unfold uX7_isEntitled_39 at h
  refine r_iconst E 1 dX7_isEntitled_39 (by decide) ?_
  refine r_goto E 44 dX7_isEntitled_40 (by decide) ?_
  obtain rfl := Option.some.inj h
  exact r_zret E bz_1 hw dX7_isEntitled_44
set_option maxRecDepth 100000 in
set_option maxHeartbeats 4000000 in
theorem mX7_isEntitled (l : Launch) (Z : zT) (sz : Nat) (Am : Nat → Nat) (m_thrown : Int32) (m_s : (Nat → Int32)) (m_saved : (Nat → Int32)) (m_savedMany : Int32) (m_aside : (Nat → Int32)) (m_sent : (Nat → Int32)) (m_text : (Nat → Int32)) (m_length : Int32) (m_way : (Nat → Int32)) (m_crossed : Int32) (m_wayCost : Int32) (m_isWay : Int32) (m_next : Int32) (m_start : Int32) (m_token : Int32) (m_number : Int32) (m_letters : Int64) (m_isWrong : Int32) (m_sums : (Nat → Int32)) (m_steps : (Nat → Int32)) (m_chosen : Int32) (m_passed : (Nat → Int32)) (m_passedMany : Int32) (m_passedCost : Int32) (m_reach : (Nat → Int32)) (v1 : Int32) (v2 : Int32) {res : Int32} (h : fX7_isEntitled v1 v2 m_s = some res) : Met l yX7_isEntitled (Cond.code yX7_isEntitled cX7_isEntitled 3 (some .boolean) :: zWs) rmX7_isEntitled (zP Z (wX7 Z Am m_thrown m_s m_saved m_savedMany m_aside m_sent m_text m_length m_way m_crossed m_wayCost m_isWay m_next m_start m_token m_number m_letters m_isWrong m_sums m_steps m_chosen m_passed m_passedMany m_passedCost m_reach) sz [.ref (Am 0), .int v1, .int v2]) (zQi Z res (wX7 Z Am m_thrown m_s m_saved m_savedMany m_aside m_sent m_text m_length m_way m_crossed m_wayCost m_isWay m_next m_start m_token m_number m_letters m_isWrong m_sums m_steps m_chosen m_passed m_passedMany m_passedCost m_reach) (va_A (wX7 Z Am m_thrown m_s m_saved m_savedMany m_aside m_sent m_text m_length m_way m_crossed m_wayCost m_isWay m_next m_start m_token m_number m_letters m_isWrong m_sums m_steps m_chosen m_passed m_passedMany m_passedCost m_reach) sz)) 0 0 (va_A (wX7 Z Am m_thrown m_s m_saved m_savedMany m_aside m_sent m_text m_length m_way m_crossed m_wayCost m_isWay m_next m_start m_token m_number m_letters m_isWrong m_sums m_steps m_chosen m_passed m_passedMany m_passedCost m_reach) sz) := by
  refine zMet (own := RX7) (fun A => zQi Z res (wX7 Z Am m_thrown m_s m_saved m_savedMany m_aside m_sent m_text m_length m_way m_crossed m_wayCost m_isWay m_next m_start m_token m_number m_letters m_isWrong m_sums m_steps m_chosen m_passed m_passedMany m_passedCost m_reach) A) (by decide) rfl (Nat.le_of_ble_eq_true rfl) ?_
  intro p e s m args below meth c ls A E hw hl
  unfold fX7_isEntitled at h
  refine r_aload_n E hl 0 rfl dX7_isEntitled_0 rfl ?_
  refine r_iload_n E hl 2 rfl dX7_isEntitled_1 rfl ?_
  refine r_iconst E 4 dX7_isEntitled_2 (by decide) ?_
  obtain ⟨y1, hy1, h⟩ := bd_some h
  refine r_callVAi E hw (mX7_linkPart l Z _ Am m_thrown m_s m_saved m_savedMany m_aside m_sent m_text m_length m_way m_crossed m_wayCost m_isWay m_next m_start m_token m_number m_letters m_isWrong m_sums m_steps m_chosen m_passed m_passedMany m_passedCost m_reach v2 (4 : Int32) hy1) kL_X7_62 kI_X7_linkPart kS_X7_linkPart kN_X7 kC_X7_linkPart rfl rfl hdX7_linkPart ⟨Nat.le_of_ble_eq_true rfl, Nat.le_of_ble_eq_true rfl⟩ 0 rfl rfl rfl rfl hl [] rfl (Nat.le_of_ble_eq_true rfl) dX7_isEntitled_3 ⟨Nat.zero_le _, Nat.zero_le _⟩ (fun H locs hw => ?_)
  refine r_if_eq E 39 dX7_isEntitled_6 (by decide) (fun hc => ?_) (fun hc => ?_)
  · replace h := ite_t hc h
    exact vX7_isEntitled_39 E  hw (lv_sub hl [] rfl) h
  · replace h := ite_f hc h
    refine r_aload_n E hl 0 rfl dX7_isEntitled_9 rfl ?_
    refine r_iload_n E hl 2 rfl dX7_isEntitled_10 rfl ?_
    obtain ⟨y2, hy2, h⟩ := bd_some h
    refine r_callVAi E hw (mX7_owner l Z _ Am m_thrown m_s m_saved m_savedMany m_aside m_sent m_text m_length m_way m_crossed m_wayCost m_isWay m_next m_start m_token m_number m_letters m_isWrong m_sums m_steps m_chosen m_passed m_passedMany m_passedCost m_reach v2 hy2) kL_X7_81 kI_X7_owner kS_X7_owner kN_X7 kC_X7_owner rfl rfl hdX7_owner ⟨Nat.le_of_ble_eq_true rfl, Nat.le_of_ble_eq_true rfl⟩ 0 rfl rfl rfl rfl hl [] rfl (Nat.le_of_ble_eq_true rfl) dX7_isEntitled_11 ⟨Nat.zero_le _, Nat.zero_le _⟩ (fun H locs hw => ?_)
    refine r_iload_n E hl 1 rfl dX7_isEntitled_14 rfl ?_
    refine r_icmp_eq E 39 dX7_isEntitled_15 (by decide) (fun hc => ?_) (fun hc => ?_)
    · replace h := ite_t hc h
      exact vX7_isEntitled_39 E  hw (lv_sub hl [] rfl) h
    · replace h := ite_f hc h
      refine r_aload_n E hl 0 rfl dX7_isEntitled_18 rfl ?_
      refine r_get E kW_X7 hw 0 rfl rfl 1 (by decide) kF_X7_7 rfl dX7_isEntitled_19 ?_
      refine r_bipush E 14 dX7_isEntitled_22 (by decide) ?_
      refine r_iconst E 4 dX7_isEntitled_24 (by decide) ?_
      refine r_aload_n E hl 0 rfl dX7_isEntitled_25 rfl ?_
      refine r_iload_n E hl 2 rfl dX7_isEntitled_26 rfl ?_
      obtain ⟨y3, hy3, h⟩ := bd_some h
      refine r_callVAi E hw (mX7_owner l Z _ Am m_thrown m_s m_saved m_savedMany m_aside m_sent m_text m_length m_way m_crossed m_wayCost m_isWay m_next m_start m_token m_number m_letters m_isWrong m_sums m_steps m_chosen m_passed m_passedMany m_passedCost m_reach v2 hy3) kL_X7_81 kI_X7_owner kS_X7_owner kN_X7 kC_X7_owner rfl rfl hdX7_owner ⟨Nat.le_of_ble_eq_true rfl, Nat.le_of_ble_eq_true rfl⟩ 0 rfl rfl rfl rfl hl [.int (4 : Int32), .int (14 : Int32), .ref (Am 1)] rfl (Nat.le_of_ble_eq_true rfl) dX7_isEntitled_27 ⟨Nat.zero_le _, Nat.zero_le _⟩ (fun H locs hw => ?_)
      refine r_imul E dX7_isEntitled_30 ?_
      refine r_iadd E dX7_isEntitled_31 ?_
      refine r_iload_n E hl 1 rfl dX7_isEntitled_32 rfl ?_
      refine r_iadd E dX7_isEntitled_33 ?_
      obtain ⟨hg4, h⟩ := gd_some h
      refine r_iald E hw 1 rfl hg4 dX7_isEntitled_34 ?_
      refine r_iconst E 1 dX7_isEntitled_35 (by decide) ?_
      refine r_icmp_ne E 43 dX7_isEntitled_36 (by decide) (fun hc => ?_) (fun hc => ?_)
      · replace h := ite_f hc h
        refine r_iconst E 0 dX7_isEntitled_43 (by decide) ?_
        obtain rfl := Option.some.inj h
        exact r_zret E bz_0 hw dX7_isEntitled_44
      · replace h := ite_t hc h
        exact vX7_isEntitled_39 E  hw (lv_sub hl [] rfl) h
abbrev rmX7_isItem : Room := { frames := 1, cells := 0, slots := 0, locals := 22 }

set_option maxRecDepth 100000 in
set_option maxHeartbeats 4000000 in
theorem vX7_isItem_57 {Z : zT} {p : Program} {l : Launch} {e : Env} {s : State} {m : MethodId} {args : Array Value} {below : List Frame} {meth : Method} {c : Code} {A : Nat → Prop} (E : zE Z p s m args meth c RX7 cX7_isItem 2 (some .boolean) A) {Am : Nat → Nat} {m_thrown : Int32} {m_s : (Nat → Int32)} {m_saved : (Nat → Int32)} {m_savedMany : Int32} {m_aside : (Nat → Int32)} {m_sent : (Nat → Int32)} {m_text : (Nat → Int32)} {m_length : Int32} {m_way : (Nat → Int32)} {m_crossed : Int32} {m_wayCost : Int32} {m_isWay : Int32} {m_next : Int32} {m_start : Int32} {m_token : Int32} {m_number : Int32} {m_letters : Int64} {m_isWrong : Int32} {m_sums : (Nat → Int32)} {m_steps : (Nat → Int32)} {m_chosen : Int32} {m_passed : (Nat → Int32)} {m_passedMany : Int32} {m_passedCost : Int32} {m_reach : (Nat → Int32)} {res : Int32}  {H : Heap} {locs : List Loc} {ls : Array Slot} (hw : zW Z A (wX7 Z Am m_thrown m_s m_saved m_savedMany m_aside m_sent m_text m_length m_way m_crossed m_wayCost m_isWay m_next m_start m_token m_number m_letters m_isWrong m_sums m_steps m_chosen m_passed m_passedMany m_passedCost m_reach) s.heap H locs) (hl : lv_has ls 2 []) (h : uX7_isItem_57  = some res) : W p l e rmX7_isItem s m args below meth c H locs 0 0 (MQ below (zQi Z res (wX7 Z Am m_thrown m_s m_saved m_savedMany m_aside m_sent m_text m_length m_way m_crossed m_wayCost m_isWay m_next m_start m_token m_number m_letters m_isWrong m_sums m_steps m_chosen m_passed m_passedMany m_passedCost m_reach) A) args s 0 0 A) (F0 m 57 ls []) := by
  unfold uX7_isItem_57 at h
  refine r_iconst E 1 dX7_isItem_57 (by decide) ?_
  refine r_goto E 62 dX7_isItem_58 (by decide) ?_
  obtain rfl := Option.some.inj h
  exact r_zret E bz_1 hw dX7_isItem_62
set_option maxRecDepth 100000 in
set_option maxHeartbeats 4000000 in
theorem vX7_isItem_38 {Z : zT} {p : Program} {l : Launch} {e : Env} {s : State} {m : MethodId} {args : Array Value} {below : List Frame} {meth : Method} {c : Code} {A : Nat → Prop} (E : zE Z p s m args meth c RX7 cX7_isItem 2 (some .boolean) A) {Am : Nat → Nat} {v1 : Int32} {m_thrown : Int32} {m_s : (Nat → Int32)} {m_saved : (Nat → Int32)} {m_savedMany : Int32} {m_aside : (Nat → Int32)} {m_sent : (Nat → Int32)} {m_text : (Nat → Int32)} {m_length : Int32} {m_way : (Nat → Int32)} {m_crossed : Int32} {m_wayCost : Int32} {m_isWay : Int32} {m_next : Int32} {m_start : Int32} {m_token : Int32} {m_number : Int32} {m_letters : Int64} {m_isWrong : Int32} {m_sums : (Nat → Int32)} {m_steps : (Nat → Int32)} {m_chosen : Int32} {m_passed : (Nat → Int32)} {m_passedMany : Int32} {m_passedCost : Int32} {m_reach : (Nat → Int32)} {res : Int32}  {H : Heap} {locs : List Loc} {ls : Array Slot} (hw : zW Z A (wX7 Z Am m_thrown m_s m_saved m_savedMany m_aside m_sent m_text m_length m_way m_crossed m_wayCost m_isWay m_next m_start m_token m_number m_letters m_isWrong m_sums m_steps m_chosen m_passed m_passedMany m_passedCost m_reach) s.heap H locs) (hl : lv_has ls 2 [(0, .ref (Am 0)), (1, .int v1)]) (h : uX7_isItem_38 v1 m_s = some res) : W p l e rmX7_isItem s m args below meth c H locs 0 0 (MQ below (zQi Z res (wX7 Z Am m_thrown m_s m_saved m_savedMany m_aside m_sent m_text m_length m_way m_crossed m_wayCost m_isWay m_next m_start m_token m_number m_letters m_isWrong m_sums m_steps m_chosen m_passed m_passedMany m_passedCost m_reach) A) args s 0 0 A) (F0 m 38 ls []) := by
  unfold uX7_isItem_38 at h
  refine r_iload_n E hl 1 rfl dX7_isItem_38 rfl ?_
  refine r_bipush E 32 dX7_isItem_39 (by decide) ?_
  refine r_icmp_lt E 61 dX7_isItem_41 (by decide) (fun hc => ?_) (fun hc => ?_)
  · replace h := ite_t hc h
    refine r_iconst E 0 dX7_isItem_61 (by decide) ?_
    obtain rfl := Option.some.inj h
    exact r_zret E bz_0 hw dX7_isItem_62
  · replace h := ite_f hc h
    refine r_iload_n E hl 1 rfl dX7_isItem_44 rfl ?_
    refine r_bipush E 32 dX7_isItem_45 (by decide) ?_
    refine r_aload_n E hl 0 rfl dX7_isItem_47 rfl ?_
    refine r_get E kW_X7 hw 0 rfl rfl 1 (by decide) kF_X7_7 rfl dX7_isItem_48 ?_
    refine r_iconst E 2 dX7_isItem_51 (by decide) ?_
    obtain ⟨hg2, h⟩ := gd_some h
    refine r_iald E hw 1 rfl hg2 dX7_isItem_52 ?_
    refine r_iadd E dX7_isItem_53 ?_
    refine r_icmp_ge E 61 dX7_isItem_54 (by decide) (fun hc => ?_) (fun hc => ?_)
    · replace h := ite_t hc h
      refine r_iconst E 0 dX7_isItem_61 (by decide) ?_
      obtain rfl := Option.some.inj h
      exact r_zret E bz_0 hw dX7_isItem_62
    · replace h := ite_f hc h
      exact vX7_isItem_57 E  hw (lv_sub hl [] rfl) h
set_option maxRecDepth 100000 in
set_option maxHeartbeats 4000000 in
theorem vX7_isItem_19 {Z : zT} {p : Program} {l : Launch} {e : Env} {s : State} {m : MethodId} {args : Array Value} {below : List Frame} {meth : Method} {c : Code} {A : Nat → Prop} (E : zE Z p s m args meth c RX7 cX7_isItem 2 (some .boolean) A) {Am : Nat → Nat} {v1 : Int32} {m_thrown : Int32} {m_s : (Nat → Int32)} {m_saved : (Nat → Int32)} {m_savedMany : Int32} {m_aside : (Nat → Int32)} {m_sent : (Nat → Int32)} {m_text : (Nat → Int32)} {m_length : Int32} {m_way : (Nat → Int32)} {m_crossed : Int32} {m_wayCost : Int32} {m_isWay : Int32} {m_next : Int32} {m_start : Int32} {m_token : Int32} {m_number : Int32} {m_letters : Int64} {m_isWrong : Int32} {m_sums : (Nat → Int32)} {m_steps : (Nat → Int32)} {m_chosen : Int32} {m_passed : (Nat → Int32)} {m_passedMany : Int32} {m_passedCost : Int32} {m_reach : (Nat → Int32)} {res : Int32}  {H : Heap} {locs : List Loc} {ls : Array Slot} (hw : zW Z A (wX7 Z Am m_thrown m_s m_saved m_savedMany m_aside m_sent m_text m_length m_way m_crossed m_wayCost m_isWay m_next m_start m_token m_number m_letters m_isWrong m_sums m_steps m_chosen m_passed m_passedMany m_passedCost m_reach) s.heap H locs) (hl : lv_has ls 2 [(0, .ref (Am 0)), (1, .int v1)]) (h : uX7_isItem_19 v1 m_s = some res) : W p l e rmX7_isItem s m args below meth c H locs 0 0 (MQ below (zQi Z res (wX7 Z Am m_thrown m_s m_saved m_savedMany m_aside m_sent m_text m_length m_way m_crossed m_wayCost m_isWay m_next m_start m_token m_number m_letters m_isWrong m_sums m_steps m_chosen m_passed m_passedMany m_passedCost m_reach) A) args s 0 0 A) (F0 m 19 ls []) := by
  unfold uX7_isItem_19 at h
  refine r_iload_n E hl 1 rfl dX7_isItem_19 rfl ?_
  refine r_bipush E 16 dX7_isItem_20 (by decide) ?_
  refine r_icmp_lt E 38 dX7_isItem_22 (by decide) (fun hc => ?_) (fun hc => ?_)
  · replace h := ite_t hc h
    exact vX7_isItem_38 E  hw hl h
  · replace h := ite_f hc h
    refine r_iload_n E hl 1 rfl dX7_isItem_25 rfl ?_
    refine r_bipush E 16 dX7_isItem_26 (by decide) ?_
    refine r_aload_n E hl 0 rfl dX7_isItem_28 rfl ?_
    refine r_get E kW_X7 hw 0 rfl rfl 1 (by decide) kF_X7_7 rfl dX7_isItem_29 ?_
    refine r_iconst E 1 dX7_isItem_32 (by decide) ?_
    obtain ⟨hg3, h⟩ := gd_some h
    refine r_iald E hw 1 rfl hg3 dX7_isItem_33 ?_
    refine r_iadd E dX7_isItem_34 ?_
    refine r_icmp_lt E 57 dX7_isItem_35 (by decide) (fun hc => ?_) (fun hc => ?_)
    · replace h := ite_t hc h
      exact vX7_isItem_57 E  hw (lv_sub hl [] rfl) h
    · replace h := ite_f hc h
      exact vX7_isItem_38 E  hw hl h
set_option maxRecDepth 100000 in
set_option maxHeartbeats 4000000 in
theorem mX7_isItem (l : Launch) (Z : zT) (sz : Nat) (Am : Nat → Nat) (m_thrown : Int32) (m_s : (Nat → Int32)) (m_saved : (Nat → Int32)) (m_savedMany : Int32) (m_aside : (Nat → Int32)) (m_sent : (Nat → Int32)) (m_text : (Nat → Int32)) (m_length : Int32) (m_way : (Nat → Int32)) (m_crossed : Int32) (m_wayCost : Int32) (m_isWay : Int32) (m_next : Int32) (m_start : Int32) (m_token : Int32) (m_number : Int32) (m_letters : Int64) (m_isWrong : Int32) (m_sums : (Nat → Int32)) (m_steps : (Nat → Int32)) (m_chosen : Int32) (m_passed : (Nat → Int32)) (m_passedMany : Int32) (m_passedCost : Int32) (m_reach : (Nat → Int32)) (v1 : Int32) {res : Int32} (h : fX7_isItem v1 m_s = some res) : Met l yX7_isItem (Cond.code yX7_isItem cX7_isItem 2 (some .boolean) :: zWs) rmX7_isItem (zP Z (wX7 Z Am m_thrown m_s m_saved m_savedMany m_aside m_sent m_text m_length m_way m_crossed m_wayCost m_isWay m_next m_start m_token m_number m_letters m_isWrong m_sums m_steps m_chosen m_passed m_passedMany m_passedCost m_reach) sz [.ref (Am 0), .int v1]) (zQi Z res (wX7 Z Am m_thrown m_s m_saved m_savedMany m_aside m_sent m_text m_length m_way m_crossed m_wayCost m_isWay m_next m_start m_token m_number m_letters m_isWrong m_sums m_steps m_chosen m_passed m_passedMany m_passedCost m_reach) (va_A (wX7 Z Am m_thrown m_s m_saved m_savedMany m_aside m_sent m_text m_length m_way m_crossed m_wayCost m_isWay m_next m_start m_token m_number m_letters m_isWrong m_sums m_steps m_chosen m_passed m_passedMany m_passedCost m_reach) sz)) 0 0 (va_A (wX7 Z Am m_thrown m_s m_saved m_savedMany m_aside m_sent m_text m_length m_way m_crossed m_wayCost m_isWay m_next m_start m_token m_number m_letters m_isWrong m_sums m_steps m_chosen m_passed m_passedMany m_passedCost m_reach) sz) := by
  refine zMet (own := RX7) (fun A => zQi Z res (wX7 Z Am m_thrown m_s m_saved m_savedMany m_aside m_sent m_text m_length m_way m_crossed m_wayCost m_isWay m_next m_start m_token m_number m_letters m_isWrong m_sums m_steps m_chosen m_passed m_passedMany m_passedCost m_reach) A) (by decide) rfl (Nat.le_of_ble_eq_true rfl) ?_
  intro p e s m args below meth c ls A E hw hl
  unfold fX7_isItem at h
  refine r_iload_n E hl 1 rfl dX7_isItem_0 rfl ?_
  refine r_iconst E 0 dX7_isItem_1 (by decide) ?_
  refine r_bipush E 15 dX7_isItem_2 (by decide) ?_
  obtain ⟨y1, hy1, h⟩ := bd_some h
  refine r_callS0i E hw (mX7_in l Z _ v1 (0 : Int32) (15 : Int32) hy1) kL_X7_58 kT_X7_in kN_X7 kC_X7_in rfl rfl hdX7_in ⟨Nat.le_of_ble_eq_true rfl, Nat.le_of_ble_eq_true rfl⟩ rfl hl [] rfl (Nat.le_of_ble_eq_true rfl) dX7_isItem_4 ⟨Nat.zero_le _, Nat.zero_le _⟩ (fun H locs hw => ?_)
  refine r_if_eq E 19 dX7_isItem_7 (by decide) (fun hc => ?_) (fun hc => ?_)
  · replace h := ite_t hc h
    exact vX7_isItem_19 E  hw hl h
  · replace h := ite_f hc h
    refine r_iload_n E hl 1 rfl dX7_isItem_10 rfl ?_
    refine r_iconst E 4 dX7_isItem_11 (by decide) ?_
    refine r_idiv E dX7_isItem_12 (by decide) ?_
    refine r_iload_n E hl 1 rfl dX7_isItem_13 rfl ?_
    refine r_iconst E 4 dX7_isItem_14 (by decide) ?_
    refine r_irem E dX7_isItem_15 (by decide) ?_
    refine r_icmp_ne E 57 dX7_isItem_16 (by decide) (fun hc => ?_) (fun hc => ?_)
    · replace h := ite_f hc h
      exact vX7_isItem_57 E  hw (lv_sub hl [] rfl) h
    · replace h := ite_t hc h
      exact vX7_isItem_19 E  hw hl h
abbrev rmX7_versionOf : Room := { frames := 1, cells := 0, slots := 0, locals := 22 }

set_option maxRecDepth 100000 in
set_option maxHeartbeats 4000000 in
theorem mX7_versionOf (l : Launch) (Z : zT) (sz : Nat) (Am : Nat → Nat) (m_thrown : Int32) (m_s : (Nat → Int32)) (m_saved : (Nat → Int32)) (m_savedMany : Int32) (m_aside : (Nat → Int32)) (m_sent : (Nat → Int32)) (m_text : (Nat → Int32)) (m_length : Int32) (m_way : (Nat → Int32)) (m_crossed : Int32) (m_wayCost : Int32) (m_isWay : Int32) (m_next : Int32) (m_start : Int32) (m_token : Int32) (m_number : Int32) (m_letters : Int64) (m_isWrong : Int32) (m_sums : (Nat → Int32)) (m_steps : (Nat → Int32)) (m_chosen : Int32) (m_passed : (Nat → Int32)) (m_passedMany : Int32) (m_passedCost : Int32) (m_reach : (Nat → Int32)) (v1 : Int32) {res : Int32} (h : fX7_versionOf v1 m_s = some res) : Met l yX7_versionOf (Cond.code yX7_versionOf cX7_versionOf 2 (some .int) :: zWs) rmX7_versionOf (zP Z (wX7 Z Am m_thrown m_s m_saved m_savedMany m_aside m_sent m_text m_length m_way m_crossed m_wayCost m_isWay m_next m_start m_token m_number m_letters m_isWrong m_sums m_steps m_chosen m_passed m_passedMany m_passedCost m_reach) sz [.ref (Am 0), .int v1]) (zQi Z res (wX7 Z Am m_thrown m_s m_saved m_savedMany m_aside m_sent m_text m_length m_way m_crossed m_wayCost m_isWay m_next m_start m_token m_number m_letters m_isWrong m_sums m_steps m_chosen m_passed m_passedMany m_passedCost m_reach) (va_A (wX7 Z Am m_thrown m_s m_saved m_savedMany m_aside m_sent m_text m_length m_way m_crossed m_wayCost m_isWay m_next m_start m_token m_number m_letters m_isWrong m_sums m_steps m_chosen m_passed m_passedMany m_passedCost m_reach) sz)) 0 0 (va_A (wX7 Z Am m_thrown m_s m_saved m_savedMany m_aside m_sent m_text m_length m_way m_crossed m_wayCost m_isWay m_next m_start m_token m_number m_letters m_isWrong m_sums m_steps m_chosen m_passed m_passedMany m_passedCost m_reach) sz) := by
  refine zMet (own := RX7) (fun A => zQi Z res (wX7 Z Am m_thrown m_s m_saved m_savedMany m_aside m_sent m_text m_length m_way m_crossed m_wayCost m_isWay m_next m_start m_token m_number m_letters m_isWrong m_sums m_steps m_chosen m_passed m_passedMany m_passedCost m_reach) A) (by decide) rfl (Nat.le_of_ble_eq_true rfl) ?_
  intro p e s m args below meth c ls A E hw hl
  unfold fX7_versionOf at h
  refine r_iload_n E hl 1 rfl dX7_versionOf_0 rfl ?_
  refine r_bipush E 16 dX7_versionOf_1 (by decide) ?_
  refine r_icmp_ge E 18 dX7_versionOf_3 (by decide) (fun hc => ?_) (fun hc => ?_)
  · replace h := ite_t hc h
    refine r_iload_n E hl 1 rfl dX7_versionOf_18 rfl ?_
    refine r_bipush E 32 dX7_versionOf_19 (by decide) ?_
    refine r_icmp_ge E 36 dX7_versionOf_21 (by decide) (fun hc => ?_) (fun hc => ?_)
    · replace h := ite_t hc h
      refine r_aload_n E hl 0 rfl dX7_versionOf_36 rfl ?_
      refine r_iload_n E hl 1 rfl dX7_versionOf_37 rfl ?_
      refine r_bipush E 32 dX7_versionOf_38 (by decide) ?_
      refine r_isub E dX7_versionOf_40 ?_
      refine r_iconst E 4 dX7_versionOf_41 (by decide) ?_
      obtain ⟨y1, hy1, h⟩ := bd_some h
      refine r_callVAi E hw (mX7_tunnelPart l Z _ Am m_thrown m_s m_saved m_savedMany m_aside m_sent m_text m_length m_way m_crossed m_wayCost m_isWay m_next m_start m_token m_number m_letters m_isWrong m_sums m_steps m_chosen m_passed m_passedMany m_passedCost m_reach (v1 - (32 : Int32)) (4 : Int32) hy1) kL_X7_106 kI_X7_tunnelPart kS_X7_tunnelPart kN_X7 kC_X7_tunnelPart rfl rfl hdX7_tunnelPart ⟨Nat.le_of_ble_eq_true rfl, Nat.le_of_ble_eq_true rfl⟩ 0 rfl rfl rfl rfl hl [] rfl (Nat.le_of_ble_eq_true rfl) dX7_versionOf_42 ⟨Nat.zero_le _, Nat.zero_le _⟩ (fun H locs hw => ?_)
      obtain rfl := Option.some.inj h
      exact r_iret E hw dX7_versionOf_45
    · replace h := ite_f hc h
      refine r_aload_n E hl 0 rfl dX7_versionOf_24 rfl ?_
      refine r_iload_n E hl 1 rfl dX7_versionOf_25 rfl ?_
      refine r_bipush E 16 dX7_versionOf_26 (by decide) ?_
      refine r_isub E dX7_versionOf_28 ?_
      refine r_iconst E 5 dX7_versionOf_29 (by decide) ?_
      obtain ⟨y2, hy2, h⟩ := bd_some h
      refine r_callVAi E hw (mX7_linkPart l Z _ Am m_thrown m_s m_saved m_savedMany m_aside m_sent m_text m_length m_way m_crossed m_wayCost m_isWay m_next m_start m_token m_number m_letters m_isWrong m_sums m_steps m_chosen m_passed m_passedMany m_passedCost m_reach (v1 - (16 : Int32)) (5 : Int32) hy2) kL_X7_62 kI_X7_linkPart kS_X7_linkPart kN_X7 kC_X7_linkPart rfl rfl hdX7_linkPart ⟨Nat.le_of_ble_eq_true rfl, Nat.le_of_ble_eq_true rfl⟩ 0 rfl rfl rfl rfl hl [] rfl (Nat.le_of_ble_eq_true rfl) dX7_versionOf_30 ⟨Nat.zero_le _, Nat.zero_le _⟩ (fun H locs hw => ?_)
      refine r_goto E 45 dX7_versionOf_33 (by decide) ?_
      obtain rfl := Option.some.inj h
      exact r_iret E hw dX7_versionOf_45
  · replace h := ite_f hc h
    refine r_aload_n E hl 0 rfl dX7_versionOf_6 rfl ?_
    refine r_get E kW_X7 hw 0 rfl rfl 1 (by decide) kF_X7_7 rfl dX7_versionOf_7 ?_
    refine r_bipush E 30 dX7_versionOf_10 (by decide) ?_
    refine r_iload_n E hl 1 rfl dX7_versionOf_12 rfl ?_
    refine r_iadd E dX7_versionOf_13 ?_
    obtain ⟨hg3, h⟩ := gd_some h
    refine r_iald E hw 1 rfl hg3 dX7_versionOf_14 ?_
    refine r_goto E 45 dX7_versionOf_15 (by decide) ?_
    obtain rfl := Option.some.inj h
    exact r_iret E hw dX7_versionOf_45
abbrev rmX7_facts : Room := { frames := 2, cells := 0, slots := 0, locals := 44 }

set_option maxRecDepth 100000 in
set_option maxHeartbeats 4000000 in
theorem vX7_facts_26 {Z : zT} {p : Program} {l : Launch} {e : Env} {s : State} {m : MethodId} {args : Array Value} {below : List Frame} {meth : Method} {c : Code} {A : Nat → Prop} (E : zE Z p s m args meth c RX7 cX7_facts 4 (some .int) A) {Am : Nat → Nat} {v1 : Int32} {v3 : Int32} {k0 : Int32} {k1 : Int32} {m_thrown : Int32} {m_s : (Nat → Int32)} {m_saved : (Nat → Int32)} {m_savedMany : Int32} {m_aside : (Nat → Int32)} {m_sent : (Nat → Int32)} {m_text : (Nat → Int32)} {m_length : Int32} {m_way : (Nat → Int32)} {m_crossed : Int32} {m_wayCost : Int32} {m_isWay : Int32} {m_next : Int32} {m_start : Int32} {m_token : Int32} {m_number : Int32} {m_letters : Int64} {m_isWrong : Int32} {m_sums : (Nat → Int32)} {m_steps : (Nat → Int32)} {m_chosen : Int32} {m_passed : (Nat → Int32)} {m_passedMany : Int32} {m_passedCost : Int32} {m_reach : (Nat → Int32)} {res : Int32} {q1 : (Int32 × Int32) ⊕ (Int32)} (hb1 : ∀ b : Int32 × Int32, q1 = .inl b → ∀ (H : Heap) (locs : List Loc) (ls : Array Slot), zW Z A (wX7 Z Am m_thrown m_s m_saved m_savedMany m_aside m_sent m_text m_length m_way m_crossed m_wayCost m_isWay m_next m_start m_token m_number m_letters m_isWrong m_sums m_steps m_chosen m_passed m_passedMany m_passedCost m_reach) s.heap H locs → lv_has ls 4 [(0, .ref (Am 0)), (1, .int v1), (2, .int b.1), (3, .int b.2)] → W p l e rmX7_facts s m args below meth c H locs 0 0 (MQ below (zQi Z res (wX7 Z Am m_thrown m_s m_saved m_savedMany m_aside m_sent m_text m_length m_way m_crossed m_wayCost m_isWay m_next m_start m_token m_number m_letters m_isWrong m_sums m_steps m_chosen m_passed m_passedMany m_passedCost m_reach) A) args s 0 0 A) (F0 m 4 ls [])) (hr1 : ∀ r' , q1 = .inr r' → r' = res) {H : Heap} {locs : List Loc} {ls : Array Slot} (hw : zW Z A (wX7 Z Am m_thrown m_s m_saved m_savedMany m_aside m_sent m_text m_length m_way m_crossed m_wayCost m_isWay m_next m_start m_token m_number m_letters m_isWrong m_sums m_steps m_chosen m_passed m_passedMany m_passedCost m_reach) s.heap H locs) (hl : lv_has ls 4 [(0, .ref (Am 0)), (1, .int v1), (3, .int v3)]) (h : uX7_facts_26 v3 k0 k1 = some q1) : W p l e rmX7_facts s m args below meth c H locs 0 0 (MQ below (zQi Z res (wX7 Z Am m_thrown m_s m_saved m_savedMany m_aside m_sent m_text m_length m_way m_crossed m_wayCost m_isWay m_next m_start m_token m_number m_letters m_isWrong m_sums m_steps m_chosen m_passed m_passedMany m_passedCost m_reach) A) args s 0 0 A) (F0 m 26 ls [.int k1, .int k0]) := by
  unfold uX7_facts_26 at h
  refine r_iadd E dX7_facts_26 ?_
  obtain ⟨w3, hw3, h⟩ := nm_out h
  refine r_nm hw3 ?_
  refine r_istore_n E [(2, .int w3), (0, .ref (Am 0)), (1, .int v1), (3, .int v3)] hl dX7_facts_27 rfl (by decide) rfl (fun ls hl => ?_)
  obtain ⟨w4, hw4, h⟩ := nm_out h
  refine r_iinc E w4 [(3, .int w4), (2, .int w3), (0, .ref (Am 0)), (1, .int v1)] hl (k := 3) rfl dX7_facts_28 hw4.symm (by decide) rfl (fun ls hl => ?_)
  refine r_goto E 4 dX7_facts_31 (by decide) ?_
  exact hb1 _ (Option.some.inj h).symm _ _ _ hw (lv_sub hl [2, 3, 1, 0] rfl)
set_option maxRecDepth 100000 in
set_option maxHeartbeats 4000000 in
theorem tX7_facts_4 {Z : zT} {p : Program} {l : Launch} {e : Env} {s : State} {m : MethodId} {args : Array Value} {below : List Frame} {meth : Method} {c : Code} {A : Nat → Prop} (E : zE Z p s m args meth c RX7 cX7_facts 4 (some .int) A) {Am : Nat → Nat} {v1 : Int32} {m_thrown : Int32} {m_s : (Nat → Int32)} {m_saved : (Nat → Int32)} {m_savedMany : Int32} {m_aside : (Nat → Int32)} {m_sent : (Nat → Int32)} {m_text : (Nat → Int32)} {m_length : Int32} {m_way : (Nat → Int32)} {m_crossed : Int32} {m_wayCost : Int32} {m_isWay : Int32} {m_next : Int32} {m_start : Int32} {m_token : Int32} {m_number : Int32} {m_letters : Int64} {m_isWrong : Int32} {m_sums : (Nat → Int32)} {m_steps : (Nat → Int32)} {m_chosen : Int32} {m_passed : (Nat → Int32)} {m_passedMany : Int32} {m_passedCost : Int32} {m_reach : (Nat → Int32)} {res : Int32}  : ∀ (n : Nat) (v2 : Int32) (v3 : Int32) (H : Heap) (locs : List Loc) (ls : Array Slot), iter (fun b : Int32 × Int32 => sX7_facts_4 v1 m_s b.1 b.2) n (v2, v3) = some res → zW Z A (wX7 Z Am m_thrown m_s m_saved m_savedMany m_aside m_sent m_text m_length m_way m_crossed m_wayCost m_isWay m_next m_start m_token m_number m_letters m_isWrong m_sums m_steps m_chosen m_passed m_passedMany m_passedCost m_reach) s.heap H locs → lv_has ls 4 [(0, .ref (Am 0)), (1, .int v1), (2, .int v2), (3, .int v3)] → W p l e rmX7_facts s m args below meth c H locs 0 0 (MQ below (zQi Z res (wX7 Z Am m_thrown m_s m_saved m_savedMany m_aside m_sent m_text m_length m_way m_crossed m_wayCost m_isWay m_next m_start m_token m_number m_letters m_isWrong m_sums m_steps m_chosen m_passed m_passedMany m_passedCost m_reach) A) args s 0 0 A) (F0 m 4 ls []) := by
  intro n
  induction n with
  | zero => intro v2 v3 H locs ls h; cases h
  | succ n ih =>
    intro v2 v3 H locs ls h hw hl
    obtain ⟨q1, h, hn1, hr1⟩ := iter_out h
    have hb1 : ∀ b : Int32 × Int32, q1 = .inl b → ∀ (H : Heap) (locs : List Loc) (ls : Array Slot), zW Z A (wX7 Z Am m_thrown m_s m_saved m_savedMany m_aside m_sent m_text m_length m_way m_crossed m_wayCost m_isWay m_next m_start m_token m_number m_letters m_isWrong m_sums m_steps m_chosen m_passed m_passedMany m_passedCost m_reach) s.heap H locs → lv_has ls 4 [(0, .ref (Am 0)), (1, .int v1), (2, .int b.1), (3, .int b.2)] → W p l e rmX7_facts s m args below meth c H locs 0 0 (MQ below (zQi Z res (wX7 Z Am m_thrown m_s m_saved m_savedMany m_aside m_sent m_text m_length m_way m_crossed m_wayCost m_isWay m_next m_start m_token m_number m_letters m_isWrong m_sums m_steps m_chosen m_passed m_passedMany m_passedCost m_reach) A) args s 0 0 A) (F0 m 4 ls []) := fun b eb H locs ls hw hl => ih b.1 b.2 H locs ls (hn1 b eb) hw hl
    replace h : sX7_facts_4 v1 m_s v2 v3 = some q1 := h
    unfold sX7_facts_4 at h
    refine r_iload_n E hl 3 rfl dX7_facts_4 rfl ?_
    refine r_bipush E 35 dX7_facts_5 (by decide) ?_
    refine r_icmp_ge E 34 dX7_facts_7 (by decide) (fun hc => ?_) (fun hc => ?_)
    · replace h := ite_t hc h
      obtain ⟨ro1, h, hro1⟩ := oi_some h
      rw [hr1 _ hro1] at h
      refine r_iload_n E hl 2 rfl dX7_facts_34 rfl ?_
      obtain rfl := Option.some.inj h
      exact r_iret E hw dX7_facts_35
    · replace h := ite_f hc h
      refine r_iload_n E hl 2 rfl dX7_facts_10 rfl ?_
      refine r_aload_n E hl 0 rfl dX7_facts_11 rfl ?_
      refine r_iload_n E hl 1 rfl dX7_facts_12 rfl ?_
      refine r_iload_n E hl 3 rfl dX7_facts_13 rfl ?_
      refine r_iconst E 0 dX7_facts_14 (by decide) ?_
      obtain ⟨y2, hy2, h⟩ := bd_some h
      refine r_callVAi E hw (mX7_fact l Z _ Am m_thrown m_s m_saved m_savedMany m_aside m_sent m_text m_length m_way m_crossed m_wayCost m_isWay m_next m_start m_token m_number m_letters m_isWrong m_sums m_steps m_chosen m_passed m_passedMany m_passedCost m_reach v1 v3 (0 : Int32) hy2) kL_X7_73 kI_X7_fact kS_X7_fact kN_X7 kC_X7_fact rfl rfl hdX7_fact ⟨Nat.le_of_ble_eq_true rfl, Nat.le_of_ble_eq_true rfl⟩ 0 rfl rfl rfl rfl hl [.int v2] rfl (Nat.le_of_ble_eq_true rfl) dX7_facts_15 ⟨Nat.zero_le _, Nat.zero_le _⟩ (fun H locs hw => ?_)
      refine r_if_le E 25 dX7_facts_18 (by decide) (fun hc => ?_) (fun hc => ?_)
      · replace h := ite_t hc h
        refine r_iconst E 0 dX7_facts_25 (by decide) ?_
        exact vX7_facts_26 E hb1 hr1 hw (lv_sub hl [0, 1, 3] rfl) h
      · replace h := ite_f hc h
        refine r_iconst E 1 dX7_facts_21 (by decide) ?_
        refine r_goto E 26 dX7_facts_22 (by decide) ?_
        exact vX7_facts_26 E hb1 hr1 hw (lv_sub hl [0, 1, 3] rfl) h
set_option maxRecDepth 100000 in
set_option maxHeartbeats 4000000 in
theorem mX7_facts (l : Launch) (Z : zT) (sz : Nat) (Am : Nat → Nat) (m_thrown : Int32) (m_s : (Nat → Int32)) (m_saved : (Nat → Int32)) (m_savedMany : Int32) (m_aside : (Nat → Int32)) (m_sent : (Nat → Int32)) (m_text : (Nat → Int32)) (m_length : Int32) (m_way : (Nat → Int32)) (m_crossed : Int32) (m_wayCost : Int32) (m_isWay : Int32) (m_next : Int32) (m_start : Int32) (m_token : Int32) (m_number : Int32) (m_letters : Int64) (m_isWrong : Int32) (m_sums : (Nat → Int32)) (m_steps : (Nat → Int32)) (m_chosen : Int32) (m_passed : (Nat → Int32)) (m_passedMany : Int32) (m_passedCost : Int32) (m_reach : (Nat → Int32)) (v1 : Int32) {res : Int32} (h : fX7_facts v1 m_s = some res) : Met l yX7_facts (Cond.code yX7_facts cX7_facts 4 (some .int) :: zWs) rmX7_facts (zP Z (wX7 Z Am m_thrown m_s m_saved m_savedMany m_aside m_sent m_text m_length m_way m_crossed m_wayCost m_isWay m_next m_start m_token m_number m_letters m_isWrong m_sums m_steps m_chosen m_passed m_passedMany m_passedCost m_reach) sz [.ref (Am 0), .int v1]) (zQi Z res (wX7 Z Am m_thrown m_s m_saved m_savedMany m_aside m_sent m_text m_length m_way m_crossed m_wayCost m_isWay m_next m_start m_token m_number m_letters m_isWrong m_sums m_steps m_chosen m_passed m_passedMany m_passedCost m_reach) (va_A (wX7 Z Am m_thrown m_s m_saved m_savedMany m_aside m_sent m_text m_length m_way m_crossed m_wayCost m_isWay m_next m_start m_token m_number m_letters m_isWrong m_sums m_steps m_chosen m_passed m_passedMany m_passedCost m_reach) sz)) 0 0 (va_A (wX7 Z Am m_thrown m_s m_saved m_savedMany m_aside m_sent m_text m_length m_way m_crossed m_wayCost m_isWay m_next m_start m_token m_number m_letters m_isWrong m_sums m_steps m_chosen m_passed m_passedMany m_passedCost m_reach) sz) := by
  refine zMet (own := RX7) (fun A => zQi Z res (wX7 Z Am m_thrown m_s m_saved m_savedMany m_aside m_sent m_text m_length m_way m_crossed m_wayCost m_isWay m_next m_start m_token m_number m_letters m_isWrong m_sums m_steps m_chosen m_passed m_passedMany m_passedCost m_reach) A) (by decide) rfl (Nat.le_of_ble_eq_true rfl) ?_
  intro p e s m args below meth c ls A E hw hl
  unfold fX7_facts at h
  refine r_iconst E 0 dX7_facts_0 (by decide) ?_
  refine r_istore_n E [(2, .int (0 : Int32)), (0, .ref (Am 0)), (1, .int v1)] hl dX7_facts_1 rfl (by decide) rfl (fun ls hl => ?_)
  refine r_iconst E 0 dX7_facts_2 (by decide) ?_
  refine r_istore_n E [(3, .int (0 : Int32)), (2, .int (0 : Int32)), (0, .ref (Am 0)), (1, .int v1)] hl dX7_facts_3 rfl (by decide) rfl (fun ls hl => ?_)
  obtain ⟨n5, h⟩ := wh_some h
  exact tX7_facts_4 E  n5 _ _ _ _ _ h hw (lv_sub hl [2, 3, 1, 0] rfl)
abbrev rmX7_behind : Room := { frames := 3, cells := 0, slots := 0, locals := 65 }

set_option maxRecDepth 100000 in
set_option maxHeartbeats 4000000 in
theorem vX7_behind_99 {Z : zT} {p : Program} {l : Launch} {e : Env} {s : State} {m : MethodId} {args : Array Value} {below : List Frame} {meth : Method} {c : Code} {A : Nat → Prop} (E : zE Z p s m args meth c RX7 cX7_behind 6 (some .int) A) {Am : Nat → Nat} {v1 : Int32} {v3 : Int32} {k0 : Int32} {k1 : Int32} {m_thrown : Int32} {m_s : (Nat → Int32)} {m_saved : (Nat → Int32)} {m_savedMany : Int32} {m_aside : (Nat → Int32)} {m_sent : (Nat → Int32)} {m_text : (Nat → Int32)} {m_length : Int32} {m_way : (Nat → Int32)} {m_crossed : Int32} {m_wayCost : Int32} {m_isWay : Int32} {m_next : Int32} {m_start : Int32} {m_token : Int32} {m_number : Int32} {m_letters : Int64} {m_isWrong : Int32} {m_sums : (Nat → Int32)} {m_steps : (Nat → Int32)} {m_chosen : Int32} {m_passed : (Nat → Int32)} {m_passedMany : Int32} {m_passedCost : Int32} {m_reach : (Nat → Int32)} {res : Int32} {q1 : (Int32 × Int32) ⊕ (Int32)} (hb1 : ∀ b : Int32 × Int32, q1 = .inl b → ∀ (H : Heap) (locs : List Loc) (ls : Array Slot), zW Z A (wX7 Z Am m_thrown m_s m_saved m_savedMany m_aside m_sent m_text m_length m_way m_crossed m_wayCost m_isWay m_next m_start m_token m_number m_letters m_isWrong m_sums m_steps m_chosen m_passed m_passedMany m_passedCost m_reach) s.heap H locs → lv_has ls 6 [(0, .ref (Am 0)), (1, .int v1), (2, .int b.1), (3, .int b.2)] → W p l e rmX7_behind s m args below meth c H locs 0 0 (MQ below (zQi Z res (wX7 Z Am m_thrown m_s m_saved m_savedMany m_aside m_sent m_text m_length m_way m_crossed m_wayCost m_isWay m_next m_start m_token m_number m_letters m_isWrong m_sums m_steps m_chosen m_passed m_passedMany m_passedCost m_reach) A) args s 0 0 A) (F0 m 4 ls [])) (hr1 : ∀ r' , q1 = .inr r' → r' = res) {H : Heap} {locs : List Loc} {ls : Array Slot} (hw : zW Z A (wX7 Z Am m_thrown m_s m_saved m_savedMany m_aside m_sent m_text m_length m_way m_crossed m_wayCost m_isWay m_next m_start m_token m_number m_letters m_isWrong m_sums m_steps m_chosen m_passed m_passedMany m_passedCost m_reach) s.heap H locs) (hl : lv_has ls 6 [(0, .ref (Am 0)), (1, .int v1), (3, .int v3)]) (h : uX7_behind_99 v3 k0 k1 = some q1) : W p l e rmX7_behind s m args below meth c H locs 0 0 (MQ below (zQi Z res (wX7 Z Am m_thrown m_s m_saved m_savedMany m_aside m_sent m_text m_length m_way m_crossed m_wayCost m_isWay m_next m_start m_token m_number m_letters m_isWrong m_sums m_steps m_chosen m_passed m_passedMany m_passedCost m_reach) A) args s 0 0 A) (F0 m 99 ls [.int k1, .int k0]) := by
  unfold uX7_behind_99 at h
  refine r_iadd E dX7_behind_99 ?_
  obtain ⟨w3, hw3, h⟩ := nm_out h
  refine r_nm hw3 ?_
  refine r_istore_n E [(2, .int w3), (0, .ref (Am 0)), (1, .int v1), (3, .int v3)] hl dX7_behind_100 rfl (by decide) rfl (fun ls hl => ?_)
  obtain ⟨w4, hw4, h⟩ := nm_out h
  refine r_iinc E w4 [(3, .int w4), (2, .int w3), (0, .ref (Am 0)), (1, .int v1)] hl (k := 3) rfl dX7_behind_101 hw4.symm (by decide) rfl (fun ls hl => ?_)
  refine r_goto E 4 dX7_behind_104 (by decide) ?_
  exact hb1 _ (Option.some.inj h).symm _ _ _ hw (lv_sub hl [2, 3, 1, 0] rfl)
set_option maxRecDepth 100000 in
set_option maxHeartbeats 4000000 in
theorem vX7_behind_86 {Z : zT} {p : Program} {l : Launch} {e : Env} {s : State} {m : MethodId} {args : Array Value} {below : List Frame} {meth : Method} {c : Code} {A : Nat → Prop} (E : zE Z p s m args meth c RX7 cX7_behind 6 (some .int) A) {Am : Nat → Nat} {v1 : Int32} {v2 : Int32} {v3 : Int32} {k0 : Int32} {m_thrown : Int32} {m_s : (Nat → Int32)} {m_saved : (Nat → Int32)} {m_savedMany : Int32} {m_aside : (Nat → Int32)} {m_sent : (Nat → Int32)} {m_text : (Nat → Int32)} {m_length : Int32} {m_way : (Nat → Int32)} {m_crossed : Int32} {m_wayCost : Int32} {m_isWay : Int32} {m_next : Int32} {m_start : Int32} {m_token : Int32} {m_number : Int32} {m_letters : Int64} {m_isWrong : Int32} {m_sums : (Nat → Int32)} {m_steps : (Nat → Int32)} {m_chosen : Int32} {m_passed : (Nat → Int32)} {m_passedMany : Int32} {m_passedCost : Int32} {m_reach : (Nat → Int32)} {res : Int32} {q1 : (Int32 × Int32) ⊕ (Int32)} (hb1 : ∀ b : Int32 × Int32, q1 = .inl b → ∀ (H : Heap) (locs : List Loc) (ls : Array Slot), zW Z A (wX7 Z Am m_thrown m_s m_saved m_savedMany m_aside m_sent m_text m_length m_way m_crossed m_wayCost m_isWay m_next m_start m_token m_number m_letters m_isWrong m_sums m_steps m_chosen m_passed m_passedMany m_passedCost m_reach) s.heap H locs → lv_has ls 6 [(0, .ref (Am 0)), (1, .int v1), (2, .int b.1), (3, .int b.2)] → W p l e rmX7_behind s m args below meth c H locs 0 0 (MQ below (zQi Z res (wX7 Z Am m_thrown m_s m_saved m_savedMany m_aside m_sent m_text m_length m_way m_crossed m_wayCost m_isWay m_next m_start m_token m_number m_letters m_isWrong m_sums m_steps m_chosen m_passed m_passedMany m_passedCost m_reach) A) args s 0 0 A) (F0 m 4 ls [])) (hr1 : ∀ r' , q1 = .inr r' → r' = res) {H : Heap} {locs : List Loc} {ls : Array Slot} (hw : zW Z A (wX7 Z Am m_thrown m_s m_saved m_savedMany m_aside m_sent m_text m_length m_way m_crossed m_wayCost m_isWay m_next m_start m_token m_number m_letters m_isWrong m_sums m_steps m_chosen m_passed m_passedMany m_passedCost m_reach) s.heap H locs) (hl : lv_has ls 6 [(0, .ref (Am 0)), (1, .int v1), (2, .int v2), (3, .int v3)]) (h : uX7_behind_86 v2 v3 k0 = some q1) : W p l e rmX7_behind s m args below meth c H locs 0 0 (MQ below (zQi Z res (wX7 Z Am m_thrown m_s m_saved m_savedMany m_aside m_sent m_text m_length m_way m_crossed m_wayCost m_isWay m_next m_start m_token m_number m_letters m_isWrong m_sums m_steps m_chosen m_passed m_passedMany m_passedCost m_reach) A) args s 0 0 A) (F0 m 86 ls [.int k0]) := by
  unfold uX7_behind_86 at h
  refine r_istore E [(5, .int k0), (0, .ref (Am 0)), (1, .int v1), (2, .int v2), (3, .int v3)] hl dX7_behind_86 (by decide) rfl (fun ls hl => ?_)
  refine r_iload_n E hl 3 rfl dX7_behind_88 rfl ?_
  refine r_iload E hl 0 rfl dX7_behind_89 ?_
  refine r_if_eq E 98 dX7_behind_91 (by decide) (fun hc => ?_) (fun hc => ?_)
  · replace h := ite_t hc h
    refine r_iconst E 0 dX7_behind_98 (by decide) ?_
    exact vX7_behind_99 E hb1 hr1 hw (lv_sub hl [1, 2, 4] rfl) h
  · replace h := ite_f hc h
    refine r_iconst E 1 dX7_behind_94 (by decide) ?_
    refine r_goto E 99 dX7_behind_95 (by decide) ?_
    exact vX7_behind_99 E hb1 hr1 hw (lv_sub hl [1, 2, 4] rfl) h
set_option maxRecDepth 100000 in
set_option maxHeartbeats 4000000 in
theorem vX7_behind_85 {Z : zT} {p : Program} {l : Launch} {e : Env} {s : State} {m : MethodId} {args : Array Value} {below : List Frame} {meth : Method} {c : Code} {A : Nat → Prop} (E : zE Z p s m args meth c RX7 cX7_behind 6 (some .int) A) {Am : Nat → Nat} {v1 : Int32} {v2 : Int32} {v3 : Int32} {m_thrown : Int32} {m_s : (Nat → Int32)} {m_saved : (Nat → Int32)} {m_savedMany : Int32} {m_aside : (Nat → Int32)} {m_sent : (Nat → Int32)} {m_text : (Nat → Int32)} {m_length : Int32} {m_way : (Nat → Int32)} {m_crossed : Int32} {m_wayCost : Int32} {m_isWay : Int32} {m_next : Int32} {m_start : Int32} {m_token : Int32} {m_number : Int32} {m_letters : Int64} {m_isWrong : Int32} {m_sums : (Nat → Int32)} {m_steps : (Nat → Int32)} {m_chosen : Int32} {m_passed : (Nat → Int32)} {m_passedMany : Int32} {m_passedCost : Int32} {m_reach : (Nat → Int32)} {res : Int32} {q1 : (Int32 × Int32) ⊕ (Int32)} (hb1 : ∀ b : Int32 × Int32, q1 = .inl b → ∀ (H : Heap) (locs : List Loc) (ls : Array Slot), zW Z A (wX7 Z Am m_thrown m_s m_saved m_savedMany m_aside m_sent m_text m_length m_way m_crossed m_wayCost m_isWay m_next m_start m_token m_number m_letters m_isWrong m_sums m_steps m_chosen m_passed m_passedMany m_passedCost m_reach) s.heap H locs → lv_has ls 6 [(0, .ref (Am 0)), (1, .int v1), (2, .int b.1), (3, .int b.2)] → W p l e rmX7_behind s m args below meth c H locs 0 0 (MQ below (zQi Z res (wX7 Z Am m_thrown m_s m_saved m_savedMany m_aside m_sent m_text m_length m_way m_crossed m_wayCost m_isWay m_next m_start m_token m_number m_letters m_isWrong m_sums m_steps m_chosen m_passed m_passedMany m_passedCost m_reach) A) args s 0 0 A) (F0 m 4 ls [])) (hr1 : ∀ r' , q1 = .inr r' → r' = res) {H : Heap} {locs : List Loc} {ls : Array Slot} (hw : zW Z A (wX7 Z Am m_thrown m_s m_saved m_savedMany m_aside m_sent m_text m_length m_way m_crossed m_wayCost m_isWay m_next m_start m_token m_number m_letters m_isWrong m_sums m_steps m_chosen m_passed m_passedMany m_passedCost m_reach) s.heap H locs) (hl : lv_has ls 6 [(0, .ref (Am 0)), (1, .int v1), (2, .int v2), (3, .int v3)]) (h : uX7_behind_85 v2 v3 = some q1) : W p l e rmX7_behind s m args below meth c H locs 0 0 (MQ below (zQi Z res (wX7 Z Am m_thrown m_s m_saved m_savedMany m_aside m_sent m_text m_length m_way m_crossed m_wayCost m_isWay m_next m_start m_token m_number m_letters m_isWrong m_sums m_steps m_chosen m_passed m_passedMany m_passedCost m_reach) A) args s 0 0 A) (F0 m 85 ls []) := by
  unfold uX7_behind_85 at h
  refine r_iconst E 0 dX7_behind_85 (by decide) ?_
  exact vX7_behind_86 E hb1 hr1 hw hl h
set_option maxRecDepth 100000 in
set_option maxHeartbeats 4000000 in
theorem vX7_behind_81 {Z : zT} {p : Program} {l : Launch} {e : Env} {s : State} {m : MethodId} {args : Array Value} {below : List Frame} {meth : Method} {c : Code} {A : Nat → Prop} (E : zE Z p s m args meth c RX7 cX7_behind 6 (some .int) A) {Am : Nat → Nat} {v1 : Int32} {v2 : Int32} {v3 : Int32} {m_thrown : Int32} {m_s : (Nat → Int32)} {m_saved : (Nat → Int32)} {m_savedMany : Int32} {m_aside : (Nat → Int32)} {m_sent : (Nat → Int32)} {m_text : (Nat → Int32)} {m_length : Int32} {m_way : (Nat → Int32)} {m_crossed : Int32} {m_wayCost : Int32} {m_isWay : Int32} {m_next : Int32} {m_start : Int32} {m_token : Int32} {m_number : Int32} {m_letters : Int64} {m_isWrong : Int32} {m_sums : (Nat → Int32)} {m_steps : (Nat → Int32)} {m_chosen : Int32} {m_passed : (Nat → Int32)} {m_passedMany : Int32} {m_passedCost : Int32} {m_reach : (Nat → Int32)} {res : Int32} {q1 : (Int32 × Int32) ⊕ (Int32)} (hb1 : ∀ b : Int32 × Int32, q1 = .inl b → ∀ (H : Heap) (locs : List Loc) (ls : Array Slot), zW Z A (wX7 Z Am m_thrown m_s m_saved m_savedMany m_aside m_sent m_text m_length m_way m_crossed m_wayCost m_isWay m_next m_start m_token m_number m_letters m_isWrong m_sums m_steps m_chosen m_passed m_passedMany m_passedCost m_reach) s.heap H locs → lv_has ls 6 [(0, .ref (Am 0)), (1, .int v1), (2, .int b.1), (3, .int b.2)] → W p l e rmX7_behind s m args below meth c H locs 0 0 (MQ below (zQi Z res (wX7 Z Am m_thrown m_s m_saved m_savedMany m_aside m_sent m_text m_length m_way m_crossed m_wayCost m_isWay m_next m_start m_token m_number m_letters m_isWrong m_sums m_steps m_chosen m_passed m_passedMany m_passedCost m_reach) A) args s 0 0 A) (F0 m 4 ls [])) (hr1 : ∀ r' , q1 = .inr r' → r' = res) {H : Heap} {locs : List Loc} {ls : Array Slot} (hw : zW Z A (wX7 Z Am m_thrown m_s m_saved m_savedMany m_aside m_sent m_text m_length m_way m_crossed m_wayCost m_isWay m_next m_start m_token m_number m_letters m_isWrong m_sums m_steps m_chosen m_passed m_passedMany m_passedCost m_reach) s.heap H locs) (hl : lv_has ls 6 [(0, .ref (Am 0)), (1, .int v1), (2, .int v2), (3, .int v3)]) (h : uX7_behind_81 v2 v3 = some q1) : W p l e rmX7_behind s m args below meth c H locs 0 0 (MQ below (zQi Z res (wX7 Z Am m_thrown m_s m_saved m_savedMany m_aside m_sent m_text m_length m_way m_crossed m_wayCost m_isWay m_next m_start m_token m_number m_letters m_isWrong m_sums m_steps m_chosen m_passed m_passedMany m_passedCost m_reach) A) args s 0 0 A) (F0 m 81 ls []) := by
  unfold uX7_behind_81 at h
  refine r_iconst E 1 dX7_behind_81 (by decide) ?_
  refine r_goto E 86 dX7_behind_82 (by decide) ?_
  exact vX7_behind_86 E hb1 hr1 hw hl h
set_option maxRecDepth 100000 in
set_option maxHeartbeats 4000000 in
theorem vX7_behind_38 {Z : zT} {p : Program} {l : Launch} {e : Env} {s : State} {m : MethodId} {args : Array Value} {below : List Frame} {meth : Method} {c : Code} {A : Nat → Prop} (E : zE Z p s m args meth c RX7 cX7_behind 6 (some .int) A) {Am : Nat → Nat} {v1 : Int32} {v2 : Int32} {v3 : Int32} {k0 : Int32} {m_thrown : Int32} {m_s : (Nat → Int32)} {m_saved : (Nat → Int32)} {m_savedMany : Int32} {m_aside : (Nat → Int32)} {m_sent : (Nat → Int32)} {m_text : (Nat → Int32)} {m_length : Int32} {m_way : (Nat → Int32)} {m_crossed : Int32} {m_wayCost : Int32} {m_isWay : Int32} {m_next : Int32} {m_start : Int32} {m_token : Int32} {m_number : Int32} {m_letters : Int64} {m_isWrong : Int32} {m_sums : (Nat → Int32)} {m_steps : (Nat → Int32)} {m_chosen : Int32} {m_passed : (Nat → Int32)} {m_passedMany : Int32} {m_passedCost : Int32} {m_reach : (Nat → Int32)} {res : Int32} {q1 : (Int32 × Int32) ⊕ (Int32)} (hb1 : ∀ b : Int32 × Int32, q1 = .inl b → ∀ (H : Heap) (locs : List Loc) (ls : Array Slot), zW Z A (wX7 Z Am m_thrown m_s m_saved m_savedMany m_aside m_sent m_text m_length m_way m_crossed m_wayCost m_isWay m_next m_start m_token m_number m_letters m_isWrong m_sums m_steps m_chosen m_passed m_passedMany m_passedCost m_reach) s.heap H locs → lv_has ls 6 [(0, .ref (Am 0)), (1, .int v1), (2, .int b.1), (3, .int b.2)] → W p l e rmX7_behind s m args below meth c H locs 0 0 (MQ below (zQi Z res (wX7 Z Am m_thrown m_s m_saved m_savedMany m_aside m_sent m_text m_length m_way m_crossed m_wayCost m_isWay m_next m_start m_token m_number m_letters m_isWrong m_sums m_steps m_chosen m_passed m_passedMany m_passedCost m_reach) A) args s 0 0 A) (F0 m 4 ls [])) (hr1 : ∀ r' , q1 = .inr r' → r' = res) {H : Heap} {locs : List Loc} {ls : Array Slot} (hw : zW Z A (wX7 Z Am m_thrown m_s m_saved m_savedMany m_aside m_sent m_text m_length m_way m_crossed m_wayCost m_isWay m_next m_start m_token m_number m_letters m_isWrong m_sums m_steps m_chosen m_passed m_passedMany m_passedCost m_reach) s.heap H locs) (hl : lv_has ls 6 [(0, .ref (Am 0)), (1, .int v1), (2, .int v2), (3, .int v3)]) (h : uX7_behind_38 v1 v2 v3 k0 m_s = some q1) : W p l e rmX7_behind s m args below meth c H locs 0 0 (MQ below (zQi Z res (wX7 Z Am m_thrown m_s m_saved m_savedMany m_aside m_sent m_text m_length m_way m_crossed m_wayCost m_isWay m_next m_start m_token m_number m_letters m_isWrong m_sums m_steps m_chosen m_passed m_passedMany m_passedCost m_reach) A) args s 0 0 A) (F0 m 38 ls [.int k0]) := by
  unfold uX7_behind_38 at h
  refine r_istore E [(4, .int k0), (0, .ref (Am 0)), (1, .int v1), (2, .int v2), (3, .int v3)] hl dX7_behind_38 (by decide) rfl (fun ls hl => ?_)
  refine r_iload E hl 0 rfl dX7_behind_40 ?_
  refine r_if_eq E 85 dX7_behind_42 (by decide) (fun hc => ?_) (fun hc => ?_)
  · replace h := ite_t hc h
    exact vX7_behind_85 E hb1 hr1 hw (lv_sub hl [1, 2, 3, 4] rfl) h
  · replace h := ite_f hc h
    refine r_aload_n E hl 1 rfl dX7_behind_45 rfl ?_
    refine r_iload_n E hl 4 rfl dX7_behind_46 rfl ?_
    obtain ⟨y5, hy5, h⟩ := bd_some h
    refine r_callVAi E hw (mX7_isSecret l Z _ Am m_thrown m_s m_saved m_savedMany m_aside m_sent m_text m_length m_way m_crossed m_wayCost m_isWay m_next m_start m_token m_number m_letters m_isWrong m_sums m_steps m_chosen m_passed m_passedMany m_passedCost m_reach v3 hy5) kL_X7_77 kI_X7_isSecret kS_X7_isSecret kN_X7 kC_X7_isSecret rfl rfl hdX7_isSecret ⟨Nat.le_of_ble_eq_true rfl, Nat.le_of_ble_eq_true rfl⟩ 0 rfl rfl rfl rfl hl [] rfl (Nat.le_of_ble_eq_true rfl) dX7_behind_47 ⟨Nat.zero_le _, Nat.zero_le _⟩ (fun H locs hw => ?_)
    refine r_if_eq E 81 dX7_behind_50 (by decide) (fun hc => ?_) (fun hc => ?_)
    · replace h := ite_t hc h
      exact vX7_behind_81 E hb1 hr1 hw (lv_sub hl [1, 2, 3, 4] rfl) h
    · replace h := ite_f hc h
      refine r_aload_n E hl 1 rfl dX7_behind_53 rfl ?_
      refine r_iload_n E hl 2 rfl dX7_behind_54 rfl ?_
      refine r_iload_n E hl 4 rfl dX7_behind_55 rfl ?_
      refine r_bipush E 16 dX7_behind_56 (by decide) ?_
      refine r_isub E dX7_behind_58 ?_
      obtain ⟨y6, hy6, h⟩ := bd_some h
      refine r_callVAi E hw (mX7_isEnd l Z _ Am m_thrown m_s m_saved m_savedMany m_aside m_sent m_text m_length m_way m_crossed m_wayCost m_isWay m_next m_start m_token m_number m_letters m_isWrong m_sums m_steps m_chosen m_passed m_passedMany m_passedCost m_reach v1 (v3 - (16 : Int32)) hy6) kL_X7_84 kI_X7_isEnd kS_X7_isEnd kN_X7 kC_X7_isEnd rfl rfl hdX7_isEnd ⟨Nat.le_of_ble_eq_true rfl, Nat.le_of_ble_eq_true rfl⟩ 0 rfl rfl rfl rfl hl [] rfl (Nat.le_of_ble_eq_true rfl) dX7_behind_59 ⟨Nat.zero_le _, Nat.zero_le _⟩ (fun H locs hw => ?_)
      refine r_if_ne E 81 dX7_behind_62 (by decide) (fun hc => ?_) (fun hc => ?_)
      · replace h := ite_f hc h
        exact vX7_behind_81 E hb1 hr1 hw (lv_sub hl [1, 2, 3, 4] rfl) h
      · replace h := ite_t hc h
        refine r_aload_n E hl 1 rfl dX7_behind_65 rfl ?_
        refine r_aload_n E hl 1 rfl dX7_behind_66 rfl ?_
        refine r_iload_n E hl 2 rfl dX7_behind_67 rfl ?_
        obtain ⟨y7, hy7, h⟩ := bd_some h
        refine r_callVAi E hw (mX7_area l Z _ Am m_thrown m_s m_saved m_savedMany m_aside m_sent m_text m_length m_way m_crossed m_wayCost m_isWay m_next m_start m_token m_number m_letters m_isWrong m_sums m_steps m_chosen m_passed m_passedMany m_passedCost m_reach v1 hy7) kL_X7_66 kI_X7_area kS_X7_area kN_X7 kC_X7_area rfl rfl hdX7_area ⟨Nat.le_of_ble_eq_true rfl, Nat.le_of_ble_eq_true rfl⟩ 0 rfl rfl rfl rfl hl [.ref (Am 0)] rfl (Nat.le_of_ble_eq_true rfl) dX7_behind_68 ⟨Nat.zero_le _, Nat.zero_le _⟩ (fun H locs hw => ?_)
        refine r_iload_n E hl 4 rfl dX7_behind_71 rfl ?_
        refine r_bipush E 16 dX7_behind_72 (by decide) ?_
        refine r_isub E dX7_behind_74 ?_
        obtain ⟨y8, hy8, h⟩ := bd_some h
        refine r_callVAi E hw (mX7_isEntitled l Z _ Am m_thrown m_s m_saved m_savedMany m_aside m_sent m_text m_length m_way m_crossed m_wayCost m_isWay m_next m_start m_token m_number m_letters m_isWrong m_sums m_steps m_chosen m_passed m_passedMany m_passedCost m_reach y7 (v3 - (16 : Int32)) hy8) kL_X7_241 kI_X7_isEntitled kS_X7_isEntitled kN_X7 kC_X7_isEntitled rfl rfl hdX7_isEntitled ⟨Nat.le_of_ble_eq_true rfl, Nat.le_of_ble_eq_true rfl⟩ 0 rfl rfl rfl rfl hl [] rfl (Nat.le_of_ble_eq_true rfl) dX7_behind_75 ⟨Nat.zero_le _, Nat.zero_le _⟩ (fun H locs hw => ?_)
        refine r_if_eq E 85 dX7_behind_78 (by decide) (fun hc => ?_) (fun hc => ?_)
        · replace h := ite_t hc h
          exact vX7_behind_85 E hb1 hr1 hw (lv_sub hl [1, 2, 3, 4] rfl) h
        · replace h := ite_f hc h
          exact vX7_behind_81 E hb1 hr1 hw (lv_sub hl [1, 2, 3, 4] rfl) h
set_option maxRecDepth 100000 in
set_option maxHeartbeats 4000000 in
theorem vX7_behind_37 {Z : zT} {p : Program} {l : Launch} {e : Env} {s : State} {m : MethodId} {args : Array Value} {below : List Frame} {meth : Method} {c : Code} {A : Nat → Prop} (E : zE Z p s m args meth c RX7 cX7_behind 6 (some .int) A) {Am : Nat → Nat} {v1 : Int32} {v2 : Int32} {v3 : Int32} {m_thrown : Int32} {m_s : (Nat → Int32)} {m_saved : (Nat → Int32)} {m_savedMany : Int32} {m_aside : (Nat → Int32)} {m_sent : (Nat → Int32)} {m_text : (Nat → Int32)} {m_length : Int32} {m_way : (Nat → Int32)} {m_crossed : Int32} {m_wayCost : Int32} {m_isWay : Int32} {m_next : Int32} {m_start : Int32} {m_token : Int32} {m_number : Int32} {m_letters : Int64} {m_isWrong : Int32} {m_sums : (Nat → Int32)} {m_steps : (Nat → Int32)} {m_chosen : Int32} {m_passed : (Nat → Int32)} {m_passedMany : Int32} {m_passedCost : Int32} {m_reach : (Nat → Int32)} {res : Int32} {q1 : (Int32 × Int32) ⊕ (Int32)} (hb1 : ∀ b : Int32 × Int32, q1 = .inl b → ∀ (H : Heap) (locs : List Loc) (ls : Array Slot), zW Z A (wX7 Z Am m_thrown m_s m_saved m_savedMany m_aside m_sent m_text m_length m_way m_crossed m_wayCost m_isWay m_next m_start m_token m_number m_letters m_isWrong m_sums m_steps m_chosen m_passed m_passedMany m_passedCost m_reach) s.heap H locs → lv_has ls 6 [(0, .ref (Am 0)), (1, .int v1), (2, .int b.1), (3, .int b.2)] → W p l e rmX7_behind s m args below meth c H locs 0 0 (MQ below (zQi Z res (wX7 Z Am m_thrown m_s m_saved m_savedMany m_aside m_sent m_text m_length m_way m_crossed m_wayCost m_isWay m_next m_start m_token m_number m_letters m_isWrong m_sums m_steps m_chosen m_passed m_passedMany m_passedCost m_reach) A) args s 0 0 A) (F0 m 4 ls [])) (hr1 : ∀ r' , q1 = .inr r' → r' = res) {H : Heap} {locs : List Loc} {ls : Array Slot} (hw : zW Z A (wX7 Z Am m_thrown m_s m_saved m_savedMany m_aside m_sent m_text m_length m_way m_crossed m_wayCost m_isWay m_next m_start m_token m_number m_letters m_isWrong m_sums m_steps m_chosen m_passed m_passedMany m_passedCost m_reach) s.heap H locs) (hl : lv_has ls 6 [(0, .ref (Am 0)), (1, .int v1), (2, .int v2), (3, .int v3)]) (h : uX7_behind_37 v1 v2 v3 m_s = some q1) : W p l e rmX7_behind s m args below meth c H locs 0 0 (MQ below (zQi Z res (wX7 Z Am m_thrown m_s m_saved m_savedMany m_aside m_sent m_text m_length m_way m_crossed m_wayCost m_isWay m_next m_start m_token m_number m_letters m_isWrong m_sums m_steps m_chosen m_passed m_passedMany m_passedCost m_reach) A) args s 0 0 A) (F0 m 37 ls []) := by
  unfold uX7_behind_37 at h
  refine r_iconst E 0 dX7_behind_37 (by decide) ?_
  exact vX7_behind_38 E hb1 hr1 hw hl h
set_option maxRecDepth 100000 in
set_option maxHeartbeats 4000000 in
theorem tX7_behind_4 {Z : zT} {p : Program} {l : Launch} {e : Env} {s : State} {m : MethodId} {args : Array Value} {below : List Frame} {meth : Method} {c : Code} {A : Nat → Prop} (E : zE Z p s m args meth c RX7 cX7_behind 6 (some .int) A) {Am : Nat → Nat} {v1 : Int32} {m_thrown : Int32} {m_s : (Nat → Int32)} {m_saved : (Nat → Int32)} {m_savedMany : Int32} {m_aside : (Nat → Int32)} {m_sent : (Nat → Int32)} {m_text : (Nat → Int32)} {m_length : Int32} {m_way : (Nat → Int32)} {m_crossed : Int32} {m_wayCost : Int32} {m_isWay : Int32} {m_next : Int32} {m_start : Int32} {m_token : Int32} {m_number : Int32} {m_letters : Int64} {m_isWrong : Int32} {m_sums : (Nat → Int32)} {m_steps : (Nat → Int32)} {m_chosen : Int32} {m_passed : (Nat → Int32)} {m_passedMany : Int32} {m_passedCost : Int32} {m_reach : (Nat → Int32)} {res : Int32}  : ∀ (n : Nat) (v2 : Int32) (v3 : Int32) (H : Heap) (locs : List Loc) (ls : Array Slot), iter (fun b : Int32 × Int32 => sX7_behind_4 v1 m_s b.1 b.2) n (v2, v3) = some res → zW Z A (wX7 Z Am m_thrown m_s m_saved m_savedMany m_aside m_sent m_text m_length m_way m_crossed m_wayCost m_isWay m_next m_start m_token m_number m_letters m_isWrong m_sums m_steps m_chosen m_passed m_passedMany m_passedCost m_reach) s.heap H locs → lv_has ls 6 [(0, .ref (Am 0)), (1, .int v1), (2, .int v2), (3, .int v3)] → W p l e rmX7_behind s m args below meth c H locs 0 0 (MQ below (zQi Z res (wX7 Z Am m_thrown m_s m_saved m_savedMany m_aside m_sent m_text m_length m_way m_crossed m_wayCost m_isWay m_next m_start m_token m_number m_letters m_isWrong m_sums m_steps m_chosen m_passed m_passedMany m_passedCost m_reach) A) args s 0 0 A) (F0 m 4 ls []) := by
  intro n
  induction n with
  | zero => intro v2 v3 H locs ls h; cases h
  | succ n ih =>
    intro v2 v3 H locs ls h hw hl
    obtain ⟨q1, h, hn1, hr1⟩ := iter_out h
    have hb1 : ∀ b : Int32 × Int32, q1 = .inl b → ∀ (H : Heap) (locs : List Loc) (ls : Array Slot), zW Z A (wX7 Z Am m_thrown m_s m_saved m_savedMany m_aside m_sent m_text m_length m_way m_crossed m_wayCost m_isWay m_next m_start m_token m_number m_letters m_isWrong m_sums m_steps m_chosen m_passed m_passedMany m_passedCost m_reach) s.heap H locs → lv_has ls 6 [(0, .ref (Am 0)), (1, .int v1), (2, .int b.1), (3, .int b.2)] → W p l e rmX7_behind s m args below meth c H locs 0 0 (MQ below (zQi Z res (wX7 Z Am m_thrown m_s m_saved m_savedMany m_aside m_sent m_text m_length m_way m_crossed m_wayCost m_isWay m_next m_start m_token m_number m_letters m_isWrong m_sums m_steps m_chosen m_passed m_passedMany m_passedCost m_reach) A) args s 0 0 A) (F0 m 4 ls []) := fun b eb H locs ls hw hl => ih b.1 b.2 H locs ls (hn1 b eb) hw hl
    replace h : sX7_behind_4 v1 m_s v2 v3 = some q1 := h
    unfold sX7_behind_4 at h
    refine r_iload_n E hl 3 rfl dX7_behind_4 rfl ?_
    refine r_bipush E 35 dX7_behind_5 (by decide) ?_
    refine r_icmp_ge E 107 dX7_behind_7 (by decide) (fun hc => ?_) (fun hc => ?_)
    · replace h := ite_t hc h
      obtain ⟨ro1, h, hro1⟩ := oi_some h
      rw [hr1 _ hro1] at h
      refine r_iload_n E hl 2 rfl dX7_behind_107 rfl ?_
      obtain rfl := Option.some.inj h
      exact r_iret E hw dX7_behind_108
    · replace h := ite_f hc h
      refine r_aload_n E hl 0 rfl dX7_behind_10 rfl ?_
      refine r_iload_n E hl 3 rfl dX7_behind_11 rfl ?_
      obtain ⟨y2, hy2, h⟩ := bd_some h
      refine r_callVAi E hw (mX7_isItem l Z _ Am m_thrown m_s m_saved m_savedMany m_aside m_sent m_text m_length m_way m_crossed m_wayCost m_isWay m_next m_start m_token m_number m_letters m_isWrong m_sums m_steps m_chosen m_passed m_passedMany m_passedCost m_reach v3 hy2) kL_X7_235 kI_X7_isItem kS_X7_isItem kN_X7 kC_X7_isItem rfl rfl hdX7_isItem ⟨Nat.le_of_ble_eq_true rfl, Nat.le_of_ble_eq_true rfl⟩ 0 rfl rfl rfl rfl hl [] rfl (Nat.le_of_ble_eq_true rfl) dX7_behind_12 ⟨Nat.zero_le _, Nat.zero_le _⟩ (fun H locs hw => ?_)
      refine r_if_eq E 37 dX7_behind_15 (by decide) (fun hc => ?_) (fun hc => ?_)
      · replace h := ite_t hc h
        exact vX7_behind_37 E hb1 hr1 hw hl h
      · replace h := ite_f hc h
        refine r_aload_n E hl 0 rfl dX7_behind_18 rfl ?_
        refine r_iload_n E hl 3 rfl dX7_behind_19 rfl ?_
        obtain ⟨y9, hy9, h⟩ := bd_some h
        refine r_callVAi E hw (mX7_versionOf l Z _ Am m_thrown m_s m_saved m_savedMany m_aside m_sent m_text m_length m_way m_crossed m_wayCost m_isWay m_next m_start m_token m_number m_letters m_isWrong m_sums m_steps m_chosen m_passed m_passedMany m_passedCost m_reach v3 hy9) kL_X7_238 kI_X7_versionOf kS_X7_versionOf kN_X7 kC_X7_versionOf rfl rfl hdX7_versionOf ⟨Nat.le_of_ble_eq_true rfl, Nat.le_of_ble_eq_true rfl⟩ 0 rfl rfl rfl rfl hl [] rfl (Nat.le_of_ble_eq_true rfl) dX7_behind_20 ⟨Nat.zero_le _, Nat.zero_le _⟩ (fun H locs hw => ?_)
        refine r_aload_n E hl 0 rfl dX7_behind_23 rfl ?_
        refine r_iload_n E hl 1 rfl dX7_behind_24 rfl ?_
        refine r_iload_n E hl 3 rfl dX7_behind_25 rfl ?_
        refine r_iconst E 0 dX7_behind_26 (by decide) ?_
        obtain ⟨y10, hy10, h⟩ := bd_some h
        refine r_callVAi E hw (mX7_fact l Z _ Am m_thrown m_s m_saved m_savedMany m_aside m_sent m_text m_length m_way m_crossed m_wayCost m_isWay m_next m_start m_token m_number m_letters m_isWrong m_sums m_steps m_chosen m_passed m_passedMany m_passedCost m_reach v1 v3 (0 : Int32) hy10) kL_X7_73 kI_X7_fact kS_X7_fact kN_X7 kC_X7_fact rfl rfl hdX7_fact ⟨Nat.le_of_ble_eq_true rfl, Nat.le_of_ble_eq_true rfl⟩ 0 rfl rfl rfl rfl hl [.int y9] rfl (Nat.le_of_ble_eq_true rfl) dX7_behind_27 ⟨Nat.zero_le _, Nat.zero_le _⟩ (fun H locs hw => ?_)
        refine r_icmp_le E 37 dX7_behind_30 (by decide) (fun hc => ?_) (fun hc => ?_)
        · replace h := ite_t hc h
          exact vX7_behind_37 E hb1 hr1 hw hl h
        · replace h := ite_f hc h
          refine r_iconst E 1 dX7_behind_33 (by decide) ?_
          refine r_goto E 38 dX7_behind_34 (by decide) ?_
          exact vX7_behind_38 E hb1 hr1 hw hl h
set_option maxRecDepth 100000 in
set_option maxHeartbeats 4000000 in
theorem mX7_behind (l : Launch) (Z : zT) (sz : Nat) (Am : Nat → Nat) (m_thrown : Int32) (m_s : (Nat → Int32)) (m_saved : (Nat → Int32)) (m_savedMany : Int32) (m_aside : (Nat → Int32)) (m_sent : (Nat → Int32)) (m_text : (Nat → Int32)) (m_length : Int32) (m_way : (Nat → Int32)) (m_crossed : Int32) (m_wayCost : Int32) (m_isWay : Int32) (m_next : Int32) (m_start : Int32) (m_token : Int32) (m_number : Int32) (m_letters : Int64) (m_isWrong : Int32) (m_sums : (Nat → Int32)) (m_steps : (Nat → Int32)) (m_chosen : Int32) (m_passed : (Nat → Int32)) (m_passedMany : Int32) (m_passedCost : Int32) (m_reach : (Nat → Int32)) (v1 : Int32) {res : Int32} (h : fX7_behind v1 m_s = some res) : Met l yX7_behind (Cond.code yX7_behind cX7_behind 6 (some .int) :: zWs) rmX7_behind (zP Z (wX7 Z Am m_thrown m_s m_saved m_savedMany m_aside m_sent m_text m_length m_way m_crossed m_wayCost m_isWay m_next m_start m_token m_number m_letters m_isWrong m_sums m_steps m_chosen m_passed m_passedMany m_passedCost m_reach) sz [.ref (Am 0), .int v1]) (zQi Z res (wX7 Z Am m_thrown m_s m_saved m_savedMany m_aside m_sent m_text m_length m_way m_crossed m_wayCost m_isWay m_next m_start m_token m_number m_letters m_isWrong m_sums m_steps m_chosen m_passed m_passedMany m_passedCost m_reach) (va_A (wX7 Z Am m_thrown m_s m_saved m_savedMany m_aside m_sent m_text m_length m_way m_crossed m_wayCost m_isWay m_next m_start m_token m_number m_letters m_isWrong m_sums m_steps m_chosen m_passed m_passedMany m_passedCost m_reach) sz)) 0 0 (va_A (wX7 Z Am m_thrown m_s m_saved m_savedMany m_aside m_sent m_text m_length m_way m_crossed m_wayCost m_isWay m_next m_start m_token m_number m_letters m_isWrong m_sums m_steps m_chosen m_passed m_passedMany m_passedCost m_reach) sz) := by
  refine zMet (own := RX7) (fun A => zQi Z res (wX7 Z Am m_thrown m_s m_saved m_savedMany m_aside m_sent m_text m_length m_way m_crossed m_wayCost m_isWay m_next m_start m_token m_number m_letters m_isWrong m_sums m_steps m_chosen m_passed m_passedMany m_passedCost m_reach) A) (by decide) rfl (Nat.le_of_ble_eq_true rfl) ?_
  intro p e s m args below meth c ls A E hw hl
  unfold fX7_behind at h
  refine r_iconst E 0 dX7_behind_0 (by decide) ?_
  refine r_istore_n E [(2, .int (0 : Int32)), (0, .ref (Am 0)), (1, .int v1)] hl dX7_behind_1 rfl (by decide) rfl (fun ls hl => ?_)
  refine r_iconst E 0 dX7_behind_2 (by decide) ?_
  refine r_istore_n E [(3, .int (0 : Int32)), (2, .int (0 : Int32)), (0, .ref (Am 0)), (1, .int v1)] hl dX7_behind_3 rfl (by decide) rfl (fun ls hl => ?_)
  obtain ⟨n11, h⟩ := wh_some h
  exact tX7_behind_4 E  n11 _ _ _ _ _ h hw (lv_sub hl [2, 3, 1, 0] rfl)
abbrev rmX7_secrets : Room := { frames := 3, cells := 0, slots := 0, locals := 65 }

set_option maxRecDepth 100000 in
set_option maxHeartbeats 4000000 in
theorem vX7_secrets_55 {Z : zT} {p : Program} {l : Launch} {e : Env} {s : State} {m : MethodId} {args : Array Value} {below : List Frame} {meth : Method} {c : Code} {A : Nat → Prop} (E : zE Z p s m args meth c RX7 cX7_secrets 4 (some .int) A) {Am : Nat → Nat} {v1 : Int32} {v3 : Int32} {k0 : Int32} {k1 : Int32} {m_thrown : Int32} {m_s : (Nat → Int32)} {m_saved : (Nat → Int32)} {m_savedMany : Int32} {m_aside : (Nat → Int32)} {m_sent : (Nat → Int32)} {m_text : (Nat → Int32)} {m_length : Int32} {m_way : (Nat → Int32)} {m_crossed : Int32} {m_wayCost : Int32} {m_isWay : Int32} {m_next : Int32} {m_start : Int32} {m_token : Int32} {m_number : Int32} {m_letters : Int64} {m_isWrong : Int32} {m_sums : (Nat → Int32)} {m_steps : (Nat → Int32)} {m_chosen : Int32} {m_passed : (Nat → Int32)} {m_passedMany : Int32} {m_passedCost : Int32} {m_reach : (Nat → Int32)} {res : Int32} {q1 : (Int32 × Int32) ⊕ (Int32)} (hb1 : ∀ b : Int32 × Int32, q1 = .inl b → ∀ (H : Heap) (locs : List Loc) (ls : Array Slot), zW Z A (wX7 Z Am m_thrown m_s m_saved m_savedMany m_aside m_sent m_text m_length m_way m_crossed m_wayCost m_isWay m_next m_start m_token m_number m_letters m_isWrong m_sums m_steps m_chosen m_passed m_passedMany m_passedCost m_reach) s.heap H locs → lv_has ls 4 [(0, .ref (Am 0)), (1, .int v1), (2, .int b.1), (3, .int b.2)] → W p l e rmX7_secrets s m args below meth c H locs 0 0 (MQ below (zQi Z res (wX7 Z Am m_thrown m_s m_saved m_savedMany m_aside m_sent m_text m_length m_way m_crossed m_wayCost m_isWay m_next m_start m_token m_number m_letters m_isWrong m_sums m_steps m_chosen m_passed m_passedMany m_passedCost m_reach) A) args s 0 0 A) (F0 m 4 ls [])) (hr1 : ∀ r' , q1 = .inr r' → r' = res) {H : Heap} {locs : List Loc} {ls : Array Slot} (hw : zW Z A (wX7 Z Am m_thrown m_s m_saved m_savedMany m_aside m_sent m_text m_length m_way m_crossed m_wayCost m_isWay m_next m_start m_token m_number m_letters m_isWrong m_sums m_steps m_chosen m_passed m_passedMany m_passedCost m_reach) s.heap H locs) (hl : lv_has ls 4 [(0, .ref (Am 0)), (1, .int v1), (3, .int v3)]) (h : uX7_secrets_55 v3 k0 k1 = some q1) : W p l e rmX7_secrets s m args below meth c H locs 0 0 (MQ below (zQi Z res (wX7 Z Am m_thrown m_s m_saved m_savedMany m_aside m_sent m_text m_length m_way m_crossed m_wayCost m_isWay m_next m_start m_token m_number m_letters m_isWrong m_sums m_steps m_chosen m_passed m_passedMany m_passedCost m_reach) A) args s 0 0 A) (F0 m 55 ls [.int k1, .int k0]) := by
  unfold uX7_secrets_55 at h
  refine r_iadd E dX7_secrets_55 ?_
  obtain ⟨w4, hw4, h⟩ := nm_out h
  refine r_nm hw4 ?_
  refine r_istore_n E [(2, .int w4), (0, .ref (Am 0)), (1, .int v1), (3, .int v3)] hl dX7_secrets_56 rfl (by decide) rfl (fun ls hl => ?_)
  obtain ⟨w5, hw5, h⟩ := nm_out h
  refine r_iinc E w5 [(3, .int w5), (2, .int w4), (0, .ref (Am 0)), (1, .int v1)] hl (k := 3) rfl dX7_secrets_57 hw5.symm (by decide) rfl (fun ls hl => ?_)
  refine r_goto E 4 dX7_secrets_60 (by decide) ?_
  exact hb1 _ (Option.some.inj h).symm _ _ _ hw (lv_sub hl [2, 3, 1, 0] rfl)
set_option maxRecDepth 100000 in
set_option maxHeartbeats 4000000 in
theorem vX7_secrets_54 {Z : zT} {p : Program} {l : Launch} {e : Env} {s : State} {m : MethodId} {args : Array Value} {below : List Frame} {meth : Method} {c : Code} {A : Nat → Prop} (E : zE Z p s m args meth c RX7 cX7_secrets 4 (some .int) A) {Am : Nat → Nat} {v1 : Int32} {v3 : Int32} {k0 : Int32} {m_thrown : Int32} {m_s : (Nat → Int32)} {m_saved : (Nat → Int32)} {m_savedMany : Int32} {m_aside : (Nat → Int32)} {m_sent : (Nat → Int32)} {m_text : (Nat → Int32)} {m_length : Int32} {m_way : (Nat → Int32)} {m_crossed : Int32} {m_wayCost : Int32} {m_isWay : Int32} {m_next : Int32} {m_start : Int32} {m_token : Int32} {m_number : Int32} {m_letters : Int64} {m_isWrong : Int32} {m_sums : (Nat → Int32)} {m_steps : (Nat → Int32)} {m_chosen : Int32} {m_passed : (Nat → Int32)} {m_passedMany : Int32} {m_passedCost : Int32} {m_reach : (Nat → Int32)} {res : Int32} {q1 : (Int32 × Int32) ⊕ (Int32)} (hb1 : ∀ b : Int32 × Int32, q1 = .inl b → ∀ (H : Heap) (locs : List Loc) (ls : Array Slot), zW Z A (wX7 Z Am m_thrown m_s m_saved m_savedMany m_aside m_sent m_text m_length m_way m_crossed m_wayCost m_isWay m_next m_start m_token m_number m_letters m_isWrong m_sums m_steps m_chosen m_passed m_passedMany m_passedCost m_reach) s.heap H locs → lv_has ls 4 [(0, .ref (Am 0)), (1, .int v1), (2, .int b.1), (3, .int b.2)] → W p l e rmX7_secrets s m args below meth c H locs 0 0 (MQ below (zQi Z res (wX7 Z Am m_thrown m_s m_saved m_savedMany m_aside m_sent m_text m_length m_way m_crossed m_wayCost m_isWay m_next m_start m_token m_number m_letters m_isWrong m_sums m_steps m_chosen m_passed m_passedMany m_passedCost m_reach) A) args s 0 0 A) (F0 m 4 ls [])) (hr1 : ∀ r' , q1 = .inr r' → r' = res) {H : Heap} {locs : List Loc} {ls : Array Slot} (hw : zW Z A (wX7 Z Am m_thrown m_s m_saved m_savedMany m_aside m_sent m_text m_length m_way m_crossed m_wayCost m_isWay m_next m_start m_token m_number m_letters m_isWrong m_sums m_steps m_chosen m_passed m_passedMany m_passedCost m_reach) s.heap H locs) (hl : lv_has ls 4 [(0, .ref (Am 0)), (1, .int v1), (3, .int v3)]) (h : uX7_secrets_54 v3 k0 = some q1) : W p l e rmX7_secrets s m args below meth c H locs 0 0 (MQ below (zQi Z res (wX7 Z Am m_thrown m_s m_saved m_savedMany m_aside m_sent m_text m_length m_way m_crossed m_wayCost m_isWay m_next m_start m_token m_number m_letters m_isWrong m_sums m_steps m_chosen m_passed m_passedMany m_passedCost m_reach) A) args s 0 0 A) (F0 m 54 ls [.int k0]) := by
  unfold uX7_secrets_54 at h
  refine r_iconst E 0 dX7_secrets_54 (by decide) ?_
  exact vX7_secrets_55 E hb1 hr1 hw hl h
set_option maxRecDepth 100000 in
set_option maxHeartbeats 4000000 in
theorem tX7_secrets_4 {Z : zT} {p : Program} {l : Launch} {e : Env} {s : State} {m : MethodId} {args : Array Value} {below : List Frame} {meth : Method} {c : Code} {A : Nat → Prop} (E : zE Z p s m args meth c RX7 cX7_secrets 4 (some .int) A) {Am : Nat → Nat} {v1 : Int32} {m_thrown : Int32} {m_s : (Nat → Int32)} {m_saved : (Nat → Int32)} {m_savedMany : Int32} {m_aside : (Nat → Int32)} {m_sent : (Nat → Int32)} {m_text : (Nat → Int32)} {m_length : Int32} {m_way : (Nat → Int32)} {m_crossed : Int32} {m_wayCost : Int32} {m_isWay : Int32} {m_next : Int32} {m_start : Int32} {m_token : Int32} {m_number : Int32} {m_letters : Int64} {m_isWrong : Int32} {m_sums : (Nat → Int32)} {m_steps : (Nat → Int32)} {m_chosen : Int32} {m_passed : (Nat → Int32)} {m_passedMany : Int32} {m_passedCost : Int32} {m_reach : (Nat → Int32)} {res : Int32}  : ∀ (n : Nat) (v2 : Int32) (v3 : Int32) (H : Heap) (locs : List Loc) (ls : Array Slot), iter (fun b : Int32 × Int32 => sX7_secrets_4 v1 m_s b.1 b.2) n (v2, v3) = some res → zW Z A (wX7 Z Am m_thrown m_s m_saved m_savedMany m_aside m_sent m_text m_length m_way m_crossed m_wayCost m_isWay m_next m_start m_token m_number m_letters m_isWrong m_sums m_steps m_chosen m_passed m_passedMany m_passedCost m_reach) s.heap H locs → lv_has ls 4 [(0, .ref (Am 0)), (1, .int v1), (2, .int v2), (3, .int v3)] → W p l e rmX7_secrets s m args below meth c H locs 0 0 (MQ below (zQi Z res (wX7 Z Am m_thrown m_s m_saved m_savedMany m_aside m_sent m_text m_length m_way m_crossed m_wayCost m_isWay m_next m_start m_token m_number m_letters m_isWrong m_sums m_steps m_chosen m_passed m_passedMany m_passedCost m_reach) A) args s 0 0 A) (F0 m 4 ls []) := by
  intro n
  induction n with
  | zero => intro v2 v3 H locs ls h; cases h
  | succ n ih =>
    intro v2 v3 H locs ls h hw hl
    obtain ⟨q1, h, hn1, hr1⟩ := iter_out h
    have hb1 : ∀ b : Int32 × Int32, q1 = .inl b → ∀ (H : Heap) (locs : List Loc) (ls : Array Slot), zW Z A (wX7 Z Am m_thrown m_s m_saved m_savedMany m_aside m_sent m_text m_length m_way m_crossed m_wayCost m_isWay m_next m_start m_token m_number m_letters m_isWrong m_sums m_steps m_chosen m_passed m_passedMany m_passedCost m_reach) s.heap H locs → lv_has ls 4 [(0, .ref (Am 0)), (1, .int v1), (2, .int b.1), (3, .int b.2)] → W p l e rmX7_secrets s m args below meth c H locs 0 0 (MQ below (zQi Z res (wX7 Z Am m_thrown m_s m_saved m_savedMany m_aside m_sent m_text m_length m_way m_crossed m_wayCost m_isWay m_next m_start m_token m_number m_letters m_isWrong m_sums m_steps m_chosen m_passed m_passedMany m_passedCost m_reach) A) args s 0 0 A) (F0 m 4 ls []) := fun b eb H locs ls hw hl => ih b.1 b.2 H locs ls (hn1 b eb) hw hl
    replace h : sX7_secrets_4 v1 m_s v2 v3 = some q1 := h
    unfold sX7_secrets_4 at h
    refine r_iload_n E hl 3 rfl dX7_secrets_4 rfl ?_
    refine r_aload_n E hl 0 rfl dX7_secrets_5 rfl ?_
    refine r_get E kW_X7 hw 0 rfl rfl 1 (by decide) kF_X7_7 rfl dX7_secrets_6 ?_
    refine r_iconst E 1 dX7_secrets_9 (by decide) ?_
    obtain ⟨hg1, h⟩ := gd_some h
    refine r_iald E hw 1 rfl hg1 dX7_secrets_10 ?_
    refine r_icmp_ge E 63 dX7_secrets_11 (by decide) (fun hc => ?_) (fun hc => ?_)
    · replace h := ite_t hc h
      obtain ⟨ro2, h, hro2⟩ := oi_some h
      rw [hr1 _ hro2] at h
      refine r_iload_n E hl 2 rfl dX7_secrets_63 rfl ?_
      obtain rfl := Option.some.inj h
      exact r_iret E hw dX7_secrets_64
    · replace h := ite_f hc h
      refine r_iload_n E hl 2 rfl dX7_secrets_14 rfl ?_
      refine r_aload_n E hl 0 rfl dX7_secrets_15 rfl ?_
      refine r_iload_n E hl 1 rfl dX7_secrets_16 rfl ?_
      refine r_bipush E 16 dX7_secrets_17 (by decide) ?_
      refine r_iload_n E hl 3 rfl dX7_secrets_19 rfl ?_
      refine r_iadd E dX7_secrets_20 ?_
      refine r_iconst E 0 dX7_secrets_21 (by decide) ?_
      obtain ⟨y3, hy3, h⟩ := bd_some h
      refine r_callVAi E hw (mX7_fact l Z _ Am m_thrown m_s m_saved m_savedMany m_aside m_sent m_text m_length m_way m_crossed m_wayCost m_isWay m_next m_start m_token m_number m_letters m_isWrong m_sums m_steps m_chosen m_passed m_passedMany m_passedCost m_reach v1 ((16 : Int32) + v3) (0 : Int32) hy3) kL_X7_73 kI_X7_fact kS_X7_fact kN_X7 kC_X7_fact rfl rfl hdX7_fact ⟨Nat.le_of_ble_eq_true rfl, Nat.le_of_ble_eq_true rfl⟩ 0 rfl rfl rfl rfl hl [.int v2] rfl (Nat.le_of_ble_eq_true rfl) dX7_secrets_22 ⟨Nat.zero_le _, Nat.zero_le _⟩ (fun H locs hw => ?_)
      refine r_if_le E 54 dX7_secrets_25 (by decide) (fun hc => ?_) (fun hc => ?_)
      · replace h := ite_t hc h
        exact vX7_secrets_54 E hb1 hr1 hw (lv_sub hl [0, 1, 3] rfl) h
      · replace h := ite_f hc h
        refine r_aload_n E hl 0 rfl dX7_secrets_28 rfl ?_
        refine r_iload_n E hl 1 rfl dX7_secrets_29 rfl ?_
        refine r_iload_n E hl 3 rfl dX7_secrets_30 rfl ?_
        obtain ⟨y6, hy6, h⟩ := bd_some h
        refine r_callVAi E hw (mX7_isEnd l Z _ Am m_thrown m_s m_saved m_savedMany m_aside m_sent m_text m_length m_way m_crossed m_wayCost m_isWay m_next m_start m_token m_number m_letters m_isWrong m_sums m_steps m_chosen m_passed m_passedMany m_passedCost m_reach v1 v3 hy6) kL_X7_84 kI_X7_isEnd kS_X7_isEnd kN_X7 kC_X7_isEnd rfl rfl hdX7_isEnd ⟨Nat.le_of_ble_eq_true rfl, Nat.le_of_ble_eq_true rfl⟩ 0 rfl rfl rfl rfl hl [.int v2] rfl (Nat.le_of_ble_eq_true rfl) dX7_secrets_31 ⟨Nat.zero_le _, Nat.zero_le _⟩ (fun H locs hw => ?_)
        refine r_if_ne E 54 dX7_secrets_34 (by decide) (fun hc => ?_) (fun hc => ?_)
        · replace h := ite_f hc h
          exact vX7_secrets_54 E hb1 hr1 hw (lv_sub hl [0, 1, 3] rfl) h
        · replace h := ite_t hc h
          refine r_aload_n E hl 0 rfl dX7_secrets_37 rfl ?_
          refine r_aload_n E hl 0 rfl dX7_secrets_38 rfl ?_
          refine r_iload_n E hl 1 rfl dX7_secrets_39 rfl ?_
          obtain ⟨y7, hy7, h⟩ := bd_some h
          refine r_callVAi E hw (mX7_area l Z _ Am m_thrown m_s m_saved m_savedMany m_aside m_sent m_text m_length m_way m_crossed m_wayCost m_isWay m_next m_start m_token m_number m_letters m_isWrong m_sums m_steps m_chosen m_passed m_passedMany m_passedCost m_reach v1 hy7) kL_X7_66 kI_X7_area kS_X7_area kN_X7 kC_X7_area rfl rfl hdX7_area ⟨Nat.le_of_ble_eq_true rfl, Nat.le_of_ble_eq_true rfl⟩ 0 rfl rfl rfl rfl hl [.ref (Am 0), .int v2] rfl (Nat.le_of_ble_eq_true rfl) dX7_secrets_40 ⟨Nat.zero_le _, Nat.zero_le _⟩ (fun H locs hw => ?_)
          refine r_iload_n E hl 3 rfl dX7_secrets_43 rfl ?_
          obtain ⟨y8, hy8, h⟩ := bd_some h
          refine r_callVAi E hw (mX7_isEntitled l Z _ Am m_thrown m_s m_saved m_savedMany m_aside m_sent m_text m_length m_way m_crossed m_wayCost m_isWay m_next m_start m_token m_number m_letters m_isWrong m_sums m_steps m_chosen m_passed m_passedMany m_passedCost m_reach y7 v3 hy8) kL_X7_241 kI_X7_isEntitled kS_X7_isEntitled kN_X7 kC_X7_isEntitled rfl rfl hdX7_isEntitled ⟨Nat.le_of_ble_eq_true rfl, Nat.le_of_ble_eq_true rfl⟩ 0 rfl rfl rfl rfl hl [.int v2] rfl (Nat.le_of_ble_eq_true rfl) dX7_secrets_44 ⟨Nat.zero_le _, Nat.zero_le _⟩ (fun H locs hw => ?_)
          refine r_if_ne E 54 dX7_secrets_47 (by decide) (fun hc => ?_) (fun hc => ?_)
          · replace h := ite_f hc h
            exact vX7_secrets_54 E hb1 hr1 hw (lv_sub hl [0, 1, 3] rfl) h
          · replace h := ite_t hc h
            refine r_iconst E 1 dX7_secrets_50 (by decide) ?_
            refine r_goto E 55 dX7_secrets_51 (by decide) ?_
            exact vX7_secrets_55 E hb1 hr1 hw (lv_sub hl [0, 1, 3] rfl) h
set_option maxRecDepth 100000 in
set_option maxHeartbeats 4000000 in
theorem mX7_secrets (l : Launch) (Z : zT) (sz : Nat) (Am : Nat → Nat) (m_thrown : Int32) (m_s : (Nat → Int32)) (m_saved : (Nat → Int32)) (m_savedMany : Int32) (m_aside : (Nat → Int32)) (m_sent : (Nat → Int32)) (m_text : (Nat → Int32)) (m_length : Int32) (m_way : (Nat → Int32)) (m_crossed : Int32) (m_wayCost : Int32) (m_isWay : Int32) (m_next : Int32) (m_start : Int32) (m_token : Int32) (m_number : Int32) (m_letters : Int64) (m_isWrong : Int32) (m_sums : (Nat → Int32)) (m_steps : (Nat → Int32)) (m_chosen : Int32) (m_passed : (Nat → Int32)) (m_passedMany : Int32) (m_passedCost : Int32) (m_reach : (Nat → Int32)) (v1 : Int32) {res : Int32} (h : fX7_secrets v1 m_s = some res) : Met l yX7_secrets (Cond.code yX7_secrets cX7_secrets 4 (some .int) :: zWs) rmX7_secrets (zP Z (wX7 Z Am m_thrown m_s m_saved m_savedMany m_aside m_sent m_text m_length m_way m_crossed m_wayCost m_isWay m_next m_start m_token m_number m_letters m_isWrong m_sums m_steps m_chosen m_passed m_passedMany m_passedCost m_reach) sz [.ref (Am 0), .int v1]) (zQi Z res (wX7 Z Am m_thrown m_s m_saved m_savedMany m_aside m_sent m_text m_length m_way m_crossed m_wayCost m_isWay m_next m_start m_token m_number m_letters m_isWrong m_sums m_steps m_chosen m_passed m_passedMany m_passedCost m_reach) (va_A (wX7 Z Am m_thrown m_s m_saved m_savedMany m_aside m_sent m_text m_length m_way m_crossed m_wayCost m_isWay m_next m_start m_token m_number m_letters m_isWrong m_sums m_steps m_chosen m_passed m_passedMany m_passedCost m_reach) sz)) 0 0 (va_A (wX7 Z Am m_thrown m_s m_saved m_savedMany m_aside m_sent m_text m_length m_way m_crossed m_wayCost m_isWay m_next m_start m_token m_number m_letters m_isWrong m_sums m_steps m_chosen m_passed m_passedMany m_passedCost m_reach) sz) := by
  refine zMet (own := RX7) (fun A => zQi Z res (wX7 Z Am m_thrown m_s m_saved m_savedMany m_aside m_sent m_text m_length m_way m_crossed m_wayCost m_isWay m_next m_start m_token m_number m_letters m_isWrong m_sums m_steps m_chosen m_passed m_passedMany m_passedCost m_reach) A) (by decide) rfl (Nat.le_of_ble_eq_true rfl) ?_
  intro p e s m args below meth c ls A E hw hl
  unfold fX7_secrets at h
  refine r_iconst E 0 dX7_secrets_0 (by decide) ?_
  refine r_istore_n E [(2, .int (0 : Int32)), (0, .ref (Am 0)), (1, .int v1)] hl dX7_secrets_1 rfl (by decide) rfl (fun ls hl => ?_)
  refine r_iconst E 0 dX7_secrets_2 (by decide) ?_
  refine r_istore_n E [(3, .int (0 : Int32)), (2, .int (0 : Int32)), (0, .ref (Am 0)), (1, .int v1)] hl dX7_secrets_3 rfl (by decide) rfl (fun ls hl => ?_)
  obtain ⟨n9, h⟩ := wh_some h
  exact tX7_secrets_4 E  n9 _ _ _ _ _ h hw (lv_sub hl [2, 3, 1, 0] rfl)
abbrev rmX7_node : Room := { frames := 4, cells := 0, slots := 0, locals := 90 }

set_option maxRecDepth 100000 in
set_option maxHeartbeats 4000000 in
theorem mX7_node (l : Launch) (Z : zT) (sz : Nat) (Am : Nat → Nat) (m_thrown : Int32) (m_s : (Nat → Int32)) (m_saved : (Nat → Int32)) (m_savedMany : Int32) (m_aside : (Nat → Int32)) (m_sent : (Nat → Int32)) (m_text : (Nat → Int32)) (m_length : Int32) (m_way : (Nat → Int32)) (m_crossed : Int32) (m_wayCost : Int32) (m_isWay : Int32) (m_next : Int32) (m_start : Int32) (m_token : Int32) (m_number : Int32) (m_letters : Int64) (m_isWrong : Int32) (m_sums : (Nat → Int32)) (m_steps : (Nat → Int32)) (m_chosen : Int32) (m_passed : (Nat → Int32)) (m_passedMany : Int32) (m_passedCost : Int32) (m_reach : (Nat → Int32)) (v1 : Int32) (v2 : Int32) {res : Int32 × Int32} (h : fX7_node v1 v2 m_s = some res) : Met l yX7_node (Cond.code yX7_node cX7_node 3 (some .int) :: zWs) rmX7_node (zP Z (wX7 Z Am m_thrown m_s m_saved m_savedMany m_aside m_sent m_text m_length m_way m_crossed m_wayCost m_isWay m_next m_start m_token m_number m_letters m_isWrong m_sums m_steps m_chosen m_passed m_passedMany m_passedCost m_reach) sz [.ref (Am 0), .int v1, .int v2]) (zQi Z res.1 (wX7 Z Am res.2 m_s m_saved m_savedMany m_aside m_sent m_text m_length m_way m_crossed m_wayCost m_isWay m_next m_start m_token m_number m_letters m_isWrong m_sums m_steps m_chosen m_passed m_passedMany m_passedCost m_reach) (va_A (wX7 Z Am m_thrown m_s m_saved m_savedMany m_aside m_sent m_text m_length m_way m_crossed m_wayCost m_isWay m_next m_start m_token m_number m_letters m_isWrong m_sums m_steps m_chosen m_passed m_passedMany m_passedCost m_reach) sz)) 0 0 (va_A (wX7 Z Am m_thrown m_s m_saved m_savedMany m_aside m_sent m_text m_length m_way m_crossed m_wayCost m_isWay m_next m_start m_token m_number m_letters m_isWrong m_sums m_steps m_chosen m_passed m_passedMany m_passedCost m_reach) sz) := by
  refine zMet (own := RX7) (fun A => zQi Z res.1 (wX7 Z Am res.2 m_s m_saved m_savedMany m_aside m_sent m_text m_length m_way m_crossed m_wayCost m_isWay m_next m_start m_token m_number m_letters m_isWrong m_sums m_steps m_chosen m_passed m_passedMany m_passedCost m_reach) A) (by decide) rfl (Nat.le_of_ble_eq_true rfl) ?_
  intro p e s m args below meth c ls A E hw hl
  unfold fX7_node at h
  refine r_aload_n E hl 0 rfl dX7_node_0 rfl ?_
  refine r_iconst E 0 dX7_node_1 (by decide) ?_
  refine r_put E (wX7 Z Am (0 : Int32) m_s m_saved m_savedMany m_aside m_sent m_text m_length m_way m_crossed m_wayCost m_isWay m_next m_start m_token m_number m_letters m_isWrong m_sums m_steps m_chosen m_passed m_passedMany m_passedCost m_reach) kW_X7 tyX7_ok nmX7 hw 0 rfl rfl 0 (by decide) kF_X7_40 rfl rfl rfl (Nat.le_of_ble_eq_true rfl) rfl dX7_node_2 (fun H locs hw => ?_)
  refine r_aload_n E hl 0 rfl dX7_node_5 rfl ?_
  refine r_iload_n E hl 1 rfl dX7_node_6 rfl ?_
  obtain ⟨y1, hy1, h⟩ := bd_some h
  refine r_callVAi E hw (mX7_isNode l Z _ Am (0 : Int32) m_s m_saved m_savedMany m_aside m_sent m_text m_length m_way m_crossed m_wayCost m_isWay m_next m_start m_token m_number m_letters m_isWrong m_sums m_steps m_chosen m_passed m_passedMany m_passedCost m_reach v1 hy1) kL_X7_125 kI_X7_isNode kS_X7_isNode kN_X7 kC_X7_isNode rfl rfl hdX7_isNode ⟨Nat.le_of_ble_eq_true rfl, Nat.le_of_ble_eq_true rfl⟩ 0 rfl rfl rfl rfl hl [] rfl (Nat.le_of_ble_eq_true rfl) dX7_node_7 ⟨Nat.zero_le _, Nat.zero_le _⟩ (fun H locs hw => ?_)
  refine r_if_eq E 22 dX7_node_10 (by decide) (fun hc => ?_) (fun hc => ?_)
  · replace h := ite_t hc h
    refine r_iconst E (-1) dX7_node_22 (by decide) ?_
    obtain rfl := Option.some.inj h
    exact r_iret E hw dX7_node_23
  · replace h := ite_f hc h
    refine r_iload_n E hl 2 rfl dX7_node_13 rfl ?_
    refine r_iconst E 0 dX7_node_14 (by decide) ?_
    refine r_iconst E 4 dX7_node_15 (by decide) ?_
    obtain ⟨y2, hy2, h⟩ := bd_some h
    refine r_callS0i E hw (mX7_in l Z _ v2 (0 : Int32) (4 : Int32) hy2) kL_X7_58 kT_X7_in kN_X7 kC_X7_in rfl rfl hdX7_in ⟨Nat.le_of_ble_eq_true rfl, Nat.le_of_ble_eq_true rfl⟩ rfl hl [] rfl (Nat.le_of_ble_eq_true rfl) dX7_node_16 ⟨Nat.zero_le _, Nat.zero_le _⟩ (fun H locs hw => ?_)
    refine r_if_ne E 24 dX7_node_19 (by decide) (fun hc => ?_) (fun hc => ?_)
    · replace h := ite_f hc h
      refine r_iload_n E hl 2 rfl dX7_node_24 rfl ?_
      by_cases hc0 : v2 = (0 : Int32)
      · replace h := ite_t hc0 h
        refine r_tabIn E 56 dX7_node_25 (0 : Int32) hc0 (by decide) (by decide) rfl (by decide) ?_
        refine r_aload_n E hl 0 rfl dX7_node_56 rfl ?_
        refine r_iload_n E hl 1 rfl dX7_node_57 rfl ?_
        obtain ⟨y3, hy3, h⟩ := bd_some h
        refine r_callVAi E hw (mX7_area l Z _ Am (0 : Int32) m_s m_saved m_savedMany m_aside m_sent m_text m_length m_way m_crossed m_wayCost m_isWay m_next m_start m_token m_number m_letters m_isWrong m_sums m_steps m_chosen m_passed m_passedMany m_passedCost m_reach v1 hy3) kL_X7_66 kI_X7_area kS_X7_area kN_X7 kC_X7_area rfl rfl hdX7_area ⟨Nat.le_of_ble_eq_true rfl, Nat.le_of_ble_eq_true rfl⟩ 0 rfl rfl rfl rfl hl [] rfl (Nat.le_of_ble_eq_true rfl) dX7_node_58 ⟨Nat.zero_le _, Nat.zero_le _⟩ (fun H locs hw => ?_)
        obtain rfl := Option.some.inj h
        exact r_iret E hw dX7_node_61
      replace h := ite_f hc0 h
      by_cases hc1 : v2 = (1 : Int32)
      · replace h := ite_t hc1 h
        refine r_tabIn E 62 dX7_node_25 (1 : Int32) hc1 (by decide) (by decide) rfl (by decide) ?_
        refine r_aload_n E hl 0 rfl dX7_node_62 rfl ?_
        refine r_iload_n E hl 1 rfl dX7_node_63 rfl ?_
        obtain ⟨y4, hy4, h⟩ := bd_some h
        refine r_callVAi E hw (mX7_facts l Z _ Am (0 : Int32) m_s m_saved m_savedMany m_aside m_sent m_text m_length m_way m_crossed m_wayCost m_isWay m_next m_start m_token m_number m_letters m_isWrong m_sums m_steps m_chosen m_passed m_passedMany m_passedCost m_reach v1 hy4) kL_X7_244 kI_X7_facts kS_X7_facts kN_X7 kC_X7_facts rfl rfl hdX7_facts ⟨Nat.le_of_ble_eq_true rfl, Nat.le_of_ble_eq_true rfl⟩ 0 rfl rfl rfl rfl hl [] rfl (Nat.le_of_ble_eq_true rfl) dX7_node_64 ⟨Nat.zero_le _, Nat.zero_le _⟩ (fun H locs hw => ?_)
        obtain rfl := Option.some.inj h
        exact r_iret E hw dX7_node_67
      replace h := ite_f hc1 h
      by_cases hc2 : v2 = (2 : Int32)
      · replace h := ite_t hc2 h
        refine r_tabIn E 68 dX7_node_25 (2 : Int32) hc2 (by decide) (by decide) rfl (by decide) ?_
        refine r_aload_n E hl 0 rfl dX7_node_68 rfl ?_
        refine r_iload_n E hl 1 rfl dX7_node_69 rfl ?_
        obtain ⟨y5, hy5, h⟩ := bd_some h
        refine r_callVAi E hw (mX7_newsOf l Z _ Am (0 : Int32) m_s m_saved m_savedMany m_aside m_sent m_text m_length m_way m_crossed m_wayCost m_isWay m_next m_start m_token m_number m_letters m_isWrong m_sums m_steps m_chosen m_passed m_passedMany m_passedCost m_reach v1 hy5) kL_X7_216 kI_X7_newsOf kS_X7_newsOf kN_X7 kC_X7_newsOf rfl rfl hdX7_newsOf ⟨Nat.le_of_ble_eq_true rfl, Nat.le_of_ble_eq_true rfl⟩ 0 rfl rfl rfl rfl hl [] rfl (Nat.le_of_ble_eq_true rfl) dX7_node_70 ⟨Nat.zero_le _, Nat.zero_le _⟩ (fun H locs hw => ?_)
        obtain rfl := Option.some.inj h
        exact r_iret E hw dX7_node_73
      replace h := ite_f hc2 h
      by_cases hc3 : v2 = (3 : Int32)
      · replace h := ite_t hc3 h
        refine r_tabIn E 74 dX7_node_25 (3 : Int32) hc3 (by decide) (by decide) rfl (by decide) ?_
        refine r_aload_n E hl 0 rfl dX7_node_74 rfl ?_
        refine r_iload_n E hl 1 rfl dX7_node_75 rfl ?_
        obtain ⟨y6, hy6, h⟩ := bd_some h
        refine r_callVAi E hw (mX7_behind l Z _ Am (0 : Int32) m_s m_saved m_savedMany m_aside m_sent m_text m_length m_way m_crossed m_wayCost m_isWay m_next m_start m_token m_number m_letters m_isWrong m_sums m_steps m_chosen m_passed m_passedMany m_passedCost m_reach v1 hy6) kL_X7_247 kI_X7_behind kS_X7_behind kN_X7 kC_X7_behind rfl rfl hdX7_behind ⟨Nat.le_of_ble_eq_true rfl, Nat.le_of_ble_eq_true rfl⟩ 0 rfl rfl rfl rfl hl [] rfl (Nat.le_of_ble_eq_true rfl) dX7_node_76 ⟨Nat.zero_le _, Nat.zero_le _⟩ (fun H locs hw => ?_)
        obtain rfl := Option.some.inj h
        exact r_iret E hw dX7_node_79
      replace h := ite_f hc3 h
      refine r_tabOut E 80 dX7_node_25 (by have a0 := ne_toInt hc0 (k := 0) (by decide); have a1 := ne_toInt hc1 (k := 1) (by decide); have a2 := ne_toInt hc2 (k := 2) (by decide); have a3 := ne_toInt hc3 (k := 3) (by decide); omega) (by decide) ?_
      refine r_aload_n E hl 0 rfl dX7_node_80 rfl ?_
      refine r_iload_n E hl 1 rfl dX7_node_81 rfl ?_
      obtain ⟨y7, hy7, h⟩ := bd_some h
      refine r_callVAi E hw (mX7_secrets l Z _ Am (0 : Int32) m_s m_saved m_savedMany m_aside m_sent m_text m_length m_way m_crossed m_wayCost m_isWay m_next m_start m_token m_number m_letters m_isWrong m_sums m_steps m_chosen m_passed m_passedMany m_passedCost m_reach v1 hy7) kL_X7_250 kI_X7_secrets kS_X7_secrets kN_X7 kC_X7_secrets rfl rfl hdX7_secrets ⟨Nat.le_of_ble_eq_true rfl, Nat.le_of_ble_eq_true rfl⟩ 0 rfl rfl rfl rfl hl [] rfl (Nat.le_of_ble_eq_true rfl) dX7_node_82 ⟨Nat.zero_le _, Nat.zero_le _⟩ (fun H locs hw => ?_)
      obtain rfl := Option.some.inj h
      exact r_iret E hw dX7_node_85
    · replace h := ite_t hc h
      refine r_iconst E (-1) dX7_node_22 (by decide) ?_
      obtain rfl := Option.some.inj h
      exact r_iret E hw dX7_node_23
abbrev rmX7_link : Room := { frames := 2, cells := 0, slots := 0, locals := 43 }

set_option maxRecDepth 100000 in
set_option maxHeartbeats 4000000 in
theorem mX7_link (l : Launch) (Z : zT) (sz : Nat) (Am : Nat → Nat) (m_thrown : Int32) (m_s : (Nat → Int32)) (m_saved : (Nat → Int32)) (m_savedMany : Int32) (m_aside : (Nat → Int32)) (m_sent : (Nat → Int32)) (m_text : (Nat → Int32)) (m_length : Int32) (m_way : (Nat → Int32)) (m_crossed : Int32) (m_wayCost : Int32) (m_isWay : Int32) (m_next : Int32) (m_start : Int32) (m_token : Int32) (m_number : Int32) (m_letters : Int64) (m_isWrong : Int32) (m_sums : (Nat → Int32)) (m_steps : (Nat → Int32)) (m_chosen : Int32) (m_passed : (Nat → Int32)) (m_passedMany : Int32) (m_passedCost : Int32) (m_reach : (Nat → Int32)) (v1 : Int32) (v2 : Int32) {res : Int32 × Int32} (h : fX7_link v1 v2 m_s = some res) : Met l yX7_link (Cond.code yX7_link cX7_link 3 (some .int) :: zWs) rmX7_link (zP Z (wX7 Z Am m_thrown m_s m_saved m_savedMany m_aside m_sent m_text m_length m_way m_crossed m_wayCost m_isWay m_next m_start m_token m_number m_letters m_isWrong m_sums m_steps m_chosen m_passed m_passedMany m_passedCost m_reach) sz [.ref (Am 0), .int v1, .int v2]) (zQi Z res.1 (wX7 Z Am res.2 m_s m_saved m_savedMany m_aside m_sent m_text m_length m_way m_crossed m_wayCost m_isWay m_next m_start m_token m_number m_letters m_isWrong m_sums m_steps m_chosen m_passed m_passedMany m_passedCost m_reach) (va_A (wX7 Z Am m_thrown m_s m_saved m_savedMany m_aside m_sent m_text m_length m_way m_crossed m_wayCost m_isWay m_next m_start m_token m_number m_letters m_isWrong m_sums m_steps m_chosen m_passed m_passedMany m_passedCost m_reach) sz)) 0 0 (va_A (wX7 Z Am m_thrown m_s m_saved m_savedMany m_aside m_sent m_text m_length m_way m_crossed m_wayCost m_isWay m_next m_start m_token m_number m_letters m_isWrong m_sums m_steps m_chosen m_passed m_passedMany m_passedCost m_reach) sz) := by
  refine zMet (own := RX7) (fun A => zQi Z res.1 (wX7 Z Am res.2 m_s m_saved m_savedMany m_aside m_sent m_text m_length m_way m_crossed m_wayCost m_isWay m_next m_start m_token m_number m_letters m_isWrong m_sums m_steps m_chosen m_passed m_passedMany m_passedCost m_reach) A) (by decide) rfl (Nat.le_of_ble_eq_true rfl) ?_
  intro p e s m args below meth c ls A E hw hl
  unfold fX7_link at h
  refine r_aload_n E hl 0 rfl dX7_link_0 rfl ?_
  refine r_iconst E 0 dX7_link_1 (by decide) ?_
  refine r_put E (wX7 Z Am (0 : Int32) m_s m_saved m_savedMany m_aside m_sent m_text m_length m_way m_crossed m_wayCost m_isWay m_next m_start m_token m_number m_letters m_isWrong m_sums m_steps m_chosen m_passed m_passedMany m_passedCost m_reach) kW_X7 tyX7_ok nmX7 hw 0 rfl rfl 0 (by decide) kF_X7_40 rfl rfl rfl (Nat.le_of_ble_eq_true rfl) rfl dX7_link_2 (fun H locs hw => ?_)
  refine r_aload_n E hl 0 rfl dX7_link_5 rfl ?_
  refine r_iload_n E hl 1 rfl dX7_link_6 rfl ?_
  obtain ⟨y1, hy1, h⟩ := bd_some h
  refine r_callVAi E hw (mX7_isLink l Z _ Am (0 : Int32) m_s m_saved m_savedMany m_aside m_sent m_text m_length m_way m_crossed m_wayCost m_isWay m_next m_start m_token m_number m_letters m_isWrong m_sums m_steps m_chosen m_passed m_passedMany m_passedCost m_reach v1 hy1) kL_X7_135 kI_X7_isLink kS_X7_isLink kN_X7 kC_X7_isLink rfl rfl hdX7_isLink ⟨Nat.le_of_ble_eq_true rfl, Nat.le_of_ble_eq_true rfl⟩ 0 rfl rfl rfl rfl hl [] rfl (Nat.le_of_ble_eq_true rfl) dX7_link_7 ⟨Nat.zero_le _, Nat.zero_le _⟩ (fun H locs hw => ?_)
  refine r_if_eq E 31 dX7_link_10 (by decide) (fun hc => ?_) (fun hc => ?_)
  · replace h := ite_t hc h
    refine r_iconst E (-1) dX7_link_31 (by decide) ?_
    obtain rfl := Option.some.inj h
    exact r_iret E hw dX7_link_32
  · replace h := ite_f hc h
    refine r_iload_n E hl 2 rfl dX7_link_13 rfl ?_
    refine r_iconst E 0 dX7_link_14 (by decide) ?_
    refine r_iconst E 5 dX7_link_15 (by decide) ?_
    obtain ⟨y2, hy2, h⟩ := bd_some h
    refine r_callS0i E hw (mX7_in l Z _ v2 (0 : Int32) (5 : Int32) hy2) kL_X7_58 kT_X7_in kN_X7 kC_X7_in rfl rfl hdX7_in ⟨Nat.le_of_ble_eq_true rfl, Nat.le_of_ble_eq_true rfl⟩ rfl hl [] rfl (Nat.le_of_ble_eq_true rfl) dX7_link_16 ⟨Nat.zero_le _, Nat.zero_le _⟩ (fun H locs hw => ?_)
    refine r_if_eq E 31 dX7_link_19 (by decide) (fun hc => ?_) (fun hc => ?_)
    · replace h := ite_t hc h
      refine r_iconst E (-1) dX7_link_31 (by decide) ?_
      obtain rfl := Option.some.inj h
      exact r_iret E hw dX7_link_32
    · replace h := ite_f hc h
      refine r_aload_n E hl 0 rfl dX7_link_22 rfl ?_
      refine r_iload_n E hl 1 rfl dX7_link_23 rfl ?_
      refine r_iload_n E hl 2 rfl dX7_link_24 rfl ?_
      obtain ⟨y3, hy3, h⟩ := bd_some h
      refine r_callVAi E hw (mX7_linkPart l Z _ Am (0 : Int32) m_s m_saved m_savedMany m_aside m_sent m_text m_length m_way m_crossed m_wayCost m_isWay m_next m_start m_token m_number m_letters m_isWrong m_sums m_steps m_chosen m_passed m_passedMany m_passedCost m_reach v1 v2 hy3) kL_X7_62 kI_X7_linkPart kS_X7_linkPart kN_X7 kC_X7_linkPart rfl rfl hdX7_linkPart ⟨Nat.le_of_ble_eq_true rfl, Nat.le_of_ble_eq_true rfl⟩ 0 rfl rfl rfl rfl hl [] rfl (Nat.le_of_ble_eq_true rfl) dX7_link_25 ⟨Nat.zero_le _, Nat.zero_le _⟩ (fun H locs hw => ?_)
      refine r_goto E 32 dX7_link_28 (by decide) ?_
      obtain rfl := Option.some.inj h
      exact r_iret E hw dX7_link_32
abbrev rmX7_tunnel : Room := { frames := 2, cells := 0, slots := 0, locals := 43 }

set_option maxRecDepth 100000 in
set_option maxHeartbeats 4000000 in
theorem mX7_tunnel (l : Launch) (Z : zT) (sz : Nat) (Am : Nat → Nat) (m_thrown : Int32) (m_s : (Nat → Int32)) (m_saved : (Nat → Int32)) (m_savedMany : Int32) (m_aside : (Nat → Int32)) (m_sent : (Nat → Int32)) (m_text : (Nat → Int32)) (m_length : Int32) (m_way : (Nat → Int32)) (m_crossed : Int32) (m_wayCost : Int32) (m_isWay : Int32) (m_next : Int32) (m_start : Int32) (m_token : Int32) (m_number : Int32) (m_letters : Int64) (m_isWrong : Int32) (m_sums : (Nat → Int32)) (m_steps : (Nat → Int32)) (m_chosen : Int32) (m_passed : (Nat → Int32)) (m_passedMany : Int32) (m_passedCost : Int32) (m_reach : (Nat → Int32)) (v1 : Int32) (v2 : Int32) {res : Int32 × Int32} (h : fX7_tunnel v1 v2 m_s = some res) : Met l yX7_tunnel (Cond.code yX7_tunnel cX7_tunnel 3 (some .int) :: zWs) rmX7_tunnel (zP Z (wX7 Z Am m_thrown m_s m_saved m_savedMany m_aside m_sent m_text m_length m_way m_crossed m_wayCost m_isWay m_next m_start m_token m_number m_letters m_isWrong m_sums m_steps m_chosen m_passed m_passedMany m_passedCost m_reach) sz [.ref (Am 0), .int v1, .int v2]) (zQi Z res.1 (wX7 Z Am res.2 m_s m_saved m_savedMany m_aside m_sent m_text m_length m_way m_crossed m_wayCost m_isWay m_next m_start m_token m_number m_letters m_isWrong m_sums m_steps m_chosen m_passed m_passedMany m_passedCost m_reach) (va_A (wX7 Z Am m_thrown m_s m_saved m_savedMany m_aside m_sent m_text m_length m_way m_crossed m_wayCost m_isWay m_next m_start m_token m_number m_letters m_isWrong m_sums m_steps m_chosen m_passed m_passedMany m_passedCost m_reach) sz)) 0 0 (va_A (wX7 Z Am m_thrown m_s m_saved m_savedMany m_aside m_sent m_text m_length m_way m_crossed m_wayCost m_isWay m_next m_start m_token m_number m_letters m_isWrong m_sums m_steps m_chosen m_passed m_passedMany m_passedCost m_reach) sz) := by
  refine zMet (own := RX7) (fun A => zQi Z res.1 (wX7 Z Am res.2 m_s m_saved m_savedMany m_aside m_sent m_text m_length m_way m_crossed m_wayCost m_isWay m_next m_start m_token m_number m_letters m_isWrong m_sums m_steps m_chosen m_passed m_passedMany m_passedCost m_reach) A) (by decide) rfl (Nat.le_of_ble_eq_true rfl) ?_
  intro p e s m args below meth c ls A E hw hl
  unfold fX7_tunnel at h
  refine r_aload_n E hl 0 rfl dX7_tunnel_0 rfl ?_
  refine r_iconst E 0 dX7_tunnel_1 (by decide) ?_
  refine r_put E (wX7 Z Am (0 : Int32) m_s m_saved m_savedMany m_aside m_sent m_text m_length m_way m_crossed m_wayCost m_isWay m_next m_start m_token m_number m_letters m_isWrong m_sums m_steps m_chosen m_passed m_passedMany m_passedCost m_reach) kW_X7 tyX7_ok nmX7 hw 0 rfl rfl 0 (by decide) kF_X7_40 rfl rfl rfl (Nat.le_of_ble_eq_true rfl) rfl dX7_tunnel_2 (fun H locs hw => ?_)
  refine r_aload_n E hl 0 rfl dX7_tunnel_5 rfl ?_
  refine r_iload_n E hl 1 rfl dX7_tunnel_6 rfl ?_
  obtain ⟨y1, hy1, h⟩ := bd_some h
  refine r_callVAi E hw (mX7_isTunnel l Z _ Am (0 : Int32) m_s m_saved m_savedMany m_aside m_sent m_text m_length m_way m_crossed m_wayCost m_isWay m_next m_start m_token m_number m_letters m_isWrong m_sums m_steps m_chosen m_passed m_passedMany m_passedCost m_reach v1 hy1) kL_X7_148 kI_X7_isTunnel kS_X7_isTunnel kN_X7 kC_X7_isTunnel rfl rfl hdX7_isTunnel ⟨Nat.le_of_ble_eq_true rfl, Nat.le_of_ble_eq_true rfl⟩ 0 rfl rfl rfl rfl hl [] rfl (Nat.le_of_ble_eq_true rfl) dX7_tunnel_7 ⟨Nat.zero_le _, Nat.zero_le _⟩ (fun H locs hw => ?_)
  refine r_if_eq E 31 dX7_tunnel_10 (by decide) (fun hc => ?_) (fun hc => ?_)
  · replace h := ite_t hc h
    refine r_iconst E (-1) dX7_tunnel_31 (by decide) ?_
    obtain rfl := Option.some.inj h
    exact r_iret E hw dX7_tunnel_32
  · replace h := ite_f hc h
    refine r_iload_n E hl 2 rfl dX7_tunnel_13 rfl ?_
    refine r_iconst E 0 dX7_tunnel_14 (by decide) ?_
    refine r_iconst E 4 dX7_tunnel_15 (by decide) ?_
    obtain ⟨y2, hy2, h⟩ := bd_some h
    refine r_callS0i E hw (mX7_in l Z _ v2 (0 : Int32) (4 : Int32) hy2) kL_X7_58 kT_X7_in kN_X7 kC_X7_in rfl rfl hdX7_in ⟨Nat.le_of_ble_eq_true rfl, Nat.le_of_ble_eq_true rfl⟩ rfl hl [] rfl (Nat.le_of_ble_eq_true rfl) dX7_tunnel_16 ⟨Nat.zero_le _, Nat.zero_le _⟩ (fun H locs hw => ?_)
    refine r_if_eq E 31 dX7_tunnel_19 (by decide) (fun hc => ?_) (fun hc => ?_)
    · replace h := ite_t hc h
      refine r_iconst E (-1) dX7_tunnel_31 (by decide) ?_
      obtain rfl := Option.some.inj h
      exact r_iret E hw dX7_tunnel_32
    · replace h := ite_f hc h
      refine r_aload_n E hl 0 rfl dX7_tunnel_22 rfl ?_
      refine r_iload_n E hl 1 rfl dX7_tunnel_23 rfl ?_
      refine r_iload_n E hl 2 rfl dX7_tunnel_24 rfl ?_
      obtain ⟨y3, hy3, h⟩ := bd_some h
      refine r_callVAi E hw (mX7_tunnelPart l Z _ Am (0 : Int32) m_s m_saved m_savedMany m_aside m_sent m_text m_length m_way m_crossed m_wayCost m_isWay m_next m_start m_token m_number m_letters m_isWrong m_sums m_steps m_chosen m_passed m_passedMany m_passedCost m_reach v1 v2 hy3) kL_X7_106 kI_X7_tunnelPart kS_X7_tunnelPart kN_X7 kC_X7_tunnelPart rfl rfl hdX7_tunnelPart ⟨Nat.le_of_ble_eq_true rfl, Nat.le_of_ble_eq_true rfl⟩ 0 rfl rfl rfl rfl hl [] rfl (Nat.le_of_ble_eq_true rfl) dX7_tunnel_25 ⟨Nat.zero_le _, Nat.zero_le _⟩ (fun H locs hw => ?_)
      refine r_goto E 32 dX7_tunnel_28 (by decide) ?_
      obtain rfl := Option.some.inj h
      exact r_iret E hw dX7_tunnel_32
abbrev rmX7_grant : Room := { frames := 3, cells := 0, slots := 0, locals := 63 }

set_option maxRecDepth 100000 in
set_option maxHeartbeats 4000000 in
theorem vX7_grant_39 {Z : zT} {p : Program} {l : Launch} {e : Env} {s : State} {m : MethodId} {args : Array Value} {below : List Frame} {meth : Method} {c : Code} {A : Nat → Prop} (E : zE Z p s m args meth c RX7 cX7_grant 4 (some .int) A) {Am : Nat → Nat} {v1 : Int32} {v2 : Int32} {k1 : Int32} {m_thrown : Int32} {m_s : (Nat → Int32)} {m_saved : (Nat → Int32)} {m_savedMany : Int32} {m_aside : (Nat → Int32)} {m_sent : (Nat → Int32)} {m_text : (Nat → Int32)} {m_length : Int32} {m_way : (Nat → Int32)} {m_crossed : Int32} {m_wayCost : Int32} {m_isWay : Int32} {m_next : Int32} {m_start : Int32} {m_token : Int32} {m_number : Int32} {m_letters : Int64} {m_isWrong : Int32} {m_sums : (Nat → Int32)} {m_steps : (Nat → Int32)} {m_chosen : Int32} {m_passed : (Nat → Int32)} {m_passedMany : Int32} {m_passedCost : Int32} {m_reach : (Nat → Int32)} {res : Int32 × Int32}  {H : Heap} {locs : List Loc} {ls : Array Slot} (hw : zW Z A (wX7 Z Am m_thrown m_s m_saved m_savedMany m_aside m_sent m_text m_length m_way m_crossed m_wayCost m_isWay m_next m_start m_token m_number m_letters m_isWrong m_sums m_steps m_chosen m_passed m_passedMany m_passedCost m_reach) s.heap H locs) (hl : lv_has ls 4 [(1, .int v1), (2, .int v2)]) (h : uX7_grant_39 v1 v2 k1 m_thrown m_s = some res) : W p l e rmX7_grant s m args below meth c H locs 0 0 (MQ below (zQi Z res.1 (wX7 Z Am res.2 m_s m_saved m_savedMany m_aside m_sent m_text m_length m_way m_crossed m_wayCost m_isWay m_next m_start m_token m_number m_letters m_isWrong m_sums m_steps m_chosen m_passed m_passedMany m_passedCost m_reach) A) args s 0 0 A) (F0 m 39 ls [.int k1, .ref (Am 1)]) := by
  unfold uX7_grant_39 at h
  refine r_iconst E 4 dX7_grant_39 (by decide) ?_
  refine r_iload_n E hl 0 rfl dX7_grant_40 rfl ?_
  refine r_imul E dX7_grant_41 ?_
  refine r_iadd E dX7_grant_42 ?_
  refine r_iload_n E hl 1 rfl dX7_grant_43 rfl ?_
  refine r_iadd E dX7_grant_44 ?_
  obtain ⟨hg3, h⟩ := gd_some h
  refine r_iald E hw 1 rfl hg3 dX7_grant_45 ?_
  obtain rfl := Option.some.inj h
  exact r_iret E hw dX7_grant_46
set_option maxRecDepth 100000 in
set_option maxHeartbeats 4000000 in
theorem mX7_grant (l : Launch) (Z : zT) (sz : Nat) (Am : Nat → Nat) (m_thrown : Int32) (m_s : (Nat → Int32)) (m_saved : (Nat → Int32)) (m_savedMany : Int32) (m_aside : (Nat → Int32)) (m_sent : (Nat → Int32)) (m_text : (Nat → Int32)) (m_length : Int32) (m_way : (Nat → Int32)) (m_crossed : Int32) (m_wayCost : Int32) (m_isWay : Int32) (m_next : Int32) (m_start : Int32) (m_token : Int32) (m_number : Int32) (m_letters : Int64) (m_isWrong : Int32) (m_sums : (Nat → Int32)) (m_steps : (Nat → Int32)) (m_chosen : Int32) (m_passed : (Nat → Int32)) (m_passedMany : Int32) (m_passedCost : Int32) (m_reach : (Nat → Int32)) (v1 : Int32) (v2 : Int32) (v3 : Int32) {res : Int32 × Int32} (h : fX7_grant v1 v2 v3 m_s = some res) : Met l yX7_grant (Cond.code yX7_grant cX7_grant 4 (some .int) :: zWs) rmX7_grant (zP Z (wX7 Z Am m_thrown m_s m_saved m_savedMany m_aside m_sent m_text m_length m_way m_crossed m_wayCost m_isWay m_next m_start m_token m_number m_letters m_isWrong m_sums m_steps m_chosen m_passed m_passedMany m_passedCost m_reach) sz [.ref (Am 0), .int v1, .int v2, .int v3]) (zQi Z res.1 (wX7 Z Am res.2 m_s m_saved m_savedMany m_aside m_sent m_text m_length m_way m_crossed m_wayCost m_isWay m_next m_start m_token m_number m_letters m_isWrong m_sums m_steps m_chosen m_passed m_passedMany m_passedCost m_reach) (va_A (wX7 Z Am m_thrown m_s m_saved m_savedMany m_aside m_sent m_text m_length m_way m_crossed m_wayCost m_isWay m_next m_start m_token m_number m_letters m_isWrong m_sums m_steps m_chosen m_passed m_passedMany m_passedCost m_reach) sz)) 0 0 (va_A (wX7 Z Am m_thrown m_s m_saved m_savedMany m_aside m_sent m_text m_length m_way m_crossed m_wayCost m_isWay m_next m_start m_token m_number m_letters m_isWrong m_sums m_steps m_chosen m_passed m_passedMany m_passedCost m_reach) sz) := by
  refine zMet (own := RX7) (fun A => zQi Z res.1 (wX7 Z Am res.2 m_s m_saved m_savedMany m_aside m_sent m_text m_length m_way m_crossed m_wayCost m_isWay m_next m_start m_token m_number m_letters m_isWrong m_sums m_steps m_chosen m_passed m_passedMany m_passedCost m_reach) A) (by decide) rfl (Nat.le_of_ble_eq_true rfl) ?_
  intro p e s m args below meth c ls A E hw hl
  unfold fX7_grant at h
  refine r_aload_n E hl 0 rfl dX7_grant_0 rfl ?_
  refine r_iconst E 0 dX7_grant_1 (by decide) ?_
  refine r_put E (wX7 Z Am (0 : Int32) m_s m_saved m_savedMany m_aside m_sent m_text m_length m_way m_crossed m_wayCost m_isWay m_next m_start m_token m_number m_letters m_isWrong m_sums m_steps m_chosen m_passed m_passedMany m_passedCost m_reach) kW_X7 tyX7_ok nmX7 hw 0 rfl rfl 0 (by decide) kF_X7_40 rfl rfl rfl (Nat.le_of_ble_eq_true rfl) rfl dX7_grant_2 (fun H locs hw => ?_)
  refine r_iload_n E hl 1 rfl dX7_grant_5 rfl ?_
  refine r_iload_n E hl 2 rfl dX7_grant_6 rfl ?_
  obtain ⟨y1, hy1, h⟩ := bd_some h
  refine r_callS0i E hw (mX7_areAreas l Z _ v1 v2 hy1) kL_X7_138 kT_X7_areAreas kN_X7 kC_X7_areAreas rfl rfl hdX7_areAreas ⟨Nat.le_of_ble_eq_true rfl, Nat.le_of_ble_eq_true rfl⟩ rfl hl [] rfl (Nat.le_of_ble_eq_true rfl) dX7_grant_7 ⟨Nat.zero_le _, Nat.zero_le _⟩ (fun H locs hw => ?_)
  refine r_if_eq E 22 dX7_grant_10 (by decide) (fun hc => ?_) (fun hc => ?_)
  · replace h := ite_t hc h
    refine r_iconst E (-1) dX7_grant_22 (by decide) ?_
    obtain rfl := Option.some.inj h
    exact r_iret E hw dX7_grant_23
  · replace h := ite_f hc h
    refine r_iload_n E hl 3 rfl dX7_grant_13 rfl ?_
    refine r_iconst E 0 dX7_grant_14 (by decide) ?_
    refine r_iconst E 1 dX7_grant_15 (by decide) ?_
    obtain ⟨y2, hy2, h⟩ := bd_some h
    refine r_callS0i E hw (mX7_in l Z _ v3 (0 : Int32) (1 : Int32) hy2) kL_X7_58 kT_X7_in kN_X7 kC_X7_in rfl rfl hdX7_in ⟨Nat.le_of_ble_eq_true rfl, Nat.le_of_ble_eq_true rfl⟩ rfl hl [] rfl (Nat.le_of_ble_eq_true rfl) dX7_grant_16 ⟨Nat.zero_le _, Nat.zero_le _⟩ (fun H locs hw => ?_)
    refine r_if_ne E 24 dX7_grant_19 (by decide) (fun hc => ?_) (fun hc => ?_)
    · replace h := ite_f hc h
      refine r_aload_n E hl 0 rfl dX7_grant_24 rfl ?_
      refine r_get E kW_X7 hw 0 rfl rfl 1 (by decide) kF_X7_7 rfl dX7_grant_25 ?_
      refine r_iload_n E hl 3 rfl dX7_grant_28 rfl ?_
      refine r_if_ne E 37 dX7_grant_29 (by decide) (fun hc => ?_) (fun hc => ?_)
      · replace h := ite_f hc h
        refine r_bipush E 30 dX7_grant_37 (by decide) ?_
        exact vX7_grant_39 E  hw (lv_sub hl [1, 2] rfl) h
      · replace h := ite_t hc h
        refine r_bipush E 14 dX7_grant_32 (by decide) ?_
        refine r_goto E 39 dX7_grant_34 (by decide) ?_
        exact vX7_grant_39 E  hw (lv_sub hl [1, 2] rfl) h
    · replace h := ite_t hc h
      refine r_iconst E (-1) dX7_grant_22 (by decide) ?_
      obtain rfl := Option.some.inj h
      exact r_iret E hw dX7_grant_23
abbrev rmX7_known : Room := { frames := 2, cells := 0, slots := 0, locals := 44 }

set_option maxRecDepth 100000 in
set_option maxHeartbeats 4000000 in
theorem vX7_known_63 {Z : zT} {p : Program} {l : Launch} {e : Env} {s : State} {m : MethodId} {args : Array Value} {below : List Frame} {meth : Method} {c : Code} {A : Nat → Prop} (E : zE Z p s m args meth c RX7 cX7_known 5 (some .int) A) {Am : Nat → Nat} {v1 : Int32} {v2 : Int32} {v3 : Int32} {m_thrown : Int32} {m_s : (Nat → Int32)} {m_saved : (Nat → Int32)} {m_savedMany : Int32} {m_aside : (Nat → Int32)} {m_sent : (Nat → Int32)} {m_text : (Nat → Int32)} {m_length : Int32} {m_way : (Nat → Int32)} {m_crossed : Int32} {m_wayCost : Int32} {m_isWay : Int32} {m_next : Int32} {m_start : Int32} {m_token : Int32} {m_number : Int32} {m_letters : Int64} {m_isWrong : Int32} {m_sums : (Nat → Int32)} {m_steps : (Nat → Int32)} {m_chosen : Int32} {m_passed : (Nat → Int32)} {m_passedMany : Int32} {m_passedCost : Int32} {m_reach : (Nat → Int32)} {res : Int32 × Int32}  {H : Heap} {locs : List Loc} {ls : Array Slot} (hw : zW Z A (wX7 Z Am m_thrown m_s m_saved m_savedMany m_aside m_sent m_text m_length m_way m_crossed m_wayCost m_isWay m_next m_start m_token m_number m_letters m_isWrong m_sums m_steps m_chosen m_passed m_passedMany m_passedCost m_reach) s.heap H locs) (hl : lv_has ls 5 [(0, .ref (Am 0)), (1, .int v1), (2, .int v2), (3, .int v3)]) (h : uX7_known_63 v1 v2 v3 m_thrown m_s = some res) : W p l e rmX7_known s m args below meth c H locs 0 0 (MQ below (zQi Z res.1 (wX7 Z Am res.2 m_s m_saved m_savedMany m_aside m_sent m_text m_length m_way m_crossed m_wayCost m_isWay m_next m_start m_token m_number m_letters m_isWrong m_sums m_steps m_chosen m_passed m_passedMany m_passedCost m_reach) A) args s 0 0 A) (F0 m 63 ls []) := by
  unfold uX7_known_63 at h
  refine r_aload_n E hl 0 rfl dX7_known_63 rfl ?_
  refine r_iload_n E hl 1 rfl dX7_known_64 rfl ?_
  refine r_iload_n E hl 2 rfl dX7_known_65 rfl ?_
  refine r_iload_n E hl 3 rfl dX7_known_66 rfl ?_
  obtain ⟨y5, hy5, h⟩ := bd_some h
  refine r_callVAi E hw (mX7_fact l Z _ Am m_thrown m_s m_saved m_savedMany m_aside m_sent m_text m_length m_way m_crossed m_wayCost m_isWay m_next m_start m_token m_number m_letters m_isWrong m_sums m_steps m_chosen m_passed m_passedMany m_passedCost m_reach v1 v2 v3 hy5) kL_X7_73 kI_X7_fact kS_X7_fact kN_X7 kC_X7_fact rfl rfl hdX7_fact ⟨Nat.le_of_ble_eq_true rfl, Nat.le_of_ble_eq_true rfl⟩ 0 rfl rfl rfl rfl hl [] rfl (Nat.le_of_ble_eq_true rfl) dX7_known_67 ⟨Nat.zero_le _, Nat.zero_le _⟩ (fun H locs hw => ?_)
  refine r_goto E 75 dX7_known_70 (by decide) ?_
  obtain rfl := Option.some.inj h
  exact r_iret E hw dX7_known_75
set_option maxRecDepth 100000 in
set_option maxHeartbeats 4000000 in
theorem vX7_known_47 {Z : zT} {p : Program} {l : Launch} {e : Env} {s : State} {m : MethodId} {args : Array Value} {below : List Frame} {meth : Method} {c : Code} {A : Nat → Prop} (E : zE Z p s m args meth c RX7 cX7_known 5 (some .int) A) {Am : Nat → Nat} {v1 : Int32} {v2 : Int32} {v3 : Int32} {k0 : Int32} {m_thrown : Int32} {m_s : (Nat → Int32)} {m_saved : (Nat → Int32)} {m_savedMany : Int32} {m_aside : (Nat → Int32)} {m_sent : (Nat → Int32)} {m_text : (Nat → Int32)} {m_length : Int32} {m_way : (Nat → Int32)} {m_crossed : Int32} {m_wayCost : Int32} {m_isWay : Int32} {m_next : Int32} {m_start : Int32} {m_token : Int32} {m_number : Int32} {m_letters : Int64} {m_isWrong : Int32} {m_sums : (Nat → Int32)} {m_steps : (Nat → Int32)} {m_chosen : Int32} {m_passed : (Nat → Int32)} {m_passedMany : Int32} {m_passedCost : Int32} {m_reach : (Nat → Int32)} {res : Int32 × Int32}  {H : Heap} {locs : List Loc} {ls : Array Slot} (hw : zW Z A (wX7 Z Am m_thrown m_s m_saved m_savedMany m_aside m_sent m_text m_length m_way m_crossed m_wayCost m_isWay m_next m_start m_token m_number m_letters m_isWrong m_sums m_steps m_chosen m_passed m_passedMany m_passedCost m_reach) s.heap H locs) (hl : lv_has ls 5 [(0, .ref (Am 0)), (1, .int v1), (2, .int v2), (3, .int v3)]) (h : uX7_known_47 v1 v2 v3 k0 m_thrown m_s = some res) : W p l e rmX7_known s m args below meth c H locs 0 0 (MQ below (zQi Z res.1 (wX7 Z Am res.2 m_s m_saved m_savedMany m_aside m_sent m_text m_length m_way m_crossed m_wayCost m_isWay m_next m_start m_token m_number m_letters m_isWrong m_sums m_steps m_chosen m_passed m_passedMany m_passedCost m_reach) A) args s 0 0 A) (F0 m 47 ls [.int k0]) := by
  unfold uX7_known_47 at h
  refine r_istore E [(4, .int k0), (0, .ref (Am 0)), (1, .int v1), (2, .int v2), (3, .int v3)] hl dX7_known_47 (by decide) rfl (fun ls hl => ?_)
  refine r_iload E hl 0 rfl dX7_known_49 ?_
  refine r_if_ne E 63 dX7_known_51 (by decide) (fun hc => ?_) (fun hc => ?_)
  · replace h := ite_f hc h
    exact vX7_known_63 E  hw (lv_sub hl [1, 2, 3, 4] rfl) h
  · replace h := ite_t hc h
    refine r_iload_n E hl 4 rfl dX7_known_54 rfl ?_
    refine r_if_eq E 63 dX7_known_55 (by decide) (fun hc => ?_) (fun hc => ?_)
    · replace h := ite_t hc h
      exact vX7_known_63 E  hw (lv_sub hl [1, 2, 3, 4] rfl) h
    · replace h := ite_f hc h
      refine r_iload_n E hl 4 rfl dX7_known_58 rfl ?_
      refine r_iconst E 3 dX7_known_59 (by decide) ?_
      refine r_icmp_ne E 73 dX7_known_60 (by decide) (fun hc => ?_) (fun hc => ?_)
      · replace h := ite_f hc h
        refine r_bipush E (-9) dX7_known_73 (by decide) ?_
        obtain rfl := Option.some.inj h
        exact r_iret E hw dX7_known_75
      · replace h := ite_t hc h
        exact vX7_known_63 E  hw (lv_sub hl [1, 2, 3, 4] rfl) h
set_option maxRecDepth 100000 in
set_option maxHeartbeats 4000000 in
theorem mX7_known (l : Launch) (Z : zT) (sz : Nat) (Am : Nat → Nat) (m_thrown : Int32) (m_s : (Nat → Int32)) (m_saved : (Nat → Int32)) (m_savedMany : Int32) (m_aside : (Nat → Int32)) (m_sent : (Nat → Int32)) (m_text : (Nat → Int32)) (m_length : Int32) (m_way : (Nat → Int32)) (m_crossed : Int32) (m_wayCost : Int32) (m_isWay : Int32) (m_next : Int32) (m_start : Int32) (m_token : Int32) (m_number : Int32) (m_letters : Int64) (m_isWrong : Int32) (m_sums : (Nat → Int32)) (m_steps : (Nat → Int32)) (m_chosen : Int32) (m_passed : (Nat → Int32)) (m_passedMany : Int32) (m_passedCost : Int32) (m_reach : (Nat → Int32)) (v1 : Int32) (v2 : Int32) (v3 : Int32) {res : Int32 × Int32} (h : fX7_known v1 v2 v3 m_s = some res) : Met l yX7_known (Cond.code yX7_known cX7_known 5 (some .int) :: zWs) rmX7_known (zP Z (wX7 Z Am m_thrown m_s m_saved m_savedMany m_aside m_sent m_text m_length m_way m_crossed m_wayCost m_isWay m_next m_start m_token m_number m_letters m_isWrong m_sums m_steps m_chosen m_passed m_passedMany m_passedCost m_reach) sz [.ref (Am 0), .int v1, .int v2, .int v3]) (zQi Z res.1 (wX7 Z Am res.2 m_s m_saved m_savedMany m_aside m_sent m_text m_length m_way m_crossed m_wayCost m_isWay m_next m_start m_token m_number m_letters m_isWrong m_sums m_steps m_chosen m_passed m_passedMany m_passedCost m_reach) (va_A (wX7 Z Am m_thrown m_s m_saved m_savedMany m_aside m_sent m_text m_length m_way m_crossed m_wayCost m_isWay m_next m_start m_token m_number m_letters m_isWrong m_sums m_steps m_chosen m_passed m_passedMany m_passedCost m_reach) sz)) 0 0 (va_A (wX7 Z Am m_thrown m_s m_saved m_savedMany m_aside m_sent m_text m_length m_way m_crossed m_wayCost m_isWay m_next m_start m_token m_number m_letters m_isWrong m_sums m_steps m_chosen m_passed m_passedMany m_passedCost m_reach) sz) := by
  refine zMet (own := RX7) (fun A => zQi Z res.1 (wX7 Z Am res.2 m_s m_saved m_savedMany m_aside m_sent m_text m_length m_way m_crossed m_wayCost m_isWay m_next m_start m_token m_number m_letters m_isWrong m_sums m_steps m_chosen m_passed m_passedMany m_passedCost m_reach) A) (by decide) rfl (Nat.le_of_ble_eq_true rfl) ?_
  intro p e s m args below meth c ls A E hw hl
  unfold fX7_known at h
  refine r_aload_n E hl 0 rfl dX7_known_0 rfl ?_
  refine r_iconst E 0 dX7_known_1 (by decide) ?_
  refine r_put E (wX7 Z Am (0 : Int32) m_s m_saved m_savedMany m_aside m_sent m_text m_length m_way m_crossed m_wayCost m_isWay m_next m_start m_token m_number m_letters m_isWrong m_sums m_steps m_chosen m_passed m_passedMany m_passedCost m_reach) kW_X7 tyX7_ok nmX7 hw 0 rfl rfl 0 (by decide) kF_X7_40 rfl rfl rfl (Nat.le_of_ble_eq_true rfl) rfl dX7_known_2 (fun H locs hw => ?_)
  refine r_aload_n E hl 0 rfl dX7_known_5 rfl ?_
  refine r_iload_n E hl 1 rfl dX7_known_6 rfl ?_
  obtain ⟨y1, hy1, h⟩ := bd_some h
  refine r_callVAi E hw (mX7_isNode l Z _ Am (0 : Int32) m_s m_saved m_savedMany m_aside m_sent m_text m_length m_way m_crossed m_wayCost m_isWay m_next m_start m_token m_number m_letters m_isWrong m_sums m_steps m_chosen m_passed m_passedMany m_passedCost m_reach v1 hy1) kL_X7_125 kI_X7_isNode kS_X7_isNode kN_X7 kC_X7_isNode rfl rfl hdX7_isNode ⟨Nat.le_of_ble_eq_true rfl, Nat.le_of_ble_eq_true rfl⟩ 0 rfl rfl rfl rfl hl [] rfl (Nat.le_of_ble_eq_true rfl) dX7_known_7 ⟨Nat.zero_le _, Nat.zero_le _⟩ (fun H locs hw => ?_)
  refine r_if_eq E 30 dX7_known_10 (by decide) (fun hc => ?_) (fun hc => ?_)
  · replace h := ite_t hc h
    refine r_iconst E (-1) dX7_known_30 (by decide) ?_
    obtain rfl := Option.some.inj h
    exact r_iret E hw dX7_known_31
  · replace h := ite_f hc h
    refine r_aload_n E hl 0 rfl dX7_known_13 rfl ?_
    refine r_iload_n E hl 2 rfl dX7_known_14 rfl ?_
    obtain ⟨y2, hy2, h⟩ := bd_some h
    refine r_callVAi E hw (mX7_isItem l Z _ Am (0 : Int32) m_s m_saved m_savedMany m_aside m_sent m_text m_length m_way m_crossed m_wayCost m_isWay m_next m_start m_token m_number m_letters m_isWrong m_sums m_steps m_chosen m_passed m_passedMany m_passedCost m_reach v2 hy2) kL_X7_235 kI_X7_isItem kS_X7_isItem kN_X7 kC_X7_isItem rfl rfl hdX7_isItem ⟨Nat.le_of_ble_eq_true rfl, Nat.le_of_ble_eq_true rfl⟩ 0 rfl rfl rfl rfl hl [] rfl (Nat.le_of_ble_eq_true rfl) dX7_known_15 ⟨Nat.zero_le _, Nat.zero_le _⟩ (fun H locs hw => ?_)
    refine r_if_eq E 30 dX7_known_18 (by decide) (fun hc => ?_) (fun hc => ?_)
    · replace h := ite_t hc h
      refine r_iconst E (-1) dX7_known_30 (by decide) ?_
      obtain rfl := Option.some.inj h
      exact r_iret E hw dX7_known_31
    · replace h := ite_f hc h
      refine r_iload_n E hl 3 rfl dX7_known_21 rfl ?_
      refine r_iconst E 0 dX7_known_22 (by decide) ?_
      refine r_iconst E 3 dX7_known_23 (by decide) ?_
      obtain ⟨y3, hy3, h⟩ := bd_some h
      refine r_callS0i E hw (mX7_in l Z _ v3 (0 : Int32) (3 : Int32) hy3) kL_X7_58 kT_X7_in kN_X7 kC_X7_in rfl rfl hdX7_in ⟨Nat.le_of_ble_eq_true rfl, Nat.le_of_ble_eq_true rfl⟩ rfl hl [] rfl (Nat.le_of_ble_eq_true rfl) dX7_known_24 ⟨Nat.zero_le _, Nat.zero_le _⟩ (fun H locs hw => ?_)
      refine r_if_ne E 32 dX7_known_27 (by decide) (fun hc => ?_) (fun hc => ?_)
      · replace h := ite_f hc h
        refine r_aload_n E hl 0 rfl dX7_known_32 rfl ?_
        refine r_iload_n E hl 1 rfl dX7_known_33 rfl ?_
        refine r_iload_n E hl 2 rfl dX7_known_34 rfl ?_
        refine r_iconst E 0 dX7_known_35 (by decide) ?_
        obtain ⟨y4, hy4, h⟩ := bd_some h
        refine r_callVAi E hw (mX7_fact l Z _ Am (0 : Int32) m_s m_saved m_savedMany m_aside m_sent m_text m_length m_way m_crossed m_wayCost m_isWay m_next m_start m_token m_number m_letters m_isWrong m_sums m_steps m_chosen m_passed m_passedMany m_passedCost m_reach v1 v2 (0 : Int32) hy4) kL_X7_73 kI_X7_fact kS_X7_fact kN_X7 kC_X7_fact rfl rfl hdX7_fact ⟨Nat.le_of_ble_eq_true rfl, Nat.le_of_ble_eq_true rfl⟩ 0 rfl rfl rfl rfl hl [] rfl (Nat.le_of_ble_eq_true rfl) dX7_known_36 ⟨Nat.zero_le _, Nat.zero_le _⟩ (fun H locs hw => ?_)
        refine r_if_le E 46 dX7_known_39 (by decide) (fun hc => ?_) (fun hc => ?_)
        · replace h := ite_t hc h
          refine r_iconst E 0 dX7_known_46 (by decide) ?_
          exact vX7_known_47 E  hw hl h
        · replace h := ite_f hc h
          refine r_iconst E 1 dX7_known_42 (by decide) ?_
          refine r_goto E 47 dX7_known_43 (by decide) ?_
          exact vX7_known_47 E  hw hl h
      · replace h := ite_t hc h
        refine r_iconst E (-1) dX7_known_30 (by decide) ?_
        obtain rfl := Option.some.inj h
        exact r_iret E hw dX7_known_31
