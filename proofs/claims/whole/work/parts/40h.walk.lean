abbrev rmX7_in : Room := { frames := 0, cells := 0, slots := 0, locals := 0 }

set_option maxRecDepth 100000 in
set_option maxHeartbeats 4000000 in
theorem mX7_in (l : Launch) (Z : zT) (sz : Nat)   (v0 : Int32) (v1 : Int32) (v2 : Int32) {res : Int32} (h : fX7_in v0 v1 v2 = some res) : Met l yX7_in (Cond.code yX7_in cX7_in 3 (some .boolean) :: zWs) rmX7_in (zP Z ([]) sz [.int v0, .int v1, .int v2]) (zQi Z res ([]) (va_A ([]) sz)) 0 0 (va_A ([]) sz) := by
  refine zMet (own := RX7) (fun A => zQi Z res ([]) A) (by decide) rfl (Nat.le_of_ble_eq_true rfl) ?_
  intro p e s m args below meth c ls A E hw hl
  unfold fX7_in at h
  refine r_iload_n E hl 0 rfl dX7_in_0 rfl ?_
  refine r_iload_n E hl 1 rfl dX7_in_1 rfl ?_
  refine r_icmp_lt E 14 dX7_in_2 (by decide) (fun hc => ?_) (fun hc => ?_)
  · replace h := ite_t hc h
    refine r_iconst E 0 dX7_in_14 (by decide) ?_
    obtain rfl := Option.some.inj h
    exact r_zret E bz_0 hw dX7_in_15
  · replace h := ite_f hc h
    refine r_iload_n E hl 0 rfl dX7_in_5 rfl ?_
    refine r_iload_n E hl 2 rfl dX7_in_6 rfl ?_
    refine r_icmp_gt E 14 dX7_in_7 (by decide) (fun hc => ?_) (fun hc => ?_)
    · replace h := ite_t hc h
      refine r_iconst E 0 dX7_in_14 (by decide) ?_
      obtain rfl := Option.some.inj h
      exact r_zret E bz_0 hw dX7_in_15
    · replace h := ite_f hc h
      refine r_iconst E 1 dX7_in_10 (by decide) ?_
      refine r_goto E 15 dX7_in_11 (by decide) ?_
      obtain rfl := Option.some.inj h
      exact r_zret E bz_1 hw dX7_in_15
abbrev rmX7_isArea : Room := { frames := 1, cells := 0, slots := 0, locals := 22 }

set_option maxRecDepth 100000 in
set_option maxHeartbeats 4000000 in
theorem mX7_isArea (l : Launch) (Z : zT) (sz : Nat)   (v0 : Int32) {res : Int32} (h : fX7_isArea v0 = some res) : Met l yX7_isArea (Cond.code yX7_isArea cX7_isArea 1 (some .boolean) :: zWs) rmX7_isArea (zP Z ([]) sz [.int v0]) (zQi Z res ([]) (va_A ([]) sz)) 0 0 (va_A ([]) sz) := by
  refine zMet (own := RX7) (fun A => zQi Z res ([]) A) (by decide) rfl (Nat.le_of_ble_eq_true rfl) ?_
  intro p e s m args below meth c ls A E hw hl
  unfold fX7_isArea at h
  refine r_iload_n E hl 0 rfl dX7_isArea_0 rfl ?_
  refine r_iconst E 0 dX7_isArea_1 (by decide) ?_
  refine r_iconst E 3 dX7_isArea_2 (by decide) ?_
  obtain ⟨y1, hy1, h⟩ := bd_some h
  refine r_callS0i E hw (mX7_in l Z _ v0 (0 : Int32) (3 : Int32) hy1) kL_X7_58 kT_X7_in kN_X7 kC_X7_in rfl rfl hdX7_in ⟨Nat.le_of_ble_eq_true rfl, Nat.le_of_ble_eq_true rfl⟩ rfl hl [] rfl (Nat.le_of_ble_eq_true rfl) dX7_isArea_3 ⟨Nat.zero_le _, Nat.zero_le _⟩ (fun H locs hw => ?_)
  obtain ⟨hz, h⟩ := gd_some h
  obtain rfl := Option.some.inj h
  exact r_zret E hz hw dX7_isArea_6
abbrev rmX7_at : Room := { frames := 0, cells := 0, slots := 0, locals := 0 }

set_option maxRecDepth 100000 in
set_option maxHeartbeats 4000000 in
theorem mX7_at (l : Launch) (Z : zT) (sz : Nat)   (v0 : Int32) (v1 : Int32) {res : Int32} (h : fX7_at v0 v1 = some res) : Met l yX7_at (Cond.code yX7_at cX7_at 2 (some .int) :: zWs) rmX7_at (zP Z ([]) sz [.int v0, .int v1]) (zQi Z res ([]) (va_A ([]) sz)) 0 0 (va_A ([]) sz) := by
  refine zMet (own := RX7) (fun A => zQi Z res ([]) A) (by decide) rfl (Nat.le_of_ble_eq_true rfl) ?_
  intro p e s m args below meth c ls A E hw hl
  unfold fX7_at at h
  refine r_sipush E 157 dX7_at_0 (by decide) ?_
  refine r_iconst E 4 dX7_at_3 (by decide) ?_
  refine r_bipush E 35 dX7_at_4 (by decide) ?_
  refine r_iload_n E hl 0 rfl dX7_at_6 rfl ?_
  refine r_imul E dX7_at_7 ?_
  refine r_iload_n E hl 1 rfl dX7_at_8 rfl ?_
  refine r_iadd E dX7_at_9 ?_
  refine r_imul E dX7_at_10 ?_
  refine r_iadd E dX7_at_11 ?_
  obtain rfl := Option.some.inj h
  exact r_iret E hw dX7_at_12
abbrev rmX7_areAreas : Room := { frames := 2, cells := 0, slots := 0, locals := 42 }

set_option maxRecDepth 100000 in
set_option maxHeartbeats 4000000 in
theorem mX7_areAreas (l : Launch) (Z : zT) (sz : Nat)   (v0 : Int32) (v1 : Int32) {res : Int32} (h : fX7_areAreas v0 v1 = some res) : Met l yX7_areAreas (Cond.code yX7_areAreas cX7_areAreas 2 (some .boolean) :: zWs) rmX7_areAreas (zP Z ([]) sz [.int v0, .int v1]) (zQi Z res ([]) (va_A ([]) sz)) 0 0 (va_A ([]) sz) := by
  refine zMet (own := RX7) (fun A => zQi Z res ([]) A) (by decide) rfl (Nat.le_of_ble_eq_true rfl) ?_
  intro p e s m args below meth c ls A E hw hl
  unfold fX7_areAreas at h
  refine r_iload_n E hl 0 rfl dX7_areAreas_0 rfl ?_
  obtain ⟨y1, hy1, h⟩ := bd_some h
  refine r_callS0i E hw (mX7_isArea l Z _ v0 hy1) kL_X7_116 kT_X7_isArea kN_X7 kC_X7_isArea rfl rfl hdX7_isArea ⟨Nat.le_of_ble_eq_true rfl, Nat.le_of_ble_eq_true rfl⟩ rfl hl [] rfl (Nat.le_of_ble_eq_true rfl) dX7_areAreas_1 ⟨Nat.zero_le _, Nat.zero_le _⟩ (fun H locs hw => ?_)
  refine r_if_eq E 23 dX7_areAreas_4 (by decide) (fun hc => ?_) (fun hc => ?_)
  · replace h := ite_t hc h
    refine r_iconst E 0 dX7_areAreas_23 (by decide) ?_
    obtain rfl := Option.some.inj h
    exact r_zret E bz_0 hw dX7_areAreas_24
  · replace h := ite_f hc h
    refine r_iload_n E hl 1 rfl dX7_areAreas_7 rfl ?_
    obtain ⟨y2, hy2, h⟩ := bd_some h
    refine r_callS0i E hw (mX7_isArea l Z _ v1 hy2) kL_X7_116 kT_X7_isArea kN_X7 kC_X7_isArea rfl rfl hdX7_isArea ⟨Nat.le_of_ble_eq_true rfl, Nat.le_of_ble_eq_true rfl⟩ rfl hl [] rfl (Nat.le_of_ble_eq_true rfl) dX7_areAreas_8 ⟨Nat.zero_le _, Nat.zero_le _⟩ (fun H locs hw => ?_)
    refine r_if_eq E 23 dX7_areAreas_11 (by decide) (fun hc => ?_) (fun hc => ?_)
    · replace h := ite_t hc h
      refine r_iconst E 0 dX7_areAreas_23 (by decide) ?_
      obtain rfl := Option.some.inj h
      exact r_zret E bz_0 hw dX7_areAreas_24
    · replace h := ite_f hc h
      refine r_iload_n E hl 0 rfl dX7_areAreas_14 rfl ?_
      refine r_iload_n E hl 1 rfl dX7_areAreas_15 rfl ?_
      refine r_icmp_eq E 23 dX7_areAreas_16 (by decide) (fun hc => ?_) (fun hc => ?_)
      · replace h := ite_t hc h
        refine r_iconst E 0 dX7_areAreas_23 (by decide) ?_
        obtain rfl := Option.some.inj h
        exact r_zret E bz_0 hw dX7_areAreas_24
      · replace h := ite_f hc h
        refine r_iconst E 1 dX7_areAreas_19 (by decide) ?_
        refine r_goto E 24 dX7_areAreas_20 (by decide) ?_
        obtain rfl := Option.some.inj h
        exact r_zret E bz_1 hw dX7_areAreas_24
abbrev rmX7_copy_aside_s : Room := { frames := 0, cells := 0, slots := 0, locals := 0 }

set_option maxRecDepth 100000 in
set_option maxHeartbeats 4000000 in
theorem tX7_copy_aside_s_2 {Z : zT} {p : Program} {l : Launch} {e : Env} {s : State} {m : MethodId} {args : Array Value} {below : List Frame} {meth : Method} {c : Code} {A : Nat → Prop} (E : zE Z p s m args meth c RX7 cX7_copy 4 none A) {Am : Nat → Nat} {m_thrown : Int32} {m_s : (Nat → Int32)} {m_saved : (Nat → Int32)} {m_savedMany : Int32} {m_sent : (Nat → Int32)} {m_text : (Nat → Int32)} {m_length : Int32} {m_way : (Nat → Int32)} {m_crossed : Int32} {m_wayCost : Int32} {m_isWay : Int32} {m_next : Int32} {m_start : Int32} {m_token : Int32} {m_number : Int32} {m_letters : Int64} {m_isWrong : Int32} {m_sums : (Nat → Int32)} {m_steps : (Nat → Int32)} {m_chosen : Int32} {m_passed : (Nat → Int32)} {m_passedMany : Int32} {m_passedCost : Int32} {m_reach : (Nat → Int32)} {res : (Nat → Int32)}  : ∀ (n : Nat) (v3 : Int32) (m_aside : (Nat → Int32)) (H : Heap) (locs : List Loc) (ls : Array Slot), iter (fun b : Int32 × (Nat → Int32) => sX7_copy_aside_s_2 m_s b.1 b.2) n (v3, m_aside) = some res → zW Z A (wX7 Z Am m_thrown m_s m_saved m_savedMany m_aside m_sent m_text m_length m_way m_crossed m_wayCost m_isWay m_next m_start m_token m_number m_letters m_isWrong m_sums m_steps m_chosen m_passed m_passedMany m_passedCost m_reach) s.heap H locs → lv_has ls 4 [(1, .ref (Am 3)), (2, .ref (Am 1)), (3, .int v3)] → W p l e rmX7_copy_aside_s s m args below meth c H locs 0 0 (MQ below (zQv Z (wX7 Z Am m_thrown m_s m_saved m_savedMany res m_sent m_text m_length m_way m_crossed m_wayCost m_isWay m_next m_start m_token m_number m_letters m_isWrong m_sums m_steps m_chosen m_passed m_passedMany m_passedCost m_reach) A) args s 0 0 A) (F0 m 2 ls []) := by
  intro n
  induction n with
  | zero => intro v3 m_aside H locs ls h; cases h
  | succ n ih =>
    intro v3 m_aside H locs ls h hw hl
    obtain ⟨q1, h, hn1, hr1⟩ := iter_out h
    have hb1 : ∀ b : Int32 × (Nat → Int32), q1 = .inl b → ∀ (H : Heap) (locs : List Loc) (ls : Array Slot), zW Z A (wX7 Z Am m_thrown m_s m_saved m_savedMany b.2 m_sent m_text m_length m_way m_crossed m_wayCost m_isWay m_next m_start m_token m_number m_letters m_isWrong m_sums m_steps m_chosen m_passed m_passedMany m_passedCost m_reach) s.heap H locs → lv_has ls 4 [(1, .ref (Am 3)), (2, .ref (Am 1)), (3, .int b.1)] → W p l e rmX7_copy_aside_s s m args below meth c H locs 0 0 (MQ below (zQv Z (wX7 Z Am m_thrown m_s m_saved m_savedMany res m_sent m_text m_length m_way m_crossed m_wayCost m_isWay m_next m_start m_token m_number m_letters m_isWrong m_sums m_steps m_chosen m_passed m_passedMany m_passedCost m_reach) A) args s 0 0 A) (F0 m 2 ls []) := fun b eb H locs ls hw hl => ih b.1 b.2 H locs ls (hn1 b eb) hw hl
    replace h : sX7_copy_aside_s_2 m_s v3 m_aside = some q1 := h
    unfold sX7_copy_aside_s_2 at h
    refine r_iload_n E hl 2 rfl dX7_copy_2 rfl ?_
    refine r_sipush E 1557 dX7_copy_3 (by decide) ?_
    refine r_icmp_ge E 21 dX7_copy_6 (by decide) (fun hc => ?_) (fun hc => ?_)
    · replace h := ite_t hc h
      obtain ⟨ro1, h, hro1⟩ := oi_some h
      rw [hr1 _ hro1] at h
      obtain rfl := Option.some.inj h
      exact r_vret E hw dX7_copy_21
    · replace h := ite_f hc h
      refine r_aload_n E hl 0 rfl dX7_copy_9 rfl ?_
      refine r_iload_n E hl 2 rfl dX7_copy_10 rfl ?_
      refine r_aload_n E hl 1 rfl dX7_copy_11 rfl ?_
      refine r_iload_n E hl 2 rfl dX7_copy_12 rfl ?_
      obtain ⟨hg2, h⟩ := gd_some h
      refine r_iald E hw 1 rfl hg2 dX7_copy_13 ?_
      obtain ⟨hg3, h⟩ := gd_some h
      refine r_iast E (wX7 Z Am m_thrown m_s m_saved m_savedMany (upd m_aside (v3).toNatClampNeg (m_s (v3).toNatClampNeg)) m_sent m_text m_length m_way m_crossed m_wayCost m_isWay m_next m_start m_token m_number m_letters m_isWrong m_sums m_steps m_chosen m_passed m_passedMany m_passedCost m_reach) hw 3 rfl hg3 rfl dX7_copy_14 (fun H locs hw => ?_)
      obtain ⟨w4, hw4, h⟩ := nm_out h
      refine r_iinc E w4 [(3, .int w4), (1, .ref (Am 3)), (2, .ref (Am 1))] hl (k := 2) rfl dX7_copy_15 hw4.symm (by decide) rfl (fun ls hl => ?_)
      refine r_goto E 2 dX7_copy_18 (by decide) ?_
      exact hb1 _ (Option.some.inj h).symm _ _ _ hw (lv_sub hl [1, 2, 0] rfl)
set_option maxRecDepth 100000 in
set_option maxHeartbeats 4000000 in
theorem mX7_copy_aside_s (l : Launch) (Z : zT) (sz : Nat) (Am : Nat → Nat) (m_thrown : Int32) (m_s : (Nat → Int32)) (m_saved : (Nat → Int32)) (m_savedMany : Int32) (m_aside : (Nat → Int32)) (m_sent : (Nat → Int32)) (m_text : (Nat → Int32)) (m_length : Int32) (m_way : (Nat → Int32)) (m_crossed : Int32) (m_wayCost : Int32) (m_isWay : Int32) (m_next : Int32) (m_start : Int32) (m_token : Int32) (m_number : Int32) (m_letters : Int64) (m_isWrong : Int32) (m_sums : (Nat → Int32)) (m_steps : (Nat → Int32)) (m_chosen : Int32) (m_passed : (Nat → Int32)) (m_passedMany : Int32) (m_passedCost : Int32) (m_reach : (Nat → Int32))  {res : (Nat → Int32)} (h : fX7_copy_aside_s m_s m_aside = some res) : Met l yX7_copy (Cond.code yX7_copy cX7_copy 4 none :: zWs) rmX7_copy_aside_s (zP Z (wX7 Z Am m_thrown m_s m_saved m_savedMany m_aside m_sent m_text m_length m_way m_crossed m_wayCost m_isWay m_next m_start m_token m_number m_letters m_isWrong m_sums m_steps m_chosen m_passed m_passedMany m_passedCost m_reach) sz [.ref (Am 0), .ref (Am 3), .ref (Am 1)]) (zQv Z (wX7 Z Am m_thrown m_s m_saved m_savedMany res m_sent m_text m_length m_way m_crossed m_wayCost m_isWay m_next m_start m_token m_number m_letters m_isWrong m_sums m_steps m_chosen m_passed m_passedMany m_passedCost m_reach) (va_A (wX7 Z Am m_thrown m_s m_saved m_savedMany m_aside m_sent m_text m_length m_way m_crossed m_wayCost m_isWay m_next m_start m_token m_number m_letters m_isWrong m_sums m_steps m_chosen m_passed m_passedMany m_passedCost m_reach) sz)) 0 0 (va_A (wX7 Z Am m_thrown m_s m_saved m_savedMany m_aside m_sent m_text m_length m_way m_crossed m_wayCost m_isWay m_next m_start m_token m_number m_letters m_isWrong m_sums m_steps m_chosen m_passed m_passedMany m_passedCost m_reach) sz) := by
  refine zMet (own := RX7) (fun A => zQv Z (wX7 Z Am m_thrown m_s m_saved m_savedMany res m_sent m_text m_length m_way m_crossed m_wayCost m_isWay m_next m_start m_token m_number m_letters m_isWrong m_sums m_steps m_chosen m_passed m_passedMany m_passedCost m_reach) A) (by decide) rfl (Nat.le_of_ble_eq_true rfl) ?_
  intro p e s m args below meth c ls A E hw hl
  unfold fX7_copy_aside_s at h
  refine r_iconst E 0 dX7_copy_0 (by decide) ?_
  refine r_istore_n E [(3, .int (0 : Int32)), (0, .ref (Am 0)), (1, .ref (Am 3)), (2, .ref (Am 1))] hl dX7_copy_1 rfl (by decide) rfl (fun ls hl => ?_)
  obtain ⟨n5, h⟩ := wh_some h
  exact tX7_copy_aside_s_2 E  n5 _ _ _ _ _ h hw (lv_sub hl [2, 3, 0] rfl)
abbrev rmX7_copy_s_aside : Room := { frames := 0, cells := 0, slots := 0, locals := 0 }

set_option maxRecDepth 100000 in
set_option maxHeartbeats 4000000 in
theorem tX7_copy_s_aside_2 {Z : zT} {p : Program} {l : Launch} {e : Env} {s : State} {m : MethodId} {args : Array Value} {below : List Frame} {meth : Method} {c : Code} {A : Nat → Prop} (E : zE Z p s m args meth c RX7 cX7_copy 4 none A) {Am : Nat → Nat} {m_thrown : Int32} {m_saved : (Nat → Int32)} {m_savedMany : Int32} {m_aside : (Nat → Int32)} {m_sent : (Nat → Int32)} {m_text : (Nat → Int32)} {m_length : Int32} {m_way : (Nat → Int32)} {m_crossed : Int32} {m_wayCost : Int32} {m_isWay : Int32} {m_next : Int32} {m_start : Int32} {m_token : Int32} {m_number : Int32} {m_letters : Int64} {m_isWrong : Int32} {m_sums : (Nat → Int32)} {m_steps : (Nat → Int32)} {m_chosen : Int32} {m_passed : (Nat → Int32)} {m_passedMany : Int32} {m_passedCost : Int32} {m_reach : (Nat → Int32)} {res : (Nat → Int32)}  : ∀ (n : Nat) (v3 : Int32) (m_s : (Nat → Int32)) (H : Heap) (locs : List Loc) (ls : Array Slot), iter (fun b : Int32 × (Nat → Int32) => sX7_copy_s_aside_2 m_aside b.1 b.2) n (v3, m_s) = some res → zW Z A (wX7 Z Am m_thrown m_s m_saved m_savedMany m_aside m_sent m_text m_length m_way m_crossed m_wayCost m_isWay m_next m_start m_token m_number m_letters m_isWrong m_sums m_steps m_chosen m_passed m_passedMany m_passedCost m_reach) s.heap H locs → lv_has ls 4 [(1, .ref (Am 1)), (2, .ref (Am 3)), (3, .int v3)] → W p l e rmX7_copy_s_aside s m args below meth c H locs 0 0 (MQ below (zQv Z (wX7 Z Am m_thrown res m_saved m_savedMany m_aside m_sent m_text m_length m_way m_crossed m_wayCost m_isWay m_next m_start m_token m_number m_letters m_isWrong m_sums m_steps m_chosen m_passed m_passedMany m_passedCost m_reach) A) args s 0 0 A) (F0 m 2 ls []) := by
  intro n
  induction n with
  | zero => intro v3 m_s H locs ls h; cases h
  | succ n ih =>
    intro v3 m_s H locs ls h hw hl
    obtain ⟨q1, h, hn1, hr1⟩ := iter_out h
    have hb1 : ∀ b : Int32 × (Nat → Int32), q1 = .inl b → ∀ (H : Heap) (locs : List Loc) (ls : Array Slot), zW Z A (wX7 Z Am m_thrown b.2 m_saved m_savedMany m_aside m_sent m_text m_length m_way m_crossed m_wayCost m_isWay m_next m_start m_token m_number m_letters m_isWrong m_sums m_steps m_chosen m_passed m_passedMany m_passedCost m_reach) s.heap H locs → lv_has ls 4 [(1, .ref (Am 1)), (2, .ref (Am 3)), (3, .int b.1)] → W p l e rmX7_copy_s_aside s m args below meth c H locs 0 0 (MQ below (zQv Z (wX7 Z Am m_thrown res m_saved m_savedMany m_aside m_sent m_text m_length m_way m_crossed m_wayCost m_isWay m_next m_start m_token m_number m_letters m_isWrong m_sums m_steps m_chosen m_passed m_passedMany m_passedCost m_reach) A) args s 0 0 A) (F0 m 2 ls []) := fun b eb H locs ls hw hl => ih b.1 b.2 H locs ls (hn1 b eb) hw hl
    replace h : sX7_copy_s_aside_2 m_aside v3 m_s = some q1 := h
    unfold sX7_copy_s_aside_2 at h
    refine r_iload_n E hl 2 rfl dX7_copy_2 rfl ?_
    refine r_sipush E 1557 dX7_copy_3 (by decide) ?_
    refine r_icmp_ge E 21 dX7_copy_6 (by decide) (fun hc => ?_) (fun hc => ?_)
    · replace h := ite_t hc h
      obtain ⟨ro1, h, hro1⟩ := oi_some h
      rw [hr1 _ hro1] at h
      obtain rfl := Option.some.inj h
      exact r_vret E hw dX7_copy_21
    · replace h := ite_f hc h
      refine r_aload_n E hl 0 rfl dX7_copy_9 rfl ?_
      refine r_iload_n E hl 2 rfl dX7_copy_10 rfl ?_
      refine r_aload_n E hl 1 rfl dX7_copy_11 rfl ?_
      refine r_iload_n E hl 2 rfl dX7_copy_12 rfl ?_
      obtain ⟨hg2, h⟩ := gd_some h
      refine r_iald E hw 3 rfl hg2 dX7_copy_13 ?_
      obtain ⟨hg3, h⟩ := gd_some h
      refine r_iast E (wX7 Z Am m_thrown (upd m_s (v3).toNatClampNeg (m_aside (v3).toNatClampNeg)) m_saved m_savedMany m_aside m_sent m_text m_length m_way m_crossed m_wayCost m_isWay m_next m_start m_token m_number m_letters m_isWrong m_sums m_steps m_chosen m_passed m_passedMany m_passedCost m_reach) hw 1 rfl hg3 rfl dX7_copy_14 (fun H locs hw => ?_)
      obtain ⟨w4, hw4, h⟩ := nm_out h
      refine r_iinc E w4 [(3, .int w4), (1, .ref (Am 1)), (2, .ref (Am 3))] hl (k := 2) rfl dX7_copy_15 hw4.symm (by decide) rfl (fun ls hl => ?_)
      refine r_goto E 2 dX7_copy_18 (by decide) ?_
      exact hb1 _ (Option.some.inj h).symm _ _ _ hw (lv_sub hl [1, 2, 0] rfl)
set_option maxRecDepth 100000 in
set_option maxHeartbeats 4000000 in
theorem mX7_copy_s_aside (l : Launch) (Z : zT) (sz : Nat) (Am : Nat → Nat) (m_thrown : Int32) (m_s : (Nat → Int32)) (m_saved : (Nat → Int32)) (m_savedMany : Int32) (m_aside : (Nat → Int32)) (m_sent : (Nat → Int32)) (m_text : (Nat → Int32)) (m_length : Int32) (m_way : (Nat → Int32)) (m_crossed : Int32) (m_wayCost : Int32) (m_isWay : Int32) (m_next : Int32) (m_start : Int32) (m_token : Int32) (m_number : Int32) (m_letters : Int64) (m_isWrong : Int32) (m_sums : (Nat → Int32)) (m_steps : (Nat → Int32)) (m_chosen : Int32) (m_passed : (Nat → Int32)) (m_passedMany : Int32) (m_passedCost : Int32) (m_reach : (Nat → Int32))  {res : (Nat → Int32)} (h : fX7_copy_s_aside m_s m_aside = some res) : Met l yX7_copy (Cond.code yX7_copy cX7_copy 4 none :: zWs) rmX7_copy_s_aside (zP Z (wX7 Z Am m_thrown m_s m_saved m_savedMany m_aside m_sent m_text m_length m_way m_crossed m_wayCost m_isWay m_next m_start m_token m_number m_letters m_isWrong m_sums m_steps m_chosen m_passed m_passedMany m_passedCost m_reach) sz [.ref (Am 0), .ref (Am 1), .ref (Am 3)]) (zQv Z (wX7 Z Am m_thrown res m_saved m_savedMany m_aside m_sent m_text m_length m_way m_crossed m_wayCost m_isWay m_next m_start m_token m_number m_letters m_isWrong m_sums m_steps m_chosen m_passed m_passedMany m_passedCost m_reach) (va_A (wX7 Z Am m_thrown m_s m_saved m_savedMany m_aside m_sent m_text m_length m_way m_crossed m_wayCost m_isWay m_next m_start m_token m_number m_letters m_isWrong m_sums m_steps m_chosen m_passed m_passedMany m_passedCost m_reach) sz)) 0 0 (va_A (wX7 Z Am m_thrown m_s m_saved m_savedMany m_aside m_sent m_text m_length m_way m_crossed m_wayCost m_isWay m_next m_start m_token m_number m_letters m_isWrong m_sums m_steps m_chosen m_passed m_passedMany m_passedCost m_reach) sz) := by
  refine zMet (own := RX7) (fun A => zQv Z (wX7 Z Am m_thrown res m_saved m_savedMany m_aside m_sent m_text m_length m_way m_crossed m_wayCost m_isWay m_next m_start m_token m_number m_letters m_isWrong m_sums m_steps m_chosen m_passed m_passedMany m_passedCost m_reach) A) (by decide) rfl (Nat.le_of_ble_eq_true rfl) ?_
  intro p e s m args below meth c ls A E hw hl
  unfold fX7_copy_s_aside at h
  refine r_iconst E 0 dX7_copy_0 (by decide) ?_
  refine r_istore_n E [(3, .int (0 : Int32)), (0, .ref (Am 0)), (1, .ref (Am 1)), (2, .ref (Am 3))] hl dX7_copy_1 rfl (by decide) rfl (fun ls hl => ?_)
  obtain ⟨n5, h⟩ := wh_some h
  exact tX7_copy_s_aside_2 E  n5 _ _ _ _ _ h hw (lv_sub hl [2, 3, 0] rfl)
abbrev rmX7_copy_sent_s : Room := { frames := 0, cells := 0, slots := 0, locals := 0 }

set_option maxRecDepth 100000 in
set_option maxHeartbeats 4000000 in
theorem tX7_copy_sent_s_2 {Z : zT} {p : Program} {l : Launch} {e : Env} {s : State} {m : MethodId} {args : Array Value} {below : List Frame} {meth : Method} {c : Code} {A : Nat → Prop} (E : zE Z p s m args meth c RX7 cX7_copy 4 none A) {Am : Nat → Nat} {m_thrown : Int32} {m_s : (Nat → Int32)} {m_saved : (Nat → Int32)} {m_savedMany : Int32} {m_aside : (Nat → Int32)} {m_text : (Nat → Int32)} {m_length : Int32} {m_way : (Nat → Int32)} {m_crossed : Int32} {m_wayCost : Int32} {m_isWay : Int32} {m_next : Int32} {m_start : Int32} {m_token : Int32} {m_number : Int32} {m_letters : Int64} {m_isWrong : Int32} {m_sums : (Nat → Int32)} {m_steps : (Nat → Int32)} {m_chosen : Int32} {m_passed : (Nat → Int32)} {m_passedMany : Int32} {m_passedCost : Int32} {m_reach : (Nat → Int32)} {res : (Nat → Int32)}  : ∀ (n : Nat) (v3 : Int32) (m_sent : (Nat → Int32)) (H : Heap) (locs : List Loc) (ls : Array Slot), iter (fun b : Int32 × (Nat → Int32) => sX7_copy_sent_s_2 m_s b.1 b.2) n (v3, m_sent) = some res → zW Z A (wX7 Z Am m_thrown m_s m_saved m_savedMany m_aside m_sent m_text m_length m_way m_crossed m_wayCost m_isWay m_next m_start m_token m_number m_letters m_isWrong m_sums m_steps m_chosen m_passed m_passedMany m_passedCost m_reach) s.heap H locs → lv_has ls 4 [(1, .ref (Am 4)), (2, .ref (Am 1)), (3, .int v3)] → W p l e rmX7_copy_sent_s s m args below meth c H locs 0 0 (MQ below (zQv Z (wX7 Z Am m_thrown m_s m_saved m_savedMany m_aside res m_text m_length m_way m_crossed m_wayCost m_isWay m_next m_start m_token m_number m_letters m_isWrong m_sums m_steps m_chosen m_passed m_passedMany m_passedCost m_reach) A) args s 0 0 A) (F0 m 2 ls []) := by
  intro n
  induction n with
  | zero => intro v3 m_sent H locs ls h; cases h
  | succ n ih =>
    intro v3 m_sent H locs ls h hw hl
    obtain ⟨q1, h, hn1, hr1⟩ := iter_out h
    have hb1 : ∀ b : Int32 × (Nat → Int32), q1 = .inl b → ∀ (H : Heap) (locs : List Loc) (ls : Array Slot), zW Z A (wX7 Z Am m_thrown m_s m_saved m_savedMany m_aside b.2 m_text m_length m_way m_crossed m_wayCost m_isWay m_next m_start m_token m_number m_letters m_isWrong m_sums m_steps m_chosen m_passed m_passedMany m_passedCost m_reach) s.heap H locs → lv_has ls 4 [(1, .ref (Am 4)), (2, .ref (Am 1)), (3, .int b.1)] → W p l e rmX7_copy_sent_s s m args below meth c H locs 0 0 (MQ below (zQv Z (wX7 Z Am m_thrown m_s m_saved m_savedMany m_aside res m_text m_length m_way m_crossed m_wayCost m_isWay m_next m_start m_token m_number m_letters m_isWrong m_sums m_steps m_chosen m_passed m_passedMany m_passedCost m_reach) A) args s 0 0 A) (F0 m 2 ls []) := fun b eb H locs ls hw hl => ih b.1 b.2 H locs ls (hn1 b eb) hw hl
    replace h : sX7_copy_sent_s_2 m_s v3 m_sent = some q1 := h
    unfold sX7_copy_sent_s_2 at h
    refine r_iload_n E hl 2 rfl dX7_copy_2 rfl ?_
    refine r_sipush E 1557 dX7_copy_3 (by decide) ?_
    refine r_icmp_ge E 21 dX7_copy_6 (by decide) (fun hc => ?_) (fun hc => ?_)
    · replace h := ite_t hc h
      obtain ⟨ro1, h, hro1⟩ := oi_some h
      rw [hr1 _ hro1] at h
      obtain rfl := Option.some.inj h
      exact r_vret E hw dX7_copy_21
    · replace h := ite_f hc h
      refine r_aload_n E hl 0 rfl dX7_copy_9 rfl ?_
      refine r_iload_n E hl 2 rfl dX7_copy_10 rfl ?_
      refine r_aload_n E hl 1 rfl dX7_copy_11 rfl ?_
      refine r_iload_n E hl 2 rfl dX7_copy_12 rfl ?_
      obtain ⟨hg2, h⟩ := gd_some h
      refine r_iald E hw 1 rfl hg2 dX7_copy_13 ?_
      obtain ⟨hg3, h⟩ := gd_some h
      refine r_iast E (wX7 Z Am m_thrown m_s m_saved m_savedMany m_aside (upd m_sent (v3).toNatClampNeg (m_s (v3).toNatClampNeg)) m_text m_length m_way m_crossed m_wayCost m_isWay m_next m_start m_token m_number m_letters m_isWrong m_sums m_steps m_chosen m_passed m_passedMany m_passedCost m_reach) hw 4 rfl hg3 rfl dX7_copy_14 (fun H locs hw => ?_)
      obtain ⟨w4, hw4, h⟩ := nm_out h
      refine r_iinc E w4 [(3, .int w4), (1, .ref (Am 4)), (2, .ref (Am 1))] hl (k := 2) rfl dX7_copy_15 hw4.symm (by decide) rfl (fun ls hl => ?_)
      refine r_goto E 2 dX7_copy_18 (by decide) ?_
      exact hb1 _ (Option.some.inj h).symm _ _ _ hw (lv_sub hl [1, 2, 0] rfl)
set_option maxRecDepth 100000 in
set_option maxHeartbeats 4000000 in
theorem mX7_copy_sent_s (l : Launch) (Z : zT) (sz : Nat) (Am : Nat → Nat) (m_thrown : Int32) (m_s : (Nat → Int32)) (m_saved : (Nat → Int32)) (m_savedMany : Int32) (m_aside : (Nat → Int32)) (m_sent : (Nat → Int32)) (m_text : (Nat → Int32)) (m_length : Int32) (m_way : (Nat → Int32)) (m_crossed : Int32) (m_wayCost : Int32) (m_isWay : Int32) (m_next : Int32) (m_start : Int32) (m_token : Int32) (m_number : Int32) (m_letters : Int64) (m_isWrong : Int32) (m_sums : (Nat → Int32)) (m_steps : (Nat → Int32)) (m_chosen : Int32) (m_passed : (Nat → Int32)) (m_passedMany : Int32) (m_passedCost : Int32) (m_reach : (Nat → Int32))  {res : (Nat → Int32)} (h : fX7_copy_sent_s m_s m_sent = some res) : Met l yX7_copy (Cond.code yX7_copy cX7_copy 4 none :: zWs) rmX7_copy_sent_s (zP Z (wX7 Z Am m_thrown m_s m_saved m_savedMany m_aside m_sent m_text m_length m_way m_crossed m_wayCost m_isWay m_next m_start m_token m_number m_letters m_isWrong m_sums m_steps m_chosen m_passed m_passedMany m_passedCost m_reach) sz [.ref (Am 0), .ref (Am 4), .ref (Am 1)]) (zQv Z (wX7 Z Am m_thrown m_s m_saved m_savedMany m_aside res m_text m_length m_way m_crossed m_wayCost m_isWay m_next m_start m_token m_number m_letters m_isWrong m_sums m_steps m_chosen m_passed m_passedMany m_passedCost m_reach) (va_A (wX7 Z Am m_thrown m_s m_saved m_savedMany m_aside m_sent m_text m_length m_way m_crossed m_wayCost m_isWay m_next m_start m_token m_number m_letters m_isWrong m_sums m_steps m_chosen m_passed m_passedMany m_passedCost m_reach) sz)) 0 0 (va_A (wX7 Z Am m_thrown m_s m_saved m_savedMany m_aside m_sent m_text m_length m_way m_crossed m_wayCost m_isWay m_next m_start m_token m_number m_letters m_isWrong m_sums m_steps m_chosen m_passed m_passedMany m_passedCost m_reach) sz) := by
  refine zMet (own := RX7) (fun A => zQv Z (wX7 Z Am m_thrown m_s m_saved m_savedMany m_aside res m_text m_length m_way m_crossed m_wayCost m_isWay m_next m_start m_token m_number m_letters m_isWrong m_sums m_steps m_chosen m_passed m_passedMany m_passedCost m_reach) A) (by decide) rfl (Nat.le_of_ble_eq_true rfl) ?_
  intro p e s m args below meth c ls A E hw hl
  unfold fX7_copy_sent_s at h
  refine r_iconst E 0 dX7_copy_0 (by decide) ?_
  refine r_istore_n E [(3, .int (0 : Int32)), (0, .ref (Am 0)), (1, .ref (Am 4)), (2, .ref (Am 1))] hl dX7_copy_1 rfl (by decide) rfl (fun ls hl => ?_)
  obtain ⟨n5, h⟩ := wh_some h
  exact tX7_copy_sent_s_2 E  n5 _ _ _ _ _ h hw (lv_sub hl [2, 3, 0] rfl)
abbrev rmX7_area : Room := { frames := 0, cells := 0, slots := 0, locals := 0 }

set_option maxRecDepth 100000 in
set_option maxHeartbeats 4000000 in
theorem mX7_area (l : Launch) (Z : zT) (sz : Nat) (Am : Nat → Nat) (m_thrown : Int32) (m_s : (Nat → Int32)) (m_saved : (Nat → Int32)) (m_savedMany : Int32) (m_aside : (Nat → Int32)) (m_sent : (Nat → Int32)) (m_text : (Nat → Int32)) (m_length : Int32) (m_way : (Nat → Int32)) (m_crossed : Int32) (m_wayCost : Int32) (m_isWay : Int32) (m_next : Int32) (m_start : Int32) (m_token : Int32) (m_number : Int32) (m_letters : Int64) (m_isWrong : Int32) (m_sums : (Nat → Int32)) (m_steps : (Nat → Int32)) (m_chosen : Int32) (m_passed : (Nat → Int32)) (m_passedMany : Int32) (m_passedCost : Int32) (m_reach : (Nat → Int32)) (v1 : Int32) {res : Int32} (h : fX7_area v1 m_s = some res) : Met l yX7_area (Cond.code yX7_area cX7_area 2 (some .int) :: zWs) rmX7_area (zP Z (wX7 Z Am m_thrown m_s m_saved m_savedMany m_aside m_sent m_text m_length m_way m_crossed m_wayCost m_isWay m_next m_start m_token m_number m_letters m_isWrong m_sums m_steps m_chosen m_passed m_passedMany m_passedCost m_reach) sz [.ref (Am 0), .int v1]) (zQi Z res (wX7 Z Am m_thrown m_s m_saved m_savedMany m_aside m_sent m_text m_length m_way m_crossed m_wayCost m_isWay m_next m_start m_token m_number m_letters m_isWrong m_sums m_steps m_chosen m_passed m_passedMany m_passedCost m_reach) (va_A (wX7 Z Am m_thrown m_s m_saved m_savedMany m_aside m_sent m_text m_length m_way m_crossed m_wayCost m_isWay m_next m_start m_token m_number m_letters m_isWrong m_sums m_steps m_chosen m_passed m_passedMany m_passedCost m_reach) sz)) 0 0 (va_A (wX7 Z Am m_thrown m_s m_saved m_savedMany m_aside m_sent m_text m_length m_way m_crossed m_wayCost m_isWay m_next m_start m_token m_number m_letters m_isWrong m_sums m_steps m_chosen m_passed m_passedMany m_passedCost m_reach) sz) := by
  refine zMet (own := RX7) (fun A => zQi Z res (wX7 Z Am m_thrown m_s m_saved m_savedMany m_aside m_sent m_text m_length m_way m_crossed m_wayCost m_isWay m_next m_start m_token m_number m_letters m_isWrong m_sums m_steps m_chosen m_passed m_passedMany m_passedCost m_reach) A) (by decide) rfl (Nat.le_of_ble_eq_true rfl) ?_
  intro p e s m args below meth c ls A E hw hl
  unfold fX7_area at h
  refine r_aload_n E hl 0 rfl dX7_area_0 rfl ?_
  refine r_get E kW_X7 hw 0 rfl rfl 1 (by decide) kF_X7_7 rfl dX7_area_1 ?_
  refine r_iconst E 4 dX7_area_4 (by decide) ?_
  refine r_iload_n E hl 1 rfl dX7_area_5 rfl ?_
  refine r_iadd E dX7_area_6 ?_
  obtain ⟨hg1, h⟩ := gd_some h
  refine r_iald E hw 1 rfl hg1 dX7_area_7 ?_
  obtain rfl := Option.some.inj h
  exact r_iret E hw dX7_area_8
abbrev rmX7_linkPart : Room := { frames := 0, cells := 0, slots := 0, locals := 0 }

set_option maxRecDepth 100000 in
set_option maxHeartbeats 4000000 in
theorem mX7_linkPart (l : Launch) (Z : zT) (sz : Nat) (Am : Nat → Nat) (m_thrown : Int32) (m_s : (Nat → Int32)) (m_saved : (Nat → Int32)) (m_savedMany : Int32) (m_aside : (Nat → Int32)) (m_sent : (Nat → Int32)) (m_text : (Nat → Int32)) (m_length : Int32) (m_way : (Nat → Int32)) (m_crossed : Int32) (m_wayCost : Int32) (m_isWay : Int32) (m_next : Int32) (m_start : Int32) (m_token : Int32) (m_number : Int32) (m_letters : Int64) (m_isWrong : Int32) (m_sums : (Nat → Int32)) (m_steps : (Nat → Int32)) (m_chosen : Int32) (m_passed : (Nat → Int32)) (m_passedMany : Int32) (m_passedCost : Int32) (m_reach : (Nat → Int32)) (v1 : Int32) (v2 : Int32) {res : Int32} (h : fX7_linkPart v1 v2 m_s = some res) : Met l yX7_linkPart (Cond.code yX7_linkPart cX7_linkPart 3 (some .int) :: zWs) rmX7_linkPart (zP Z (wX7 Z Am m_thrown m_s m_saved m_savedMany m_aside m_sent m_text m_length m_way m_crossed m_wayCost m_isWay m_next m_start m_token m_number m_letters m_isWrong m_sums m_steps m_chosen m_passed m_passedMany m_passedCost m_reach) sz [.ref (Am 0), .int v1, .int v2]) (zQi Z res (wX7 Z Am m_thrown m_s m_saved m_savedMany m_aside m_sent m_text m_length m_way m_crossed m_wayCost m_isWay m_next m_start m_token m_number m_letters m_isWrong m_sums m_steps m_chosen m_passed m_passedMany m_passedCost m_reach) (va_A (wX7 Z Am m_thrown m_s m_saved m_savedMany m_aside m_sent m_text m_length m_way m_crossed m_wayCost m_isWay m_next m_start m_token m_number m_letters m_isWrong m_sums m_steps m_chosen m_passed m_passedMany m_passedCost m_reach) sz)) 0 0 (va_A (wX7 Z Am m_thrown m_s m_saved m_savedMany m_aside m_sent m_text m_length m_way m_crossed m_wayCost m_isWay m_next m_start m_token m_number m_letters m_isWrong m_sums m_steps m_chosen m_passed m_passedMany m_passedCost m_reach) sz) := by
  refine zMet (own := RX7) (fun A => zQi Z res (wX7 Z Am m_thrown m_s m_saved m_savedMany m_aside m_sent m_text m_length m_way m_crossed m_wayCost m_isWay m_next m_start m_token m_number m_letters m_isWrong m_sums m_steps m_chosen m_passed m_passedMany m_passedCost m_reach) A) (by decide) rfl (Nat.le_of_ble_eq_true rfl) ?_
  intro p e s m args below meth c ls A E hw hl
  unfold fX7_linkPart at h
  refine r_aload_n E hl 0 rfl dX7_linkPart_0 rfl ?_
  refine r_get E kW_X7 hw 0 rfl rfl 1 (by decide) kF_X7_7 rfl dX7_linkPart_1 ?_
  refine r_bipush E 46 dX7_linkPart_4 (by decide) ?_
  refine r_bipush E 6 dX7_linkPart_6 (by decide) ?_
  refine r_iload_n E hl 1 rfl dX7_linkPart_8 rfl ?_
  refine r_imul E dX7_linkPart_9 ?_
  refine r_iadd E dX7_linkPart_10 ?_
  refine r_iload_n E hl 2 rfl dX7_linkPart_11 rfl ?_
  refine r_iadd E dX7_linkPart_12 ?_
  obtain ⟨hg1, h⟩ := gd_some h
  refine r_iald E hw 1 rfl hg1 dX7_linkPart_13 ?_
  obtain rfl := Option.some.inj h
  exact r_iret E hw dX7_linkPart_14
abbrev rmX7_tunnelPart : Room := { frames := 0, cells := 0, slots := 0, locals := 0 }

set_option maxRecDepth 100000 in
set_option maxHeartbeats 4000000 in
theorem mX7_tunnelPart (l : Launch) (Z : zT) (sz : Nat) (Am : Nat → Nat) (m_thrown : Int32) (m_s : (Nat → Int32)) (m_saved : (Nat → Int32)) (m_savedMany : Int32) (m_aside : (Nat → Int32)) (m_sent : (Nat → Int32)) (m_text : (Nat → Int32)) (m_length : Int32) (m_way : (Nat → Int32)) (m_crossed : Int32) (m_wayCost : Int32) (m_isWay : Int32) (m_next : Int32) (m_start : Int32) (m_token : Int32) (m_number : Int32) (m_letters : Int64) (m_isWrong : Int32) (m_sums : (Nat → Int32)) (m_steps : (Nat → Int32)) (m_chosen : Int32) (m_passed : (Nat → Int32)) (m_passedMany : Int32) (m_passedCost : Int32) (m_reach : (Nat → Int32)) (v1 : Int32) (v2 : Int32) {res : Int32} (h : fX7_tunnelPart v1 v2 m_s = some res) : Met l yX7_tunnelPart (Cond.code yX7_tunnelPart cX7_tunnelPart 3 (some .int) :: zWs) rmX7_tunnelPart (zP Z (wX7 Z Am m_thrown m_s m_saved m_savedMany m_aside m_sent m_text m_length m_way m_crossed m_wayCost m_isWay m_next m_start m_token m_number m_letters m_isWrong m_sums m_steps m_chosen m_passed m_passedMany m_passedCost m_reach) sz [.ref (Am 0), .int v1, .int v2]) (zQi Z res (wX7 Z Am m_thrown m_s m_saved m_savedMany m_aside m_sent m_text m_length m_way m_crossed m_wayCost m_isWay m_next m_start m_token m_number m_letters m_isWrong m_sums m_steps m_chosen m_passed m_passedMany m_passedCost m_reach) (va_A (wX7 Z Am m_thrown m_s m_saved m_savedMany m_aside m_sent m_text m_length m_way m_crossed m_wayCost m_isWay m_next m_start m_token m_number m_letters m_isWrong m_sums m_steps m_chosen m_passed m_passedMany m_passedCost m_reach) sz)) 0 0 (va_A (wX7 Z Am m_thrown m_s m_saved m_savedMany m_aside m_sent m_text m_length m_way m_crossed m_wayCost m_isWay m_next m_start m_token m_number m_letters m_isWrong m_sums m_steps m_chosen m_passed m_passedMany m_passedCost m_reach) sz) := by
  refine zMet (own := RX7) (fun A => zQi Z res (wX7 Z Am m_thrown m_s m_saved m_savedMany m_aside m_sent m_text m_length m_way m_crossed m_wayCost m_isWay m_next m_start m_token m_number m_letters m_isWrong m_sums m_steps m_chosen m_passed m_passedMany m_passedCost m_reach) A) (by decide) rfl (Nat.le_of_ble_eq_true rfl) ?_
  intro p e s m args below meth c ls A E hw hl
  unfold fX7_tunnelPart at h
  refine r_aload_n E hl 0 rfl dX7_tunnelPart_0 rfl ?_
  refine r_get E kW_X7 hw 0 rfl rfl 1 (by decide) kF_X7_7 rfl dX7_tunnelPart_1 ?_
  refine r_sipush E 142 dX7_tunnelPart_4 (by decide) ?_
  refine r_iconst E 5 dX7_tunnelPart_7 (by decide) ?_
  refine r_iload_n E hl 1 rfl dX7_tunnelPart_8 rfl ?_
  refine r_imul E dX7_tunnelPart_9 ?_
  refine r_iadd E dX7_tunnelPart_10 ?_
  refine r_iload_n E hl 2 rfl dX7_tunnelPart_11 rfl ?_
  refine r_iadd E dX7_tunnelPart_12 ?_
  obtain ⟨hg1, h⟩ := gd_some h
  refine r_iald E hw 1 rfl hg1 dX7_tunnelPart_13 ?_
  obtain rfl := Option.some.inj h
  exact r_iret E hw dX7_tunnelPart_14
abbrev rmX7_isNode : Room := { frames := 1, cells := 0, slots := 0, locals := 22 }

set_option maxRecDepth 100000 in
set_option maxHeartbeats 4000000 in
theorem mX7_isNode (l : Launch) (Z : zT) (sz : Nat) (Am : Nat → Nat) (m_thrown : Int32) (m_s : (Nat → Int32)) (m_saved : (Nat → Int32)) (m_savedMany : Int32) (m_aside : (Nat → Int32)) (m_sent : (Nat → Int32)) (m_text : (Nat → Int32)) (m_length : Int32) (m_way : (Nat → Int32)) (m_crossed : Int32) (m_wayCost : Int32) (m_isWay : Int32) (m_next : Int32) (m_start : Int32) (m_token : Int32) (m_number : Int32) (m_letters : Int64) (m_isWrong : Int32) (m_sums : (Nat → Int32)) (m_steps : (Nat → Int32)) (m_chosen : Int32) (m_passed : (Nat → Int32)) (m_passedMany : Int32) (m_passedCost : Int32) (m_reach : (Nat → Int32)) (v1 : Int32) {res : Int32} (h : fX7_isNode v1 m_s = some res) : Met l yX7_isNode (Cond.code yX7_isNode cX7_isNode 2 (some .boolean) :: zWs) rmX7_isNode (zP Z (wX7 Z Am m_thrown m_s m_saved m_savedMany m_aside m_sent m_text m_length m_way m_crossed m_wayCost m_isWay m_next m_start m_token m_number m_letters m_isWrong m_sums m_steps m_chosen m_passed m_passedMany m_passedCost m_reach) sz [.ref (Am 0), .int v1]) (zQi Z res (wX7 Z Am m_thrown m_s m_saved m_savedMany m_aside m_sent m_text m_length m_way m_crossed m_wayCost m_isWay m_next m_start m_token m_number m_letters m_isWrong m_sums m_steps m_chosen m_passed m_passedMany m_passedCost m_reach) (va_A (wX7 Z Am m_thrown m_s m_saved m_savedMany m_aside m_sent m_text m_length m_way m_crossed m_wayCost m_isWay m_next m_start m_token m_number m_letters m_isWrong m_sums m_steps m_chosen m_passed m_passedMany m_passedCost m_reach) sz)) 0 0 (va_A (wX7 Z Am m_thrown m_s m_saved m_savedMany m_aside m_sent m_text m_length m_way m_crossed m_wayCost m_isWay m_next m_start m_token m_number m_letters m_isWrong m_sums m_steps m_chosen m_passed m_passedMany m_passedCost m_reach) sz) := by
  refine zMet (own := RX7) (fun A => zQi Z res (wX7 Z Am m_thrown m_s m_saved m_savedMany m_aside m_sent m_text m_length m_way m_crossed m_wayCost m_isWay m_next m_start m_token m_number m_letters m_isWrong m_sums m_steps m_chosen m_passed m_passedMany m_passedCost m_reach) A) (by decide) rfl (Nat.le_of_ble_eq_true rfl) ?_
  intro p e s m args below meth c ls A E hw hl
  unfold fX7_isNode at h
  refine r_iload_n E hl 1 rfl dX7_isNode_0 rfl ?_
  refine r_iconst E 0 dX7_isNode_1 (by decide) ?_
  refine r_aload_n E hl 0 rfl dX7_isNode_2 rfl ?_
  refine r_get E kW_X7 hw 0 rfl rfl 1 (by decide) kF_X7_7 rfl dX7_isNode_3 ?_
  refine r_iconst E 0 dX7_isNode_6 (by decide) ?_
  obtain ⟨hg1, h⟩ := gd_some h
  refine r_iald E hw 1 rfl hg1 dX7_isNode_7 ?_
  refine r_iconst E 1 dX7_isNode_8 (by decide) ?_
  refine r_isub E dX7_isNode_9 ?_
  obtain ⟨y2, hy2, h⟩ := bd_some h
  refine r_callS0i E hw (mX7_in l Z _ v1 (0 : Int32) ((m_s ((0 : Int32)).toNatClampNeg) - (1 : Int32)) hy2) kL_X7_58 kT_X7_in kN_X7 kC_X7_in rfl rfl hdX7_in ⟨Nat.le_of_ble_eq_true rfl, Nat.le_of_ble_eq_true rfl⟩ rfl hl [] rfl (Nat.le_of_ble_eq_true rfl) dX7_isNode_10 ⟨Nat.zero_le _, Nat.zero_le _⟩ (fun H locs hw => ?_)
  obtain ⟨hz, h⟩ := gd_some h
  obtain rfl := Option.some.inj h
  exact r_zret E hz hw dX7_isNode_13
abbrev rmX7_isLink : Room := { frames := 1, cells := 0, slots := 0, locals := 22 }

set_option maxRecDepth 100000 in
set_option maxHeartbeats 4000000 in
theorem mX7_isLink (l : Launch) (Z : zT) (sz : Nat) (Am : Nat → Nat) (m_thrown : Int32) (m_s : (Nat → Int32)) (m_saved : (Nat → Int32)) (m_savedMany : Int32) (m_aside : (Nat → Int32)) (m_sent : (Nat → Int32)) (m_text : (Nat → Int32)) (m_length : Int32) (m_way : (Nat → Int32)) (m_crossed : Int32) (m_wayCost : Int32) (m_isWay : Int32) (m_next : Int32) (m_start : Int32) (m_token : Int32) (m_number : Int32) (m_letters : Int64) (m_isWrong : Int32) (m_sums : (Nat → Int32)) (m_steps : (Nat → Int32)) (m_chosen : Int32) (m_passed : (Nat → Int32)) (m_passedMany : Int32) (m_passedCost : Int32) (m_reach : (Nat → Int32)) (v1 : Int32) {res : Int32} (h : fX7_isLink v1 m_s = some res) : Met l yX7_isLink (Cond.code yX7_isLink cX7_isLink 2 (some .boolean) :: zWs) rmX7_isLink (zP Z (wX7 Z Am m_thrown m_s m_saved m_savedMany m_aside m_sent m_text m_length m_way m_crossed m_wayCost m_isWay m_next m_start m_token m_number m_letters m_isWrong m_sums m_steps m_chosen m_passed m_passedMany m_passedCost m_reach) sz [.ref (Am 0), .int v1]) (zQi Z res (wX7 Z Am m_thrown m_s m_saved m_savedMany m_aside m_sent m_text m_length m_way m_crossed m_wayCost m_isWay m_next m_start m_token m_number m_letters m_isWrong m_sums m_steps m_chosen m_passed m_passedMany m_passedCost m_reach) (va_A (wX7 Z Am m_thrown m_s m_saved m_savedMany m_aside m_sent m_text m_length m_way m_crossed m_wayCost m_isWay m_next m_start m_token m_number m_letters m_isWrong m_sums m_steps m_chosen m_passed m_passedMany m_passedCost m_reach) sz)) 0 0 (va_A (wX7 Z Am m_thrown m_s m_saved m_savedMany m_aside m_sent m_text m_length m_way m_crossed m_wayCost m_isWay m_next m_start m_token m_number m_letters m_isWrong m_sums m_steps m_chosen m_passed m_passedMany m_passedCost m_reach) sz) := by
  refine zMet (own := RX7) (fun A => zQi Z res (wX7 Z Am m_thrown m_s m_saved m_savedMany m_aside m_sent m_text m_length m_way m_crossed m_wayCost m_isWay m_next m_start m_token m_number m_letters m_isWrong m_sums m_steps m_chosen m_passed m_passedMany m_passedCost m_reach) A) (by decide) rfl (Nat.le_of_ble_eq_true rfl) ?_
  intro p e s m args below meth c ls A E hw hl
  unfold fX7_isLink at h
  refine r_iload_n E hl 1 rfl dX7_isLink_0 rfl ?_
  refine r_iconst E 0 dX7_isLink_1 (by decide) ?_
  refine r_aload_n E hl 0 rfl dX7_isLink_2 rfl ?_
  refine r_get E kW_X7 hw 0 rfl rfl 1 (by decide) kF_X7_7 rfl dX7_isLink_3 ?_
  refine r_iconst E 1 dX7_isLink_6 (by decide) ?_
  obtain ⟨hg1, h⟩ := gd_some h
  refine r_iald E hw 1 rfl hg1 dX7_isLink_7 ?_
  refine r_iconst E 1 dX7_isLink_8 (by decide) ?_
  refine r_isub E dX7_isLink_9 ?_
  obtain ⟨y2, hy2, h⟩ := bd_some h
  refine r_callS0i E hw (mX7_in l Z _ v1 (0 : Int32) ((m_s ((1 : Int32)).toNatClampNeg) - (1 : Int32)) hy2) kL_X7_58 kT_X7_in kN_X7 kC_X7_in rfl rfl hdX7_in ⟨Nat.le_of_ble_eq_true rfl, Nat.le_of_ble_eq_true rfl⟩ rfl hl [] rfl (Nat.le_of_ble_eq_true rfl) dX7_isLink_10 ⟨Nat.zero_le _, Nat.zero_le _⟩ (fun H locs hw => ?_)
  obtain ⟨hz, h⟩ := gd_some h
  obtain rfl := Option.some.inj h
  exact r_zret E hz hw dX7_isLink_13
abbrev rmX7_isTunnel : Room := { frames := 1, cells := 0, slots := 0, locals := 22 }

set_option maxRecDepth 100000 in
set_option maxHeartbeats 4000000 in
theorem mX7_isTunnel (l : Launch) (Z : zT) (sz : Nat) (Am : Nat → Nat) (m_thrown : Int32) (m_s : (Nat → Int32)) (m_saved : (Nat → Int32)) (m_savedMany : Int32) (m_aside : (Nat → Int32)) (m_sent : (Nat → Int32)) (m_text : (Nat → Int32)) (m_length : Int32) (m_way : (Nat → Int32)) (m_crossed : Int32) (m_wayCost : Int32) (m_isWay : Int32) (m_next : Int32) (m_start : Int32) (m_token : Int32) (m_number : Int32) (m_letters : Int64) (m_isWrong : Int32) (m_sums : (Nat → Int32)) (m_steps : (Nat → Int32)) (m_chosen : Int32) (m_passed : (Nat → Int32)) (m_passedMany : Int32) (m_passedCost : Int32) (m_reach : (Nat → Int32)) (v1 : Int32) {res : Int32} (h : fX7_isTunnel v1 m_s = some res) : Met l yX7_isTunnel (Cond.code yX7_isTunnel cX7_isTunnel 2 (some .boolean) :: zWs) rmX7_isTunnel (zP Z (wX7 Z Am m_thrown m_s m_saved m_savedMany m_aside m_sent m_text m_length m_way m_crossed m_wayCost m_isWay m_next m_start m_token m_number m_letters m_isWrong m_sums m_steps m_chosen m_passed m_passedMany m_passedCost m_reach) sz [.ref (Am 0), .int v1]) (zQi Z res (wX7 Z Am m_thrown m_s m_saved m_savedMany m_aside m_sent m_text m_length m_way m_crossed m_wayCost m_isWay m_next m_start m_token m_number m_letters m_isWrong m_sums m_steps m_chosen m_passed m_passedMany m_passedCost m_reach) (va_A (wX7 Z Am m_thrown m_s m_saved m_savedMany m_aside m_sent m_text m_length m_way m_crossed m_wayCost m_isWay m_next m_start m_token m_number m_letters m_isWrong m_sums m_steps m_chosen m_passed m_passedMany m_passedCost m_reach) sz)) 0 0 (va_A (wX7 Z Am m_thrown m_s m_saved m_savedMany m_aside m_sent m_text m_length m_way m_crossed m_wayCost m_isWay m_next m_start m_token m_number m_letters m_isWrong m_sums m_steps m_chosen m_passed m_passedMany m_passedCost m_reach) sz) := by
  refine zMet (own := RX7) (fun A => zQi Z res (wX7 Z Am m_thrown m_s m_saved m_savedMany m_aside m_sent m_text m_length m_way m_crossed m_wayCost m_isWay m_next m_start m_token m_number m_letters m_isWrong m_sums m_steps m_chosen m_passed m_passedMany m_passedCost m_reach) A) (by decide) rfl (Nat.le_of_ble_eq_true rfl) ?_
  intro p e s m args below meth c ls A E hw hl
  unfold fX7_isTunnel at h
  refine r_iload_n E hl 1 rfl dX7_isTunnel_0 rfl ?_
  refine r_iconst E 0 dX7_isTunnel_1 (by decide) ?_
  refine r_aload_n E hl 0 rfl dX7_isTunnel_2 rfl ?_
  refine r_get E kW_X7 hw 0 rfl rfl 1 (by decide) kF_X7_7 rfl dX7_isTunnel_3 ?_
  refine r_iconst E 2 dX7_isTunnel_6 (by decide) ?_
  obtain ⟨hg1, h⟩ := gd_some h
  refine r_iald E hw 1 rfl hg1 dX7_isTunnel_7 ?_
  refine r_iconst E 1 dX7_isTunnel_8 (by decide) ?_
  refine r_isub E dX7_isTunnel_9 ?_
  obtain ⟨y2, hy2, h⟩ := bd_some h
  refine r_callS0i E hw (mX7_in l Z _ v1 (0 : Int32) ((m_s ((2 : Int32)).toNatClampNeg) - (1 : Int32)) hy2) kL_X7_58 kT_X7_in kN_X7 kC_X7_in rfl rfl hdX7_in ⟨Nat.le_of_ble_eq_true rfl, Nat.le_of_ble_eq_true rfl⟩ rfl hl [] rfl (Nat.le_of_ble_eq_true rfl) dX7_isTunnel_10 ⟨Nat.zero_le _, Nat.zero_le _⟩ (fun H locs hw => ?_)
  obtain ⟨hz, h⟩ := gd_some h
  obtain rfl := Option.some.inj h
  exact r_zret E hz hw dX7_isTunnel_13
abbrev rmX7_isEnd : Room := { frames := 1, cells := 0, slots := 0, locals := 22 }

set_option maxRecDepth 100000 in
set_option maxHeartbeats 4000000 in
theorem vX7_isEnd_20 {Z : zT} {p : Program} {l : Launch} {e : Env} {s : State} {m : MethodId} {args : Array Value} {below : List Frame} {meth : Method} {c : Code} {A : Nat → Prop} (E : zE Z p s m args meth c RX7 cX7_isEnd 3 (some .boolean) A) {Am : Nat → Nat} {m_thrown : Int32} {m_s : (Nat → Int32)} {m_saved : (Nat → Int32)} {m_savedMany : Int32} {m_aside : (Nat → Int32)} {m_sent : (Nat → Int32)} {m_text : (Nat → Int32)} {m_length : Int32} {m_way : (Nat → Int32)} {m_crossed : Int32} {m_wayCost : Int32} {m_isWay : Int32} {m_next : Int32} {m_start : Int32} {m_token : Int32} {m_number : Int32} {m_letters : Int64} {m_isWrong : Int32} {m_sums : (Nat → Int32)} {m_steps : (Nat → Int32)} {m_chosen : Int32} {m_passed : (Nat → Int32)} {m_passedMany : Int32} {m_passedCost : Int32} {m_reach : (Nat → Int32)} {res : Int32}  {H : Heap} {locs : List Loc} {ls : Array Slot} (hw : zW Z A (wX7 Z Am m_thrown m_s m_saved m_savedMany m_aside m_sent m_text m_length m_way m_crossed m_wayCost m_isWay m_next m_start m_token m_number m_letters m_isWrong m_sums m_steps m_chosen m_passed m_passedMany m_passedCost m_reach) s.heap H locs) (hl : lv_has ls 3 []) (h : uX7_isEnd_20  = some res) : W p l e rmX7_isEnd s m args below meth c H locs 0 0 (MQ below (zQi Z res (wX7 Z Am m_thrown m_s m_saved m_savedMany m_aside m_sent m_text m_length m_way m_crossed m_wayCost m_isWay m_next m_start m_token m_number m_letters m_isWrong m_sums m_steps m_chosen m_passed m_passedMany m_passedCost m_reach) A) args s 0 0 A) (F0 m 20 ls []) := by
  unfold uX7_isEnd_20 at h
  refine r_iconst E 1 dX7_isEnd_20 (by decide) ?_
  refine r_goto E 25 dX7_isEnd_21 (by decide) ?_
  obtain rfl := Option.some.inj h
  exact r_zret E bz_1 hw dX7_isEnd_25
set_option maxRecDepth 100000 in
set_option maxHeartbeats 4000000 in
theorem mX7_isEnd (l : Launch) (Z : zT) (sz : Nat) (Am : Nat → Nat) (m_thrown : Int32) (m_s : (Nat → Int32)) (m_saved : (Nat → Int32)) (m_savedMany : Int32) (m_aside : (Nat → Int32)) (m_sent : (Nat → Int32)) (m_text : (Nat → Int32)) (m_length : Int32) (m_way : (Nat → Int32)) (m_crossed : Int32) (m_wayCost : Int32) (m_isWay : Int32) (m_next : Int32) (m_start : Int32) (m_token : Int32) (m_number : Int32) (m_letters : Int64) (m_isWrong : Int32) (m_sums : (Nat → Int32)) (m_steps : (Nat → Int32)) (m_chosen : Int32) (m_passed : (Nat → Int32)) (m_passedMany : Int32) (m_passedCost : Int32) (m_reach : (Nat → Int32)) (v1 : Int32) (v2 : Int32) {res : Int32} (h : fX7_isEnd v1 v2 m_s = some res) : Met l yX7_isEnd (Cond.code yX7_isEnd cX7_isEnd 3 (some .boolean) :: zWs) rmX7_isEnd (zP Z (wX7 Z Am m_thrown m_s m_saved m_savedMany m_aside m_sent m_text m_length m_way m_crossed m_wayCost m_isWay m_next m_start m_token m_number m_letters m_isWrong m_sums m_steps m_chosen m_passed m_passedMany m_passedCost m_reach) sz [.ref (Am 0), .int v1, .int v2]) (zQi Z res (wX7 Z Am m_thrown m_s m_saved m_savedMany m_aside m_sent m_text m_length m_way m_crossed m_wayCost m_isWay m_next m_start m_token m_number m_letters m_isWrong m_sums m_steps m_chosen m_passed m_passedMany m_passedCost m_reach) (va_A (wX7 Z Am m_thrown m_s m_saved m_savedMany m_aside m_sent m_text m_length m_way m_crossed m_wayCost m_isWay m_next m_start m_token m_number m_letters m_isWrong m_sums m_steps m_chosen m_passed m_passedMany m_passedCost m_reach) sz)) 0 0 (va_A (wX7 Z Am m_thrown m_s m_saved m_savedMany m_aside m_sent m_text m_length m_way m_crossed m_wayCost m_isWay m_next m_start m_token m_number m_letters m_isWrong m_sums m_steps m_chosen m_passed m_passedMany m_passedCost m_reach) sz) := by
  refine zMet (own := RX7) (fun A => zQi Z res (wX7 Z Am m_thrown m_s m_saved m_savedMany m_aside m_sent m_text m_length m_way m_crossed m_wayCost m_isWay m_next m_start m_token m_number m_letters m_isWrong m_sums m_steps m_chosen m_passed m_passedMany m_passedCost m_reach) A) (by decide) rfl (Nat.le_of_ble_eq_true rfl) ?_
  intro p e s m args below meth c ls A E hw hl
  unfold fX7_isEnd at h
  refine r_aload_n E hl 0 rfl dX7_isEnd_0 rfl ?_
  refine r_iload_n E hl 2 rfl dX7_isEnd_1 rfl ?_
  refine r_iconst E 0 dX7_isEnd_2 (by decide) ?_
  obtain ⟨y1, hy1, h⟩ := bd_some h
  refine r_callVAi E hw (mX7_linkPart l Z _ Am m_thrown m_s m_saved m_savedMany m_aside m_sent m_text m_length m_way m_crossed m_wayCost m_isWay m_next m_start m_token m_number m_letters m_isWrong m_sums m_steps m_chosen m_passed m_passedMany m_passedCost m_reach v2 (0 : Int32) hy1) kL_X7_62 kI_X7_linkPart kS_X7_linkPart kN_X7 kC_X7_linkPart rfl rfl hdX7_linkPart ⟨Nat.le_of_ble_eq_true rfl, Nat.le_of_ble_eq_true rfl⟩ 0 rfl rfl rfl rfl hl [] rfl (Nat.le_of_ble_eq_true rfl) dX7_isEnd_3 ⟨Nat.zero_le _, Nat.zero_le _⟩ (fun H locs hw => ?_)
  refine r_iload_n E hl 1 rfl dX7_isEnd_6 rfl ?_
  refine r_icmp_eq E 20 dX7_isEnd_7 (by decide) (fun hc => ?_) (fun hc => ?_)
  · replace h := ite_t hc h
    exact vX7_isEnd_20 E  hw (lv_sub hl [] rfl) h
  · replace h := ite_f hc h
    refine r_aload_n E hl 0 rfl dX7_isEnd_10 rfl ?_
    refine r_iload_n E hl 2 rfl dX7_isEnd_11 rfl ?_
    refine r_iconst E 1 dX7_isEnd_12 (by decide) ?_
    obtain ⟨y2, hy2, h⟩ := bd_some h
    refine r_callVAi E hw (mX7_linkPart l Z _ Am m_thrown m_s m_saved m_savedMany m_aside m_sent m_text m_length m_way m_crossed m_wayCost m_isWay m_next m_start m_token m_number m_letters m_isWrong m_sums m_steps m_chosen m_passed m_passedMany m_passedCost m_reach v2 (1 : Int32) hy2) kL_X7_62 kI_X7_linkPart kS_X7_linkPart kN_X7 kC_X7_linkPart rfl rfl hdX7_linkPart ⟨Nat.le_of_ble_eq_true rfl, Nat.le_of_ble_eq_true rfl⟩ 0 rfl rfl rfl rfl hl [] rfl (Nat.le_of_ble_eq_true rfl) dX7_isEnd_13 ⟨Nat.zero_le _, Nat.zero_le _⟩ (fun H locs hw => ?_)
    refine r_iload_n E hl 1 rfl dX7_isEnd_16 rfl ?_
    refine r_icmp_ne E 24 dX7_isEnd_17 (by decide) (fun hc => ?_) (fun hc => ?_)
    · replace h := ite_f hc h
      refine r_iconst E 0 dX7_isEnd_24 (by decide) ?_
      obtain rfl := Option.some.inj h
      exact r_zret E bz_0 hw dX7_isEnd_25
    · replace h := ite_t hc h
      exact vX7_isEnd_20 E  hw (lv_sub hl [] rfl) h
abbrev rmX7_owner : Room := { frames := 1, cells := 0, slots := 0, locals := 22 }

set_option maxRecDepth 100000 in
set_option maxHeartbeats 4000000 in
theorem mX7_owner (l : Launch) (Z : zT) (sz : Nat) (Am : Nat → Nat) (m_thrown : Int32) (m_s : (Nat → Int32)) (m_saved : (Nat → Int32)) (m_savedMany : Int32) (m_aside : (Nat → Int32)) (m_sent : (Nat → Int32)) (m_text : (Nat → Int32)) (m_length : Int32) (m_way : (Nat → Int32)) (m_crossed : Int32) (m_wayCost : Int32) (m_isWay : Int32) (m_next : Int32) (m_start : Int32) (m_token : Int32) (m_number : Int32) (m_letters : Int64) (m_isWrong : Int32) (m_sums : (Nat → Int32)) (m_steps : (Nat → Int32)) (m_chosen : Int32) (m_passed : (Nat → Int32)) (m_passedMany : Int32) (m_passedCost : Int32) (m_reach : (Nat → Int32)) (v1 : Int32) {res : Int32} (h : fX7_owner v1 m_s = some res) : Met l yX7_owner (Cond.code yX7_owner cX7_owner 2 (some .int) :: zWs) rmX7_owner (zP Z (wX7 Z Am m_thrown m_s m_saved m_savedMany m_aside m_sent m_text m_length m_way m_crossed m_wayCost m_isWay m_next m_start m_token m_number m_letters m_isWrong m_sums m_steps m_chosen m_passed m_passedMany m_passedCost m_reach) sz [.ref (Am 0), .int v1]) (zQi Z res (wX7 Z Am m_thrown m_s m_saved m_savedMany m_aside m_sent m_text m_length m_way m_crossed m_wayCost m_isWay m_next m_start m_token m_number m_letters m_isWrong m_sums m_steps m_chosen m_passed m_passedMany m_passedCost m_reach) (va_A (wX7 Z Am m_thrown m_s m_saved m_savedMany m_aside m_sent m_text m_length m_way m_crossed m_wayCost m_isWay m_next m_start m_token m_number m_letters m_isWrong m_sums m_steps m_chosen m_passed m_passedMany m_passedCost m_reach) sz)) 0 0 (va_A (wX7 Z Am m_thrown m_s m_saved m_savedMany m_aside m_sent m_text m_length m_way m_crossed m_wayCost m_isWay m_next m_start m_token m_number m_letters m_isWrong m_sums m_steps m_chosen m_passed m_passedMany m_passedCost m_reach) sz) := by
  refine zMet (own := RX7) (fun A => zQi Z res (wX7 Z Am m_thrown m_s m_saved m_savedMany m_aside m_sent m_text m_length m_way m_crossed m_wayCost m_isWay m_next m_start m_token m_number m_letters m_isWrong m_sums m_steps m_chosen m_passed m_passedMany m_passedCost m_reach) A) (by decide) rfl (Nat.le_of_ble_eq_true rfl) ?_
  intro p e s m args below meth c ls A E hw hl
  unfold fX7_owner at h
  refine r_aload_n E hl 0 rfl dX7_owner_0 rfl ?_
  refine r_aload_n E hl 0 rfl dX7_owner_1 rfl ?_
  refine r_iload_n E hl 1 rfl dX7_owner_2 rfl ?_
  refine r_iconst E 0 dX7_owner_3 (by decide) ?_
  obtain ⟨y1, hy1, h⟩ := bd_some h
  refine r_callVAi E hw (mX7_linkPart l Z _ Am m_thrown m_s m_saved m_savedMany m_aside m_sent m_text m_length m_way m_crossed m_wayCost m_isWay m_next m_start m_token m_number m_letters m_isWrong m_sums m_steps m_chosen m_passed m_passedMany m_passedCost m_reach v1 (0 : Int32) hy1) kL_X7_62 kI_X7_linkPart kS_X7_linkPart kN_X7 kC_X7_linkPart rfl rfl hdX7_linkPart ⟨Nat.le_of_ble_eq_true rfl, Nat.le_of_ble_eq_true rfl⟩ 0 rfl rfl rfl rfl hl [.ref (Am 0)] rfl (Nat.le_of_ble_eq_true rfl) dX7_owner_4 ⟨Nat.zero_le _, Nat.zero_le _⟩ (fun H locs hw => ?_)
  obtain ⟨y2, hy2, h⟩ := bd_some h
  refine r_callVAi E hw (mX7_area l Z _ Am m_thrown m_s m_saved m_savedMany m_aside m_sent m_text m_length m_way m_crossed m_wayCost m_isWay m_next m_start m_token m_number m_letters m_isWrong m_sums m_steps m_chosen m_passed m_passedMany m_passedCost m_reach y1 hy2) kL_X7_66 kI_X7_area kS_X7_area kN_X7 kC_X7_area rfl rfl hdX7_area ⟨Nat.le_of_ble_eq_true rfl, Nat.le_of_ble_eq_true rfl⟩ 0 rfl rfl rfl rfl hl [] rfl (Nat.le_of_ble_eq_true rfl) dX7_owner_7 ⟨Nat.zero_le _, Nat.zero_le _⟩ (fun H locs hw => ?_)
  obtain rfl := Option.some.inj h
  exact r_iret E hw dX7_owner_10
abbrev rmX7_fact : Room := { frames := 1, cells := 0, slots := 0, locals := 21 }

set_option maxRecDepth 100000 in
set_option maxHeartbeats 4000000 in
theorem mX7_fact (l : Launch) (Z : zT) (sz : Nat) (Am : Nat → Nat) (m_thrown : Int32) (m_s : (Nat → Int32)) (m_saved : (Nat → Int32)) (m_savedMany : Int32) (m_aside : (Nat → Int32)) (m_sent : (Nat → Int32)) (m_text : (Nat → Int32)) (m_length : Int32) (m_way : (Nat → Int32)) (m_crossed : Int32) (m_wayCost : Int32) (m_isWay : Int32) (m_next : Int32) (m_start : Int32) (m_token : Int32) (m_number : Int32) (m_letters : Int64) (m_isWrong : Int32) (m_sums : (Nat → Int32)) (m_steps : (Nat → Int32)) (m_chosen : Int32) (m_passed : (Nat → Int32)) (m_passedMany : Int32) (m_passedCost : Int32) (m_reach : (Nat → Int32)) (v1 : Int32) (v2 : Int32) (v3 : Int32) {res : Int32} (h : fX7_fact v1 v2 v3 m_s = some res) : Met l yX7_fact (Cond.code yX7_fact cX7_fact 4 (some .int) :: zWs) rmX7_fact (zP Z (wX7 Z Am m_thrown m_s m_saved m_savedMany m_aside m_sent m_text m_length m_way m_crossed m_wayCost m_isWay m_next m_start m_token m_number m_letters m_isWrong m_sums m_steps m_chosen m_passed m_passedMany m_passedCost m_reach) sz [.ref (Am 0), .int v1, .int v2, .int v3]) (zQi Z res (wX7 Z Am m_thrown m_s m_saved m_savedMany m_aside m_sent m_text m_length m_way m_crossed m_wayCost m_isWay m_next m_start m_token m_number m_letters m_isWrong m_sums m_steps m_chosen m_passed m_passedMany m_passedCost m_reach) (va_A (wX7 Z Am m_thrown m_s m_saved m_savedMany m_aside m_sent m_text m_length m_way m_crossed m_wayCost m_isWay m_next m_start m_token m_number m_letters m_isWrong m_sums m_steps m_chosen m_passed m_passedMany m_passedCost m_reach) sz)) 0 0 (va_A (wX7 Z Am m_thrown m_s m_saved m_savedMany m_aside m_sent m_text m_length m_way m_crossed m_wayCost m_isWay m_next m_start m_token m_number m_letters m_isWrong m_sums m_steps m_chosen m_passed m_passedMany m_passedCost m_reach) sz) := by
  refine zMet (own := RX7) (fun A => zQi Z res (wX7 Z Am m_thrown m_s m_saved m_savedMany m_aside m_sent m_text m_length m_way m_crossed m_wayCost m_isWay m_next m_start m_token m_number m_letters m_isWrong m_sums m_steps m_chosen m_passed m_passedMany m_passedCost m_reach) A) (by decide) rfl (Nat.le_of_ble_eq_true rfl) ?_
  intro p e s m args below meth c ls A E hw hl
  unfold fX7_fact at h
  refine r_aload_n E hl 0 rfl dX7_fact_0 rfl ?_
  refine r_get E kW_X7 hw 0 rfl rfl 1 (by decide) kF_X7_7 rfl dX7_fact_1 ?_
  refine r_iload_n E hl 1 rfl dX7_fact_4 rfl ?_
  refine r_iload_n E hl 2 rfl dX7_fact_5 rfl ?_
  obtain ⟨y1, hy1, h⟩ := bd_some h
  refine r_callS0i E hw (mX7_at l Z _ v1 v2 hy1) kL_X7_70 kT_X7_at kN_X7 kC_X7_at rfl rfl hdX7_at ⟨Nat.le_of_ble_eq_true rfl, Nat.le_of_ble_eq_true rfl⟩ rfl hl [.ref (Am 1)] rfl (Nat.le_of_ble_eq_true rfl) dX7_fact_6 ⟨Nat.zero_le _, Nat.zero_le _⟩ (fun H locs hw => ?_)
  refine r_iload_n E hl 3 rfl dX7_fact_9 rfl ?_
  refine r_iadd E dX7_fact_10 ?_
  obtain ⟨hg2, h⟩ := gd_some h
  refine r_iald E hw 1 rfl hg2 dX7_fact_11 ?_
  obtain rfl := Option.some.inj h
  exact r_iret E hw dX7_fact_12
abbrev rmX7_isSecret : Room := { frames := 1, cells := 0, slots := 0, locals := 22 }

set_option maxRecDepth 100000 in
set_option maxHeartbeats 4000000 in
theorem mX7_isSecret (l : Launch) (Z : zT) (sz : Nat) (Am : Nat → Nat) (m_thrown : Int32) (m_s : (Nat → Int32)) (m_saved : (Nat → Int32)) (m_savedMany : Int32) (m_aside : (Nat → Int32)) (m_sent : (Nat → Int32)) (m_text : (Nat → Int32)) (m_length : Int32) (m_way : (Nat → Int32)) (m_crossed : Int32) (m_wayCost : Int32) (m_isWay : Int32) (m_next : Int32) (m_start : Int32) (m_token : Int32) (m_number : Int32) (m_letters : Int64) (m_isWrong : Int32) (m_sums : (Nat → Int32)) (m_steps : (Nat → Int32)) (m_chosen : Int32) (m_passed : (Nat → Int32)) (m_passedMany : Int32) (m_passedCost : Int32) (m_reach : (Nat → Int32)) (v1 : Int32) {res : Int32} (h : fX7_isSecret v1 m_s = some res) : Met l yX7_isSecret (Cond.code yX7_isSecret cX7_isSecret 2 (some .boolean) :: zWs) rmX7_isSecret (zP Z (wX7 Z Am m_thrown m_s m_saved m_savedMany m_aside m_sent m_text m_length m_way m_crossed m_wayCost m_isWay m_next m_start m_token m_number m_letters m_isWrong m_sums m_steps m_chosen m_passed m_passedMany m_passedCost m_reach) sz [.ref (Am 0), .int v1]) (zQi Z res (wX7 Z Am m_thrown m_s m_saved m_savedMany m_aside m_sent m_text m_length m_way m_crossed m_wayCost m_isWay m_next m_start m_token m_number m_letters m_isWrong m_sums m_steps m_chosen m_passed m_passedMany m_passedCost m_reach) (va_A (wX7 Z Am m_thrown m_s m_saved m_savedMany m_aside m_sent m_text m_length m_way m_crossed m_wayCost m_isWay m_next m_start m_token m_number m_letters m_isWrong m_sums m_steps m_chosen m_passed m_passedMany m_passedCost m_reach) sz)) 0 0 (va_A (wX7 Z Am m_thrown m_s m_saved m_savedMany m_aside m_sent m_text m_length m_way m_crossed m_wayCost m_isWay m_next m_start m_token m_number m_letters m_isWrong m_sums m_steps m_chosen m_passed m_passedMany m_passedCost m_reach) sz) := by
  refine zMet (own := RX7) (fun A => zQi Z res (wX7 Z Am m_thrown m_s m_saved m_savedMany m_aside m_sent m_text m_length m_way m_crossed m_wayCost m_isWay m_next m_start m_token m_number m_letters m_isWrong m_sums m_steps m_chosen m_passed m_passedMany m_passedCost m_reach) A) (by decide) rfl (Nat.le_of_ble_eq_true rfl) ?_
  intro p e s m args below meth c ls A E hw hl
  unfold fX7_isSecret at h
  refine r_iload_n E hl 1 rfl dX7_isSecret_0 rfl ?_
  refine r_bipush E 16 dX7_isSecret_1 (by decide) ?_
  refine r_bipush E 31 dX7_isSecret_3 (by decide) ?_
  obtain ⟨y1, hy1, h⟩ := bd_some h
  refine r_callS0i E hw (mX7_in l Z _ v1 (16 : Int32) (31 : Int32) hy1) kL_X7_58 kT_X7_in kN_X7 kC_X7_in rfl rfl hdX7_in ⟨Nat.le_of_ble_eq_true rfl, Nat.le_of_ble_eq_true rfl⟩ rfl hl [] rfl (Nat.le_of_ble_eq_true rfl) dX7_isSecret_5 ⟨Nat.zero_le _, Nat.zero_le _⟩ (fun H locs hw => ?_)
  refine r_if_eq E 28 dX7_isSecret_8 (by decide) (fun hc => ?_) (fun hc => ?_)
  · replace h := ite_t hc h
    refine r_iconst E 0 dX7_isSecret_28 (by decide) ?_
    obtain rfl := Option.some.inj h
    exact r_zret E bz_0 hw dX7_isSecret_29
  · replace h := ite_f hc h
    refine r_aload_n E hl 0 rfl dX7_isSecret_11 rfl ?_
    refine r_iload_n E hl 1 rfl dX7_isSecret_12 rfl ?_
    refine r_bipush E 16 dX7_isSecret_13 (by decide) ?_
    refine r_isub E dX7_isSecret_15 ?_
    refine r_iconst E 4 dX7_isSecret_16 (by decide) ?_
    obtain ⟨y2, hy2, h⟩ := bd_some h
    refine r_callVAi E hw (mX7_linkPart l Z _ Am m_thrown m_s m_saved m_savedMany m_aside m_sent m_text m_length m_way m_crossed m_wayCost m_isWay m_next m_start m_token m_number m_letters m_isWrong m_sums m_steps m_chosen m_passed m_passedMany m_passedCost m_reach (v1 - (16 : Int32)) (4 : Int32) hy2) kL_X7_62 kI_X7_linkPart kS_X7_linkPart kN_X7 kC_X7_linkPart rfl rfl hdX7_linkPart ⟨Nat.le_of_ble_eq_true rfl, Nat.le_of_ble_eq_true rfl⟩ 0 rfl rfl rfl rfl hl [] rfl (Nat.le_of_ble_eq_true rfl) dX7_isSecret_17 ⟨Nat.zero_le _, Nat.zero_le _⟩ (fun H locs hw => ?_)
    refine r_iconst E 1 dX7_isSecret_20 (by decide) ?_
    refine r_icmp_ne E 28 dX7_isSecret_21 (by decide) (fun hc => ?_) (fun hc => ?_)
    · replace h := ite_f hc h
      refine r_iconst E 0 dX7_isSecret_28 (by decide) ?_
      obtain rfl := Option.some.inj h
      exact r_zret E bz_0 hw dX7_isSecret_29
    · replace h := ite_t hc h
      refine r_iconst E 1 dX7_isSecret_24 (by decide) ?_
      refine r_goto E 29 dX7_isSecret_25 (by decide) ?_
      obtain rfl := Option.some.inj h
      exact r_zret E bz_1 hw dX7_isSecret_29
abbrev rmX7_hasGrant : Room := { frames := 2, cells := 0, slots := 0, locals := 44 }

set_option maxRecDepth 100000 in
set_option maxHeartbeats 4000000 in
theorem mX7_hasGrant (l : Launch) (Z : zT) (sz : Nat) (Am : Nat → Nat) (m_thrown : Int32) (m_s : (Nat → Int32)) (m_saved : (Nat → Int32)) (m_savedMany : Int32) (m_aside : (Nat → Int32)) (m_sent : (Nat → Int32)) (m_text : (Nat → Int32)) (m_length : Int32) (m_way : (Nat → Int32)) (m_crossed : Int32) (m_wayCost : Int32) (m_isWay : Int32) (m_next : Int32) (m_start : Int32) (m_token : Int32) (m_number : Int32) (m_letters : Int64) (m_isWrong : Int32) (m_sums : (Nat → Int32)) (m_steps : (Nat → Int32)) (m_chosen : Int32) (m_passed : (Nat → Int32)) (m_passedMany : Int32) (m_passedCost : Int32) (m_reach : (Nat → Int32)) (v1 : Int32) (v2 : Int32) (v3 : Int32) {res : Int32} (h : fX7_hasGrant v1 v2 v3 m_s = some res) : Met l yX7_hasGrant (Cond.code yX7_hasGrant cX7_hasGrant 4 (some .boolean) :: zWs) rmX7_hasGrant (zP Z (wX7 Z Am m_thrown m_s m_saved m_savedMany m_aside m_sent m_text m_length m_way m_crossed m_wayCost m_isWay m_next m_start m_token m_number m_letters m_isWrong m_sums m_steps m_chosen m_passed m_passedMany m_passedCost m_reach) sz [.ref (Am 0), .int v1, .int v2, .int v3]) (zQi Z res (wX7 Z Am m_thrown m_s m_saved m_savedMany m_aside m_sent m_text m_length m_way m_crossed m_wayCost m_isWay m_next m_start m_token m_number m_letters m_isWrong m_sums m_steps m_chosen m_passed m_passedMany m_passedCost m_reach) (va_A (wX7 Z Am m_thrown m_s m_saved m_savedMany m_aside m_sent m_text m_length m_way m_crossed m_wayCost m_isWay m_next m_start m_token m_number m_letters m_isWrong m_sums m_steps m_chosen m_passed m_passedMany m_passedCost m_reach) sz)) 0 0 (va_A (wX7 Z Am m_thrown m_s m_saved m_savedMany m_aside m_sent m_text m_length m_way m_crossed m_wayCost m_isWay m_next m_start m_token m_number m_letters m_isWrong m_sums m_steps m_chosen m_passed m_passedMany m_passedCost m_reach) sz) := by
  refine zMet (own := RX7) (fun A => zQi Z res (wX7 Z Am m_thrown m_s m_saved m_savedMany m_aside m_sent m_text m_length m_way m_crossed m_wayCost m_isWay m_next m_start m_token m_number m_letters m_isWrong m_sums m_steps m_chosen m_passed m_passedMany m_passedCost m_reach) A) (by decide) rfl (Nat.le_of_ble_eq_true rfl) ?_
  intro p e s m args below meth c ls A E hw hl
  unfold fX7_hasGrant at h
  refine r_aload_n E hl 0 rfl dX7_hasGrant_0 rfl ?_
  refine r_iload_n E hl 1 rfl dX7_hasGrant_1 rfl ?_
  refine r_iconst E 4 dX7_hasGrant_2 (by decide) ?_
  refine r_iload_n E hl 2 rfl dX7_hasGrant_3 rfl ?_
  refine r_imul E dX7_hasGrant_4 ?_
  refine r_iload_n E hl 3 rfl dX7_hasGrant_5 rfl ?_
  refine r_iadd E dX7_hasGrant_6 ?_
  refine r_iconst E 0 dX7_hasGrant_7 (by decide) ?_
  obtain ⟨y1, hy1, h⟩ := bd_some h
  refine r_callVAi E hw (mX7_fact l Z _ Am m_thrown m_s m_saved m_savedMany m_aside m_sent m_text m_length m_way m_crossed m_wayCost m_isWay m_next m_start m_token m_number m_letters m_isWrong m_sums m_steps m_chosen m_passed m_passedMany m_passedCost m_reach v1 (((4 : Int32) * v2) + v3) (0 : Int32) hy1) kL_X7_73 kI_X7_fact kS_X7_fact kN_X7 kC_X7_fact rfl rfl hdX7_fact ⟨Nat.le_of_ble_eq_true rfl, Nat.le_of_ble_eq_true rfl⟩ 0 rfl rfl rfl rfl hl [] rfl (Nat.le_of_ble_eq_true rfl) dX7_hasGrant_8 ⟨Nat.zero_le _, Nat.zero_le _⟩ (fun H locs hw => ?_)
  refine r_if_le E 33 dX7_hasGrant_11 (by decide) (fun hc => ?_) (fun hc => ?_)
  · replace h := ite_t hc h
    refine r_iconst E 0 dX7_hasGrant_33 (by decide) ?_
    obtain rfl := Option.some.inj h
    exact r_zret E bz_0 hw dX7_hasGrant_34
  · replace h := ite_f hc h
    refine r_aload_n E hl 0 rfl dX7_hasGrant_14 rfl ?_
    refine r_iload_n E hl 1 rfl dX7_hasGrant_15 rfl ?_
    refine r_iconst E 4 dX7_hasGrant_16 (by decide) ?_
    refine r_iload_n E hl 2 rfl dX7_hasGrant_17 rfl ?_
    refine r_imul E dX7_hasGrant_18 ?_
    refine r_iload_n E hl 3 rfl dX7_hasGrant_19 rfl ?_
    refine r_iadd E dX7_hasGrant_20 ?_
    refine r_iconst E 1 dX7_hasGrant_21 (by decide) ?_
    obtain ⟨y2, hy2, h⟩ := bd_some h
    refine r_callVAi E hw (mX7_fact l Z _ Am m_thrown m_s m_saved m_savedMany m_aside m_sent m_text m_length m_way m_crossed m_wayCost m_isWay m_next m_start m_token m_number m_letters m_isWrong m_sums m_steps m_chosen m_passed m_passedMany m_passedCost m_reach v1 (((4 : Int32) * v2) + v3) (1 : Int32) hy2) kL_X7_73 kI_X7_fact kS_X7_fact kN_X7 kC_X7_fact rfl rfl hdX7_fact ⟨Nat.le_of_ble_eq_true rfl, Nat.le_of_ble_eq_true rfl⟩ 0 rfl rfl rfl rfl hl [] rfl (Nat.le_of_ble_eq_true rfl) dX7_hasGrant_22 ⟨Nat.zero_le _, Nat.zero_le _⟩ (fun H locs hw => ?_)
    refine r_iconst E 1 dX7_hasGrant_25 (by decide) ?_
    refine r_icmp_ne E 33 dX7_hasGrant_26 (by decide) (fun hc => ?_) (fun hc => ?_)
    · replace h := ite_f hc h
      refine r_iconst E 0 dX7_hasGrant_33 (by decide) ?_
      obtain rfl := Option.some.inj h
      exact r_zret E bz_0 hw dX7_hasGrant_34
    · replace h := ite_t hc h
      refine r_iconst E 1 dX7_hasGrant_29 (by decide) ?_
      refine r_goto E 34 dX7_hasGrant_30 (by decide) ?_
      obtain rfl := Option.some.inj h
      exact r_zret E bz_1 hw dX7_hasGrant_34
abbrev rmX7_mayKnow : Room := { frames := 3, cells := 0, slots := 0, locals := 67 }

set_option maxRecDepth 100000 in
set_option maxHeartbeats 4000000 in
theorem vX7_mayKnow_54 {Z : zT} {p : Program} {l : Launch} {e : Env} {s : State} {m : MethodId} {args : Array Value} {below : List Frame} {meth : Method} {c : Code} {A : Nat → Prop} (E : zE Z p s m args meth c RX7 cX7_mayKnow 4 (some .boolean) A) {Am : Nat → Nat} {m_thrown : Int32} {m_s : (Nat → Int32)} {m_saved : (Nat → Int32)} {m_savedMany : Int32} {m_aside : (Nat → Int32)} {m_sent : (Nat → Int32)} {m_text : (Nat → Int32)} {m_length : Int32} {m_way : (Nat → Int32)} {m_crossed : Int32} {m_wayCost : Int32} {m_isWay : Int32} {m_next : Int32} {m_start : Int32} {m_token : Int32} {m_number : Int32} {m_letters : Int64} {m_isWrong : Int32} {m_sums : (Nat → Int32)} {m_steps : (Nat → Int32)} {m_chosen : Int32} {m_passed : (Nat → Int32)} {m_passedMany : Int32} {m_passedCost : Int32} {m_reach : (Nat → Int32)} {res : Int32}  {H : Heap} {locs : List Loc} {ls : Array Slot} (hw : zW Z A (wX7 Z Am m_thrown m_s m_saved m_savedMany m_aside m_sent m_text m_length m_way m_crossed m_wayCost m_isWay m_next m_start m_token m_number m_letters m_isWrong m_sums m_steps m_chosen m_passed m_passedMany m_passedCost m_reach) s.heap H locs) (hl : lv_has ls 4 []) (h : uX7_mayKnow_54  = some res) : W p l e rmX7_mayKnow s m args below meth c H locs 0 0 (MQ below (zQi Z res (wX7 Z Am m_thrown m_s m_saved m_savedMany m_aside m_sent m_text m_length m_way m_crossed m_wayCost m_isWay m_next m_start m_token m_number m_letters m_isWrong m_sums m_steps m_chosen m_passed m_passedMany m_passedCost m_reach) A) args s 0 0 A) (F0 m 54 ls []) := by
  unfold uX7_mayKnow_54 at h
  refine r_iconst E 1 dX7_mayKnow_54 (by decide) ?_
  refine r_goto E 59 dX7_mayKnow_55 (by decide) ?_
  obtain rfl := Option.some.inj h
  exact r_zret E bz_1 hw dX7_mayKnow_59
set_option maxRecDepth 100000 in
set_option maxHeartbeats 4000000 in
theorem mX7_mayKnow (l : Launch) (Z : zT) (sz : Nat) (Am : Nat → Nat) (m_thrown : Int32) (m_s : (Nat → Int32)) (m_saved : (Nat → Int32)) (m_savedMany : Int32) (m_aside : (Nat → Int32)) (m_sent : (Nat → Int32)) (m_text : (Nat → Int32)) (m_length : Int32) (m_way : (Nat → Int32)) (m_crossed : Int32) (m_wayCost : Int32) (m_isWay : Int32) (m_next : Int32) (m_start : Int32) (m_token : Int32) (m_number : Int32) (m_letters : Int64) (m_isWrong : Int32) (m_sums : (Nat → Int32)) (m_steps : (Nat → Int32)) (m_chosen : Int32) (m_passed : (Nat → Int32)) (m_passedMany : Int32) (m_passedCost : Int32) (m_reach : (Nat → Int32)) (v1 : Int32) (v2 : Int32) {res : Int32} (h : fX7_mayKnow v1 v2 m_s = some res) : Met l yX7_mayKnow (Cond.code yX7_mayKnow cX7_mayKnow 4 (some .boolean) :: zWs) rmX7_mayKnow (zP Z (wX7 Z Am m_thrown m_s m_saved m_savedMany m_aside m_sent m_text m_length m_way m_crossed m_wayCost m_isWay m_next m_start m_token m_number m_letters m_isWrong m_sums m_steps m_chosen m_passed m_passedMany m_passedCost m_reach) sz [.ref (Am 0), .int v1, .int v2]) (zQi Z res (wX7 Z Am m_thrown m_s m_saved m_savedMany m_aside m_sent m_text m_length m_way m_crossed m_wayCost m_isWay m_next m_start m_token m_number m_letters m_isWrong m_sums m_steps m_chosen m_passed m_passedMany m_passedCost m_reach) (va_A (wX7 Z Am m_thrown m_s m_saved m_savedMany m_aside m_sent m_text m_length m_way m_crossed m_wayCost m_isWay m_next m_start m_token m_number m_letters m_isWrong m_sums m_steps m_chosen m_passed m_passedMany m_passedCost m_reach) sz)) 0 0 (va_A (wX7 Z Am m_thrown m_s m_saved m_savedMany m_aside m_sent m_text m_length m_way m_crossed m_wayCost m_isWay m_next m_start m_token m_number m_letters m_isWrong m_sums m_steps m_chosen m_passed m_passedMany m_passedCost m_reach) sz) := by
  refine zMet (own := RX7) (fun A => zQi Z res (wX7 Z Am m_thrown m_s m_saved m_savedMany m_aside m_sent m_text m_length m_way m_crossed m_wayCost m_isWay m_next m_start m_token m_number m_letters m_isWrong m_sums m_steps m_chosen m_passed m_passedMany m_passedCost m_reach) A) (by decide) rfl (Nat.le_of_ble_eq_true rfl) ?_
  intro p e s m args below meth c ls A E hw hl
  unfold fX7_mayKnow at h
  refine r_aload_n E hl 0 rfl dX7_mayKnow_0 rfl ?_
  refine r_iload_n E hl 2 rfl dX7_mayKnow_1 rfl ?_
  obtain ⟨y1, hy1, h⟩ := bd_some h
  refine r_callVAi E hw (mX7_isSecret l Z _ Am m_thrown m_s m_saved m_savedMany m_aside m_sent m_text m_length m_way m_crossed m_wayCost m_isWay m_next m_start m_token m_number m_letters m_isWrong m_sums m_steps m_chosen m_passed m_passedMany m_passedCost m_reach v2 hy1) kL_X7_77 kI_X7_isSecret kS_X7_isSecret kN_X7 kC_X7_isSecret rfl rfl hdX7_isSecret ⟨Nat.le_of_ble_eq_true rfl, Nat.le_of_ble_eq_true rfl⟩ 0 rfl rfl rfl rfl hl [] rfl (Nat.le_of_ble_eq_true rfl) dX7_mayKnow_2 ⟨Nat.zero_le _, Nat.zero_le _⟩ (fun H locs hw => ?_)
  refine r_if_ne E 10 dX7_mayKnow_5 (by decide) (fun hc => ?_) (fun hc => ?_)
  · replace h := ite_f hc h
    refine r_aload_n E hl 0 rfl dX7_mayKnow_10 rfl ?_
    refine r_iload_n E hl 2 rfl dX7_mayKnow_11 rfl ?_
    refine r_bipush E 16 dX7_mayKnow_12 (by decide) ?_
    refine r_isub E dX7_mayKnow_14 ?_
    obtain ⟨y2, hy2, h⟩ := bd_some h
    refine r_callVAi E hw (mX7_owner l Z _ Am m_thrown m_s m_saved m_savedMany m_aside m_sent m_text m_length m_way m_crossed m_wayCost m_isWay m_next m_start m_token m_number m_letters m_isWrong m_sums m_steps m_chosen m_passed m_passedMany m_passedCost m_reach (v2 - (16 : Int32)) hy2) kL_X7_81 kI_X7_owner kS_X7_owner kN_X7 kC_X7_owner rfl rfl hdX7_owner ⟨Nat.le_of_ble_eq_true rfl, Nat.le_of_ble_eq_true rfl⟩ 0 rfl rfl rfl rfl hl [] rfl (Nat.le_of_ble_eq_true rfl) dX7_mayKnow_15 ⟨Nat.zero_le _, Nat.zero_le _⟩ (fun H locs hw => ?_)
    refine r_istore_n E [(3, .int y2), (0, .ref (Am 0)), (1, .int v1), (2, .int v2)] hl dX7_mayKnow_18 rfl (by decide) rfl (fun ls hl => ?_)
    refine r_aload_n E hl 1 rfl dX7_mayKnow_19 rfl ?_
    refine r_iload_n E hl 2 rfl dX7_mayKnow_20 rfl ?_
    refine r_iload_n E hl 3 rfl dX7_mayKnow_21 rfl ?_
    refine r_bipush E 16 dX7_mayKnow_22 (by decide) ?_
    refine r_isub E dX7_mayKnow_24 ?_
    obtain ⟨y3, hy3, h⟩ := bd_some h
    refine r_callVAi E hw (mX7_isEnd l Z _ Am m_thrown m_s m_saved m_savedMany m_aside m_sent m_text m_length m_way m_crossed m_wayCost m_isWay m_next m_start m_token m_number m_letters m_isWrong m_sums m_steps m_chosen m_passed m_passedMany m_passedCost m_reach v1 (v2 - (16 : Int32)) hy3) kL_X7_84 kI_X7_isEnd kS_X7_isEnd kN_X7 kC_X7_isEnd rfl rfl hdX7_isEnd ⟨Nat.le_of_ble_eq_true rfl, Nat.le_of_ble_eq_true rfl⟩ 0 rfl rfl rfl rfl hl [] rfl (Nat.le_of_ble_eq_true rfl) dX7_mayKnow_25 ⟨Nat.zero_le _, Nat.zero_le _⟩ (fun H locs hw => ?_)
    refine r_if_ne E 54 dX7_mayKnow_28 (by decide) (fun hc => ?_) (fun hc => ?_)
    · replace h := ite_f hc h
      exact vX7_mayKnow_54 E  hw (lv_sub hl [] rfl) h
    · replace h := ite_t hc h
      refine r_aload_n E hl 1 rfl dX7_mayKnow_31 rfl ?_
      refine r_iload_n E hl 2 rfl dX7_mayKnow_32 rfl ?_
      obtain ⟨y4, hy4, h⟩ := bd_some h
      refine r_callVAi E hw (mX7_area l Z _ Am m_thrown m_s m_saved m_savedMany m_aside m_sent m_text m_length m_way m_crossed m_wayCost m_isWay m_next m_start m_token m_number m_letters m_isWrong m_sums m_steps m_chosen m_passed m_passedMany m_passedCost m_reach v1 hy4) kL_X7_66 kI_X7_area kS_X7_area kN_X7 kC_X7_area rfl rfl hdX7_area ⟨Nat.le_of_ble_eq_true rfl, Nat.le_of_ble_eq_true rfl⟩ 0 rfl rfl rfl rfl hl [] rfl (Nat.le_of_ble_eq_true rfl) dX7_mayKnow_33 ⟨Nat.zero_le _, Nat.zero_le _⟩ (fun H locs hw => ?_)
      refine r_iload_n E hl 0 rfl dX7_mayKnow_36 rfl ?_
      refine r_icmp_eq E 54 dX7_mayKnow_37 (by decide) (fun hc => ?_) (fun hc => ?_)
      · replace h := ite_t hc h
        exact vX7_mayKnow_54 E  hw (lv_sub hl [] rfl) h
      · replace h := ite_f hc h
        refine r_aload_n E hl 1 rfl dX7_mayKnow_40 rfl ?_
        refine r_iload_n E hl 2 rfl dX7_mayKnow_41 rfl ?_
        refine r_iload_n E hl 0 rfl dX7_mayKnow_42 rfl ?_
        refine r_aload_n E hl 1 rfl dX7_mayKnow_43 rfl ?_
        refine r_iload_n E hl 2 rfl dX7_mayKnow_44 rfl ?_
        obtain ⟨y5, hy5, h⟩ := bd_some h
        refine r_callVAi E hw (mX7_area l Z _ Am m_thrown m_s m_saved m_savedMany m_aside m_sent m_text m_length m_way m_crossed m_wayCost m_isWay m_next m_start m_token m_number m_letters m_isWrong m_sums m_steps m_chosen m_passed m_passedMany m_passedCost m_reach v1 hy5) kL_X7_66 kI_X7_area kS_X7_area kN_X7 kC_X7_area rfl rfl hdX7_area ⟨Nat.le_of_ble_eq_true rfl, Nat.le_of_ble_eq_true rfl⟩ 0 rfl rfl rfl rfl hl [.int y2, .int v1, .ref (Am 0)] rfl (Nat.le_of_ble_eq_true rfl) dX7_mayKnow_45 ⟨Nat.zero_le _, Nat.zero_le _⟩ (fun H locs hw => ?_)
        obtain ⟨y6, hy6, h⟩ := bd_some h
        refine r_callVAi E hw (mX7_hasGrant l Z _ Am m_thrown m_s m_saved m_savedMany m_aside m_sent m_text m_length m_way m_crossed m_wayCost m_isWay m_next m_start m_token m_number m_letters m_isWrong m_sums m_steps m_chosen m_passed m_passedMany m_passedCost m_reach v1 y2 y5 hy6) kL_X7_88 kI_X7_hasGrant kS_X7_hasGrant kN_X7 kC_X7_hasGrant rfl rfl hdX7_hasGrant ⟨Nat.le_of_ble_eq_true rfl, Nat.le_of_ble_eq_true rfl⟩ 0 rfl rfl rfl rfl hl [] rfl (Nat.le_of_ble_eq_true rfl) dX7_mayKnow_48 ⟨Nat.zero_le _, Nat.zero_le _⟩ (fun H locs hw => ?_)
        refine r_if_eq E 58 dX7_mayKnow_51 (by decide) (fun hc => ?_) (fun hc => ?_)
        · replace h := ite_t hc h
          refine r_iconst E 0 dX7_mayKnow_58 (by decide) ?_
          obtain rfl := Option.some.inj h
          exact r_zret E bz_0 hw dX7_mayKnow_59
        · replace h := ite_f hc h
          exact vX7_mayKnow_54 E  hw (lv_sub hl [] rfl) h
  · replace h := ite_t hc h
    refine r_iconst E 1 dX7_mayKnow_8 (by decide) ?_
    obtain rfl := Option.some.inj h
    exact r_zret E bz_1 hw dX7_mayKnow_9
abbrev rmX7_saveAside : Room := { frames := 0, cells := 0, slots := 0, locals := 0 }

set_option maxRecDepth 100000 in
set_option maxHeartbeats 4000000 in
theorem vX7_saveAside_85 {Z : zT} {p : Program} {l : Launch} {e : Env} {s : State} {m : MethodId} {args : Array Value} {below : List Frame} {meth : Method} {c : Code} {A : Nat → Prop} (E : zE Z p s m args meth c RX7 cX7_saveAside 2 none A) {Am : Nat → Nat} {m_thrown : Int32} {m_s : (Nat → Int32)} {m_saved : (Nat → Int32)} {m_savedMany : Int32} {m_aside : (Nat → Int32)} {m_sent : (Nat → Int32)} {m_text : (Nat → Int32)} {m_length : Int32} {m_way : (Nat → Int32)} {m_crossed : Int32} {m_wayCost : Int32} {m_isWay : Int32} {m_next : Int32} {m_start : Int32} {m_token : Int32} {m_number : Int32} {m_letters : Int64} {m_isWrong : Int32} {m_sums : (Nat → Int32)} {m_steps : (Nat → Int32)} {m_chosen : Int32} {m_passed : (Nat → Int32)} {m_passedMany : Int32} {m_passedCost : Int32} {m_reach : (Nat → Int32)} {res : (Nat → Int32) × Int32 × Int32}  {H : Heap} {locs : List Loc} {ls : Array Slot} (hw : zW Z A (wX7 Z Am m_thrown m_s m_saved m_savedMany m_aside m_sent m_text m_length m_way m_crossed m_wayCost m_isWay m_next m_start m_token m_number m_letters m_isWrong m_sums m_steps m_chosen m_passed m_passedMany m_passedCost m_reach) s.heap H locs) (hl : lv_has ls 2 [(0, .ref (Am 0))]) (h : uX7_saveAside_85 m_saved m_savedMany = some res) : W p l e rmX7_saveAside s m args below meth c H locs 0 0 (MQ below (zQv Z (wX7 Z Am m_thrown m_s res.1 res.2.1 m_aside m_sent m_text m_length m_way m_crossed m_wayCost res.2.2 m_next m_start m_token m_number m_letters m_isWrong m_sums m_steps m_chosen m_passed m_passedMany m_passedCost m_reach) A) args s 0 0 A) (F0 m 85 ls []) := by
  unfold uX7_saveAside_85 at h
  refine r_aload_n E hl 0 rfl dX7_saveAside_85 rfl ?_
  refine r_dup E dX7_saveAside_86 rfl ?_
  refine r_get E kW_X7 hw 0 rfl rfl 3 (by decide) kF_X7_44 rfl dX7_saveAside_87 ?_
  refine r_iconst E 1 dX7_saveAside_90 (by decide) ?_
  refine r_iadd E dX7_saveAside_91 ?_
  refine r_put E (wX7 Z Am m_thrown m_s m_saved (m_savedMany + (1 : Int32)) m_aside m_sent m_text m_length m_way m_crossed m_wayCost m_isWay m_next m_start m_token m_number m_letters m_isWrong m_sums m_steps m_chosen m_passed m_passedMany m_passedCost m_reach) kW_X7 tyX7_ok nmX7 hw 0 rfl rfl 3 (by decide) kF_X7_44 rfl rfl rfl (Nat.le_of_ble_eq_true rfl) rfl dX7_saveAside_92 (fun H locs hw => ?_)
  refine r_aload_n E hl 0 rfl dX7_saveAside_95 rfl ?_
  refine r_iconst E 0 dX7_saveAside_96 (by decide) ?_
  refine r_put E (wX7 Z Am m_thrown m_s m_saved (m_savedMany + (1 : Int32)) m_aside m_sent m_text m_length m_way m_crossed m_wayCost (0 : Int32) m_next m_start m_token m_number m_letters m_isWrong m_sums m_steps m_chosen m_passed m_passedMany m_passedCost m_reach) kW_X7 tyX7_ok nmX7 hw 0 rfl rfl 11 (by decide) kF_X7_47 rfl rfl rfl (Nat.le_of_ble_eq_true rfl) rfl dX7_saveAside_97 (fun H locs hw => ?_)
  obtain rfl := Option.some.inj h
  exact r_vret E hw dX7_saveAside_100
set_option maxRecDepth 100000 in
set_option maxHeartbeats 4000000 in
theorem tX7_saveAside_51 {Z : zT} {p : Program} {l : Launch} {e : Env} {s : State} {m : MethodId} {args : Array Value} {below : List Frame} {meth : Method} {c : Code} {A : Nat → Prop} (E : zE Z p s m args meth c RX7 cX7_saveAside 2 none A) {Am : Nat → Nat} {m_thrown : Int32} {m_s : (Nat → Int32)} {m_savedMany : Int32} {m_aside : (Nat → Int32)} {m_sent : (Nat → Int32)} {m_text : (Nat → Int32)} {m_length : Int32} {m_way : (Nat → Int32)} {m_crossed : Int32} {m_wayCost : Int32} {m_isWay : Int32} {m_next : Int32} {m_start : Int32} {m_token : Int32} {m_number : Int32} {m_letters : Int64} {m_isWrong : Int32} {m_sums : (Nat → Int32)} {m_steps : (Nat → Int32)} {m_chosen : Int32} {m_passed : (Nat → Int32)} {m_passedMany : Int32} {m_passedCost : Int32} {m_reach : (Nat → Int32)} {res : (Nat → Int32) × Int32 × Int32}  : ∀ (n : Nat) (v1 : Int32) (m_saved : (Nat → Int32)) (H : Heap) (locs : List Loc) (ls : Array Slot), iter (fun b : Int32 × (Nat → Int32) => sX7_saveAside_51 m_savedMany m_aside b.1 b.2) n (v1, m_saved) = some res → zW Z A (wX7 Z Am m_thrown m_s m_saved m_savedMany m_aside m_sent m_text m_length m_way m_crossed m_wayCost m_isWay m_next m_start m_token m_number m_letters m_isWrong m_sums m_steps m_chosen m_passed m_passedMany m_passedCost m_reach) s.heap H locs → lv_has ls 2 [(0, .ref (Am 0)), (1, .int v1)] → W p l e rmX7_saveAside s m args below meth c H locs 0 0 (MQ below (zQv Z (wX7 Z Am m_thrown m_s res.1 res.2.1 m_aside m_sent m_text m_length m_way m_crossed m_wayCost res.2.2 m_next m_start m_token m_number m_letters m_isWrong m_sums m_steps m_chosen m_passed m_passedMany m_passedCost m_reach) A) args s 0 0 A) (F0 m 51 ls []) := by
  intro n
  induction n with
  | zero => intro v1 m_saved H locs ls h; cases h
  | succ n ih =>
    intro v1 m_saved H locs ls h hw hl
    obtain ⟨q1, h, hn1, hr1⟩ := iter_out h
    have hb1 : ∀ b : Int32 × (Nat → Int32), q1 = .inl b → ∀ (H : Heap) (locs : List Loc) (ls : Array Slot), zW Z A (wX7 Z Am m_thrown m_s b.2 m_savedMany m_aside m_sent m_text m_length m_way m_crossed m_wayCost m_isWay m_next m_start m_token m_number m_letters m_isWrong m_sums m_steps m_chosen m_passed m_passedMany m_passedCost m_reach) s.heap H locs → lv_has ls 2 [(0, .ref (Am 0)), (1, .int b.1)] → W p l e rmX7_saveAside s m args below meth c H locs 0 0 (MQ below (zQv Z (wX7 Z Am m_thrown m_s res.1 res.2.1 m_aside m_sent m_text m_length m_way m_crossed m_wayCost res.2.2 m_next m_start m_token m_number m_letters m_isWrong m_sums m_steps m_chosen m_passed m_passedMany m_passedCost m_reach) A) args s 0 0 A) (F0 m 51 ls []) := fun b eb H locs ls hw hl => ih b.1 b.2 H locs ls (hn1 b eb) hw hl
    replace h : sX7_saveAside_51 m_savedMany m_aside v1 m_saved = some q1 := h
    unfold sX7_saveAside_51 at h
    refine r_iload_n E hl 1 rfl dX7_saveAside_51 rfl ?_
    refine r_sipush E 1557 dX7_saveAside_52 (by decide) ?_
    refine r_icmp_ge E 85 dX7_saveAside_55 (by decide) (fun hc => ?_) (fun hc => ?_)
    · replace h := ite_t hc h
      obtain ⟨ro1, h, hro1⟩ := oi_some h
      rw [hr1 _ hro1] at h
      exact vX7_saveAside_85 E  hw (lv_sub hl [0] rfl) h
    · replace h := ite_f hc h
      refine r_aload_n E hl 0 rfl dX7_saveAside_58 rfl ?_
      refine r_get E kW_X7 hw 0 rfl rfl 2 (by decide) kF_X7_13 rfl dX7_saveAside_59 ?_
      refine r_sipush E 1557 dX7_saveAside_62 (by decide) ?_
      refine r_aload_n E hl 0 rfl dX7_saveAside_65 rfl ?_
      refine r_get E kW_X7 hw 0 rfl rfl 3 (by decide) kF_X7_44 rfl dX7_saveAside_66 ?_
      refine r_imul E dX7_saveAside_69 ?_
      refine r_iload_n E hl 1 rfl dX7_saveAside_70 rfl ?_
      refine r_iadd E dX7_saveAside_71 ?_
      refine r_aload_n E hl 0 rfl dX7_saveAside_72 rfl ?_
      refine r_get E kW_X7 hw 0 rfl rfl 4 (by decide) kF_X7_16 rfl dX7_saveAside_73 ?_
      refine r_iload_n E hl 1 rfl dX7_saveAside_76 rfl ?_
      obtain ⟨hg2, h⟩ := gd_some h
      refine r_iald E hw 3 rfl hg2 dX7_saveAside_77 ?_
      obtain ⟨hg3, h⟩ := gd_some h
      refine r_iast E (wX7 Z Am m_thrown m_s (upd m_saved (((1557 : Int32) * m_savedMany) + v1).toNatClampNeg (m_aside (v1).toNatClampNeg)) m_savedMany m_aside m_sent m_text m_length m_way m_crossed m_wayCost m_isWay m_next m_start m_token m_number m_letters m_isWrong m_sums m_steps m_chosen m_passed m_passedMany m_passedCost m_reach) hw 2 rfl hg3 rfl dX7_saveAside_78 (fun H locs hw => ?_)
      obtain ⟨w4, hw4, h⟩ := nm_out h
      refine r_iinc E w4 [(1, .int w4), (0, .ref (Am 0))] hl (k := 1) rfl dX7_saveAside_79 hw4.symm (by decide) rfl (fun ls hl => ?_)
      refine r_goto E 51 dX7_saveAside_82 (by decide) ?_
      exact hb1 _ (Option.some.inj h).symm _ _ _ hw (lv_sub hl [1, 0] rfl)
set_option maxRecDepth 100000 in
set_option maxHeartbeats 4000000 in
theorem vX7_saveAside_49 {Z : zT} {p : Program} {l : Launch} {e : Env} {s : State} {m : MethodId} {args : Array Value} {below : List Frame} {meth : Method} {c : Code} {A : Nat → Prop} (E : zE Z p s m args meth c RX7 cX7_saveAside 2 none A) {Am : Nat → Nat} {m_thrown : Int32} {m_s : (Nat → Int32)} {m_saved : (Nat → Int32)} {m_savedMany : Int32} {m_aside : (Nat → Int32)} {m_sent : (Nat → Int32)} {m_text : (Nat → Int32)} {m_length : Int32} {m_way : (Nat → Int32)} {m_crossed : Int32} {m_wayCost : Int32} {m_isWay : Int32} {m_next : Int32} {m_start : Int32} {m_token : Int32} {m_number : Int32} {m_letters : Int64} {m_isWrong : Int32} {m_sums : (Nat → Int32)} {m_steps : (Nat → Int32)} {m_chosen : Int32} {m_passed : (Nat → Int32)} {m_passedMany : Int32} {m_passedCost : Int32} {m_reach : (Nat → Int32)} {res : (Nat → Int32) × Int32 × Int32}  {H : Heap} {locs : List Loc} {ls : Array Slot} (hw : zW Z A (wX7 Z Am m_thrown m_s m_saved m_savedMany m_aside m_sent m_text m_length m_way m_crossed m_wayCost m_isWay m_next m_start m_token m_number m_letters m_isWrong m_sums m_steps m_chosen m_passed m_passedMany m_passedCost m_reach) s.heap H locs) (hl : lv_has ls 2 [(0, .ref (Am 0))]) (h : uX7_saveAside_49 m_saved m_savedMany m_aside = some res) : W p l e rmX7_saveAside s m args below meth c H locs 0 0 (MQ below (zQv Z (wX7 Z Am m_thrown m_s res.1 res.2.1 m_aside m_sent m_text m_length m_way m_crossed m_wayCost res.2.2 m_next m_start m_token m_number m_letters m_isWrong m_sums m_steps m_chosen m_passed m_passedMany m_passedCost m_reach) A) args s 0 0 A) (F0 m 49 ls []) := by
  unfold uX7_saveAside_49 at h
  refine r_iconst E 0 dX7_saveAside_49 (by decide) ?_
  refine r_istore_n E [(1, .int (0 : Int32)), (0, .ref (Am 0))] hl dX7_saveAside_50 rfl (by decide) rfl (fun ls hl => ?_)
  obtain ⟨n5, h⟩ := wh_some h
  exact tX7_saveAside_51 E  n5 _ _ _ _ _ h hw (lv_sub hl [1, 0] rfl)
set_option maxRecDepth 100000 in
set_option maxHeartbeats 4000000 in
theorem vX7_saveAside_39 {Z : zT} {p : Program} {l : Launch} {e : Env} {s : State} {m : MethodId} {args : Array Value} {below : List Frame} {meth : Method} {c : Code} {A : Nat → Prop} (E : zE Z p s m args meth c RX7 cX7_saveAside 2 none A) {Am : Nat → Nat} {m_thrown : Int32} {m_s : (Nat → Int32)} {m_saved : (Nat → Int32)} {m_savedMany : Int32} {m_aside : (Nat → Int32)} {m_sent : (Nat → Int32)} {m_text : (Nat → Int32)} {m_length : Int32} {m_way : (Nat → Int32)} {m_crossed : Int32} {m_wayCost : Int32} {m_isWay : Int32} {m_next : Int32} {m_start : Int32} {m_token : Int32} {m_number : Int32} {m_letters : Int64} {m_isWrong : Int32} {m_sums : (Nat → Int32)} {m_steps : (Nat → Int32)} {m_chosen : Int32} {m_passed : (Nat → Int32)} {m_passedMany : Int32} {m_passedCost : Int32} {m_reach : (Nat → Int32)} {res : (Nat → Int32) × Int32 × Int32}  {H : Heap} {locs : List Loc} {ls : Array Slot} (hw : zW Z A (wX7 Z Am m_thrown m_s m_saved m_savedMany m_aside m_sent m_text m_length m_way m_crossed m_wayCost m_isWay m_next m_start m_token m_number m_letters m_isWrong m_sums m_steps m_chosen m_passed m_passedMany m_passedCost m_reach) s.heap H locs) (hl : lv_has ls 2 [(0, .ref (Am 0))]) (h : uX7_saveAside_39 m_saved m_savedMany m_aside = some res) : W p l e rmX7_saveAside s m args below meth c H locs 0 0 (MQ below (zQv Z (wX7 Z Am m_thrown m_s res.1 res.2.1 m_aside m_sent m_text m_length m_way m_crossed m_wayCost res.2.2 m_next m_start m_token m_number m_letters m_isWrong m_sums m_steps m_chosen m_passed m_passedMany m_passedCost m_reach) A) args s 0 0 A) (F0 m 39 ls []) := by
  unfold uX7_saveAside_39 at h
  refine r_aload_n E hl 0 rfl dX7_saveAside_39 rfl ?_
  refine r_dup E dX7_saveAside_40 rfl ?_
  refine r_get E kW_X7 hw 0 rfl rfl 3 (by decide) kF_X7_44 rfl dX7_saveAside_41 ?_
  refine r_iconst E 1 dX7_saveAside_44 (by decide) ?_
  refine r_isub E dX7_saveAside_45 ?_
  refine r_put E (wX7 Z Am m_thrown m_s m_saved (m_savedMany - (1 : Int32)) m_aside m_sent m_text m_length m_way m_crossed m_wayCost m_isWay m_next m_start m_token m_number m_letters m_isWrong m_sums m_steps m_chosen m_passed m_passedMany m_passedCost m_reach) kW_X7 tyX7_ok nmX7 hw 0 rfl rfl 3 (by decide) kF_X7_44 rfl rfl rfl (Nat.le_of_ble_eq_true rfl) rfl dX7_saveAside_46 (fun H locs hw => ?_)
  exact vX7_saveAside_49 E  hw hl h
set_option maxRecDepth 100000 in
set_option maxHeartbeats 4000000 in
theorem tX7_saveAside_10 {Z : zT} {p : Program} {l : Launch} {e : Env} {s : State} {m : MethodId} {args : Array Value} {below : List Frame} {meth : Method} {c : Code} {A : Nat → Prop} (E : zE Z p s m args meth c RX7 cX7_saveAside 2 none A) {Am : Nat → Nat} {m_thrown : Int32} {m_s : (Nat → Int32)} {m_savedMany : Int32} {m_aside : (Nat → Int32)} {m_sent : (Nat → Int32)} {m_text : (Nat → Int32)} {m_length : Int32} {m_way : (Nat → Int32)} {m_crossed : Int32} {m_wayCost : Int32} {m_isWay : Int32} {m_next : Int32} {m_start : Int32} {m_token : Int32} {m_number : Int32} {m_letters : Int64} {m_isWrong : Int32} {m_sums : (Nat → Int32)} {m_steps : (Nat → Int32)} {m_chosen : Int32} {m_passed : (Nat → Int32)} {m_passedMany : Int32} {m_passedCost : Int32} {m_reach : (Nat → Int32)} {res : (Nat → Int32) × Int32 × Int32}  : ∀ (n : Nat) (v1 : Int32) (m_saved : (Nat → Int32)) (H : Heap) (locs : List Loc) (ls : Array Slot), iter (fun b : Int32 × (Nat → Int32) => sX7_saveAside_10 m_savedMany m_aside b.1 b.2) n (v1, m_saved) = some res → zW Z A (wX7 Z Am m_thrown m_s m_saved m_savedMany m_aside m_sent m_text m_length m_way m_crossed m_wayCost m_isWay m_next m_start m_token m_number m_letters m_isWrong m_sums m_steps m_chosen m_passed m_passedMany m_passedCost m_reach) s.heap H locs → lv_has ls 2 [(0, .ref (Am 0)), (1, .int v1)] → W p l e rmX7_saveAside s m args below meth c H locs 0 0 (MQ below (zQv Z (wX7 Z Am m_thrown m_s res.1 res.2.1 m_aside m_sent m_text m_length m_way m_crossed m_wayCost res.2.2 m_next m_start m_token m_number m_letters m_isWrong m_sums m_steps m_chosen m_passed m_passedMany m_passedCost m_reach) A) args s 0 0 A) (F0 m 10 ls []) := by
  intro n
  induction n with
  | zero => intro v1 m_saved H locs ls h; cases h
  | succ n ih =>
    intro v1 m_saved H locs ls h hw hl
    obtain ⟨q1, h, hn1, hr1⟩ := iter_out h
    have hb1 : ∀ b : Int32 × (Nat → Int32), q1 = .inl b → ∀ (H : Heap) (locs : List Loc) (ls : Array Slot), zW Z A (wX7 Z Am m_thrown m_s b.2 m_savedMany m_aside m_sent m_text m_length m_way m_crossed m_wayCost m_isWay m_next m_start m_token m_number m_letters m_isWrong m_sums m_steps m_chosen m_passed m_passedMany m_passedCost m_reach) s.heap H locs → lv_has ls 2 [(0, .ref (Am 0)), (1, .int b.1)] → W p l e rmX7_saveAside s m args below meth c H locs 0 0 (MQ below (zQv Z (wX7 Z Am m_thrown m_s res.1 res.2.1 m_aside m_sent m_text m_length m_way m_crossed m_wayCost res.2.2 m_next m_start m_token m_number m_letters m_isWrong m_sums m_steps m_chosen m_passed m_passedMany m_passedCost m_reach) A) args s 0 0 A) (F0 m 10 ls []) := fun b eb H locs ls hw hl => ih b.1 b.2 H locs ls (hn1 b eb) hw hl
    replace h : sX7_saveAside_10 m_savedMany m_aside v1 m_saved = some q1 := h
    unfold sX7_saveAside_10 at h
    refine r_iload_n E hl 1 rfl dX7_saveAside_10 rfl ?_
    refine r_sipush E 6228 dX7_saveAside_11 (by decide) ?_
    refine r_icmp_ge E 39 dX7_saveAside_14 (by decide) (fun hc => ?_) (fun hc => ?_)
    · replace h := ite_t hc h
      obtain ⟨ro6, h, hro6⟩ := oi_some h
      rw [hr1 _ hro6] at h
      exact vX7_saveAside_39 E  hw (lv_sub hl [0] rfl) h
    · replace h := ite_f hc h
      refine r_aload_n E hl 0 rfl dX7_saveAside_17 rfl ?_
      refine r_get E kW_X7 hw 0 rfl rfl 2 (by decide) kF_X7_13 rfl dX7_saveAside_18 ?_
      refine r_iload_n E hl 1 rfl dX7_saveAside_21 rfl ?_
      refine r_aload_n E hl 0 rfl dX7_saveAside_22 rfl ?_
      refine r_get E kW_X7 hw 0 rfl rfl 2 (by decide) kF_X7_13 rfl dX7_saveAside_23 ?_
      refine r_iload_n E hl 1 rfl dX7_saveAside_26 rfl ?_
      refine r_sipush E 1557 dX7_saveAside_27 (by decide) ?_
      refine r_iadd E dX7_saveAside_30 ?_
      obtain ⟨hg7, h⟩ := gd_some h
      refine r_iald E hw 2 rfl hg7 dX7_saveAside_31 ?_
      obtain ⟨hg8, h⟩ := gd_some h
      refine r_iast E (wX7 Z Am m_thrown m_s (upd m_saved (v1).toNatClampNeg (m_saved (v1 + (1557 : Int32)).toNatClampNeg)) m_savedMany m_aside m_sent m_text m_length m_way m_crossed m_wayCost m_isWay m_next m_start m_token m_number m_letters m_isWrong m_sums m_steps m_chosen m_passed m_passedMany m_passedCost m_reach) hw 2 rfl hg8 rfl dX7_saveAside_32 (fun H locs hw => ?_)
      obtain ⟨w9, hw9, h⟩ := nm_out h
      refine r_iinc E w9 [(1, .int w9), (0, .ref (Am 0))] hl (k := 1) rfl dX7_saveAside_33 hw9.symm (by decide) rfl (fun ls hl => ?_)
      refine r_goto E 10 dX7_saveAside_36 (by decide) ?_
      exact hb1 _ (Option.some.inj h).symm _ _ _ hw (lv_sub hl [1, 0] rfl)
set_option maxRecDepth 100000 in
set_option maxHeartbeats 4000000 in
theorem mX7_saveAside (l : Launch) (Z : zT) (sz : Nat) (Am : Nat → Nat) (m_thrown : Int32) (m_s : (Nat → Int32)) (m_saved : (Nat → Int32)) (m_savedMany : Int32) (m_aside : (Nat → Int32)) (m_sent : (Nat → Int32)) (m_text : (Nat → Int32)) (m_length : Int32) (m_way : (Nat → Int32)) (m_crossed : Int32) (m_wayCost : Int32) (m_isWay : Int32) (m_next : Int32) (m_start : Int32) (m_token : Int32) (m_number : Int32) (m_letters : Int64) (m_isWrong : Int32) (m_sums : (Nat → Int32)) (m_steps : (Nat → Int32)) (m_chosen : Int32) (m_passed : (Nat → Int32)) (m_passedMany : Int32) (m_passedCost : Int32) (m_reach : (Nat → Int32))  {res : (Nat → Int32) × Int32 × Int32} (h : fX7_saveAside m_saved m_savedMany m_aside = some res) : Met l yX7_saveAside (Cond.code yX7_saveAside cX7_saveAside 2 none :: zWs) rmX7_saveAside (zP Z (wX7 Z Am m_thrown m_s m_saved m_savedMany m_aside m_sent m_text m_length m_way m_crossed m_wayCost m_isWay m_next m_start m_token m_number m_letters m_isWrong m_sums m_steps m_chosen m_passed m_passedMany m_passedCost m_reach) sz [.ref (Am 0)]) (zQv Z (wX7 Z Am m_thrown m_s res.1 res.2.1 m_aside m_sent m_text m_length m_way m_crossed m_wayCost res.2.2 m_next m_start m_token m_number m_letters m_isWrong m_sums m_steps m_chosen m_passed m_passedMany m_passedCost m_reach) (va_A (wX7 Z Am m_thrown m_s m_saved m_savedMany m_aside m_sent m_text m_length m_way m_crossed m_wayCost m_isWay m_next m_start m_token m_number m_letters m_isWrong m_sums m_steps m_chosen m_passed m_passedMany m_passedCost m_reach) sz)) 0 0 (va_A (wX7 Z Am m_thrown m_s m_saved m_savedMany m_aside m_sent m_text m_length m_way m_crossed m_wayCost m_isWay m_next m_start m_token m_number m_letters m_isWrong m_sums m_steps m_chosen m_passed m_passedMany m_passedCost m_reach) sz) := by
  refine zMet (own := RX7) (fun A => zQv Z (wX7 Z Am m_thrown m_s res.1 res.2.1 m_aside m_sent m_text m_length m_way m_crossed m_wayCost res.2.2 m_next m_start m_token m_number m_letters m_isWrong m_sums m_steps m_chosen m_passed m_passedMany m_passedCost m_reach) A) (by decide) rfl (Nat.le_of_ble_eq_true rfl) ?_
  intro p e s m args below meth c ls A E hw hl
  unfold fX7_saveAside at h
  refine r_aload_n E hl 0 rfl dX7_saveAside_0 rfl ?_
  refine r_get E kW_X7 hw 0 rfl rfl 3 (by decide) kF_X7_44 rfl dX7_saveAside_1 ?_
  refine r_iconst E 5 dX7_saveAside_4 (by decide) ?_
  refine r_icmp_ne E 49 dX7_saveAside_5 (by decide) (fun hc => ?_) (fun hc => ?_)
  · replace h := ite_f hc h
    exact vX7_saveAside_49 E  hw hl h
  · replace h := ite_t hc h
    refine r_iconst E 0 dX7_saveAside_8 (by decide) ?_
    refine r_istore_n E [(1, .int (0 : Int32)), (0, .ref (Am 0))] hl dX7_saveAside_9 rfl (by decide) rfl (fun ls hl => ?_)
    obtain ⟨n10, h⟩ := wh_some h
    exact tX7_saveAside_10 E  n10 _ _ _ _ _ h hw (lv_sub hl [1, 0] rfl)
abbrev rmX7_act : Room := { frames := 1, cells := 0, slots := 0, locals := 23 }

set_option maxRecDepth 100000 in
set_option maxHeartbeats 4000000 in
theorem mX7_act (l : Launch) (Z : zT) (sz : Nat) (Am : Nat → Nat) (m_thrown : Int32) (m_s : (Nat → Int32)) (m_saved : (Nat → Int32)) (m_savedMany : Int32) (m_aside : (Nat → Int32)) (m_sent : (Nat → Int32)) (m_text : (Nat → Int32)) (m_length : Int32) (m_way : (Nat → Int32)) (m_crossed : Int32) (m_wayCost : Int32) (m_isWay : Int32) (m_next : Int32) (m_start : Int32) (m_token : Int32) (m_number : Int32) (m_letters : Int64) (m_isWrong : Int32) (m_sums : (Nat → Int32)) (m_steps : (Nat → Int32)) (m_chosen : Int32) (m_passed : (Nat → Int32)) (m_passedMany : Int32) (m_passedCost : Int32) (m_reach : (Nat → Int32))  {res : (Nat → Int32) × Int32 × (Nat → Int32) × Int32} (h : fX7_act m_s m_saved m_savedMany m_aside = some res) : Met l yX7_act (Cond.code yX7_act cX7_act 1 none :: zWs) rmX7_act (zP Z (wX7 Z Am m_thrown m_s m_saved m_savedMany m_aside m_sent m_text m_length m_way m_crossed m_wayCost m_isWay m_next m_start m_token m_number m_letters m_isWrong m_sums m_steps m_chosen m_passed m_passedMany m_passedCost m_reach) sz [.ref (Am 0)]) (zQv Z (wX7 Z Am m_thrown m_s res.1 res.2.1 res.2.2.1 m_sent m_text m_length m_way m_crossed m_wayCost res.2.2.2 m_next m_start m_token m_number m_letters m_isWrong m_sums m_steps m_chosen m_passed m_passedMany m_passedCost m_reach) (va_A (wX7 Z Am m_thrown m_s m_saved m_savedMany m_aside m_sent m_text m_length m_way m_crossed m_wayCost m_isWay m_next m_start m_token m_number m_letters m_isWrong m_sums m_steps m_chosen m_passed m_passedMany m_passedCost m_reach) sz)) 0 0 (va_A (wX7 Z Am m_thrown m_s m_saved m_savedMany m_aside m_sent m_text m_length m_way m_crossed m_wayCost m_isWay m_next m_start m_token m_number m_letters m_isWrong m_sums m_steps m_chosen m_passed m_passedMany m_passedCost m_reach) sz) := by
  refine zMet (own := RX7) (fun A => zQv Z (wX7 Z Am m_thrown m_s res.1 res.2.1 res.2.2.1 m_sent m_text m_length m_way m_crossed m_wayCost res.2.2.2 m_next m_start m_token m_number m_letters m_isWrong m_sums m_steps m_chosen m_passed m_passedMany m_passedCost m_reach) A) (by decide) rfl (Nat.le_of_ble_eq_true rfl) ?_
  intro p e s m args below meth c ls A E hw hl
  unfold fX7_act at h
  refine r_aload_n E hl 0 rfl dX7_act_0 rfl ?_
  refine r_aload_n E hl 0 rfl dX7_act_1 rfl ?_
  refine r_get E kW_X7 hw 0 rfl rfl 4 (by decide) kF_X7_16 rfl dX7_act_2 ?_
  refine r_aload_n E hl 0 rfl dX7_act_5 rfl ?_
  refine r_get E kW_X7 hw 0 rfl rfl 1 (by decide) kF_X7_7 rfl dX7_act_6 ?_
  obtain ⟨y1, hy1, h⟩ := bd_some h
  refine r_callVAv E hw (mX7_copy_aside_s l Z _ Am m_thrown m_s m_saved m_savedMany m_aside m_sent m_text m_length m_way m_crossed m_wayCost m_isWay m_next m_start m_token m_number m_letters m_isWrong m_sums m_steps m_chosen m_passed m_passedMany m_passedCost m_reach hy1) kL_X7_51 kI_X7_copy kS_X7_copy kN_X7 kC_X7_copy rfl rfl hdX7_copy ⟨Nat.le_of_ble_eq_true rfl, Nat.le_of_ble_eq_true rfl⟩ 0 rfl rfl rfl rfl hl [] rfl (Nat.le_of_ble_eq_true rfl) dX7_act_9 ⟨Nat.zero_le _, Nat.zero_le _⟩ (fun H locs hw => ?_)
  refine r_aload_n E hl 0 rfl dX7_act_12 rfl ?_
  obtain ⟨y2, hy2, h⟩ := bd_some h
  refine r_callVAv E hw (mX7_saveAside l Z _ Am m_thrown m_s m_saved m_savedMany y1 m_sent m_text m_length m_way m_crossed m_wayCost m_isWay m_next m_start m_token m_number m_letters m_isWrong m_sums m_steps m_chosen m_passed m_passedMany m_passedCost m_reach hy2) kL_X7_55 kI_X7_saveAside kS_X7_saveAside kN_X7 kC_X7_saveAside rfl rfl hdX7_saveAside ⟨Nat.le_of_ble_eq_true rfl, Nat.le_of_ble_eq_true rfl⟩ 0 rfl rfl rfl rfl hl [] rfl (Nat.le_of_ble_eq_true rfl) dX7_act_13 ⟨Nat.zero_le _, Nat.zero_le _⟩ (fun H locs hw => ?_)
  obtain rfl := Option.some.inj h
  exact r_vret E hw dX7_act_16
abbrev rmX7_learn : Room := { frames := 4, cells := 0, slots := 0, locals := 90 }

set_option maxRecDepth 100000 in
set_option maxHeartbeats 4000000 in
theorem vX7_learn_221 {Z : zT} {p : Program} {l : Launch} {e : Env} {s : State} {m : MethodId} {args : Array Value} {below : List Frame} {meth : Method} {c : Code} {A : Nat → Prop} (E : zE Z p s m args meth c RX7 cX7_learn 11 none A) {Am : Nat → Nat} {v1 : Int32} {v2 : Int32} {v4 : Int32} {v7 : Int32} {v8 : Int32} {m_thrown : Int32} {m_s : (Nat → Int32)} {m_saved : (Nat → Int32)} {m_savedMany : Int32} {m_aside : (Nat → Int32)} {m_sent : (Nat → Int32)} {m_text : (Nat → Int32)} {m_length : Int32} {m_way : (Nat → Int32)} {m_crossed : Int32} {m_wayCost : Int32} {m_isWay : Int32} {m_next : Int32} {m_start : Int32} {m_token : Int32} {m_number : Int32} {m_letters : Int64} {m_isWrong : Int32} {m_sums : (Nat → Int32)} {m_steps : (Nat → Int32)} {m_chosen : Int32} {m_passed : (Nat → Int32)} {m_passedMany : Int32} {m_passedCost : Int32} {m_reach : (Nat → Int32)} {res : (Nat → Int32)} {q1 : (Int32 × (Nat → Int32)) ⊕ ((Nat → Int32))} (hb1 : ∀ b : Int32 × (Nat → Int32), q1 = .inl b → ∀ (H : Heap) (locs : List Loc) (ls : Array Slot), zW Z A (wX7 Z Am m_thrown b.2 m_saved m_savedMany m_aside m_sent m_text m_length m_way m_crossed m_wayCost m_isWay m_next m_start m_token m_number m_letters m_isWrong m_sums m_steps m_chosen m_passed m_passedMany m_passedCost m_reach) s.heap H locs → lv_has ls 11 [(0, .ref (Am 0)), (1, .int v1), (2, .int v2), (4, .int v4), (7, .int v7), (8, .int b.1)] → W p l e rmX7_learn s m args below meth c H locs 0 0 (MQ below (zQv Z (wX7 Z Am m_thrown res m_saved m_savedMany m_aside m_sent m_text m_length m_way m_crossed m_wayCost m_isWay m_next m_start m_token m_number m_letters m_isWrong m_sums m_steps m_chosen m_passed m_passedMany m_passedCost m_reach) A) args s 0 0 A) (F0 m 85 ls [])) (hr1 : ∀ r' , q1 = .inr r' → r' = res) {H : Heap} {locs : List Loc} {ls : Array Slot} (hw : zW Z A (wX7 Z Am m_thrown m_s m_saved m_savedMany m_aside m_sent m_text m_length m_way m_crossed m_wayCost m_isWay m_next m_start m_token m_number m_letters m_isWrong m_sums m_steps m_chosen m_passed m_passedMany m_passedCost m_reach) s.heap H locs) (hl : lv_has ls 11 [(0, .ref (Am 0)), (1, .int v1), (2, .int v2), (4, .int v4), (7, .int v7), (8, .int v8)]) (h : uX7_learn_221 v8 m_s = some q1) : W p l e rmX7_learn s m args below meth c H locs 0 0 (MQ below (zQv Z (wX7 Z Am m_thrown res m_saved m_savedMany m_aside m_sent m_text m_length m_way m_crossed m_wayCost m_isWay m_next m_start m_token m_number m_letters m_isWrong m_sums m_steps m_chosen m_passed m_passedMany m_passedCost m_reach) A) args s 0 0 A) (F0 m 221 ls []) := by
  unfold uX7_learn_221 at h
  obtain ⟨w13, hw13, h⟩ := nm_out h
  refine r_iinc E w13 [(8, .int w13), (0, .ref (Am 0)), (1, .int v1), (2, .int v2), (4, .int v4), (7, .int v7)] hl (k := 5) rfl dX7_learn_221 hw13.symm (by decide) rfl (fun ls hl => ?_)
  refine r_goto E 85 dX7_learn_224 (by decide) ?_
  exact hb1 _ (Option.some.inj h).symm _ _ _ hw (lv_sub hl [1, 2, 3, 4, 5, 0] rfl)
set_option maxRecDepth 100000 in
set_option maxHeartbeats 4000000 in
theorem tX7_learn_198 {Z : zT} {p : Program} {l : Launch} {e : Env} {s : State} {m : MethodId} {args : Array Value} {below : List Frame} {meth : Method} {c : Code} {A : Nat → Prop} (E : zE Z p s m args meth c RX7 cX7_learn 11 none A) {Am : Nat → Nat} {v1 : Int32} {v2 : Int32} {v4 : Int32} {v7 : Int32} {v8 : Int32} {v9 : Int32} {m_thrown : Int32} {m_saved : (Nat → Int32)} {m_savedMany : Int32} {m_aside : (Nat → Int32)} {m_sent : (Nat → Int32)} {m_text : (Nat → Int32)} {m_length : Int32} {m_way : (Nat → Int32)} {m_crossed : Int32} {m_wayCost : Int32} {m_isWay : Int32} {m_next : Int32} {m_start : Int32} {m_token : Int32} {m_number : Int32} {m_letters : Int64} {m_isWrong : Int32} {m_sums : (Nat → Int32)} {m_steps : (Nat → Int32)} {m_chosen : Int32} {m_passed : (Nat → Int32)} {m_passedMany : Int32} {m_passedCost : Int32} {m_reach : (Nat → Int32)} {res : (Nat → Int32)} {q1 : (Int32 × (Nat → Int32)) ⊕ ((Nat → Int32))} (hb1 : ∀ b : Int32 × (Nat → Int32), q1 = .inl b → ∀ (H : Heap) (locs : List Loc) (ls : Array Slot), zW Z A (wX7 Z Am m_thrown b.2 m_saved m_savedMany m_aside m_sent m_text m_length m_way m_crossed m_wayCost m_isWay m_next m_start m_token m_number m_letters m_isWrong m_sums m_steps m_chosen m_passed m_passedMany m_passedCost m_reach) s.heap H locs → lv_has ls 11 [(0, .ref (Am 0)), (1, .int v1), (2, .int v2), (4, .int v4), (7, .int v7), (8, .int b.1)] → W p l e rmX7_learn s m args below meth c H locs 0 0 (MQ below (zQv Z (wX7 Z Am m_thrown res m_saved m_savedMany m_aside m_sent m_text m_length m_way m_crossed m_wayCost m_isWay m_next m_start m_token m_number m_letters m_isWrong m_sums m_steps m_chosen m_passed m_passedMany m_passedCost m_reach) A) args s 0 0 A) (F0 m 85 ls [])) (hr1 : ∀ r' , q1 = .inr r' → r' = res) : ∀ (n : Nat) (v10 : Int32) (m_s : (Nat → Int32)) (H : Heap) (locs : List Loc) (ls : Array Slot), iter (fun b : Int32 × (Nat → Int32) => sX7_learn_198 v8 v9 b.1 b.2) n (v10, m_s) = some q1 → zW Z A (wX7 Z Am m_thrown m_s m_saved m_savedMany m_aside m_sent m_text m_length m_way m_crossed m_wayCost m_isWay m_next m_start m_token m_number m_letters m_isWrong m_sums m_steps m_chosen m_passed m_passedMany m_passedCost m_reach) s.heap H locs → lv_has ls 11 [(0, .ref (Am 0)), (1, .int v1), (2, .int v2), (4, .int v4), (7, .int v7), (8, .int v8), (9, .int v9), (10, .int v10)] → W p l e rmX7_learn s m args below meth c H locs 0 0 (MQ below (zQv Z (wX7 Z Am m_thrown res m_saved m_savedMany m_aside m_sent m_text m_length m_way m_crossed m_wayCost m_isWay m_next m_start m_token m_number m_letters m_isWrong m_sums m_steps m_chosen m_passed m_passedMany m_passedCost m_reach) A) args s 0 0 A) (F0 m 198 ls []) := by
  intro n
  induction n with
  | zero => intro v10 m_s H locs ls h; cases h
  | succ n ih =>
    intro v10 m_s H locs ls h hw hl
    obtain ⟨q2, h, hn2, hr2⟩ := iter_out h
    have hb2 : ∀ b : Int32 × (Nat → Int32), q2 = .inl b → ∀ (H : Heap) (locs : List Loc) (ls : Array Slot), zW Z A (wX7 Z Am m_thrown b.2 m_saved m_savedMany m_aside m_sent m_text m_length m_way m_crossed m_wayCost m_isWay m_next m_start m_token m_number m_letters m_isWrong m_sums m_steps m_chosen m_passed m_passedMany m_passedCost m_reach) s.heap H locs → lv_has ls 11 [(0, .ref (Am 0)), (1, .int v1), (2, .int v2), (4, .int v4), (7, .int v7), (8, .int v8), (9, .int v9), (10, .int b.1)] → W p l e rmX7_learn s m args below meth c H locs 0 0 (MQ below (zQv Z (wX7 Z Am m_thrown res m_saved m_savedMany m_aside m_sent m_text m_length m_way m_crossed m_wayCost m_isWay m_next m_start m_token m_number m_letters m_isWrong m_sums m_steps m_chosen m_passed m_passedMany m_passedCost m_reach) A) args s 0 0 A) (F0 m 198 ls []) := fun b eb H locs ls hw hl => ih b.1 b.2 H locs ls (hn2 b eb) hw hl
    replace h : sX7_learn_198 v8 v9 v10 m_s = some q2 := h
    unfold sX7_learn_198 at h
    refine r_iload E hl 7 rfl dX7_learn_198 ?_
    refine r_iconst E 4 dX7_learn_200 (by decide) ?_
    refine r_icmp_ge E 221 dX7_learn_201 (by decide) (fun hc => ?_) (fun hc => ?_)
    · replace h := ite_t hc h
      obtain ⟨ro20, h, hro20⟩ := oi_some h
      rw [hr2 _ hro20] at h
      exact vX7_learn_221 E hb1 hr1 hw (lv_sub hl [0, 1, 2, 3, 4, 5] rfl) h
    · replace h := ite_f hc h
      refine r_aload_n E hl 0 rfl dX7_learn_204 rfl ?_
      refine r_get E kW_X7 hw 0 rfl rfl 1 (by decide) kF_X7_7 rfl dX7_learn_205 ?_
      refine r_iload E hl 6 rfl dX7_learn_208 ?_
      refine r_iload E hl 7 rfl dX7_learn_210 ?_
      refine r_iadd E dX7_learn_212 ?_
      refine r_iconst E 0 dX7_learn_213 (by decide) ?_
      obtain ⟨hg21, h⟩ := gd_some h
      refine r_iast E (wX7 Z Am m_thrown (upd m_s (v9 + v10).toNatClampNeg (0 : Int32)) m_saved m_savedMany m_aside m_sent m_text m_length m_way m_crossed m_wayCost m_isWay m_next m_start m_token m_number m_letters m_isWrong m_sums m_steps m_chosen m_passed m_passedMany m_passedCost m_reach) hw 1 rfl hg21 rfl dX7_learn_214 (fun H locs hw => ?_)
      obtain ⟨w22, hw22, h⟩ := nm_out h
      refine r_iinc E w22 [(10, .int w22), (0, .ref (Am 0)), (1, .int v1), (2, .int v2), (4, .int v4), (7, .int v7), (8, .int v8), (9, .int v9)] hl (k := 7) rfl dX7_learn_215 hw22.symm (by decide) rfl (fun ls hl => ?_)
      refine r_goto E 198 dX7_learn_218 (by decide) ?_
      exact hb2 _ (Option.some.inj h).symm _ _ _ hw (lv_sub hl [1, 2, 3, 4, 5, 6, 7, 0] rfl)
set_option maxRecDepth 100000 in
set_option maxHeartbeats 4000000 in
theorem vX7_learn_168 {Z : zT} {p : Program} {l : Launch} {e : Env} {s : State} {m : MethodId} {args : Array Value} {below : List Frame} {meth : Method} {c : Code} {A : Nat → Prop} (E : zE Z p s m args meth c RX7 cX7_learn 11 none A) {Am : Nat → Nat} {v1 : Int32} {v2 : Int32} {v4 : Int32} {v7 : Int32} {v8 : Int32} {v9 : Int32} {k1 : Int32} {k2 : Int32} {m_thrown : Int32} {m_s : (Nat → Int32)} {m_saved : (Nat → Int32)} {m_savedMany : Int32} {m_aside : (Nat → Int32)} {m_sent : (Nat → Int32)} {m_text : (Nat → Int32)} {m_length : Int32} {m_way : (Nat → Int32)} {m_crossed : Int32} {m_wayCost : Int32} {m_isWay : Int32} {m_next : Int32} {m_start : Int32} {m_token : Int32} {m_number : Int32} {m_letters : Int64} {m_isWrong : Int32} {m_sums : (Nat → Int32)} {m_steps : (Nat → Int32)} {m_chosen : Int32} {m_passed : (Nat → Int32)} {m_passedMany : Int32} {m_passedCost : Int32} {m_reach : (Nat → Int32)} {res : (Nat → Int32)} {q1 : (Int32 × (Nat → Int32)) ⊕ ((Nat → Int32))} (hb1 : ∀ b : Int32 × (Nat → Int32), q1 = .inl b → ∀ (H : Heap) (locs : List Loc) (ls : Array Slot), zW Z A (wX7 Z Am m_thrown b.2 m_saved m_savedMany m_aside m_sent m_text m_length m_way m_crossed m_wayCost m_isWay m_next m_start m_token m_number m_letters m_isWrong m_sums m_steps m_chosen m_passed m_passedMany m_passedCost m_reach) s.heap H locs → lv_has ls 11 [(0, .ref (Am 0)), (1, .int v1), (2, .int v2), (4, .int v4), (7, .int v7), (8, .int b.1)] → W p l e rmX7_learn s m args below meth c H locs 0 0 (MQ below (zQv Z (wX7 Z Am m_thrown res m_saved m_savedMany m_aside m_sent m_text m_length m_way m_crossed m_wayCost m_isWay m_next m_start m_token m_number m_letters m_isWrong m_sums m_steps m_chosen m_passed m_passedMany m_passedCost m_reach) A) args s 0 0 A) (F0 m 85 ls [])) (hr1 : ∀ r' , q1 = .inr r' → r' = res) {H : Heap} {locs : List Loc} {ls : Array Slot} (hw : zW Z A (wX7 Z Am m_thrown m_s m_saved m_savedMany m_aside m_sent m_text m_length m_way m_crossed m_wayCost m_isWay m_next m_start m_token m_number m_letters m_isWrong m_sums m_steps m_chosen m_passed m_passedMany m_passedCost m_reach) s.heap H locs) (hl : lv_has ls 11 [(0, .ref (Am 0)), (1, .int v1), (2, .int v2), (4, .int v4), (7, .int v7), (8, .int v8), (9, .int v9)]) (h : uX7_learn_168 v1 v2 v4 v8 v9 k1 k2 m_s = some q1) : W p l e rmX7_learn s m args below meth c H locs 0 0 (MQ below (zQv Z (wX7 Z Am m_thrown res m_saved m_savedMany m_aside m_sent m_text m_length m_way m_crossed m_wayCost m_isWay m_next m_start m_token m_number m_letters m_isWrong m_sums m_steps m_chosen m_passed m_passedMany m_passedCost m_reach) A) args s 0 0 A) (F0 m 168 ls [.int k2, .int k1, .ref (Am 1)]) := by
  unfold uX7_learn_168 at h
  obtain ⟨hg17, h⟩ := gd_some h
  refine r_iast E (wX7 Z Am m_thrown (upd m_s (k1).toNatClampNeg k2) m_saved m_savedMany m_aside m_sent m_text m_length m_way m_crossed m_wayCost m_isWay m_next m_start m_token m_number m_letters m_isWrong m_sums m_steps m_chosen m_passed m_passedMany m_passedCost m_reach) hw 1 rfl hg17 rfl dX7_learn_168 (fun H locs hw => ?_)
  refine r_iload E hl 3 rfl dX7_learn_169 ?_
  refine r_if_ne E 221 dX7_learn_171 (by decide) (fun hc => ?_) (fun hc => ?_)
  · replace h := ite_f hc h
    exact vX7_learn_221 E hb1 hr1 hw (lv_sub hl [0, 1, 2, 3, 4, 5] rfl) h
  · replace h := ite_t hc h
    refine r_iload_n E hl 2 rfl dX7_learn_174 rfl ?_
    refine r_iconst E 4 dX7_learn_175 (by decide) ?_
    refine r_irem E dX7_learn_176 (by decide) ?_
    refine r_aload_n E hl 0 rfl dX7_learn_177 rfl ?_
    refine r_iload_n E hl 1 rfl dX7_learn_178 rfl ?_
    obtain ⟨y18, hy18, h⟩ := bd_some h
    refine r_callVAi E hw (mX7_area l Z _ Am m_thrown (upd m_s (k1).toNatClampNeg k2) m_saved m_savedMany m_aside m_sent m_text m_length m_way m_crossed m_wayCost m_isWay m_next m_start m_token m_number m_letters m_isWrong m_sums m_steps m_chosen m_passed m_passedMany m_passedCost m_reach v1 hy18) kL_X7_66 kI_X7_area kS_X7_area kN_X7 kC_X7_area rfl rfl hdX7_area ⟨Nat.le_of_ble_eq_true rfl, Nat.le_of_ble_eq_true rfl⟩ 0 rfl rfl rfl rfl hl [.int (v2 - v2 / (4 : Int32) * (4 : Int32))] rfl (Nat.le_of_ble_eq_true rfl) dX7_learn_179 ⟨Nat.zero_le _, Nat.zero_le _⟩ (fun H locs hw => ?_)
    refine r_icmp_ne E 221 dX7_learn_182 (by decide) (fun hc => ?_) (fun hc => ?_)
    · replace h := ite_f hc h
      exact vX7_learn_221 E hb1 hr1 hw (lv_sub hl [0, 1, 2, 3, 4, 5] rfl) h
    · replace h := ite_t hc h
      refine r_aload_n E hl 0 rfl dX7_learn_185 rfl ?_
      refine r_iload_n E hl 1 rfl dX7_learn_186 rfl ?_
      refine r_iload E hl 5 rfl dX7_learn_187 ?_
      obtain ⟨y19, hy19, h⟩ := bd_some h
      refine r_callVAi E hw (mX7_isEnd l Z _ Am m_thrown (upd m_s (k1).toNatClampNeg k2) m_saved m_savedMany m_aside m_sent m_text m_length m_way m_crossed m_wayCost m_isWay m_next m_start m_token m_number m_letters m_isWrong m_sums m_steps m_chosen m_passed m_passedMany m_passedCost m_reach v1 v8 hy19) kL_X7_84 kI_X7_isEnd kS_X7_isEnd kN_X7 kC_X7_isEnd rfl rfl hdX7_isEnd ⟨Nat.le_of_ble_eq_true rfl, Nat.le_of_ble_eq_true rfl⟩ 0 rfl rfl rfl rfl hl [] rfl (Nat.le_of_ble_eq_true rfl) dX7_learn_189 ⟨Nat.zero_le _, Nat.zero_le _⟩ (fun H locs hw => ?_)
      refine r_if_ne E 221 dX7_learn_192 (by decide) (fun hc => ?_) (fun hc => ?_)
      · replace h := ite_f hc h
        exact vX7_learn_221 E hb1 hr1 hw (lv_sub hl [0, 1, 2, 3, 4, 5] rfl) h
      · replace h := ite_t hc h
        refine r_iconst E 0 dX7_learn_195 (by decide) ?_
        refine r_istore E [(10, .int (0 : Int32)), (0, .ref (Am 0)), (1, .int v1), (2, .int v2), (4, .int v4), (7, .int v7), (8, .int v8), (9, .int v9)] hl dX7_learn_196 (by decide) rfl (fun ls hl => ?_)
        obtain ⟨n23, h⟩ := wh_some h
        exact tX7_learn_198 E hb1 hr1 n23 _ _ _ _ _ h hw (lv_sub hl [1, 2, 3, 4, 5, 6, 7, 0] rfl)
set_option maxRecDepth 100000 in
set_option maxHeartbeats 4000000 in
theorem tX7_learn_85 {Z : zT} {p : Program} {l : Launch} {e : Env} {s : State} {m : MethodId} {args : Array Value} {below : List Frame} {meth : Method} {c : Code} {A : Nat → Prop} (E : zE Z p s m args meth c RX7 cX7_learn 11 none A) {Am : Nat → Nat} {v1 : Int32} {v2 : Int32} {v4 : Int32} {v7 : Int32} {m_thrown : Int32} {m_saved : (Nat → Int32)} {m_savedMany : Int32} {m_aside : (Nat → Int32)} {m_sent : (Nat → Int32)} {m_text : (Nat → Int32)} {m_length : Int32} {m_way : (Nat → Int32)} {m_crossed : Int32} {m_wayCost : Int32} {m_isWay : Int32} {m_next : Int32} {m_start : Int32} {m_token : Int32} {m_number : Int32} {m_letters : Int64} {m_isWrong : Int32} {m_sums : (Nat → Int32)} {m_steps : (Nat → Int32)} {m_chosen : Int32} {m_passed : (Nat → Int32)} {m_passedMany : Int32} {m_passedCost : Int32} {m_reach : (Nat → Int32)} {res : (Nat → Int32)}  : ∀ (n : Nat) (v8 : Int32) (m_s : (Nat → Int32)) (H : Heap) (locs : List Loc) (ls : Array Slot), iter (fun b : Int32 × (Nat → Int32) => sX7_learn_85 v1 v2 v4 v7 b.1 b.2) n (v8, m_s) = some res → zW Z A (wX7 Z Am m_thrown m_s m_saved m_savedMany m_aside m_sent m_text m_length m_way m_crossed m_wayCost m_isWay m_next m_start m_token m_number m_letters m_isWrong m_sums m_steps m_chosen m_passed m_passedMany m_passedCost m_reach) s.heap H locs → lv_has ls 11 [(0, .ref (Am 0)), (1, .int v1), (2, .int v2), (4, .int v4), (7, .int v7), (8, .int v8)] → W p l e rmX7_learn s m args below meth c H locs 0 0 (MQ below (zQv Z (wX7 Z Am m_thrown res m_saved m_savedMany m_aside m_sent m_text m_length m_way m_crossed m_wayCost m_isWay m_next m_start m_token m_number m_letters m_isWrong m_sums m_steps m_chosen m_passed m_passedMany m_passedCost m_reach) A) args s 0 0 A) (F0 m 85 ls []) := by
  intro n
  induction n with
  | zero => intro v8 m_s H locs ls h; cases h
  | succ n ih =>
    intro v8 m_s H locs ls h hw hl
    obtain ⟨q1, h, hn1, hr1⟩ := iter_out h
    have hb1 : ∀ b : Int32 × (Nat → Int32), q1 = .inl b → ∀ (H : Heap) (locs : List Loc) (ls : Array Slot), zW Z A (wX7 Z Am m_thrown b.2 m_saved m_savedMany m_aside m_sent m_text m_length m_way m_crossed m_wayCost m_isWay m_next m_start m_token m_number m_letters m_isWrong m_sums m_steps m_chosen m_passed m_passedMany m_passedCost m_reach) s.heap H locs → lv_has ls 11 [(0, .ref (Am 0)), (1, .int v1), (2, .int v2), (4, .int v4), (7, .int v7), (8, .int b.1)] → W p l e rmX7_learn s m args below meth c H locs 0 0 (MQ below (zQv Z (wX7 Z Am m_thrown res m_saved m_savedMany m_aside m_sent m_text m_length m_way m_crossed m_wayCost m_isWay m_next m_start m_token m_number m_letters m_isWrong m_sums m_steps m_chosen m_passed m_passedMany m_passedCost m_reach) A) args s 0 0 A) (F0 m 85 ls []) := fun b eb H locs ls hw hl => ih b.1 b.2 H locs ls (hn1 b eb) hw hl
    replace h : sX7_learn_85 v1 v2 v4 v7 v8 m_s = some q1 := h
    unfold sX7_learn_85 at h
    refine r_iload E hl 5 rfl dX7_learn_85 ?_
    refine r_aload_n E hl 0 rfl dX7_learn_87 rfl ?_
    refine r_get E kW_X7 hw 0 rfl rfl 1 (by decide) kF_X7_7 rfl dX7_learn_88 ?_
    refine r_iconst E 1 dX7_learn_91 (by decide) ?_
    obtain ⟨hg9, h⟩ := gd_some h
    refine r_iald E hw 1 rfl hg9 dX7_learn_92 ?_
    refine r_icmp_ge E 227 dX7_learn_93 (by decide) (fun hc => ?_) (fun hc => ?_)
    · replace h := ite_t hc h
      obtain ⟨ro10, h, hro10⟩ := oi_some h
      rw [hr1 _ hro10] at h
      obtain rfl := Option.some.inj h
      exact r_vret E hw dX7_learn_227
    · replace h := ite_f hc h
      refine r_iload_n E hl 1 rfl dX7_learn_96 rfl ?_
      refine r_bipush E 16 dX7_learn_97 (by decide) ?_
      refine r_iload E hl 5 rfl dX7_learn_99 ?_
      refine r_iadd E dX7_learn_101 ?_
      obtain ⟨y11, hy11, h⟩ := bd_some h
      refine r_callS0i E hw (mX7_at l Z _ v1 ((16 : Int32) + v8) hy11) kL_X7_70 kT_X7_at kN_X7 kC_X7_at rfl rfl hdX7_at ⟨Nat.le_of_ble_eq_true rfl, Nat.le_of_ble_eq_true rfl⟩ rfl hl [] rfl (Nat.le_of_ble_eq_true rfl) dX7_learn_102 ⟨Nat.zero_le _, Nat.zero_le _⟩ (fun H locs hw => ?_)
      refine r_istore E [(9, .int y11), (0, .ref (Am 0)), (1, .int v1), (2, .int v2), (4, .int v4), (7, .int v7), (8, .int v8)] hl dX7_learn_105 (by decide) rfl (fun ls hl => ?_)
      refine r_aload_n E hl 1 rfl dX7_learn_107 rfl ?_
      refine r_iload E hl 6 rfl dX7_learn_108 ?_
      refine r_iconst E 4 dX7_learn_110 (by decide) ?_
      obtain ⟨y12, hy12, h⟩ := bd_some h
      refine r_callVAi E hw (mX7_linkPart l Z _ Am m_thrown m_s m_saved m_savedMany m_aside m_sent m_text m_length m_way m_crossed m_wayCost m_isWay m_next m_start m_token m_number m_letters m_isWrong m_sums m_steps m_chosen m_passed m_passedMany m_passedCost m_reach v8 (4 : Int32) hy12) kL_X7_62 kI_X7_linkPart kS_X7_linkPart kN_X7 kC_X7_linkPart rfl rfl hdX7_linkPart ⟨Nat.le_of_ble_eq_true rfl, Nat.le_of_ble_eq_true rfl⟩ 0 rfl rfl rfl rfl hl [] rfl (Nat.le_of_ble_eq_true rfl) dX7_learn_111 ⟨Nat.zero_le _, Nat.zero_le _⟩ (fun H locs hw => ?_)
      refine r_iconst E 1 dX7_learn_114 (by decide) ?_
      refine r_icmp_ne E 221 dX7_learn_115 (by decide) (fun hc => ?_) (fun hc => ?_)
      · replace h := ite_f hc h
        exact vX7_learn_221 E hb1 hr1 hw (lv_sub hl [1, 2, 3, 4, 5, 6] rfl) h
      · replace h := ite_t hc h
        refine r_aload_n E hl 1 rfl dX7_learn_118 rfl ?_
        refine r_iload E hl 6 rfl dX7_learn_119 ?_
        obtain ⟨y14, hy14, h⟩ := bd_some h
        refine r_callVAi E hw (mX7_owner l Z _ Am m_thrown m_s m_saved m_savedMany m_aside m_sent m_text m_length m_way m_crossed m_wayCost m_isWay m_next m_start m_token m_number m_letters m_isWrong m_sums m_steps m_chosen m_passed m_passedMany m_passedCost m_reach v8 hy14) kL_X7_81 kI_X7_owner kS_X7_owner kN_X7 kC_X7_owner rfl rfl hdX7_owner ⟨Nat.le_of_ble_eq_true rfl, Nat.le_of_ble_eq_true rfl⟩ 0 rfl rfl rfl rfl hl [] rfl (Nat.le_of_ble_eq_true rfl) dX7_learn_121 ⟨Nat.zero_le _, Nat.zero_le _⟩ (fun H locs hw => ?_)
        refine r_iload E hl 5 rfl dX7_learn_124 ?_
        refine r_icmp_ne E 221 dX7_learn_126 (by decide) (fun hc => ?_) (fun hc => ?_)
        · replace h := ite_f hc h
          exact vX7_learn_221 E hb1 hr1 hw (lv_sub hl [1, 2, 3, 4, 5, 6] rfl) h
        · replace h := ite_t hc h
          refine r_aload_n E hl 1 rfl dX7_learn_129 rfl ?_
          refine r_get E kW_X7 hw 0 rfl rfl 1 (by decide) kF_X7_7 rfl dX7_learn_130 ?_
          refine r_iload E hl 0 rfl dX7_learn_133 ?_
          refine r_iconst E 0 dX7_learn_135 (by decide) ?_
          refine r_iadd E dX7_learn_136 ?_
          obtain ⟨hg15, h⟩ := gd_some h
          refine r_iald E hw 1 rfl hg15 dX7_learn_137 ?_
          refine r_if_le E 221 dX7_learn_138 (by decide) (fun hc => ?_) (fun hc => ?_)
          · replace h := ite_t hc h
            exact vX7_learn_221 E hb1 hr1 hw (lv_sub hl [1, 2, 3, 4, 5, 6] rfl) h
          · replace h := ite_f hc h
            refine r_aload_n E hl 1 rfl dX7_learn_141 rfl ?_
            refine r_get E kW_X7 hw 0 rfl rfl 1 (by decide) kF_X7_7 rfl dX7_learn_142 ?_
            refine r_iload E hl 0 rfl dX7_learn_145 ?_
            refine r_iconst E 3 dX7_learn_147 (by decide) ?_
            refine r_iadd E dX7_learn_148 ?_
            refine r_iload E hl 4 rfl dX7_learn_149 ?_
            refine r_iconst E 1 dX7_learn_151 (by decide) ?_
            refine r_icmp_ne E 159 dX7_learn_152 (by decide) (fun hc => ?_) (fun hc => ?_)
            · replace h := ite_f hc h
              refine r_aload_n E hl 1 rfl dX7_learn_159 rfl ?_
              refine r_get E kW_X7 hw 0 rfl rfl 1 (by decide) kF_X7_7 rfl dX7_learn_160 ?_
              refine r_iload E hl 0 rfl dX7_learn_163 ?_
              refine r_iconst E 3 dX7_learn_165 (by decide) ?_
              refine r_iadd E dX7_learn_166 ?_
              obtain ⟨hg16, h⟩ := gd_some h
              refine r_iald E hw 1 rfl hg16 dX7_learn_167 ?_
              exact vX7_learn_168 E hb1 hr1 hw (lv_sub hl [1, 2, 3, 4, 5, 6, 0] rfl) h
            · replace h := ite_t hc h
              refine r_iconst E 1 dX7_learn_155 (by decide) ?_
              refine r_goto E 168 dX7_learn_156 (by decide) ?_
              exact vX7_learn_168 E hb1 hr1 hw (lv_sub hl [1, 2, 3, 4, 5, 6, 0] rfl) h
set_option maxRecDepth 100000 in
set_option maxHeartbeats 4000000 in
theorem mX7_learn (l : Launch) (Z : zT) (sz : Nat) (Am : Nat → Nat) (m_thrown : Int32) (m_s : (Nat → Int32)) (m_saved : (Nat → Int32)) (m_savedMany : Int32) (m_aside : (Nat → Int32)) (m_sent : (Nat → Int32)) (m_text : (Nat → Int32)) (m_length : Int32) (m_way : (Nat → Int32)) (m_crossed : Int32) (m_wayCost : Int32) (m_isWay : Int32) (m_next : Int32) (m_start : Int32) (m_token : Int32) (m_number : Int32) (m_letters : Int64) (m_isWrong : Int32) (m_sums : (Nat → Int32)) (m_steps : (Nat → Int32)) (m_chosen : Int32) (m_passed : (Nat → Int32)) (m_passedMany : Int32) (m_passedCost : Int32) (m_reach : (Nat → Int32)) (v1 : Int32) (v2 : Int32) (v3 : Int32) (v4 : Int32) (v5 : Int32) {res : (Nat → Int32)} (h : fX7_learn v1 v2 v3 v4 v5 m_s = some res) : Met l yX7_learn (Cond.code yX7_learn cX7_learn 11 none :: zWs) rmX7_learn (zP Z (wX7 Z Am m_thrown m_s m_saved m_savedMany m_aside m_sent m_text m_length m_way m_crossed m_wayCost m_isWay m_next m_start m_token m_number m_letters m_isWrong m_sums m_steps m_chosen m_passed m_passedMany m_passedCost m_reach) sz [.ref (Am 0), .int v1, .int v2, .int v3, .int v4, .int v5]) (zQv Z (wX7 Z Am m_thrown res m_saved m_savedMany m_aside m_sent m_text m_length m_way m_crossed m_wayCost m_isWay m_next m_start m_token m_number m_letters m_isWrong m_sums m_steps m_chosen m_passed m_passedMany m_passedCost m_reach) (va_A (wX7 Z Am m_thrown m_s m_saved m_savedMany m_aside m_sent m_text m_length m_way m_crossed m_wayCost m_isWay m_next m_start m_token m_number m_letters m_isWrong m_sums m_steps m_chosen m_passed m_passedMany m_passedCost m_reach) sz)) 0 0 (va_A (wX7 Z Am m_thrown m_s m_saved m_savedMany m_aside m_sent m_text m_length m_way m_crossed m_wayCost m_isWay m_next m_start m_token m_number m_letters m_isWrong m_sums m_steps m_chosen m_passed m_passedMany m_passedCost m_reach) sz) := by
  refine zMet (own := RX7) (fun A => zQv Z (wX7 Z Am m_thrown res m_saved m_savedMany m_aside m_sent m_text m_length m_way m_crossed m_wayCost m_isWay m_next m_start m_token m_number m_letters m_isWrong m_sums m_steps m_chosen m_passed m_passedMany m_passedCost m_reach) A) (by decide) rfl (Nat.le_of_ble_eq_true rfl) ?_
  intro p e s m args below meth c ls A E hw hl
  unfold fX7_learn at h
  refine r_aload_n E hl 0 rfl dX7_learn_0 rfl ?_
  refine r_iload_n E hl 1 rfl dX7_learn_1 rfl ?_
  refine r_iload_n E hl 2 rfl dX7_learn_2 rfl ?_
  obtain ⟨y1, hy1, h⟩ := bd_some h
  refine r_callVAi E hw (mX7_mayKnow l Z _ Am m_thrown m_s m_saved m_savedMany m_aside m_sent m_text m_length m_way m_crossed m_wayCost m_isWay m_next m_start m_token m_number m_letters m_isWrong m_sums m_steps m_chosen m_passed m_passedMany m_passedCost m_reach v1 v2 hy1) kL_X7_91 kI_X7_mayKnow kS_X7_mayKnow kN_X7 kC_X7_mayKnow rfl rfl hdX7_mayKnow ⟨Nat.le_of_ble_eq_true rfl, Nat.le_of_ble_eq_true rfl⟩ 0 rfl rfl rfl rfl hl [] rfl (Nat.le_of_ble_eq_true rfl) dX7_learn_3 ⟨Nat.zero_le _, Nat.zero_le _⟩ (fun H locs hw => ?_)
  refine r_if_eq E 20 dX7_learn_6 (by decide) (fun hc => ?_) (fun hc => ?_)
  · replace h := ite_t hc h
    obtain rfl := Option.some.inj h
    exact r_vret E hw dX7_learn_20
  · replace h := ite_f hc h
    refine r_aload_n E hl 0 rfl dX7_learn_9 rfl ?_
    refine r_iload_n E hl 1 rfl dX7_learn_10 rfl ?_
    refine r_iload_n E hl 2 rfl dX7_learn_11 rfl ?_
    refine r_iconst E 0 dX7_learn_12 (by decide) ?_
    obtain ⟨y2, hy2, h⟩ := bd_some h
    refine r_callVAi E hw (mX7_fact l Z _ Am m_thrown m_s m_saved m_savedMany m_aside m_sent m_text m_length m_way m_crossed m_wayCost m_isWay m_next m_start m_token m_number m_letters m_isWrong m_sums m_steps m_chosen m_passed m_passedMany m_passedCost m_reach v1 v2 (0 : Int32) hy2) kL_X7_73 kI_X7_fact kS_X7_fact kN_X7 kC_X7_fact rfl rfl hdX7_fact ⟨Nat.le_of_ble_eq_true rfl, Nat.le_of_ble_eq_true rfl⟩ 0 rfl rfl rfl rfl hl [] rfl (Nat.le_of_ble_eq_true rfl) dX7_learn_13 ⟨Nat.zero_le _, Nat.zero_le _⟩ (fun H locs hw => ?_)
    refine r_iload_n E hl 3 rfl dX7_learn_16 rfl ?_
    refine r_icmp_lt E 21 dX7_learn_17 (by decide) (fun hc => ?_) (fun hc => ?_)
    · replace h := ite_t hc h
      refine r_iload_n E hl 1 rfl dX7_learn_21 rfl ?_
      refine r_iload_n E hl 2 rfl dX7_learn_22 rfl ?_
      obtain ⟨y3, hy3, h⟩ := bd_some h
      refine r_callS0i E hw (mX7_at l Z _ v1 v2 hy3) kL_X7_70 kT_X7_at kN_X7 kC_X7_at rfl rfl hdX7_at ⟨Nat.le_of_ble_eq_true rfl, Nat.le_of_ble_eq_true rfl⟩ rfl hl [] rfl (Nat.le_of_ble_eq_true rfl) dX7_learn_23 ⟨Nat.zero_le _, Nat.zero_le _⟩ (fun H locs hw => ?_)
      refine r_istore E [(6, .int y3), (0, .ref (Am 0)), (1, .int v1), (2, .int v2), (3, .int v3), (4, .int v4), (5, .int v5)] hl dX7_learn_26 (by decide) rfl (fun ls hl => ?_)
      refine r_aload_n E hl 1 rfl dX7_learn_28 rfl ?_
      refine r_get E kW_X7 hw 0 rfl rfl 1 (by decide) kF_X7_7 rfl dX7_learn_29 ?_
      refine r_iload E hl 0 rfl dX7_learn_32 ?_
      refine r_iconst E 0 dX7_learn_34 (by decide) ?_
      refine r_iadd E dX7_learn_35 ?_
      refine r_iload_n E hl 4 rfl dX7_learn_36 rfl ?_
      obtain ⟨hg4, h⟩ := gd_some h
      refine r_iast E (wX7 Z Am m_thrown (upd m_s (y3 + (0 : Int32)).toNatClampNeg v3) m_saved m_savedMany m_aside m_sent m_text m_length m_way m_crossed m_wayCost m_isWay m_next m_start m_token m_number m_letters m_isWrong m_sums m_steps m_chosen m_passed m_passedMany m_passedCost m_reach) hw 1 rfl hg4 rfl dX7_learn_37 (fun H locs hw => ?_)
      refine r_aload_n E hl 1 rfl dX7_learn_38 rfl ?_
      refine r_get E kW_X7 hw 0 rfl rfl 1 (by decide) kF_X7_7 rfl dX7_learn_39 ?_
      refine r_iload E hl 0 rfl dX7_learn_42 ?_
      refine r_iconst E 1 dX7_learn_44 (by decide) ?_
      refine r_iadd E dX7_learn_45 ?_
      refine r_iload E hl 5 rfl dX7_learn_46 ?_
      obtain ⟨hg5, h⟩ := gd_some h
      refine r_iast E (wX7 Z Am m_thrown (upd (upd m_s (y3 + (0 : Int32)).toNatClampNeg v3) (y3 + (1 : Int32)).toNatClampNeg v4) m_saved m_savedMany m_aside m_sent m_text m_length m_way m_crossed m_wayCost m_isWay m_next m_start m_token m_number m_letters m_isWrong m_sums m_steps m_chosen m_passed m_passedMany m_passedCost m_reach) hw 1 rfl hg5 rfl dX7_learn_48 (fun H locs hw => ?_)
      refine r_aload_n E hl 1 rfl dX7_learn_49 rfl ?_
      refine r_get E kW_X7 hw 0 rfl rfl 1 (by decide) kF_X7_7 rfl dX7_learn_50 ?_
      refine r_iload E hl 0 rfl dX7_learn_53 ?_
      refine r_iconst E 2 dX7_learn_55 (by decide) ?_
      refine r_iadd E dX7_learn_56 ?_
      refine r_iload E hl 6 rfl dX7_learn_57 ?_
      obtain ⟨hg6, h⟩ := gd_some h
      refine r_iast E (wX7 Z Am m_thrown (upd (upd (upd m_s (y3 + (0 : Int32)).toNatClampNeg v3) (y3 + (1 : Int32)).toNatClampNeg v4) (y3 + (2 : Int32)).toNatClampNeg v5) m_saved m_savedMany m_aside m_sent m_text m_length m_way m_crossed m_wayCost m_isWay m_next m_start m_token m_number m_letters m_isWrong m_sums m_steps m_chosen m_passed m_passedMany m_passedCost m_reach) hw 1 rfl hg6 rfl dX7_learn_59 (fun H locs hw => ?_)
      refine r_aload_n E hl 1 rfl dX7_learn_60 rfl ?_
      refine r_get E kW_X7 hw 0 rfl rfl 1 (by decide) kF_X7_7 rfl dX7_learn_61 ?_
      refine r_iload E hl 0 rfl dX7_learn_64 ?_
      refine r_iconst E 3 dX7_learn_66 (by decide) ?_
      refine r_iadd E dX7_learn_67 ?_
      refine r_iconst E 1 dX7_learn_68 (by decide) ?_
      obtain ⟨hg7, h⟩ := gd_some h
      refine r_iast E (wX7 Z Am m_thrown (upd (upd (upd (upd m_s (y3 + (0 : Int32)).toNatClampNeg v3) (y3 + (1 : Int32)).toNatClampNeg v4) (y3 + (2 : Int32)).toNatClampNeg v5) (y3 + (3 : Int32)).toNatClampNeg (1 : Int32)) m_saved m_savedMany m_aside m_sent m_text m_length m_way m_crossed m_wayCost m_isWay m_next m_start m_token m_number m_letters m_isWrong m_sums m_steps m_chosen m_passed m_passedMany m_passedCost m_reach) hw 1 rfl hg7 rfl dX7_learn_69 (fun H locs hw => ?_)
      refine r_iload_n E hl 3 rfl dX7_learn_70 rfl ?_
      refine r_bipush E 16 dX7_learn_71 (by decide) ?_
      refine r_icmp_lt E 77 dX7_learn_73 (by decide) (fun hc => ?_) (fun hc => ?_)
      · replace h := ite_t hc h
        refine r_iload_n E hl 3 rfl dX7_learn_77 rfl ?_
        refine r_iconst E 4 dX7_learn_78 (by decide) ?_
        refine r_idiv E dX7_learn_79 (by decide) ?_
        obtain ⟨w8, hw8, h⟩ := nm_out h
        refine r_nm hw8 ?_
        refine r_istore E [(7, .int w8), (6, .int y3), (0, .ref (Am 0)), (1, .int v1), (2, .int v2), (3, .int v3), (4, .int v4), (5, .int v5)] hl dX7_learn_80 (by decide) rfl (fun ls hl => ?_)
        refine r_iconst E 0 dX7_learn_82 (by decide) ?_
        refine r_istore E [(8, .int (0 : Int32)), (7, .int w8), (6, .int y3), (0, .ref (Am 0)), (1, .int v1), (2, .int v2), (3, .int v3), (4, .int v4), (5, .int v5)] hl dX7_learn_83 (by decide) rfl (fun ls hl => ?_)
        obtain ⟨n24, h⟩ := wh_some h
        exact tX7_learn_85 E  n24 _ _ _ _ _ h hw (lv_sub hl [3, 4, 5, 7, 1, 0] rfl)
      · replace h := ite_f hc h
        obtain rfl := Option.some.inj h
        exact r_vret E hw dX7_learn_76
    · replace h := ite_f hc h
      obtain rfl := Option.some.inj h
      exact r_vret E hw dX7_learn_20
abbrev rmX7_tellLink : Room := { frames := 5, cells := 0, slots := 0, locals := 120 }

set_option maxRecDepth 100000 in
set_option maxHeartbeats 4000000 in
theorem mX7_tellLink (l : Launch) (Z : zT) (sz : Nat) (Am : Nat → Nat) (m_thrown : Int32) (m_s : (Nat → Int32)) (m_saved : (Nat → Int32)) (m_savedMany : Int32) (m_aside : (Nat → Int32)) (m_sent : (Nat → Int32)) (m_text : (Nat → Int32)) (m_length : Int32) (m_way : (Nat → Int32)) (m_crossed : Int32) (m_wayCost : Int32) (m_isWay : Int32) (m_next : Int32) (m_start : Int32) (m_token : Int32) (m_number : Int32) (m_letters : Int64) (m_isWrong : Int32) (m_sums : (Nat → Int32)) (m_steps : (Nat → Int32)) (m_chosen : Int32) (m_passed : (Nat → Int32)) (m_passedMany : Int32) (m_passedCost : Int32) (m_reach : (Nat → Int32)) (v1 : Int32) (v2 : Int32) {res : (Nat → Int32)} (h : fX7_tellLink v1 v2 m_s = some res) : Met l yX7_tellLink (Cond.code yX7_tellLink cX7_tellLink 3 none :: zWs) rmX7_tellLink (zP Z (wX7 Z Am m_thrown m_s m_saved m_savedMany m_aside m_sent m_text m_length m_way m_crossed m_wayCost m_isWay m_next m_start m_token m_number m_letters m_isWrong m_sums m_steps m_chosen m_passed m_passedMany m_passedCost m_reach) sz [.ref (Am 0), .int v1, .int v2]) (zQv Z (wX7 Z Am m_thrown res m_saved m_savedMany m_aside m_sent m_text m_length m_way m_crossed m_wayCost m_isWay m_next m_start m_token m_number m_letters m_isWrong m_sums m_steps m_chosen m_passed m_passedMany m_passedCost m_reach) (va_A (wX7 Z Am m_thrown m_s m_saved m_savedMany m_aside m_sent m_text m_length m_way m_crossed m_wayCost m_isWay m_next m_start m_token m_number m_letters m_isWrong m_sums m_steps m_chosen m_passed m_passedMany m_passedCost m_reach) sz)) 0 0 (va_A (wX7 Z Am m_thrown m_s m_saved m_savedMany m_aside m_sent m_text m_length m_way m_crossed m_wayCost m_isWay m_next m_start m_token m_number m_letters m_isWrong m_sums m_steps m_chosen m_passed m_passedMany m_passedCost m_reach) sz) := by
  refine zMet (own := RX7) (fun A => zQv Z (wX7 Z Am m_thrown res m_saved m_savedMany m_aside m_sent m_text m_length m_way m_crossed m_wayCost m_isWay m_next m_start m_token m_number m_letters m_isWrong m_sums m_steps m_chosen m_passed m_passedMany m_passedCost m_reach) A) (by decide) rfl (Nat.le_of_ble_eq_true rfl) ?_
  intro p e s m args below meth c ls A E hw hl
  unfold fX7_tellLink at h
  refine r_aload_n E hl 0 rfl dX7_tellLink_0 rfl ?_
  refine r_iload_n E hl 1 rfl dX7_tellLink_1 rfl ?_
  refine r_bipush E 16 dX7_tellLink_2 (by decide) ?_
  refine r_iload_n E hl 2 rfl dX7_tellLink_4 rfl ?_
  refine r_iadd E dX7_tellLink_5 ?_
  refine r_aload_n E hl 0 rfl dX7_tellLink_6 rfl ?_
  refine r_iload_n E hl 2 rfl dX7_tellLink_7 rfl ?_
  refine r_iconst E 5 dX7_tellLink_8 (by decide) ?_
  obtain ⟨y1, hy1, h⟩ := bd_some h
  refine r_callVAi E hw (mX7_linkPart l Z _ Am m_thrown m_s m_saved m_savedMany m_aside m_sent m_text m_length m_way m_crossed m_wayCost m_isWay m_next m_start m_token m_number m_letters m_isWrong m_sums m_steps m_chosen m_passed m_passedMany m_passedCost m_reach v2 (5 : Int32) hy1) kL_X7_62 kI_X7_linkPart kS_X7_linkPart kN_X7 kC_X7_linkPart rfl rfl hdX7_linkPart ⟨Nat.le_of_ble_eq_true rfl, Nat.le_of_ble_eq_true rfl⟩ 0 rfl rfl rfl rfl hl [.int ((16 : Int32) + v2), .int v1, .ref (Am 0)] rfl (Nat.le_of_ble_eq_true rfl) dX7_tellLink_9 ⟨Nat.zero_le _, Nat.zero_le _⟩ (fun H locs hw => ?_)
  refine r_aload_n E hl 0 rfl dX7_tellLink_12 rfl ?_
  refine r_iload_n E hl 2 rfl dX7_tellLink_13 rfl ?_
  refine r_iconst E 3 dX7_tellLink_14 (by decide) ?_
  obtain ⟨y2, hy2, h⟩ := bd_some h
  refine r_callVAi E hw (mX7_linkPart l Z _ Am m_thrown m_s m_saved m_savedMany m_aside m_sent m_text m_length m_way m_crossed m_wayCost m_isWay m_next m_start m_token m_number m_letters m_isWrong m_sums m_steps m_chosen m_passed m_passedMany m_passedCost m_reach v2 (3 : Int32) hy2) kL_X7_62 kI_X7_linkPart kS_X7_linkPart kN_X7 kC_X7_linkPart rfl rfl hdX7_linkPart ⟨Nat.le_of_ble_eq_true rfl, Nat.le_of_ble_eq_true rfl⟩ 0 rfl rfl rfl rfl hl [.int y1, .int ((16 : Int32) + v2), .int v1, .ref (Am 0)] rfl (Nat.le_of_ble_eq_true rfl) dX7_tellLink_15 ⟨Nat.zero_le _, Nat.zero_le _⟩ (fun H locs hw => ?_)
  refine r_aload_n E hl 0 rfl dX7_tellLink_18 rfl ?_
  refine r_iload_n E hl 2 rfl dX7_tellLink_19 rfl ?_
  refine r_iconst E 2 dX7_tellLink_20 (by decide) ?_
  obtain ⟨y3, hy3, h⟩ := bd_some h
  refine r_callVAi E hw (mX7_linkPart l Z _ Am m_thrown m_s m_saved m_savedMany m_aside m_sent m_text m_length m_way m_crossed m_wayCost m_isWay m_next m_start m_token m_number m_letters m_isWrong m_sums m_steps m_chosen m_passed m_passedMany m_passedCost m_reach v2 (2 : Int32) hy3) kL_X7_62 kI_X7_linkPart kS_X7_linkPart kN_X7 kC_X7_linkPart rfl rfl hdX7_linkPart ⟨Nat.le_of_ble_eq_true rfl, Nat.le_of_ble_eq_true rfl⟩ 0 rfl rfl rfl rfl hl [.int y2, .int y1, .int ((16 : Int32) + v2), .int v1, .ref (Am 0)] rfl (Nat.le_of_ble_eq_true rfl) dX7_tellLink_21 ⟨Nat.zero_le _, Nat.zero_le _⟩ (fun H locs hw => ?_)
  obtain ⟨y4, hy4, h⟩ := bd_some h
  refine r_callVAv E hw (mX7_learn l Z _ Am m_thrown m_s m_saved m_savedMany m_aside m_sent m_text m_length m_way m_crossed m_wayCost m_isWay m_next m_start m_token m_number m_letters m_isWrong m_sums m_steps m_chosen m_passed m_passedMany m_passedCost m_reach v1 ((16 : Int32) + v2) y1 y2 y3 hy4) kL_X7_94 kI_X7_learn kS_X7_learn kN_X7 kC_X7_learn rfl rfl hdX7_learn ⟨Nat.le_of_ble_eq_true rfl, Nat.le_of_ble_eq_true rfl⟩ 0 rfl rfl rfl rfl hl [] rfl (Nat.le_of_ble_eq_true rfl) dX7_tellLink_24 ⟨Nat.zero_le _, Nat.zero_le _⟩ (fun H locs hw => ?_)
  obtain rfl := Option.some.inj h
  exact r_vret E hw dX7_tellLink_27
abbrev rmX7_awake : Room := { frames := 2, cells := 0, slots := 0, locals := 44 }

set_option maxRecDepth 100000 in
set_option maxHeartbeats 4000000 in
theorem vX7_awake_34 {Z : zT} {p : Program} {l : Launch} {e : Env} {s : State} {m : MethodId} {args : Array Value} {below : List Frame} {meth : Method} {c : Code} {A : Nat → Prop} (E : zE Z p s m args meth c RX7 cX7_awake 3 none A) {Am : Nat → Nat} {v1 : Int32} {v2 : Int32} {k1 : Int32} {k2 : Int32} {m_thrown : Int32} {m_s : (Nat → Int32)} {m_saved : (Nat → Int32)} {m_savedMany : Int32} {m_aside : (Nat → Int32)} {m_sent : (Nat → Int32)} {m_text : (Nat → Int32)} {m_length : Int32} {m_way : (Nat → Int32)} {m_crossed : Int32} {m_wayCost : Int32} {m_isWay : Int32} {m_next : Int32} {m_start : Int32} {m_token : Int32} {m_number : Int32} {m_letters : Int64} {m_isWrong : Int32} {m_sums : (Nat → Int32)} {m_steps : (Nat → Int32)} {m_chosen : Int32} {m_passed : (Nat → Int32)} {m_passedMany : Int32} {m_passedCost : Int32} {m_reach : (Nat → Int32)} {res : (Nat → Int32)} {q1 : (Int32 × (Nat → Int32)) ⊕ ((Nat → Int32))} (hb1 : ∀ b : Int32 × (Nat → Int32), q1 = .inl b → ∀ (H : Heap) (locs : List Loc) (ls : Array Slot), zW Z A (wX7 Z Am m_thrown b.2 m_saved m_savedMany m_aside m_sent m_text m_length m_way m_crossed m_wayCost m_isWay m_next m_start m_token m_number m_letters m_isWrong m_sums m_steps m_chosen m_passed m_passedMany m_passedCost m_reach) s.heap H locs → lv_has ls 3 [(0, .ref (Am 0)), (1, .int v1), (2, .int b.1)] → W p l e rmX7_awake s m args below meth c H locs 0 0 (MQ below (zQv Z (wX7 Z Am m_thrown res m_saved m_savedMany m_aside m_sent m_text m_length m_way m_crossed m_wayCost m_isWay m_next m_start m_token m_number m_letters m_isWrong m_sums m_steps m_chosen m_passed m_passedMany m_passedCost m_reach) A) args s 0 0 A) (F0 m 2 ls [])) (hr1 : ∀ r' , q1 = .inr r' → r' = res) {H : Heap} {locs : List Loc} {ls : Array Slot} (hw : zW Z A (wX7 Z Am m_thrown m_s m_saved m_savedMany m_aside m_sent m_text m_length m_way m_crossed m_wayCost m_isWay m_next m_start m_token m_number m_letters m_isWrong m_sums m_steps m_chosen m_passed m_passedMany m_passedCost m_reach) s.heap H locs) (hl : lv_has ls 3 [(0, .ref (Am 0)), (1, .int v1), (2, .int v2)]) (h : uX7_awake_34 v2 k1 k2 m_s = some q1) : W p l e rmX7_awake s m args below meth c H locs 0 0 (MQ below (zQv Z (wX7 Z Am m_thrown res m_saved m_savedMany m_aside m_sent m_text m_length m_way m_crossed m_wayCost m_isWay m_next m_start m_token m_number m_letters m_isWrong m_sums m_steps m_chosen m_passed m_passedMany m_passedCost m_reach) A) args s 0 0 A) (F0 m 34 ls [.int k2, .int k1, .ref (Am 1)]) := by
  unfold uX7_awake_34 at h
  obtain ⟨hg4, h⟩ := gd_some h
  refine r_iast E (wX7 Z Am m_thrown (upd m_s (k1).toNatClampNeg k2) m_saved m_savedMany m_aside m_sent m_text m_length m_way m_crossed m_wayCost m_isWay m_next m_start m_token m_number m_letters m_isWrong m_sums m_steps m_chosen m_passed m_passedMany m_passedCost m_reach) hw 1 rfl hg4 rfl dX7_awake_34 (fun H locs hw => ?_)
  obtain ⟨w5, hw5, h⟩ := nm_out h
  refine r_iinc E w5 [(2, .int w5), (0, .ref (Am 0)), (1, .int v1)] hl (k := 2) rfl dX7_awake_35 hw5.symm (by decide) rfl (fun ls hl => ?_)
  refine r_goto E 2 dX7_awake_38 (by decide) ?_
  exact hb1 _ (Option.some.inj h).symm _ _ _ hw (lv_sub hl [1, 2, 0] rfl)
set_option maxRecDepth 100000 in
set_option maxHeartbeats 4000000 in
theorem tX7_awake_2 {Z : zT} {p : Program} {l : Launch} {e : Env} {s : State} {m : MethodId} {args : Array Value} {below : List Frame} {meth : Method} {c : Code} {A : Nat → Prop} (E : zE Z p s m args meth c RX7 cX7_awake 3 none A) {Am : Nat → Nat} {v1 : Int32} {m_thrown : Int32} {m_saved : (Nat → Int32)} {m_savedMany : Int32} {m_aside : (Nat → Int32)} {m_sent : (Nat → Int32)} {m_text : (Nat → Int32)} {m_length : Int32} {m_way : (Nat → Int32)} {m_crossed : Int32} {m_wayCost : Int32} {m_isWay : Int32} {m_next : Int32} {m_start : Int32} {m_token : Int32} {m_number : Int32} {m_letters : Int64} {m_isWrong : Int32} {m_sums : (Nat → Int32)} {m_steps : (Nat → Int32)} {m_chosen : Int32} {m_passed : (Nat → Int32)} {m_passedMany : Int32} {m_passedCost : Int32} {m_reach : (Nat → Int32)} {res : (Nat → Int32)}  : ∀ (n : Nat) (v2 : Int32) (m_s : (Nat → Int32)) (H : Heap) (locs : List Loc) (ls : Array Slot), iter (fun b : Int32 × (Nat → Int32) => sX7_awake_2 v1 b.1 b.2) n (v2, m_s) = some res → zW Z A (wX7 Z Am m_thrown m_s m_saved m_savedMany m_aside m_sent m_text m_length m_way m_crossed m_wayCost m_isWay m_next m_start m_token m_number m_letters m_isWrong m_sums m_steps m_chosen m_passed m_passedMany m_passedCost m_reach) s.heap H locs → lv_has ls 3 [(0, .ref (Am 0)), (1, .int v1), (2, .int v2)] → W p l e rmX7_awake s m args below meth c H locs 0 0 (MQ below (zQv Z (wX7 Z Am m_thrown res m_saved m_savedMany m_aside m_sent m_text m_length m_way m_crossed m_wayCost m_isWay m_next m_start m_token m_number m_letters m_isWrong m_sums m_steps m_chosen m_passed m_passedMany m_passedCost m_reach) A) args s 0 0 A) (F0 m 2 ls []) := by
  intro n
  induction n with
  | zero => intro v2 m_s H locs ls h; cases h
  | succ n ih =>
    intro v2 m_s H locs ls h hw hl
    obtain ⟨q1, h, hn1, hr1⟩ := iter_out h
    have hb1 : ∀ b : Int32 × (Nat → Int32), q1 = .inl b → ∀ (H : Heap) (locs : List Loc) (ls : Array Slot), zW Z A (wX7 Z Am m_thrown b.2 m_saved m_savedMany m_aside m_sent m_text m_length m_way m_crossed m_wayCost m_isWay m_next m_start m_token m_number m_letters m_isWrong m_sums m_steps m_chosen m_passed m_passedMany m_passedCost m_reach) s.heap H locs → lv_has ls 3 [(0, .ref (Am 0)), (1, .int v1), (2, .int b.1)] → W p l e rmX7_awake s m args below meth c H locs 0 0 (MQ below (zQv Z (wX7 Z Am m_thrown res m_saved m_savedMany m_aside m_sent m_text m_length m_way m_crossed m_wayCost m_isWay m_next m_start m_token m_number m_letters m_isWrong m_sums m_steps m_chosen m_passed m_passedMany m_passedCost m_reach) A) args s 0 0 A) (F0 m 2 ls []) := fun b eb H locs ls hw hl => ih b.1 b.2 H locs ls (hn1 b eb) hw hl
    replace h : sX7_awake_2 v1 v2 m_s = some q1 := h
    unfold sX7_awake_2 at h
    refine r_iload_n E hl 2 rfl dX7_awake_2 rfl ?_
    refine r_bipush E 35 dX7_awake_3 (by decide) ?_
    refine r_icmp_ge E 41 dX7_awake_5 (by decide) (fun hc => ?_) (fun hc => ?_)
    · replace h := ite_t hc h
      obtain ⟨ro1, h, hro1⟩ := oi_some h
      rw [hr1 _ hro1] at h
      obtain rfl := Option.some.inj h
      exact r_vret E hw dX7_awake_41
    · replace h := ite_f hc h
      refine r_aload_n E hl 0 rfl dX7_awake_8 rfl ?_
      refine r_get E kW_X7 hw 0 rfl rfl 1 (by decide) kF_X7_7 rfl dX7_awake_9 ?_
      refine r_iload_n E hl 1 rfl dX7_awake_12 rfl ?_
      refine r_iload_n E hl 2 rfl dX7_awake_13 rfl ?_
      obtain ⟨y2, hy2, h⟩ := bd_some h
      refine r_callS0i E hw (mX7_at l Z _ v1 v2 hy2) kL_X7_70 kT_X7_at kN_X7 kC_X7_at rfl rfl hdX7_at ⟨Nat.le_of_ble_eq_true rfl, Nat.le_of_ble_eq_true rfl⟩ rfl hl [.ref (Am 1)] rfl (Nat.le_of_ble_eq_true rfl) dX7_awake_14 ⟨Nat.zero_le _, Nat.zero_le _⟩ (fun H locs hw => ?_)
      refine r_iconst E 3 dX7_awake_17 (by decide) ?_
      refine r_iadd E dX7_awake_18 ?_
      refine r_aload_n E hl 0 rfl dX7_awake_19 rfl ?_
      refine r_iload_n E hl 1 rfl dX7_awake_20 rfl ?_
      refine r_iload_n E hl 2 rfl dX7_awake_21 rfl ?_
      refine r_iconst E 0 dX7_awake_22 (by decide) ?_
      obtain ⟨y3, hy3, h⟩ := bd_some h
      refine r_callVAi E hw (mX7_fact l Z _ Am m_thrown m_s m_saved m_savedMany m_aside m_sent m_text m_length m_way m_crossed m_wayCost m_isWay m_next m_start m_token m_number m_letters m_isWrong m_sums m_steps m_chosen m_passed m_passedMany m_passedCost m_reach v1 v2 (0 : Int32) hy3) kL_X7_73 kI_X7_fact kS_X7_fact kN_X7 kC_X7_fact rfl rfl hdX7_fact ⟨Nat.le_of_ble_eq_true rfl, Nat.le_of_ble_eq_true rfl⟩ 0 rfl rfl rfl rfl hl [.int (y2 + (3 : Int32)), .ref (Am 1)] rfl (Nat.le_of_ble_eq_true rfl) dX7_awake_23 ⟨Nat.zero_le _, Nat.zero_le _⟩ (fun H locs hw => ?_)
      refine r_if_le E 33 dX7_awake_26 (by decide) (fun hc => ?_) (fun hc => ?_)
      · replace h := ite_t hc h
        refine r_iconst E 0 dX7_awake_33 (by decide) ?_
        exact vX7_awake_34 E hb1 hr1 hw hl h
      · replace h := ite_f hc h
        refine r_iconst E 1 dX7_awake_29 (by decide) ?_
        refine r_goto E 34 dX7_awake_30 (by decide) ?_
        exact vX7_awake_34 E hb1 hr1 hw hl h
set_option maxRecDepth 100000 in
set_option maxHeartbeats 4000000 in
theorem mX7_awake (l : Launch) (Z : zT) (sz : Nat) (Am : Nat → Nat) (m_thrown : Int32) (m_s : (Nat → Int32)) (m_saved : (Nat → Int32)) (m_savedMany : Int32) (m_aside : (Nat → Int32)) (m_sent : (Nat → Int32)) (m_text : (Nat → Int32)) (m_length : Int32) (m_way : (Nat → Int32)) (m_crossed : Int32) (m_wayCost : Int32) (m_isWay : Int32) (m_next : Int32) (m_start : Int32) (m_token : Int32) (m_number : Int32) (m_letters : Int64) (m_isWrong : Int32) (m_sums : (Nat → Int32)) (m_steps : (Nat → Int32)) (m_chosen : Int32) (m_passed : (Nat → Int32)) (m_passedMany : Int32) (m_passedCost : Int32) (m_reach : (Nat → Int32)) (v1 : Int32) {res : (Nat → Int32)} (h : fX7_awake v1 m_s = some res) : Met l yX7_awake (Cond.code yX7_awake cX7_awake 3 none :: zWs) rmX7_awake (zP Z (wX7 Z Am m_thrown m_s m_saved m_savedMany m_aside m_sent m_text m_length m_way m_crossed m_wayCost m_isWay m_next m_start m_token m_number m_letters m_isWrong m_sums m_steps m_chosen m_passed m_passedMany m_passedCost m_reach) sz [.ref (Am 0), .int v1]) (zQv Z (wX7 Z Am m_thrown res m_saved m_savedMany m_aside m_sent m_text m_length m_way m_crossed m_wayCost m_isWay m_next m_start m_token m_number m_letters m_isWrong m_sums m_steps m_chosen m_passed m_passedMany m_passedCost m_reach) (va_A (wX7 Z Am m_thrown m_s m_saved m_savedMany m_aside m_sent m_text m_length m_way m_crossed m_wayCost m_isWay m_next m_start m_token m_number m_letters m_isWrong m_sums m_steps m_chosen m_passed m_passedMany m_passedCost m_reach) sz)) 0 0 (va_A (wX7 Z Am m_thrown m_s m_saved m_savedMany m_aside m_sent m_text m_length m_way m_crossed m_wayCost m_isWay m_next m_start m_token m_number m_letters m_isWrong m_sums m_steps m_chosen m_passed m_passedMany m_passedCost m_reach) sz) := by
  refine zMet (own := RX7) (fun A => zQv Z (wX7 Z Am m_thrown res m_saved m_savedMany m_aside m_sent m_text m_length m_way m_crossed m_wayCost m_isWay m_next m_start m_token m_number m_letters m_isWrong m_sums m_steps m_chosen m_passed m_passedMany m_passedCost m_reach) A) (by decide) rfl (Nat.le_of_ble_eq_true rfl) ?_
  intro p e s m args below meth c ls A E hw hl
  unfold fX7_awake at h
  refine r_iconst E 0 dX7_awake_0 (by decide) ?_
  refine r_istore_n E [(2, .int (0 : Int32)), (0, .ref (Am 0)), (1, .int v1)] hl dX7_awake_1 rfl (by decide) rfl (fun ls hl => ?_)
  obtain ⟨n6, h⟩ := wh_some h
  exact tX7_awake_2 E  n6 _ _ _ _ _ h hw (lv_sub hl [1, 2, 0] rfl)
abbrev rmX7_changeLink : Room := { frames := 6, cells := 0, slots := 0, locals := 142 }

set_option maxRecDepth 100000 in
set_option maxHeartbeats 4000000 in
theorem mX7_changeLink (l : Launch) (Z : zT) (sz : Nat) (Am : Nat → Nat) (m_thrown : Int32) (m_s : (Nat → Int32)) (m_saved : (Nat → Int32)) (m_savedMany : Int32) (m_aside : (Nat → Int32)) (m_sent : (Nat → Int32)) (m_text : (Nat → Int32)) (m_length : Int32) (m_way : (Nat → Int32)) (m_crossed : Int32) (m_wayCost : Int32) (m_isWay : Int32) (m_next : Int32) (m_start : Int32) (m_token : Int32) (m_number : Int32) (m_letters : Int64) (m_isWrong : Int32) (m_sums : (Nat → Int32)) (m_steps : (Nat → Int32)) (m_chosen : Int32) (m_passed : (Nat → Int32)) (m_passedMany : Int32) (m_passedCost : Int32) (m_reach : (Nat → Int32)) (v1 : Int32) (v2 : Int32) {res : (Nat → Int32)} (h : fX7_changeLink v1 v2 m_s = some res) : Met l yX7_changeLink (Cond.code yX7_changeLink cX7_changeLink 5 none :: zWs) rmX7_changeLink (zP Z (wX7 Z Am m_thrown m_s m_saved m_savedMany m_aside m_sent m_text m_length m_way m_crossed m_wayCost m_isWay m_next m_start m_token m_number m_letters m_isWrong m_sums m_steps m_chosen m_passed m_passedMany m_passedCost m_reach) sz [.ref (Am 0), .int v1, .int v2]) (zQv Z (wX7 Z Am m_thrown res m_saved m_savedMany m_aside m_sent m_text m_length m_way m_crossed m_wayCost m_isWay m_next m_start m_token m_number m_letters m_isWrong m_sums m_steps m_chosen m_passed m_passedMany m_passedCost m_reach) (va_A (wX7 Z Am m_thrown m_s m_saved m_savedMany m_aside m_sent m_text m_length m_way m_crossed m_wayCost m_isWay m_next m_start m_token m_number m_letters m_isWrong m_sums m_steps m_chosen m_passed m_passedMany m_passedCost m_reach) sz)) 0 0 (va_A (wX7 Z Am m_thrown m_s m_saved m_savedMany m_aside m_sent m_text m_length m_way m_crossed m_wayCost m_isWay m_next m_start m_token m_number m_letters m_isWrong m_sums m_steps m_chosen m_passed m_passedMany m_passedCost m_reach) sz) := by
  refine zMet (own := RX7) (fun A => zQv Z (wX7 Z Am m_thrown res m_saved m_savedMany m_aside m_sent m_text m_length m_way m_crossed m_wayCost m_isWay m_next m_start m_token m_number m_letters m_isWrong m_sums m_steps m_chosen m_passed m_passedMany m_passedCost m_reach) A) (by decide) rfl (Nat.le_of_ble_eq_true rfl) ?_
  intro p e s m args below meth c ls A E hw hl
  unfold fX7_changeLink at h
  refine r_aload_n E hl 0 rfl dX7_changeLink_0 rfl ?_
  refine r_iload_n E hl 1 rfl dX7_changeLink_1 rfl ?_
  refine r_iconst E 0 dX7_changeLink_2 (by decide) ?_
  obtain ⟨y1, hy1, h⟩ := bd_some h
  refine r_callVAi E hw (mX7_linkPart l Z _ Am m_thrown m_s m_saved m_savedMany m_aside m_sent m_text m_length m_way m_crossed m_wayCost m_isWay m_next m_start m_token m_number m_letters m_isWrong m_sums m_steps m_chosen m_passed m_passedMany m_passedCost m_reach v1 (0 : Int32) hy1) kL_X7_62 kI_X7_linkPart kS_X7_linkPart kN_X7 kC_X7_linkPart rfl rfl hdX7_linkPart ⟨Nat.le_of_ble_eq_true rfl, Nat.le_of_ble_eq_true rfl⟩ 0 rfl rfl rfl rfl hl [] rfl (Nat.le_of_ble_eq_true rfl) dX7_changeLink_3 ⟨Nat.zero_le _, Nat.zero_le _⟩ (fun H locs hw => ?_)
  refine r_istore_n E [(3, .int y1), (0, .ref (Am 0)), (1, .int v1), (2, .int v2)] hl dX7_changeLink_6 rfl (by decide) rfl (fun ls hl => ?_)
  refine r_aload_n E hl 1 rfl dX7_changeLink_7 rfl ?_
  refine r_iload_n E hl 2 rfl dX7_changeLink_8 rfl ?_
  refine r_iconst E 1 dX7_changeLink_9 (by decide) ?_
  obtain ⟨y2, hy2, h⟩ := bd_some h
  refine r_callVAi E hw (mX7_linkPart l Z _ Am m_thrown m_s m_saved m_savedMany m_aside m_sent m_text m_length m_way m_crossed m_wayCost m_isWay m_next m_start m_token m_number m_letters m_isWrong m_sums m_steps m_chosen m_passed m_passedMany m_passedCost m_reach v1 (1 : Int32) hy2) kL_X7_62 kI_X7_linkPart kS_X7_linkPart kN_X7 kC_X7_linkPart rfl rfl hdX7_linkPart ⟨Nat.le_of_ble_eq_true rfl, Nat.le_of_ble_eq_true rfl⟩ 0 rfl rfl rfl rfl hl [] rfl (Nat.le_of_ble_eq_true rfl) dX7_changeLink_10 ⟨Nat.zero_le _, Nat.zero_le _⟩ (fun H locs hw => ?_)
  refine r_istore E [(4, .int y2), (3, .int y1), (0, .ref (Am 0)), (1, .int v1), (2, .int v2)] hl dX7_changeLink_13 (by decide) rfl (fun ls hl => ?_)
  refine r_aload_n E hl 2 rfl dX7_changeLink_15 rfl ?_
  refine r_iload_n E hl 1 rfl dX7_changeLink_16 rfl ?_
  refine r_iload_n E hl 3 rfl dX7_changeLink_17 rfl ?_
  obtain ⟨y3, hy3, h⟩ := bd_some h
  refine r_callVAv E hw (mX7_tellLink l Z _ Am m_thrown m_s m_saved m_savedMany m_aside m_sent m_text m_length m_way m_crossed m_wayCost m_isWay m_next m_start m_token m_number m_letters m_isWrong m_sums m_steps m_chosen m_passed m_passedMany m_passedCost m_reach y1 v1 hy3) kL_X7_98 kI_X7_tellLink kS_X7_tellLink kN_X7 kC_X7_tellLink rfl rfl hdX7_tellLink ⟨Nat.le_of_ble_eq_true rfl, Nat.le_of_ble_eq_true rfl⟩ 0 rfl rfl rfl rfl hl [] rfl (Nat.le_of_ble_eq_true rfl) dX7_changeLink_18 ⟨Nat.zero_le _, Nat.zero_le _⟩ (fun H locs hw => ?_)
  refine r_aload_n E hl 2 rfl dX7_changeLink_21 rfl ?_
  refine r_iload E hl 0 rfl dX7_changeLink_22 ?_
  refine r_iload_n E hl 3 rfl dX7_changeLink_24 rfl ?_
  obtain ⟨y4, hy4, h⟩ := bd_some h
  refine r_callVAv E hw (mX7_tellLink l Z _ Am m_thrown y3 m_saved m_savedMany m_aside m_sent m_text m_length m_way m_crossed m_wayCost m_isWay m_next m_start m_token m_number m_letters m_isWrong m_sums m_steps m_chosen m_passed m_passedMany m_passedCost m_reach y2 v1 hy4) kL_X7_98 kI_X7_tellLink kS_X7_tellLink kN_X7 kC_X7_tellLink rfl rfl hdX7_tellLink ⟨Nat.le_of_ble_eq_true rfl, Nat.le_of_ble_eq_true rfl⟩ 0 rfl rfl rfl rfl hl [] rfl (Nat.le_of_ble_eq_true rfl) dX7_changeLink_25 ⟨Nat.zero_le _, Nat.zero_le _⟩ (fun H locs hw => ?_)
  refine r_iload_n E hl 4 rfl dX7_changeLink_28 rfl ?_
  refine r_if_eq E 43 dX7_changeLink_29 (by decide) (fun hc => ?_) (fun hc => ?_)
  · replace h := ite_t hc h
    obtain rfl := Option.some.inj h
    exact r_vret E hw dX7_changeLink_43
  · replace h := ite_f hc h
    refine r_aload_n E hl 2 rfl dX7_changeLink_32 rfl ?_
    refine r_iload_n E hl 1 rfl dX7_changeLink_33 rfl ?_
    obtain ⟨y5, hy5, h⟩ := bd_some h
    refine r_callVAv E hw (mX7_awake l Z _ Am m_thrown y4 m_saved m_savedMany m_aside m_sent m_text m_length m_way m_crossed m_wayCost m_isWay m_next m_start m_token m_number m_letters m_isWrong m_sums m_steps m_chosen m_passed m_passedMany m_passedCost m_reach y1 hy5) kL_X7_102 kI_X7_awake kS_X7_awake kN_X7 kC_X7_awake rfl rfl hdX7_awake ⟨Nat.le_of_ble_eq_true rfl, Nat.le_of_ble_eq_true rfl⟩ 0 rfl rfl rfl rfl hl [] rfl (Nat.le_of_ble_eq_true rfl) dX7_changeLink_34 ⟨Nat.zero_le _, Nat.zero_le _⟩ (fun H locs hw => ?_)
    refine r_aload_n E hl 2 rfl dX7_changeLink_37 rfl ?_
    refine r_iload E hl 0 rfl dX7_changeLink_38 ?_
    obtain ⟨y6, hy6, h⟩ := bd_some h
    refine r_callVAv E hw (mX7_awake l Z _ Am m_thrown y5 m_saved m_savedMany m_aside m_sent m_text m_length m_way m_crossed m_wayCost m_isWay m_next m_start m_token m_number m_letters m_isWrong m_sums m_steps m_chosen m_passed m_passedMany m_passedCost m_reach y2 hy6) kL_X7_102 kI_X7_awake kS_X7_awake kN_X7 kC_X7_awake rfl rfl hdX7_awake ⟨Nat.le_of_ble_eq_true rfl, Nat.le_of_ble_eq_true rfl⟩ 0 rfl rfl rfl rfl hl [] rfl (Nat.le_of_ble_eq_true rfl) dX7_changeLink_40 ⟨Nat.zero_le _, Nat.zero_le _⟩ (fun H locs hw => ?_)
    obtain rfl := Option.some.inj h
    exact r_vret E hw dX7_changeLink_43
abbrev rmX7_changeGrant : Room := { frames := 5, cells := 0, slots := 0, locals := 120 }

set_option maxRecDepth 100000 in
set_option maxHeartbeats 4000000 in
theorem vX7_changeGrant_76 {Z : zT} {p : Program} {l : Launch} {e : Env} {s : State} {m : MethodId} {args : Array Value} {below : List Frame} {meth : Method} {c : Code} {A : Nat → Prop} (E : zE Z p s m args meth c RX7 cX7_changeGrant 6 none A) {Am : Nat → Nat} {v1 : Int32} {v3 : Int32} {v4 : Int32} {v5 : Int32} {m_thrown : Int32} {m_s : (Nat → Int32)} {m_saved : (Nat → Int32)} {m_savedMany : Int32} {m_aside : (Nat → Int32)} {m_sent : (Nat → Int32)} {m_text : (Nat → Int32)} {m_length : Int32} {m_way : (Nat → Int32)} {m_crossed : Int32} {m_wayCost : Int32} {m_isWay : Int32} {m_next : Int32} {m_start : Int32} {m_token : Int32} {m_number : Int32} {m_letters : Int64} {m_isWrong : Int32} {m_sums : (Nat → Int32)} {m_steps : (Nat → Int32)} {m_chosen : Int32} {m_passed : (Nat → Int32)} {m_passedMany : Int32} {m_passedCost : Int32} {m_reach : (Nat → Int32)} {res : (Nat → Int32)} {q1 : (Int32 × (Nat → Int32)) ⊕ ((Nat → Int32))} (hb1 : ∀ b : Int32 × (Nat → Int32), q1 = .inl b → ∀ (H : Heap) (locs : List Loc) (ls : Array Slot), zW Z A (wX7 Z Am m_thrown b.2 m_saved m_savedMany m_aside m_sent m_text m_length m_way m_crossed m_wayCost m_isWay m_next m_start m_token m_number m_letters m_isWrong m_sums m_steps m_chosen m_passed m_passedMany m_passedCost m_reach) s.heap H locs → lv_has ls 6 [(0, .ref (Am 0)), (1, .int v1), (3, .int v3), (4, .int v4), (5, .int b.1)] → W p l e rmX7_changeGrant s m args below meth c H locs 0 0 (MQ below (zQv Z (wX7 Z Am m_thrown res m_saved m_savedMany m_aside m_sent m_text m_length m_way m_crossed m_wayCost m_isWay m_next m_start m_token m_number m_letters m_isWrong m_sums m_steps m_chosen m_passed m_passedMany m_passedCost m_reach) A) args s 0 0 A) (F0 m 35 ls [])) (hr1 : ∀ r' , q1 = .inr r' → r' = res) {H : Heap} {locs : List Loc} {ls : Array Slot} (hw : zW Z A (wX7 Z Am m_thrown m_s m_saved m_savedMany m_aside m_sent m_text m_length m_way m_crossed m_wayCost m_isWay m_next m_start m_token m_number m_letters m_isWrong m_sums m_steps m_chosen m_passed m_passedMany m_passedCost m_reach) s.heap H locs) (hl : lv_has ls 6 [(0, .ref (Am 0)), (1, .int v1), (3, .int v3), (4, .int v4), (5, .int v5)]) (h : uX7_changeGrant_76 v5 m_s = some q1) : W p l e rmX7_changeGrant s m args below meth c H locs 0 0 (MQ below (zQv Z (wX7 Z Am m_thrown res m_saved m_savedMany m_aside m_sent m_text m_length m_way m_crossed m_wayCost m_isWay m_next m_start m_token m_number m_letters m_isWrong m_sums m_steps m_chosen m_passed m_passedMany m_passedCost m_reach) A) args s 0 0 A) (F0 m 76 ls []) := by
  unfold uX7_changeGrant_76 at h
  obtain ⟨w8, hw8, h⟩ := nm_out h
  refine r_iinc E w8 [(5, .int w8), (0, .ref (Am 0)), (1, .int v1), (3, .int v3), (4, .int v4)] hl (k := 4) rfl dX7_changeGrant_76 hw8.symm (by decide) rfl (fun ls hl => ?_)
  refine r_goto E 35 dX7_changeGrant_79 (by decide) ?_
  exact hb1 _ (Option.some.inj h).symm _ _ _ hw (lv_sub hl [1, 2, 3, 4, 0] rfl)
set_option maxRecDepth 100000 in
set_option maxHeartbeats 4000000 in
theorem tX7_changeGrant_35 {Z : zT} {p : Program} {l : Launch} {e : Env} {s : State} {m : MethodId} {args : Array Value} {below : List Frame} {meth : Method} {c : Code} {A : Nat → Prop} (E : zE Z p s m args meth c RX7 cX7_changeGrant 6 none A) {Am : Nat → Nat} {v1 : Int32} {v3 : Int32} {v4 : Int32} {m_thrown : Int32} {m_saved : (Nat → Int32)} {m_savedMany : Int32} {m_aside : (Nat → Int32)} {m_sent : (Nat → Int32)} {m_text : (Nat → Int32)} {m_length : Int32} {m_way : (Nat → Int32)} {m_crossed : Int32} {m_wayCost : Int32} {m_isWay : Int32} {m_next : Int32} {m_start : Int32} {m_token : Int32} {m_number : Int32} {m_letters : Int64} {m_isWrong : Int32} {m_sums : (Nat → Int32)} {m_steps : (Nat → Int32)} {m_chosen : Int32} {m_passed : (Nat → Int32)} {m_passedMany : Int32} {m_passedCost : Int32} {m_reach : (Nat → Int32)} {res : (Nat → Int32)}  : ∀ (n : Nat) (v5 : Int32) (m_s : (Nat → Int32)) (H : Heap) (locs : List Loc) (ls : Array Slot), iter (fun b : Int32 × (Nat → Int32) => sX7_changeGrant_35 v1 v3 v4 b.1 b.2) n (v5, m_s) = some res → zW Z A (wX7 Z Am m_thrown m_s m_saved m_savedMany m_aside m_sent m_text m_length m_way m_crossed m_wayCost m_isWay m_next m_start m_token m_number m_letters m_isWrong m_sums m_steps m_chosen m_passed m_passedMany m_passedCost m_reach) s.heap H locs → lv_has ls 6 [(0, .ref (Am 0)), (1, .int v1), (3, .int v3), (4, .int v4), (5, .int v5)] → W p l e rmX7_changeGrant s m args below meth c H locs 0 0 (MQ below (zQv Z (wX7 Z Am m_thrown res m_saved m_savedMany m_aside m_sent m_text m_length m_way m_crossed m_wayCost m_isWay m_next m_start m_token m_number m_letters m_isWrong m_sums m_steps m_chosen m_passed m_passedMany m_passedCost m_reach) A) args s 0 0 A) (F0 m 35 ls []) := by
  intro n
  induction n with
  | zero => intro v5 m_s H locs ls h; cases h
  | succ n ih =>
    intro v5 m_s H locs ls h hw hl
    obtain ⟨q1, h, hn1, hr1⟩ := iter_out h
    have hb1 : ∀ b : Int32 × (Nat → Int32), q1 = .inl b → ∀ (H : Heap) (locs : List Loc) (ls : Array Slot), zW Z A (wX7 Z Am m_thrown b.2 m_saved m_savedMany m_aside m_sent m_text m_length m_way m_crossed m_wayCost m_isWay m_next m_start m_token m_number m_letters m_isWrong m_sums m_steps m_chosen m_passed m_passedMany m_passedCost m_reach) s.heap H locs → lv_has ls 6 [(0, .ref (Am 0)), (1, .int v1), (3, .int v3), (4, .int v4), (5, .int b.1)] → W p l e rmX7_changeGrant s m args below meth c H locs 0 0 (MQ below (zQv Z (wX7 Z Am m_thrown res m_saved m_savedMany m_aside m_sent m_text m_length m_way m_crossed m_wayCost m_isWay m_next m_start m_token m_number m_letters m_isWrong m_sums m_steps m_chosen m_passed m_passedMany m_passedCost m_reach) A) args s 0 0 A) (F0 m 35 ls []) := fun b eb H locs ls hw hl => ih b.1 b.2 H locs ls (hn1 b eb) hw hl
    replace h : sX7_changeGrant_35 v1 v3 v4 v5 m_s = some q1 := h
    unfold sX7_changeGrant_35 at h
    refine r_iload E hl 4 rfl dX7_changeGrant_35 ?_
    refine r_aload_n E hl 0 rfl dX7_changeGrant_37 rfl ?_
    refine r_get E kW_X7 hw 0 rfl rfl 1 (by decide) kF_X7_7 rfl dX7_changeGrant_38 ?_
    refine r_iconst E 0 dX7_changeGrant_41 (by decide) ?_
    obtain ⟨hg5, h⟩ := gd_some h
    refine r_iald E hw 1 rfl hg5 dX7_changeGrant_42 ?_
    refine r_icmp_ge E 82 dX7_changeGrant_43 (by decide) (fun hc => ?_) (fun hc => ?_)
    · replace h := ite_t hc h
      obtain ⟨ro6, h, hro6⟩ := oi_some h
      rw [hr1 _ hro6] at h
      obtain rfl := Option.some.inj h
      exact r_vret E hw dX7_changeGrant_82
    · replace h := ite_f hc h
      refine r_aload_n E hl 0 rfl dX7_changeGrant_46 rfl ?_
      refine r_iload E hl 4 rfl dX7_changeGrant_47 ?_
      obtain ⟨y7, hy7, h⟩ := bd_some h
      refine r_callVAi E hw (mX7_area l Z _ Am m_thrown m_s m_saved m_savedMany m_aside m_sent m_text m_length m_way m_crossed m_wayCost m_isWay m_next m_start m_token m_number m_letters m_isWrong m_sums m_steps m_chosen m_passed m_passedMany m_passedCost m_reach v5 hy7) kL_X7_66 kI_X7_area kS_X7_area kN_X7 kC_X7_area rfl rfl hdX7_area ⟨Nat.le_of_ble_eq_true rfl, Nat.le_of_ble_eq_true rfl⟩ 0 rfl rfl rfl rfl hl [] rfl (Nat.le_of_ble_eq_true rfl) dX7_changeGrant_49 ⟨Nat.zero_le _, Nat.zero_le _⟩ (fun H locs hw => ?_)
      refine r_iload_n E hl 1 rfl dX7_changeGrant_52 rfl ?_
      refine r_icmp_ne E 76 dX7_changeGrant_53 (by decide) (fun hc => ?_) (fun hc => ?_)
      · replace h := ite_f hc h
        exact vX7_changeGrant_76 E hb1 hr1 hw hl h
      · replace h := ite_t hc h
        refine r_aload_n E hl 0 rfl dX7_changeGrant_56 rfl ?_
        refine r_iload E hl 4 rfl dX7_changeGrant_57 ?_
        refine r_iload E hl 3 rfl dX7_changeGrant_59 ?_
        refine r_aload_n E hl 0 rfl dX7_changeGrant_61 rfl ?_
        refine r_get E kW_X7 hw 0 rfl rfl 1 (by decide) kF_X7_7 rfl dX7_changeGrant_62 ?_
        refine r_bipush E 30 dX7_changeGrant_65 (by decide) ?_
        refine r_iload E hl 3 rfl dX7_changeGrant_67 ?_
        refine r_iadd E dX7_changeGrant_69 ?_
        obtain ⟨hg9, h⟩ := gd_some h
        refine r_iald E hw 1 rfl hg9 dX7_changeGrant_70 ?_
        refine r_iload_n E hl 2 rfl dX7_changeGrant_71 rfl ?_
        refine r_iconst E 0 dX7_changeGrant_72 (by decide) ?_
        obtain ⟨y10, hy10, h⟩ := bd_some h
        refine r_callVAv E hw (mX7_learn l Z _ Am m_thrown m_s m_saved m_savedMany m_aside m_sent m_text m_length m_way m_crossed m_wayCost m_isWay m_next m_start m_token m_number m_letters m_isWrong m_sums m_steps m_chosen m_passed m_passedMany m_passedCost m_reach v5 v4 (m_s ((30 : Int32) + v4).toNatClampNeg) v3 (0 : Int32) hy10) kL_X7_94 kI_X7_learn kS_X7_learn kN_X7 kC_X7_learn rfl rfl hdX7_learn ⟨Nat.le_of_ble_eq_true rfl, Nat.le_of_ble_eq_true rfl⟩ 0 rfl rfl rfl rfl hl [] rfl (Nat.le_of_ble_eq_true rfl) dX7_changeGrant_73 ⟨Nat.zero_le _, Nat.zero_le _⟩ (fun H locs hw => ?_)
        exact vX7_changeGrant_76 E hb1 hr1 hw hl h
set_option maxRecDepth 100000 in
set_option maxHeartbeats 4000000 in
theorem mX7_changeGrant (l : Launch) (Z : zT) (sz : Nat) (Am : Nat → Nat) (m_thrown : Int32) (m_s : (Nat → Int32)) (m_saved : (Nat → Int32)) (m_savedMany : Int32) (m_aside : (Nat → Int32)) (m_sent : (Nat → Int32)) (m_text : (Nat → Int32)) (m_length : Int32) (m_way : (Nat → Int32)) (m_crossed : Int32) (m_wayCost : Int32) (m_isWay : Int32) (m_next : Int32) (m_start : Int32) (m_token : Int32) (m_number : Int32) (m_letters : Int64) (m_isWrong : Int32) (m_sums : (Nat → Int32)) (m_steps : (Nat → Int32)) (m_chosen : Int32) (m_passed : (Nat → Int32)) (m_passedMany : Int32) (m_passedCost : Int32) (m_reach : (Nat → Int32)) (v1 : Int32) (v2 : Int32) (v3 : Int32) {res : (Nat → Int32)} (h : fX7_changeGrant v1 v2 v3 m_s = some res) : Met l yX7_changeGrant (Cond.code yX7_changeGrant cX7_changeGrant 6 none :: zWs) rmX7_changeGrant (zP Z (wX7 Z Am m_thrown m_s m_saved m_savedMany m_aside m_sent m_text m_length m_way m_crossed m_wayCost m_isWay m_next m_start m_token m_number m_letters m_isWrong m_sums m_steps m_chosen m_passed m_passedMany m_passedCost m_reach) sz [.ref (Am 0), .int v1, .int v2, .int v3]) (zQv Z (wX7 Z Am m_thrown res m_saved m_savedMany m_aside m_sent m_text m_length m_way m_crossed m_wayCost m_isWay m_next m_start m_token m_number m_letters m_isWrong m_sums m_steps m_chosen m_passed m_passedMany m_passedCost m_reach) (va_A (wX7 Z Am m_thrown m_s m_saved m_savedMany m_aside m_sent m_text m_length m_way m_crossed m_wayCost m_isWay m_next m_start m_token m_number m_letters m_isWrong m_sums m_steps m_chosen m_passed m_passedMany m_passedCost m_reach) sz)) 0 0 (va_A (wX7 Z Am m_thrown m_s m_saved m_savedMany m_aside m_sent m_text m_length m_way m_crossed m_wayCost m_isWay m_next m_start m_token m_number m_letters m_isWrong m_sums m_steps m_chosen m_passed m_passedMany m_passedCost m_reach) sz) := by
  refine zMet (own := RX7) (fun A => zQv Z (wX7 Z Am m_thrown res m_saved m_savedMany m_aside m_sent m_text m_length m_way m_crossed m_wayCost m_isWay m_next m_start m_token m_number m_letters m_isWrong m_sums m_steps m_chosen m_passed m_passedMany m_passedCost m_reach) A) (by decide) rfl (Nat.le_of_ble_eq_true rfl) ?_
  intro p e s m args below meth c ls A E hw hl
  unfold fX7_changeGrant at h
  refine r_iconst E 4 dX7_changeGrant_0 (by decide) ?_
  refine r_iload_n E hl 1 rfl dX7_changeGrant_1 rfl ?_
  refine r_imul E dX7_changeGrant_2 ?_
  refine r_iload_n E hl 2 rfl dX7_changeGrant_3 rfl ?_
  refine r_iadd E dX7_changeGrant_4 ?_
  obtain ⟨w1, hw1, h⟩ := nm_out h
  refine r_nm hw1 ?_
  refine r_istore E [(4, .int w1), (0, .ref (Am 0)), (1, .int v1), (2, .int v2), (3, .int v3)] hl dX7_changeGrant_5 (by decide) rfl (fun ls hl => ?_)
  refine r_aload_n E hl 1 rfl dX7_changeGrant_7 rfl ?_
  refine r_get E kW_X7 hw 0 rfl rfl 1 (by decide) kF_X7_7 rfl dX7_changeGrant_8 ?_
  refine r_bipush E 14 dX7_changeGrant_11 (by decide) ?_
  refine r_iload E hl 0 rfl dX7_changeGrant_13 ?_
  refine r_iadd E dX7_changeGrant_15 ?_
  refine r_iload_n E hl 4 rfl dX7_changeGrant_16 rfl ?_
  obtain ⟨hg2, h⟩ := gd_some h
  refine r_iast E (wX7 Z Am m_thrown (upd m_s ((14 : Int32) + w1).toNatClampNeg v3) m_saved m_savedMany m_aside m_sent m_text m_length m_way m_crossed m_wayCost m_isWay m_next m_start m_token m_number m_letters m_isWrong m_sums m_steps m_chosen m_passed m_passedMany m_passedCost m_reach) hw 1 rfl hg2 rfl dX7_changeGrant_17 (fun H locs hw => ?_)
  refine r_aload_n E hl 1 rfl dX7_changeGrant_18 rfl ?_
  refine r_get E kW_X7 hw 0 rfl rfl 1 (by decide) kF_X7_7 rfl dX7_changeGrant_19 ?_
  refine r_bipush E 30 dX7_changeGrant_22 (by decide) ?_
  refine r_iload E hl 0 rfl dX7_changeGrant_24 ?_
  refine r_iadd E dX7_changeGrant_26 ?_
  refine r_dup2 E dX7_changeGrant_27 rfl rfl ?_
  obtain ⟨hg3, h⟩ := gd_some h
  refine r_iald E hw 1 rfl hg3 dX7_changeGrant_28 ?_
  refine r_iconst E 1 dX7_changeGrant_29 (by decide) ?_
  refine r_iadd E dX7_changeGrant_30 ?_
  obtain ⟨hg4, h⟩ := gd_some h
  refine r_iast E (wX7 Z Am m_thrown (upd (upd m_s ((14 : Int32) + w1).toNatClampNeg v3) ((30 : Int32) + w1).toNatClampNeg (((upd m_s ((14 : Int32) + w1).toNatClampNeg v3) ((30 : Int32) + w1).toNatClampNeg) + (1 : Int32))) m_saved m_savedMany m_aside m_sent m_text m_length m_way m_crossed m_wayCost m_isWay m_next m_start m_token m_number m_letters m_isWrong m_sums m_steps m_chosen m_passed m_passedMany m_passedCost m_reach) hw 1 rfl hg4 rfl dX7_changeGrant_31 (fun H locs hw => ?_)
  refine r_iconst E 0 dX7_changeGrant_32 (by decide) ?_
  refine r_istore E [(5, .int (0 : Int32)), (4, .int w1), (0, .ref (Am 0)), (1, .int v1), (2, .int v2), (3, .int v3)] hl dX7_changeGrant_33 (by decide) rfl (fun ls hl => ?_)
  obtain ⟨n11, h⟩ := wh_some h
  exact tX7_changeGrant_35 E  n11 _ _ _ _ _ h hw (lv_sub hl [2, 3, 5, 1, 0] rfl)
abbrev rmX7_changeTunnel : Room := { frames := 5, cells := 0, slots := 0, locals := 120 }

set_option maxRecDepth 100000 in
set_option maxHeartbeats 4000000 in
theorem mX7_changeTunnel (l : Launch) (Z : zT) (sz : Nat) (Am : Nat → Nat) (m_thrown : Int32) (m_s : (Nat → Int32)) (m_saved : (Nat → Int32)) (m_savedMany : Int32) (m_aside : (Nat → Int32)) (m_sent : (Nat → Int32)) (m_text : (Nat → Int32)) (m_length : Int32) (m_way : (Nat → Int32)) (m_crossed : Int32) (m_wayCost : Int32) (m_isWay : Int32) (m_next : Int32) (m_start : Int32) (m_token : Int32) (m_number : Int32) (m_letters : Int64) (m_isWrong : Int32) (m_sums : (Nat → Int32)) (m_steps : (Nat → Int32)) (m_chosen : Int32) (m_passed : (Nat → Int32)) (m_passedMany : Int32) (m_passedCost : Int32) (m_reach : (Nat → Int32)) (v1 : Int32) {res : (Nat → Int32)} (h : fX7_changeTunnel v1 m_s = some res) : Met l yX7_changeTunnel (Cond.code yX7_changeTunnel cX7_changeTunnel 2 none :: zWs) rmX7_changeTunnel (zP Z (wX7 Z Am m_thrown m_s m_saved m_savedMany m_aside m_sent m_text m_length m_way m_crossed m_wayCost m_isWay m_next m_start m_token m_number m_letters m_isWrong m_sums m_steps m_chosen m_passed m_passedMany m_passedCost m_reach) sz [.ref (Am 0), .int v1]) (zQv Z (wX7 Z Am m_thrown res m_saved m_savedMany m_aside m_sent m_text m_length m_way m_crossed m_wayCost m_isWay m_next m_start m_token m_number m_letters m_isWrong m_sums m_steps m_chosen m_passed m_passedMany m_passedCost m_reach) (va_A (wX7 Z Am m_thrown m_s m_saved m_savedMany m_aside m_sent m_text m_length m_way m_crossed m_wayCost m_isWay m_next m_start m_token m_number m_letters m_isWrong m_sums m_steps m_chosen m_passed m_passedMany m_passedCost m_reach) sz)) 0 0 (va_A (wX7 Z Am m_thrown m_s m_saved m_savedMany m_aside m_sent m_text m_length m_way m_crossed m_wayCost m_isWay m_next m_start m_token m_number m_letters m_isWrong m_sums m_steps m_chosen m_passed m_passedMany m_passedCost m_reach) sz) := by
  refine zMet (own := RX7) (fun A => zQv Z (wX7 Z Am m_thrown res m_saved m_savedMany m_aside m_sent m_text m_length m_way m_crossed m_wayCost m_isWay m_next m_start m_token m_number m_letters m_isWrong m_sums m_steps m_chosen m_passed m_passedMany m_passedCost m_reach) A) (by decide) rfl (Nat.le_of_ble_eq_true rfl) ?_
  intro p e s m args below meth c ls A E hw hl
  unfold fX7_changeTunnel at h
  refine r_aload_n E hl 0 rfl dX7_changeTunnel_0 rfl ?_
  refine r_aload_n E hl 0 rfl dX7_changeTunnel_1 rfl ?_
  refine r_iload_n E hl 1 rfl dX7_changeTunnel_2 rfl ?_
  refine r_iconst E 0 dX7_changeTunnel_3 (by decide) ?_
  obtain ⟨y1, hy1, h⟩ := bd_some h
  refine r_callVAi E hw (mX7_tunnelPart l Z _ Am m_thrown m_s m_saved m_savedMany m_aside m_sent m_text m_length m_way m_crossed m_wayCost m_isWay m_next m_start m_token m_number m_letters m_isWrong m_sums m_steps m_chosen m_passed m_passedMany m_passedCost m_reach v1 (0 : Int32) hy1) kL_X7_106 kI_X7_tunnelPart kS_X7_tunnelPart kN_X7 kC_X7_tunnelPart rfl rfl hdX7_tunnelPart ⟨Nat.le_of_ble_eq_true rfl, Nat.le_of_ble_eq_true rfl⟩ 0 rfl rfl rfl rfl hl [.ref (Am 0)] rfl (Nat.le_of_ble_eq_true rfl) dX7_changeTunnel_4 ⟨Nat.zero_le _, Nat.zero_le _⟩ (fun H locs hw => ?_)
  refine r_bipush E 32 dX7_changeTunnel_7 (by decide) ?_
  refine r_iload_n E hl 1 rfl dX7_changeTunnel_9 rfl ?_
  refine r_iadd E dX7_changeTunnel_10 ?_
  refine r_aload_n E hl 0 rfl dX7_changeTunnel_11 rfl ?_
  refine r_iload_n E hl 1 rfl dX7_changeTunnel_12 rfl ?_
  refine r_iconst E 4 dX7_changeTunnel_13 (by decide) ?_
  obtain ⟨y2, hy2, h⟩ := bd_some h
  refine r_callVAi E hw (mX7_tunnelPart l Z _ Am m_thrown m_s m_saved m_savedMany m_aside m_sent m_text m_length m_way m_crossed m_wayCost m_isWay m_next m_start m_token m_number m_letters m_isWrong m_sums m_steps m_chosen m_passed m_passedMany m_passedCost m_reach v1 (4 : Int32) hy2) kL_X7_106 kI_X7_tunnelPart kS_X7_tunnelPart kN_X7 kC_X7_tunnelPart rfl rfl hdX7_tunnelPart ⟨Nat.le_of_ble_eq_true rfl, Nat.le_of_ble_eq_true rfl⟩ 0 rfl rfl rfl rfl hl [.int ((32 : Int32) + v1), .int y1, .ref (Am 0)] rfl (Nat.le_of_ble_eq_true rfl) dX7_changeTunnel_14 ⟨Nat.zero_le _, Nat.zero_le _⟩ (fun H locs hw => ?_)
  refine r_aload_n E hl 0 rfl dX7_changeTunnel_17 rfl ?_
  refine r_iload_n E hl 1 rfl dX7_changeTunnel_18 rfl ?_
  refine r_iconst E 3 dX7_changeTunnel_19 (by decide) ?_
  obtain ⟨y3, hy3, h⟩ := bd_some h
  refine r_callVAi E hw (mX7_tunnelPart l Z _ Am m_thrown m_s m_saved m_savedMany m_aside m_sent m_text m_length m_way m_crossed m_wayCost m_isWay m_next m_start m_token m_number m_letters m_isWrong m_sums m_steps m_chosen m_passed m_passedMany m_passedCost m_reach v1 (3 : Int32) hy3) kL_X7_106 kI_X7_tunnelPart kS_X7_tunnelPart kN_X7 kC_X7_tunnelPart rfl rfl hdX7_tunnelPart ⟨Nat.le_of_ble_eq_true rfl, Nat.le_of_ble_eq_true rfl⟩ 0 rfl rfl rfl rfl hl [.int y2, .int ((32 : Int32) + v1), .int y1, .ref (Am 0)] rfl (Nat.le_of_ble_eq_true rfl) dX7_changeTunnel_20 ⟨Nat.zero_le _, Nat.zero_le _⟩ (fun H locs hw => ?_)
  refine r_aload_n E hl 0 rfl dX7_changeTunnel_23 rfl ?_
  refine r_iload_n E hl 1 rfl dX7_changeTunnel_24 rfl ?_
  refine r_iconst E 2 dX7_changeTunnel_25 (by decide) ?_
  obtain ⟨y4, hy4, h⟩ := bd_some h
  refine r_callVAi E hw (mX7_tunnelPart l Z _ Am m_thrown m_s m_saved m_savedMany m_aside m_sent m_text m_length m_way m_crossed m_wayCost m_isWay m_next m_start m_token m_number m_letters m_isWrong m_sums m_steps m_chosen m_passed m_passedMany m_passedCost m_reach v1 (2 : Int32) hy4) kL_X7_106 kI_X7_tunnelPart kS_X7_tunnelPart kN_X7 kC_X7_tunnelPart rfl rfl hdX7_tunnelPart ⟨Nat.le_of_ble_eq_true rfl, Nat.le_of_ble_eq_true rfl⟩ 0 rfl rfl rfl rfl hl [.int y3, .int y2, .int ((32 : Int32) + v1), .int y1, .ref (Am 0)] rfl (Nat.le_of_ble_eq_true rfl) dX7_changeTunnel_26 ⟨Nat.zero_le _, Nat.zero_le _⟩ (fun H locs hw => ?_)
  obtain ⟨y5, hy5, h⟩ := bd_some h
  refine r_callVAv E hw (mX7_learn l Z _ Am m_thrown m_s m_saved m_savedMany m_aside m_sent m_text m_length m_way m_crossed m_wayCost m_isWay m_next m_start m_token m_number m_letters m_isWrong m_sums m_steps m_chosen m_passed m_passedMany m_passedCost m_reach y1 ((32 : Int32) + v1) y2 y3 y4 hy5) kL_X7_94 kI_X7_learn kS_X7_learn kN_X7 kC_X7_learn rfl rfl hdX7_learn ⟨Nat.le_of_ble_eq_true rfl, Nat.le_of_ble_eq_true rfl⟩ 0 rfl rfl rfl rfl hl [] rfl (Nat.le_of_ble_eq_true rfl) dX7_changeTunnel_29 ⟨Nat.zero_le _, Nat.zero_le _⟩ (fun H locs hw => ?_)
  obtain rfl := Option.some.inj h
  exact r_vret E hw dX7_changeTunnel_32
abbrev rmX7_makeNode : Room := { frames := 0, cells := 0, slots := 0, locals := 0 }

set_option maxRecDepth 100000 in
set_option maxHeartbeats 4000000 in
theorem mX7_makeNode (l : Launch) (Z : zT) (sz : Nat) (Am : Nat → Nat) (m_thrown : Int32) (m_s : (Nat → Int32)) (m_saved : (Nat → Int32)) (m_savedMany : Int32) (m_aside : (Nat → Int32)) (m_sent : (Nat → Int32)) (m_text : (Nat → Int32)) (m_length : Int32) (m_way : (Nat → Int32)) (m_crossed : Int32) (m_wayCost : Int32) (m_isWay : Int32) (m_next : Int32) (m_start : Int32) (m_token : Int32) (m_number : Int32) (m_letters : Int64) (m_isWrong : Int32) (m_sums : (Nat → Int32)) (m_steps : (Nat → Int32)) (m_chosen : Int32) (m_passed : (Nat → Int32)) (m_passedMany : Int32) (m_passedCost : Int32) (m_reach : (Nat → Int32)) (v1 : Int32) {res : Int32 × (Nat → Int32)} (h : fX7_makeNode v1 m_s = some res) : Met l yX7_makeNode (Cond.code yX7_makeNode cX7_makeNode 3 (some .int) :: zWs) rmX7_makeNode (zP Z (wX7 Z Am m_thrown m_s m_saved m_savedMany m_aside m_sent m_text m_length m_way m_crossed m_wayCost m_isWay m_next m_start m_token m_number m_letters m_isWrong m_sums m_steps m_chosen m_passed m_passedMany m_passedCost m_reach) sz [.ref (Am 0), .int v1]) (zQi Z res.1 (wX7 Z Am m_thrown res.2 m_saved m_savedMany m_aside m_sent m_text m_length m_way m_crossed m_wayCost m_isWay m_next m_start m_token m_number m_letters m_isWrong m_sums m_steps m_chosen m_passed m_passedMany m_passedCost m_reach) (va_A (wX7 Z Am m_thrown m_s m_saved m_savedMany m_aside m_sent m_text m_length m_way m_crossed m_wayCost m_isWay m_next m_start m_token m_number m_letters m_isWrong m_sums m_steps m_chosen m_passed m_passedMany m_passedCost m_reach) sz)) 0 0 (va_A (wX7 Z Am m_thrown m_s m_saved m_savedMany m_aside m_sent m_text m_length m_way m_crossed m_wayCost m_isWay m_next m_start m_token m_number m_letters m_isWrong m_sums m_steps m_chosen m_passed m_passedMany m_passedCost m_reach) sz) := by
  refine zMet (own := RX7) (fun A => zQi Z res.1 (wX7 Z Am m_thrown res.2 m_saved m_savedMany m_aside m_sent m_text m_length m_way m_crossed m_wayCost m_isWay m_next m_start m_token m_number m_letters m_isWrong m_sums m_steps m_chosen m_passed m_passedMany m_passedCost m_reach) A) (by decide) rfl (Nat.le_of_ble_eq_true rfl) ?_
  intro p e s m args below meth c ls A E hw hl
  unfold fX7_makeNode at h
  refine r_aload_n E hl 0 rfl dX7_makeNode_0 rfl ?_
  refine r_get E kW_X7 hw 0 rfl rfl 1 (by decide) kF_X7_7 rfl dX7_makeNode_1 ?_
  refine r_iconst E 0 dX7_makeNode_4 (by decide) ?_
  obtain ⟨hg1, h⟩ := gd_some h
  refine r_iald E hw 1 rfl hg1 dX7_makeNode_5 ?_
  obtain ⟨w2, hw2, h⟩ := nm_out h
  refine r_nm hw2 ?_
  refine r_istore_n E [(2, .int w2), (0, .ref (Am 0)), (1, .int v1)] hl dX7_makeNode_6 rfl (by decide) rfl (fun ls hl => ?_)
  refine r_aload_n E hl 1 rfl dX7_makeNode_7 rfl ?_
  refine r_get E kW_X7 hw 0 rfl rfl 1 (by decide) kF_X7_7 rfl dX7_makeNode_8 ?_
  refine r_iconst E 4 dX7_makeNode_11 (by decide) ?_
  refine r_iload_n E hl 0 rfl dX7_makeNode_12 rfl ?_
  refine r_iadd E dX7_makeNode_13 ?_
  refine r_iload_n E hl 2 rfl dX7_makeNode_14 rfl ?_
  obtain ⟨hg3, h⟩ := gd_some h
  refine r_iast E (wX7 Z Am m_thrown (upd m_s ((4 : Int32) + w2).toNatClampNeg v1) m_saved m_savedMany m_aside m_sent m_text m_length m_way m_crossed m_wayCost m_isWay m_next m_start m_token m_number m_letters m_isWrong m_sums m_steps m_chosen m_passed m_passedMany m_passedCost m_reach) hw 1 rfl hg3 rfl dX7_makeNode_15 (fun H locs hw => ?_)
  refine r_aload_n E hl 1 rfl dX7_makeNode_16 rfl ?_
  refine r_get E kW_X7 hw 0 rfl rfl 1 (by decide) kF_X7_7 rfl dX7_makeNode_17 ?_
  refine r_iconst E 0 dX7_makeNode_20 (by decide) ?_
  refine r_dup2 E dX7_makeNode_21 rfl rfl ?_
  obtain ⟨hg4, h⟩ := gd_some h
  refine r_iald E hw 1 rfl hg4 dX7_makeNode_22 ?_
  refine r_iconst E 1 dX7_makeNode_23 (by decide) ?_
  refine r_iadd E dX7_makeNode_24 ?_
  obtain ⟨hg5, h⟩ := gd_some h
  refine r_iast E (wX7 Z Am m_thrown (upd (upd m_s ((4 : Int32) + w2).toNatClampNeg v1) ((0 : Int32)).toNatClampNeg (((upd m_s ((4 : Int32) + w2).toNatClampNeg v1) ((0 : Int32)).toNatClampNeg) + (1 : Int32))) m_saved m_savedMany m_aside m_sent m_text m_length m_way m_crossed m_wayCost m_isWay m_next m_start m_token m_number m_letters m_isWrong m_sums m_steps m_chosen m_passed m_passedMany m_passedCost m_reach) hw 1 rfl hg5 rfl dX7_makeNode_25 (fun H locs hw => ?_)
  refine r_iload_n E hl 0 rfl dX7_makeNode_26 rfl ?_
  obtain rfl := Option.some.inj h
  exact r_iret E hw dX7_makeNode_27
abbrev rmX7_makeLink : Room := { frames := 7, cells := 0, slots := 0, locals := 166 }

set_option maxRecDepth 100000 in
set_option maxHeartbeats 4000000 in
theorem mX7_makeLink (l : Launch) (Z : zT) (sz : Nat) (Am : Nat → Nat) (m_thrown : Int32) (m_s : (Nat → Int32)) (m_saved : (Nat → Int32)) (m_savedMany : Int32) (m_aside : (Nat → Int32)) (m_sent : (Nat → Int32)) (m_text : (Nat → Int32)) (m_length : Int32) (m_way : (Nat → Int32)) (m_crossed : Int32) (m_wayCost : Int32) (m_isWay : Int32) (m_next : Int32) (m_start : Int32) (m_token : Int32) (m_number : Int32) (m_letters : Int64) (m_isWrong : Int32) (m_sums : (Nat → Int32)) (m_steps : (Nat → Int32)) (m_chosen : Int32) (m_passed : (Nat → Int32)) (m_passedMany : Int32) (m_passedCost : Int32) (m_reach : (Nat → Int32)) (v1 : Int32) (v2 : Int32) (v3 : Int32) (v4 : Int32) {res : Int32 × (Nat → Int32)} (h : fX7_makeLink v1 v2 v3 v4 m_s = some res) : Met l yX7_makeLink (Cond.code yX7_makeLink cX7_makeLink 7 (some .int) :: zWs) rmX7_makeLink (zP Z (wX7 Z Am m_thrown m_s m_saved m_savedMany m_aside m_sent m_text m_length m_way m_crossed m_wayCost m_isWay m_next m_start m_token m_number m_letters m_isWrong m_sums m_steps m_chosen m_passed m_passedMany m_passedCost m_reach) sz [.ref (Am 0), .int v1, .int v2, .int v3, .int v4]) (zQi Z res.1 (wX7 Z Am m_thrown res.2 m_saved m_savedMany m_aside m_sent m_text m_length m_way m_crossed m_wayCost m_isWay m_next m_start m_token m_number m_letters m_isWrong m_sums m_steps m_chosen m_passed m_passedMany m_passedCost m_reach) (va_A (wX7 Z Am m_thrown m_s m_saved m_savedMany m_aside m_sent m_text m_length m_way m_crossed m_wayCost m_isWay m_next m_start m_token m_number m_letters m_isWrong m_sums m_steps m_chosen m_passed m_passedMany m_passedCost m_reach) sz)) 0 0 (va_A (wX7 Z Am m_thrown m_s m_saved m_savedMany m_aside m_sent m_text m_length m_way m_crossed m_wayCost m_isWay m_next m_start m_token m_number m_letters m_isWrong m_sums m_steps m_chosen m_passed m_passedMany m_passedCost m_reach) sz) := by
  refine zMet (own := RX7) (fun A => zQi Z res.1 (wX7 Z Am m_thrown res.2 m_saved m_savedMany m_aside m_sent m_text m_length m_way m_crossed m_wayCost m_isWay m_next m_start m_token m_number m_letters m_isWrong m_sums m_steps m_chosen m_passed m_passedMany m_passedCost m_reach) A) (by decide) rfl (Nat.le_of_ble_eq_true rfl) ?_
  intro p e s m args below meth c ls A E hw hl
  unfold fX7_makeLink at h
  refine r_aload_n E hl 0 rfl dX7_makeLink_0 rfl ?_
  refine r_get E kW_X7 hw 0 rfl rfl 1 (by decide) kF_X7_7 rfl dX7_makeLink_1 ?_
  refine r_iconst E 1 dX7_makeLink_4 (by decide) ?_
  obtain ⟨hg1, h⟩ := gd_some h
  refine r_iald E hw 1 rfl hg1 dX7_makeLink_5 ?_
  obtain ⟨w2, hw2, h⟩ := nm_out h
  refine r_nm hw2 ?_
  refine r_istore E [(5, .int w2), (0, .ref (Am 0)), (1, .int v1), (2, .int v2), (3, .int v3), (4, .int v4)] hl dX7_makeLink_6 (by decide) rfl (fun ls hl => ?_)
  refine r_bipush E 46 dX7_makeLink_8 (by decide) ?_
  refine r_bipush E 6 dX7_makeLink_10 (by decide) ?_
  refine r_iload E hl 0 rfl dX7_makeLink_12 ?_
  refine r_imul E dX7_makeLink_14 ?_
  refine r_iadd E dX7_makeLink_15 ?_
  obtain ⟨w3, hw3, h⟩ := nm_out h
  refine r_nm hw3 ?_
  refine r_istore E [(6, .int w3), (5, .int w2), (0, .ref (Am 0)), (1, .int v1), (2, .int v2), (3, .int v3), (4, .int v4)] hl dX7_makeLink_16 (by decide) rfl (fun ls hl => ?_)
  refine r_aload_n E hl 2 rfl dX7_makeLink_18 rfl ?_
  refine r_get E kW_X7 hw 0 rfl rfl 1 (by decide) kF_X7_7 rfl dX7_makeLink_19 ?_
  refine r_iload E hl 0 rfl dX7_makeLink_22 ?_
  refine r_iload_n E hl 3 rfl dX7_makeLink_24 rfl ?_
  obtain ⟨hg4, h⟩ := gd_some h
  refine r_iast E (wX7 Z Am m_thrown (upd m_s (w3).toNatClampNeg v1) m_saved m_savedMany m_aside m_sent m_text m_length m_way m_crossed m_wayCost m_isWay m_next m_start m_token m_number m_letters m_isWrong m_sums m_steps m_chosen m_passed m_passedMany m_passedCost m_reach) hw 1 rfl hg4 rfl dX7_makeLink_25 (fun H locs hw => ?_)
  refine r_aload_n E hl 2 rfl dX7_makeLink_26 rfl ?_
  refine r_get E kW_X7 hw 0 rfl rfl 1 (by decide) kF_X7_7 rfl dX7_makeLink_27 ?_
  refine r_iload E hl 0 rfl dX7_makeLink_30 ?_
  refine r_iconst E 1 dX7_makeLink_32 (by decide) ?_
  refine r_iadd E dX7_makeLink_33 ?_
  refine r_iload_n E hl 4 rfl dX7_makeLink_34 rfl ?_
  obtain ⟨hg5, h⟩ := gd_some h
  refine r_iast E (wX7 Z Am m_thrown (upd (upd m_s (w3).toNatClampNeg v1) (w3 + (1 : Int32)).toNatClampNeg v2) m_saved m_savedMany m_aside m_sent m_text m_length m_way m_crossed m_wayCost m_isWay m_next m_start m_token m_number m_letters m_isWrong m_sums m_steps m_chosen m_passed m_passedMany m_passedCost m_reach) hw 1 rfl hg5 rfl dX7_makeLink_35 (fun H locs hw => ?_)
  refine r_aload_n E hl 2 rfl dX7_makeLink_36 rfl ?_
  refine r_get E kW_X7 hw 0 rfl rfl 1 (by decide) kF_X7_7 rfl dX7_makeLink_37 ?_
  refine r_iload E hl 0 rfl dX7_makeLink_40 ?_
  refine r_iconst E 2 dX7_makeLink_42 (by decide) ?_
  refine r_iadd E dX7_makeLink_43 ?_
  refine r_iload_n E hl 5 rfl dX7_makeLink_44 rfl ?_
  obtain ⟨hg6, h⟩ := gd_some h
  refine r_iast E (wX7 Z Am m_thrown (upd (upd (upd m_s (w3).toNatClampNeg v1) (w3 + (1 : Int32)).toNatClampNeg v2) (w3 + (2 : Int32)).toNatClampNeg v3) m_saved m_savedMany m_aside m_sent m_text m_length m_way m_crossed m_wayCost m_isWay m_next m_start m_token m_number m_letters m_isWrong m_sums m_steps m_chosen m_passed m_passedMany m_passedCost m_reach) hw 1 rfl hg6 rfl dX7_makeLink_45 (fun H locs hw => ?_)
  refine r_aload_n E hl 2 rfl dX7_makeLink_46 rfl ?_
  refine r_get E kW_X7 hw 0 rfl rfl 1 (by decide) kF_X7_7 rfl dX7_makeLink_47 ?_
  refine r_iload E hl 0 rfl dX7_makeLink_50 ?_
  refine r_iconst E 3 dX7_makeLink_52 (by decide) ?_
  refine r_iadd E dX7_makeLink_53 ?_
  refine r_iconst E 1 dX7_makeLink_54 (by decide) ?_
  obtain ⟨hg7, h⟩ := gd_some h
  refine r_iast E (wX7 Z Am m_thrown (upd (upd (upd (upd m_s (w3).toNatClampNeg v1) (w3 + (1 : Int32)).toNatClampNeg v2) (w3 + (2 : Int32)).toNatClampNeg v3) (w3 + (3 : Int32)).toNatClampNeg (1 : Int32)) m_saved m_savedMany m_aside m_sent m_text m_length m_way m_crossed m_wayCost m_isWay m_next m_start m_token m_number m_letters m_isWrong m_sums m_steps m_chosen m_passed m_passedMany m_passedCost m_reach) hw 1 rfl hg7 rfl dX7_makeLink_55 (fun H locs hw => ?_)
  refine r_aload_n E hl 2 rfl dX7_makeLink_56 rfl ?_
  refine r_get E kW_X7 hw 0 rfl rfl 1 (by decide) kF_X7_7 rfl dX7_makeLink_57 ?_
  refine r_iload E hl 0 rfl dX7_makeLink_60 ?_
  refine r_iconst E 4 dX7_makeLink_62 (by decide) ?_
  refine r_iadd E dX7_makeLink_63 ?_
  refine r_iload E hl 6 rfl dX7_makeLink_64 ?_
  obtain ⟨hg8, h⟩ := gd_some h
  refine r_iast E (wX7 Z Am m_thrown (upd (upd (upd (upd (upd m_s (w3).toNatClampNeg v1) (w3 + (1 : Int32)).toNatClampNeg v2) (w3 + (2 : Int32)).toNatClampNeg v3) (w3 + (3 : Int32)).toNatClampNeg (1 : Int32)) (w3 + (4 : Int32)).toNatClampNeg v4) m_saved m_savedMany m_aside m_sent m_text m_length m_way m_crossed m_wayCost m_isWay m_next m_start m_token m_number m_letters m_isWrong m_sums m_steps m_chosen m_passed m_passedMany m_passedCost m_reach) hw 1 rfl hg8 rfl dX7_makeLink_66 (fun H locs hw => ?_)
  refine r_aload_n E hl 2 rfl dX7_makeLink_67 rfl ?_
  refine r_get E kW_X7 hw 0 rfl rfl 1 (by decide) kF_X7_7 rfl dX7_makeLink_68 ?_
  refine r_iload E hl 0 rfl dX7_makeLink_71 ?_
  refine r_iconst E 5 dX7_makeLink_73 (by decide) ?_
  refine r_iadd E dX7_makeLink_74 ?_
  refine r_iconst E 1 dX7_makeLink_75 (by decide) ?_
  obtain ⟨hg9, h⟩ := gd_some h
  refine r_iast E (wX7 Z Am m_thrown (upd (upd (upd (upd (upd (upd m_s (w3).toNatClampNeg v1) (w3 + (1 : Int32)).toNatClampNeg v2) (w3 + (2 : Int32)).toNatClampNeg v3) (w3 + (3 : Int32)).toNatClampNeg (1 : Int32)) (w3 + (4 : Int32)).toNatClampNeg v4) (w3 + (5 : Int32)).toNatClampNeg (1 : Int32)) m_saved m_savedMany m_aside m_sent m_text m_length m_way m_crossed m_wayCost m_isWay m_next m_start m_token m_number m_letters m_isWrong m_sums m_steps m_chosen m_passed m_passedMany m_passedCost m_reach) hw 1 rfl hg9 rfl dX7_makeLink_76 (fun H locs hw => ?_)
  refine r_aload_n E hl 2 rfl dX7_makeLink_77 rfl ?_
  refine r_get E kW_X7 hw 0 rfl rfl 1 (by decide) kF_X7_7 rfl dX7_makeLink_78 ?_
  refine r_iconst E 1 dX7_makeLink_81 (by decide) ?_
  refine r_dup2 E dX7_makeLink_82 rfl rfl ?_
  obtain ⟨hg10, h⟩ := gd_some h
  refine r_iald E hw 1 rfl hg10 dX7_makeLink_83 ?_
  refine r_iconst E 1 dX7_makeLink_84 (by decide) ?_
  refine r_iadd E dX7_makeLink_85 ?_
  obtain ⟨hg11, h⟩ := gd_some h
  refine r_iast E (wX7 Z Am m_thrown (upd (upd (upd (upd (upd (upd (upd m_s (w3).toNatClampNeg v1) (w3 + (1 : Int32)).toNatClampNeg v2) (w3 + (2 : Int32)).toNatClampNeg v3) (w3 + (3 : Int32)).toNatClampNeg (1 : Int32)) (w3 + (4 : Int32)).toNatClampNeg v4) (w3 + (5 : Int32)).toNatClampNeg (1 : Int32)) ((1 : Int32)).toNatClampNeg (((upd (upd (upd (upd (upd (upd m_s (w3).toNatClampNeg v1) (w3 + (1 : Int32)).toNatClampNeg v2) (w3 + (2 : Int32)).toNatClampNeg v3) (w3 + (3 : Int32)).toNatClampNeg (1 : Int32)) (w3 + (4 : Int32)).toNatClampNeg v4) (w3 + (5 : Int32)).toNatClampNeg (1 : Int32)) ((1 : Int32)).toNatClampNeg) + (1 : Int32))) m_saved m_savedMany m_aside m_sent m_text m_length m_way m_crossed m_wayCost m_isWay m_next m_start m_token m_number m_letters m_isWrong m_sums m_steps m_chosen m_passed m_passedMany m_passedCost m_reach) hw 1 rfl hg11 rfl dX7_makeLink_86 (fun H locs hw => ?_)
  refine r_aload_n E hl 2 rfl dX7_makeLink_87 rfl ?_
  refine r_iload E hl 1 rfl dX7_makeLink_88 ?_
  refine r_iconst E 1 dX7_makeLink_90 (by decide) ?_
  obtain ⟨y12, hy12, h⟩ := bd_some h
  refine r_callVAv E hw (mX7_changeLink l Z _ Am m_thrown (upd (upd (upd (upd (upd (upd (upd m_s (w3).toNatClampNeg v1) (w3 + (1 : Int32)).toNatClampNeg v2) (w3 + (2 : Int32)).toNatClampNeg v3) (w3 + (3 : Int32)).toNatClampNeg (1 : Int32)) (w3 + (4 : Int32)).toNatClampNeg v4) (w3 + (5 : Int32)).toNatClampNeg (1 : Int32)) ((1 : Int32)).toNatClampNeg (((upd (upd (upd (upd (upd (upd m_s (w3).toNatClampNeg v1) (w3 + (1 : Int32)).toNatClampNeg v2) (w3 + (2 : Int32)).toNatClampNeg v3) (w3 + (3 : Int32)).toNatClampNeg (1 : Int32)) (w3 + (4 : Int32)).toNatClampNeg v4) (w3 + (5 : Int32)).toNatClampNeg (1 : Int32)) ((1 : Int32)).toNatClampNeg) + (1 : Int32))) m_saved m_savedMany m_aside m_sent m_text m_length m_way m_crossed m_wayCost m_isWay m_next m_start m_token m_number m_letters m_isWrong m_sums m_steps m_chosen m_passed m_passedMany m_passedCost m_reach w2 (1 : Int32) hy12) kL_X7_109 kI_X7_changeLink kS_X7_changeLink kN_X7 kC_X7_changeLink rfl rfl hdX7_changeLink ⟨Nat.le_of_ble_eq_true rfl, Nat.le_of_ble_eq_true rfl⟩ 0 rfl rfl rfl rfl hl [] rfl (Nat.le_of_ble_eq_true rfl) dX7_makeLink_91 ⟨Nat.zero_le _, Nat.zero_le _⟩ (fun H locs hw => ?_)
  refine r_iload E hl 1 rfl dX7_makeLink_94 ?_
  obtain rfl := Option.some.inj h
  exact r_iret E hw dX7_makeLink_96
abbrev rmX7_makeTunnel : Room := { frames := 6, cells := 0, slots := 0, locals := 141 }

set_option maxRecDepth 100000 in
set_option maxHeartbeats 4000000 in
theorem mX7_makeTunnel (l : Launch) (Z : zT) (sz : Nat) (Am : Nat → Nat) (m_thrown : Int32) (m_s : (Nat → Int32)) (m_saved : (Nat → Int32)) (m_savedMany : Int32) (m_aside : (Nat → Int32)) (m_sent : (Nat → Int32)) (m_text : (Nat → Int32)) (m_length : Int32) (m_way : (Nat → Int32)) (m_crossed : Int32) (m_wayCost : Int32) (m_isWay : Int32) (m_next : Int32) (m_start : Int32) (m_token : Int32) (m_number : Int32) (m_letters : Int64) (m_isWrong : Int32) (m_sums : (Nat → Int32)) (m_steps : (Nat → Int32)) (m_chosen : Int32) (m_passed : (Nat → Int32)) (m_passedMany : Int32) (m_passedCost : Int32) (m_reach : (Nat → Int32)) (v1 : Int32) (v2 : Int32) (v3 : Int32) {res : Int32 × (Nat → Int32)} (h : fX7_makeTunnel v1 v2 v3 m_s = some res) : Met l yX7_makeTunnel (Cond.code yX7_makeTunnel cX7_makeTunnel 6 (some .int) :: zWs) rmX7_makeTunnel (zP Z (wX7 Z Am m_thrown m_s m_saved m_savedMany m_aside m_sent m_text m_length m_way m_crossed m_wayCost m_isWay m_next m_start m_token m_number m_letters m_isWrong m_sums m_steps m_chosen m_passed m_passedMany m_passedCost m_reach) sz [.ref (Am 0), .int v1, .int v2, .int v3]) (zQi Z res.1 (wX7 Z Am m_thrown res.2 m_saved m_savedMany m_aside m_sent m_text m_length m_way m_crossed m_wayCost m_isWay m_next m_start m_token m_number m_letters m_isWrong m_sums m_steps m_chosen m_passed m_passedMany m_passedCost m_reach) (va_A (wX7 Z Am m_thrown m_s m_saved m_savedMany m_aside m_sent m_text m_length m_way m_crossed m_wayCost m_isWay m_next m_start m_token m_number m_letters m_isWrong m_sums m_steps m_chosen m_passed m_passedMany m_passedCost m_reach) sz)) 0 0 (va_A (wX7 Z Am m_thrown m_s m_saved m_savedMany m_aside m_sent m_text m_length m_way m_crossed m_wayCost m_isWay m_next m_start m_token m_number m_letters m_isWrong m_sums m_steps m_chosen m_passed m_passedMany m_passedCost m_reach) sz) := by
  refine zMet (own := RX7) (fun A => zQi Z res.1 (wX7 Z Am m_thrown res.2 m_saved m_savedMany m_aside m_sent m_text m_length m_way m_crossed m_wayCost m_isWay m_next m_start m_token m_number m_letters m_isWrong m_sums m_steps m_chosen m_passed m_passedMany m_passedCost m_reach) A) (by decide) rfl (Nat.le_of_ble_eq_true rfl) ?_
  intro p e s m args below meth c ls A E hw hl
  unfold fX7_makeTunnel at h
  refine r_aload_n E hl 0 rfl dX7_makeTunnel_0 rfl ?_
  refine r_get E kW_X7 hw 0 rfl rfl 1 (by decide) kF_X7_7 rfl dX7_makeTunnel_1 ?_
  refine r_iconst E 2 dX7_makeTunnel_4 (by decide) ?_
  obtain ⟨hg1, h⟩ := gd_some h
  refine r_iald E hw 1 rfl hg1 dX7_makeTunnel_5 ?_
  obtain ⟨w2, hw2, h⟩ := nm_out h
  refine r_nm hw2 ?_
  refine r_istore E [(4, .int w2), (0, .ref (Am 0)), (1, .int v1), (2, .int v2), (3, .int v3)] hl dX7_makeTunnel_6 (by decide) rfl (fun ls hl => ?_)
  refine r_sipush E 142 dX7_makeTunnel_8 (by decide) ?_
  refine r_iconst E 5 dX7_makeTunnel_11 (by decide) ?_
  refine r_iload E hl 0 rfl dX7_makeTunnel_12 ?_
  refine r_imul E dX7_makeTunnel_14 ?_
  refine r_iadd E dX7_makeTunnel_15 ?_
  obtain ⟨w3, hw3, h⟩ := nm_out h
  refine r_nm hw3 ?_
  refine r_istore E [(5, .int w3), (4, .int w2), (0, .ref (Am 0)), (1, .int v1), (2, .int v2), (3, .int v3)] hl dX7_makeTunnel_16 (by decide) rfl (fun ls hl => ?_)
  refine r_aload_n E hl 2 rfl dX7_makeTunnel_18 rfl ?_
  refine r_get E kW_X7 hw 0 rfl rfl 1 (by decide) kF_X7_7 rfl dX7_makeTunnel_19 ?_
  refine r_iload E hl 0 rfl dX7_makeTunnel_22 ?_
  refine r_iload_n E hl 3 rfl dX7_makeTunnel_24 rfl ?_
  obtain ⟨hg4, h⟩ := gd_some h
  refine r_iast E (wX7 Z Am m_thrown (upd m_s (w3).toNatClampNeg v1) m_saved m_savedMany m_aside m_sent m_text m_length m_way m_crossed m_wayCost m_isWay m_next m_start m_token m_number m_letters m_isWrong m_sums m_steps m_chosen m_passed m_passedMany m_passedCost m_reach) hw 1 rfl hg4 rfl dX7_makeTunnel_25 (fun H locs hw => ?_)
  refine r_aload_n E hl 2 rfl dX7_makeTunnel_26 rfl ?_
  refine r_get E kW_X7 hw 0 rfl rfl 1 (by decide) kF_X7_7 rfl dX7_makeTunnel_27 ?_
  refine r_iload E hl 0 rfl dX7_makeTunnel_30 ?_
  refine r_iconst E 1 dX7_makeTunnel_32 (by decide) ?_
  refine r_iadd E dX7_makeTunnel_33 ?_
  refine r_iload_n E hl 4 rfl dX7_makeTunnel_34 rfl ?_
  obtain ⟨hg5, h⟩ := gd_some h
  refine r_iast E (wX7 Z Am m_thrown (upd (upd m_s (w3).toNatClampNeg v1) (w3 + (1 : Int32)).toNatClampNeg v2) m_saved m_savedMany m_aside m_sent m_text m_length m_way m_crossed m_wayCost m_isWay m_next m_start m_token m_number m_letters m_isWrong m_sums m_steps m_chosen m_passed m_passedMany m_passedCost m_reach) hw 1 rfl hg5 rfl dX7_makeTunnel_35 (fun H locs hw => ?_)
  refine r_aload_n E hl 2 rfl dX7_makeTunnel_36 rfl ?_
  refine r_get E kW_X7 hw 0 rfl rfl 1 (by decide) kF_X7_7 rfl dX7_makeTunnel_37 ?_
  refine r_iload E hl 0 rfl dX7_makeTunnel_40 ?_
  refine r_iconst E 2 dX7_makeTunnel_42 (by decide) ?_
  refine r_iadd E dX7_makeTunnel_43 ?_
  refine r_iload_n E hl 5 rfl dX7_makeTunnel_44 rfl ?_
  obtain ⟨hg6, h⟩ := gd_some h
  refine r_iast E (wX7 Z Am m_thrown (upd (upd (upd m_s (w3).toNatClampNeg v1) (w3 + (1 : Int32)).toNatClampNeg v2) (w3 + (2 : Int32)).toNatClampNeg v3) m_saved m_savedMany m_aside m_sent m_text m_length m_way m_crossed m_wayCost m_isWay m_next m_start m_token m_number m_letters m_isWrong m_sums m_steps m_chosen m_passed m_passedMany m_passedCost m_reach) hw 1 rfl hg6 rfl dX7_makeTunnel_45 (fun H locs hw => ?_)
  refine r_aload_n E hl 2 rfl dX7_makeTunnel_46 rfl ?_
  refine r_get E kW_X7 hw 0 rfl rfl 1 (by decide) kF_X7_7 rfl dX7_makeTunnel_47 ?_
  refine r_iload E hl 0 rfl dX7_makeTunnel_50 ?_
  refine r_iconst E 3 dX7_makeTunnel_52 (by decide) ?_
  refine r_iadd E dX7_makeTunnel_53 ?_
  refine r_iconst E 1 dX7_makeTunnel_54 (by decide) ?_
  obtain ⟨hg7, h⟩ := gd_some h
  refine r_iast E (wX7 Z Am m_thrown (upd (upd (upd (upd m_s (w3).toNatClampNeg v1) (w3 + (1 : Int32)).toNatClampNeg v2) (w3 + (2 : Int32)).toNatClampNeg v3) (w3 + (3 : Int32)).toNatClampNeg (1 : Int32)) m_saved m_savedMany m_aside m_sent m_text m_length m_way m_crossed m_wayCost m_isWay m_next m_start m_token m_number m_letters m_isWrong m_sums m_steps m_chosen m_passed m_passedMany m_passedCost m_reach) hw 1 rfl hg7 rfl dX7_makeTunnel_55 (fun H locs hw => ?_)
  refine r_aload_n E hl 2 rfl dX7_makeTunnel_56 rfl ?_
  refine r_get E kW_X7 hw 0 rfl rfl 1 (by decide) kF_X7_7 rfl dX7_makeTunnel_57 ?_
  refine r_iload E hl 0 rfl dX7_makeTunnel_60 ?_
  refine r_iconst E 4 dX7_makeTunnel_62 (by decide) ?_
  refine r_iadd E dX7_makeTunnel_63 ?_
  refine r_iconst E 1 dX7_makeTunnel_64 (by decide) ?_
  obtain ⟨hg8, h⟩ := gd_some h
  refine r_iast E (wX7 Z Am m_thrown (upd (upd (upd (upd (upd m_s (w3).toNatClampNeg v1) (w3 + (1 : Int32)).toNatClampNeg v2) (w3 + (2 : Int32)).toNatClampNeg v3) (w3 + (3 : Int32)).toNatClampNeg (1 : Int32)) (w3 + (4 : Int32)).toNatClampNeg (1 : Int32)) m_saved m_savedMany m_aside m_sent m_text m_length m_way m_crossed m_wayCost m_isWay m_next m_start m_token m_number m_letters m_isWrong m_sums m_steps m_chosen m_passed m_passedMany m_passedCost m_reach) hw 1 rfl hg8 rfl dX7_makeTunnel_65 (fun H locs hw => ?_)
  refine r_aload_n E hl 2 rfl dX7_makeTunnel_66 rfl ?_
  refine r_get E kW_X7 hw 0 rfl rfl 1 (by decide) kF_X7_7 rfl dX7_makeTunnel_67 ?_
  refine r_iconst E 2 dX7_makeTunnel_70 (by decide) ?_
  refine r_dup2 E dX7_makeTunnel_71 rfl rfl ?_
  obtain ⟨hg9, h⟩ := gd_some h
  refine r_iald E hw 1 rfl hg9 dX7_makeTunnel_72 ?_
  refine r_iconst E 1 dX7_makeTunnel_73 (by decide) ?_
  refine r_iadd E dX7_makeTunnel_74 ?_
  obtain ⟨hg10, h⟩ := gd_some h
  refine r_iast E (wX7 Z Am m_thrown (upd (upd (upd (upd (upd (upd m_s (w3).toNatClampNeg v1) (w3 + (1 : Int32)).toNatClampNeg v2) (w3 + (2 : Int32)).toNatClampNeg v3) (w3 + (3 : Int32)).toNatClampNeg (1 : Int32)) (w3 + (4 : Int32)).toNatClampNeg (1 : Int32)) ((2 : Int32)).toNatClampNeg (((upd (upd (upd (upd (upd m_s (w3).toNatClampNeg v1) (w3 + (1 : Int32)).toNatClampNeg v2) (w3 + (2 : Int32)).toNatClampNeg v3) (w3 + (3 : Int32)).toNatClampNeg (1 : Int32)) (w3 + (4 : Int32)).toNatClampNeg (1 : Int32)) ((2 : Int32)).toNatClampNeg) + (1 : Int32))) m_saved m_savedMany m_aside m_sent m_text m_length m_way m_crossed m_wayCost m_isWay m_next m_start m_token m_number m_letters m_isWrong m_sums m_steps m_chosen m_passed m_passedMany m_passedCost m_reach) hw 1 rfl hg10 rfl dX7_makeTunnel_75 (fun H locs hw => ?_)
  refine r_aload_n E hl 2 rfl dX7_makeTunnel_76 rfl ?_
  refine r_iload E hl 1 rfl dX7_makeTunnel_77 ?_
  obtain ⟨y11, hy11, h⟩ := bd_some h
  refine r_callVAv E hw (mX7_changeTunnel l Z _ Am m_thrown (upd (upd (upd (upd (upd (upd m_s (w3).toNatClampNeg v1) (w3 + (1 : Int32)).toNatClampNeg v2) (w3 + (2 : Int32)).toNatClampNeg v3) (w3 + (3 : Int32)).toNatClampNeg (1 : Int32)) (w3 + (4 : Int32)).toNatClampNeg (1 : Int32)) ((2 : Int32)).toNatClampNeg (((upd (upd (upd (upd (upd m_s (w3).toNatClampNeg v1) (w3 + (1 : Int32)).toNatClampNeg v2) (w3 + (2 : Int32)).toNatClampNeg v3) (w3 + (3 : Int32)).toNatClampNeg (1 : Int32)) (w3 + (4 : Int32)).toNatClampNeg (1 : Int32)) ((2 : Int32)).toNatClampNeg) + (1 : Int32))) m_saved m_savedMany m_aside m_sent m_text m_length m_way m_crossed m_wayCost m_isWay m_next m_start m_token m_number m_letters m_isWrong m_sums m_steps m_chosen m_passed m_passedMany m_passedCost m_reach w2 hy11) kL_X7_113 kI_X7_changeTunnel kS_X7_changeTunnel kN_X7 kC_X7_changeTunnel rfl rfl hdX7_changeTunnel ⟨Nat.le_of_ble_eq_true rfl, Nat.le_of_ble_eq_true rfl⟩ 0 rfl rfl rfl rfl hl [] rfl (Nat.le_of_ble_eq_true rfl) dX7_makeTunnel_79 ⟨Nat.zero_le _, Nat.zero_le _⟩ (fun H locs hw => ?_)
  refine r_iload E hl 1 rfl dX7_makeTunnel_82 ?_
  obtain rfl := Option.some.inj h
  exact r_iret E hw dX7_makeTunnel_84
abbrev rmX7_addNode : Room := { frames := 2, cells := 0, slots := 0, locals := 43 }

set_option maxRecDepth 100000 in
set_option maxHeartbeats 4000000 in
theorem mX7_addNode (l : Launch) (Z : zT) (sz : Nat) (Am : Nat → Nat) (m_thrown : Int32) (m_s : (Nat → Int32)) (m_saved : (Nat → Int32)) (m_savedMany : Int32) (m_aside : (Nat → Int32)) (m_sent : (Nat → Int32)) (m_text : (Nat → Int32)) (m_length : Int32) (m_way : (Nat → Int32)) (m_crossed : Int32) (m_wayCost : Int32) (m_isWay : Int32) (m_next : Int32) (m_start : Int32) (m_token : Int32) (m_number : Int32) (m_letters : Int64) (m_isWrong : Int32) (m_sums : (Nat → Int32)) (m_steps : (Nat → Int32)) (m_chosen : Int32) (m_passed : (Nat → Int32)) (m_passedMany : Int32) (m_passedCost : Int32) (m_reach : (Nat → Int32)) (v1 : Int32) {res : Int32 × Int32 × (Nat → Int32) × (Nat → Int32) × Int32 × (Nat → Int32) × Int32} (h : fX7_addNode v1 m_s m_saved m_savedMany m_aside m_isWay = some res) : Met l yX7_addNode (Cond.code yX7_addNode cX7_addNode 2 (some .int) :: zWs) rmX7_addNode (zP Z (wX7 Z Am m_thrown m_s m_saved m_savedMany m_aside m_sent m_text m_length m_way m_crossed m_wayCost m_isWay m_next m_start m_token m_number m_letters m_isWrong m_sums m_steps m_chosen m_passed m_passedMany m_passedCost m_reach) sz [.ref (Am 0), .int v1]) (zQi Z res.1 (wX7 Z Am res.2.1 res.2.2.1 res.2.2.2.1 res.2.2.2.2.1 res.2.2.2.2.2.1 m_sent m_text m_length m_way m_crossed m_wayCost res.2.2.2.2.2.2 m_next m_start m_token m_number m_letters m_isWrong m_sums m_steps m_chosen m_passed m_passedMany m_passedCost m_reach) (va_A (wX7 Z Am m_thrown m_s m_saved m_savedMany m_aside m_sent m_text m_length m_way m_crossed m_wayCost m_isWay m_next m_start m_token m_number m_letters m_isWrong m_sums m_steps m_chosen m_passed m_passedMany m_passedCost m_reach) sz)) 0 0 (va_A (wX7 Z Am m_thrown m_s m_saved m_savedMany m_aside m_sent m_text m_length m_way m_crossed m_wayCost m_isWay m_next m_start m_token m_number m_letters m_isWrong m_sums m_steps m_chosen m_passed m_passedMany m_passedCost m_reach) sz) := by
  refine zMet (own := RX7) (fun A => zQi Z res.1 (wX7 Z Am res.2.1 res.2.2.1 res.2.2.2.1 res.2.2.2.2.1 res.2.2.2.2.2.1 m_sent m_text m_length m_way m_crossed m_wayCost res.2.2.2.2.2.2 m_next m_start m_token m_number m_letters m_isWrong m_sums m_steps m_chosen m_passed m_passedMany m_passedCost m_reach) A) (by decide) rfl (Nat.le_of_ble_eq_true rfl) ?_
  intro p e s m args below meth c ls A E hw hl
  unfold fX7_addNode at h
  refine r_aload_n E hl 0 rfl dX7_addNode_0 rfl ?_
  refine r_iconst E 0 dX7_addNode_1 (by decide) ?_
  refine r_put E (wX7 Z Am (0 : Int32) m_s m_saved m_savedMany m_aside m_sent m_text m_length m_way m_crossed m_wayCost m_isWay m_next m_start m_token m_number m_letters m_isWrong m_sums m_steps m_chosen m_passed m_passedMany m_passedCost m_reach) kW_X7 tyX7_ok nmX7 hw 0 rfl rfl 0 (by decide) kF_X7_40 rfl rfl rfl (Nat.le_of_ble_eq_true rfl) rfl dX7_addNode_2 (fun H locs hw => ?_)
  refine r_iload_n E hl 1 rfl dX7_addNode_5 rfl ?_
  obtain ⟨y1, hy1, h⟩ := bd_some h
  refine r_callS0i E hw (mX7_isArea l Z _ v1 hy1) kL_X7_116 kT_X7_isArea kN_X7 kC_X7_isArea rfl rfl hdX7_isArea ⟨Nat.le_of_ble_eq_true rfl, Nat.le_of_ble_eq_true rfl⟩ rfl hl [] rfl (Nat.le_of_ble_eq_true rfl) dX7_addNode_6 ⟨Nat.zero_le _, Nat.zero_le _⟩ (fun H locs hw => ?_)
  refine r_if_ne E 14 dX7_addNode_9 (by decide) (fun hc => ?_) (fun hc => ?_)
  · replace h := ite_f hc h
    refine r_aload_n E hl 0 rfl dX7_addNode_14 rfl ?_
    refine r_get E kW_X7 hw 0 rfl rfl 1 (by decide) kF_X7_7 rfl dX7_addNode_15 ?_
    refine r_iconst E 0 dX7_addNode_18 (by decide) ?_
    obtain ⟨hg2, h⟩ := gd_some h
    refine r_iald E hw 1 rfl hg2 dX7_addNode_19 ?_
    refine r_bipush E 10 dX7_addNode_20 (by decide) ?_
    refine r_icmp_ne E 28 dX7_addNode_22 (by decide) (fun hc => ?_) (fun hc => ?_)
    · replace h := ite_f hc h
      refine r_aload_n E hl 0 rfl dX7_addNode_28 rfl ?_
      obtain ⟨y3, hy3, h⟩ := bd_some h
      refine r_callVAv E hw (mX7_act l Z _ Am (0 : Int32) m_s m_saved m_savedMany m_aside m_sent m_text m_length m_way m_crossed m_wayCost m_isWay m_next m_start m_token m_number m_letters m_isWrong m_sums m_steps m_chosen m_passed m_passedMany m_passedCost m_reach hy3) kL_X7_119 kI_X7_act kS_X7_act kN_X7 kC_X7_act rfl rfl hdX7_act ⟨Nat.le_of_ble_eq_true rfl, Nat.le_of_ble_eq_true rfl⟩ 0 rfl rfl rfl rfl hl [] rfl (Nat.le_of_ble_eq_true rfl) dX7_addNode_29 ⟨Nat.zero_le _, Nat.zero_le _⟩ (fun H locs hw => ?_)
      refine r_aload_n E hl 0 rfl dX7_addNode_32 rfl ?_
      refine r_iload_n E hl 1 rfl dX7_addNode_33 rfl ?_
      obtain ⟨y4, hy4, h⟩ := bd_some h
      refine r_callVAi E hw (mX7_makeNode l Z _ Am (0 : Int32) m_s y3.1 y3.2.1 y3.2.2.1 m_sent m_text m_length m_way m_crossed m_wayCost y3.2.2.2 m_next m_start m_token m_number m_letters m_isWrong m_sums m_steps m_chosen m_passed m_passedMany m_passedCost m_reach v1 hy4) kL_X7_122 kI_X7_makeNode kS_X7_makeNode kN_X7 kC_X7_makeNode rfl rfl hdX7_makeNode ⟨Nat.le_of_ble_eq_true rfl, Nat.le_of_ble_eq_true rfl⟩ 0 rfl rfl rfl rfl hl [] rfl (Nat.le_of_ble_eq_true rfl) dX7_addNode_34 ⟨Nat.zero_le _, Nat.zero_le _⟩ (fun H locs hw => ?_)
      obtain rfl := Option.some.inj h
      exact r_iret E hw dX7_addNode_37
    · replace h := ite_t hc h
      refine r_bipush E (-3) dX7_addNode_25 (by decide) ?_
      obtain rfl := Option.some.inj h
      exact r_iret E hw dX7_addNode_27
  · replace h := ite_t hc h
    refine r_iconst E (-1) dX7_addNode_12 (by decide) ?_
    obtain rfl := Option.some.inj h
    exact r_iret E hw dX7_addNode_13
abbrev rmX7_areNodes : Room := { frames := 2, cells := 0, slots := 0, locals := 43 }

set_option maxRecDepth 100000 in
set_option maxHeartbeats 4000000 in
theorem mX7_areNodes (l : Launch) (Z : zT) (sz : Nat) (Am : Nat → Nat) (m_thrown : Int32) (m_s : (Nat → Int32)) (m_saved : (Nat → Int32)) (m_savedMany : Int32) (m_aside : (Nat → Int32)) (m_sent : (Nat → Int32)) (m_text : (Nat → Int32)) (m_length : Int32) (m_way : (Nat → Int32)) (m_crossed : Int32) (m_wayCost : Int32) (m_isWay : Int32) (m_next : Int32) (m_start : Int32) (m_token : Int32) (m_number : Int32) (m_letters : Int64) (m_isWrong : Int32) (m_sums : (Nat → Int32)) (m_steps : (Nat → Int32)) (m_chosen : Int32) (m_passed : (Nat → Int32)) (m_passedMany : Int32) (m_passedCost : Int32) (m_reach : (Nat → Int32)) (v1 : Int32) (v2 : Int32) {res : Int32} (h : fX7_areNodes v1 v2 m_s = some res) : Met l yX7_areNodes (Cond.code yX7_areNodes cX7_areNodes 3 (some .boolean) :: zWs) rmX7_areNodes (zP Z (wX7 Z Am m_thrown m_s m_saved m_savedMany m_aside m_sent m_text m_length m_way m_crossed m_wayCost m_isWay m_next m_start m_token m_number m_letters m_isWrong m_sums m_steps m_chosen m_passed m_passedMany m_passedCost m_reach) sz [.ref (Am 0), .int v1, .int v2]) (zQi Z res (wX7 Z Am m_thrown m_s m_saved m_savedMany m_aside m_sent m_text m_length m_way m_crossed m_wayCost m_isWay m_next m_start m_token m_number m_letters m_isWrong m_sums m_steps m_chosen m_passed m_passedMany m_passedCost m_reach) (va_A (wX7 Z Am m_thrown m_s m_saved m_savedMany m_aside m_sent m_text m_length m_way m_crossed m_wayCost m_isWay m_next m_start m_token m_number m_letters m_isWrong m_sums m_steps m_chosen m_passed m_passedMany m_passedCost m_reach) sz)) 0 0 (va_A (wX7 Z Am m_thrown m_s m_saved m_savedMany m_aside m_sent m_text m_length m_way m_crossed m_wayCost m_isWay m_next m_start m_token m_number m_letters m_isWrong m_sums m_steps m_chosen m_passed m_passedMany m_passedCost m_reach) sz) := by
  refine zMet (own := RX7) (fun A => zQi Z res (wX7 Z Am m_thrown m_s m_saved m_savedMany m_aside m_sent m_text m_length m_way m_crossed m_wayCost m_isWay m_next m_start m_token m_number m_letters m_isWrong m_sums m_steps m_chosen m_passed m_passedMany m_passedCost m_reach) A) (by decide) rfl (Nat.le_of_ble_eq_true rfl) ?_
  intro p e s m args below meth c ls A E hw hl
  unfold fX7_areNodes at h
  refine r_aload_n E hl 0 rfl dX7_areNodes_0 rfl ?_
  refine r_iload_n E hl 1 rfl dX7_areNodes_1 rfl ?_
  obtain ⟨y1, hy1, h⟩ := bd_some h
  refine r_callVAi E hw (mX7_isNode l Z _ Am m_thrown m_s m_saved m_savedMany m_aside m_sent m_text m_length m_way m_crossed m_wayCost m_isWay m_next m_start m_token m_number m_letters m_isWrong m_sums m_steps m_chosen m_passed m_passedMany m_passedCost m_reach v1 hy1) kL_X7_125 kI_X7_isNode kS_X7_isNode kN_X7 kC_X7_isNode rfl rfl hdX7_isNode ⟨Nat.le_of_ble_eq_true rfl, Nat.le_of_ble_eq_true rfl⟩ 0 rfl rfl rfl rfl hl [] rfl (Nat.le_of_ble_eq_true rfl) dX7_areNodes_2 ⟨Nat.zero_le _, Nat.zero_le _⟩ (fun H locs hw => ?_)
  refine r_if_eq E 25 dX7_areNodes_5 (by decide) (fun hc => ?_) (fun hc => ?_)
  · replace h := ite_t hc h
    refine r_iconst E 0 dX7_areNodes_25 (by decide) ?_
    obtain rfl := Option.some.inj h
    exact r_zret E bz_0 hw dX7_areNodes_26
  · replace h := ite_f hc h
    refine r_aload_n E hl 0 rfl dX7_areNodes_8 rfl ?_
    refine r_iload_n E hl 2 rfl dX7_areNodes_9 rfl ?_
    obtain ⟨y2, hy2, h⟩ := bd_some h
    refine r_callVAi E hw (mX7_isNode l Z _ Am m_thrown m_s m_saved m_savedMany m_aside m_sent m_text m_length m_way m_crossed m_wayCost m_isWay m_next m_start m_token m_number m_letters m_isWrong m_sums m_steps m_chosen m_passed m_passedMany m_passedCost m_reach v2 hy2) kL_X7_125 kI_X7_isNode kS_X7_isNode kN_X7 kC_X7_isNode rfl rfl hdX7_isNode ⟨Nat.le_of_ble_eq_true rfl, Nat.le_of_ble_eq_true rfl⟩ 0 rfl rfl rfl rfl hl [] rfl (Nat.le_of_ble_eq_true rfl) dX7_areNodes_10 ⟨Nat.zero_le _, Nat.zero_le _⟩ (fun H locs hw => ?_)
    refine r_if_eq E 25 dX7_areNodes_13 (by decide) (fun hc => ?_) (fun hc => ?_)
    · replace h := ite_t hc h
      refine r_iconst E 0 dX7_areNodes_25 (by decide) ?_
      obtain rfl := Option.some.inj h
      exact r_zret E bz_0 hw dX7_areNodes_26
    · replace h := ite_f hc h
      refine r_iload_n E hl 1 rfl dX7_areNodes_16 rfl ?_
      refine r_iload_n E hl 2 rfl dX7_areNodes_17 rfl ?_
      refine r_icmp_eq E 25 dX7_areNodes_18 (by decide) (fun hc => ?_) (fun hc => ?_)
      · replace h := ite_t hc h
        refine r_iconst E 0 dX7_areNodes_25 (by decide) ?_
        obtain rfl := Option.some.inj h
        exact r_zret E bz_0 hw dX7_areNodes_26
      · replace h := ite_f hc h
        refine r_iconst E 1 dX7_areNodes_21 (by decide) ?_
        refine r_goto E 26 dX7_areNodes_22 (by decide) ?_
        obtain rfl := Option.some.inj h
        exact r_zret E bz_1 hw dX7_areNodes_26
abbrev rmX7_addLink : Room := { frames := 8, cells := 0, slots := 0, locals := 192 }

set_option maxRecDepth 100000 in
set_option maxHeartbeats 4000000 in
theorem mX7_addLink (l : Launch) (Z : zT) (sz : Nat) (Am : Nat → Nat) (m_thrown : Int32) (m_s : (Nat → Int32)) (m_saved : (Nat → Int32)) (m_savedMany : Int32) (m_aside : (Nat → Int32)) (m_sent : (Nat → Int32)) (m_text : (Nat → Int32)) (m_length : Int32) (m_way : (Nat → Int32)) (m_crossed : Int32) (m_wayCost : Int32) (m_isWay : Int32) (m_next : Int32) (m_start : Int32) (m_token : Int32) (m_number : Int32) (m_letters : Int64) (m_isWrong : Int32) (m_sums : (Nat → Int32)) (m_steps : (Nat → Int32)) (m_chosen : Int32) (m_passed : (Nat → Int32)) (m_passedMany : Int32) (m_passedCost : Int32) (m_reach : (Nat → Int32)) (v1 : Int32) (v2 : Int32) (v3 : Int32) (v4 : Int32) {res : Int32 × Int32 × (Nat → Int32) × (Nat → Int32) × Int32 × (Nat → Int32) × Int32} (h : fX7_addLink v1 v2 v3 v4 m_s m_saved m_savedMany m_aside m_isWay = some res) : Met l yX7_addLink (Cond.code yX7_addLink cX7_addLink 5 (some .int) :: zWs) rmX7_addLink (zP Z (wX7 Z Am m_thrown m_s m_saved m_savedMany m_aside m_sent m_text m_length m_way m_crossed m_wayCost m_isWay m_next m_start m_token m_number m_letters m_isWrong m_sums m_steps m_chosen m_passed m_passedMany m_passedCost m_reach) sz [.ref (Am 0), .int v1, .int v2, .int v3, .int v4]) (zQi Z res.1 (wX7 Z Am res.2.1 res.2.2.1 res.2.2.2.1 res.2.2.2.2.1 res.2.2.2.2.2.1 m_sent m_text m_length m_way m_crossed m_wayCost res.2.2.2.2.2.2 m_next m_start m_token m_number m_letters m_isWrong m_sums m_steps m_chosen m_passed m_passedMany m_passedCost m_reach) (va_A (wX7 Z Am m_thrown m_s m_saved m_savedMany m_aside m_sent m_text m_length m_way m_crossed m_wayCost m_isWay m_next m_start m_token m_number m_letters m_isWrong m_sums m_steps m_chosen m_passed m_passedMany m_passedCost m_reach) sz)) 0 0 (va_A (wX7 Z Am m_thrown m_s m_saved m_savedMany m_aside m_sent m_text m_length m_way m_crossed m_wayCost m_isWay m_next m_start m_token m_number m_letters m_isWrong m_sums m_steps m_chosen m_passed m_passedMany m_passedCost m_reach) sz) := by
  refine zMet (own := RX7) (fun A => zQi Z res.1 (wX7 Z Am res.2.1 res.2.2.1 res.2.2.2.1 res.2.2.2.2.1 res.2.2.2.2.2.1 m_sent m_text m_length m_way m_crossed m_wayCost res.2.2.2.2.2.2 m_next m_start m_token m_number m_letters m_isWrong m_sums m_steps m_chosen m_passed m_passedMany m_passedCost m_reach) A) (by decide) rfl (Nat.le_of_ble_eq_true rfl) ?_
  intro p e s m args below meth c ls A E hw hl
  unfold fX7_addLink at h
  refine r_aload_n E hl 0 rfl dX7_addLink_0 rfl ?_
  refine r_iconst E 0 dX7_addLink_1 (by decide) ?_
  refine r_put E (wX7 Z Am (0 : Int32) m_s m_saved m_savedMany m_aside m_sent m_text m_length m_way m_crossed m_wayCost m_isWay m_next m_start m_token m_number m_letters m_isWrong m_sums m_steps m_chosen m_passed m_passedMany m_passedCost m_reach) kW_X7 tyX7_ok nmX7 hw 0 rfl rfl 0 (by decide) kF_X7_40 rfl rfl rfl (Nat.le_of_ble_eq_true rfl) rfl dX7_addLink_2 (fun H locs hw => ?_)
  refine r_aload_n E hl 0 rfl dX7_addLink_5 rfl ?_
  refine r_iload_n E hl 1 rfl dX7_addLink_6 rfl ?_
  refine r_iload_n E hl 2 rfl dX7_addLink_7 rfl ?_
  obtain ⟨y1, hy1, h⟩ := bd_some h
  refine r_callVAi E hw (mX7_areNodes l Z _ Am (0 : Int32) m_s m_saved m_savedMany m_aside m_sent m_text m_length m_way m_crossed m_wayCost m_isWay m_next m_start m_token m_number m_letters m_isWrong m_sums m_steps m_chosen m_passed m_passedMany m_passedCost m_reach v1 v2 hy1) kL_X7_128 kI_X7_areNodes kS_X7_areNodes kN_X7 kC_X7_areNodes rfl rfl hdX7_areNodes ⟨Nat.le_of_ble_eq_true rfl, Nat.le_of_ble_eq_true rfl⟩ 0 rfl rfl rfl rfl hl [] rfl (Nat.le_of_ble_eq_true rfl) dX7_addLink_8 ⟨Nat.zero_le _, Nat.zero_le _⟩ (fun H locs hw => ?_)
  refine r_if_eq E 34 dX7_addLink_11 (by decide) (fun hc => ?_) (fun hc => ?_)
  · replace h := ite_t hc h
    refine r_iconst E (-1) dX7_addLink_34 (by decide) ?_
    obtain rfl := Option.some.inj h
    exact r_iret E hw dX7_addLink_35
  · replace h := ite_f hc h
    refine r_iload_n E hl 3 rfl dX7_addLink_14 rfl ?_
    refine r_iconst E 1 dX7_addLink_15 (by decide) ?_
    refine r_bipush E 20 dX7_addLink_16 (by decide) ?_
    obtain ⟨y2, hy2, h⟩ := bd_some h
    refine r_callS0i E hw (mX7_in l Z _ v3 (1 : Int32) (20 : Int32) hy2) kL_X7_58 kT_X7_in kN_X7 kC_X7_in rfl rfl hdX7_in ⟨Nat.le_of_ble_eq_true rfl, Nat.le_of_ble_eq_true rfl⟩ rfl hl [] rfl (Nat.le_of_ble_eq_true rfl) dX7_addLink_18 ⟨Nat.zero_le _, Nat.zero_le _⟩ (fun H locs hw => ?_)
    refine r_if_eq E 34 dX7_addLink_21 (by decide) (fun hc => ?_) (fun hc => ?_)
    · replace h := ite_t hc h
      refine r_iconst E (-1) dX7_addLink_34 (by decide) ?_
      obtain rfl := Option.some.inj h
      exact r_iret E hw dX7_addLink_35
    · replace h := ite_f hc h
      refine r_iload E hl 4 rfl dX7_addLink_24 ?_
      refine r_iconst E 0 dX7_addLink_26 (by decide) ?_
      refine r_iconst E 1 dX7_addLink_27 (by decide) ?_
      obtain ⟨y3, hy3, h⟩ := bd_some h
      refine r_callS0i E hw (mX7_in l Z _ v4 (0 : Int32) (1 : Int32) hy3) kL_X7_58 kT_X7_in kN_X7 kC_X7_in rfl rfl hdX7_in ⟨Nat.le_of_ble_eq_true rfl, Nat.le_of_ble_eq_true rfl⟩ rfl hl [] rfl (Nat.le_of_ble_eq_true rfl) dX7_addLink_28 ⟨Nat.zero_le _, Nat.zero_le _⟩ (fun H locs hw => ?_)
      refine r_if_ne E 36 dX7_addLink_31 (by decide) (fun hc => ?_) (fun hc => ?_)
      · replace h := ite_f hc h
        refine r_aload_n E hl 0 rfl dX7_addLink_36 rfl ?_
        refine r_get E kW_X7 hw 0 rfl rfl 1 (by decide) kF_X7_7 rfl dX7_addLink_37 ?_
        refine r_iconst E 1 dX7_addLink_40 (by decide) ?_
        obtain ⟨hg4, h⟩ := gd_some h
        refine r_iald E hw 1 rfl hg4 dX7_addLink_41 ?_
        refine r_bipush E 16 dX7_addLink_42 (by decide) ?_
        refine r_icmp_ne E 50 dX7_addLink_44 (by decide) (fun hc => ?_) (fun hc => ?_)
        · replace h := ite_f hc h
          refine r_aload_n E hl 0 rfl dX7_addLink_50 rfl ?_
          obtain ⟨y5, hy5, h⟩ := bd_some h
          refine r_callVAv E hw (mX7_act l Z _ Am (0 : Int32) m_s m_saved m_savedMany m_aside m_sent m_text m_length m_way m_crossed m_wayCost m_isWay m_next m_start m_token m_number m_letters m_isWrong m_sums m_steps m_chosen m_passed m_passedMany m_passedCost m_reach hy5) kL_X7_119 kI_X7_act kS_X7_act kN_X7 kC_X7_act rfl rfl hdX7_act ⟨Nat.le_of_ble_eq_true rfl, Nat.le_of_ble_eq_true rfl⟩ 0 rfl rfl rfl rfl hl [] rfl (Nat.le_of_ble_eq_true rfl) dX7_addLink_51 ⟨Nat.zero_le _, Nat.zero_le _⟩ (fun H locs hw => ?_)
          refine r_aload_n E hl 0 rfl dX7_addLink_54 rfl ?_
          refine r_iload_n E hl 1 rfl dX7_addLink_55 rfl ?_
          refine r_iload_n E hl 2 rfl dX7_addLink_56 rfl ?_
          refine r_iload_n E hl 3 rfl dX7_addLink_57 rfl ?_
          refine r_iload E hl 4 rfl dX7_addLink_58 ?_
          obtain ⟨y6, hy6, h⟩ := bd_some h
          refine r_callVAi E hw (mX7_makeLink l Z _ Am (0 : Int32) m_s y5.1 y5.2.1 y5.2.2.1 m_sent m_text m_length m_way m_crossed m_wayCost y5.2.2.2 m_next m_start m_token m_number m_letters m_isWrong m_sums m_steps m_chosen m_passed m_passedMany m_passedCost m_reach v1 v2 v3 v4 hy6) kL_X7_131 kI_X7_makeLink kS_X7_makeLink kN_X7 kC_X7_makeLink rfl rfl hdX7_makeLink ⟨Nat.le_of_ble_eq_true rfl, Nat.le_of_ble_eq_true rfl⟩ 0 rfl rfl rfl rfl hl [] rfl (Nat.le_of_ble_eq_true rfl) dX7_addLink_60 ⟨Nat.zero_le _, Nat.zero_le _⟩ (fun H locs hw => ?_)
          obtain rfl := Option.some.inj h
          exact r_iret E hw dX7_addLink_63
        · replace h := ite_t hc h
          refine r_bipush E (-3) dX7_addLink_47 (by decide) ?_
          obtain rfl := Option.some.inj h
          exact r_iret E hw dX7_addLink_49
      · replace h := ite_t hc h
        refine r_iconst E (-1) dX7_addLink_34 (by decide) ?_
        obtain rfl := Option.some.inj h
        exact r_iret E hw dX7_addLink_35
abbrev rmX7_setLink : Room := { frames := 7, cells := 0, slots := 0, locals := 166 }

set_option maxRecDepth 100000 in
set_option maxHeartbeats 4000000 in
theorem vX7_setLink_124 {Z : zT} {p : Program} {l : Launch} {e : Env} {s : State} {m : MethodId} {args : Array Value} {below : List Frame} {meth : Method} {c : Code} {A : Nat → Prop} (E : zE Z p s m args meth c RX7 cX7_setLink 6 (some .int) A) {Am : Nat → Nat} {v1 : Int32} {k1 : Int32} {k2 : Int32} {m_thrown : Int32} {m_s : (Nat → Int32)} {m_saved : (Nat → Int32)} {m_savedMany : Int32} {m_aside : (Nat → Int32)} {m_sent : (Nat → Int32)} {m_text : (Nat → Int32)} {m_length : Int32} {m_way : (Nat → Int32)} {m_crossed : Int32} {m_wayCost : Int32} {m_isWay : Int32} {m_next : Int32} {m_start : Int32} {m_token : Int32} {m_number : Int32} {m_letters : Int64} {m_isWrong : Int32} {m_sums : (Nat → Int32)} {m_steps : (Nat → Int32)} {m_chosen : Int32} {m_passed : (Nat → Int32)} {m_passedMany : Int32} {m_passedCost : Int32} {m_reach : (Nat → Int32)} {res : Int32 × Int32 × (Nat → Int32) × (Nat → Int32) × Int32 × (Nat → Int32) × Int32}  {H : Heap} {locs : List Loc} {ls : Array Slot} (hw : zW Z A (wX7 Z Am m_thrown m_s m_saved m_savedMany m_aside m_sent m_text m_length m_way m_crossed m_wayCost m_isWay m_next m_start m_token m_number m_letters m_isWrong m_sums m_steps m_chosen m_passed m_passedMany m_passedCost m_reach) s.heap H locs) (hl : lv_has ls 6 [(0, .ref (Am 0)), (1, .int v1)]) (h : uX7_setLink_124 v1 k1 k2 m_thrown m_s m_saved m_savedMany m_aside m_isWay = some res) : W p l e rmX7_setLink s m args below meth c H locs 0 0 (MQ below (zQi Z res.1 (wX7 Z Am res.2.1 res.2.2.1 res.2.2.2.1 res.2.2.2.2.1 res.2.2.2.2.2.1 m_sent m_text m_length m_way m_crossed m_wayCost res.2.2.2.2.2.2 m_next m_start m_token m_number m_letters m_isWrong m_sums m_steps m_chosen m_passed m_passedMany m_passedCost m_reach) A) args s 0 0 A) (F0 m 124 ls [.int k2, .int k1, .ref (Am 0)]) := by
  unfold uX7_setLink_124 at h
  obtain ⟨y11, hy11, h⟩ := bd_some h
  refine r_callVAv E hw (mX7_changeLink l Z _ Am m_thrown m_s m_saved m_savedMany m_aside m_sent m_text m_length m_way m_crossed m_wayCost m_isWay m_next m_start m_token m_number m_letters m_isWrong m_sums m_steps m_chosen m_passed m_passedMany m_passedCost m_reach k1 k2 hy11) kL_X7_109 kI_X7_changeLink kS_X7_changeLink kN_X7 kC_X7_changeLink rfl rfl hdX7_changeLink ⟨Nat.le_of_ble_eq_true rfl, Nat.le_of_ble_eq_true rfl⟩ 0 rfl rfl rfl rfl hl [] rfl (Nat.le_of_ble_eq_true rfl) dX7_setLink_124 ⟨Nat.zero_le _, Nat.zero_le _⟩ (fun H locs hw => ?_)
  refine r_aload_n E hl 0 rfl dX7_setLink_127 rfl ?_
  refine r_iload_n E hl 1 rfl dX7_setLink_128 rfl ?_
  refine r_iconst E 5 dX7_setLink_129 (by decide) ?_
  obtain ⟨y12, hy12, h⟩ := bd_some h
  refine r_callVAi E hw (mX7_linkPart l Z _ Am m_thrown y11 m_saved m_savedMany m_aside m_sent m_text m_length m_way m_crossed m_wayCost m_isWay m_next m_start m_token m_number m_letters m_isWrong m_sums m_steps m_chosen m_passed m_passedMany m_passedCost m_reach v1 (5 : Int32) hy12) kL_X7_62 kI_X7_linkPart kS_X7_linkPart kN_X7 kC_X7_linkPart rfl rfl hdX7_linkPart ⟨Nat.le_of_ble_eq_true rfl, Nat.le_of_ble_eq_true rfl⟩ 0 rfl rfl rfl rfl hl [] rfl (Nat.le_of_ble_eq_true rfl) dX7_setLink_130 ⟨Nat.zero_le _, Nat.zero_le _⟩ (fun H locs hw => ?_)
  obtain rfl := Option.some.inj h
  exact r_iret E hw dX7_setLink_133
set_option maxRecDepth 100000 in
set_option maxHeartbeats 4000000 in
theorem vX7_setLink_123 {Z : zT} {p : Program} {l : Launch} {e : Env} {s : State} {m : MethodId} {args : Array Value} {below : List Frame} {meth : Method} {c : Code} {A : Nat → Prop} (E : zE Z p s m args meth c RX7 cX7_setLink 6 (some .int) A) {Am : Nat → Nat} {v1 : Int32} {k1 : Int32} {m_thrown : Int32} {m_s : (Nat → Int32)} {m_saved : (Nat → Int32)} {m_savedMany : Int32} {m_aside : (Nat → Int32)} {m_sent : (Nat → Int32)} {m_text : (Nat → Int32)} {m_length : Int32} {m_way : (Nat → Int32)} {m_crossed : Int32} {m_wayCost : Int32} {m_isWay : Int32} {m_next : Int32} {m_start : Int32} {m_token : Int32} {m_number : Int32} {m_letters : Int64} {m_isWrong : Int32} {m_sums : (Nat → Int32)} {m_steps : (Nat → Int32)} {m_chosen : Int32} {m_passed : (Nat → Int32)} {m_passedMany : Int32} {m_passedCost : Int32} {m_reach : (Nat → Int32)} {res : Int32 × Int32 × (Nat → Int32) × (Nat → Int32) × Int32 × (Nat → Int32) × Int32}  {H : Heap} {locs : List Loc} {ls : Array Slot} (hw : zW Z A (wX7 Z Am m_thrown m_s m_saved m_savedMany m_aside m_sent m_text m_length m_way m_crossed m_wayCost m_isWay m_next m_start m_token m_number m_letters m_isWrong m_sums m_steps m_chosen m_passed m_passedMany m_passedCost m_reach) s.heap H locs) (hl : lv_has ls 6 [(0, .ref (Am 0)), (1, .int v1)]) (h : uX7_setLink_123 v1 k1 m_thrown m_s m_saved m_savedMany m_aside m_isWay = some res) : W p l e rmX7_setLink s m args below meth c H locs 0 0 (MQ below (zQi Z res.1 (wX7 Z Am res.2.1 res.2.2.1 res.2.2.2.1 res.2.2.2.2.1 res.2.2.2.2.2.1 m_sent m_text m_length m_way m_crossed m_wayCost res.2.2.2.2.2.2 m_next m_start m_token m_number m_letters m_isWrong m_sums m_steps m_chosen m_passed m_passedMany m_passedCost m_reach) A) args s 0 0 A) (F0 m 123 ls [.int k1, .ref (Am 0)]) := by
  unfold uX7_setLink_123 at h
  refine r_iconst E 0 dX7_setLink_123 (by decide) ?_
  exact vX7_setLink_124 E  hw hl h
set_option maxRecDepth 100000 in
set_option maxHeartbeats 4000000 in
theorem vX7_setLink_61 {Z : zT} {p : Program} {l : Launch} {e : Env} {s : State} {m : MethodId} {args : Array Value} {below : List Frame} {meth : Method} {c : Code} {A : Nat → Prop} (E : zE Z p s m args meth c RX7 cX7_setLink 6 (some .int) A) {Am : Nat → Nat} {v1 : Int32} {v2 : Int32} {v3 : Int32} {v4 : Int32} {m_thrown : Int32} {m_s : (Nat → Int32)} {m_saved : (Nat → Int32)} {m_savedMany : Int32} {m_aside : (Nat → Int32)} {m_sent : (Nat → Int32)} {m_text : (Nat → Int32)} {m_length : Int32} {m_way : (Nat → Int32)} {m_crossed : Int32} {m_wayCost : Int32} {m_isWay : Int32} {m_next : Int32} {m_start : Int32} {m_token : Int32} {m_number : Int32} {m_letters : Int64} {m_isWrong : Int32} {m_sums : (Nat → Int32)} {m_steps : (Nat → Int32)} {m_chosen : Int32} {m_passed : (Nat → Int32)} {m_passedMany : Int32} {m_passedCost : Int32} {m_reach : (Nat → Int32)} {res : Int32 × Int32 × (Nat → Int32) × (Nat → Int32) × Int32 × (Nat → Int32) × Int32}  {H : Heap} {locs : List Loc} {ls : Array Slot} (hw : zW Z A (wX7 Z Am m_thrown m_s m_saved m_savedMany m_aside m_sent m_text m_length m_way m_crossed m_wayCost m_isWay m_next m_start m_token m_number m_letters m_isWrong m_sums m_steps m_chosen m_passed m_passedMany m_passedCost m_reach) s.heap H locs) (hl : lv_has ls 6 [(0, .ref (Am 0)), (1, .int v1), (2, .int v2), (3, .int v3), (4, .int v4)]) (h : uX7_setLink_61 v1 v2 v3 v4 m_thrown m_s m_saved m_savedMany m_aside = some res) : W p l e rmX7_setLink s m args below meth c H locs 0 0 (MQ below (zQi Z res.1 (wX7 Z Am res.2.1 res.2.2.1 res.2.2.2.1 res.2.2.2.2.1 res.2.2.2.2.2.1 m_sent m_text m_length m_way m_crossed m_wayCost res.2.2.2.2.2.2 m_next m_start m_token m_number m_letters m_isWrong m_sums m_steps m_chosen m_passed m_passedMany m_passedCost m_reach) A) args s 0 0 A) (F0 m 61 ls []) := by
  unfold uX7_setLink_61 at h
  refine r_aload_n E hl 0 rfl dX7_setLink_61 rfl ?_
  obtain ⟨y5, hy5, h⟩ := bd_some h
  refine r_callVAv E hw (mX7_act l Z _ Am m_thrown m_s m_saved m_savedMany m_aside m_sent m_text m_length m_way m_crossed m_wayCost m_isWay m_next m_start m_token m_number m_letters m_isWrong m_sums m_steps m_chosen m_passed m_passedMany m_passedCost m_reach hy5) kL_X7_119 kI_X7_act kS_X7_act kN_X7 kC_X7_act rfl rfl hdX7_act ⟨Nat.le_of_ble_eq_true rfl, Nat.le_of_ble_eq_true rfl⟩ 0 rfl rfl rfl rfl hl [] rfl (Nat.le_of_ble_eq_true rfl) dX7_setLink_62 ⟨Nat.zero_le _, Nat.zero_le _⟩ (fun H locs hw => ?_)
  refine r_bipush E 46 dX7_setLink_65 (by decide) ?_
  refine r_bipush E 6 dX7_setLink_67 (by decide) ?_
  refine r_iload_n E hl 1 rfl dX7_setLink_69 rfl ?_
  refine r_imul E dX7_setLink_70 ?_
  refine r_iadd E dX7_setLink_71 ?_
  obtain ⟨w6, hw6, h⟩ := nm_out h
  refine r_nm hw6 ?_
  refine r_istore E [(5, .int w6), (0, .ref (Am 0)), (1, .int v1), (2, .int v2), (3, .int v3), (4, .int v4)] hl dX7_setLink_72 (by decide) rfl (fun ls hl => ?_)
  refine r_aload_n E hl 1 rfl dX7_setLink_74 rfl ?_
  refine r_get E kW_X7 hw 0 rfl rfl 1 (by decide) kF_X7_7 rfl dX7_setLink_75 ?_
  refine r_iload E hl 0 rfl dX7_setLink_78 ?_
  refine r_iconst E 3 dX7_setLink_80 (by decide) ?_
  refine r_iadd E dX7_setLink_81 ?_
  refine r_iload_n E hl 3 rfl dX7_setLink_82 rfl ?_
  obtain ⟨hg7, h⟩ := gd_some h
  refine r_iast E (wX7 Z Am m_thrown (upd m_s (w6 + (3 : Int32)).toNatClampNeg v2) y5.1 y5.2.1 y5.2.2.1 m_sent m_text m_length m_way m_crossed m_wayCost y5.2.2.2 m_next m_start m_token m_number m_letters m_isWrong m_sums m_steps m_chosen m_passed m_passedMany m_passedCost m_reach) hw 1 rfl hg7 rfl dX7_setLink_83 (fun H locs hw => ?_)
  refine r_aload_n E hl 1 rfl dX7_setLink_84 rfl ?_
  refine r_get E kW_X7 hw 0 rfl rfl 1 (by decide) kF_X7_7 rfl dX7_setLink_85 ?_
  refine r_iload E hl 0 rfl dX7_setLink_88 ?_
  refine r_iconst E 2 dX7_setLink_90 (by decide) ?_
  refine r_iadd E dX7_setLink_91 ?_
  refine r_iload_n E hl 4 rfl dX7_setLink_92 rfl ?_
  obtain ⟨hg8, h⟩ := gd_some h
  refine r_iast E (wX7 Z Am m_thrown (upd (upd m_s (w6 + (3 : Int32)).toNatClampNeg v2) (w6 + (2 : Int32)).toNatClampNeg v3) y5.1 y5.2.1 y5.2.2.1 m_sent m_text m_length m_way m_crossed m_wayCost y5.2.2.2 m_next m_start m_token m_number m_letters m_isWrong m_sums m_steps m_chosen m_passed m_passedMany m_passedCost m_reach) hw 1 rfl hg8 rfl dX7_setLink_93 (fun H locs hw => ?_)
  refine r_aload_n E hl 1 rfl dX7_setLink_94 rfl ?_
  refine r_get E kW_X7 hw 0 rfl rfl 1 (by decide) kF_X7_7 rfl dX7_setLink_95 ?_
  refine r_iload E hl 0 rfl dX7_setLink_98 ?_
  refine r_iconst E 5 dX7_setLink_100 (by decide) ?_
  refine r_iadd E dX7_setLink_101 ?_
  refine r_dup2 E dX7_setLink_102 rfl rfl ?_
  obtain ⟨hg9, h⟩ := gd_some h
  refine r_iald E hw 1 rfl hg9 dX7_setLink_103 ?_
  refine r_iconst E 1 dX7_setLink_104 (by decide) ?_
  refine r_iadd E dX7_setLink_105 ?_
  obtain ⟨hg10, h⟩ := gd_some h
  refine r_iast E (wX7 Z Am m_thrown (upd (upd (upd m_s (w6 + (3 : Int32)).toNatClampNeg v2) (w6 + (2 : Int32)).toNatClampNeg v3) (w6 + (5 : Int32)).toNatClampNeg (((upd (upd m_s (w6 + (3 : Int32)).toNatClampNeg v2) (w6 + (2 : Int32)).toNatClampNeg v3) (w6 + (5 : Int32)).toNatClampNeg) + (1 : Int32))) y5.1 y5.2.1 y5.2.2.1 m_sent m_text m_length m_way m_crossed m_wayCost y5.2.2.2 m_next m_start m_token m_number m_letters m_isWrong m_sums m_steps m_chosen m_passed m_passedMany m_passedCost m_reach) hw 1 rfl hg10 rfl dX7_setLink_106 (fun H locs hw => ?_)
  refine r_aload_n E hl 1 rfl dX7_setLink_107 rfl ?_
  refine r_iload_n E hl 2 rfl dX7_setLink_108 rfl ?_
  refine r_iload E hl 5 rfl dX7_setLink_109 ?_
  refine r_if_ne E 123 dX7_setLink_111 (by decide) (fun hc => ?_) (fun hc => ?_)
  · replace h := ite_f hc h
    exact vX7_setLink_123 E  hw (lv_sub hl [1, 2] rfl) h
  · replace h := ite_t hc h
    refine r_iload_n E hl 3 rfl dX7_setLink_114 rfl ?_
    refine r_iconst E 1 dX7_setLink_115 (by decide) ?_
    refine r_icmp_ne E 123 dX7_setLink_116 (by decide) (fun hc => ?_) (fun hc => ?_)
    · replace h := ite_f hc h
      exact vX7_setLink_123 E  hw (lv_sub hl [1, 2] rfl) h
    · replace h := ite_t hc h
      refine r_iconst E 1 dX7_setLink_119 (by decide) ?_
      refine r_goto E 124 dX7_setLink_120 (by decide) ?_
      exact vX7_setLink_124 E  hw (lv_sub hl [1, 2] rfl) h
set_option maxRecDepth 100000 in
set_option maxHeartbeats 4000000 in
theorem mX7_setLink (l : Launch) (Z : zT) (sz : Nat) (Am : Nat → Nat) (m_thrown : Int32) (m_s : (Nat → Int32)) (m_saved : (Nat → Int32)) (m_savedMany : Int32) (m_aside : (Nat → Int32)) (m_sent : (Nat → Int32)) (m_text : (Nat → Int32)) (m_length : Int32) (m_way : (Nat → Int32)) (m_crossed : Int32) (m_wayCost : Int32) (m_isWay : Int32) (m_next : Int32) (m_start : Int32) (m_token : Int32) (m_number : Int32) (m_letters : Int64) (m_isWrong : Int32) (m_sums : (Nat → Int32)) (m_steps : (Nat → Int32)) (m_chosen : Int32) (m_passed : (Nat → Int32)) (m_passedMany : Int32) (m_passedCost : Int32) (m_reach : (Nat → Int32)) (v1 : Int32) (v2 : Int32) (v3 : Int32) {res : Int32 × Int32 × (Nat → Int32) × (Nat → Int32) × Int32 × (Nat → Int32) × Int32} (h : fX7_setLink v1 v2 v3 m_s m_saved m_savedMany m_aside m_isWay = some res) : Met l yX7_setLink (Cond.code yX7_setLink cX7_setLink 6 (some .int) :: zWs) rmX7_setLink (zP Z (wX7 Z Am m_thrown m_s m_saved m_savedMany m_aside m_sent m_text m_length m_way m_crossed m_wayCost m_isWay m_next m_start m_token m_number m_letters m_isWrong m_sums m_steps m_chosen m_passed m_passedMany m_passedCost m_reach) sz [.ref (Am 0), .int v1, .int v2, .int v3]) (zQi Z res.1 (wX7 Z Am res.2.1 res.2.2.1 res.2.2.2.1 res.2.2.2.2.1 res.2.2.2.2.2.1 m_sent m_text m_length m_way m_crossed m_wayCost res.2.2.2.2.2.2 m_next m_start m_token m_number m_letters m_isWrong m_sums m_steps m_chosen m_passed m_passedMany m_passedCost m_reach) (va_A (wX7 Z Am m_thrown m_s m_saved m_savedMany m_aside m_sent m_text m_length m_way m_crossed m_wayCost m_isWay m_next m_start m_token m_number m_letters m_isWrong m_sums m_steps m_chosen m_passed m_passedMany m_passedCost m_reach) sz)) 0 0 (va_A (wX7 Z Am m_thrown m_s m_saved m_savedMany m_aside m_sent m_text m_length m_way m_crossed m_wayCost m_isWay m_next m_start m_token m_number m_letters m_isWrong m_sums m_steps m_chosen m_passed m_passedMany m_passedCost m_reach) sz) := by
  refine zMet (own := RX7) (fun A => zQi Z res.1 (wX7 Z Am res.2.1 res.2.2.1 res.2.2.2.1 res.2.2.2.2.1 res.2.2.2.2.2.1 m_sent m_text m_length m_way m_crossed m_wayCost res.2.2.2.2.2.2 m_next m_start m_token m_number m_letters m_isWrong m_sums m_steps m_chosen m_passed m_passedMany m_passedCost m_reach) A) (by decide) rfl (Nat.le_of_ble_eq_true rfl) ?_
  intro p e s m args below meth c ls A E hw hl
  unfold fX7_setLink at h
  refine r_aload_n E hl 0 rfl dX7_setLink_0 rfl ?_
  refine r_iconst E 0 dX7_setLink_1 (by decide) ?_
  refine r_put E (wX7 Z Am (0 : Int32) m_s m_saved m_savedMany m_aside m_sent m_text m_length m_way m_crossed m_wayCost m_isWay m_next m_start m_token m_number m_letters m_isWrong m_sums m_steps m_chosen m_passed m_passedMany m_passedCost m_reach) kW_X7 tyX7_ok nmX7 hw 0 rfl rfl 0 (by decide) kF_X7_40 rfl rfl rfl (Nat.le_of_ble_eq_true rfl) rfl dX7_setLink_2 (fun H locs hw => ?_)
  refine r_aload_n E hl 0 rfl dX7_setLink_5 rfl ?_
  refine r_iload_n E hl 1 rfl dX7_setLink_6 rfl ?_
  obtain ⟨y1, hy1, h⟩ := bd_some h
  refine r_callVAi E hw (mX7_isLink l Z _ Am (0 : Int32) m_s m_saved m_savedMany m_aside m_sent m_text m_length m_way m_crossed m_wayCost m_isWay m_next m_start m_token m_number m_letters m_isWrong m_sums m_steps m_chosen m_passed m_passedMany m_passedCost m_reach v1 hy1) kL_X7_135 kI_X7_isLink kS_X7_isLink kN_X7 kC_X7_isLink rfl rfl hdX7_isLink ⟨Nat.le_of_ble_eq_true rfl, Nat.le_of_ble_eq_true rfl⟩ 0 rfl rfl rfl rfl hl [] rfl (Nat.le_of_ble_eq_true rfl) dX7_setLink_7 ⟨Nat.zero_le _, Nat.zero_le _⟩ (fun H locs hw => ?_)
  refine r_if_eq E 32 dX7_setLink_10 (by decide) (fun hc => ?_) (fun hc => ?_)
  · replace h := ite_t hc h
    refine r_iconst E (-1) dX7_setLink_32 (by decide) ?_
    obtain rfl := Option.some.inj h
    exact r_iret E hw dX7_setLink_33
  · replace h := ite_f hc h
    refine r_iload_n E hl 2 rfl dX7_setLink_13 rfl ?_
    refine r_iconst E 0 dX7_setLink_14 (by decide) ?_
    refine r_iconst E 1 dX7_setLink_15 (by decide) ?_
    obtain ⟨y2, hy2, h⟩ := bd_some h
    refine r_callS0i E hw (mX7_in l Z _ v2 (0 : Int32) (1 : Int32) hy2) kL_X7_58 kT_X7_in kN_X7 kC_X7_in rfl rfl hdX7_in ⟨Nat.le_of_ble_eq_true rfl, Nat.le_of_ble_eq_true rfl⟩ rfl hl [] rfl (Nat.le_of_ble_eq_true rfl) dX7_setLink_16 ⟨Nat.zero_le _, Nat.zero_le _⟩ (fun H locs hw => ?_)
    refine r_if_eq E 32 dX7_setLink_19 (by decide) (fun hc => ?_) (fun hc => ?_)
    · replace h := ite_t hc h
      refine r_iconst E (-1) dX7_setLink_32 (by decide) ?_
      obtain rfl := Option.some.inj h
      exact r_iret E hw dX7_setLink_33
    · replace h := ite_f hc h
      refine r_iload_n E hl 3 rfl dX7_setLink_22 rfl ?_
      refine r_iconst E 1 dX7_setLink_23 (by decide) ?_
      refine r_bipush E 20 dX7_setLink_24 (by decide) ?_
      obtain ⟨y3, hy3, h⟩ := bd_some h
      refine r_callS0i E hw (mX7_in l Z _ v3 (1 : Int32) (20 : Int32) hy3) kL_X7_58 kT_X7_in kN_X7 kC_X7_in rfl rfl hdX7_in ⟨Nat.le_of_ble_eq_true rfl, Nat.le_of_ble_eq_true rfl⟩ rfl hl [] rfl (Nat.le_of_ble_eq_true rfl) dX7_setLink_26 ⟨Nat.zero_le _, Nat.zero_le _⟩ (fun H locs hw => ?_)
      refine r_if_ne E 34 dX7_setLink_29 (by decide) (fun hc => ?_) (fun hc => ?_)
      · replace h := ite_f hc h
        refine r_aload_n E hl 0 rfl dX7_setLink_34 rfl ?_
        refine r_iload_n E hl 1 rfl dX7_setLink_35 rfl ?_
        refine r_iconst E 3 dX7_setLink_36 (by decide) ?_
        obtain ⟨y4, hy4, h⟩ := bd_some h
        refine r_callVAi E hw (mX7_linkPart l Z _ Am (0 : Int32) m_s m_saved m_savedMany m_aside m_sent m_text m_length m_way m_crossed m_wayCost m_isWay m_next m_start m_token m_number m_letters m_isWrong m_sums m_steps m_chosen m_passed m_passedMany m_passedCost m_reach v1 (3 : Int32) hy4) kL_X7_62 kI_X7_linkPart kS_X7_linkPart kN_X7 kC_X7_linkPart rfl rfl hdX7_linkPart ⟨Nat.le_of_ble_eq_true rfl, Nat.le_of_ble_eq_true rfl⟩ 0 rfl rfl rfl rfl hl [] rfl (Nat.le_of_ble_eq_true rfl) dX7_setLink_37 ⟨Nat.zero_le _, Nat.zero_le _⟩ (fun H locs hw => ?_)
        refine r_istore E [(4, .int y4), (0, .ref (Am 0)), (1, .int v1), (2, .int v2), (3, .int v3)] hl dX7_setLink_40 (by decide) rfl (fun ls hl => ?_)
        refine r_iload E hl 0 rfl dX7_setLink_42 ?_
        refine r_iload_n E hl 3 rfl dX7_setLink_44 rfl ?_
        refine r_icmp_ne E 61 dX7_setLink_45 (by decide) (fun hc => ?_) (fun hc => ?_)
        · replace h := ite_f hc h
          exact vX7_setLink_61 E  hw (lv_sub hl [1, 2, 3, 4, 0] rfl) h
        · replace h := ite_t hc h
          refine r_aload_n E hl 1 rfl dX7_setLink_48 rfl ?_
          refine r_iload_n E hl 2 rfl dX7_setLink_49 rfl ?_
          refine r_iconst E 2 dX7_setLink_50 (by decide) ?_
          obtain ⟨y13, hy13, h⟩ := bd_some h
          refine r_callVAi E hw (mX7_linkPart l Z _ Am (0 : Int32) m_s m_saved m_savedMany m_aside m_sent m_text m_length m_way m_crossed m_wayCost m_isWay m_next m_start m_token m_number m_letters m_isWrong m_sums m_steps m_chosen m_passed m_passedMany m_passedCost m_reach v1 (2 : Int32) hy13) kL_X7_62 kI_X7_linkPart kS_X7_linkPart kN_X7 kC_X7_linkPart rfl rfl hdX7_linkPart ⟨Nat.le_of_ble_eq_true rfl, Nat.le_of_ble_eq_true rfl⟩ 0 rfl rfl rfl rfl hl [] rfl (Nat.le_of_ble_eq_true rfl) dX7_setLink_51 ⟨Nat.zero_le _, Nat.zero_le _⟩ (fun H locs hw => ?_)
          refine r_iload_n E hl 4 rfl dX7_setLink_54 rfl ?_
          refine r_icmp_ne E 61 dX7_setLink_55 (by decide) (fun hc => ?_) (fun hc => ?_)
          · replace h := ite_f hc h
            exact vX7_setLink_61 E  hw (lv_sub hl [1, 2, 3, 4, 0] rfl) h
          · replace h := ite_t hc h
            refine r_bipush E (-2) dX7_setLink_58 (by decide) ?_
            obtain rfl := Option.some.inj h
            exact r_iret E hw dX7_setLink_60
      · replace h := ite_t hc h
        refine r_iconst E (-1) dX7_setLink_32 (by decide) ?_
        obtain rfl := Option.some.inj h
        exact r_iret E hw dX7_setLink_33
abbrev rmX7_setGrant : Room := { frames := 6, cells := 0, slots := 0, locals := 145 }

set_option maxRecDepth 100000 in
set_option maxHeartbeats 4000000 in
theorem mX7_setGrant (l : Launch) (Z : zT) (sz : Nat) (Am : Nat → Nat) (m_thrown : Int32) (m_s : (Nat → Int32)) (m_saved : (Nat → Int32)) (m_savedMany : Int32) (m_aside : (Nat → Int32)) (m_sent : (Nat → Int32)) (m_text : (Nat → Int32)) (m_length : Int32) (m_way : (Nat → Int32)) (m_crossed : Int32) (m_wayCost : Int32) (m_isWay : Int32) (m_next : Int32) (m_start : Int32) (m_token : Int32) (m_number : Int32) (m_letters : Int64) (m_isWrong : Int32) (m_sums : (Nat → Int32)) (m_steps : (Nat → Int32)) (m_chosen : Int32) (m_passed : (Nat → Int32)) (m_passedMany : Int32) (m_passedCost : Int32) (m_reach : (Nat → Int32)) (v1 : Int32) (v2 : Int32) (v3 : Int32) {res : Int32 × Int32 × (Nat → Int32) × (Nat → Int32) × Int32 × (Nat → Int32) × Int32} (h : fX7_setGrant v1 v2 v3 m_s m_saved m_savedMany m_aside m_isWay = some res) : Met l yX7_setGrant (Cond.code yX7_setGrant cX7_setGrant 4 (some .int) :: zWs) rmX7_setGrant (zP Z (wX7 Z Am m_thrown m_s m_saved m_savedMany m_aside m_sent m_text m_length m_way m_crossed m_wayCost m_isWay m_next m_start m_token m_number m_letters m_isWrong m_sums m_steps m_chosen m_passed m_passedMany m_passedCost m_reach) sz [.ref (Am 0), .int v1, .int v2, .int v3]) (zQi Z res.1 (wX7 Z Am res.2.1 res.2.2.1 res.2.2.2.1 res.2.2.2.2.1 res.2.2.2.2.2.1 m_sent m_text m_length m_way m_crossed m_wayCost res.2.2.2.2.2.2 m_next m_start m_token m_number m_letters m_isWrong m_sums m_steps m_chosen m_passed m_passedMany m_passedCost m_reach) (va_A (wX7 Z Am m_thrown m_s m_saved m_savedMany m_aside m_sent m_text m_length m_way m_crossed m_wayCost m_isWay m_next m_start m_token m_number m_letters m_isWrong m_sums m_steps m_chosen m_passed m_passedMany m_passedCost m_reach) sz)) 0 0 (va_A (wX7 Z Am m_thrown m_s m_saved m_savedMany m_aside m_sent m_text m_length m_way m_crossed m_wayCost m_isWay m_next m_start m_token m_number m_letters m_isWrong m_sums m_steps m_chosen m_passed m_passedMany m_passedCost m_reach) sz) := by
  refine zMet (own := RX7) (fun A => zQi Z res.1 (wX7 Z Am res.2.1 res.2.2.1 res.2.2.2.1 res.2.2.2.2.1 res.2.2.2.2.2.1 m_sent m_text m_length m_way m_crossed m_wayCost res.2.2.2.2.2.2 m_next m_start m_token m_number m_letters m_isWrong m_sums m_steps m_chosen m_passed m_passedMany m_passedCost m_reach) A) (by decide) rfl (Nat.le_of_ble_eq_true rfl) ?_
  intro p e s m args below meth c ls A E hw hl
  unfold fX7_setGrant at h
  refine r_aload_n E hl 0 rfl dX7_setGrant_0 rfl ?_
  refine r_iconst E 0 dX7_setGrant_1 (by decide) ?_
  refine r_put E (wX7 Z Am (0 : Int32) m_s m_saved m_savedMany m_aside m_sent m_text m_length m_way m_crossed m_wayCost m_isWay m_next m_start m_token m_number m_letters m_isWrong m_sums m_steps m_chosen m_passed m_passedMany m_passedCost m_reach) kW_X7 tyX7_ok nmX7 hw 0 rfl rfl 0 (by decide) kF_X7_40 rfl rfl rfl (Nat.le_of_ble_eq_true rfl) rfl dX7_setGrant_2 (fun H locs hw => ?_)
  refine r_iload_n E hl 1 rfl dX7_setGrant_5 rfl ?_
  refine r_iload_n E hl 2 rfl dX7_setGrant_6 rfl ?_
  obtain ⟨y1, hy1, h⟩ := bd_some h
  refine r_callS0i E hw (mX7_areAreas l Z _ v1 v2 hy1) kL_X7_138 kT_X7_areAreas kN_X7 kC_X7_areAreas rfl rfl hdX7_areAreas ⟨Nat.le_of_ble_eq_true rfl, Nat.le_of_ble_eq_true rfl⟩ rfl hl [] rfl (Nat.le_of_ble_eq_true rfl) dX7_setGrant_7 ⟨Nat.zero_le _, Nat.zero_le _⟩ (fun H locs hw => ?_)
  refine r_if_eq E 22 dX7_setGrant_10 (by decide) (fun hc => ?_) (fun hc => ?_)
  · replace h := ite_t hc h
    refine r_iconst E (-1) dX7_setGrant_22 (by decide) ?_
    obtain rfl := Option.some.inj h
    exact r_iret E hw dX7_setGrant_23
  · replace h := ite_f hc h
    refine r_iload_n E hl 3 rfl dX7_setGrant_13 rfl ?_
    refine r_iconst E 0 dX7_setGrant_14 (by decide) ?_
    refine r_iconst E 1 dX7_setGrant_15 (by decide) ?_
    obtain ⟨y2, hy2, h⟩ := bd_some h
    refine r_callS0i E hw (mX7_in l Z _ v3 (0 : Int32) (1 : Int32) hy2) kL_X7_58 kT_X7_in kN_X7 kC_X7_in rfl rfl hdX7_in ⟨Nat.le_of_ble_eq_true rfl, Nat.le_of_ble_eq_true rfl⟩ rfl hl [] rfl (Nat.le_of_ble_eq_true rfl) dX7_setGrant_16 ⟨Nat.zero_le _, Nat.zero_le _⟩ (fun H locs hw => ?_)
    refine r_if_ne E 24 dX7_setGrant_19 (by decide) (fun hc => ?_) (fun hc => ?_)
    · replace h := ite_f hc h
      refine r_aload_n E hl 0 rfl dX7_setGrant_24 rfl ?_
      refine r_get E kW_X7 hw 0 rfl rfl 1 (by decide) kF_X7_7 rfl dX7_setGrant_25 ?_
      refine r_bipush E 14 dX7_setGrant_28 (by decide) ?_
      refine r_iconst E 4 dX7_setGrant_30 (by decide) ?_
      refine r_iload_n E hl 1 rfl dX7_setGrant_31 rfl ?_
      refine r_imul E dX7_setGrant_32 ?_
      refine r_iadd E dX7_setGrant_33 ?_
      refine r_iload_n E hl 2 rfl dX7_setGrant_34 rfl ?_
      refine r_iadd E dX7_setGrant_35 ?_
      obtain ⟨hg3, h⟩ := gd_some h
      refine r_iald E hw 1 rfl hg3 dX7_setGrant_36 ?_
      refine r_iload_n E hl 3 rfl dX7_setGrant_37 rfl ?_
      refine r_icmp_ne E 44 dX7_setGrant_38 (by decide) (fun hc => ?_) (fun hc => ?_)
      · replace h := ite_f hc h
        refine r_aload_n E hl 0 rfl dX7_setGrant_44 rfl ?_
        obtain ⟨y4, hy4, h⟩ := bd_some h
        refine r_callVAv E hw (mX7_act l Z _ Am (0 : Int32) m_s m_saved m_savedMany m_aside m_sent m_text m_length m_way m_crossed m_wayCost m_isWay m_next m_start m_token m_number m_letters m_isWrong m_sums m_steps m_chosen m_passed m_passedMany m_passedCost m_reach hy4) kL_X7_119 kI_X7_act kS_X7_act kN_X7 kC_X7_act rfl rfl hdX7_act ⟨Nat.le_of_ble_eq_true rfl, Nat.le_of_ble_eq_true rfl⟩ 0 rfl rfl rfl rfl hl [] rfl (Nat.le_of_ble_eq_true rfl) dX7_setGrant_45 ⟨Nat.zero_le _, Nat.zero_le _⟩ (fun H locs hw => ?_)
        refine r_aload_n E hl 0 rfl dX7_setGrant_48 rfl ?_
        refine r_iload_n E hl 1 rfl dX7_setGrant_49 rfl ?_
        refine r_iload_n E hl 2 rfl dX7_setGrant_50 rfl ?_
        refine r_iload_n E hl 3 rfl dX7_setGrant_51 rfl ?_
        obtain ⟨y5, hy5, h⟩ := bd_some h
        refine r_callVAv E hw (mX7_changeGrant l Z _ Am (0 : Int32) m_s y4.1 y4.2.1 y4.2.2.1 m_sent m_text m_length m_way m_crossed m_wayCost y4.2.2.2 m_next m_start m_token m_number m_letters m_isWrong m_sums m_steps m_chosen m_passed m_passedMany m_passedCost m_reach v1 v2 v3 hy5) kL_X7_141 kI_X7_changeGrant kS_X7_changeGrant kN_X7 kC_X7_changeGrant rfl rfl hdX7_changeGrant ⟨Nat.le_of_ble_eq_true rfl, Nat.le_of_ble_eq_true rfl⟩ 0 rfl rfl rfl rfl hl [] rfl (Nat.le_of_ble_eq_true rfl) dX7_setGrant_52 ⟨Nat.zero_le _, Nat.zero_le _⟩ (fun H locs hw => ?_)
        refine r_aload_n E hl 0 rfl dX7_setGrant_55 rfl ?_
        refine r_get E kW_X7 hw 0 rfl rfl 1 (by decide) kF_X7_7 rfl dX7_setGrant_56 ?_
        refine r_bipush E 30 dX7_setGrant_59 (by decide) ?_
        refine r_iconst E 4 dX7_setGrant_61 (by decide) ?_
        refine r_iload_n E hl 1 rfl dX7_setGrant_62 rfl ?_
        refine r_imul E dX7_setGrant_63 ?_
        refine r_iadd E dX7_setGrant_64 ?_
        refine r_iload_n E hl 2 rfl dX7_setGrant_65 rfl ?_
        refine r_iadd E dX7_setGrant_66 ?_
        obtain ⟨hg6, h⟩ := gd_some h
        refine r_iald E hw 1 rfl hg6 dX7_setGrant_67 ?_
        obtain rfl := Option.some.inj h
        exact r_iret E hw dX7_setGrant_68
      · replace h := ite_t hc h
        refine r_bipush E (-2) dX7_setGrant_41 (by decide) ?_
        obtain rfl := Option.some.inj h
        exact r_iret E hw dX7_setGrant_43
    · replace h := ite_t hc h
      refine r_iconst E (-1) dX7_setGrant_22 (by decide) ?_
      obtain rfl := Option.some.inj h
      exact r_iret E hw dX7_setGrant_23
abbrev rmX7_addTunnel : Room := { frames := 7, cells := 0, slots := 0, locals := 166 }

set_option maxRecDepth 100000 in
set_option maxHeartbeats 4000000 in
theorem mX7_addTunnel (l : Launch) (Z : zT) (sz : Nat) (Am : Nat → Nat) (m_thrown : Int32) (m_s : (Nat → Int32)) (m_saved : (Nat → Int32)) (m_savedMany : Int32) (m_aside : (Nat → Int32)) (m_sent : (Nat → Int32)) (m_text : (Nat → Int32)) (m_length : Int32) (m_way : (Nat → Int32)) (m_crossed : Int32) (m_wayCost : Int32) (m_isWay : Int32) (m_next : Int32) (m_start : Int32) (m_token : Int32) (m_number : Int32) (m_letters : Int64) (m_isWrong : Int32) (m_sums : (Nat → Int32)) (m_steps : (Nat → Int32)) (m_chosen : Int32) (m_passed : (Nat → Int32)) (m_passedMany : Int32) (m_passedCost : Int32) (m_reach : (Nat → Int32)) (v1 : Int32) (v2 : Int32) (v3 : Int32) {res : Int32 × Int32 × (Nat → Int32) × (Nat → Int32) × Int32 × (Nat → Int32) × Int32} (h : fX7_addTunnel v1 v2 v3 m_s m_saved m_savedMany m_aside m_isWay = some res) : Met l yX7_addTunnel (Cond.code yX7_addTunnel cX7_addTunnel 4 (some .int) :: zWs) rmX7_addTunnel (zP Z (wX7 Z Am m_thrown m_s m_saved m_savedMany m_aside m_sent m_text m_length m_way m_crossed m_wayCost m_isWay m_next m_start m_token m_number m_letters m_isWrong m_sums m_steps m_chosen m_passed m_passedMany m_passedCost m_reach) sz [.ref (Am 0), .int v1, .int v2, .int v3]) (zQi Z res.1 (wX7 Z Am res.2.1 res.2.2.1 res.2.2.2.1 res.2.2.2.2.1 res.2.2.2.2.2.1 m_sent m_text m_length m_way m_crossed m_wayCost res.2.2.2.2.2.2 m_next m_start m_token m_number m_letters m_isWrong m_sums m_steps m_chosen m_passed m_passedMany m_passedCost m_reach) (va_A (wX7 Z Am m_thrown m_s m_saved m_savedMany m_aside m_sent m_text m_length m_way m_crossed m_wayCost m_isWay m_next m_start m_token m_number m_letters m_isWrong m_sums m_steps m_chosen m_passed m_passedMany m_passedCost m_reach) sz)) 0 0 (va_A (wX7 Z Am m_thrown m_s m_saved m_savedMany m_aside m_sent m_text m_length m_way m_crossed m_wayCost m_isWay m_next m_start m_token m_number m_letters m_isWrong m_sums m_steps m_chosen m_passed m_passedMany m_passedCost m_reach) sz) := by
  refine zMet (own := RX7) (fun A => zQi Z res.1 (wX7 Z Am res.2.1 res.2.2.1 res.2.2.2.1 res.2.2.2.2.1 res.2.2.2.2.2.1 m_sent m_text m_length m_way m_crossed m_wayCost res.2.2.2.2.2.2 m_next m_start m_token m_number m_letters m_isWrong m_sums m_steps m_chosen m_passed m_passedMany m_passedCost m_reach) A) (by decide) rfl (Nat.le_of_ble_eq_true rfl) ?_
  intro p e s m args below meth c ls A E hw hl
  unfold fX7_addTunnel at h
  refine r_aload_n E hl 0 rfl dX7_addTunnel_0 rfl ?_
  refine r_iconst E 0 dX7_addTunnel_1 (by decide) ?_
  refine r_put E (wX7 Z Am (0 : Int32) m_s m_saved m_savedMany m_aside m_sent m_text m_length m_way m_crossed m_wayCost m_isWay m_next m_start m_token m_number m_letters m_isWrong m_sums m_steps m_chosen m_passed m_passedMany m_passedCost m_reach) kW_X7 tyX7_ok nmX7 hw 0 rfl rfl 0 (by decide) kF_X7_40 rfl rfl rfl (Nat.le_of_ble_eq_true rfl) rfl dX7_addTunnel_2 (fun H locs hw => ?_)
  refine r_aload_n E hl 0 rfl dX7_addTunnel_5 rfl ?_
  refine r_iload_n E hl 1 rfl dX7_addTunnel_6 rfl ?_
  refine r_iload_n E hl 2 rfl dX7_addTunnel_7 rfl ?_
  obtain ⟨y1, hy1, h⟩ := bd_some h
  refine r_callVAi E hw (mX7_areNodes l Z _ Am (0 : Int32) m_s m_saved m_savedMany m_aside m_sent m_text m_length m_way m_crossed m_wayCost m_isWay m_next m_start m_token m_number m_letters m_isWrong m_sums m_steps m_chosen m_passed m_passedMany m_passedCost m_reach v1 v2 hy1) kL_X7_128 kI_X7_areNodes kS_X7_areNodes kN_X7 kC_X7_areNodes rfl rfl hdX7_areNodes ⟨Nat.le_of_ble_eq_true rfl, Nat.le_of_ble_eq_true rfl⟩ 0 rfl rfl rfl rfl hl [] rfl (Nat.le_of_ble_eq_true rfl) dX7_addTunnel_8 ⟨Nat.zero_le _, Nat.zero_le _⟩ (fun H locs hw => ?_)
  refine r_if_eq E 24 dX7_addTunnel_11 (by decide) (fun hc => ?_) (fun hc => ?_)
  · replace h := ite_t hc h
    refine r_iconst E (-1) dX7_addTunnel_24 (by decide) ?_
    obtain rfl := Option.some.inj h
    exact r_iret E hw dX7_addTunnel_25
  · replace h := ite_f hc h
    refine r_iload_n E hl 3 rfl dX7_addTunnel_14 rfl ?_
    refine r_iconst E 1 dX7_addTunnel_15 (by decide) ?_
    refine r_bipush E 40 dX7_addTunnel_16 (by decide) ?_
    obtain ⟨y2, hy2, h⟩ := bd_some h
    refine r_callS0i E hw (mX7_in l Z _ v3 (1 : Int32) (40 : Int32) hy2) kL_X7_58 kT_X7_in kN_X7 kC_X7_in rfl rfl hdX7_in ⟨Nat.le_of_ble_eq_true rfl, Nat.le_of_ble_eq_true rfl⟩ rfl hl [] rfl (Nat.le_of_ble_eq_true rfl) dX7_addTunnel_18 ⟨Nat.zero_le _, Nat.zero_le _⟩ (fun H locs hw => ?_)
    refine r_if_ne E 26 dX7_addTunnel_21 (by decide) (fun hc => ?_) (fun hc => ?_)
    · replace h := ite_f hc h
      refine r_aload_n E hl 0 rfl dX7_addTunnel_26 rfl ?_
      refine r_get E kW_X7 hw 0 rfl rfl 1 (by decide) kF_X7_7 rfl dX7_addTunnel_27 ?_
      refine r_iconst E 2 dX7_addTunnel_30 (by decide) ?_
      obtain ⟨hg3, h⟩ := gd_some h
      refine r_iald E hw 1 rfl hg3 dX7_addTunnel_31 ?_
      refine r_iconst E 3 dX7_addTunnel_32 (by decide) ?_
      refine r_icmp_ne E 39 dX7_addTunnel_33 (by decide) (fun hc => ?_) (fun hc => ?_)
      · replace h := ite_f hc h
        refine r_aload_n E hl 0 rfl dX7_addTunnel_39 rfl ?_
        obtain ⟨y4, hy4, h⟩ := bd_some h
        refine r_callVAv E hw (mX7_act l Z _ Am (0 : Int32) m_s m_saved m_savedMany m_aside m_sent m_text m_length m_way m_crossed m_wayCost m_isWay m_next m_start m_token m_number m_letters m_isWrong m_sums m_steps m_chosen m_passed m_passedMany m_passedCost m_reach hy4) kL_X7_119 kI_X7_act kS_X7_act kN_X7 kC_X7_act rfl rfl hdX7_act ⟨Nat.le_of_ble_eq_true rfl, Nat.le_of_ble_eq_true rfl⟩ 0 rfl rfl rfl rfl hl [] rfl (Nat.le_of_ble_eq_true rfl) dX7_addTunnel_40 ⟨Nat.zero_le _, Nat.zero_le _⟩ (fun H locs hw => ?_)
        refine r_aload_n E hl 0 rfl dX7_addTunnel_43 rfl ?_
        refine r_iload_n E hl 1 rfl dX7_addTunnel_44 rfl ?_
        refine r_iload_n E hl 2 rfl dX7_addTunnel_45 rfl ?_
        refine r_iload_n E hl 3 rfl dX7_addTunnel_46 rfl ?_
        obtain ⟨y5, hy5, h⟩ := bd_some h
        refine r_callVAi E hw (mX7_makeTunnel l Z _ Am (0 : Int32) m_s y4.1 y4.2.1 y4.2.2.1 m_sent m_text m_length m_way m_crossed m_wayCost y4.2.2.2 m_next m_start m_token m_number m_letters m_isWrong m_sums m_steps m_chosen m_passed m_passedMany m_passedCost m_reach v1 v2 v3 hy5) kL_X7_145 kI_X7_makeTunnel kS_X7_makeTunnel kN_X7 kC_X7_makeTunnel rfl rfl hdX7_makeTunnel ⟨Nat.le_of_ble_eq_true rfl, Nat.le_of_ble_eq_true rfl⟩ 0 rfl rfl rfl rfl hl [] rfl (Nat.le_of_ble_eq_true rfl) dX7_addTunnel_47 ⟨Nat.zero_le _, Nat.zero_le _⟩ (fun H locs hw => ?_)
        obtain rfl := Option.some.inj h
        exact r_iret E hw dX7_addTunnel_50
      · replace h := ite_t hc h
        refine r_bipush E (-3) dX7_addTunnel_36 (by decide) ?_
        obtain rfl := Option.some.inj h
        exact r_iret E hw dX7_addTunnel_38
    · replace h := ite_t hc h
      refine r_iconst E (-1) dX7_addTunnel_24 (by decide) ?_
      obtain rfl := Option.some.inj h
      exact r_iret E hw dX7_addTunnel_25
abbrev rmX7_setTunnel : Room := { frames := 6, cells := 0, slots := 0, locals := 141 }

set_option maxRecDepth 100000 in
set_option maxHeartbeats 4000000 in
theorem vX7_setTunnel_57 {Z : zT} {p : Program} {l : Launch} {e : Env} {s : State} {m : MethodId} {args : Array Value} {below : List Frame} {meth : Method} {c : Code} {A : Nat → Prop} (E : zE Z p s m args meth c RX7 cX7_setTunnel 5 (some .int) A) {Am : Nat → Nat} {v1 : Int32} {v2 : Int32} {v3 : Int32} {m_thrown : Int32} {m_s : (Nat → Int32)} {m_saved : (Nat → Int32)} {m_savedMany : Int32} {m_aside : (Nat → Int32)} {m_sent : (Nat → Int32)} {m_text : (Nat → Int32)} {m_length : Int32} {m_way : (Nat → Int32)} {m_crossed : Int32} {m_wayCost : Int32} {m_isWay : Int32} {m_next : Int32} {m_start : Int32} {m_token : Int32} {m_number : Int32} {m_letters : Int64} {m_isWrong : Int32} {m_sums : (Nat → Int32)} {m_steps : (Nat → Int32)} {m_chosen : Int32} {m_passed : (Nat → Int32)} {m_passedMany : Int32} {m_passedCost : Int32} {m_reach : (Nat → Int32)} {res : Int32 × Int32 × (Nat → Int32) × (Nat → Int32) × Int32 × (Nat → Int32) × Int32}  {H : Heap} {locs : List Loc} {ls : Array Slot} (hw : zW Z A (wX7 Z Am m_thrown m_s m_saved m_savedMany m_aside m_sent m_text m_length m_way m_crossed m_wayCost m_isWay m_next m_start m_token m_number m_letters m_isWrong m_sums m_steps m_chosen m_passed m_passedMany m_passedCost m_reach) s.heap H locs) (hl : lv_has ls 5 [(0, .ref (Am 0)), (1, .int v1), (2, .int v2), (3, .int v3)]) (h : uX7_setTunnel_57 v1 v2 v3 m_thrown m_s m_saved m_savedMany m_aside = some res) : W p l e rmX7_setTunnel s m args below meth c H locs 0 0 (MQ below (zQi Z res.1 (wX7 Z Am res.2.1 res.2.2.1 res.2.2.2.1 res.2.2.2.2.1 res.2.2.2.2.2.1 m_sent m_text m_length m_way m_crossed m_wayCost res.2.2.2.2.2.2 m_next m_start m_token m_number m_letters m_isWrong m_sums m_steps m_chosen m_passed m_passedMany m_passedCost m_reach) A) args s 0 0 A) (F0 m 57 ls []) := by
  unfold uX7_setTunnel_57 at h
  refine r_aload_n E hl 0 rfl dX7_setTunnel_57 rfl ?_
  obtain ⟨y5, hy5, h⟩ := bd_some h
  refine r_callVAv E hw (mX7_act l Z _ Am m_thrown m_s m_saved m_savedMany m_aside m_sent m_text m_length m_way m_crossed m_wayCost m_isWay m_next m_start m_token m_number m_letters m_isWrong m_sums m_steps m_chosen m_passed m_passedMany m_passedCost m_reach hy5) kL_X7_119 kI_X7_act kS_X7_act kN_X7 kC_X7_act rfl rfl hdX7_act ⟨Nat.le_of_ble_eq_true rfl, Nat.le_of_ble_eq_true rfl⟩ 0 rfl rfl rfl rfl hl [] rfl (Nat.le_of_ble_eq_true rfl) dX7_setTunnel_58 ⟨Nat.zero_le _, Nat.zero_le _⟩ (fun H locs hw => ?_)
  refine r_sipush E 142 dX7_setTunnel_61 (by decide) ?_
  refine r_iconst E 5 dX7_setTunnel_64 (by decide) ?_
  refine r_iload_n E hl 1 rfl dX7_setTunnel_65 rfl ?_
  refine r_imul E dX7_setTunnel_66 ?_
  refine r_iadd E dX7_setTunnel_67 ?_
  obtain ⟨w6, hw6, h⟩ := nm_out h
  refine r_nm hw6 ?_
  refine r_istore E [(4, .int w6), (0, .ref (Am 0)), (1, .int v1), (2, .int v2), (3, .int v3)] hl dX7_setTunnel_68 (by decide) rfl (fun ls hl => ?_)
  refine r_aload_n E hl 1 rfl dX7_setTunnel_70 rfl ?_
  refine r_get E kW_X7 hw 0 rfl rfl 1 (by decide) kF_X7_7 rfl dX7_setTunnel_71 ?_
  refine r_iload E hl 0 rfl dX7_setTunnel_74 ?_
  refine r_iconst E 3 dX7_setTunnel_76 (by decide) ?_
  refine r_iadd E dX7_setTunnel_77 ?_
  refine r_iload_n E hl 3 rfl dX7_setTunnel_78 rfl ?_
  obtain ⟨hg7, h⟩ := gd_some h
  refine r_iast E (wX7 Z Am m_thrown (upd m_s (w6 + (3 : Int32)).toNatClampNeg v2) y5.1 y5.2.1 y5.2.2.1 m_sent m_text m_length m_way m_crossed m_wayCost y5.2.2.2 m_next m_start m_token m_number m_letters m_isWrong m_sums m_steps m_chosen m_passed m_passedMany m_passedCost m_reach) hw 1 rfl hg7 rfl dX7_setTunnel_79 (fun H locs hw => ?_)
  refine r_aload_n E hl 1 rfl dX7_setTunnel_80 rfl ?_
  refine r_get E kW_X7 hw 0 rfl rfl 1 (by decide) kF_X7_7 rfl dX7_setTunnel_81 ?_
  refine r_iload E hl 0 rfl dX7_setTunnel_84 ?_
  refine r_iconst E 2 dX7_setTunnel_86 (by decide) ?_
  refine r_iadd E dX7_setTunnel_87 ?_
  refine r_iload_n E hl 4 rfl dX7_setTunnel_88 rfl ?_
  obtain ⟨hg8, h⟩ := gd_some h
  refine r_iast E (wX7 Z Am m_thrown (upd (upd m_s (w6 + (3 : Int32)).toNatClampNeg v2) (w6 + (2 : Int32)).toNatClampNeg v3) y5.1 y5.2.1 y5.2.2.1 m_sent m_text m_length m_way m_crossed m_wayCost y5.2.2.2 m_next m_start m_token m_number m_letters m_isWrong m_sums m_steps m_chosen m_passed m_passedMany m_passedCost m_reach) hw 1 rfl hg8 rfl dX7_setTunnel_89 (fun H locs hw => ?_)
  refine r_aload_n E hl 1 rfl dX7_setTunnel_90 rfl ?_
  refine r_get E kW_X7 hw 0 rfl rfl 1 (by decide) kF_X7_7 rfl dX7_setTunnel_91 ?_
  refine r_iload E hl 0 rfl dX7_setTunnel_94 ?_
  refine r_iconst E 4 dX7_setTunnel_96 (by decide) ?_
  refine r_iadd E dX7_setTunnel_97 ?_
  refine r_dup2 E dX7_setTunnel_98 rfl rfl ?_
  obtain ⟨hg9, h⟩ := gd_some h
  refine r_iald E hw 1 rfl hg9 dX7_setTunnel_99 ?_
  refine r_iconst E 1 dX7_setTunnel_100 (by decide) ?_
  refine r_iadd E dX7_setTunnel_101 ?_
  obtain ⟨hg10, h⟩ := gd_some h
  refine r_iast E (wX7 Z Am m_thrown (upd (upd (upd m_s (w6 + (3 : Int32)).toNatClampNeg v2) (w6 + (2 : Int32)).toNatClampNeg v3) (w6 + (4 : Int32)).toNatClampNeg (((upd (upd m_s (w6 + (3 : Int32)).toNatClampNeg v2) (w6 + (2 : Int32)).toNatClampNeg v3) (w6 + (4 : Int32)).toNatClampNeg) + (1 : Int32))) y5.1 y5.2.1 y5.2.2.1 m_sent m_text m_length m_way m_crossed m_wayCost y5.2.2.2 m_next m_start m_token m_number m_letters m_isWrong m_sums m_steps m_chosen m_passed m_passedMany m_passedCost m_reach) hw 1 rfl hg10 rfl dX7_setTunnel_102 (fun H locs hw => ?_)
  refine r_aload_n E hl 1 rfl dX7_setTunnel_103 rfl ?_
  refine r_iload_n E hl 2 rfl dX7_setTunnel_104 rfl ?_
  obtain ⟨y11, hy11, h⟩ := bd_some h
  refine r_callVAv E hw (mX7_changeTunnel l Z _ Am m_thrown (upd (upd (upd m_s (w6 + (3 : Int32)).toNatClampNeg v2) (w6 + (2 : Int32)).toNatClampNeg v3) (w6 + (4 : Int32)).toNatClampNeg (((upd (upd m_s (w6 + (3 : Int32)).toNatClampNeg v2) (w6 + (2 : Int32)).toNatClampNeg v3) (w6 + (4 : Int32)).toNatClampNeg) + (1 : Int32))) y5.1 y5.2.1 y5.2.2.1 m_sent m_text m_length m_way m_crossed m_wayCost y5.2.2.2 m_next m_start m_token m_number m_letters m_isWrong m_sums m_steps m_chosen m_passed m_passedMany m_passedCost m_reach v1 hy11) kL_X7_113 kI_X7_changeTunnel kS_X7_changeTunnel kN_X7 kC_X7_changeTunnel rfl rfl hdX7_changeTunnel ⟨Nat.le_of_ble_eq_true rfl, Nat.le_of_ble_eq_true rfl⟩ 0 rfl rfl rfl rfl hl [] rfl (Nat.le_of_ble_eq_true rfl) dX7_setTunnel_105 ⟨Nat.zero_le _, Nat.zero_le _⟩ (fun H locs hw => ?_)
  refine r_aload_n E hl 1 rfl dX7_setTunnel_108 rfl ?_
  refine r_iload_n E hl 2 rfl dX7_setTunnel_109 rfl ?_
  refine r_iconst E 4 dX7_setTunnel_110 (by decide) ?_
  obtain ⟨y12, hy12, h⟩ := bd_some h
  refine r_callVAi E hw (mX7_tunnelPart l Z _ Am m_thrown y11 y5.1 y5.2.1 y5.2.2.1 m_sent m_text m_length m_way m_crossed m_wayCost y5.2.2.2 m_next m_start m_token m_number m_letters m_isWrong m_sums m_steps m_chosen m_passed m_passedMany m_passedCost m_reach v1 (4 : Int32) hy12) kL_X7_106 kI_X7_tunnelPart kS_X7_tunnelPart kN_X7 kC_X7_tunnelPart rfl rfl hdX7_tunnelPart ⟨Nat.le_of_ble_eq_true rfl, Nat.le_of_ble_eq_true rfl⟩ 0 rfl rfl rfl rfl hl [] rfl (Nat.le_of_ble_eq_true rfl) dX7_setTunnel_111 ⟨Nat.zero_le _, Nat.zero_le _⟩ (fun H locs hw => ?_)
  obtain rfl := Option.some.inj h
  exact r_iret E hw dX7_setTunnel_114
set_option maxRecDepth 100000 in
set_option maxHeartbeats 4000000 in
theorem mX7_setTunnel (l : Launch) (Z : zT) (sz : Nat) (Am : Nat → Nat) (m_thrown : Int32) (m_s : (Nat → Int32)) (m_saved : (Nat → Int32)) (m_savedMany : Int32) (m_aside : (Nat → Int32)) (m_sent : (Nat → Int32)) (m_text : (Nat → Int32)) (m_length : Int32) (m_way : (Nat → Int32)) (m_crossed : Int32) (m_wayCost : Int32) (m_isWay : Int32) (m_next : Int32) (m_start : Int32) (m_token : Int32) (m_number : Int32) (m_letters : Int64) (m_isWrong : Int32) (m_sums : (Nat → Int32)) (m_steps : (Nat → Int32)) (m_chosen : Int32) (m_passed : (Nat → Int32)) (m_passedMany : Int32) (m_passedCost : Int32) (m_reach : (Nat → Int32)) (v1 : Int32) (v2 : Int32) (v3 : Int32) {res : Int32 × Int32 × (Nat → Int32) × (Nat → Int32) × Int32 × (Nat → Int32) × Int32} (h : fX7_setTunnel v1 v2 v3 m_s m_saved m_savedMany m_aside m_isWay = some res) : Met l yX7_setTunnel (Cond.code yX7_setTunnel cX7_setTunnel 5 (some .int) :: zWs) rmX7_setTunnel (zP Z (wX7 Z Am m_thrown m_s m_saved m_savedMany m_aside m_sent m_text m_length m_way m_crossed m_wayCost m_isWay m_next m_start m_token m_number m_letters m_isWrong m_sums m_steps m_chosen m_passed m_passedMany m_passedCost m_reach) sz [.ref (Am 0), .int v1, .int v2, .int v3]) (zQi Z res.1 (wX7 Z Am res.2.1 res.2.2.1 res.2.2.2.1 res.2.2.2.2.1 res.2.2.2.2.2.1 m_sent m_text m_length m_way m_crossed m_wayCost res.2.2.2.2.2.2 m_next m_start m_token m_number m_letters m_isWrong m_sums m_steps m_chosen m_passed m_passedMany m_passedCost m_reach) (va_A (wX7 Z Am m_thrown m_s m_saved m_savedMany m_aside m_sent m_text m_length m_way m_crossed m_wayCost m_isWay m_next m_start m_token m_number m_letters m_isWrong m_sums m_steps m_chosen m_passed m_passedMany m_passedCost m_reach) sz)) 0 0 (va_A (wX7 Z Am m_thrown m_s m_saved m_savedMany m_aside m_sent m_text m_length m_way m_crossed m_wayCost m_isWay m_next m_start m_token m_number m_letters m_isWrong m_sums m_steps m_chosen m_passed m_passedMany m_passedCost m_reach) sz) := by
  refine zMet (own := RX7) (fun A => zQi Z res.1 (wX7 Z Am res.2.1 res.2.2.1 res.2.2.2.1 res.2.2.2.2.1 res.2.2.2.2.2.1 m_sent m_text m_length m_way m_crossed m_wayCost res.2.2.2.2.2.2 m_next m_start m_token m_number m_letters m_isWrong m_sums m_steps m_chosen m_passed m_passedMany m_passedCost m_reach) A) (by decide) rfl (Nat.le_of_ble_eq_true rfl) ?_
  intro p e s m args below meth c ls A E hw hl
  unfold fX7_setTunnel at h
  refine r_aload_n E hl 0 rfl dX7_setTunnel_0 rfl ?_
  refine r_iconst E 0 dX7_setTunnel_1 (by decide) ?_
  refine r_put E (wX7 Z Am (0 : Int32) m_s m_saved m_savedMany m_aside m_sent m_text m_length m_way m_crossed m_wayCost m_isWay m_next m_start m_token m_number m_letters m_isWrong m_sums m_steps m_chosen m_passed m_passedMany m_passedCost m_reach) kW_X7 tyX7_ok nmX7 hw 0 rfl rfl 0 (by decide) kF_X7_40 rfl rfl rfl (Nat.le_of_ble_eq_true rfl) rfl dX7_setTunnel_2 (fun H locs hw => ?_)
  refine r_aload_n E hl 0 rfl dX7_setTunnel_5 rfl ?_
  refine r_iload_n E hl 1 rfl dX7_setTunnel_6 rfl ?_
  obtain ⟨y1, hy1, h⟩ := bd_some h
  refine r_callVAi E hw (mX7_isTunnel l Z _ Am (0 : Int32) m_s m_saved m_savedMany m_aside m_sent m_text m_length m_way m_crossed m_wayCost m_isWay m_next m_start m_token m_number m_letters m_isWrong m_sums m_steps m_chosen m_passed m_passedMany m_passedCost m_reach v1 hy1) kL_X7_148 kI_X7_isTunnel kS_X7_isTunnel kN_X7 kC_X7_isTunnel rfl rfl hdX7_isTunnel ⟨Nat.le_of_ble_eq_true rfl, Nat.le_of_ble_eq_true rfl⟩ 0 rfl rfl rfl rfl hl [] rfl (Nat.le_of_ble_eq_true rfl) dX7_setTunnel_7 ⟨Nat.zero_le _, Nat.zero_le _⟩ (fun H locs hw => ?_)
  refine r_if_eq E 32 dX7_setTunnel_10 (by decide) (fun hc => ?_) (fun hc => ?_)
  · replace h := ite_t hc h
    refine r_iconst E (-1) dX7_setTunnel_32 (by decide) ?_
    obtain rfl := Option.some.inj h
    exact r_iret E hw dX7_setTunnel_33
  · replace h := ite_f hc h
    refine r_iload_n E hl 2 rfl dX7_setTunnel_13 rfl ?_
    refine r_iconst E 0 dX7_setTunnel_14 (by decide) ?_
    refine r_iconst E 1 dX7_setTunnel_15 (by decide) ?_
    obtain ⟨y2, hy2, h⟩ := bd_some h
    refine r_callS0i E hw (mX7_in l Z _ v2 (0 : Int32) (1 : Int32) hy2) kL_X7_58 kT_X7_in kN_X7 kC_X7_in rfl rfl hdX7_in ⟨Nat.le_of_ble_eq_true rfl, Nat.le_of_ble_eq_true rfl⟩ rfl hl [] rfl (Nat.le_of_ble_eq_true rfl) dX7_setTunnel_16 ⟨Nat.zero_le _, Nat.zero_le _⟩ (fun H locs hw => ?_)
    refine r_if_eq E 32 dX7_setTunnel_19 (by decide) (fun hc => ?_) (fun hc => ?_)
    · replace h := ite_t hc h
      refine r_iconst E (-1) dX7_setTunnel_32 (by decide) ?_
      obtain rfl := Option.some.inj h
      exact r_iret E hw dX7_setTunnel_33
    · replace h := ite_f hc h
      refine r_iload_n E hl 3 rfl dX7_setTunnel_22 rfl ?_
      refine r_iconst E 1 dX7_setTunnel_23 (by decide) ?_
      refine r_bipush E 40 dX7_setTunnel_24 (by decide) ?_
      obtain ⟨y3, hy3, h⟩ := bd_some h
      refine r_callS0i E hw (mX7_in l Z _ v3 (1 : Int32) (40 : Int32) hy3) kL_X7_58 kT_X7_in kN_X7 kC_X7_in rfl rfl hdX7_in ⟨Nat.le_of_ble_eq_true rfl, Nat.le_of_ble_eq_true rfl⟩ rfl hl [] rfl (Nat.le_of_ble_eq_true rfl) dX7_setTunnel_26 ⟨Nat.zero_le _, Nat.zero_le _⟩ (fun H locs hw => ?_)
      refine r_if_ne E 34 dX7_setTunnel_29 (by decide) (fun hc => ?_) (fun hc => ?_)
      · replace h := ite_f hc h
        refine r_aload_n E hl 0 rfl dX7_setTunnel_34 rfl ?_
        refine r_iload_n E hl 1 rfl dX7_setTunnel_35 rfl ?_
        refine r_iconst E 3 dX7_setTunnel_36 (by decide) ?_
        obtain ⟨y4, hy4, h⟩ := bd_some h
        refine r_callVAi E hw (mX7_tunnelPart l Z _ Am (0 : Int32) m_s m_saved m_savedMany m_aside m_sent m_text m_length m_way m_crossed m_wayCost m_isWay m_next m_start m_token m_number m_letters m_isWrong m_sums m_steps m_chosen m_passed m_passedMany m_passedCost m_reach v1 (3 : Int32) hy4) kL_X7_106 kI_X7_tunnelPart kS_X7_tunnelPart kN_X7 kC_X7_tunnelPart rfl rfl hdX7_tunnelPart ⟨Nat.le_of_ble_eq_true rfl, Nat.le_of_ble_eq_true rfl⟩ 0 rfl rfl rfl rfl hl [] rfl (Nat.le_of_ble_eq_true rfl) dX7_setTunnel_37 ⟨Nat.zero_le _, Nat.zero_le _⟩ (fun H locs hw => ?_)
        refine r_iload_n E hl 2 rfl dX7_setTunnel_40 rfl ?_
        refine r_icmp_ne E 57 dX7_setTunnel_41 (by decide) (fun hc => ?_) (fun hc => ?_)
        · replace h := ite_f hc h
          exact vX7_setTunnel_57 E  hw hl h
        · replace h := ite_t hc h
          refine r_aload_n E hl 0 rfl dX7_setTunnel_44 rfl ?_
          refine r_iload_n E hl 1 rfl dX7_setTunnel_45 rfl ?_
          refine r_iconst E 2 dX7_setTunnel_46 (by decide) ?_
          obtain ⟨y13, hy13, h⟩ := bd_some h
          refine r_callVAi E hw (mX7_tunnelPart l Z _ Am (0 : Int32) m_s m_saved m_savedMany m_aside m_sent m_text m_length m_way m_crossed m_wayCost m_isWay m_next m_start m_token m_number m_letters m_isWrong m_sums m_steps m_chosen m_passed m_passedMany m_passedCost m_reach v1 (2 : Int32) hy13) kL_X7_106 kI_X7_tunnelPart kS_X7_tunnelPart kN_X7 kC_X7_tunnelPart rfl rfl hdX7_tunnelPart ⟨Nat.le_of_ble_eq_true rfl, Nat.le_of_ble_eq_true rfl⟩ 0 rfl rfl rfl rfl hl [] rfl (Nat.le_of_ble_eq_true rfl) dX7_setTunnel_47 ⟨Nat.zero_le _, Nat.zero_le _⟩ (fun H locs hw => ?_)
          refine r_iload_n E hl 3 rfl dX7_setTunnel_50 rfl ?_
          refine r_icmp_ne E 57 dX7_setTunnel_51 (by decide) (fun hc => ?_) (fun hc => ?_)
          · replace h := ite_f hc h
            exact vX7_setTunnel_57 E  hw hl h
          · replace h := ite_t hc h
            refine r_bipush E (-2) dX7_setTunnel_54 (by decide) ?_
            obtain rfl := Option.some.inj h
            exact r_iret E hw dX7_setTunnel_56
      · replace h := ite_t hc h
        refine r_iconst E (-1) dX7_setTunnel_32 (by decide) ?_
        obtain rfl := Option.some.inj h
        exact r_iret E hw dX7_setTunnel_33
abbrev rmX7_append : Room := { frames := 1, cells := 0, slots := 0, locals := 22 }

set_option maxRecDepth 100000 in
set_option maxHeartbeats 4000000 in
theorem mX7_append (l : Launch) (Z : zT) (sz : Nat) (Am : Nat → Nat) (m_thrown : Int32) (m_s : (Nat → Int32)) (m_saved : (Nat → Int32)) (m_savedMany : Int32) (m_aside : (Nat → Int32)) (m_sent : (Nat → Int32)) (m_text : (Nat → Int32)) (m_length : Int32) (m_way : (Nat → Int32)) (m_crossed : Int32) (m_wayCost : Int32) (m_isWay : Int32) (m_next : Int32) (m_start : Int32) (m_token : Int32) (m_number : Int32) (m_letters : Int64) (m_isWrong : Int32) (m_sums : (Nat → Int32)) (m_steps : (Nat → Int32)) (m_chosen : Int32) (m_passed : (Nat → Int32)) (m_passedMany : Int32) (m_passedCost : Int32) (m_reach : (Nat → Int32)) (v1 : Int32) {res : Int32 × Int32 × (Nat → Int32) × Int32} (h : fX7_append v1 m_text m_length = some res) : Met l yX7_append (Cond.code yX7_append cX7_append 2 (some .int) :: zWs) rmX7_append (zP Z (wX7 Z Am m_thrown m_s m_saved m_savedMany m_aside m_sent m_text m_length m_way m_crossed m_wayCost m_isWay m_next m_start m_token m_number m_letters m_isWrong m_sums m_steps m_chosen m_passed m_passedMany m_passedCost m_reach) sz [.ref (Am 0), .int v1]) (zQi Z res.1 (wX7 Z Am res.2.1 m_s m_saved m_savedMany m_aside m_sent res.2.2.1 res.2.2.2 m_way m_crossed m_wayCost m_isWay m_next m_start m_token m_number m_letters m_isWrong m_sums m_steps m_chosen m_passed m_passedMany m_passedCost m_reach) (va_A (wX7 Z Am m_thrown m_s m_saved m_savedMany m_aside m_sent m_text m_length m_way m_crossed m_wayCost m_isWay m_next m_start m_token m_number m_letters m_isWrong m_sums m_steps m_chosen m_passed m_passedMany m_passedCost m_reach) sz)) 0 0 (va_A (wX7 Z Am m_thrown m_s m_saved m_savedMany m_aside m_sent m_text m_length m_way m_crossed m_wayCost m_isWay m_next m_start m_token m_number m_letters m_isWrong m_sums m_steps m_chosen m_passed m_passedMany m_passedCost m_reach) sz) := by
  refine zMet (own := RX7) (fun A => zQi Z res.1 (wX7 Z Am res.2.1 m_s m_saved m_savedMany m_aside m_sent res.2.2.1 res.2.2.2 m_way m_crossed m_wayCost m_isWay m_next m_start m_token m_number m_letters m_isWrong m_sums m_steps m_chosen m_passed m_passedMany m_passedCost m_reach) A) (by decide) rfl (Nat.le_of_ble_eq_true rfl) ?_
  intro p e s m args below meth c ls A E hw hl
  unfold fX7_append at h
  refine r_aload_n E hl 0 rfl dX7_append_0 rfl ?_
  refine r_iconst E 0 dX7_append_1 (by decide) ?_
  refine r_put E (wX7 Z Am (0 : Int32) m_s m_saved m_savedMany m_aside m_sent m_text m_length m_way m_crossed m_wayCost m_isWay m_next m_start m_token m_number m_letters m_isWrong m_sums m_steps m_chosen m_passed m_passedMany m_passedCost m_reach) kW_X7 tyX7_ok nmX7 hw 0 rfl rfl 0 (by decide) kF_X7_40 rfl rfl rfl (Nat.le_of_ble_eq_true rfl) rfl dX7_append_2 (fun H locs hw => ?_)
  refine r_iload_n E hl 1 rfl dX7_append_5 rfl ?_
  refine r_iconst E 1 dX7_append_6 (by decide) ?_
  refine r_sipush E 255 dX7_append_7 (by decide) ?_
  obtain ⟨y1, hy1, h⟩ := bd_some h
  refine r_callS0i E hw (mX7_in l Z _ v1 (1 : Int32) (255 : Int32) hy1) kL_X7_58 kT_X7_in kN_X7 kC_X7_in rfl rfl hdX7_in ⟨Nat.le_of_ble_eq_true rfl, Nat.le_of_ble_eq_true rfl⟩ rfl hl [] rfl (Nat.le_of_ble_eq_true rfl) dX7_append_10 ⟨Nat.zero_le _, Nat.zero_le _⟩ (fun H locs hw => ?_)
  refine r_if_ne E 18 dX7_append_13 (by decide) (fun hc => ?_) (fun hc => ?_)
  · replace h := ite_f hc h
    refine r_aload_n E hl 0 rfl dX7_append_18 rfl ?_
    refine r_get E kW_X7 hw 0 rfl rfl 7 (by decide) kF_X7_151 rfl dX7_append_19 ?_
    refine r_bipush E 120 dX7_append_22 (by decide) ?_
    refine r_icmp_ne E 30 dX7_append_24 (by decide) (fun hc => ?_) (fun hc => ?_)
    · replace h := ite_f hc h
      refine r_aload_n E hl 0 rfl dX7_append_30 rfl ?_
      refine r_get E kW_X7 hw 0 rfl rfl 6 (by decide) kF_X7_22 rfl dX7_append_31 ?_
      refine r_aload_n E hl 0 rfl dX7_append_34 rfl ?_
      refine r_get E kW_X7 hw 0 rfl rfl 7 (by decide) kF_X7_151 rfl dX7_append_35 ?_
      refine r_iload_n E hl 1 rfl dX7_append_38 rfl ?_
      obtain ⟨hg2, h⟩ := gd_some h
      refine r_iast E (wX7 Z Am (0 : Int32) m_s m_saved m_savedMany m_aside m_sent (upd m_text (m_length).toNatClampNeg v1) m_length m_way m_crossed m_wayCost m_isWay m_next m_start m_token m_number m_letters m_isWrong m_sums m_steps m_chosen m_passed m_passedMany m_passedCost m_reach) hw 5 rfl hg2 rfl dX7_append_39 (fun H locs hw => ?_)
      refine r_aload_n E hl 0 rfl dX7_append_40 rfl ?_
      refine r_dup E dX7_append_41 rfl ?_
      refine r_get E kW_X7 hw 0 rfl rfl 7 (by decide) kF_X7_151 rfl dX7_append_42 ?_
      refine r_iconst E 1 dX7_append_45 (by decide) ?_
      refine r_iadd E dX7_append_46 ?_
      refine r_put E (wX7 Z Am (0 : Int32) m_s m_saved m_savedMany m_aside m_sent (upd m_text (m_length).toNatClampNeg v1) (m_length + (1 : Int32)) m_way m_crossed m_wayCost m_isWay m_next m_start m_token m_number m_letters m_isWrong m_sums m_steps m_chosen m_passed m_passedMany m_passedCost m_reach) kW_X7 tyX7_ok nmX7 hw 0 rfl rfl 7 (by decide) kF_X7_151 rfl rfl rfl (Nat.le_of_ble_eq_true rfl) rfl dX7_append_47 (fun H locs hw => ?_)
      refine r_aload_n E hl 0 rfl dX7_append_50 rfl ?_
      refine r_get E kW_X7 hw 0 rfl rfl 7 (by decide) kF_X7_151 rfl dX7_append_51 ?_
      obtain rfl := Option.some.inj h
      exact r_iret E hw dX7_append_54
    · replace h := ite_t hc h
      refine r_bipush E (-3) dX7_append_27 (by decide) ?_
      obtain rfl := Option.some.inj h
      exact r_iret E hw dX7_append_29
  · replace h := ite_t hc h
    refine r_iconst E (-1) dX7_append_16 (by decide) ?_
    obtain rfl := Option.some.inj h
    exact r_iret E hw dX7_append_17
abbrev rmX7_clearText : Room := { frames := 0, cells := 0, slots := 0, locals := 0 }

set_option maxRecDepth 100000 in
set_option maxHeartbeats 4000000 in
theorem mX7_clearText (l : Launch) (Z : zT) (sz : Nat) (Am : Nat → Nat) (m_thrown : Int32) (m_s : (Nat → Int32)) (m_saved : (Nat → Int32)) (m_savedMany : Int32) (m_aside : (Nat → Int32)) (m_sent : (Nat → Int32)) (m_text : (Nat → Int32)) (m_length : Int32) (m_way : (Nat → Int32)) (m_crossed : Int32) (m_wayCost : Int32) (m_isWay : Int32) (m_next : Int32) (m_start : Int32) (m_token : Int32) (m_number : Int32) (m_letters : Int64) (m_isWrong : Int32) (m_sums : (Nat → Int32)) (m_steps : (Nat → Int32)) (m_chosen : Int32) (m_passed : (Nat → Int32)) (m_passedMany : Int32) (m_passedCost : Int32) (m_reach : (Nat → Int32))  {res : Int32 × Int32 × Int32} (h : fX7_clearText m_length = some res) : Met l yX7_clearText (Cond.code yX7_clearText cX7_clearText 2 (some .int) :: zWs) rmX7_clearText (zP Z (wX7 Z Am m_thrown m_s m_saved m_savedMany m_aside m_sent m_text m_length m_way m_crossed m_wayCost m_isWay m_next m_start m_token m_number m_letters m_isWrong m_sums m_steps m_chosen m_passed m_passedMany m_passedCost m_reach) sz [.ref (Am 0)]) (zQi Z res.1 (wX7 Z Am res.2.1 m_s m_saved m_savedMany m_aside m_sent m_text res.2.2 m_way m_crossed m_wayCost m_isWay m_next m_start m_token m_number m_letters m_isWrong m_sums m_steps m_chosen m_passed m_passedMany m_passedCost m_reach) (va_A (wX7 Z Am m_thrown m_s m_saved m_savedMany m_aside m_sent m_text m_length m_way m_crossed m_wayCost m_isWay m_next m_start m_token m_number m_letters m_isWrong m_sums m_steps m_chosen m_passed m_passedMany m_passedCost m_reach) sz)) 0 0 (va_A (wX7 Z Am m_thrown m_s m_saved m_savedMany m_aside m_sent m_text m_length m_way m_crossed m_wayCost m_isWay m_next m_start m_token m_number m_letters m_isWrong m_sums m_steps m_chosen m_passed m_passedMany m_passedCost m_reach) sz) := by
  refine zMet (own := RX7) (fun A => zQi Z res.1 (wX7 Z Am res.2.1 m_s m_saved m_savedMany m_aside m_sent m_text res.2.2 m_way m_crossed m_wayCost m_isWay m_next m_start m_token m_number m_letters m_isWrong m_sums m_steps m_chosen m_passed m_passedMany m_passedCost m_reach) A) (by decide) rfl (Nat.le_of_ble_eq_true rfl) ?_
  intro p e s m args below meth c ls A E hw hl
  unfold fX7_clearText at h
  refine r_aload_n E hl 0 rfl dX7_clearText_0 rfl ?_
  refine r_iconst E 0 dX7_clearText_1 (by decide) ?_
  refine r_put E (wX7 Z Am (0 : Int32) m_s m_saved m_savedMany m_aside m_sent m_text m_length m_way m_crossed m_wayCost m_isWay m_next m_start m_token m_number m_letters m_isWrong m_sums m_steps m_chosen m_passed m_passedMany m_passedCost m_reach) kW_X7 tyX7_ok nmX7 hw 0 rfl rfl 0 (by decide) kF_X7_40 rfl rfl rfl (Nat.le_of_ble_eq_true rfl) rfl dX7_clearText_2 (fun H locs hw => ?_)
  refine r_aload_n E hl 0 rfl dX7_clearText_5 rfl ?_
  refine r_get E kW_X7 hw 0 rfl rfl 7 (by decide) kF_X7_151 rfl dX7_clearText_6 ?_
  refine r_istore_n E [(1, .int m_length), (0, .ref (Am 0))] hl dX7_clearText_9 rfl (by decide) rfl (fun ls hl => ?_)
  refine r_aload_n E hl 1 rfl dX7_clearText_10 rfl ?_
  refine r_iconst E 0 dX7_clearText_11 (by decide) ?_
  refine r_put E (wX7 Z Am (0 : Int32) m_s m_saved m_savedMany m_aside m_sent m_text (0 : Int32) m_way m_crossed m_wayCost m_isWay m_next m_start m_token m_number m_letters m_isWrong m_sums m_steps m_chosen m_passed m_passedMany m_passedCost m_reach) kW_X7 tyX7_ok nmX7 hw 0 rfl rfl 7 (by decide) kF_X7_151 rfl rfl rfl (Nat.le_of_ble_eq_true rfl) rfl dX7_clearText_12 (fun H locs hw => ?_)
  refine r_iload_n E hl 0 rfl dX7_clearText_15 rfl ?_
  obtain rfl := Option.some.inj h
  exact r_iret E hw dX7_clearText_16
