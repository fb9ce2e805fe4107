abbrev rmX7_here : Room := { frames := 0, cells := 0, slots := 0, locals := 0 }

set_option maxRecDepth 100000 in
set_option maxHeartbeats 4000000 in
theorem mX7_here (l : Launch) (Z : zT) (sz : Nat) (Am : Nat → Nat) (m_thrown : Int32) (m_s : (Nat → Int32)) (m_saved : (Nat → Int32)) (m_savedMany : Int32) (m_aside : (Nat → Int32)) (m_sent : (Nat → Int32)) (m_text : (Nat → Int32)) (m_length : Int32) (m_way : (Nat → Int32)) (m_crossed : Int32) (m_wayCost : Int32) (m_isWay : Int32) (m_next : Int32) (m_start : Int32) (m_token : Int32) (m_number : Int32) (m_letters : Int64) (m_isWrong : Int32) (m_sums : (Nat → Int32)) (m_steps : (Nat → Int32)) (m_chosen : Int32) (m_passed : (Nat → Int32)) (m_passedMany : Int32) (m_passedCost : Int32) (m_reach : (Nat → Int32))  {res : Int32} (h : fX7_here m_text m_length m_next = some res) : Met l yX7_here (Cond.code yX7_here cX7_here 1 (some .int) :: zWs) rmX7_here (zP Z (wX7 Z Am m_thrown m_s m_saved m_savedMany m_aside m_sent m_text m_length m_way m_crossed m_wayCost m_isWay m_next m_start m_token m_number m_letters m_isWrong m_sums m_steps m_chosen m_passed m_passedMany m_passedCost m_reach) sz [.ref (Am 0)]) (zQi Z res (wX7 Z Am m_thrown m_s m_saved m_savedMany m_aside m_sent m_text m_length m_way m_crossed m_wayCost m_isWay m_next m_start m_token m_number m_letters m_isWrong m_sums m_steps m_chosen m_passed m_passedMany m_passedCost m_reach) (va_A (wX7 Z Am m_thrown m_s m_saved m_savedMany m_aside m_sent m_text m_length m_way m_crossed m_wayCost m_isWay m_next m_start m_token m_number m_letters m_isWrong m_sums m_steps m_chosen m_passed m_passedMany m_passedCost m_reach) sz)) 0 0 (va_A (wX7 Z Am m_thrown m_s m_saved m_savedMany m_aside m_sent m_text m_length m_way m_crossed m_wayCost m_isWay m_next m_start m_token m_number m_letters m_isWrong m_sums m_steps m_chosen m_passed m_passedMany m_passedCost m_reach) sz) := by
  refine zMet (own := RX7) (fun A => zQi Z res (wX7 Z Am m_thrown m_s m_saved m_savedMany m_aside m_sent m_text m_length m_way m_crossed m_wayCost m_isWay m_next m_start m_token m_number m_letters m_isWrong m_sums m_steps m_chosen m_passed m_passedMany m_passedCost m_reach) A) (by decide) rfl (Nat.le_of_ble_eq_true rfl) ?_
  intro p e s m args below meth c ls A E hw hl
  unfold fX7_here at h
  refine r_aload_n E hl 0 rfl dX7_here_0 rfl ?_
  refine r_get E kW_X7 hw 0 rfl rfl 12 (by decide) kF_X7_154 rfl dX7_here_1 ?_
  refine r_aload_n E hl 0 rfl dX7_here_4 rfl ?_
  refine r_get E kW_X7 hw 0 rfl rfl 7 (by decide) kF_X7_151 rfl dX7_here_5 ?_
  refine r_icmp_ge E 23 dX7_here_8 (by decide) (fun hc => ?_) (fun hc => ?_)
  · replace h := ite_t hc h
    refine r_iconst E (-1) dX7_here_23 (by decide) ?_
    obtain rfl := Option.some.inj h
    exact r_iret E hw dX7_here_24
  · replace h := ite_f hc h
    refine r_aload_n E hl 0 rfl dX7_here_11 rfl ?_
    refine r_get E kW_X7 hw 0 rfl rfl 6 (by decide) kF_X7_22 rfl dX7_here_12 ?_
    refine r_aload_n E hl 0 rfl dX7_here_15 rfl ?_
    refine r_get E kW_X7 hw 0 rfl rfl 12 (by decide) kF_X7_154 rfl dX7_here_16 ?_
    obtain ⟨hg1, h⟩ := gd_some h
    refine r_iald E hw 5 rfl hg1 dX7_here_19 ?_
    refine r_goto E 24 dX7_here_20 (by decide) ?_
    obtain rfl := Option.some.inj h
    exact r_iret E hw dX7_here_24
abbrev rmX7_read : Room := { frames := 1, cells := 0, slots := 0, locals := 22 }

set_option maxRecDepth 100000 in
set_option maxHeartbeats 4000000 in
theorem vX7_read_278 {Z : zT} {p : Program} {l : Launch} {e : Env} {s : State} {m : MethodId} {args : Array Value} {below : List Frame} {meth : Method} {c : Code} {A : Nat → Prop} (E : zE Z p s m args meth c RX7 cX7_read 3 none A) {Am : Nat → Nat} {k1 : Int32} {m_thrown : Int32} {m_s : (Nat → Int32)} {m_saved : (Nat → Int32)} {m_savedMany : Int32} {m_aside : (Nat → Int32)} {m_sent : (Nat → Int32)} {m_text : (Nat → Int32)} {m_length : Int32} {m_way : (Nat → Int32)} {m_crossed : Int32} {m_wayCost : Int32} {m_isWay : Int32} {m_next : Int32} {m_start : Int32} {m_token : Int32} {m_number : Int32} {m_letters : Int64} {m_isWrong : Int32} {m_sums : (Nat → Int32)} {m_steps : (Nat → Int32)} {m_chosen : Int32} {m_passed : (Nat → Int32)} {m_passedMany : Int32} {m_passedCost : Int32} {m_reach : (Nat → Int32)} {res : Int32 × Int32 × Int32 × Int32 × Int64}  {H : Heap} {locs : List Loc} {ls : Array Slot} (hw : zW Z A (wX7 Z Am m_thrown m_s m_saved m_savedMany m_aside m_sent m_text m_length m_way m_crossed m_wayCost m_isWay m_next m_start m_token m_number m_letters m_isWrong m_sums m_steps m_chosen m_passed m_passedMany m_passedCost m_reach) s.heap H locs) (hl : lv_has ls 3 []) (h : uX7_read_278 k1 m_next m_start m_token m_letters = some res) : W p l e rmX7_read s m args below meth c H locs 0 0 (MQ below (zQv Z (wX7 Z Am m_thrown m_s m_saved m_savedMany m_aside m_sent m_text m_length m_way m_crossed m_wayCost m_isWay res.1 res.2.1 res.2.2.1 res.2.2.2.1 res.2.2.2.2 m_isWrong m_sums m_steps m_chosen m_passed m_passedMany m_passedCost m_reach) A) args s 0 0 A) (F0 m 278 ls [.int k1, .ref (Am 0)]) := by
  unfold uX7_read_278 at h
  refine r_put E (wX7 Z Am m_thrown m_s m_saved m_savedMany m_aside m_sent m_text m_length m_way m_crossed m_wayCost m_isWay m_next m_start m_token k1 m_letters m_isWrong m_sums m_steps m_chosen m_passed m_passedMany m_passedCost m_reach) kW_X7 tyX7_ok nmX7 hw 0 rfl rfl 15 (by decide) kF_X7_167 rfl rfl rfl (Nat.le_of_ble_eq_true rfl) rfl dX7_read_278 (fun H locs hw => ?_)
  refine r_goto E 301 dX7_read_281 (by decide) ?_
  obtain rfl := Option.some.inj h
  exact r_vret E hw dX7_read_301
set_option maxRecDepth 100000 in
set_option maxHeartbeats 4000000 in
theorem vX7_read_267 {Z : zT} {p : Program} {l : Launch} {e : Env} {s : State} {m : MethodId} {args : Array Value} {below : List Frame} {meth : Method} {c : Code} {A : Nat → Prop} (E : zE Z p s m args meth c RX7 cX7_read 3 none A) {Am : Nat → Nat} {v1 : Int32} {k0 : Int32} {m_thrown : Int32} {m_s : (Nat → Int32)} {m_saved : (Nat → Int32)} {m_savedMany : Int32} {m_aside : (Nat → Int32)} {m_sent : (Nat → Int32)} {m_text : (Nat → Int32)} {m_length : Int32} {m_way : (Nat → Int32)} {m_crossed : Int32} {m_wayCost : Int32} {m_isWay : Int32} {m_next : Int32} {m_start : Int32} {m_token : Int32} {m_number : Int32} {m_letters : Int64} {m_isWrong : Int32} {m_sums : (Nat → Int32)} {m_steps : (Nat → Int32)} {m_chosen : Int32} {m_passed : (Nat → Int32)} {m_passedMany : Int32} {m_passedCost : Int32} {m_reach : (Nat → Int32)} {res : Int32 × Int32 × Int32 × Int32 × Int64}  {H : Heap} {locs : List Loc} {ls : Array Slot} (hw : zW Z A (wX7 Z Am m_thrown m_s m_saved m_savedMany m_aside m_sent m_text m_length m_way m_crossed m_wayCost m_isWay m_next m_start m_token m_number m_letters m_isWrong m_sums m_steps m_chosen m_passed m_passedMany m_passedCost m_reach) s.heap H locs) (hl : lv_has ls 3 [(0, .ref (Am 0)), (1, .int v1)]) (h : uX7_read_267 v1 k0 m_next m_start m_token m_letters = some res) : W p l e rmX7_read s m args below meth c H locs 0 0 (MQ below (zQv Z (wX7 Z Am m_thrown m_s m_saved m_savedMany m_aside m_sent m_text m_length m_way m_crossed m_wayCost m_isWay res.1 res.2.1 res.2.2.1 res.2.2.2.1 res.2.2.2.2 m_isWrong m_sums m_steps m_chosen m_passed m_passedMany m_passedCost m_reach) A) args s 0 0 A) (F0 m 267 ls [.int k0]) := by
  unfold uX7_read_267 at h
  refine r_istore_n E [(2, .int k0), (0, .ref (Am 0)), (1, .int v1)] hl dX7_read_267 rfl (by decide) rfl (fun ls hl => ?_)
  refine r_aload_n E hl 1 rfl dX7_read_268 rfl ?_
  refine r_iload_n E hl 0 rfl dX7_read_269 rfl ?_
  refine r_if_eq E 277 dX7_read_270 (by decide) (fun hc => ?_) (fun hc => ?_)
  · replace h := ite_t hc h
    refine r_iconst E (-1) dX7_read_277 (by decide) ?_
    exact vX7_read_278 E  hw (lv_sub hl [] rfl) h
  · replace h := ite_f hc h
    refine r_iload_n E hl 2 rfl dX7_read_273 rfl ?_
    refine r_goto E 278 dX7_read_274 (by decide) ?_
    exact vX7_read_278 E  hw (lv_sub hl [] rfl) h
set_option maxRecDepth 100000 in
set_option maxHeartbeats 4000000 in
theorem vX7_read_262 {Z : zT} {p : Program} {l : Launch} {e : Env} {s : State} {m : MethodId} {args : Array Value} {below : List Frame} {meth : Method} {c : Code} {A : Nat → Prop} (E : zE Z p s m args meth c RX7 cX7_read 3 none A) {Am : Nat → Nat} {v1 : Int32} {m_thrown : Int32} {m_s : (Nat → Int32)} {m_saved : (Nat → Int32)} {m_savedMany : Int32} {m_aside : (Nat → Int32)} {m_sent : (Nat → Int32)} {m_text : (Nat → Int32)} {m_length : Int32} {m_way : (Nat → Int32)} {m_crossed : Int32} {m_wayCost : Int32} {m_isWay : Int32} {m_next : Int32} {m_start : Int32} {m_token : Int32} {m_number : Int32} {m_letters : Int64} {m_isWrong : Int32} {m_sums : (Nat → Int32)} {m_steps : (Nat → Int32)} {m_chosen : Int32} {m_passed : (Nat → Int32)} {m_passedMany : Int32} {m_passedCost : Int32} {m_reach : (Nat → Int32)} {res : Int32 × Int32 × Int32 × Int32 × Int64}  {H : Heap} {locs : List Loc} {ls : Array Slot} (hw : zW Z A (wX7 Z Am m_thrown m_s m_saved m_savedMany m_aside m_sent m_text m_length m_way m_crossed m_wayCost m_isWay m_next m_start m_token m_number m_letters m_isWrong m_sums m_steps m_chosen m_passed m_passedMany m_passedCost m_reach) s.heap H locs) (hl : lv_has ls 3 [(0, .ref (Am 0)), (1, .int v1)]) (h : uX7_read_262 v1 m_next m_start m_token m_letters = some res) : W p l e rmX7_read s m args below meth c H locs 0 0 (MQ below (zQv Z (wX7 Z Am m_thrown m_s m_saved m_savedMany m_aside m_sent m_text m_length m_way m_crossed m_wayCost m_isWay res.1 res.2.1 res.2.2.1 res.2.2.2.1 res.2.2.2.2 m_isWrong m_sums m_steps m_chosen m_passed m_passedMany m_passedCost m_reach) A) args s 0 0 A) (F0 m 262 ls []) := by
  unfold uX7_read_262 at h
  refine r_iconst E 1 dX7_read_262 (by decide) ?_
  refine r_goto E 267 dX7_read_263 (by decide) ?_
  exact vX7_read_267 E  hw hl h
set_option maxRecDepth 100000 in
set_option maxHeartbeats 4000000 in
theorem vX7_read_266 {Z : zT} {p : Program} {l : Launch} {e : Env} {s : State} {m : MethodId} {args : Array Value} {below : List Frame} {meth : Method} {c : Code} {A : Nat → Prop} (E : zE Z p s m args meth c RX7 cX7_read 3 none A) {Am : Nat → Nat} {v1 : Int32} {m_thrown : Int32} {m_s : (Nat → Int32)} {m_saved : (Nat → Int32)} {m_savedMany : Int32} {m_aside : (Nat → Int32)} {m_sent : (Nat → Int32)} {m_text : (Nat → Int32)} {m_length : Int32} {m_way : (Nat → Int32)} {m_crossed : Int32} {m_wayCost : Int32} {m_isWay : Int32} {m_next : Int32} {m_start : Int32} {m_token : Int32} {m_number : Int32} {m_letters : Int64} {m_isWrong : Int32} {m_sums : (Nat → Int32)} {m_steps : (Nat → Int32)} {m_chosen : Int32} {m_passed : (Nat → Int32)} {m_passedMany : Int32} {m_passedCost : Int32} {m_reach : (Nat → Int32)} {res : Int32 × Int32 × Int32 × Int32 × Int64}  {H : Heap} {locs : List Loc} {ls : Array Slot} (hw : zW Z A (wX7 Z Am m_thrown m_s m_saved m_savedMany m_aside m_sent m_text m_length m_way m_crossed m_wayCost m_isWay m_next m_start m_token m_number m_letters m_isWrong m_sums m_steps m_chosen m_passed m_passedMany m_passedCost m_reach) s.heap H locs) (hl : lv_has ls 3 [(0, .ref (Am 0)), (1, .int v1)]) (h : uX7_read_266 v1 m_next m_start m_token m_letters = some res) : W p l e rmX7_read s m args below meth c H locs 0 0 (MQ below (zQv Z (wX7 Z Am m_thrown m_s m_saved m_savedMany m_aside m_sent m_text m_length m_way m_crossed m_wayCost m_isWay res.1 res.2.1 res.2.2.1 res.2.2.2.1 res.2.2.2.2 m_isWrong m_sums m_steps m_chosen m_passed m_passedMany m_passedCost m_reach) A) args s 0 0 A) (F0 m 266 ls []) := by
  unfold uX7_read_266 at h
  refine r_iconst E 0 dX7_read_266 (by decide) ?_
  exact vX7_read_267 E  hw hl h
set_option maxRecDepth 100000 in
set_option maxHeartbeats 4000000 in
theorem vX7_read_222 {Z : zT} {p : Program} {l : Launch} {e : Env} {s : State} {m : MethodId} {args : Array Value} {below : List Frame} {meth : Method} {c : Code} {A : Nat → Prop} (E : zE Z p s m args meth c RX7 cX7_read 3 none A) {Am : Nat → Nat} {v1 : Int32} {m_thrown : Int32} {m_s : (Nat → Int32)} {m_saved : (Nat → Int32)} {m_savedMany : Int32} {m_aside : (Nat → Int32)} {m_sent : (Nat → Int32)} {m_text : (Nat → Int32)} {m_length : Int32} {m_way : (Nat → Int32)} {m_crossed : Int32} {m_wayCost : Int32} {m_isWay : Int32} {m_next : Int32} {m_start : Int32} {m_token : Int32} {m_number : Int32} {m_letters : Int64} {m_isWrong : Int32} {m_sums : (Nat → Int32)} {m_steps : (Nat → Int32)} {m_chosen : Int32} {m_passed : (Nat → Int32)} {m_passedMany : Int32} {m_passedCost : Int32} {m_reach : (Nat → Int32)} {res : Int32 × Int32 × Int32 × Int32 × Int64}  {H : Heap} {locs : List Loc} {ls : Array Slot} (hw : zW Z A (wX7 Z Am m_thrown m_s m_saved m_savedMany m_aside m_sent m_text m_length m_way m_crossed m_wayCost m_isWay m_next m_start m_token m_number m_letters m_isWrong m_sums m_steps m_chosen m_passed m_passedMany m_passedCost m_reach) s.heap H locs) (hl : lv_has ls 3 [(0, .ref (Am 0)), (1, .int v1)]) (h : uX7_read_222 v1 m_text m_next m_start m_token m_letters = some res) : W p l e rmX7_read s m args below meth c H locs 0 0 (MQ below (zQv Z (wX7 Z Am m_thrown m_s m_saved m_savedMany m_aside m_sent m_text m_length m_way m_crossed m_wayCost m_isWay res.1 res.2.1 res.2.2.1 res.2.2.2.1 res.2.2.2.2 m_isWrong m_sums m_steps m_chosen m_passed m_passedMany m_passedCost m_reach) A) args s 0 0 A) (F0 m 222 ls []) := by
  unfold uX7_read_222 at h
  refine r_aload_n E hl 0 rfl dX7_read_222 rfl ?_
  refine r_get E kW_X7 hw 0 rfl rfl 12 (by decide) kF_X7_154 rfl dX7_read_223 ?_
  refine r_aload_n E hl 0 rfl dX7_read_226 rfl ?_
  refine r_get E kW_X7 hw 0 rfl rfl 13 (by decide) kF_X7_161 rfl dX7_read_227 ?_
  refine r_isub E dX7_read_230 ?_
  refine r_iconst E 1 dX7_read_231 (by decide) ?_
  refine r_icmp_eq E 262 dX7_read_232 (by decide) (fun hc => ?_) (fun hc => ?_)
  · replace h := ite_t hc h
    exact vX7_read_262 E  hw hl h
  · replace h := ite_f hc h
    refine r_aload_n E hl 0 rfl dX7_read_235 rfl ?_
    refine r_get E kW_X7 hw 0 rfl rfl 12 (by decide) kF_X7_154 rfl dX7_read_236 ?_
    refine r_aload_n E hl 0 rfl dX7_read_239 rfl ?_
    refine r_get E kW_X7 hw 0 rfl rfl 13 (by decide) kF_X7_161 rfl dX7_read_240 ?_
    refine r_isub E dX7_read_243 ?_
    refine r_iconst E 2 dX7_read_244 (by decide) ?_
    refine r_icmp_ne E 266 dX7_read_245 (by decide) (fun hc => ?_) (fun hc => ?_)
    · replace h := ite_f hc h
      exact vX7_read_266 E  hw hl h
    · replace h := ite_t hc h
      refine r_aload_n E hl 0 rfl dX7_read_248 rfl ?_
      refine r_get E kW_X7 hw 0 rfl rfl 6 (by decide) kF_X7_22 rfl dX7_read_249 ?_
      refine r_aload_n E hl 0 rfl dX7_read_252 rfl ?_
      refine r_get E kW_X7 hw 0 rfl rfl 13 (by decide) kF_X7_161 rfl dX7_read_253 ?_
      obtain ⟨hg10, h⟩ := gd_some h
      refine r_iald E hw 5 rfl hg10 dX7_read_256 ?_
      refine r_bipush E 48 dX7_read_257 (by decide) ?_
      refine r_icmp_eq E 266 dX7_read_259 (by decide) (fun hc => ?_) (fun hc => ?_)
      · replace h := ite_t hc h
        exact vX7_read_266 E  hw hl h
      · replace h := ite_f hc h
        exact vX7_read_262 E  hw hl h
set_option maxRecDepth 100000 in
set_option maxHeartbeats 4000000 in
theorem vX7_read_208 {Z : zT} {p : Program} {l : Launch} {e : Env} {s : State} {m : MethodId} {args : Array Value} {below : List Frame} {meth : Method} {c : Code} {A : Nat → Prop} (E : zE Z p s m args meth c RX7 cX7_read 3 none A) {Am : Nat → Nat} {k0 : Int32} {m_thrown : Int32} {m_s : (Nat → Int32)} {m_saved : (Nat → Int32)} {m_savedMany : Int32} {m_aside : (Nat → Int32)} {m_sent : (Nat → Int32)} {m_text : (Nat → Int32)} {m_length : Int32} {m_way : (Nat → Int32)} {m_crossed : Int32} {m_wayCost : Int32} {m_isWay : Int32} {m_next : Int32} {m_start : Int32} {m_token : Int32} {m_number : Int32} {m_letters : Int64} {m_isWrong : Int32} {m_sums : (Nat → Int32)} {m_steps : (Nat → Int32)} {m_chosen : Int32} {m_passed : (Nat → Int32)} {m_passedMany : Int32} {m_passedCost : Int32} {m_reach : (Nat → Int32)} {res : Int32 × Int32 × Int32 × Int32 × Int64} {q1 : (Int32 × Int32) ⊕ (Int32 × Int32 × Int32 × Int32 × Int64)} (hb1 : ∀ b : Int32 × Int32, q1 = .inl b → ∀ (H : Heap) (locs : List Loc) (ls : Array Slot), zW Z A (wX7 Z Am m_thrown m_s m_saved m_savedMany m_aside m_sent m_text m_length m_way m_crossed m_wayCost m_isWay b.2 m_start m_token m_number m_letters m_isWrong m_sums m_steps m_chosen m_passed m_passedMany m_passedCost m_reach) s.heap H locs → lv_has ls 3 [(0, .ref (Am 0)), (1, .int b.1)] → W p l e rmX7_read s m args below meth c H locs 0 0 (MQ below (zQv Z (wX7 Z Am m_thrown m_s m_saved m_savedMany m_aside m_sent m_text m_length m_way m_crossed m_wayCost m_isWay res.1 res.2.1 res.2.2.1 res.2.2.2.1 res.2.2.2.2 m_isWrong m_sums m_steps m_chosen m_passed m_passedMany m_passedCost m_reach) A) args s 0 0 A) (F0 m 165 ls [])) (hr1 : ∀ r' , q1 = .inr r' → r' = res) {H : Heap} {locs : List Loc} {ls : Array Slot} (hw : zW Z A (wX7 Z Am m_thrown m_s m_saved m_savedMany m_aside m_sent m_text m_length m_way m_crossed m_wayCost m_isWay m_next m_start m_token m_number m_letters m_isWrong m_sums m_steps m_chosen m_passed m_passedMany m_passedCost m_reach) s.heap H locs) (hl : lv_has ls 3 [(0, .ref (Am 0))]) (h : uX7_read_208 k0 m_next = some q1) : W p l e rmX7_read s m args below meth c H locs 0 0 (MQ below (zQv Z (wX7 Z Am m_thrown m_s m_saved m_savedMany m_aside m_sent m_text m_length m_way m_crossed m_wayCost m_isWay res.1 res.2.1 res.2.2.1 res.2.2.2.1 res.2.2.2.2 m_isWrong m_sums m_steps m_chosen m_passed m_passedMany m_passedCost m_reach) A) args s 0 0 A) (F0 m 208 ls [.int k0]) := by
  unfold uX7_read_208 at h
  refine r_istore_n E [(1, .int k0), (0, .ref (Am 0))] hl dX7_read_208 rfl (by decide) rfl (fun ls hl => ?_)
  refine r_aload_n E hl 1 rfl dX7_read_209 rfl ?_
  refine r_dup E dX7_read_210 rfl ?_
  refine r_get E kW_X7 hw 0 rfl rfl 12 (by decide) kF_X7_154 rfl dX7_read_211 ?_
  refine r_iconst E 1 dX7_read_214 (by decide) ?_
  refine r_iadd E dX7_read_215 ?_
  refine r_put E (wX7 Z Am m_thrown m_s m_saved m_savedMany m_aside m_sent m_text m_length m_way m_crossed m_wayCost m_isWay (m_next + (1 : Int32)) m_start m_token m_number m_letters m_isWrong m_sums m_steps m_chosen m_passed m_passedMany m_passedCost m_reach) kW_X7 tyX7_ok nmX7 hw 0 rfl rfl 12 (by decide) kF_X7_154 rfl rfl rfl (Nat.le_of_ble_eq_true rfl) rfl dX7_read_216 (fun H locs hw => ?_)
  refine r_goto E 165 dX7_read_219 (by decide) ?_
  exact hb1 _ (Option.some.inj h).symm _ _ _ hw (lv_sub hl [1, 0] rfl)
set_option maxRecDepth 100000 in
set_option maxHeartbeats 4000000 in
theorem tX7_read_165 {Z : zT} {p : Program} {l : Launch} {e : Env} {s : State} {m : MethodId} {args : Array Value} {below : List Frame} {meth : Method} {c : Code} {A : Nat → Prop} (E : zE Z p s m args meth c RX7 cX7_read 3 none A) {Am : Nat → Nat} {m_thrown : Int32} {m_s : (Nat → Int32)} {m_saved : (Nat → Int32)} {m_savedMany : Int32} {m_aside : (Nat → Int32)} {m_sent : (Nat → Int32)} {m_text : (Nat → Int32)} {m_length : Int32} {m_way : (Nat → Int32)} {m_crossed : Int32} {m_wayCost : Int32} {m_isWay : Int32} {m_start : Int32} {m_token : Int32} {m_number : Int32} {m_letters : Int64} {m_isWrong : Int32} {m_sums : (Nat → Int32)} {m_steps : (Nat → Int32)} {m_chosen : Int32} {m_passed : (Nat → Int32)} {m_passedMany : Int32} {m_passedCost : Int32} {m_reach : (Nat → Int32)} {res : Int32 × Int32 × Int32 × Int32 × Int64}  : ∀ (n : Nat) (v1 : Int32) (m_next : Int32) (H : Heap) (locs : List Loc) (ls : Array Slot), iter (fun b : Int32 × Int32 => sX7_read_165 m_text m_length m_start m_token m_letters b.1 b.2) n (v1, m_next) = some res → zW Z A (wX7 Z Am m_thrown m_s m_saved m_savedMany m_aside m_sent m_text m_length m_way m_crossed m_wayCost m_isWay m_next m_start m_token m_number m_letters m_isWrong m_sums m_steps m_chosen m_passed m_passedMany m_passedCost m_reach) s.heap H locs → lv_has ls 3 [(0, .ref (Am 0)), (1, .int v1)] → W p l e rmX7_read s m args below meth c H locs 0 0 (MQ below (zQv Z (wX7 Z Am m_thrown m_s m_saved m_savedMany m_aside m_sent m_text m_length m_way m_crossed m_wayCost m_isWay res.1 res.2.1 res.2.2.1 res.2.2.2.1 res.2.2.2.2 m_isWrong m_sums m_steps m_chosen m_passed m_passedMany m_passedCost m_reach) A) args s 0 0 A) (F0 m 165 ls []) := by
  intro n
  induction n with
  | zero => intro v1 m_next H locs ls h; cases h
  | succ n ih =>
    intro v1 m_next H locs ls h hw hl
    obtain ⟨q1, h, hn1, hr1⟩ := iter_out h
    have hb1 : ∀ b : Int32 × Int32, q1 = .inl b → ∀ (H : Heap) (locs : List Loc) (ls : Array Slot), zW Z A (wX7 Z Am m_thrown m_s m_saved m_savedMany m_aside m_sent m_text m_length m_way m_crossed m_wayCost m_isWay b.2 m_start m_token m_number m_letters m_isWrong m_sums m_steps m_chosen m_passed m_passedMany m_passedCost m_reach) s.heap H locs → lv_has ls 3 [(0, .ref (Am 0)), (1, .int b.1)] → W p l e rmX7_read s m args below meth c H locs 0 0 (MQ below (zQv Z (wX7 Z Am m_thrown m_s m_saved m_savedMany m_aside m_sent m_text m_length m_way m_crossed m_wayCost m_isWay res.1 res.2.1 res.2.2.1 res.2.2.2.1 res.2.2.2.2 m_isWrong m_sums m_steps m_chosen m_passed m_passedMany m_passedCost m_reach) A) args s 0 0 A) (F0 m 165 ls []) := fun b eb H locs ls hw hl => ih b.1 b.2 H locs ls (hn1 b eb) hw hl
    replace h : sX7_read_165 m_text m_length m_start m_token m_letters v1 m_next = some q1 := h
    unfold sX7_read_165 at h
    refine r_aload_n E hl 0 rfl dX7_read_165 rfl ?_
    obtain ⟨y8, hy8, h⟩ := bd_some h
    refine r_callVAi E hw (mX7_here l Z _ Am m_thrown m_s m_saved m_savedMany m_aside m_sent m_text m_length m_way m_crossed m_wayCost m_isWay m_next m_start m_token m_number m_letters m_isWrong m_sums m_steps m_chosen m_passed m_passedMany m_passedCost m_reach hy8) kL_X7_157 kI_X7_here kS_X7_here kN_X7 kC_X7_here rfl rfl hdX7_here ⟨Nat.le_of_ble_eq_true rfl, Nat.le_of_ble_eq_true rfl⟩ 0 rfl rfl rfl rfl hl [] rfl (Nat.le_of_ble_eq_true rfl) dX7_read_166 ⟨Nat.zero_le _, Nat.zero_le _⟩ (fun H locs hw => ?_)
    refine r_bipush E 48 dX7_read_169 (by decide) ?_
    refine r_bipush E 57 dX7_read_171 (by decide) ?_
    obtain ⟨y9, hy9, h⟩ := bd_some h
    refine r_callS0i E hw (mX7_in l Z _ y8 (48 : Int32) (57 : Int32) hy9) kL_X7_58 kT_X7_in kN_X7 kC_X7_in rfl rfl hdX7_in ⟨Nat.le_of_ble_eq_true rfl, Nat.le_of_ble_eq_true rfl⟩ rfl hl [] rfl (Nat.le_of_ble_eq_true rfl) dX7_read_173 ⟨Nat.zero_le _, Nat.zero_le _⟩ (fun H locs hw => ?_)
    refine r_if_eq E 222 dX7_read_176 (by decide) (fun hc => ?_) (fun hc => ?_)
    · replace h := ite_t hc h
      obtain ⟨ro11, h, hro11⟩ := oi_some h
      rw [hr1 _ hro11] at h
      exact vX7_read_222 E  hw hl h
    · replace h := ite_f hc h
      refine r_aload_n E hl 0 rfl dX7_read_179 rfl ?_
      refine r_get E kW_X7 hw 0 rfl rfl 12 (by decide) kF_X7_154 rfl dX7_read_180 ?_
      refine r_aload_n E hl 0 rfl dX7_read_183 rfl ?_
      refine r_get E kW_X7 hw 0 rfl rfl 13 (by decide) kF_X7_161 rfl dX7_read_184 ?_
      refine r_isub E dX7_read_187 ?_
      refine r_iconst E 2 dX7_read_188 (by decide) ?_
      refine r_icmp_ge E 207 dX7_read_189 (by decide) (fun hc => ?_) (fun hc => ?_)
      · replace h := ite_t hc h
        refine r_iload_n E hl 1 rfl dX7_read_207 rfl ?_
        exact vX7_read_208 E hb1 hr1 hw (lv_sub hl [0] rfl) h
      · replace h := ite_f hc h
        refine r_bipush E 10 dX7_read_192 (by decide) ?_
        refine r_iload_n E hl 1 rfl dX7_read_194 rfl ?_
        refine r_imul E dX7_read_195 ?_
        refine r_aload_n E hl 0 rfl dX7_read_196 rfl ?_
        obtain ⟨y12, hy12, h⟩ := bd_some h
        refine r_callVAi E hw (mX7_here l Z _ Am m_thrown m_s m_saved m_savedMany m_aside m_sent m_text m_length m_way m_crossed m_wayCost m_isWay m_next m_start m_token m_number m_letters m_isWrong m_sums m_steps m_chosen m_passed m_passedMany m_passedCost m_reach hy12) kL_X7_157 kI_X7_here kS_X7_here kN_X7 kC_X7_here rfl rfl hdX7_here ⟨Nat.le_of_ble_eq_true rfl, Nat.le_of_ble_eq_true rfl⟩ 0 rfl rfl rfl rfl hl [.int ((10 : Int32) * v1)] rfl (Nat.le_of_ble_eq_true rfl) dX7_read_197 ⟨Nat.zero_le _, Nat.zero_le _⟩ (fun H locs hw => ?_)
        refine r_iadd E dX7_read_200 ?_
        refine r_bipush E 48 dX7_read_201 (by decide) ?_
        refine r_isub E dX7_read_203 ?_
        refine r_goto E 208 dX7_read_204 (by decide) ?_
        exact vX7_read_208 E hb1 hr1 hw (lv_sub hl [0] rfl) h
set_option maxRecDepth 100000 in
set_option maxHeartbeats 4000000 in
theorem vX7_read_128 {Z : zT} {p : Program} {l : Launch} {e : Env} {s : State} {m : MethodId} {args : Array Value} {below : List Frame} {meth : Method} {c : Code} {A : Nat → Prop} (E : zE Z p s m args meth c RX7 cX7_read 3 none A) {Am : Nat → Nat} {k1 : Int64} {m_thrown : Int32} {m_s : (Nat → Int32)} {m_saved : (Nat → Int32)} {m_savedMany : Int32} {m_aside : (Nat → Int32)} {m_sent : (Nat → Int32)} {m_text : (Nat → Int32)} {m_length : Int32} {m_way : (Nat → Int32)} {m_crossed : Int32} {m_wayCost : Int32} {m_isWay : Int32} {m_next : Int32} {m_start : Int32} {m_token : Int32} {m_number : Int32} {m_letters : Int64} {m_isWrong : Int32} {m_sums : (Nat → Int32)} {m_steps : (Nat → Int32)} {m_chosen : Int32} {m_passed : (Nat → Int32)} {m_passedMany : Int32} {m_passedCost : Int32} {m_reach : (Nat → Int32)} {res : Int32 × Int32 × Int32 × Int32 × Int64} {q1 : (Int32 × Int64) ⊕ (Int32 × Int32 × Int32 × Int32 × Int64)} (hb1 : ∀ b : Int32 × Int64, q1 = .inl b → ∀ (H : Heap) (locs : List Loc) (ls : Array Slot), zW Z A (wX7 Z Am m_thrown m_s m_saved m_savedMany m_aside m_sent m_text m_length m_way m_crossed m_wayCost m_isWay b.1 m_start m_token m_number b.2 m_isWrong m_sums m_steps m_chosen m_passed m_passedMany m_passedCost m_reach) s.heap H locs → lv_has ls 3 [(0, .ref (Am 0))] → W p l e rmX7_read s m args below meth c H locs 0 0 (MQ below (zQv Z (wX7 Z Am m_thrown m_s m_saved m_savedMany m_aside m_sent m_text m_length m_way m_crossed m_wayCost m_isWay res.1 res.2.1 res.2.2.1 res.2.2.2.1 res.2.2.2.2 m_isWrong m_sums m_steps m_chosen m_passed m_passedMany m_passedCost m_reach) A) args s 0 0 A) (F0 m 75 ls [])) (hr1 : ∀ r' , q1 = .inr r' → r' = res) {H : Heap} {locs : List Loc} {ls : Array Slot} (hw : zW Z A (wX7 Z Am m_thrown m_s m_saved m_savedMany m_aside m_sent m_text m_length m_way m_crossed m_wayCost m_isWay m_next m_start m_token m_number m_letters m_isWrong m_sums m_steps m_chosen m_passed m_passedMany m_passedCost m_reach) s.heap H locs) (hl : lv_has ls 3 [(0, .ref (Am 0))]) (h : uX7_read_128 k1 m_next = some q1) : W p l e rmX7_read s m args below meth c H locs 0 0 (MQ below (zQv Z (wX7 Z Am m_thrown m_s m_saved m_savedMany m_aside m_sent m_text m_length m_way m_crossed m_wayCost m_isWay res.1 res.2.1 res.2.2.1 res.2.2.2.1 res.2.2.2.2 m_isWrong m_sums m_steps m_chosen m_passed m_passedMany m_passedCost m_reach) A) args s 0 0 A) (F0 m 128 ls [.long k1, .ref (Am 0)]) := by
  unfold uX7_read_128 at h
  refine r_put E (wX7 Z Am m_thrown m_s m_saved m_savedMany m_aside m_sent m_text m_length m_way m_crossed m_wayCost m_isWay m_next m_start m_token m_number k1 m_isWrong m_sums m_steps m_chosen m_passed m_passedMany m_passedCost m_reach) kW_X7 tyX7_ok nmX7 hw 0 rfl rfl 16 (by decide) kF_X7_170 rfl rfl rfl (Nat.le_of_ble_eq_true rfl) rfl dX7_read_128 (fun H locs hw => ?_)
  refine r_aload_n E hl 0 rfl dX7_read_131 rfl ?_
  refine r_dup E dX7_read_132 rfl ?_
  refine r_get E kW_X7 hw 0 rfl rfl 12 (by decide) kF_X7_154 rfl dX7_read_133 ?_
  refine r_iconst E 1 dX7_read_136 (by decide) ?_
  refine r_iadd E dX7_read_137 ?_
  refine r_put E (wX7 Z Am m_thrown m_s m_saved m_savedMany m_aside m_sent m_text m_length m_way m_crossed m_wayCost m_isWay (m_next + (1 : Int32)) m_start m_token m_number k1 m_isWrong m_sums m_steps m_chosen m_passed m_passedMany m_passedCost m_reach) kW_X7 tyX7_ok nmX7 hw 0 rfl rfl 12 (by decide) kF_X7_154 rfl rfl rfl (Nat.le_of_ble_eq_true rfl) rfl dX7_read_138 (fun H locs hw => ?_)
  refine r_goto E 75 dX7_read_141 (by decide) ?_
  exact hb1 _ (Option.some.inj h).symm _ _ _ hw hl
set_option maxRecDepth 100000 in
set_option maxHeartbeats 4000000 in
theorem tX7_read_75 {Z : zT} {p : Program} {l : Launch} {e : Env} {s : State} {m : MethodId} {args : Array Value} {below : List Frame} {meth : Method} {c : Code} {A : Nat → Prop} (E : zE Z p s m args meth c RX7 cX7_read 3 none A) {Am : Nat → Nat} {m_thrown : Int32} {m_s : (Nat → Int32)} {m_saved : (Nat → Int32)} {m_savedMany : Int32} {m_aside : (Nat → Int32)} {m_sent : (Nat → Int32)} {m_text : (Nat → Int32)} {m_length : Int32} {m_way : (Nat → Int32)} {m_crossed : Int32} {m_wayCost : Int32} {m_isWay : Int32} {m_start : Int32} {m_token : Int32} {m_number : Int32} {m_isWrong : Int32} {m_sums : (Nat → Int32)} {m_steps : (Nat → Int32)} {m_chosen : Int32} {m_passed : (Nat → Int32)} {m_passedMany : Int32} {m_passedCost : Int32} {m_reach : (Nat → Int32)} {res : Int32 × Int32 × Int32 × Int32 × Int64}  : ∀ (n : Nat) (m_next : Int32) (m_letters : Int64) (H : Heap) (locs : List Loc) (ls : Array Slot), iter (fun b : Int32 × Int64 => sX7_read_75 m_text m_length m_start m_token m_number b.1 b.2) n (m_next, m_letters) = some res → zW Z A (wX7 Z Am m_thrown m_s m_saved m_savedMany m_aside m_sent m_text m_length m_way m_crossed m_wayCost m_isWay m_next m_start m_token m_number m_letters m_isWrong m_sums m_steps m_chosen m_passed m_passedMany m_passedCost m_reach) s.heap H locs → lv_has ls 3 [(0, .ref (Am 0))] → W p l e rmX7_read s m args below meth c H locs 0 0 (MQ below (zQv Z (wX7 Z Am m_thrown m_s m_saved m_savedMany m_aside m_sent m_text m_length m_way m_crossed m_wayCost m_isWay res.1 res.2.1 res.2.2.1 res.2.2.2.1 res.2.2.2.2 m_isWrong m_sums m_steps m_chosen m_passed m_passedMany m_passedCost m_reach) A) args s 0 0 A) (F0 m 75 ls []) := by
  intro n
  induction n with
  | zero => intro m_next m_letters H locs ls h; cases h
  | succ n ih =>
    intro m_next m_letters H locs ls h hw hl
    obtain ⟨q1, h, hn1, hr1⟩ := iter_out h
    have hb1 : ∀ b : Int32 × Int64, q1 = .inl b → ∀ (H : Heap) (locs : List Loc) (ls : Array Slot), zW Z A (wX7 Z Am m_thrown m_s m_saved m_savedMany m_aside m_sent m_text m_length m_way m_crossed m_wayCost m_isWay b.1 m_start m_token m_number b.2 m_isWrong m_sums m_steps m_chosen m_passed m_passedMany m_passedCost m_reach) s.heap H locs → lv_has ls 3 [(0, .ref (Am 0))] → W p l e rmX7_read s m args below meth c H locs 0 0 (MQ below (zQv Z (wX7 Z Am m_thrown m_s m_saved m_savedMany m_aside m_sent m_text m_length m_way m_crossed m_wayCost m_isWay res.1 res.2.1 res.2.2.1 res.2.2.2.1 res.2.2.2.2 m_isWrong m_sums m_steps m_chosen m_passed m_passedMany m_passedCost m_reach) A) args s 0 0 A) (F0 m 75 ls []) := fun b eb H locs ls hw hl => ih b.1 b.2 H locs ls (hn1 b eb) hw hl
    replace h : sX7_read_75 m_text m_length m_start m_token m_number m_next m_letters = some q1 := h
    unfold sX7_read_75 at h
    refine r_aload_n E hl 0 rfl dX7_read_75 rfl ?_
    obtain ⟨y14, hy14, h⟩ := bd_some h
    refine r_callVAi E hw (mX7_here l Z _ Am m_thrown m_s m_saved m_savedMany m_aside m_sent m_text m_length m_way m_crossed m_wayCost m_isWay m_next m_start m_token m_number m_letters m_isWrong m_sums m_steps m_chosen m_passed m_passedMany m_passedCost m_reach hy14) kL_X7_157 kI_X7_here kS_X7_here kN_X7 kC_X7_here rfl rfl hdX7_here ⟨Nat.le_of_ble_eq_true rfl, Nat.le_of_ble_eq_true rfl⟩ 0 rfl rfl rfl rfl hl [] rfl (Nat.le_of_ble_eq_true rfl) dX7_read_76 ⟨Nat.zero_le _, Nat.zero_le _⟩ (fun H locs hw => ?_)
    refine r_bipush E 97 dX7_read_79 (by decide) ?_
    refine r_bipush E 122 dX7_read_81 (by decide) ?_
    obtain ⟨y15, hy15, h⟩ := bd_some h
    refine r_callS0i E hw (mX7_in l Z _ y14 (97 : Int32) (122 : Int32) hy15) kL_X7_58 kT_X7_in kN_X7 kC_X7_in rfl rfl hdX7_in ⟨Nat.le_of_ble_eq_true rfl, Nat.le_of_ble_eq_true rfl⟩ rfl hl [] rfl (Nat.le_of_ble_eq_true rfl) dX7_read_83 ⟨Nat.zero_le _, Nat.zero_le _⟩ (fun H locs hw => ?_)
    refine r_if_eq E 301 dX7_read_86 (by decide) (fun hc => ?_) (fun hc => ?_)
    · replace h := ite_t hc h
      obtain ⟨ro16, h, hro16⟩ := oi_some h
      rw [hr1 _ hro16] at h
      obtain rfl := Option.some.inj h
      exact r_vret E hw dX7_read_301
    · replace h := ite_f hc h
      refine r_aload_n E hl 0 rfl dX7_read_89 rfl ?_
      refine r_aload_n E hl 0 rfl dX7_read_90 rfl ?_
      refine r_get E kW_X7 hw 0 rfl rfl 12 (by decide) kF_X7_154 rfl dX7_read_91 ?_
      refine r_aload_n E hl 0 rfl dX7_read_94 rfl ?_
      refine r_get E kW_X7 hw 0 rfl rfl 13 (by decide) kF_X7_161 rfl dX7_read_95 ?_
      refine r_isub E dX7_read_98 ?_
      refine r_bipush E 8 dX7_read_99 (by decide) ?_
      refine r_icmp_ge E 127 dX7_read_101 (by decide) (fun hc => ?_) (fun hc => ?_)
      · replace h := ite_t hc h
        refine r_lconst E 0 dX7_read_127 (by decide) ?_
        exact vX7_read_128 E hb1 hr1 hw hl h
      · replace h := ite_f hc h
        refine r_ldc2 E (27) kQ_X7_174 dX7_read_104 ?_
        refine r_aload_n E hl 0 rfl dX7_read_107 rfl ?_
        refine r_get E kW_X7 hw 0 rfl rfl 16 (by decide) kF_X7_170 rfl dX7_read_108 ?_
        refine r_lmul E dX7_read_111 ?_
        refine r_aload_n E hl 0 rfl dX7_read_112 rfl ?_
        obtain ⟨y17, hy17, h⟩ := bd_some h
        refine r_callVAi E hw (mX7_here l Z _ Am m_thrown m_s m_saved m_savedMany m_aside m_sent m_text m_length m_way m_crossed m_wayCost m_isWay m_next m_start m_token m_number m_letters m_isWrong m_sums m_steps m_chosen m_passed m_passedMany m_passedCost m_reach hy17) kL_X7_157 kI_X7_here kS_X7_here kN_X7 kC_X7_here rfl rfl hdX7_here ⟨Nat.le_of_ble_eq_true rfl, Nat.le_of_ble_eq_true rfl⟩ 0 rfl rfl rfl rfl hl [.long ((27 : Int64) * m_letters), .ref (Am 0)] rfl (Nat.le_of_ble_eq_true rfl) dX7_read_113 ⟨Nat.zero_le _, Nat.zero_le _⟩ (fun H locs hw => ?_)
        refine r_i2l E dX7_read_116 ?_
        refine r_ladd E dX7_read_117 ?_
        refine r_ldc2 E (97) kQ_X7_176 dX7_read_118 ?_
        refine r_lsub E dX7_read_121 ?_
        refine r_lconst E 1 dX7_read_122 (by decide) ?_
        refine r_ladd E dX7_read_123 ?_
        refine r_goto E 128 dX7_read_124 (by decide) ?_
        exact vX7_read_128 E hb1 hr1 hw hl h
set_option maxRecDepth 100000 in
set_option maxHeartbeats 4000000 in
theorem vX7_read_43 {Z : zT} {p : Program} {l : Launch} {e : Env} {s : State} {m : MethodId} {args : Array Value} {below : List Frame} {meth : Method} {c : Code} {A : Nat → Prop} (E : zE Z p s m args meth c RX7 cX7_read 3 none A) {Am : Nat → Nat} {k1 : Int32} {m_thrown : Int32} {m_s : (Nat → Int32)} {m_saved : (Nat → Int32)} {m_savedMany : Int32} {m_aside : (Nat → Int32)} {m_sent : (Nat → Int32)} {m_text : (Nat → Int32)} {m_length : Int32} {m_way : (Nat → Int32)} {m_crossed : Int32} {m_wayCost : Int32} {m_isWay : Int32} {m_next : Int32} {m_start : Int32} {m_token : Int32} {m_number : Int32} {m_letters : Int64} {m_isWrong : Int32} {m_sums : (Nat → Int32)} {m_steps : (Nat → Int32)} {m_chosen : Int32} {m_passed : (Nat → Int32)} {m_passedMany : Int32} {m_passedCost : Int32} {m_reach : (Nat → Int32)} {res : Int32 × Int32 × Int32 × Int32 × Int64}  {H : Heap} {locs : List Loc} {ls : Array Slot} (hw : zW Z A (wX7 Z Am m_thrown m_s m_saved m_savedMany m_aside m_sent m_text m_length m_way m_crossed m_wayCost m_isWay m_next m_start m_token m_number m_letters m_isWrong m_sums m_steps m_chosen m_passed m_passedMany m_passedCost m_reach) s.heap H locs) (hl : lv_has ls 3 [(0, .ref (Am 0))]) (h : uX7_read_43 k1 m_text m_length m_next m_start = some res) : W p l e rmX7_read s m args below meth c H locs 0 0 (MQ below (zQv Z (wX7 Z Am m_thrown m_s m_saved m_savedMany m_aside m_sent m_text m_length m_way m_crossed m_wayCost m_isWay res.1 res.2.1 res.2.2.1 res.2.2.2.1 res.2.2.2.2 m_isWrong m_sums m_steps m_chosen m_passed m_passedMany m_passedCost m_reach) A) args s 0 0 A) (F0 m 43 ls [.int k1, .ref (Am 0)]) := by
  unfold uX7_read_43 at h
  refine r_put E (wX7 Z Am m_thrown m_s m_saved m_savedMany m_aside m_sent m_text m_length m_way m_crossed m_wayCost m_isWay m_next m_start k1 m_number m_letters m_isWrong m_sums m_steps m_chosen m_passed m_passedMany m_passedCost m_reach) kW_X7 tyX7_ok nmX7 hw 0 rfl rfl 14 (by decide) kF_X7_164 rfl rfl rfl (Nat.le_of_ble_eq_true rfl) rfl dX7_read_43 (fun H locs hw => ?_)
  refine r_aload_n E hl 0 rfl dX7_read_46 rfl ?_
  refine r_iconst E (-1) dX7_read_47 (by decide) ?_
  refine r_put E (wX7 Z Am m_thrown m_s m_saved m_savedMany m_aside m_sent m_text m_length m_way m_crossed m_wayCost m_isWay m_next m_start k1 (-1 : Int32) m_letters m_isWrong m_sums m_steps m_chosen m_passed m_passedMany m_passedCost m_reach) kW_X7 tyX7_ok nmX7 hw 0 rfl rfl 15 (by decide) kF_X7_167 rfl rfl rfl (Nat.le_of_ble_eq_true rfl) rfl dX7_read_48 (fun H locs hw => ?_)
  refine r_aload_n E hl 0 rfl dX7_read_51 rfl ?_
  refine r_lconst E 0 dX7_read_52 (by decide) ?_
  refine r_put E (wX7 Z Am m_thrown m_s m_saved m_savedMany m_aside m_sent m_text m_length m_way m_crossed m_wayCost m_isWay m_next m_start k1 (-1 : Int32) (0 : Int64) m_isWrong m_sums m_steps m_chosen m_passed m_passedMany m_passedCost m_reach) kW_X7 tyX7_ok nmX7 hw 0 rfl rfl 16 (by decide) kF_X7_170 rfl rfl rfl (Nat.le_of_ble_eq_true rfl) rfl dX7_read_53 (fun H locs hw => ?_)
  refine r_aload_n E hl 0 rfl dX7_read_56 rfl ?_
  obtain ⟨y3, hy3, h⟩ := bd_some h
  refine r_callVAi E hw (mX7_here l Z _ Am m_thrown m_s m_saved m_savedMany m_aside m_sent m_text m_length m_way m_crossed m_wayCost m_isWay m_next m_start k1 (-1 : Int32) (0 : Int64) m_isWrong m_sums m_steps m_chosen m_passed m_passedMany m_passedCost m_reach hy3) kL_X7_157 kI_X7_here kS_X7_here kN_X7 kC_X7_here rfl rfl hdX7_here ⟨Nat.le_of_ble_eq_true rfl, Nat.le_of_ble_eq_true rfl⟩ 0 rfl rfl rfl rfl hl [] rfl (Nat.le_of_ble_eq_true rfl) dX7_read_57 ⟨Nat.zero_le _, Nat.zero_le _⟩ (fun H locs hw => ?_)
  refine r_bipush E 97 dX7_read_60 (by decide) ?_
  refine r_bipush E 122 dX7_read_62 (by decide) ?_
  obtain ⟨y4, hy4, h⟩ := bd_some h
  refine r_callS0i E hw (mX7_in l Z _ y3 (97 : Int32) (122 : Int32) hy4) kL_X7_58 kT_X7_in kN_X7 kC_X7_in rfl rfl hdX7_in ⟨Nat.le_of_ble_eq_true rfl, Nat.le_of_ble_eq_true rfl⟩ rfl hl [] rfl (Nat.le_of_ble_eq_true rfl) dX7_read_64 ⟨Nat.zero_le _, Nat.zero_le _⟩ (fun H locs hw => ?_)
  refine r_if_eq E 144 dX7_read_67 (by decide) (fun hc => ?_) (fun hc => ?_)
  · replace h := ite_t hc h
    refine r_aload_n E hl 0 rfl dX7_read_144 rfl ?_
    obtain ⟨y5, hy5, h⟩ := bd_some h
    refine r_callVAi E hw (mX7_here l Z _ Am m_thrown m_s m_saved m_savedMany m_aside m_sent m_text m_length m_way m_crossed m_wayCost m_isWay m_next m_start k1 (-1 : Int32) (0 : Int64) m_isWrong m_sums m_steps m_chosen m_passed m_passedMany m_passedCost m_reach hy5) kL_X7_157 kI_X7_here kS_X7_here kN_X7 kC_X7_here rfl rfl hdX7_here ⟨Nat.le_of_ble_eq_true rfl, Nat.le_of_ble_eq_true rfl⟩ 0 rfl rfl rfl rfl hl [] rfl (Nat.le_of_ble_eq_true rfl) dX7_read_145 ⟨Nat.zero_le _, Nat.zero_le _⟩ (fun H locs hw => ?_)
    refine r_bipush E 48 dX7_read_148 (by decide) ?_
    refine r_bipush E 57 dX7_read_150 (by decide) ?_
    obtain ⟨y6, hy6, h⟩ := bd_some h
    refine r_callS0i E hw (mX7_in l Z _ y5 (48 : Int32) (57 : Int32) hy6) kL_X7_58 kT_X7_in kN_X7 kC_X7_in rfl rfl hdX7_in ⟨Nat.le_of_ble_eq_true rfl, Nat.le_of_ble_eq_true rfl⟩ rfl hl [] rfl (Nat.le_of_ble_eq_true rfl) dX7_read_152 ⟨Nat.zero_le _, Nat.zero_le _⟩ (fun H locs hw => ?_)
    refine r_if_eq E 284 dX7_read_155 (by decide) (fun hc => ?_) (fun hc => ?_)
    · replace h := ite_t hc h
      refine r_aload_n E hl 0 rfl dX7_read_284 rfl ?_
      obtain ⟨y7, hy7, h⟩ := bd_some h
      refine r_callVAi E hw (mX7_here l Z _ Am m_thrown m_s m_saved m_savedMany m_aside m_sent m_text m_length m_way m_crossed m_wayCost m_isWay m_next m_start k1 (-1 : Int32) (0 : Int64) m_isWrong m_sums m_steps m_chosen m_passed m_passedMany m_passedCost m_reach hy7) kL_X7_157 kI_X7_here kS_X7_here kN_X7 kC_X7_here rfl rfl hdX7_here ⟨Nat.le_of_ble_eq_true rfl, Nat.le_of_ble_eq_true rfl⟩ 0 rfl rfl rfl rfl hl [] rfl (Nat.le_of_ble_eq_true rfl) dX7_read_285 ⟨Nat.zero_le _, Nat.zero_le _⟩ (fun H locs hw => ?_)
      refine r_if_lt E 301 dX7_read_288 (by decide) (fun hc => ?_) (fun hc => ?_)
      · replace h := ite_t hc h
        obtain rfl := Option.some.inj h
        exact r_vret E hw dX7_read_301
      · replace h := ite_f hc h
        refine r_aload_n E hl 0 rfl dX7_read_291 rfl ?_
        refine r_dup E dX7_read_292 rfl ?_
        refine r_get E kW_X7 hw 0 rfl rfl 12 (by decide) kF_X7_154 rfl dX7_read_293 ?_
        refine r_iconst E 1 dX7_read_296 (by decide) ?_
        refine r_iadd E dX7_read_297 ?_
        refine r_put E (wX7 Z Am m_thrown m_s m_saved m_savedMany m_aside m_sent m_text m_length m_way m_crossed m_wayCost m_isWay (m_next + (1 : Int32)) m_start k1 (-1 : Int32) (0 : Int64) m_isWrong m_sums m_steps m_chosen m_passed m_passedMany m_passedCost m_reach) kW_X7 tyX7_ok nmX7 hw 0 rfl rfl 12 (by decide) kF_X7_154 rfl rfl rfl (Nat.le_of_ble_eq_true rfl) rfl dX7_read_298 (fun H locs hw => ?_)
        obtain rfl := Option.some.inj h
        exact r_vret E hw dX7_read_301
    · replace h := ite_f hc h
      refine r_aload_n E hl 0 rfl dX7_read_158 rfl ?_
      refine r_iconst E 1 dX7_read_159 (by decide) ?_
      refine r_put E (wX7 Z Am m_thrown m_s m_saved m_savedMany m_aside m_sent m_text m_length m_way m_crossed m_wayCost m_isWay m_next m_start (1 : Int32) (-1 : Int32) (0 : Int64) m_isWrong m_sums m_steps m_chosen m_passed m_passedMany m_passedCost m_reach) kW_X7 tyX7_ok nmX7 hw 0 rfl rfl 14 (by decide) kF_X7_164 rfl rfl rfl (Nat.le_of_ble_eq_true rfl) rfl dX7_read_160 (fun H locs hw => ?_)
      refine r_iconst E 0 dX7_read_163 (by decide) ?_
      refine r_istore_n E [(1, .int (0 : Int32)), (0, .ref (Am 0))] hl dX7_read_164 rfl (by decide) rfl (fun ls hl => ?_)
      obtain ⟨n13, h⟩ := wh_some h
      exact tX7_read_165 E  n13 _ _ _ _ _ h hw (lv_sub hl [1, 0] rfl)
  · replace h := ite_f hc h
    refine r_aload_n E hl 0 rfl dX7_read_70 rfl ?_
    refine r_iconst E 0 dX7_read_71 (by decide) ?_
    refine r_put E (wX7 Z Am m_thrown m_s m_saved m_savedMany m_aside m_sent m_text m_length m_way m_crossed m_wayCost m_isWay m_next m_start (0 : Int32) (-1 : Int32) (0 : Int64) m_isWrong m_sums m_steps m_chosen m_passed m_passedMany m_passedCost m_reach) kW_X7 tyX7_ok nmX7 hw 0 rfl rfl 14 (by decide) kF_X7_164 rfl rfl rfl (Nat.le_of_ble_eq_true rfl) rfl dX7_read_72 (fun H locs hw => ?_)
    obtain ⟨n18, h⟩ := wh_some h
    exact tX7_read_75 E  n18 _ _ _ _ _ h hw hl
set_option maxRecDepth 100000 in
set_option maxHeartbeats 4000000 in
theorem vX7_read_22 {Z : zT} {p : Program} {l : Launch} {e : Env} {s : State} {m : MethodId} {args : Array Value} {below : List Frame} {meth : Method} {c : Code} {A : Nat → Prop} (E : zE Z p s m args meth c RX7 cX7_read 3 none A) {Am : Nat → Nat} {m_thrown : Int32} {m_s : (Nat → Int32)} {m_saved : (Nat → Int32)} {m_savedMany : Int32} {m_aside : (Nat → Int32)} {m_sent : (Nat → Int32)} {m_text : (Nat → Int32)} {m_length : Int32} {m_way : (Nat → Int32)} {m_crossed : Int32} {m_wayCost : Int32} {m_isWay : Int32} {m_next : Int32} {m_start : Int32} {m_token : Int32} {m_number : Int32} {m_letters : Int64} {m_isWrong : Int32} {m_sums : (Nat → Int32)} {m_steps : (Nat → Int32)} {m_chosen : Int32} {m_passed : (Nat → Int32)} {m_passedMany : Int32} {m_passedCost : Int32} {m_reach : (Nat → Int32)} {res : Int32 × Int32 × Int32 × Int32 × Int64}  {H : Heap} {locs : List Loc} {ls : Array Slot} (hw : zW Z A (wX7 Z Am m_thrown m_s m_saved m_savedMany m_aside m_sent m_text m_length m_way m_crossed m_wayCost m_isWay m_next m_start m_token m_number m_letters m_isWrong m_sums m_steps m_chosen m_passed m_passedMany m_passedCost m_reach) s.heap H locs) (hl : lv_has ls 3 [(0, .ref (Am 0))]) (h : uX7_read_22 m_text m_length m_next = some res) : W p l e rmX7_read s m args below meth c H locs 0 0 (MQ below (zQv Z (wX7 Z Am m_thrown m_s m_saved m_savedMany m_aside m_sent m_text m_length m_way m_crossed m_wayCost m_isWay res.1 res.2.1 res.2.2.1 res.2.2.2.1 res.2.2.2.2 m_isWrong m_sums m_steps m_chosen m_passed m_passedMany m_passedCost m_reach) A) args s 0 0 A) (F0 m 22 ls []) := by
  unfold uX7_read_22 at h
  refine r_aload_n E hl 0 rfl dX7_read_22 rfl ?_
  refine r_aload_n E hl 0 rfl dX7_read_23 rfl ?_
  refine r_get E kW_X7 hw 0 rfl rfl 12 (by decide) kF_X7_154 rfl dX7_read_24 ?_
  refine r_put E (wX7 Z Am m_thrown m_s m_saved m_savedMany m_aside m_sent m_text m_length m_way m_crossed m_wayCost m_isWay m_next m_next m_token m_number m_letters m_isWrong m_sums m_steps m_chosen m_passed m_passedMany m_passedCost m_reach) kW_X7 tyX7_ok nmX7 hw 0 rfl rfl 13 (by decide) kF_X7_161 rfl rfl rfl (Nat.le_of_ble_eq_true rfl) rfl dX7_read_27 (fun H locs hw => ?_)
  refine r_aload_n E hl 0 rfl dX7_read_30 rfl ?_
  refine r_aload_n E hl 0 rfl dX7_read_31 rfl ?_
  obtain ⟨y2, hy2, h⟩ := bd_some h
  refine r_callVAi E hw (mX7_here l Z _ Am m_thrown m_s m_saved m_savedMany m_aside m_sent m_text m_length m_way m_crossed m_wayCost m_isWay m_next m_next m_token m_number m_letters m_isWrong m_sums m_steps m_chosen m_passed m_passedMany m_passedCost m_reach hy2) kL_X7_157 kI_X7_here kS_X7_here kN_X7 kC_X7_here rfl rfl hdX7_here ⟨Nat.le_of_ble_eq_true rfl, Nat.le_of_ble_eq_true rfl⟩ 0 rfl rfl rfl rfl hl [.ref (Am 0)] rfl (Nat.le_of_ble_eq_true rfl) dX7_read_32 ⟨Nat.zero_le _, Nat.zero_le _⟩ (fun H locs hw => ?_)
  refine r_if_ge E 42 dX7_read_35 (by decide) (fun hc => ?_) (fun hc => ?_)
  · replace h := ite_t hc h
    refine r_iconst E 2 dX7_read_42 (by decide) ?_
    exact vX7_read_43 E  hw hl h
  · replace h := ite_f hc h
    refine r_iconst E 3 dX7_read_38 (by decide) ?_
    refine r_goto E 43 dX7_read_39 (by decide) ?_
    exact vX7_read_43 E  hw hl h
set_option maxRecDepth 100000 in
set_option maxHeartbeats 4000000 in
theorem tX7_read_0 {Z : zT} {p : Program} {l : Launch} {e : Env} {s : State} {m : MethodId} {args : Array Value} {below : List Frame} {meth : Method} {c : Code} {A : Nat → Prop} (E : zE Z p s m args meth c RX7 cX7_read 3 none A) {Am : Nat → Nat} {m_thrown : Int32} {m_s : (Nat → Int32)} {m_saved : (Nat → Int32)} {m_savedMany : Int32} {m_aside : (Nat → Int32)} {m_sent : (Nat → Int32)} {m_text : (Nat → Int32)} {m_length : Int32} {m_way : (Nat → Int32)} {m_crossed : Int32} {m_wayCost : Int32} {m_isWay : Int32} {m_start : Int32} {m_token : Int32} {m_number : Int32} {m_letters : Int64} {m_isWrong : Int32} {m_sums : (Nat → Int32)} {m_steps : (Nat → Int32)} {m_chosen : Int32} {m_passed : (Nat → Int32)} {m_passedMany : Int32} {m_passedCost : Int32} {m_reach : (Nat → Int32)} {res : Int32 × Int32 × Int32 × Int32 × Int64}  : ∀ (n : Nat) (m_next : Int32) (H : Heap) (locs : List Loc) (ls : Array Slot), iter (fun b : Int32 => sX7_read_0 m_text m_length b) n m_next = some res → zW Z A (wX7 Z Am m_thrown m_s m_saved m_savedMany m_aside m_sent m_text m_length m_way m_crossed m_wayCost m_isWay m_next m_start m_token m_number m_letters m_isWrong m_sums m_steps m_chosen m_passed m_passedMany m_passedCost m_reach) s.heap H locs → lv_has ls 3 [(0, .ref (Am 0))] → W p l e rmX7_read s m args below meth c H locs 0 0 (MQ below (zQv Z (wX7 Z Am m_thrown m_s m_saved m_savedMany m_aside m_sent m_text m_length m_way m_crossed m_wayCost m_isWay res.1 res.2.1 res.2.2.1 res.2.2.2.1 res.2.2.2.2 m_isWrong m_sums m_steps m_chosen m_passed m_passedMany m_passedCost m_reach) A) args s 0 0 A) (F0 m 0 ls []) := by
  intro n
  induction n with
  | zero => intro m_next H locs ls h; cases h
  | succ n ih =>
    intro m_next H locs ls h hw hl
    obtain ⟨q1, h, hn1, hr1⟩ := iter_out h
    have hb1 : ∀ b : Int32, q1 = .inl b → ∀ (H : Heap) (locs : List Loc) (ls : Array Slot), zW Z A (wX7 Z Am m_thrown m_s m_saved m_savedMany m_aside m_sent m_text m_length m_way m_crossed m_wayCost m_isWay b m_start m_token m_number m_letters m_isWrong m_sums m_steps m_chosen m_passed m_passedMany m_passedCost m_reach) s.heap H locs → lv_has ls 3 [(0, .ref (Am 0))] → W p l e rmX7_read s m args below meth c H locs 0 0 (MQ below (zQv Z (wX7 Z Am m_thrown m_s m_saved m_savedMany m_aside m_sent m_text m_length m_way m_crossed m_wayCost m_isWay res.1 res.2.1 res.2.2.1 res.2.2.2.1 res.2.2.2.2 m_isWrong m_sums m_steps m_chosen m_passed m_passedMany m_passedCost m_reach) A) args s 0 0 A) (F0 m 0 ls []) := fun b eb H locs ls hw hl => ih b H locs ls (hn1 b eb) hw hl
    replace h : sX7_read_0 m_text m_length m_next = some q1 := h
    unfold sX7_read_0 at h
    refine r_aload_n E hl 0 rfl dX7_read_0 rfl ?_
    obtain ⟨y1, hy1, h⟩ := bd_some h
    refine r_callVAi E hw (mX7_here l Z _ Am m_thrown m_s m_saved m_savedMany m_aside m_sent m_text m_length m_way m_crossed m_wayCost m_isWay m_next m_start m_token m_number m_letters m_isWrong m_sums m_steps m_chosen m_passed m_passedMany m_passedCost m_reach hy1) kL_X7_157 kI_X7_here kS_X7_here kN_X7 kC_X7_here rfl rfl hdX7_here ⟨Nat.le_of_ble_eq_true rfl, Nat.le_of_ble_eq_true rfl⟩ 0 rfl rfl rfl rfl hl [] rfl (Nat.le_of_ble_eq_true rfl) dX7_read_1 ⟨Nat.zero_le _, Nat.zero_le _⟩ (fun H locs hw => ?_)
    refine r_bipush E 32 dX7_read_4 (by decide) ?_
    refine r_icmp_ne E 22 dX7_read_6 (by decide) (fun hc => ?_) (fun hc => ?_)
    · replace h := ite_f hc h
      obtain ⟨ro19, h, hro19⟩ := oi_some h
      rw [hr1 _ hro19] at h
      exact vX7_read_22 E  hw hl h
    · replace h := ite_t hc h
      refine r_aload_n E hl 0 rfl dX7_read_9 rfl ?_
      refine r_dup E dX7_read_10 rfl ?_
      refine r_get E kW_X7 hw 0 rfl rfl 12 (by decide) kF_X7_154 rfl dX7_read_11 ?_
      refine r_iconst E 1 dX7_read_14 (by decide) ?_
      refine r_iadd E dX7_read_15 ?_
      refine r_put E (wX7 Z Am m_thrown m_s m_saved m_savedMany m_aside m_sent m_text m_length m_way m_crossed m_wayCost m_isWay (m_next + (1 : Int32)) m_start m_token m_number m_letters m_isWrong m_sums m_steps m_chosen m_passed m_passedMany m_passedCost m_reach) kW_X7 tyX7_ok nmX7 hw 0 rfl rfl 12 (by decide) kF_X7_154 rfl rfl rfl (Nat.le_of_ble_eq_true rfl) rfl dX7_read_16 (fun H locs hw => ?_)
      refine r_goto E 0 dX7_read_19 (by decide) ?_
      exact hb1 _ (Option.some.inj h).symm _ _ _ hw hl
set_option maxRecDepth 100000 in
set_option maxHeartbeats 4000000 in
theorem mX7_read (l : Launch) (Z : zT) (sz : Nat) (Am : Nat → Nat) (m_thrown : Int32) (m_s : (Nat → Int32)) (m_saved : (Nat → Int32)) (m_savedMany : Int32) (m_aside : (Nat → Int32)) (m_sent : (Nat → Int32)) (m_text : (Nat → Int32)) (m_length : Int32) (m_way : (Nat → Int32)) (m_crossed : Int32) (m_wayCost : Int32) (m_isWay : Int32) (m_next : Int32) (m_start : Int32) (m_token : Int32) (m_number : Int32) (m_letters : Int64) (m_isWrong : Int32) (m_sums : (Nat → Int32)) (m_steps : (Nat → Int32)) (m_chosen : Int32) (m_passed : (Nat → Int32)) (m_passedMany : Int32) (m_passedCost : Int32) (m_reach : (Nat → Int32))  {res : Int32 × Int32 × Int32 × Int32 × Int64} (h : fX7_read m_text m_length m_next = some res) : Met l yX7_read (Cond.code yX7_read cX7_read 3 none :: zWs) rmX7_read (zP Z (wX7 Z Am m_thrown m_s m_saved m_savedMany m_aside m_sent m_text m_length m_way m_crossed m_wayCost m_isWay m_next m_start m_token m_number m_letters m_isWrong m_sums m_steps m_chosen m_passed m_passedMany m_passedCost m_reach) sz [.ref (Am 0)]) (zQv Z (wX7 Z Am m_thrown m_s m_saved m_savedMany m_aside m_sent m_text m_length m_way m_crossed m_wayCost m_isWay res.1 res.2.1 res.2.2.1 res.2.2.2.1 res.2.2.2.2 m_isWrong m_sums m_steps m_chosen m_passed m_passedMany m_passedCost m_reach) (va_A (wX7 Z Am m_thrown m_s m_saved m_savedMany m_aside m_sent m_text m_length m_way m_crossed m_wayCost m_isWay m_next m_start m_token m_number m_letters m_isWrong m_sums m_steps m_chosen m_passed m_passedMany m_passedCost m_reach) sz)) 0 0 (va_A (wX7 Z Am m_thrown m_s m_saved m_savedMany m_aside m_sent m_text m_length m_way m_crossed m_wayCost m_isWay m_next m_start m_token m_number m_letters m_isWrong m_sums m_steps m_chosen m_passed m_passedMany m_passedCost m_reach) sz) := by
  refine zMet (own := RX7) (fun A => zQv Z (wX7 Z Am m_thrown m_s m_saved m_savedMany m_aside m_sent m_text m_length m_way m_crossed m_wayCost m_isWay res.1 res.2.1 res.2.2.1 res.2.2.2.1 res.2.2.2.2 m_isWrong m_sums m_steps m_chosen m_passed m_passedMany m_passedCost m_reach) A) (by decide) rfl (Nat.le_of_ble_eq_true rfl) ?_
  intro p e s m args below meth c ls A E hw hl
  unfold fX7_read at h
  obtain ⟨n20, h⟩ := wh_some h
  exact tX7_read_0 E  n20 _ _ _ _ h hw hl
abbrev rmX7_take : Room := { frames := 2, cells := 0, slots := 0, locals := 44 }

set_option maxRecDepth 100000 in
set_option maxHeartbeats 4000000 in
theorem vX7_take_17 {Z : zT} {p : Program} {l : Launch} {e : Env} {s : State} {m : MethodId} {args : Array Value} {below : List Frame} {meth : Method} {c : Code} {A : Nat → Prop} (E : zE Z p s m args meth c RX7 cX7_take 2 none A) {Am : Nat → Nat} {k1 : Int32} {m_thrown : Int32} {m_s : (Nat → Int32)} {m_saved : (Nat → Int32)} {m_savedMany : Int32} {m_aside : (Nat → Int32)} {m_sent : (Nat → Int32)} {m_text : (Nat → Int32)} {m_length : Int32} {m_way : (Nat → Int32)} {m_crossed : Int32} {m_wayCost : Int32} {m_isWay : Int32} {m_next : Int32} {m_start : Int32} {m_token : Int32} {m_number : Int32} {m_letters : Int64} {m_isWrong : Int32} {m_sums : (Nat → Int32)} {m_steps : (Nat → Int32)} {m_chosen : Int32} {m_passed : (Nat → Int32)} {m_passedMany : Int32} {m_passedCost : Int32} {m_reach : (Nat → Int32)} {res : Int32 × Int32 × Int32 × Int32 × Int64 × Int32}  {H : Heap} {locs : List Loc} {ls : Array Slot} (hw : zW Z A (wX7 Z Am m_thrown m_s m_saved m_savedMany m_aside m_sent m_text m_length m_way m_crossed m_wayCost m_isWay m_next m_start m_token m_number m_letters m_isWrong m_sums m_steps m_chosen m_passed m_passedMany m_passedCost m_reach) s.heap H locs) (hl : lv_has ls 2 [(0, .ref (Am 0))]) (h : uX7_take_17 k1 m_text m_length m_next m_start m_token m_number m_letters = some res) : W p l e rmX7_take s m args below meth c H locs 0 0 (MQ below (zQv Z (wX7 Z Am m_thrown m_s m_saved m_savedMany m_aside m_sent m_text m_length m_way m_crossed m_wayCost m_isWay res.1 res.2.1 res.2.2.1 res.2.2.2.1 res.2.2.2.2.1 res.2.2.2.2.2 m_sums m_steps m_chosen m_passed m_passedMany m_passedCost m_reach) A) args s 0 0 A) (F0 m 17 ls [.int k1, .ref (Am 0)]) := by
  unfold uX7_take_17 at h
  obtain ⟨hz1, h⟩ := gd_some h
  refine r_put E (wX7 Z Am m_thrown m_s m_saved m_savedMany m_aside m_sent m_text m_length m_way m_crossed m_wayCost m_isWay m_next m_start m_token m_number m_letters k1 m_sums m_steps m_chosen m_passed m_passedMany m_passedCost m_reach) kW_X7 tyX7_ok nmX7 hw 0 rfl rfl 17 (by decide) kF_X7_178 rfl hz1.nar hz1.fit (Nat.le_of_ble_eq_true rfl) rfl dX7_take_17 (fun H locs hw => ?_)
  refine r_aload_n E hl 0 rfl dX7_take_20 rfl ?_
  refine r_get E kW_X7 hw 0 rfl rfl 17 (by decide) kF_X7_178 rfl dX7_take_21 ?_
  refine r_if_ne E 31 dX7_take_24 (by decide) (fun hc => ?_) (fun hc => ?_)
  · replace h := ite_f hc h
    obtain rfl := Option.some.inj h
    exact r_vret E hw dX7_take_31
  · replace h := ite_t hc h
    refine r_aload_n E hl 0 rfl dX7_take_27 rfl ?_
    obtain ⟨y2, hy2, h⟩ := bd_some h
    refine r_callVAv E hw (mX7_read l Z _ Am m_thrown m_s m_saved m_savedMany m_aside m_sent m_text m_length m_way m_crossed m_wayCost m_isWay m_next m_start m_token m_number m_letters k1 m_sums m_steps m_chosen m_passed m_passedMany m_passedCost m_reach hy2) kL_X7_181 kI_X7_read kS_X7_read kN_X7 kC_X7_read rfl rfl hdX7_read ⟨Nat.le_of_ble_eq_true rfl, Nat.le_of_ble_eq_true rfl⟩ 0 rfl rfl rfl rfl hl [] rfl (Nat.le_of_ble_eq_true rfl) dX7_take_28 ⟨Nat.zero_le _, Nat.zero_le _⟩ (fun H locs hw => ?_)
    obtain rfl := Option.some.inj h
    exact r_vret E hw dX7_take_31
set_option maxRecDepth 100000 in
set_option maxHeartbeats 4000000 in
theorem vX7_take_12 {Z : zT} {p : Program} {l : Launch} {e : Env} {s : State} {m : MethodId} {args : Array Value} {below : List Frame} {meth : Method} {c : Code} {A : Nat → Prop} (E : zE Z p s m args meth c RX7 cX7_take 2 none A) {Am : Nat → Nat} {m_thrown : Int32} {m_s : (Nat → Int32)} {m_saved : (Nat → Int32)} {m_savedMany : Int32} {m_aside : (Nat → Int32)} {m_sent : (Nat → Int32)} {m_text : (Nat → Int32)} {m_length : Int32} {m_way : (Nat → Int32)} {m_crossed : Int32} {m_wayCost : Int32} {m_isWay : Int32} {m_next : Int32} {m_start : Int32} {m_token : Int32} {m_number : Int32} {m_letters : Int64} {m_isWrong : Int32} {m_sums : (Nat → Int32)} {m_steps : (Nat → Int32)} {m_chosen : Int32} {m_passed : (Nat → Int32)} {m_passedMany : Int32} {m_passedCost : Int32} {m_reach : (Nat → Int32)} {res : Int32 × Int32 × Int32 × Int32 × Int64 × Int32}  {H : Heap} {locs : List Loc} {ls : Array Slot} (hw : zW Z A (wX7 Z Am m_thrown m_s m_saved m_savedMany m_aside m_sent m_text m_length m_way m_crossed m_wayCost m_isWay m_next m_start m_token m_number m_letters m_isWrong m_sums m_steps m_chosen m_passed m_passedMany m_passedCost m_reach) s.heap H locs) (hl : lv_has ls 2 [(0, .ref (Am 0))]) (h : uX7_take_12 m_text m_length m_next m_start m_token m_number m_letters = some res) : W p l e rmX7_take s m args below meth c H locs 0 0 (MQ below (zQv Z (wX7 Z Am m_thrown m_s m_saved m_savedMany m_aside m_sent m_text m_length m_way m_crossed m_wayCost m_isWay res.1 res.2.1 res.2.2.1 res.2.2.2.1 res.2.2.2.2.1 res.2.2.2.2.2 m_sums m_steps m_chosen m_passed m_passedMany m_passedCost m_reach) A) args s 0 0 A) (F0 m 12 ls [.ref (Am 0)]) := by
  unfold uX7_take_12 at h
  refine r_iconst E 1 dX7_take_12 (by decide) ?_
  refine r_goto E 17 dX7_take_13 (by decide) ?_
  exact vX7_take_17 E  hw hl h
set_option maxRecDepth 100000 in
set_option maxHeartbeats 4000000 in
theorem mX7_take (l : Launch) (Z : zT) (sz : Nat) (Am : Nat → Nat) (m_thrown : Int32) (m_s : (Nat → Int32)) (m_saved : (Nat → Int32)) (m_savedMany : Int32) (m_aside : (Nat → Int32)) (m_sent : (Nat → Int32)) (m_text : (Nat → Int32)) (m_length : Int32) (m_way : (Nat → Int32)) (m_crossed : Int32) (m_wayCost : Int32) (m_isWay : Int32) (m_next : Int32) (m_start : Int32) (m_token : Int32) (m_number : Int32) (m_letters : Int64) (m_isWrong : Int32) (m_sums : (Nat → Int32)) (m_steps : (Nat → Int32)) (m_chosen : Int32) (m_passed : (Nat → Int32)) (m_passedMany : Int32) (m_passedCost : Int32) (m_reach : (Nat → Int32)) (v1 : Int32) {res : Int32 × Int32 × Int32 × Int32 × Int64 × Int32} (h : fX7_take v1 m_text m_length m_next m_start m_token m_number m_letters m_isWrong = some res) : Met l yX7_take (Cond.code yX7_take cX7_take 2 none :: zWs) rmX7_take (zP Z (wX7 Z Am m_thrown m_s m_saved m_savedMany m_aside m_sent m_text m_length m_way m_crossed m_wayCost m_isWay m_next m_start m_token m_number m_letters m_isWrong m_sums m_steps m_chosen m_passed m_passedMany m_passedCost m_reach) sz [.ref (Am 0), .int v1]) (zQv Z (wX7 Z Am m_thrown m_s m_saved m_savedMany m_aside m_sent m_text m_length m_way m_crossed m_wayCost m_isWay res.1 res.2.1 res.2.2.1 res.2.2.2.1 res.2.2.2.2.1 res.2.2.2.2.2 m_sums m_steps m_chosen m_passed m_passedMany m_passedCost m_reach) (va_A (wX7 Z Am m_thrown m_s m_saved m_savedMany m_aside m_sent m_text m_length m_way m_crossed m_wayCost m_isWay m_next m_start m_token m_number m_letters m_isWrong m_sums m_steps m_chosen m_passed m_passedMany m_passedCost m_reach) sz)) 0 0 (va_A (wX7 Z Am m_thrown m_s m_saved m_savedMany m_aside m_sent m_text m_length m_way m_crossed m_wayCost m_isWay m_next m_start m_token m_number m_letters m_isWrong m_sums m_steps m_chosen m_passed m_passedMany m_passedCost m_reach) sz) := by
  refine zMet (own := RX7) (fun A => zQv Z (wX7 Z Am m_thrown m_s m_saved m_savedMany m_aside m_sent m_text m_length m_way m_crossed m_wayCost m_isWay res.1 res.2.1 res.2.2.1 res.2.2.2.1 res.2.2.2.2.1 res.2.2.2.2.2 m_sums m_steps m_chosen m_passed m_passedMany m_passedCost m_reach) A) (by decide) rfl (Nat.le_of_ble_eq_true rfl) ?_
  intro p e s m args below meth c ls A E hw hl
  unfold fX7_take at h
  refine r_aload_n E hl 0 rfl dX7_take_0 rfl ?_
  refine r_aload_n E hl 0 rfl dX7_take_1 rfl ?_
  refine r_get E kW_X7 hw 0 rfl rfl 17 (by decide) kF_X7_178 rfl dX7_take_2 ?_
  refine r_if_ne E 12 dX7_take_5 (by decide) (fun hc => ?_) (fun hc => ?_)
  · replace h := ite_f hc h
    exact vX7_take_12 E  hw (lv_sub hl [0] rfl) h
  · replace h := ite_t hc h
    refine r_iload_n E hl 1 rfl dX7_take_8 rfl ?_
    refine r_if_ne E 16 dX7_take_9 (by decide) (fun hc => ?_) (fun hc => ?_)
    · replace h := ite_f hc h
      refine r_iconst E 0 dX7_take_16 (by decide) ?_
      exact vX7_take_17 E  hw (lv_sub hl [0] rfl) h
    · replace h := ite_t hc h
      exact vX7_take_12 E  hw (lv_sub hl [0] rfl) h
abbrev rmX7_takeNumber : Room := { frames := 3, cells := 0, slots := 0, locals := 65 }

set_option maxRecDepth 100000 in
set_option maxHeartbeats 4000000 in
theorem vX7_takeNumber_16 {Z : zT} {p : Program} {l : Launch} {e : Env} {s : State} {m : MethodId} {args : Array Value} {below : List Frame} {meth : Method} {c : Code} {A : Nat → Prop} (E : zE Z p s m args meth c RX7 cX7_takeNumber 4 (some .int) A) {Am : Nat → Nat} {v1 : Int32} {v2 : Int32} {k0 : Int32} {m_thrown : Int32} {m_s : (Nat → Int32)} {m_saved : (Nat → Int32)} {m_savedMany : Int32} {m_aside : (Nat → Int32)} {m_sent : (Nat → Int32)} {m_text : (Nat → Int32)} {m_length : Int32} {m_way : (Nat → Int32)} {m_crossed : Int32} {m_wayCost : Int32} {m_isWay : Int32} {m_next : Int32} {m_start : Int32} {m_token : Int32} {m_number : Int32} {m_letters : Int64} {m_isWrong : Int32} {m_sums : (Nat → Int32)} {m_steps : (Nat → Int32)} {m_chosen : Int32} {m_passed : (Nat → Int32)} {m_passedMany : Int32} {m_passedCost : Int32} {m_reach : (Nat → Int32)} {res : Int32 × Int32 × Int32 × Int32 × Int32 × Int64 × Int32}  {H : Heap} {locs : List Loc} {ls : Array Slot} (hw : zW Z A (wX7 Z Am m_thrown m_s m_saved m_savedMany m_aside m_sent m_text m_length m_way m_crossed m_wayCost m_isWay m_next m_start m_token m_number m_letters m_isWrong m_sums m_steps m_chosen m_passed m_passedMany m_passedCost m_reach) s.heap H locs) (hl : lv_has ls 4 [(0, .ref (Am 0)), (1, .int v1), (2, .int v2)]) (h : uX7_takeNumber_16 v1 v2 k0 m_text m_length m_next m_start m_token m_number m_letters m_isWrong = some res) : W p l e rmX7_takeNumber s m args below meth c H locs 0 0 (MQ below (zQi Z res.1 (wX7 Z Am m_thrown m_s m_saved m_savedMany m_aside m_sent m_text m_length m_way m_crossed m_wayCost m_isWay res.2.1 res.2.2.1 res.2.2.2.1 res.2.2.2.2.1 res.2.2.2.2.2.1 res.2.2.2.2.2.2 m_sums m_steps m_chosen m_passed m_passedMany m_passedCost m_reach) A) args s 0 0 A) (F0 m 16 ls [.int k0]) := by
  unfold uX7_takeNumber_16 at h
  refine r_istore_n E [(3, .int k0), (0, .ref (Am 0)), (1, .int v1), (2, .int v2)] hl dX7_takeNumber_16 rfl (by decide) rfl (fun ls hl => ?_)
  refine r_aload_n E hl 1 rfl dX7_takeNumber_17 rfl ?_
  refine r_iload_n E hl 0 rfl dX7_takeNumber_18 rfl ?_
  refine r_iload_n E hl 2 rfl dX7_takeNumber_19 rfl ?_
  refine r_iload_n E hl 3 rfl dX7_takeNumber_20 rfl ?_
  obtain ⟨y1, hy1, h⟩ := bd_some h
  refine r_callS0i E hw (mX7_in l Z _ k0 v1 v2 hy1) kL_X7_58 kT_X7_in kN_X7 kC_X7_in rfl rfl hdX7_in ⟨Nat.le_of_ble_eq_true rfl, Nat.le_of_ble_eq_true rfl⟩ rfl hl [.ref (Am 0)] rfl (Nat.le_of_ble_eq_true rfl) dX7_takeNumber_21 ⟨Nat.zero_le _, Nat.zero_le _⟩ (fun H locs hw => ?_)
  obtain ⟨y2, hy2, h⟩ := bd_some h
  refine r_callVAv E hw (mX7_take l Z _ Am m_thrown m_s m_saved m_savedMany m_aside m_sent m_text m_length m_way m_crossed m_wayCost m_isWay m_next m_start m_token m_number m_letters m_isWrong m_sums m_steps m_chosen m_passed m_passedMany m_passedCost m_reach y1 hy2) kL_X7_184 kI_X7_take kS_X7_take kN_X7 kC_X7_take rfl rfl hdX7_take ⟨Nat.le_of_ble_eq_true rfl, Nat.le_of_ble_eq_true rfl⟩ 0 rfl rfl rfl rfl hl [] rfl (Nat.le_of_ble_eq_true rfl) dX7_takeNumber_24 ⟨Nat.zero_le _, Nat.zero_le _⟩ (fun H locs hw => ?_)
  refine r_aload_n E hl 1 rfl dX7_takeNumber_27 rfl ?_
  refine r_get E kW_X7 hw 0 rfl rfl 17 (by decide) kF_X7_178 rfl dX7_takeNumber_28 ?_
  refine r_if_eq E 38 dX7_takeNumber_31 (by decide) (fun hc => ?_) (fun hc => ?_)
  · replace h := ite_t hc h
    refine r_iload_n E hl 0 rfl dX7_takeNumber_38 rfl ?_
    obtain rfl := Option.some.inj h
    exact r_iret E hw dX7_takeNumber_39
  · replace h := ite_f hc h
    refine r_iconst E 0 dX7_takeNumber_34 (by decide) ?_
    refine r_goto E 39 dX7_takeNumber_35 (by decide) ?_
    obtain rfl := Option.some.inj h
    exact r_iret E hw dX7_takeNumber_39
set_option maxRecDepth 100000 in
set_option maxHeartbeats 4000000 in
theorem mX7_takeNumber (l : Launch) (Z : zT) (sz : Nat) (Am : Nat → Nat) (m_thrown : Int32) (m_s : (Nat → Int32)) (m_saved : (Nat → Int32)) (m_savedMany : Int32) (m_aside : (Nat → Int32)) (m_sent : (Nat → Int32)) (m_text : (Nat → Int32)) (m_length : Int32) (m_way : (Nat → Int32)) (m_crossed : Int32) (m_wayCost : Int32) (m_isWay : Int32) (m_next : Int32) (m_start : Int32) (m_token : Int32) (m_number : Int32) (m_letters : Int64) (m_isWrong : Int32) (m_sums : (Nat → Int32)) (m_steps : (Nat → Int32)) (m_chosen : Int32) (m_passed : (Nat → Int32)) (m_passedMany : Int32) (m_passedCost : Int32) (m_reach : (Nat → Int32)) (v1 : Int32) (v2 : Int32) {res : Int32 × Int32 × Int32 × Int32 × Int32 × Int64 × Int32} (h : fX7_takeNumber v1 v2 m_text m_length m_next m_start m_token m_number m_letters m_isWrong = some res) : Met l yX7_takeNumber (Cond.code yX7_takeNumber cX7_takeNumber 4 (some .int) :: zWs) rmX7_takeNumber (zP Z (wX7 Z Am m_thrown m_s m_saved m_savedMany m_aside m_sent m_text m_length m_way m_crossed m_wayCost m_isWay m_next m_start m_token m_number m_letters m_isWrong m_sums m_steps m_chosen m_passed m_passedMany m_passedCost m_reach) sz [.ref (Am 0), .int v1, .int v2]) (zQi Z res.1 (wX7 Z Am m_thrown m_s m_saved m_savedMany m_aside m_sent m_text m_length m_way m_crossed m_wayCost m_isWay res.2.1 res.2.2.1 res.2.2.2.1 res.2.2.2.2.1 res.2.2.2.2.2.1 res.2.2.2.2.2.2 m_sums m_steps m_chosen m_passed m_passedMany m_passedCost m_reach) (va_A (wX7 Z Am m_thrown m_s m_saved m_savedMany m_aside m_sent m_text m_length m_way m_crossed m_wayCost m_isWay m_next m_start m_token m_number m_letters m_isWrong m_sums m_steps m_chosen m_passed m_passedMany m_passedCost m_reach) sz)) 0 0 (va_A (wX7 Z Am m_thrown m_s m_saved m_savedMany m_aside m_sent m_text m_length m_way m_crossed m_wayCost m_isWay m_next m_start m_token m_number m_letters m_isWrong m_sums m_steps m_chosen m_passed m_passedMany m_passedCost m_reach) sz) := by
  refine zMet (own := RX7) (fun A => zQi Z res.1 (wX7 Z Am m_thrown m_s m_saved m_savedMany m_aside m_sent m_text m_length m_way m_crossed m_wayCost m_isWay res.2.1 res.2.2.1 res.2.2.2.1 res.2.2.2.2.1 res.2.2.2.2.2.1 res.2.2.2.2.2.2 m_sums m_steps m_chosen m_passed m_passedMany m_passedCost m_reach) A) (by decide) rfl (Nat.le_of_ble_eq_true rfl) ?_
  intro p e s m args below meth c ls A E hw hl
  unfold fX7_takeNumber at h
  refine r_aload_n E hl 0 rfl dX7_takeNumber_0 rfl ?_
  refine r_get E kW_X7 hw 0 rfl rfl 14 (by decide) kF_X7_164 rfl dX7_takeNumber_1 ?_
  refine r_iconst E 1 dX7_takeNumber_4 (by decide) ?_
  refine r_icmp_ne E 15 dX7_takeNumber_5 (by decide) (fun hc => ?_) (fun hc => ?_)
  · replace h := ite_f hc h
    refine r_iconst E (-1) dX7_takeNumber_15 (by decide) ?_
    exact vX7_takeNumber_16 E  hw hl h
  · replace h := ite_t hc h
    refine r_aload_n E hl 0 rfl dX7_takeNumber_8 rfl ?_
    refine r_get E kW_X7 hw 0 rfl rfl 15 (by decide) kF_X7_167 rfl dX7_takeNumber_9 ?_
    refine r_goto E 16 dX7_takeNumber_12 (by decide) ?_
    exact vX7_takeNumber_16 E  hw hl h
abbrev rmX7_takeNode : Room := { frames := 3, cells := 0, slots := 0, locals := 65 }

set_option maxRecDepth 100000 in
set_option maxHeartbeats 4000000 in
theorem vX7_takeNode_36 {Z : zT} {p : Program} {l : Launch} {e : Env} {s : State} {m : MethodId} {args : Array Value} {below : List Frame} {meth : Method} {c : Code} {A : Nat → Prop} (E : zE Z p s m args meth c RX7 cX7_takeNode 3 (some .int) A) {Am : Nat → Nat} {v2 : Int32} {k1 : Int32} {m_thrown : Int32} {m_s : (Nat → Int32)} {m_saved : (Nat → Int32)} {m_savedMany : Int32} {m_aside : (Nat → Int32)} {m_sent : (Nat → Int32)} {m_text : (Nat → Int32)} {m_length : Int32} {m_way : (Nat → Int32)} {m_crossed : Int32} {m_wayCost : Int32} {m_isWay : Int32} {m_next : Int32} {m_start : Int32} {m_token : Int32} {m_number : Int32} {m_letters : Int64} {m_isWrong : Int32} {m_sums : (Nat → Int32)} {m_steps : (Nat → Int32)} {m_chosen : Int32} {m_passed : (Nat → Int32)} {m_passedMany : Int32} {m_passedCost : Int32} {m_reach : (Nat → Int32)} {res : Int32 × Int32 × Int32 × Int32 × Int32 × Int64 × Int32}  {H : Heap} {locs : List Loc} {ls : Array Slot} (hw : zW Z A (wX7 Z Am m_thrown m_s m_saved m_savedMany m_aside m_sent m_text m_length m_way m_crossed m_wayCost m_isWay m_next m_start m_token m_number m_letters m_isWrong m_sums m_steps m_chosen m_passed m_passedMany m_passedCost m_reach) s.heap H locs) (hl : lv_has ls 3 [(0, .ref (Am 0)), (2, .int v2)]) (h : uX7_takeNode_36 v2 k1 m_text m_length m_next m_start m_token m_number m_letters m_isWrong = some res) : W p l e rmX7_takeNode s m args below meth c H locs 0 0 (MQ below (zQi Z res.1 (wX7 Z Am m_thrown m_s m_saved m_savedMany m_aside m_sent m_text m_length m_way m_crossed m_wayCost m_isWay res.2.1 res.2.2.1 res.2.2.2.1 res.2.2.2.2.1 res.2.2.2.2.2.1 res.2.2.2.2.2.2 m_sums m_steps m_chosen m_passed m_passedMany m_passedCost m_reach) A) args s 0 0 A) (F0 m 36 ls [.int k1, .ref (Am 0)]) := by
  unfold uX7_takeNode_36 at h
  obtain ⟨y2, hy2, h⟩ := bd_some h
  refine r_callVAv E hw (mX7_take l Z _ Am m_thrown m_s m_saved m_savedMany m_aside m_sent m_text m_length m_way m_crossed m_wayCost m_isWay m_next m_start m_token m_number m_letters m_isWrong m_sums m_steps m_chosen m_passed m_passedMany m_passedCost m_reach k1 hy2) kL_X7_184 kI_X7_take kS_X7_take kN_X7 kC_X7_take rfl rfl hdX7_take ⟨Nat.le_of_ble_eq_true rfl, Nat.le_of_ble_eq_true rfl⟩ 0 rfl rfl rfl rfl hl [] rfl (Nat.le_of_ble_eq_true rfl) dX7_takeNode_36 ⟨Nat.zero_le _, Nat.zero_le _⟩ (fun H locs hw => ?_)
  refine r_aload_n E hl 0 rfl dX7_takeNode_39 rfl ?_
  refine r_get E kW_X7 hw 0 rfl rfl 17 (by decide) kF_X7_178 rfl dX7_takeNode_40 ?_
  refine r_if_eq E 50 dX7_takeNode_43 (by decide) (fun hc => ?_) (fun hc => ?_)
  · replace h := ite_t hc h
    refine r_iload_n E hl 1 rfl dX7_takeNode_50 rfl ?_
    obtain rfl := Option.some.inj h
    exact r_iret E hw dX7_takeNode_51
  · replace h := ite_f hc h
    refine r_iconst E 0 dX7_takeNode_46 (by decide) ?_
    refine r_goto E 51 dX7_takeNode_47 (by decide) ?_
    obtain rfl := Option.some.inj h
    exact r_iret E hw dX7_takeNode_51
set_option maxRecDepth 100000 in
set_option maxHeartbeats 4000000 in
theorem vX7_takeNode_35 {Z : zT} {p : Program} {l : Launch} {e : Env} {s : State} {m : MethodId} {args : Array Value} {below : List Frame} {meth : Method} {c : Code} {A : Nat → Prop} (E : zE Z p s m args meth c RX7 cX7_takeNode 3 (some .int) A) {Am : Nat → Nat} {v2 : Int32} {m_thrown : Int32} {m_s : (Nat → Int32)} {m_saved : (Nat → Int32)} {m_savedMany : Int32} {m_aside : (Nat → Int32)} {m_sent : (Nat → Int32)} {m_text : (Nat → Int32)} {m_length : Int32} {m_way : (Nat → Int32)} {m_crossed : Int32} {m_wayCost : Int32} {m_isWay : Int32} {m_next : Int32} {m_start : Int32} {m_token : Int32} {m_number : Int32} {m_letters : Int64} {m_isWrong : Int32} {m_sums : (Nat → Int32)} {m_steps : (Nat → Int32)} {m_chosen : Int32} {m_passed : (Nat → Int32)} {m_passedMany : Int32} {m_passedCost : Int32} {m_reach : (Nat → Int32)} {res : Int32 × Int32 × Int32 × Int32 × Int32 × Int64 × Int32}  {H : Heap} {locs : List Loc} {ls : Array Slot} (hw : zW Z A (wX7 Z Am m_thrown m_s m_saved m_savedMany m_aside m_sent m_text m_length m_way m_crossed m_wayCost m_isWay m_next m_start m_token m_number m_letters m_isWrong m_sums m_steps m_chosen m_passed m_passedMany m_passedCost m_reach) s.heap H locs) (hl : lv_has ls 3 [(0, .ref (Am 0)), (2, .int v2)]) (h : uX7_takeNode_35 v2 m_text m_length m_next m_start m_token m_number m_letters m_isWrong = some res) : W p l e rmX7_takeNode s m args below meth c H locs 0 0 (MQ below (zQi Z res.1 (wX7 Z Am m_thrown m_s m_saved m_savedMany m_aside m_sent m_text m_length m_way m_crossed m_wayCost m_isWay res.2.1 res.2.2.1 res.2.2.2.1 res.2.2.2.2.1 res.2.2.2.2.2.1 res.2.2.2.2.2.2 m_sums m_steps m_chosen m_passed m_passedMany m_passedCost m_reach) A) args s 0 0 A) (F0 m 35 ls [.ref (Am 0)]) := by
  unfold uX7_takeNode_35 at h
  refine r_iconst E 0 dX7_takeNode_35 (by decide) ?_
  exact vX7_takeNode_36 E  hw hl h
set_option maxRecDepth 100000 in
set_option maxHeartbeats 4000000 in
theorem vX7_takeNode_16 {Z : zT} {p : Program} {l : Launch} {e : Env} {s : State} {m : MethodId} {args : Array Value} {below : List Frame} {meth : Method} {c : Code} {A : Nat → Prop} (E : zE Z p s m args meth c RX7 cX7_takeNode 3 (some .int) A) {Am : Nat → Nat} {v1 : Int32} {k0 : Int32} {m_thrown : Int32} {m_s : (Nat → Int32)} {m_saved : (Nat → Int32)} {m_savedMany : Int32} {m_aside : (Nat → Int32)} {m_sent : (Nat → Int32)} {m_text : (Nat → Int32)} {m_length : Int32} {m_way : (Nat → Int32)} {m_crossed : Int32} {m_wayCost : Int32} {m_isWay : Int32} {m_next : Int32} {m_start : Int32} {m_token : Int32} {m_number : Int32} {m_letters : Int64} {m_isWrong : Int32} {m_sums : (Nat → Int32)} {m_steps : (Nat → Int32)} {m_chosen : Int32} {m_passed : (Nat → Int32)} {m_passedMany : Int32} {m_passedCost : Int32} {m_reach : (Nat → Int32)} {res : Int32 × Int32 × Int32 × Int32 × Int32 × Int64 × Int32}  {H : Heap} {locs : List Loc} {ls : Array Slot} (hw : zW Z A (wX7 Z Am m_thrown m_s m_saved m_savedMany m_aside m_sent m_text m_length m_way m_crossed m_wayCost m_isWay m_next m_start m_token m_number m_letters m_isWrong m_sums m_steps m_chosen m_passed m_passedMany m_passedCost m_reach) s.heap H locs) (hl : lv_has ls 3 [(0, .ref (Am 0)), (1, .int v1)]) (h : uX7_takeNode_16 v1 k0 m_s m_text m_length m_next m_start m_token m_number m_letters m_isWrong = some res) : W p l e rmX7_takeNode s m args below meth c H locs 0 0 (MQ below (zQi Z res.1 (wX7 Z Am m_thrown m_s m_saved m_savedMany m_aside m_sent m_text m_length m_way m_crossed m_wayCost m_isWay res.2.1 res.2.2.1 res.2.2.2.1 res.2.2.2.2.1 res.2.2.2.2.2.1 res.2.2.2.2.2.2 m_sums m_steps m_chosen m_passed m_passedMany m_passedCost m_reach) A) args s 0 0 A) (F0 m 16 ls [.int k0]) := by
  unfold uX7_takeNode_16 at h
  refine r_istore_n E [(2, .int k0), (0, .ref (Am 0)), (1, .int v1)] hl dX7_takeNode_16 rfl (by decide) rfl (fun ls hl => ?_)
  refine r_aload_n E hl 1 rfl dX7_takeNode_17 rfl ?_
  refine r_aload_n E hl 1 rfl dX7_takeNode_18 rfl ?_
  refine r_iload_n E hl 0 rfl dX7_takeNode_19 rfl ?_
  obtain ⟨y1, hy1, h⟩ := bd_some h
  refine r_callVAi E hw (mX7_isNode l Z _ Am m_thrown m_s m_saved m_savedMany m_aside m_sent m_text m_length m_way m_crossed m_wayCost m_isWay m_next m_start m_token m_number m_letters m_isWrong m_sums m_steps m_chosen m_passed m_passedMany m_passedCost m_reach k0 hy1) kL_X7_125 kI_X7_isNode kS_X7_isNode kN_X7 kC_X7_isNode rfl rfl hdX7_isNode ⟨Nat.le_of_ble_eq_true rfl, Nat.le_of_ble_eq_true rfl⟩ 0 rfl rfl rfl rfl hl [.ref (Am 0)] rfl (Nat.le_of_ble_eq_true rfl) dX7_takeNode_20 ⟨Nat.zero_le _, Nat.zero_le _⟩ (fun H locs hw => ?_)
  refine r_if_eq E 35 dX7_takeNode_23 (by decide) (fun hc => ?_) (fun hc => ?_)
  · replace h := ite_t hc h
    exact vX7_takeNode_35 E  hw (lv_sub hl [1, 0] rfl) h
  · replace h := ite_f hc h
    refine r_iload_n E hl 0 rfl dX7_takeNode_26 rfl ?_
    refine r_iload_n E hl 2 rfl dX7_takeNode_27 rfl ?_
    refine r_icmp_eq E 35 dX7_takeNode_28 (by decide) (fun hc => ?_) (fun hc => ?_)
    · replace h := ite_t hc h
      exact vX7_takeNode_35 E  hw (lv_sub hl [1, 0] rfl) h
    · replace h := ite_f hc h
      refine r_iconst E 1 dX7_takeNode_31 (by decide) ?_
      refine r_goto E 36 dX7_takeNode_32 (by decide) ?_
      exact vX7_takeNode_36 E  hw (lv_sub hl [1, 0] rfl) h
set_option maxRecDepth 100000 in
set_option maxHeartbeats 4000000 in
theorem mX7_takeNode (l : Launch) (Z : zT) (sz : Nat) (Am : Nat → Nat) (m_thrown : Int32) (m_s : (Nat → Int32)) (m_saved : (Nat → Int32)) (m_savedMany : Int32) (m_aside : (Nat → Int32)) (m_sent : (Nat → Int32)) (m_text : (Nat → Int32)) (m_length : Int32) (m_way : (Nat → Int32)) (m_crossed : Int32) (m_wayCost : Int32) (m_isWay : Int32) (m_next : Int32) (m_start : Int32) (m_token : Int32) (m_number : Int32) (m_letters : Int64) (m_isWrong : Int32) (m_sums : (Nat → Int32)) (m_steps : (Nat → Int32)) (m_chosen : Int32) (m_passed : (Nat → Int32)) (m_passedMany : Int32) (m_passedCost : Int32) (m_reach : (Nat → Int32)) (v1 : Int32) {res : Int32 × Int32 × Int32 × Int32 × Int32 × Int64 × Int32} (h : fX7_takeNode v1 m_s m_text m_length m_next m_start m_token m_number m_letters m_isWrong = some res) : Met l yX7_takeNode (Cond.code yX7_takeNode cX7_takeNode 3 (some .int) :: zWs) rmX7_takeNode (zP Z (wX7 Z Am m_thrown m_s m_saved m_savedMany m_aside m_sent m_text m_length m_way m_crossed m_wayCost m_isWay m_next m_start m_token m_number m_letters m_isWrong m_sums m_steps m_chosen m_passed m_passedMany m_passedCost m_reach) sz [.ref (Am 0), .int v1]) (zQi Z res.1 (wX7 Z Am m_thrown m_s m_saved m_savedMany m_aside m_sent m_text m_length m_way m_crossed m_wayCost m_isWay res.2.1 res.2.2.1 res.2.2.2.1 res.2.2.2.2.1 res.2.2.2.2.2.1 res.2.2.2.2.2.2 m_sums m_steps m_chosen m_passed m_passedMany m_passedCost m_reach) (va_A (wX7 Z Am m_thrown m_s m_saved m_savedMany m_aside m_sent m_text m_length m_way m_crossed m_wayCost m_isWay m_next m_start m_token m_number m_letters m_isWrong m_sums m_steps m_chosen m_passed m_passedMany m_passedCost m_reach) sz)) 0 0 (va_A (wX7 Z Am m_thrown m_s m_saved m_savedMany m_aside m_sent m_text m_length m_way m_crossed m_wayCost m_isWay m_next m_start m_token m_number m_letters m_isWrong m_sums m_steps m_chosen m_passed m_passedMany m_passedCost m_reach) sz) := by
  refine zMet (own := RX7) (fun A => zQi Z res.1 (wX7 Z Am m_thrown m_s m_saved m_savedMany m_aside m_sent m_text m_length m_way m_crossed m_wayCost m_isWay res.2.1 res.2.2.1 res.2.2.2.1 res.2.2.2.2.1 res.2.2.2.2.2.1 res.2.2.2.2.2.2 m_sums m_steps m_chosen m_passed m_passedMany m_passedCost m_reach) A) (by decide) rfl (Nat.le_of_ble_eq_true rfl) ?_
  intro p e s m args below meth c ls A E hw hl
  unfold fX7_takeNode at h
  refine r_aload_n E hl 0 rfl dX7_takeNode_0 rfl ?_
  refine r_get E kW_X7 hw 0 rfl rfl 14 (by decide) kF_X7_164 rfl dX7_takeNode_1 ?_
  refine r_iconst E 1 dX7_takeNode_4 (by decide) ?_
  refine r_icmp_ne E 15 dX7_takeNode_5 (by decide) (fun hc => ?_) (fun hc => ?_)
  · replace h := ite_f hc h
    refine r_iconst E (-1) dX7_takeNode_15 (by decide) ?_
    exact vX7_takeNode_16 E  hw hl h
  · replace h := ite_t hc h
    refine r_aload_n E hl 0 rfl dX7_takeNode_8 rfl ?_
    refine r_get E kW_X7 hw 0 rfl rfl 15 (by decide) kF_X7_167 rfl dX7_takeNode_9 ?_
    refine r_goto E 16 dX7_takeNode_12 (by decide) ?_
    exact vX7_takeNode_16 E  hw hl h
abbrev rmX7_readLink : Room := { frames := 8, cells := 0, slots := 0, locals := 192 }

set_option maxRecDepth 100000 in
set_option maxHeartbeats 4000000 in
theorem vX7_readLink_17 {Z : zT} {p : Program} {l : Launch} {e : Env} {s : State} {m : MethodId} {args : Array Value} {below : List Frame} {meth : Method} {c : Code} {A : Nat → Prop} (E : zE Z p s m args meth c RX7 cX7_readLink 5 none A) {Am : Nat → Nat} {v1 : Int32} {k1 : Int32} {m_thrown : Int32} {m_s : (Nat → Int32)} {m_saved : (Nat → Int32)} {m_savedMany : Int32} {m_aside : (Nat → Int32)} {m_sent : (Nat → Int32)} {m_text : (Nat → Int32)} {m_length : Int32} {m_way : (Nat → Int32)} {m_crossed : Int32} {m_wayCost : Int32} {m_isWay : Int32} {m_next : Int32} {m_start : Int32} {m_token : Int32} {m_number : Int32} {m_letters : Int64} {m_isWrong : Int32} {m_sums : (Nat → Int32)} {m_steps : (Nat → Int32)} {m_chosen : Int32} {m_passed : (Nat → Int32)} {m_passedMany : Int32} {m_passedCost : Int32} {m_reach : (Nat → Int32)} {res : (Nat → Int32) × Int32 × Int32 × Int32 × Int32 × Int64 × Int32}  {H : Heap} {locs : List Loc} {ls : Array Slot} (hw : zW Z A (wX7 Z Am m_thrown m_s m_saved m_savedMany m_aside m_sent m_text m_length m_way m_crossed m_wayCost m_isWay m_next m_start m_token m_number m_letters m_isWrong m_sums m_steps m_chosen m_passed m_passedMany m_passedCost m_reach) s.heap H locs) (hl : lv_has ls 5 [(0, .ref (Am 0)), (1, .int v1)]) (h : uX7_readLink_17 v1 k1 m_s m_text m_length m_next m_start m_token m_number m_letters m_isWrong = some res) : W p l e rmX7_readLink s m args below meth c H locs 0 0 (MQ below (zQv Z (wX7 Z Am m_thrown res.1 m_saved m_savedMany m_aside m_sent m_text m_length m_way m_crossed m_wayCost m_isWay res.2.1 res.2.2.1 res.2.2.2.1 res.2.2.2.2.1 res.2.2.2.2.2.1 res.2.2.2.2.2.2 m_sums m_steps m_chosen m_passed m_passedMany m_passedCost m_reach) A) args s 0 0 A) (F0 m 17 ls [.int k1, .ref (Am 0)]) := by
  unfold uX7_readLink_17 at h
  obtain ⟨y2, hy2, h⟩ := bd_some h
  refine r_callVAv E hw (mX7_take l Z _ Am m_thrown m_s m_saved m_savedMany m_aside m_sent m_text m_length m_way m_crossed m_wayCost m_isWay m_next m_start m_token m_number m_letters m_isWrong m_sums m_steps m_chosen m_passed m_passedMany m_passedCost m_reach k1 hy2) kL_X7_184 kI_X7_take kS_X7_take kN_X7 kC_X7_take rfl rfl hdX7_take ⟨Nat.le_of_ble_eq_true rfl, Nat.le_of_ble_eq_true rfl⟩ 0 rfl rfl rfl rfl hl [] rfl (Nat.le_of_ble_eq_true rfl) dX7_readLink_17 ⟨Nat.zero_le _, Nat.zero_le _⟩ (fun H locs hw => ?_)
  refine r_aload_n E hl 0 rfl dX7_readLink_20 rfl ?_
  refine r_bipush E (-9) dX7_readLink_21 (by decide) ?_
  obtain ⟨y3, hy3, h⟩ := bd_some h
  refine r_callVAi E hw (mX7_takeNode l Z _ Am m_thrown m_s m_saved m_savedMany m_aside m_sent m_text m_length m_way m_crossed m_wayCost m_isWay y2.1 y2.2.1 y2.2.2.1 y2.2.2.2.1 y2.2.2.2.2.1 y2.2.2.2.2.2 m_sums m_steps m_chosen m_passed m_passedMany m_passedCost m_reach (-9 : Int32) hy3) kL_X7_188 kI_X7_takeNode kS_X7_takeNode kN_X7 kC_X7_takeNode rfl rfl hdX7_takeNode ⟨Nat.le_of_ble_eq_true rfl, Nat.le_of_ble_eq_true rfl⟩ 0 rfl rfl rfl rfl hl [] rfl (Nat.le_of_ble_eq_true rfl) dX7_readLink_23 ⟨Nat.zero_le _, Nat.zero_le _⟩ (fun H locs hw => ?_)
  refine r_istore_n E [(2, .int y3.1), (0, .ref (Am 0)), (1, .int v1)] hl dX7_readLink_26 rfl (by decide) rfl (fun ls hl => ?_)
  refine r_aload_n E hl 1 rfl dX7_readLink_27 rfl ?_
  refine r_iload_n E hl 0 rfl dX7_readLink_28 rfl ?_
  obtain ⟨y4, hy4, h⟩ := bd_some h
  refine r_callVAi E hw (mX7_takeNode l Z _ Am m_thrown m_s m_saved m_savedMany m_aside m_sent m_text m_length m_way m_crossed m_wayCost m_isWay y3.2.1 y3.2.2.1 y3.2.2.2.1 y3.2.2.2.2.1 y3.2.2.2.2.2.1 y3.2.2.2.2.2.2 m_sums m_steps m_chosen m_passed m_passedMany m_passedCost m_reach y3.1 hy4) kL_X7_188 kI_X7_takeNode kS_X7_takeNode kN_X7 kC_X7_takeNode rfl rfl hdX7_takeNode ⟨Nat.le_of_ble_eq_true rfl, Nat.le_of_ble_eq_true rfl⟩ 0 rfl rfl rfl rfl hl [] rfl (Nat.le_of_ble_eq_true rfl) dX7_readLink_29 ⟨Nat.zero_le _, Nat.zero_le _⟩ (fun H locs hw => ?_)
  refine r_istore_n E [(3, .int y4.1), (2, .int y3.1), (0, .ref (Am 0)), (1, .int v1)] hl dX7_readLink_32 rfl (by decide) rfl (fun ls hl => ?_)
  refine r_aload_n E hl 2 rfl dX7_readLink_33 rfl ?_
  refine r_iconst E 1 dX7_readLink_34 (by decide) ?_
  refine r_bipush E 20 dX7_readLink_35 (by decide) ?_
  obtain ⟨y5, hy5, h⟩ := bd_some h
  refine r_callVAi E hw (mX7_takeNumber l Z _ Am m_thrown m_s m_saved m_savedMany m_aside m_sent m_text m_length m_way m_crossed m_wayCost m_isWay y4.2.1 y4.2.2.1 y4.2.2.2.1 y4.2.2.2.2.1 y4.2.2.2.2.2.1 y4.2.2.2.2.2.2 m_sums m_steps m_chosen m_passed m_passedMany m_passedCost m_reach (1 : Int32) (20 : Int32) hy5) kL_X7_191 kI_X7_takeNumber kS_X7_takeNumber kN_X7 kC_X7_takeNumber rfl rfl hdX7_takeNumber ⟨Nat.le_of_ble_eq_true rfl, Nat.le_of_ble_eq_true rfl⟩ 0 rfl rfl rfl rfl hl [] rfl (Nat.le_of_ble_eq_true rfl) dX7_readLink_37 ⟨Nat.zero_le _, Nat.zero_le _⟩ (fun H locs hw => ?_)
  refine r_istore E [(4, .int y5.1), (3, .int y4.1), (2, .int y3.1), (0, .ref (Am 0)), (1, .int v1)] hl dX7_readLink_40 (by decide) rfl (fun ls hl => ?_)
  refine r_aload_n E hl 3 rfl dX7_readLink_42 rfl ?_
  refine r_get E kW_X7 hw 0 rfl rfl 17 (by decide) kF_X7_178 rfl dX7_readLink_43 ?_
  refine r_if_ne E 59 dX7_readLink_46 (by decide) (fun hc => ?_) (fun hc => ?_)
  · replace h := ite_f hc h
    obtain rfl := Option.some.inj h
    exact r_vret E hw dX7_readLink_59
  · replace h := ite_t hc h
    refine r_aload_n E hl 3 rfl dX7_readLink_49 rfl ?_
    refine r_iload_n E hl 2 rfl dX7_readLink_50 rfl ?_
    refine r_iload_n E hl 1 rfl dX7_readLink_51 rfl ?_
    refine r_iload E hl 0 rfl dX7_readLink_52 ?_
    refine r_iload_n E hl 4 rfl dX7_readLink_54 rfl ?_
    obtain ⟨y6, hy6, h⟩ := bd_some h
    refine r_callVAi E hw (mX7_makeLink l Z _ Am m_thrown m_s m_saved m_savedMany m_aside m_sent m_text m_length m_way m_crossed m_wayCost m_isWay y5.2.1 y5.2.2.1 y5.2.2.2.1 y5.2.2.2.2.1 y5.2.2.2.2.2.1 y5.2.2.2.2.2.2 m_sums m_steps m_chosen m_passed m_passedMany m_passedCost m_reach y3.1 y4.1 y5.1 v1 hy6) kL_X7_131 kI_X7_makeLink kS_X7_makeLink kN_X7 kC_X7_makeLink rfl rfl hdX7_makeLink ⟨Nat.le_of_ble_eq_true rfl, Nat.le_of_ble_eq_true rfl⟩ 0 rfl rfl rfl rfl hl [] rfl (Nat.le_of_ble_eq_true rfl) dX7_readLink_55 ⟨Nat.zero_le _, Nat.zero_le _⟩ (fun H locs hw => ?_)
    refine r_pop E dX7_readLink_58 rfl ?_
    obtain rfl := Option.some.inj h
    exact r_vret E hw dX7_readLink_59
set_option maxRecDepth 100000 in
set_option maxHeartbeats 4000000 in
theorem mX7_readLink (l : Launch) (Z : zT) (sz : Nat) (Am : Nat → Nat) (m_thrown : Int32) (m_s : (Nat → Int32)) (m_saved : (Nat → Int32)) (m_savedMany : Int32) (m_aside : (Nat → Int32)) (m_sent : (Nat → Int32)) (m_text : (Nat → Int32)) (m_length : Int32) (m_way : (Nat → Int32)) (m_crossed : Int32) (m_wayCost : Int32) (m_isWay : Int32) (m_next : Int32) (m_start : Int32) (m_token : Int32) (m_number : Int32) (m_letters : Int64) (m_isWrong : Int32) (m_sums : (Nat → Int32)) (m_steps : (Nat → Int32)) (m_chosen : Int32) (m_passed : (Nat → Int32)) (m_passedMany : Int32) (m_passedCost : Int32) (m_reach : (Nat → Int32)) (v1 : Int32) {res : (Nat → Int32) × Int32 × Int32 × Int32 × Int32 × Int64 × Int32} (h : fX7_readLink v1 m_s m_text m_length m_next m_start m_token m_number m_letters m_isWrong = some res) : Met l yX7_readLink (Cond.code yX7_readLink cX7_readLink 5 none :: zWs) rmX7_readLink (zP Z (wX7 Z Am m_thrown m_s m_saved m_savedMany m_aside m_sent m_text m_length m_way m_crossed m_wayCost m_isWay m_next m_start m_token m_number m_letters m_isWrong m_sums m_steps m_chosen m_passed m_passedMany m_passedCost m_reach) sz [.ref (Am 0), .int v1]) (zQv Z (wX7 Z Am m_thrown res.1 m_saved m_savedMany m_aside m_sent m_text m_length m_way m_crossed m_wayCost m_isWay res.2.1 res.2.2.1 res.2.2.2.1 res.2.2.2.2.1 res.2.2.2.2.2.1 res.2.2.2.2.2.2 m_sums m_steps m_chosen m_passed m_passedMany m_passedCost m_reach) (va_A (wX7 Z Am m_thrown m_s m_saved m_savedMany m_aside m_sent m_text m_length m_way m_crossed m_wayCost m_isWay m_next m_start m_token m_number m_letters m_isWrong m_sums m_steps m_chosen m_passed m_passedMany m_passedCost m_reach) sz)) 0 0 (va_A (wX7 Z Am m_thrown m_s m_saved m_savedMany m_aside m_sent m_text m_length m_way m_crossed m_wayCost m_isWay m_next m_start m_token m_number m_letters m_isWrong m_sums m_steps m_chosen m_passed m_passedMany m_passedCost m_reach) sz) := by
  refine zMet (own := RX7) (fun A => zQv Z (wX7 Z Am m_thrown res.1 m_saved m_savedMany m_aside m_sent m_text m_length m_way m_crossed m_wayCost m_isWay res.2.1 res.2.2.1 res.2.2.2.1 res.2.2.2.2.1 res.2.2.2.2.2.1 res.2.2.2.2.2.2 m_sums m_steps m_chosen m_passed m_passedMany m_passedCost m_reach) A) (by decide) rfl (Nat.le_of_ble_eq_true rfl) ?_
  intro p e s m args below meth c ls A E hw hl
  unfold fX7_readLink at h
  refine r_aload_n E hl 0 rfl dX7_readLink_0 rfl ?_
  refine r_aload_n E hl 0 rfl dX7_readLink_1 rfl ?_
  refine r_get E kW_X7 hw 0 rfl rfl 1 (by decide) kF_X7_7 rfl dX7_readLink_2 ?_
  refine r_iconst E 1 dX7_readLink_5 (by decide) ?_
  obtain ⟨hg1, h⟩ := gd_some h
  refine r_iald E hw 1 rfl hg1 dX7_readLink_6 ?_
  refine r_bipush E 16 dX7_readLink_7 (by decide) ?_
  refine r_icmp_ge E 16 dX7_readLink_9 (by decide) (fun hc => ?_) (fun hc => ?_)
  · replace h := ite_t hc h
    refine r_iconst E 0 dX7_readLink_16 (by decide) ?_
    exact vX7_readLink_17 E  hw hl h
  · replace h := ite_f hc h
    refine r_iconst E 1 dX7_readLink_12 (by decide) ?_
    refine r_goto E 17 dX7_readLink_13 (by decide) ?_
    exact vX7_readLink_17 E  hw hl h
abbrev rmX7_readTunnel : Room := { frames := 7, cells := 0, slots := 0, locals := 166 }

set_option maxRecDepth 100000 in
set_option maxHeartbeats 4000000 in
theorem vX7_readTunnel_16 {Z : zT} {p : Program} {l : Launch} {e : Env} {s : State} {m : MethodId} {args : Array Value} {below : List Frame} {meth : Method} {c : Code} {A : Nat → Prop} (E : zE Z p s m args meth c RX7 cX7_readTunnel 4 none A) {Am : Nat → Nat} {k1 : Int32} {m_thrown : Int32} {m_s : (Nat → Int32)} {m_saved : (Nat → Int32)} {m_savedMany : Int32} {m_aside : (Nat → Int32)} {m_sent : (Nat → Int32)} {m_text : (Nat → Int32)} {m_length : Int32} {m_way : (Nat → Int32)} {m_crossed : Int32} {m_wayCost : Int32} {m_isWay : Int32} {m_next : Int32} {m_start : Int32} {m_token : Int32} {m_number : Int32} {m_letters : Int64} {m_isWrong : Int32} {m_sums : (Nat → Int32)} {m_steps : (Nat → Int32)} {m_chosen : Int32} {m_passed : (Nat → Int32)} {m_passedMany : Int32} {m_passedCost : Int32} {m_reach : (Nat → Int32)} {res : (Nat → Int32) × Int32 × Int32 × Int32 × Int32 × Int64 × Int32}  {H : Heap} {locs : List Loc} {ls : Array Slot} (hw : zW Z A (wX7 Z Am m_thrown m_s m_saved m_savedMany m_aside m_sent m_text m_length m_way m_crossed m_wayCost m_isWay m_next m_start m_token m_number m_letters m_isWrong m_sums m_steps m_chosen m_passed m_passedMany m_passedCost m_reach) s.heap H locs) (hl : lv_has ls 4 [(0, .ref (Am 0))]) (h : uX7_readTunnel_16 k1 m_s m_text m_length m_next m_start m_token m_number m_letters m_isWrong = some res) : W p l e rmX7_readTunnel s m args below meth c H locs 0 0 (MQ below (zQv Z (wX7 Z Am m_thrown res.1 m_saved m_savedMany m_aside m_sent m_text m_length m_way m_crossed m_wayCost m_isWay res.2.1 res.2.2.1 res.2.2.2.1 res.2.2.2.2.1 res.2.2.2.2.2.1 res.2.2.2.2.2.2 m_sums m_steps m_chosen m_passed m_passedMany m_passedCost m_reach) A) args s 0 0 A) (F0 m 16 ls [.int k1, .ref (Am 0)]) := by
  unfold uX7_readTunnel_16 at h
  obtain ⟨y2, hy2, h⟩ := bd_some h
  refine r_callVAv E hw (mX7_take l Z _ Am m_thrown m_s m_saved m_savedMany m_aside m_sent m_text m_length m_way m_crossed m_wayCost m_isWay m_next m_start m_token m_number m_letters m_isWrong m_sums m_steps m_chosen m_passed m_passedMany m_passedCost m_reach k1 hy2) kL_X7_184 kI_X7_take kS_X7_take kN_X7 kC_X7_take rfl rfl hdX7_take ⟨Nat.le_of_ble_eq_true rfl, Nat.le_of_ble_eq_true rfl⟩ 0 rfl rfl rfl rfl hl [] rfl (Nat.le_of_ble_eq_true rfl) dX7_readTunnel_16 ⟨Nat.zero_le _, Nat.zero_le _⟩ (fun H locs hw => ?_)
  refine r_aload_n E hl 0 rfl dX7_readTunnel_19 rfl ?_
  refine r_bipush E (-9) dX7_readTunnel_20 (by decide) ?_
  obtain ⟨y3, hy3, h⟩ := bd_some h
  refine r_callVAi E hw (mX7_takeNode l Z _ Am m_thrown m_s m_saved m_savedMany m_aside m_sent m_text m_length m_way m_crossed m_wayCost m_isWay y2.1 y2.2.1 y2.2.2.1 y2.2.2.2.1 y2.2.2.2.2.1 y2.2.2.2.2.2 m_sums m_steps m_chosen m_passed m_passedMany m_passedCost m_reach (-9 : Int32) hy3) kL_X7_188 kI_X7_takeNode kS_X7_takeNode kN_X7 kC_X7_takeNode rfl rfl hdX7_takeNode ⟨Nat.le_of_ble_eq_true rfl, Nat.le_of_ble_eq_true rfl⟩ 0 rfl rfl rfl rfl hl [] rfl (Nat.le_of_ble_eq_true rfl) dX7_readTunnel_22 ⟨Nat.zero_le _, Nat.zero_le _⟩ (fun H locs hw => ?_)
  refine r_istore_n E [(1, .int y3.1), (0, .ref (Am 0))] hl dX7_readTunnel_25 rfl (by decide) rfl (fun ls hl => ?_)
  refine r_aload_n E hl 1 rfl dX7_readTunnel_26 rfl ?_
  refine r_iload_n E hl 0 rfl dX7_readTunnel_27 rfl ?_
  obtain ⟨y4, hy4, h⟩ := bd_some h
  refine r_callVAi E hw (mX7_takeNode l Z _ Am m_thrown m_s m_saved m_savedMany m_aside m_sent m_text m_length m_way m_crossed m_wayCost m_isWay y3.2.1 y3.2.2.1 y3.2.2.2.1 y3.2.2.2.2.1 y3.2.2.2.2.2.1 y3.2.2.2.2.2.2 m_sums m_steps m_chosen m_passed m_passedMany m_passedCost m_reach y3.1 hy4) kL_X7_188 kI_X7_takeNode kS_X7_takeNode kN_X7 kC_X7_takeNode rfl rfl hdX7_takeNode ⟨Nat.le_of_ble_eq_true rfl, Nat.le_of_ble_eq_true rfl⟩ 0 rfl rfl rfl rfl hl [] rfl (Nat.le_of_ble_eq_true rfl) dX7_readTunnel_28 ⟨Nat.zero_le _, Nat.zero_le _⟩ (fun H locs hw => ?_)
  refine r_istore_n E [(2, .int y4.1), (1, .int y3.1), (0, .ref (Am 0))] hl dX7_readTunnel_31 rfl (by decide) rfl (fun ls hl => ?_)
  refine r_aload_n E hl 2 rfl dX7_readTunnel_32 rfl ?_
  refine r_iconst E 1 dX7_readTunnel_33 (by decide) ?_
  refine r_bipush E 40 dX7_readTunnel_34 (by decide) ?_
  obtain ⟨y5, hy5, h⟩ := bd_some h
  refine r_callVAi E hw (mX7_takeNumber l Z _ Am m_thrown m_s m_saved m_savedMany m_aside m_sent m_text m_length m_way m_crossed m_wayCost m_isWay y4.2.1 y4.2.2.1 y4.2.2.2.1 y4.2.2.2.2.1 y4.2.2.2.2.2.1 y4.2.2.2.2.2.2 m_sums m_steps m_chosen m_passed m_passedMany m_passedCost m_reach (1 : Int32) (40 : Int32) hy5) kL_X7_191 kI_X7_takeNumber kS_X7_takeNumber kN_X7 kC_X7_takeNumber rfl rfl hdX7_takeNumber ⟨Nat.le_of_ble_eq_true rfl, Nat.le_of_ble_eq_true rfl⟩ 0 rfl rfl rfl rfl hl [] rfl (Nat.le_of_ble_eq_true rfl) dX7_readTunnel_36 ⟨Nat.zero_le _, Nat.zero_le _⟩ (fun H locs hw => ?_)
  refine r_istore_n E [(3, .int y5.1), (2, .int y4.1), (1, .int y3.1), (0, .ref (Am 0))] hl dX7_readTunnel_39 rfl (by decide) rfl (fun ls hl => ?_)
  refine r_aload_n E hl 3 rfl dX7_readTunnel_40 rfl ?_
  refine r_get E kW_X7 hw 0 rfl rfl 17 (by decide) kF_X7_178 rfl dX7_readTunnel_41 ?_
  refine r_if_ne E 55 dX7_readTunnel_44 (by decide) (fun hc => ?_) (fun hc => ?_)
  · replace h := ite_f hc h
    obtain rfl := Option.some.inj h
    exact r_vret E hw dX7_readTunnel_55
  · replace h := ite_t hc h
    refine r_aload_n E hl 3 rfl dX7_readTunnel_47 rfl ?_
    refine r_iload_n E hl 2 rfl dX7_readTunnel_48 rfl ?_
    refine r_iload_n E hl 1 rfl dX7_readTunnel_49 rfl ?_
    refine r_iload_n E hl 0 rfl dX7_readTunnel_50 rfl ?_
    obtain ⟨y6, hy6, h⟩ := bd_some h
    refine r_callVAi E hw (mX7_makeTunnel l Z _ Am m_thrown m_s m_saved m_savedMany m_aside m_sent m_text m_length m_way m_crossed m_wayCost m_isWay y5.2.1 y5.2.2.1 y5.2.2.2.1 y5.2.2.2.2.1 y5.2.2.2.2.2.1 y5.2.2.2.2.2.2 m_sums m_steps m_chosen m_passed m_passedMany m_passedCost m_reach y3.1 y4.1 y5.1 hy6) kL_X7_145 kI_X7_makeTunnel kS_X7_makeTunnel kN_X7 kC_X7_makeTunnel rfl rfl hdX7_makeTunnel ⟨Nat.le_of_ble_eq_true rfl, Nat.le_of_ble_eq_true rfl⟩ 0 rfl rfl rfl rfl hl [] rfl (Nat.le_of_ble_eq_true rfl) dX7_readTunnel_51 ⟨Nat.zero_le _, Nat.zero_le _⟩ (fun H locs hw => ?_)
    refine r_pop E dX7_readTunnel_54 rfl ?_
    obtain rfl := Option.some.inj h
    exact r_vret E hw dX7_readTunnel_55
set_option maxRecDepth 100000 in
set_option maxHeartbeats 4000000 in
theorem mX7_readTunnel (l : Launch) (Z : zT) (sz : Nat) (Am : Nat → Nat) (m_thrown : Int32) (m_s : (Nat → Int32)) (m_saved : (Nat → Int32)) (m_savedMany : Int32) (m_aside : (Nat → Int32)) (m_sent : (Nat → Int32)) (m_text : (Nat → Int32)) (m_length : Int32) (m_way : (Nat → Int32)) (m_crossed : Int32) (m_wayCost : Int32) (m_isWay : Int32) (m_next : Int32) (m_start : Int32) (m_token : Int32) (m_number : Int32) (m_letters : Int64) (m_isWrong : Int32) (m_sums : (Nat → Int32)) (m_steps : (Nat → Int32)) (m_chosen : Int32) (m_passed : (Nat → Int32)) (m_passedMany : Int32) (m_passedCost : Int32) (m_reach : (Nat → Int32))  {res : (Nat → Int32) × Int32 × Int32 × Int32 × Int32 × Int64 × Int32} (h : fX7_readTunnel m_s m_text m_length m_next m_start m_token m_number m_letters m_isWrong = some res) : Met l yX7_readTunnel (Cond.code yX7_readTunnel cX7_readTunnel 4 none :: zWs) rmX7_readTunnel (zP Z (wX7 Z Am m_thrown m_s m_saved m_savedMany m_aside m_sent m_text m_length m_way m_crossed m_wayCost m_isWay m_next m_start m_token m_number m_letters m_isWrong m_sums m_steps m_chosen m_passed m_passedMany m_passedCost m_reach) sz [.ref (Am 0)]) (zQv Z (wX7 Z Am m_thrown res.1 m_saved m_savedMany m_aside m_sent m_text m_length m_way m_crossed m_wayCost m_isWay res.2.1 res.2.2.1 res.2.2.2.1 res.2.2.2.2.1 res.2.2.2.2.2.1 res.2.2.2.2.2.2 m_sums m_steps m_chosen m_passed m_passedMany m_passedCost m_reach) (va_A (wX7 Z Am m_thrown m_s m_saved m_savedMany m_aside m_sent m_text m_length m_way m_crossed m_wayCost m_isWay m_next m_start m_token m_number m_letters m_isWrong m_sums m_steps m_chosen m_passed m_passedMany m_passedCost m_reach) sz)) 0 0 (va_A (wX7 Z Am m_thrown m_s m_saved m_savedMany m_aside m_sent m_text m_length m_way m_crossed m_wayCost m_isWay m_next m_start m_token m_number m_letters m_isWrong m_sums m_steps m_chosen m_passed m_passedMany m_passedCost m_reach) sz) := by
  refine zMet (own := RX7) (fun A => zQv Z (wX7 Z Am m_thrown res.1 m_saved m_savedMany m_aside m_sent m_text m_length m_way m_crossed m_wayCost m_isWay res.2.1 res.2.2.1 res.2.2.2.1 res.2.2.2.2.1 res.2.2.2.2.2.1 res.2.2.2.2.2.2 m_sums m_steps m_chosen m_passed m_passedMany m_passedCost m_reach) A) (by decide) rfl (Nat.le_of_ble_eq_true rfl) ?_
  intro p e s m args below meth c ls A E hw hl
  unfold fX7_readTunnel at h
  refine r_aload_n E hl 0 rfl dX7_readTunnel_0 rfl ?_
  refine r_aload_n E hl 0 rfl dX7_readTunnel_1 rfl ?_
  refine r_get E kW_X7 hw 0 rfl rfl 1 (by decide) kF_X7_7 rfl dX7_readTunnel_2 ?_
  refine r_iconst E 2 dX7_readTunnel_5 (by decide) ?_
  obtain ⟨hg1, h⟩ := gd_some h
  refine r_iald E hw 1 rfl hg1 dX7_readTunnel_6 ?_
  refine r_iconst E 3 dX7_readTunnel_7 (by decide) ?_
  refine r_icmp_ge E 15 dX7_readTunnel_8 (by decide) (fun hc => ?_) (fun hc => ?_)
  · replace h := ite_t hc h
    refine r_iconst E 0 dX7_readTunnel_15 (by decide) ?_
    exact vX7_readTunnel_16 E  hw hl h
  · replace h := ite_f hc h
    refine r_iconst E 1 dX7_readTunnel_11 (by decide) ?_
    refine r_goto E 16 dX7_readTunnel_12 (by decide) ?_
    exact vX7_readTunnel_16 E  hw hl h
abbrev rmX7_readGrant : Room := { frames := 6, cells := 0, slots := 0, locals := 145 }

set_option maxRecDepth 100000 in
set_option maxHeartbeats 4000000 in
theorem vX7_readGrant_66 {Z : zT} {p : Program} {l : Launch} {e : Env} {s : State} {m : MethodId} {args : Array Value} {below : List Frame} {meth : Method} {c : Code} {A : Nat → Prop} (E : zE Z p s m args meth c RX7 cX7_readGrant 3 none A) {Am : Nat → Nat} {v1 : Int32} {v2 : Int32} {k1 : Int32} {m_thrown : Int32} {m_s : (Nat → Int32)} {m_saved : (Nat → Int32)} {m_savedMany : Int32} {m_aside : (Nat → Int32)} {m_sent : (Nat → Int32)} {m_text : (Nat → Int32)} {m_length : Int32} {m_way : (Nat → Int32)} {m_crossed : Int32} {m_wayCost : Int32} {m_isWay : Int32} {m_next : Int32} {m_start : Int32} {m_token : Int32} {m_number : Int32} {m_letters : Int64} {m_isWrong : Int32} {m_sums : (Nat → Int32)} {m_steps : (Nat → Int32)} {m_chosen : Int32} {m_passed : (Nat → Int32)} {m_passedMany : Int32} {m_passedCost : Int32} {m_reach : (Nat → Int32)} {res : (Nat → Int32) × Int32 × Int32 × Int32 × Int32 × Int64 × Int32}  {H : Heap} {locs : List Loc} {ls : Array Slot} (hw : zW Z A (wX7 Z Am m_thrown m_s m_saved m_savedMany m_aside m_sent m_text m_length m_way m_crossed m_wayCost m_isWay m_next m_start m_token m_number m_letters m_isWrong m_sums m_steps m_chosen m_passed m_passedMany m_passedCost m_reach) s.heap H locs) (hl : lv_has ls 3 [(0, .ref (Am 0)), (1, .int v1), (2, .int v2)]) (h : uX7_readGrant_66 v1 v2 k1 m_s m_text m_length m_next m_start m_token m_number m_letters m_isWrong = some res) : W p l e rmX7_readGrant s m args below meth c H locs 0 0 (MQ below (zQv Z (wX7 Z Am m_thrown res.1 m_saved m_savedMany m_aside m_sent m_text m_length m_way m_crossed m_wayCost m_isWay res.2.1 res.2.2.1 res.2.2.2.1 res.2.2.2.2.1 res.2.2.2.2.2.1 res.2.2.2.2.2.2 m_sums m_steps m_chosen m_passed m_passedMany m_passedCost m_reach) A) args s 0 0 A) (F0 m 66 ls [.int k1, .ref (Am 0)]) := by
  unfold uX7_readGrant_66 at h
  obtain ⟨y3, hy3, h⟩ := bd_some h
  refine r_callVAv E hw (mX7_take l Z _ Am m_thrown m_s m_saved m_savedMany m_aside m_sent m_text m_length m_way m_crossed m_wayCost m_isWay m_next m_start m_token m_number m_letters m_isWrong m_sums m_steps m_chosen m_passed m_passedMany m_passedCost m_reach k1 hy3) kL_X7_184 kI_X7_take kS_X7_take kN_X7 kC_X7_take rfl rfl hdX7_take ⟨Nat.le_of_ble_eq_true rfl, Nat.le_of_ble_eq_true rfl⟩ 0 rfl rfl rfl rfl hl [] rfl (Nat.le_of_ble_eq_true rfl) dX7_readGrant_66 ⟨Nat.zero_le _, Nat.zero_le _⟩ (fun H locs hw => ?_)
  refine r_aload_n E hl 0 rfl dX7_readGrant_69 rfl ?_
  refine r_get E kW_X7 hw 0 rfl rfl 17 (by decide) kF_X7_178 rfl dX7_readGrant_70 ?_
  refine r_if_ne E 83 dX7_readGrant_73 (by decide) (fun hc => ?_) (fun hc => ?_)
  · replace h := ite_f hc h
    obtain rfl := Option.some.inj h
    exact r_vret E hw dX7_readGrant_83
  · replace h := ite_t hc h
    refine r_aload_n E hl 0 rfl dX7_readGrant_76 rfl ?_
    refine r_iload_n E hl 1 rfl dX7_readGrant_77 rfl ?_
    refine r_iload_n E hl 2 rfl dX7_readGrant_78 rfl ?_
    refine r_iconst E 1 dX7_readGrant_79 (by decide) ?_
    obtain ⟨y4, hy4, h⟩ := bd_some h
    refine r_callVAv E hw (mX7_changeGrant l Z _ Am m_thrown m_s m_saved m_savedMany m_aside m_sent m_text m_length m_way m_crossed m_wayCost m_isWay y3.1 y3.2.1 y3.2.2.1 y3.2.2.2.1 y3.2.2.2.2.1 y3.2.2.2.2.2 m_sums m_steps m_chosen m_passed m_passedMany m_passedCost m_reach v1 v2 (1 : Int32) hy4) kL_X7_141 kI_X7_changeGrant kS_X7_changeGrant kN_X7 kC_X7_changeGrant rfl rfl hdX7_changeGrant ⟨Nat.le_of_ble_eq_true rfl, Nat.le_of_ble_eq_true rfl⟩ 0 rfl rfl rfl rfl hl [] rfl (Nat.le_of_ble_eq_true rfl) dX7_readGrant_80 ⟨Nat.zero_le _, Nat.zero_le _⟩ (fun H locs hw => ?_)
    obtain rfl := Option.some.inj h
    exact r_vret E hw dX7_readGrant_83
set_option maxRecDepth 100000 in
set_option maxHeartbeats 4000000 in
theorem vX7_readGrant_65 {Z : zT} {p : Program} {l : Launch} {e : Env} {s : State} {m : MethodId} {args : Array Value} {below : List Frame} {meth : Method} {c : Code} {A : Nat → Prop} (E : zE Z p s m args meth c RX7 cX7_readGrant 3 none A) {Am : Nat → Nat} {v1 : Int32} {v2 : Int32} {m_thrown : Int32} {m_s : (Nat → Int32)} {m_saved : (Nat → Int32)} {m_savedMany : Int32} {m_aside : (Nat → Int32)} {m_sent : (Nat → Int32)} {m_text : (Nat → Int32)} {m_length : Int32} {m_way : (Nat → Int32)} {m_crossed : Int32} {m_wayCost : Int32} {m_isWay : Int32} {m_next : Int32} {m_start : Int32} {m_token : Int32} {m_number : Int32} {m_letters : Int64} {m_isWrong : Int32} {m_sums : (Nat → Int32)} {m_steps : (Nat → Int32)} {m_chosen : Int32} {m_passed : (Nat → Int32)} {m_passedMany : Int32} {m_passedCost : Int32} {m_reach : (Nat → Int32)} {res : (Nat → Int32) × Int32 × Int32 × Int32 × Int32 × Int64 × Int32}  {H : Heap} {locs : List Loc} {ls : Array Slot} (hw : zW Z A (wX7 Z Am m_thrown m_s m_saved m_savedMany m_aside m_sent m_text m_length m_way m_crossed m_wayCost m_isWay m_next m_start m_token m_number m_letters m_isWrong m_sums m_steps m_chosen m_passed m_passedMany m_passedCost m_reach) s.heap H locs) (hl : lv_has ls 3 [(0, .ref (Am 0)), (1, .int v1), (2, .int v2)]) (h : uX7_readGrant_65 v1 v2 m_s m_text m_length m_next m_start m_token m_number m_letters m_isWrong = some res) : W p l e rmX7_readGrant s m args below meth c H locs 0 0 (MQ below (zQv Z (wX7 Z Am m_thrown res.1 m_saved m_savedMany m_aside m_sent m_text m_length m_way m_crossed m_wayCost m_isWay res.2.1 res.2.2.1 res.2.2.2.1 res.2.2.2.2.1 res.2.2.2.2.2.1 res.2.2.2.2.2.2 m_sums m_steps m_chosen m_passed m_passedMany m_passedCost m_reach) A) args s 0 0 A) (F0 m 65 ls [.ref (Am 0)]) := by
  unfold uX7_readGrant_65 at h
  refine r_iconst E 0 dX7_readGrant_65 (by decide) ?_
  exact vX7_readGrant_66 E  hw hl h
set_option maxRecDepth 100000 in
set_option maxHeartbeats 4000000 in
theorem vX7_readGrant_28 {Z : zT} {p : Program} {l : Launch} {e : Env} {s : State} {m : MethodId} {args : Array Value} {below : List Frame} {meth : Method} {c : Code} {A : Nat → Prop} (E : zE Z p s m args meth c RX7 cX7_readGrant 3 none A) {Am : Nat → Nat} {v1 : Int32} {k0 : Int32} {m_thrown : Int32} {m_s : (Nat → Int32)} {m_saved : (Nat → Int32)} {m_savedMany : Int32} {m_aside : (Nat → Int32)} {m_sent : (Nat → Int32)} {m_text : (Nat → Int32)} {m_length : Int32} {m_way : (Nat → Int32)} {m_crossed : Int32} {m_wayCost : Int32} {m_isWay : Int32} {m_next : Int32} {m_start : Int32} {m_token : Int32} {m_number : Int32} {m_letters : Int64} {m_isWrong : Int32} {m_sums : (Nat → Int32)} {m_steps : (Nat → Int32)} {m_chosen : Int32} {m_passed : (Nat → Int32)} {m_passedMany : Int32} {m_passedCost : Int32} {m_reach : (Nat → Int32)} {res : (Nat → Int32) × Int32 × Int32 × Int32 × Int32 × Int64 × Int32}  {H : Heap} {locs : List Loc} {ls : Array Slot} (hw : zW Z A (wX7 Z Am m_thrown m_s m_saved m_savedMany m_aside m_sent m_text m_length m_way m_crossed m_wayCost m_isWay m_next m_start m_token m_number m_letters m_isWrong m_sums m_steps m_chosen m_passed m_passedMany m_passedCost m_reach) s.heap H locs) (hl : lv_has ls 3 [(0, .ref (Am 0)), (1, .int v1)]) (h : uX7_readGrant_28 v1 k0 m_s m_text m_length m_next m_start m_token m_number m_letters m_isWrong = some res) : W p l e rmX7_readGrant s m args below meth c H locs 0 0 (MQ below (zQv Z (wX7 Z Am m_thrown res.1 m_saved m_savedMany m_aside m_sent m_text m_length m_way m_crossed m_wayCost m_isWay res.2.1 res.2.2.1 res.2.2.2.1 res.2.2.2.2.1 res.2.2.2.2.2.1 res.2.2.2.2.2.2 m_sums m_steps m_chosen m_passed m_passedMany m_passedCost m_reach) A) args s 0 0 A) (F0 m 28 ls [.int k0]) := by
  unfold uX7_readGrant_28 at h
  refine r_istore_n E [(2, .int k0), (0, .ref (Am 0)), (1, .int v1)] hl dX7_readGrant_28 rfl (by decide) rfl (fun ls hl => ?_)
  refine r_aload_n E hl 1 rfl dX7_readGrant_29 rfl ?_
  refine r_aload_n E hl 1 rfl dX7_readGrant_30 rfl ?_
  refine r_get E kW_X7 hw 0 rfl rfl 17 (by decide) kF_X7_178 rfl dX7_readGrant_31 ?_
  refine r_if_ne E 65 dX7_readGrant_34 (by decide) (fun hc => ?_) (fun hc => ?_)
  · replace h := ite_f hc h
    exact vX7_readGrant_65 E  hw (lv_sub hl [1, 2, 0] rfl) h
  · replace h := ite_t hc h
    refine r_iload_n E hl 2 rfl dX7_readGrant_37 rfl ?_
    refine r_iload_n E hl 0 rfl dX7_readGrant_38 rfl ?_
    obtain ⟨y5, hy5, h⟩ := bd_some h
    refine r_callS0i E hw (mX7_areAreas l Z _ v1 k0 hy5) kL_X7_138 kT_X7_areAreas kN_X7 kC_X7_areAreas rfl rfl hdX7_areAreas ⟨Nat.le_of_ble_eq_true rfl, Nat.le_of_ble_eq_true rfl⟩ rfl hl [.ref (Am 0)] rfl (Nat.le_of_ble_eq_true rfl) dX7_readGrant_39 ⟨Nat.zero_le _, Nat.zero_le _⟩ (fun H locs hw => ?_)
    refine r_if_eq E 65 dX7_readGrant_42 (by decide) (fun hc => ?_) (fun hc => ?_)
    · replace h := ite_t hc h
      exact vX7_readGrant_65 E  hw (lv_sub hl [1, 2, 0] rfl) h
    · replace h := ite_f hc h
      refine r_aload_n E hl 1 rfl dX7_readGrant_45 rfl ?_
      refine r_get E kW_X7 hw 0 rfl rfl 1 (by decide) kF_X7_7 rfl dX7_readGrant_46 ?_
      refine r_bipush E 14 dX7_readGrant_49 (by decide) ?_
      refine r_iconst E 4 dX7_readGrant_51 (by decide) ?_
      refine r_iload_n E hl 2 rfl dX7_readGrant_52 rfl ?_
      refine r_imul E dX7_readGrant_53 ?_
      refine r_iadd E dX7_readGrant_54 ?_
      refine r_iload_n E hl 0 rfl dX7_readGrant_55 rfl ?_
      refine r_iadd E dX7_readGrant_56 ?_
      obtain ⟨hg6, h⟩ := gd_some h
      refine r_iald E hw 1 rfl hg6 dX7_readGrant_57 ?_
      refine r_if_ne E 65 dX7_readGrant_58 (by decide) (fun hc => ?_) (fun hc => ?_)
      · replace h := ite_f hc h
        exact vX7_readGrant_65 E  hw (lv_sub hl [1, 2, 0] rfl) h
      · replace h := ite_t hc h
        refine r_iconst E 1 dX7_readGrant_61 (by decide) ?_
        refine r_goto E 66 dX7_readGrant_62 (by decide) ?_
        exact vX7_readGrant_66 E  hw (lv_sub hl [1, 2, 0] rfl) h
set_option maxRecDepth 100000 in
set_option maxHeartbeats 4000000 in
theorem mX7_readGrant (l : Launch) (Z : zT) (sz : Nat) (Am : Nat → Nat) (m_thrown : Int32) (m_s : (Nat → Int32)) (m_saved : (Nat → Int32)) (m_savedMany : Int32) (m_aside : (Nat → Int32)) (m_sent : (Nat → Int32)) (m_text : (Nat → Int32)) (m_length : Int32) (m_way : (Nat → Int32)) (m_crossed : Int32) (m_wayCost : Int32) (m_isWay : Int32) (m_next : Int32) (m_start : Int32) (m_token : Int32) (m_number : Int32) (m_letters : Int64) (m_isWrong : Int32) (m_sums : (Nat → Int32)) (m_steps : (Nat → Int32)) (m_chosen : Int32) (m_passed : (Nat → Int32)) (m_passedMany : Int32) (m_passedCost : Int32) (m_reach : (Nat → Int32))  {res : (Nat → Int32) × Int32 × Int32 × Int32 × Int32 × Int64 × Int32} (h : fX7_readGrant m_s m_text m_length m_next m_start m_token m_number m_letters m_isWrong = some res) : Met l yX7_readGrant (Cond.code yX7_readGrant cX7_readGrant 3 none :: zWs) rmX7_readGrant (zP Z (wX7 Z Am m_thrown m_s m_saved m_savedMany m_aside m_sent m_text m_length m_way m_crossed m_wayCost m_isWay m_next m_start m_token m_number m_letters m_isWrong m_sums m_steps m_chosen m_passed m_passedMany m_passedCost m_reach) sz [.ref (Am 0)]) (zQv Z (wX7 Z Am m_thrown res.1 m_saved m_savedMany m_aside m_sent m_text m_length m_way m_crossed m_wayCost m_isWay res.2.1 res.2.2.1 res.2.2.2.1 res.2.2.2.2.1 res.2.2.2.2.2.1 res.2.2.2.2.2.2 m_sums m_steps m_chosen m_passed m_passedMany m_passedCost m_reach) (va_A (wX7 Z Am m_thrown m_s m_saved m_savedMany m_aside m_sent m_text m_length m_way m_crossed m_wayCost m_isWay m_next m_start m_token m_number m_letters m_isWrong m_sums m_steps m_chosen m_passed m_passedMany m_passedCost m_reach) sz)) 0 0 (va_A (wX7 Z Am m_thrown m_s m_saved m_savedMany m_aside m_sent m_text m_length m_way m_crossed m_wayCost m_isWay m_next m_start m_token m_number m_letters m_isWrong m_sums m_steps m_chosen m_passed m_passedMany m_passedCost m_reach) sz) := by
  refine zMet (own := RX7) (fun A => zQv Z (wX7 Z Am m_thrown res.1 m_saved m_savedMany m_aside m_sent m_text m_length m_way m_crossed m_wayCost m_isWay res.2.1 res.2.2.1 res.2.2.2.1 res.2.2.2.2.1 res.2.2.2.2.2.1 res.2.2.2.2.2.2 m_sums m_steps m_chosen m_passed m_passedMany m_passedCost m_reach) A) (by decide) rfl (Nat.le_of_ble_eq_true rfl) ?_
  intro p e s m args below meth c ls A E hw hl
  unfold fX7_readGrant at h
  refine r_aload_n E hl 0 rfl dX7_readGrant_0 rfl ?_
  refine r_iconst E 1 dX7_readGrant_1 (by decide) ?_
  obtain ⟨y1, hy1, h⟩ := bd_some h
  refine r_callVAv E hw (mX7_take l Z _ Am m_thrown m_s m_saved m_savedMany m_aside m_sent m_text m_length m_way m_crossed m_wayCost m_isWay m_next m_start m_token m_number m_letters m_isWrong m_sums m_steps m_chosen m_passed m_passedMany m_passedCost m_reach (1 : Int32) hy1) kL_X7_184 kI_X7_take kS_X7_take kN_X7 kC_X7_take rfl rfl hdX7_take ⟨Nat.le_of_ble_eq_true rfl, Nat.le_of_ble_eq_true rfl⟩ 0 rfl rfl rfl rfl hl [] rfl (Nat.le_of_ble_eq_true rfl) dX7_readGrant_2 ⟨Nat.zero_le _, Nat.zero_le _⟩ (fun H locs hw => ?_)
  refine r_aload_n E hl 0 rfl dX7_readGrant_5 rfl ?_
  refine r_iconst E 0 dX7_readGrant_6 (by decide) ?_
  refine r_iconst E 3 dX7_readGrant_7 (by decide) ?_
  obtain ⟨y2, hy2, h⟩ := bd_some h
  refine r_callVAi E hw (mX7_takeNumber l Z _ Am m_thrown m_s m_saved m_savedMany m_aside m_sent m_text m_length m_way m_crossed m_wayCost m_isWay y1.1 y1.2.1 y1.2.2.1 y1.2.2.2.1 y1.2.2.2.2.1 y1.2.2.2.2.2 m_sums m_steps m_chosen m_passed m_passedMany m_passedCost m_reach (0 : Int32) (3 : Int32) hy2) kL_X7_191 kI_X7_takeNumber kS_X7_takeNumber kN_X7 kC_X7_takeNumber rfl rfl hdX7_takeNumber ⟨Nat.le_of_ble_eq_true rfl, Nat.le_of_ble_eq_true rfl⟩ 0 rfl rfl rfl rfl hl [] rfl (Nat.le_of_ble_eq_true rfl) dX7_readGrant_8 ⟨Nat.zero_le _, Nat.zero_le _⟩ (fun H locs hw => ?_)
  refine r_istore_n E [(1, .int y2.1), (0, .ref (Am 0))] hl dX7_readGrant_11 rfl (by decide) rfl (fun ls hl => ?_)
  refine r_aload_n E hl 1 rfl dX7_readGrant_12 rfl ?_
  refine r_get E kW_X7 hw 0 rfl rfl 14 (by decide) kF_X7_164 rfl dX7_readGrant_13 ?_
  refine r_iconst E 1 dX7_readGrant_16 (by decide) ?_
  refine r_icmp_ne E 27 dX7_readGrant_17 (by decide) (fun hc => ?_) (fun hc => ?_)
  · replace h := ite_f hc h
    refine r_iconst E (-1) dX7_readGrant_27 (by decide) ?_
    exact vX7_readGrant_28 E  hw (lv_sub hl [1, 0] rfl) h
  · replace h := ite_t hc h
    refine r_aload_n E hl 1 rfl dX7_readGrant_20 rfl ?_
    refine r_get E kW_X7 hw 0 rfl rfl 15 (by decide) kF_X7_167 rfl dX7_readGrant_21 ?_
    refine r_goto E 28 dX7_readGrant_24 (by decide) ?_
    exact vX7_readGrant_28 E  hw (lv_sub hl [1, 0] rfl) h
abbrev rmX7_readItem : Room := { frames := 9, cells := 0, slots := 0, locals := 216 }

set_option maxRecDepth 100000 in
set_option maxHeartbeats 4000000 in
theorem vX7_readItem_195 {Z : zT} {p : Program} {l : Launch} {e : Env} {s : State} {m : MethodId} {args : Array Value} {below : List Frame} {meth : Method} {c : Code} {A : Nat → Prop} (E : zE Z p s m args meth c RX7 cX7_readItem 5 none A) {Am : Nat → Nat} {k1 : Int32} {m_thrown : Int32} {m_s : (Nat → Int32)} {m_saved : (Nat → Int32)} {m_savedMany : Int32} {m_aside : (Nat → Int32)} {m_sent : (Nat → Int32)} {m_text : (Nat → Int32)} {m_length : Int32} {m_way : (Nat → Int32)} {m_crossed : Int32} {m_wayCost : Int32} {m_isWay : Int32} {m_next : Int32} {m_start : Int32} {m_token : Int32} {m_number : Int32} {m_letters : Int64} {m_isWrong : Int32} {m_sums : (Nat → Int32)} {m_steps : (Nat → Int32)} {m_chosen : Int32} {m_passed : (Nat → Int32)} {m_passedMany : Int32} {m_passedCost : Int32} {m_reach : (Nat → Int32)} {res : (Nat → Int32) × Int32 × Int32 × Int32 × Int32 × Int64 × Int32}  {H : Heap} {locs : List Loc} {ls : Array Slot} (hw : zW Z A (wX7 Z Am m_thrown m_s m_saved m_savedMany m_aside m_sent m_text m_length m_way m_crossed m_wayCost m_isWay m_next m_start m_token m_number m_letters m_isWrong m_sums m_steps m_chosen m_passed m_passedMany m_passedCost m_reach) s.heap H locs) (hl : lv_has ls 5 []) (h : uX7_readItem_195 k1 m_s m_text m_length m_next m_start m_token m_number m_letters m_isWrong = some res) : W p l e rmX7_readItem s m args below meth c H locs 0 0 (MQ below (zQv Z (wX7 Z Am m_thrown res.1 m_saved m_savedMany m_aside m_sent m_text m_length m_way m_crossed m_wayCost m_isWay res.2.1 res.2.2.1 res.2.2.2.1 res.2.2.2.2.1 res.2.2.2.2.2.1 res.2.2.2.2.2.2 m_sums m_steps m_chosen m_passed m_passedMany m_passedCost m_reach) A) args s 0 0 A) (F0 m 195 ls [.int k1, .ref (Am 0)]) := by
  unfold uX7_readItem_195 at h
  obtain ⟨y1, hy1, h⟩ := bd_some h
  refine r_callVAv E hw (mX7_take l Z _ Am m_thrown m_s m_saved m_savedMany m_aside m_sent m_text m_length m_way m_crossed m_wayCost m_isWay m_next m_start m_token m_number m_letters m_isWrong m_sums m_steps m_chosen m_passed m_passedMany m_passedCost m_reach k1 hy1) kL_X7_184 kI_X7_take kS_X7_take kN_X7 kC_X7_take rfl rfl hdX7_take ⟨Nat.le_of_ble_eq_true rfl, Nat.le_of_ble_eq_true rfl⟩ 0 rfl rfl rfl rfl hl [] rfl (Nat.le_of_ble_eq_true rfl) dX7_readItem_195 ⟨Nat.zero_le _, Nat.zero_le _⟩ (fun H locs hw => ?_)
  obtain rfl := Option.some.inj h
  exact r_vret E hw dX7_readItem_198
set_option maxRecDepth 100000 in
set_option maxHeartbeats 4000000 in
theorem vX7_readItem_194 {Z : zT} {p : Program} {l : Launch} {e : Env} {s : State} {m : MethodId} {args : Array Value} {below : List Frame} {meth : Method} {c : Code} {A : Nat → Prop} (E : zE Z p s m args meth c RX7 cX7_readItem 5 none A) {Am : Nat → Nat} {m_thrown : Int32} {m_s : (Nat → Int32)} {m_saved : (Nat → Int32)} {m_savedMany : Int32} {m_aside : (Nat → Int32)} {m_sent : (Nat → Int32)} {m_text : (Nat → Int32)} {m_length : Int32} {m_way : (Nat → Int32)} {m_crossed : Int32} {m_wayCost : Int32} {m_isWay : Int32} {m_next : Int32} {m_start : Int32} {m_token : Int32} {m_number : Int32} {m_letters : Int64} {m_isWrong : Int32} {m_sums : (Nat → Int32)} {m_steps : (Nat → Int32)} {m_chosen : Int32} {m_passed : (Nat → Int32)} {m_passedMany : Int32} {m_passedCost : Int32} {m_reach : (Nat → Int32)} {res : (Nat → Int32) × Int32 × Int32 × Int32 × Int32 × Int64 × Int32}  {H : Heap} {locs : List Loc} {ls : Array Slot} (hw : zW Z A (wX7 Z Am m_thrown m_s m_saved m_savedMany m_aside m_sent m_text m_length m_way m_crossed m_wayCost m_isWay m_next m_start m_token m_number m_letters m_isWrong m_sums m_steps m_chosen m_passed m_passedMany m_passedCost m_reach) s.heap H locs) (hl : lv_has ls 5 []) (h : uX7_readItem_194 m_s m_text m_length m_next m_start m_token m_number m_letters m_isWrong = some res) : W p l e rmX7_readItem s m args below meth c H locs 0 0 (MQ below (zQv Z (wX7 Z Am m_thrown res.1 m_saved m_savedMany m_aside m_sent m_text m_length m_way m_crossed m_wayCost m_isWay res.2.1 res.2.2.1 res.2.2.2.1 res.2.2.2.2.1 res.2.2.2.2.2.1 res.2.2.2.2.2.2 m_sums m_steps m_chosen m_passed m_passedMany m_passedCost m_reach) A) args s 0 0 A) (F0 m 194 ls [.ref (Am 0)]) := by
  unfold uX7_readItem_194 at h
  refine r_iconst E 0 dX7_readItem_194 (by decide) ?_
  exact vX7_readItem_195 E  hw hl h
set_option maxRecDepth 100000 in
set_option maxHeartbeats 4000000 in
theorem vX7_readItem_160 {Z : zT} {p : Program} {l : Launch} {e : Env} {s : State} {m : MethodId} {args : Array Value} {below : List Frame} {meth : Method} {c : Code} {A : Nat → Prop} (E : zE Z p s m args meth c RX7 cX7_readItem 5 none A) {Am : Nat → Nat} {m_thrown : Int32} {m_s : (Nat → Int32)} {m_saved : (Nat → Int32)} {m_savedMany : Int32} {m_aside : (Nat → Int32)} {m_sent : (Nat → Int32)} {m_text : (Nat → Int32)} {m_length : Int32} {m_way : (Nat → Int32)} {m_crossed : Int32} {m_wayCost : Int32} {m_isWay : Int32} {m_next : Int32} {m_start : Int32} {m_token : Int32} {m_number : Int32} {m_letters : Int64} {m_isWrong : Int32} {m_sums : (Nat → Int32)} {m_steps : (Nat → Int32)} {m_chosen : Int32} {m_passed : (Nat → Int32)} {m_passedMany : Int32} {m_passedCost : Int32} {m_reach : (Nat → Int32)} {res : (Nat → Int32) × Int32 × Int32 × Int32 × Int32 × Int64 × Int32}  {H : Heap} {locs : List Loc} {ls : Array Slot} (hw : zW Z A (wX7 Z Am m_thrown m_s m_saved m_savedMany m_aside m_sent m_text m_length m_way m_crossed m_wayCost m_isWay m_next m_start m_token m_number m_letters m_isWrong m_sums m_steps m_chosen m_passed m_passedMany m_passedCost m_reach) s.heap H locs) (hl : lv_has ls 5 [(0, .ref (Am 0))]) (h : uX7_readItem_160 m_s m_text m_length m_next m_start m_token m_number m_letters m_isWrong = some res) : W p l e rmX7_readItem s m args below meth c H locs 0 0 (MQ below (zQv Z (wX7 Z Am m_thrown res.1 m_saved m_savedMany m_aside m_sent m_text m_length m_way m_crossed m_wayCost m_isWay res.2.1 res.2.2.1 res.2.2.2.1 res.2.2.2.2.1 res.2.2.2.2.2.1 res.2.2.2.2.2.2 m_sums m_steps m_chosen m_passed m_passedMany m_passedCost m_reach) A) args s 0 0 A) (F0 m 160 ls []) := by
  unfold uX7_readItem_160 at h
  refine r_aload_n E hl 0 rfl dX7_readItem_160 rfl ?_
  refine r_aload_n E hl 0 rfl dX7_readItem_161 rfl ?_
  refine r_get E kW_X7 hw 0 rfl rfl 17 (by decide) kF_X7_178 rfl dX7_readItem_162 ?_
  refine r_if_ne E 194 dX7_readItem_165 (by decide) (fun hc => ?_) (fun hc => ?_)
  · replace h := ite_f hc h
    exact vX7_readItem_194 E  hw (lv_sub hl [] rfl) h
  · replace h := ite_t hc h
    refine r_aload_n E hl 0 rfl dX7_readItem_168 rfl ?_
    refine r_get E kW_X7 hw 0 rfl rfl 14 (by decide) kF_X7_164 rfl dX7_readItem_169 ?_
    refine r_iconst E 2 dX7_readItem_172 (by decide) ?_
    refine r_icmp_ne E 194 dX7_readItem_173 (by decide) (fun hc => ?_) (fun hc => ?_)
    · replace h := ite_f hc h
      exact vX7_readItem_194 E  hw (lv_sub hl [] rfl) h
    · replace h := ite_t hc h
      refine r_aload_n E hl 0 rfl dX7_readItem_176 rfl ?_
      refine r_get E kW_X7 hw 0 rfl rfl 6 (by decide) kF_X7_22 rfl dX7_readItem_177 ?_
      refine r_aload_n E hl 0 rfl dX7_readItem_180 rfl ?_
      refine r_get E kW_X7 hw 0 rfl rfl 13 (by decide) kF_X7_161 rfl dX7_readItem_181 ?_
      obtain ⟨hg2, h⟩ := gd_some h
      refine r_iald E hw 5 rfl hg2 dX7_readItem_184 ?_
      refine r_bipush E 59 dX7_readItem_185 (by decide) ?_
      refine r_icmp_ne E 194 dX7_readItem_187 (by decide) (fun hc => ?_) (fun hc => ?_)
      · replace h := ite_f hc h
        exact vX7_readItem_194 E  hw (lv_sub hl [] rfl) h
      · replace h := ite_t hc h
        refine r_iconst E 1 dX7_readItem_190 (by decide) ?_
        refine r_goto E 195 dX7_readItem_191 (by decide) ?_
        exact vX7_readItem_195 E  hw (lv_sub hl [] rfl) h
set_option maxRecDepth 100000 in
set_option maxHeartbeats 4000000 in
theorem vX7_readItem_87 {Z : zT} {p : Program} {l : Launch} {e : Env} {s : State} {m : MethodId} {args : Array Value} {below : List Frame} {meth : Method} {c : Code} {A : Nat → Prop} (E : zE Z p s m args meth c RX7 cX7_readItem 5 none A) {Am : Nat → Nat} {k1 : Int32} {m_thrown : Int32} {m_s : (Nat → Int32)} {m_saved : (Nat → Int32)} {m_savedMany : Int32} {m_aside : (Nat → Int32)} {m_sent : (Nat → Int32)} {m_text : (Nat → Int32)} {m_length : Int32} {m_way : (Nat → Int32)} {m_crossed : Int32} {m_wayCost : Int32} {m_isWay : Int32} {m_next : Int32} {m_start : Int32} {m_token : Int32} {m_number : Int32} {m_letters : Int64} {m_isWrong : Int32} {m_sums : (Nat → Int32)} {m_steps : (Nat → Int32)} {m_chosen : Int32} {m_passed : (Nat → Int32)} {m_passedMany : Int32} {m_passedCost : Int32} {m_reach : (Nat → Int32)} {res : (Nat → Int32) × Int32 × Int32 × Int32 × Int32 × Int64 × Int32}  {H : Heap} {locs : List Loc} {ls : Array Slot} (hw : zW Z A (wX7 Z Am m_thrown m_s m_saved m_savedMany m_aside m_sent m_text m_length m_way m_crossed m_wayCost m_isWay m_next m_start m_token m_number m_letters m_isWrong m_sums m_steps m_chosen m_passed m_passedMany m_passedCost m_reach) s.heap H locs) (hl : lv_has ls 5 [(0, .ref (Am 0))]) (h : uX7_readItem_87 k1 m_s m_text m_length m_next m_start m_token m_number m_letters = some res) : W p l e rmX7_readItem s m args below meth c H locs 0 0 (MQ below (zQv Z (wX7 Z Am m_thrown res.1 m_saved m_savedMany m_aside m_sent m_text m_length m_way m_crossed m_wayCost m_isWay res.2.1 res.2.2.1 res.2.2.2.1 res.2.2.2.2.1 res.2.2.2.2.2.1 res.2.2.2.2.2.2 m_sums m_steps m_chosen m_passed m_passedMany m_passedCost m_reach) A) args s 0 0 A) (F0 m 87 ls [.int k1, .ref (Am 0)]) := by
  unfold uX7_readItem_87 at h
  obtain ⟨hz11, h⟩ := gd_some h
  refine r_put E (wX7 Z Am m_thrown m_s m_saved m_savedMany m_aside m_sent m_text m_length m_way m_crossed m_wayCost m_isWay m_next m_start m_token m_number m_letters k1 m_sums m_steps m_chosen m_passed m_passedMany m_passedCost m_reach) kW_X7 tyX7_ok nmX7 hw 0 rfl rfl 17 (by decide) kF_X7_178 rfl hz11.nar hz11.fit (Nat.le_of_ble_eq_true rfl) rfl dX7_readItem_87 (fun H locs hw => ?_)
  refine r_goto E 160 dX7_readItem_90 (by decide) ?_
  exact vX7_readItem_160 E  hw hl h
set_option maxRecDepth 100000 in
set_option maxHeartbeats 4000000 in
theorem vX7_readItem_82 {Z : zT} {p : Program} {l : Launch} {e : Env} {s : State} {m : MethodId} {args : Array Value} {below : List Frame} {meth : Method} {c : Code} {A : Nat → Prop} (E : zE Z p s m args meth c RX7 cX7_readItem 5 none A) {Am : Nat → Nat} {m_thrown : Int32} {m_s : (Nat → Int32)} {m_saved : (Nat → Int32)} {m_savedMany : Int32} {m_aside : (Nat → Int32)} {m_sent : (Nat → Int32)} {m_text : (Nat → Int32)} {m_length : Int32} {m_way : (Nat → Int32)} {m_crossed : Int32} {m_wayCost : Int32} {m_isWay : Int32} {m_next : Int32} {m_start : Int32} {m_token : Int32} {m_number : Int32} {m_letters : Int64} {m_isWrong : Int32} {m_sums : (Nat → Int32)} {m_steps : (Nat → Int32)} {m_chosen : Int32} {m_passed : (Nat → Int32)} {m_passedMany : Int32} {m_passedCost : Int32} {m_reach : (Nat → Int32)} {res : (Nat → Int32) × Int32 × Int32 × Int32 × Int32 × Int64 × Int32}  {H : Heap} {locs : List Loc} {ls : Array Slot} (hw : zW Z A (wX7 Z Am m_thrown m_s m_saved m_savedMany m_aside m_sent m_text m_length m_way m_crossed m_wayCost m_isWay m_next m_start m_token m_number m_letters m_isWrong m_sums m_steps m_chosen m_passed m_passedMany m_passedCost m_reach) s.heap H locs) (hl : lv_has ls 5 [(0, .ref (Am 0))]) (h : uX7_readItem_82 m_s m_text m_length m_next m_start m_token m_number m_letters = some res) : W p l e rmX7_readItem s m args below meth c H locs 0 0 (MQ below (zQv Z (wX7 Z Am m_thrown res.1 m_saved m_savedMany m_aside m_sent m_text m_length m_way m_crossed m_wayCost m_isWay res.2.1 res.2.2.1 res.2.2.2.1 res.2.2.2.2.1 res.2.2.2.2.2.1 res.2.2.2.2.2.2 m_sums m_steps m_chosen m_passed m_passedMany m_passedCost m_reach) A) args s 0 0 A) (F0 m 82 ls [.ref (Am 0)]) := by
  unfold uX7_readItem_82 at h
  refine r_iconst E 1 dX7_readItem_82 (by decide) ?_
  refine r_goto E 87 dX7_readItem_83 (by decide) ?_
  exact vX7_readItem_87 E  hw hl h
set_option maxRecDepth 100000 in
set_option maxHeartbeats 4000000 in
theorem vX7_readItem_67 {Z : zT} {p : Program} {l : Launch} {e : Env} {s : State} {m : MethodId} {args : Array Value} {below : List Frame} {meth : Method} {c : Code} {A : Nat → Prop} (E : zE Z p s m args meth c RX7 cX7_readItem 5 none A) {Am : Nat → Nat} {k0 : Int32} {m_thrown : Int32} {m_s : (Nat → Int32)} {m_saved : (Nat → Int32)} {m_savedMany : Int32} {m_aside : (Nat → Int32)} {m_sent : (Nat → Int32)} {m_text : (Nat → Int32)} {m_length : Int32} {m_way : (Nat → Int32)} {m_crossed : Int32} {m_wayCost : Int32} {m_isWay : Int32} {m_next : Int32} {m_start : Int32} {m_token : Int32} {m_number : Int32} {m_letters : Int64} {m_isWrong : Int32} {m_sums : (Nat → Int32)} {m_steps : (Nat → Int32)} {m_chosen : Int32} {m_passed : (Nat → Int32)} {m_passedMany : Int32} {m_passedCost : Int32} {m_reach : (Nat → Int32)} {res : (Nat → Int32) × Int32 × Int32 × Int32 × Int32 × Int64 × Int32}  {H : Heap} {locs : List Loc} {ls : Array Slot} (hw : zW Z A (wX7 Z Am m_thrown m_s m_saved m_savedMany m_aside m_sent m_text m_length m_way m_crossed m_wayCost m_isWay m_next m_start m_token m_number m_letters m_isWrong m_sums m_steps m_chosen m_passed m_passedMany m_passedCost m_reach) s.heap H locs) (hl : lv_has ls 5 [(0, .ref (Am 0))]) (h : uX7_readItem_67 k0 m_s m_text m_length m_next m_start m_token m_number m_letters m_isWrong = some res) : W p l e rmX7_readItem s m args below meth c H locs 0 0 (MQ below (zQv Z (wX7 Z Am m_thrown res.1 m_saved m_savedMany m_aside m_sent m_text m_length m_way m_crossed m_wayCost m_isWay res.2.1 res.2.2.1 res.2.2.2.1 res.2.2.2.2.1 res.2.2.2.2.2.1 res.2.2.2.2.2.2 m_sums m_steps m_chosen m_passed m_passedMany m_passedCost m_reach) A) args s 0 0 A) (F0 m 67 ls [.int k0]) := by
  unfold uX7_readItem_67 at h
  refine r_istore E [(4, .int k0), (0, .ref (Am 0))] hl dX7_readItem_67 (by decide) rfl (fun ls hl => ?_)
  refine r_aload_n E hl 1 rfl dX7_readItem_69 rfl ?_
  refine r_aload_n E hl 1 rfl dX7_readItem_70 rfl ?_
  refine r_get E kW_X7 hw 0 rfl rfl 17 (by decide) kF_X7_178 rfl dX7_readItem_71 ?_
  refine r_if_ne E 82 dX7_readItem_74 (by decide) (fun hc => ?_) (fun hc => ?_)
  · replace h := ite_f hc h
    exact vX7_readItem_82 E  hw (lv_sub hl [1] rfl) h
  · replace h := ite_t hc h
    refine r_iload E hl 0 rfl dX7_readItem_77 ?_
    refine r_if_ge E 86 dX7_readItem_79 (by decide) (fun hc => ?_) (fun hc => ?_)
    · replace h := ite_t hc h
      refine r_iconst E 0 dX7_readItem_86 (by decide) ?_
      exact vX7_readItem_87 E  hw (lv_sub hl [1] rfl) h
    · replace h := ite_f hc h
      exact vX7_readItem_82 E  hw (lv_sub hl [1] rfl) h
set_option maxRecDepth 100000 in
set_option maxHeartbeats 4000000 in
theorem vX7_readItem_41 {Z : zT} {p : Program} {l : Launch} {e : Env} {s : State} {m : MethodId} {args : Array Value} {below : List Frame} {meth : Method} {c : Code} {A : Nat → Prop} (E : zE Z p s m args meth c RX7 cX7_readItem 5 none A) {Am : Nat → Nat} {k1 : Int32} {m_thrown : Int32} {m_s : (Nat → Int32)} {m_saved : (Nat → Int32)} {m_savedMany : Int32} {m_aside : (Nat → Int32)} {m_sent : (Nat → Int32)} {m_text : (Nat → Int32)} {m_length : Int32} {m_way : (Nat → Int32)} {m_crossed : Int32} {m_wayCost : Int32} {m_isWay : Int32} {m_next : Int32} {m_start : Int32} {m_token : Int32} {m_number : Int32} {m_letters : Int64} {m_isWrong : Int32} {m_sums : (Nat → Int32)} {m_steps : (Nat → Int32)} {m_chosen : Int32} {m_passed : (Nat → Int32)} {m_passedMany : Int32} {m_passedCost : Int32} {m_reach : (Nat → Int32)} {res : (Nat → Int32) × Int32 × Int32 × Int32 × Int32 × Int64 × Int32}  {H : Heap} {locs : List Loc} {ls : Array Slot} (hw : zW Z A (wX7 Z Am m_thrown m_s m_saved m_savedMany m_aside m_sent m_text m_length m_way m_crossed m_wayCost m_isWay m_next m_start m_token m_number m_letters m_isWrong m_sums m_steps m_chosen m_passed m_passedMany m_passedCost m_reach) s.heap H locs) (hl : lv_has ls 5 [(0, .ref (Am 0))]) (h : uX7_readItem_41 k1 m_s m_text m_length m_next m_start m_token m_number m_letters m_isWrong = some res) : W p l e rmX7_readItem s m args below meth c H locs 0 0 (MQ below (zQv Z (wX7 Z Am m_thrown res.1 m_saved m_savedMany m_aside m_sent m_text m_length m_way m_crossed m_wayCost m_isWay res.2.1 res.2.2.1 res.2.2.2.1 res.2.2.2.2.1 res.2.2.2.2.2.1 res.2.2.2.2.2.2 m_sums m_steps m_chosen m_passed m_passedMany m_passedCost m_reach) A) args s 0 0 A) (F0 m 41 ls [.int k1, .ref (Am 0)]) := by
  unfold uX7_readItem_41 at h
  obtain ⟨y8, hy8, h⟩ := bd_some h
  refine r_callVAv E hw (mX7_take l Z _ Am m_thrown m_s m_saved m_savedMany m_aside m_sent m_text m_length m_way m_crossed m_wayCost m_isWay m_next m_start m_token m_number m_letters m_isWrong m_sums m_steps m_chosen m_passed m_passedMany m_passedCost m_reach k1 hy8) kL_X7_184 kI_X7_take kS_X7_take kN_X7 kC_X7_take rfl rfl hdX7_take ⟨Nat.le_of_ble_eq_true rfl, Nat.le_of_ble_eq_true rfl⟩ 0 rfl rfl rfl rfl hl [] rfl (Nat.le_of_ble_eq_true rfl) dX7_readItem_41 ⟨Nat.zero_le _, Nat.zero_le _⟩ (fun H locs hw => ?_)
  refine r_aload_n E hl 0 rfl dX7_readItem_44 rfl ?_
  refine r_iconst E 0 dX7_readItem_45 (by decide) ?_
  refine r_iconst E 3 dX7_readItem_46 (by decide) ?_
  obtain ⟨y9, hy9, h⟩ := bd_some h
  refine r_callVAi E hw (mX7_takeNumber l Z _ Am m_thrown m_s m_saved m_savedMany m_aside m_sent m_text m_length m_way m_crossed m_wayCost m_isWay y8.1 y8.2.1 y8.2.2.1 y8.2.2.2.1 y8.2.2.2.2.1 y8.2.2.2.2.2 m_sums m_steps m_chosen m_passed m_passedMany m_passedCost m_reach (0 : Int32) (3 : Int32) hy9) kL_X7_191 kI_X7_takeNumber kS_X7_takeNumber kN_X7 kC_X7_takeNumber rfl rfl hdX7_takeNumber ⟨Nat.le_of_ble_eq_true rfl, Nat.le_of_ble_eq_true rfl⟩ 0 rfl rfl rfl rfl hl [] rfl (Nat.le_of_ble_eq_true rfl) dX7_readItem_47 ⟨Nat.zero_le _, Nat.zero_le _⟩ (fun H locs hw => ?_)
  refine r_istore_n E [(3, .int y9.1), (0, .ref (Am 0))] hl dX7_readItem_50 rfl (by decide) rfl (fun ls hl => ?_)
  refine r_aload_n E hl 1 rfl dX7_readItem_51 rfl ?_
  refine r_get E kW_X7 hw 0 rfl rfl 17 (by decide) kF_X7_178 rfl dX7_readItem_52 ?_
  refine r_if_eq E 62 dX7_readItem_55 (by decide) (fun hc => ?_) (fun hc => ?_)
  · replace h := ite_t hc h
    refine r_aload_n E hl 1 rfl dX7_readItem_62 rfl ?_
    refine r_iload_n E hl 0 rfl dX7_readItem_63 rfl ?_
    obtain ⟨y10, hy10, h⟩ := bd_some h
    refine r_callVAi E hw (mX7_makeNode l Z _ Am m_thrown m_s m_saved m_savedMany m_aside m_sent m_text m_length m_way m_crossed m_wayCost m_isWay y9.2.1 y9.2.2.1 y9.2.2.2.1 y9.2.2.2.2.1 y9.2.2.2.2.2.1 y9.2.2.2.2.2.2 m_sums m_steps m_chosen m_passed m_passedMany m_passedCost m_reach y9.1 hy10) kL_X7_122 kI_X7_makeNode kS_X7_makeNode kN_X7 kC_X7_makeNode rfl rfl hdX7_makeNode ⟨Nat.le_of_ble_eq_true rfl, Nat.le_of_ble_eq_true rfl⟩ 0 rfl rfl rfl rfl hl [] rfl (Nat.le_of_ble_eq_true rfl) dX7_readItem_64 ⟨Nat.zero_le _, Nat.zero_le _⟩ (fun H locs hw => ?_)
    exact vX7_readItem_67 E  hw (lv_sub hl [1] rfl) h
  · replace h := ite_f hc h
    refine r_iconst E 0 dX7_readItem_58 (by decide) ?_
    refine r_goto E 67 dX7_readItem_59 (by decide) ?_
    exact vX7_readItem_67 E  hw (lv_sub hl [1] rfl) h
set_option maxRecDepth 100000 in
set_option maxHeartbeats 4000000 in
theorem vX7_readItem_15 {Z : zT} {p : Program} {l : Launch} {e : Env} {s : State} {m : MethodId} {args : Array Value} {below : List Frame} {meth : Method} {c : Code} {A : Nat → Prop} (E : zE Z p s m args meth c RX7 cX7_readItem 5 none A) {Am : Nat → Nat} {k0 : Int64} {m_thrown : Int32} {m_s : (Nat → Int32)} {m_saved : (Nat → Int32)} {m_savedMany : Int32} {m_aside : (Nat → Int32)} {m_sent : (Nat → Int32)} {m_text : (Nat → Int32)} {m_length : Int32} {m_way : (Nat → Int32)} {m_crossed : Int32} {m_wayCost : Int32} {m_isWay : Int32} {m_next : Int32} {m_start : Int32} {m_token : Int32} {m_number : Int32} {m_letters : Int64} {m_isWrong : Int32} {m_sums : (Nat → Int32)} {m_steps : (Nat → Int32)} {m_chosen : Int32} {m_passed : (Nat → Int32)} {m_passedMany : Int32} {m_passedCost : Int32} {m_reach : (Nat → Int32)} {res : (Nat → Int32) × Int32 × Int32 × Int32 × Int32 × Int64 × Int32}  {H : Heap} {locs : List Loc} {ls : Array Slot} (hw : zW Z A (wX7 Z Am m_thrown m_s m_saved m_savedMany m_aside m_sent m_text m_length m_way m_crossed m_wayCost m_isWay m_next m_start m_token m_number m_letters m_isWrong m_sums m_steps m_chosen m_passed m_passedMany m_passedCost m_reach) s.heap H locs) (hl : lv_has ls 5 [(0, .ref (Am 0))]) (h : uX7_readItem_15 k0 m_s m_text m_length m_next m_start m_token m_number m_letters m_isWrong = some res) : W p l e rmX7_readItem s m args below meth c H locs 0 0 (MQ below (zQv Z (wX7 Z Am m_thrown res.1 m_saved m_savedMany m_aside m_sent m_text m_length m_way m_crossed m_wayCost m_isWay res.2.1 res.2.2.1 res.2.2.2.1 res.2.2.2.2.1 res.2.2.2.2.2.1 res.2.2.2.2.2.2 m_sums m_steps m_chosen m_passed m_passedMany m_passedCost m_reach) A) args s 0 0 A) (F0 m 15 ls [.long k0]) := by
  unfold uX7_readItem_15 at h
  refine r_lstore_n E [(1, .long k0), (0, .ref (Am 0))] hl dX7_readItem_15 rfl (by decide) rfl (fun ls hl => ?_)
  refine r_lload_n E hl 0 rfl dX7_readItem_16 rfl ?_
  refine r_ldc2 E (286610) kQ_X7_194 dX7_readItem_17 ?_
  refine r_lcmp E dX7_readItem_20 ?_
  refine r_if_ne E 93 dX7_readItem_21 (by decide) (fun hc => ?_) (fun hc => ?_)
  · replace h := ite_f hc h
    refine r_lload_n E hl 0 rfl dX7_readItem_93 rfl ?_
    refine r_ldc2 E (243146) kQ_X7_196 dX7_readItem_94 ?_
    refine r_lcmp E dX7_readItem_97 ?_
    refine r_if_ne E 109 dX7_readItem_98 (by decide) (fun hc => ?_) (fun hc => ?_)
    · replace h := ite_f hc h
      refine r_lload_n E hl 0 rfl dX7_readItem_109 rfl ?_
      refine r_ldc2 E (6462225419) kQ_X7_201 dX7_readItem_110 ?_
      refine r_lcmp E dX7_readItem_113 ?_
      refine r_if_ne E 125 dX7_readItem_114 (by decide) (fun hc => ?_) (fun hc => ?_)
      · replace h := ite_f hc h
        refine r_lload_n E hl 0 rfl dX7_readItem_125 rfl ?_
        refine r_ldc2 E (4075508) kQ_X7_203 dX7_readItem_126 ?_
        refine r_lcmp E dX7_readItem_129 ?_
        refine r_if_ne E 140 dX7_readItem_130 (by decide) (fun hc => ?_) (fun hc => ?_)
        · replace h := ite_f hc h
          refine r_lload_n E hl 0 rfl dX7_readItem_140 rfl ?_
          refine r_ldc2 E (298424316) kQ_X7_208 dX7_readItem_141 ?_
          refine r_lcmp E dX7_readItem_144 ?_
          refine r_if_ne E 155 dX7_readItem_145 (by decide) (fun hc => ?_) (fun hc => ?_)
          · replace h := ite_f hc h
            refine r_aload_n E hl 1 rfl dX7_readItem_155 rfl ?_
            refine r_iconst E 1 dX7_readItem_156 (by decide) ?_
            refine r_put E (wX7 Z Am m_thrown m_s m_saved m_savedMany m_aside m_sent m_text m_length m_way m_crossed m_wayCost m_isWay m_next m_start m_token m_number m_letters (1 : Int32) m_sums m_steps m_chosen m_passed m_passedMany m_passedCost m_reach) kW_X7 tyX7_ok nmX7 hw 0 rfl rfl 17 (by decide) kF_X7_178 rfl rfl rfl (Nat.le_of_ble_eq_true rfl) rfl dX7_readItem_157 (fun H locs hw => ?_)
            exact vX7_readItem_160 E  hw (lv_sub hl [1] rfl) h
          · replace h := ite_t hc h
            refine r_aload_n E hl 1 rfl dX7_readItem_148 rfl ?_
            obtain ⟨y3, hy3, h⟩ := bd_some h
            refine r_callVAv E hw (mX7_readTunnel l Z _ Am m_thrown m_s m_saved m_savedMany m_aside m_sent m_text m_length m_way m_crossed m_wayCost m_isWay m_next m_start m_token m_number m_letters m_isWrong m_sums m_steps m_chosen m_passed m_passedMany m_passedCost m_reach hy3) kL_X7_210 kI_X7_readTunnel kS_X7_readTunnel kN_X7 kC_X7_readTunnel rfl rfl hdX7_readTunnel ⟨Nat.le_of_ble_eq_true rfl, Nat.le_of_ble_eq_true rfl⟩ 0 rfl rfl rfl rfl hl [] rfl (Nat.le_of_ble_eq_true rfl) dX7_readItem_149 ⟨Nat.zero_le _, Nat.zero_le _⟩ (fun H locs hw => ?_)
            refine r_goto E 160 dX7_readItem_152 (by decide) ?_
            exact vX7_readItem_160 E  hw (lv_sub hl [1] rfl) h
        · replace h := ite_t hc h
          refine r_aload_n E hl 1 rfl dX7_readItem_133 rfl ?_
          obtain ⟨y4, hy4, h⟩ := bd_some h
          refine r_callVAv E hw (mX7_readGrant l Z _ Am m_thrown m_s m_saved m_savedMany m_aside m_sent m_text m_length m_way m_crossed m_wayCost m_isWay m_next m_start m_token m_number m_letters m_isWrong m_sums m_steps m_chosen m_passed m_passedMany m_passedCost m_reach hy4) kL_X7_205 kI_X7_readGrant kS_X7_readGrant kN_X7 kC_X7_readGrant rfl rfl hdX7_readGrant ⟨Nat.le_of_ble_eq_true rfl, Nat.le_of_ble_eq_true rfl⟩ 0 rfl rfl rfl rfl hl [] rfl (Nat.le_of_ble_eq_true rfl) dX7_readItem_134 ⟨Nat.zero_le _, Nat.zero_le _⟩ (fun H locs hw => ?_)
          refine r_goto E 160 dX7_readItem_137 (by decide) ?_
          exact vX7_readItem_160 E  hw (lv_sub hl [1] rfl) h
      · replace h := ite_t hc h
        refine r_aload_n E hl 1 rfl dX7_readItem_117 rfl ?_
        refine r_iconst E 1 dX7_readItem_118 (by decide) ?_
        obtain ⟨y5, hy5, h⟩ := bd_some h
        refine r_callVAv E hw (mX7_readLink l Z _ Am m_thrown m_s m_saved m_savedMany m_aside m_sent m_text m_length m_way m_crossed m_wayCost m_isWay m_next m_start m_token m_number m_letters m_isWrong m_sums m_steps m_chosen m_passed m_passedMany m_passedCost m_reach (1 : Int32) hy5) kL_X7_198 kI_X7_readLink kS_X7_readLink kN_X7 kC_X7_readLink rfl rfl hdX7_readLink ⟨Nat.le_of_ble_eq_true rfl, Nat.le_of_ble_eq_true rfl⟩ 0 rfl rfl rfl rfl hl [] rfl (Nat.le_of_ble_eq_true rfl) dX7_readItem_119 ⟨Nat.zero_le _, Nat.zero_le _⟩ (fun H locs hw => ?_)
        refine r_goto E 160 dX7_readItem_122 (by decide) ?_
        exact vX7_readItem_160 E  hw (lv_sub hl [1] rfl) h
    · replace h := ite_t hc h
      refine r_aload_n E hl 1 rfl dX7_readItem_101 rfl ?_
      refine r_iconst E 0 dX7_readItem_102 (by decide) ?_
      obtain ⟨y6, hy6, h⟩ := bd_some h
      refine r_callVAv E hw (mX7_readLink l Z _ Am m_thrown m_s m_saved m_savedMany m_aside m_sent m_text m_length m_way m_crossed m_wayCost m_isWay m_next m_start m_token m_number m_letters m_isWrong m_sums m_steps m_chosen m_passed m_passedMany m_passedCost m_reach (0 : Int32) hy6) kL_X7_198 kI_X7_readLink kS_X7_readLink kN_X7 kC_X7_readLink rfl rfl hdX7_readLink ⟨Nat.le_of_ble_eq_true rfl, Nat.le_of_ble_eq_true rfl⟩ 0 rfl rfl rfl rfl hl [] rfl (Nat.le_of_ble_eq_true rfl) dX7_readItem_103 ⟨Nat.zero_le _, Nat.zero_le _⟩ (fun H locs hw => ?_)
      refine r_goto E 160 dX7_readItem_106 (by decide) ?_
      exact vX7_readItem_160 E  hw (lv_sub hl [1] rfl) h
  · replace h := ite_t hc h
    refine r_aload_n E hl 1 rfl dX7_readItem_24 rfl ?_
    refine r_aload_n E hl 1 rfl dX7_readItem_25 rfl ?_
    refine r_get E kW_X7 hw 0 rfl rfl 1 (by decide) kF_X7_7 rfl dX7_readItem_26 ?_
    refine r_iconst E 0 dX7_readItem_29 (by decide) ?_
    obtain ⟨hg7, h⟩ := gd_some h
    refine r_iald E hw 1 rfl hg7 dX7_readItem_30 ?_
    refine r_bipush E 10 dX7_readItem_31 (by decide) ?_
    refine r_icmp_ge E 40 dX7_readItem_33 (by decide) (fun hc => ?_) (fun hc => ?_)
    · replace h := ite_t hc h
      refine r_iconst E 0 dX7_readItem_40 (by decide) ?_
      exact vX7_readItem_41 E  hw (lv_sub hl [1] rfl) h
    · replace h := ite_f hc h
      refine r_iconst E 1 dX7_readItem_36 (by decide) ?_
      refine r_goto E 41 dX7_readItem_37 (by decide) ?_
      exact vX7_readItem_41 E  hw (lv_sub hl [1] rfl) h
set_option maxRecDepth 100000 in
set_option maxHeartbeats 4000000 in
theorem mX7_readItem (l : Launch) (Z : zT) (sz : Nat) (Am : Nat → Nat) (m_thrown : Int32) (m_s : (Nat → Int32)) (m_saved : (Nat → Int32)) (m_savedMany : Int32) (m_aside : (Nat → Int32)) (m_sent : (Nat → Int32)) (m_text : (Nat → Int32)) (m_length : Int32) (m_way : (Nat → Int32)) (m_crossed : Int32) (m_wayCost : Int32) (m_isWay : Int32) (m_next : Int32) (m_start : Int32) (m_token : Int32) (m_number : Int32) (m_letters : Int64) (m_isWrong : Int32) (m_sums : (Nat → Int32)) (m_steps : (Nat → Int32)) (m_chosen : Int32) (m_passed : (Nat → Int32)) (m_passedMany : Int32) (m_passedCost : Int32) (m_reach : (Nat → Int32))  {res : (Nat → Int32) × Int32 × Int32 × Int32 × Int32 × Int64 × Int32} (h : fX7_readItem m_s m_text m_length m_next m_start m_token m_number m_letters m_isWrong = some res) : Met l yX7_readItem (Cond.code yX7_readItem cX7_readItem 5 none :: zWs) rmX7_readItem (zP Z (wX7 Z Am m_thrown m_s m_saved m_savedMany m_aside m_sent m_text m_length m_way m_crossed m_wayCost m_isWay m_next m_start m_token m_number m_letters m_isWrong m_sums m_steps m_chosen m_passed m_passedMany m_passedCost m_reach) sz [.ref (Am 0)]) (zQv Z (wX7 Z Am m_thrown res.1 m_saved m_savedMany m_aside m_sent m_text m_length m_way m_crossed m_wayCost m_isWay res.2.1 res.2.2.1 res.2.2.2.1 res.2.2.2.2.1 res.2.2.2.2.2.1 res.2.2.2.2.2.2 m_sums m_steps m_chosen m_passed m_passedMany m_passedCost m_reach) (va_A (wX7 Z Am m_thrown m_s m_saved m_savedMany m_aside m_sent m_text m_length m_way m_crossed m_wayCost m_isWay m_next m_start m_token m_number m_letters m_isWrong m_sums m_steps m_chosen m_passed m_passedMany m_passedCost m_reach) sz)) 0 0 (va_A (wX7 Z Am m_thrown m_s m_saved m_savedMany m_aside m_sent m_text m_length m_way m_crossed m_wayCost m_isWay m_next m_start m_token m_number m_letters m_isWrong m_sums m_steps m_chosen m_passed m_passedMany m_passedCost m_reach) sz) := by
  refine zMet (own := RX7) (fun A => zQv Z (wX7 Z Am m_thrown res.1 m_saved m_savedMany m_aside m_sent m_text m_length m_way m_crossed m_wayCost m_isWay res.2.1 res.2.2.1 res.2.2.2.1 res.2.2.2.2.1 res.2.2.2.2.2.1 res.2.2.2.2.2.2 m_sums m_steps m_chosen m_passed m_passedMany m_passedCost m_reach) A) (by decide) rfl (Nat.le_of_ble_eq_true rfl) ?_
  intro p e s m args below meth c ls A E hw hl
  unfold fX7_readItem at h
  refine r_aload_n E hl 0 rfl dX7_readItem_0 rfl ?_
  refine r_get E kW_X7 hw 0 rfl rfl 14 (by decide) kF_X7_164 rfl dX7_readItem_1 ?_
  refine r_if_ne E 14 dX7_readItem_4 (by decide) (fun hc => ?_) (fun hc => ?_)
  · replace h := ite_f hc h
    refine r_lconst E 0 dX7_readItem_14 (by decide) ?_
    exact vX7_readItem_15 E  hw hl h
  · replace h := ite_t hc h
    refine r_aload_n E hl 0 rfl dX7_readItem_7 rfl ?_
    refine r_get E kW_X7 hw 0 rfl rfl 16 (by decide) kF_X7_170 rfl dX7_readItem_8 ?_
    refine r_goto E 15 dX7_readItem_11 (by decide) ?_
    exact vX7_readItem_15 E  hw hl h
abbrev rmX7_load : Room := { frames := 10, cells := 0, slots := 0, locals := 240 }

set_option maxRecDepth 100000 in
set_option maxHeartbeats 4000000 in
theorem vX7_load_80 {Z : zT} {p : Program} {l : Launch} {e : Env} {s : State} {m : MethodId} {args : Array Value} {below : List Frame} {meth : Method} {c : Code} {A : Nat → Prop} (E : zE Z p s m args meth c RX7 cX7_load 2 (some .int) A) {Am : Nat → Nat} {v1 : Int32} {m_thrown : Int32} {m_s : (Nat → Int32)} {m_saved : (Nat → Int32)} {m_savedMany : Int32} {m_aside : (Nat → Int32)} {m_sent : (Nat → Int32)} {m_text : (Nat → Int32)} {m_length : Int32} {m_way : (Nat → Int32)} {m_crossed : Int32} {m_wayCost : Int32} {m_isWay : Int32} {m_next : Int32} {m_start : Int32} {m_token : Int32} {m_number : Int32} {m_letters : Int64} {m_isWrong : Int32} {m_sums : (Nat → Int32)} {m_steps : (Nat → Int32)} {m_chosen : Int32} {m_passed : (Nat → Int32)} {m_passedMany : Int32} {m_passedCost : Int32} {m_reach : (Nat → Int32)} {res : Int32 × Int32 × (Nat → Int32) × (Nat → Int32) × Int32 × (Nat → Int32) × Int32 × Int32 × Int32 × Int32 × Int32 × Int32 × Int64 × Int32}  {H : Heap} {locs : List Loc} {ls : Array Slot} (hw : zW Z A (wX7 Z Am m_thrown m_s m_saved m_savedMany m_aside m_sent m_text m_length m_way m_crossed m_wayCost m_isWay m_next m_start m_token m_number m_letters m_isWrong m_sums m_steps m_chosen m_passed m_passedMany m_passedCost m_reach) s.heap H locs) (hl : lv_has ls 2 [(0, .ref (Am 0)), (1, .int v1)]) (h : uX7_load_80 v1 m_thrown m_s m_saved m_savedMany m_aside m_length m_isWay m_next m_start m_token m_number m_letters m_isWrong = some res) : W p l e rmX7_load s m args below meth c H locs 0 0 (MQ below (zQi Z res.1 (wX7 Z Am res.2.1 res.2.2.1 res.2.2.2.1 res.2.2.2.2.1 res.2.2.2.2.2.1 m_sent m_text res.2.2.2.2.2.2.1 m_way m_crossed m_wayCost res.2.2.2.2.2.2.2.1 res.2.2.2.2.2.2.2.2.1 res.2.2.2.2.2.2.2.2.2.1 res.2.2.2.2.2.2.2.2.2.2.1 res.2.2.2.2.2.2.2.2.2.2.2.1 res.2.2.2.2.2.2.2.2.2.2.2.2.1 res.2.2.2.2.2.2.2.2.2.2.2.2.2 m_sums m_steps m_chosen m_passed m_passedMany m_passedCost m_reach) A) args s 0 0 A) (F0 m 80 ls []) := by
  unfold uX7_load_80 at h
  refine r_aload_n E hl 0 rfl dX7_load_80 rfl ?_
  refine r_get E kW_X7 hw 0 rfl rfl 17 (by decide) kF_X7_178 rfl dX7_load_81 ?_
  refine r_if_eq E 107 dX7_load_84 (by decide) (fun hc => ?_) (fun hc => ?_)
  · replace h := ite_t hc h
    refine r_aload_n E hl 0 rfl dX7_load_107 rfl ?_
    obtain ⟨y3, hy3, h⟩ := bd_some h
    refine r_callVAv E hw (mX7_saveAside l Z _ Am m_thrown m_s m_saved m_savedMany m_aside m_sent m_text m_length m_way m_crossed m_wayCost m_isWay m_next m_start m_token m_number m_letters m_isWrong m_sums m_steps m_chosen m_passed m_passedMany m_passedCost m_reach hy3) kL_X7_55 kI_X7_saveAside kS_X7_saveAside kN_X7 kC_X7_saveAside rfl rfl hdX7_saveAside ⟨Nat.le_of_ble_eq_true rfl, Nat.le_of_ble_eq_true rfl⟩ 0 rfl rfl rfl rfl hl [] rfl (Nat.le_of_ble_eq_true rfl) dX7_load_108 ⟨Nat.zero_le _, Nat.zero_le _⟩ (fun H locs hw => ?_)
    refine r_aload_n E hl 0 rfl dX7_load_111 rfl ?_
    refine r_iconst E 0 dX7_load_112 (by decide) ?_
    refine r_put E (wX7 Z Am m_thrown m_s y3.1 y3.2.1 m_aside m_sent m_text (0 : Int32) m_way m_crossed m_wayCost y3.2.2 m_next m_start m_token m_number m_letters m_isWrong m_sums m_steps m_chosen m_passed m_passedMany m_passedCost m_reach) kW_X7 tyX7_ok nmX7 hw 0 rfl rfl 7 (by decide) kF_X7_151 rfl rfl rfl (Nat.le_of_ble_eq_true rfl) rfl dX7_load_113 (fun H locs hw => ?_)
    refine r_iload_n E hl 1 rfl dX7_load_116 rfl ?_
    obtain rfl := Option.some.inj h
    exact r_iret E hw dX7_load_117
  · replace h := ite_f hc h
    refine r_aload_n E hl 0 rfl dX7_load_87 rfl ?_
    refine r_aload_n E hl 0 rfl dX7_load_88 rfl ?_
    refine r_get E kW_X7 hw 0 rfl rfl 1 (by decide) kF_X7_7 rfl dX7_load_89 ?_
    refine r_aload_n E hl 0 rfl dX7_load_92 rfl ?_
    refine r_get E kW_X7 hw 0 rfl rfl 4 (by decide) kF_X7_16 rfl dX7_load_93 ?_
    obtain ⟨y4, hy4, h⟩ := bd_some h
    refine r_callVAv E hw (mX7_copy_s_aside l Z _ Am m_thrown m_s m_saved m_savedMany m_aside m_sent m_text m_length m_way m_crossed m_wayCost m_isWay m_next m_start m_token m_number m_letters m_isWrong m_sums m_steps m_chosen m_passed m_passedMany m_passedCost m_reach hy4) kL_X7_51 kI_X7_copy kS_X7_copy kN_X7 kC_X7_copy rfl rfl hdX7_copy ⟨Nat.le_of_ble_eq_true rfl, Nat.le_of_ble_eq_true rfl⟩ 0 rfl rfl rfl rfl hl [] rfl (Nat.le_of_ble_eq_true rfl) dX7_load_96 ⟨Nat.zero_le _, Nat.zero_le _⟩ (fun H locs hw => ?_)
    refine r_bipush E (-10) dX7_load_99 (by decide) ?_
    refine r_aload_n E hl 0 rfl dX7_load_101 rfl ?_
    refine r_get E kW_X7 hw 0 rfl rfl 13 (by decide) kF_X7_161 rfl dX7_load_102 ?_
    refine r_isub E dX7_load_105 ?_
    obtain rfl := Option.some.inj h
    exact r_iret E hw dX7_load_106
set_option maxRecDepth 100000 in
set_option maxHeartbeats 4000000 in
theorem tX7_load_55 {Z : zT} {p : Program} {l : Launch} {e : Env} {s : State} {m : MethodId} {args : Array Value} {below : List Frame} {meth : Method} {c : Code} {A : Nat → Prop} (E : zE Z p s m args meth c RX7 cX7_load 2 (some .int) A) {Am : Nat → Nat} {m_thrown : Int32} {m_saved : (Nat → Int32)} {m_savedMany : Int32} {m_aside : (Nat → Int32)} {m_sent : (Nat → Int32)} {m_text : (Nat → Int32)} {m_length : Int32} {m_way : (Nat → Int32)} {m_crossed : Int32} {m_wayCost : Int32} {m_isWay : Int32} {m_sums : (Nat → Int32)} {m_steps : (Nat → Int32)} {m_chosen : Int32} {m_passed : (Nat → Int32)} {m_passedMany : Int32} {m_passedCost : Int32} {m_reach : (Nat → Int32)} {res : Int32 × Int32 × (Nat → Int32) × (Nat → Int32) × Int32 × (Nat → Int32) × Int32 × Int32 × Int32 × Int32 × Int32 × Int32 × Int64 × Int32}  : ∀ (n : Nat) (v1 : Int32) (m_s : (Nat → Int32)) (m_next : Int32) (m_start : Int32) (m_token : Int32) (m_number : Int32) (m_letters : Int64) (m_isWrong : Int32) (H : Heap) (locs : List Loc) (ls : Array Slot), iter (fun b : Int32 × (Nat → Int32) × Int32 × Int32 × Int32 × Int32 × Int64 × Int32 => sX7_load_55 m_thrown m_saved m_savedMany m_aside m_text m_length m_isWay b.1 b.2.1 b.2.2.1 b.2.2.2.1 b.2.2.2.2.1 b.2.2.2.2.2.1 b.2.2.2.2.2.2.1 b.2.2.2.2.2.2.2) n (v1, m_s, m_next, m_start, m_token, m_number, m_letters, m_isWrong) = some res → zW Z A (wX7 Z Am m_thrown m_s m_saved m_savedMany m_aside m_sent m_text m_length m_way m_crossed m_wayCost m_isWay m_next m_start m_token m_number m_letters m_isWrong m_sums m_steps m_chosen m_passed m_passedMany m_passedCost m_reach) s.heap H locs → lv_has ls 2 [(0, .ref (Am 0)), (1, .int v1)] → W p l e rmX7_load s m args below meth c H locs 0 0 (MQ below (zQi Z res.1 (wX7 Z Am res.2.1 res.2.2.1 res.2.2.2.1 res.2.2.2.2.1 res.2.2.2.2.2.1 m_sent m_text res.2.2.2.2.2.2.1 m_way m_crossed m_wayCost res.2.2.2.2.2.2.2.1 res.2.2.2.2.2.2.2.2.1 res.2.2.2.2.2.2.2.2.2.1 res.2.2.2.2.2.2.2.2.2.2.1 res.2.2.2.2.2.2.2.2.2.2.2.1 res.2.2.2.2.2.2.2.2.2.2.2.2.1 res.2.2.2.2.2.2.2.2.2.2.2.2.2 m_sums m_steps m_chosen m_passed m_passedMany m_passedCost m_reach) A) args s 0 0 A) (F0 m 55 ls []) := by
  intro n
  induction n with
  | zero => intro v1 m_s m_next m_start m_token m_number m_letters m_isWrong H locs ls h; cases h
  | succ n ih =>
    intro v1 m_s m_next m_start m_token m_number m_letters m_isWrong H locs ls h hw hl
    obtain ⟨q1, h, hn1, hr1⟩ := iter_out h
    have hb1 : ∀ b : Int32 × (Nat → Int32) × Int32 × Int32 × Int32 × Int32 × Int64 × Int32, q1 = .inl b → ∀ (H : Heap) (locs : List Loc) (ls : Array Slot), zW Z A (wX7 Z Am m_thrown b.2.1 m_saved m_savedMany m_aside m_sent m_text m_length m_way m_crossed m_wayCost m_isWay b.2.2.1 b.2.2.2.1 b.2.2.2.2.1 b.2.2.2.2.2.1 b.2.2.2.2.2.2.1 b.2.2.2.2.2.2.2 m_sums m_steps m_chosen m_passed m_passedMany m_passedCost m_reach) s.heap H locs → lv_has ls 2 [(0, .ref (Am 0)), (1, .int b.1)] → W p l e rmX7_load s m args below meth c H locs 0 0 (MQ below (zQi Z res.1 (wX7 Z Am res.2.1 res.2.2.1 res.2.2.2.1 res.2.2.2.2.1 res.2.2.2.2.2.1 m_sent m_text res.2.2.2.2.2.2.1 m_way m_crossed m_wayCost res.2.2.2.2.2.2.2.1 res.2.2.2.2.2.2.2.2.1 res.2.2.2.2.2.2.2.2.2.1 res.2.2.2.2.2.2.2.2.2.2.1 res.2.2.2.2.2.2.2.2.2.2.2.1 res.2.2.2.2.2.2.2.2.2.2.2.2.1 res.2.2.2.2.2.2.2.2.2.2.2.2.2 m_sums m_steps m_chosen m_passed m_passedMany m_passedCost m_reach) A) args s 0 0 A) (F0 m 55 ls []) := fun b eb H locs ls hw hl => ih b.1 b.2.1 b.2.2.1 b.2.2.2.1 b.2.2.2.2.1 b.2.2.2.2.2.1 b.2.2.2.2.2.2.1 b.2.2.2.2.2.2.2 H locs ls (hn1 b eb) hw hl
    replace h : sX7_load_55 m_thrown m_saved m_savedMany m_aside m_text m_length m_isWay v1 m_s m_next m_start m_token m_number m_letters m_isWrong = some q1 := h
    unfold sX7_load_55 at h
    refine r_aload_n E hl 0 rfl dX7_load_55 rfl ?_
    refine r_get E kW_X7 hw 0 rfl rfl 17 (by decide) kF_X7_178 rfl dX7_load_56 ?_
    refine r_if_ne E 80 dX7_load_59 (by decide) (fun hc => ?_) (fun hc => ?_)
    · replace h := ite_f hc h
      obtain ⟨ro5, h, hro5⟩ := oi_some h
      rw [hr1 _ hro5] at h
      exact vX7_load_80 E  hw hl h
    · replace h := ite_t hc h
      refine r_aload_n E hl 0 rfl dX7_load_62 rfl ?_
      refine r_get E kW_X7 hw 0 rfl rfl 14 (by decide) kF_X7_164 rfl dX7_load_63 ?_
      refine r_iconst E 3 dX7_load_66 (by decide) ?_
      refine r_icmp_eq E 80 dX7_load_67 (by decide) (fun hc => ?_) (fun hc => ?_)
      · replace h := ite_t hc h
        obtain ⟨ro6, h, hro6⟩ := oi_some h
        rw [hr1 _ hro6] at h
        exact vX7_load_80 E  hw hl h
      · replace h := ite_f hc h
        refine r_aload_n E hl 0 rfl dX7_load_70 rfl ?_
        obtain ⟨y7, hy7, h⟩ := bd_some h
        refine r_callVAv E hw (mX7_readItem l Z _ Am m_thrown m_s m_saved m_savedMany m_aside m_sent m_text m_length m_way m_crossed m_wayCost m_isWay m_next m_start m_token m_number m_letters m_isWrong m_sums m_steps m_chosen m_passed m_passedMany m_passedCost m_reach hy7) kL_X7_213 kI_X7_readItem kS_X7_readItem kN_X7 kC_X7_readItem rfl rfl hdX7_readItem ⟨Nat.le_of_ble_eq_true rfl, Nat.le_of_ble_eq_true rfl⟩ 0 rfl rfl rfl rfl hl [] rfl (Nat.le_of_ble_eq_true rfl) dX7_load_71 ⟨Nat.zero_le _, Nat.zero_le _⟩ (fun H locs hw => ?_)
        obtain ⟨w8, hw8, h⟩ := nm_out h
        refine r_iinc E w8 [(1, .int w8), (0, .ref (Am 0))] hl (k := 1) rfl dX7_load_74 hw8.symm (by decide) rfl (fun ls hl => ?_)
        refine r_goto E 55 dX7_load_77 (by decide) ?_
        exact hb1 _ (Option.some.inj h).symm _ _ _ hw (lv_sub hl [1, 0] rfl)
set_option maxRecDepth 100000 in
set_option maxHeartbeats 4000000 in
theorem vX7_load_39 {Z : zT} {p : Program} {l : Launch} {e : Env} {s : State} {m : MethodId} {args : Array Value} {below : List Frame} {meth : Method} {c : Code} {A : Nat → Prop} (E : zE Z p s m args meth c RX7 cX7_load 2 (some .int) A) {Am : Nat → Nat} {m_thrown : Int32} {m_s : (Nat → Int32)} {m_saved : (Nat → Int32)} {m_savedMany : Int32} {m_aside : (Nat → Int32)} {m_sent : (Nat → Int32)} {m_text : (Nat → Int32)} {m_length : Int32} {m_way : (Nat → Int32)} {m_crossed : Int32} {m_wayCost : Int32} {m_isWay : Int32} {m_next : Int32} {m_start : Int32} {m_token : Int32} {m_number : Int32} {m_letters : Int64} {m_isWrong : Int32} {m_sums : (Nat → Int32)} {m_steps : (Nat → Int32)} {m_chosen : Int32} {m_passed : (Nat → Int32)} {m_passedMany : Int32} {m_passedCost : Int32} {m_reach : (Nat → Int32)} {res : Int32 × Int32 × (Nat → Int32) × (Nat → Int32) × Int32 × (Nat → Int32) × Int32 × Int32 × Int32 × Int32 × Int32 × Int32 × Int64 × Int32}  {H : Heap} {locs : List Loc} {ls : Array Slot} (hw : zW Z A (wX7 Z Am m_thrown m_s m_saved m_savedMany m_aside m_sent m_text m_length m_way m_crossed m_wayCost m_isWay m_next m_start m_token m_number m_letters m_isWrong m_sums m_steps m_chosen m_passed m_passedMany m_passedCost m_reach) s.heap H locs) (hl : lv_has ls 2 [(0, .ref (Am 0))]) (h : uX7_load_39 m_thrown m_s m_saved m_savedMany m_aside m_text m_length m_isWay = some res) : W p l e rmX7_load s m args below meth c H locs 0 0 (MQ below (zQi Z res.1 (wX7 Z Am res.2.1 res.2.2.1 res.2.2.2.1 res.2.2.2.2.1 res.2.2.2.2.2.1 m_sent m_text res.2.2.2.2.2.2.1 m_way m_crossed m_wayCost res.2.2.2.2.2.2.2.1 res.2.2.2.2.2.2.2.2.1 res.2.2.2.2.2.2.2.2.2.1 res.2.2.2.2.2.2.2.2.2.2.1 res.2.2.2.2.2.2.2.2.2.2.2.1 res.2.2.2.2.2.2.2.2.2.2.2.2.1 res.2.2.2.2.2.2.2.2.2.2.2.2.2 m_sums m_steps m_chosen m_passed m_passedMany m_passedCost m_reach) A) args s 0 0 A) (F0 m 39 ls []) := by
  unfold uX7_load_39 at h
  refine r_aload_n E hl 0 rfl dX7_load_39 rfl ?_
  refine r_iconst E 0 dX7_load_40 (by decide) ?_
  refine r_put E (wX7 Z Am m_thrown m_s m_saved m_savedMany m_aside m_sent m_text m_length m_way m_crossed m_wayCost m_isWay (0 : Int32) m_start m_token m_number m_letters m_isWrong m_sums m_steps m_chosen m_passed m_passedMany m_passedCost m_reach) kW_X7 tyX7_ok nmX7 hw 0 rfl rfl 12 (by decide) kF_X7_154 rfl rfl rfl (Nat.le_of_ble_eq_true rfl) rfl dX7_load_41 (fun H locs hw => ?_)
  refine r_aload_n E hl 0 rfl dX7_load_44 rfl ?_
  refine r_iconst E 0 dX7_load_45 (by decide) ?_
  refine r_put E (wX7 Z Am m_thrown m_s m_saved m_savedMany m_aside m_sent m_text m_length m_way m_crossed m_wayCost m_isWay (0 : Int32) m_start m_token m_number m_letters (0 : Int32) m_sums m_steps m_chosen m_passed m_passedMany m_passedCost m_reach) kW_X7 tyX7_ok nmX7 hw 0 rfl rfl 17 (by decide) kF_X7_178 rfl rfl rfl (Nat.le_of_ble_eq_true rfl) rfl dX7_load_46 (fun H locs hw => ?_)
  refine r_iconst E 0 dX7_load_49 (by decide) ?_
  refine r_istore_n E [(1, .int (0 : Int32)), (0, .ref (Am 0))] hl dX7_load_50 rfl (by decide) rfl (fun ls hl => ?_)
  refine r_aload_n E hl 1 rfl dX7_load_51 rfl ?_
  obtain ⟨y2, hy2, h⟩ := bd_some h
  refine r_callVAv E hw (mX7_read l Z _ Am m_thrown m_s m_saved m_savedMany m_aside m_sent m_text m_length m_way m_crossed m_wayCost m_isWay (0 : Int32) m_start m_token m_number m_letters (0 : Int32) m_sums m_steps m_chosen m_passed m_passedMany m_passedCost m_reach hy2) kL_X7_181 kI_X7_read kS_X7_read kN_X7 kC_X7_read rfl rfl hdX7_read ⟨Nat.le_of_ble_eq_true rfl, Nat.le_of_ble_eq_true rfl⟩ 0 rfl rfl rfl rfl hl [] rfl (Nat.le_of_ble_eq_true rfl) dX7_load_52 ⟨Nat.zero_le _, Nat.zero_le _⟩ (fun H locs hw => ?_)
  obtain ⟨n9, h⟩ := wh_some h
  exact tX7_load_55 E  n9 _ _ _ _ _ _ _ _ _ _ _ h hw (lv_sub hl [1, 0] rfl)
set_option maxRecDepth 100000 in
set_option maxHeartbeats 4000000 in
theorem tX7_load_19 {Z : zT} {p : Program} {l : Launch} {e : Env} {s : State} {m : MethodId} {args : Array Value} {below : List Frame} {meth : Method} {c : Code} {A : Nat → Prop} (E : zE Z p s m args meth c RX7 cX7_load 2 (some .int) A) {Am : Nat → Nat} {m_thrown : Int32} {m_saved : (Nat → Int32)} {m_savedMany : Int32} {m_aside : (Nat → Int32)} {m_sent : (Nat → Int32)} {m_text : (Nat → Int32)} {m_length : Int32} {m_way : (Nat → Int32)} {m_crossed : Int32} {m_wayCost : Int32} {m_isWay : Int32} {m_next : Int32} {m_start : Int32} {m_token : Int32} {m_number : Int32} {m_letters : Int64} {m_isWrong : Int32} {m_sums : (Nat → Int32)} {m_steps : (Nat → Int32)} {m_chosen : Int32} {m_passed : (Nat → Int32)} {m_passedMany : Int32} {m_passedCost : Int32} {m_reach : (Nat → Int32)} {res : Int32 × Int32 × (Nat → Int32) × (Nat → Int32) × Int32 × (Nat → Int32) × Int32 × Int32 × Int32 × Int32 × Int32 × Int32 × Int64 × Int32}  : ∀ (n : Nat) (v1 : Int32) (m_s : (Nat → Int32)) (H : Heap) (locs : List Loc) (ls : Array Slot), iter (fun b : Int32 × (Nat → Int32) => sX7_load_19 m_thrown m_saved m_savedMany m_aside m_text m_length m_isWay b.1 b.2) n (v1, m_s) = some res → zW Z A (wX7 Z Am m_thrown m_s m_saved m_savedMany m_aside m_sent m_text m_length m_way m_crossed m_wayCost m_isWay m_next m_start m_token m_number m_letters m_isWrong m_sums m_steps m_chosen m_passed m_passedMany m_passedCost m_reach) s.heap H locs → lv_has ls 2 [(0, .ref (Am 0)), (1, .int v1)] → W p l e rmX7_load s m args below meth c H locs 0 0 (MQ below (zQi Z res.1 (wX7 Z Am res.2.1 res.2.2.1 res.2.2.2.1 res.2.2.2.2.1 res.2.2.2.2.2.1 m_sent m_text res.2.2.2.2.2.2.1 m_way m_crossed m_wayCost res.2.2.2.2.2.2.2.1 res.2.2.2.2.2.2.2.2.1 res.2.2.2.2.2.2.2.2.2.1 res.2.2.2.2.2.2.2.2.2.2.1 res.2.2.2.2.2.2.2.2.2.2.2.1 res.2.2.2.2.2.2.2.2.2.2.2.2.1 res.2.2.2.2.2.2.2.2.2.2.2.2.2 m_sums m_steps m_chosen m_passed m_passedMany m_passedCost m_reach) A) args s 0 0 A) (F0 m 19 ls []) := by
  intro n
  induction n with
  | zero => intro v1 m_s H locs ls h; cases h
  | succ n ih =>
    intro v1 m_s H locs ls h hw hl
    obtain ⟨q1, h, hn1, hr1⟩ := iter_out h
    have hb1 : ∀ b : Int32 × (Nat → Int32), q1 = .inl b → ∀ (H : Heap) (locs : List Loc) (ls : Array Slot), zW Z A (wX7 Z Am m_thrown b.2 m_saved m_savedMany m_aside m_sent m_text m_length m_way m_crossed m_wayCost m_isWay m_next m_start m_token m_number m_letters m_isWrong m_sums m_steps m_chosen m_passed m_passedMany m_passedCost m_reach) s.heap H locs → lv_has ls 2 [(0, .ref (Am 0)), (1, .int b.1)] → W p l e rmX7_load s m args below meth c H locs 0 0 (MQ below (zQi Z res.1 (wX7 Z Am res.2.1 res.2.2.1 res.2.2.2.1 res.2.2.2.2.1 res.2.2.2.2.2.1 m_sent m_text res.2.2.2.2.2.2.1 m_way m_crossed m_wayCost res.2.2.2.2.2.2.2.1 res.2.2.2.2.2.2.2.2.1 res.2.2.2.2.2.2.2.2.2.1 res.2.2.2.2.2.2.2.2.2.2.1 res.2.2.2.2.2.2.2.2.2.2.2.1 res.2.2.2.2.2.2.2.2.2.2.2.2.1 res.2.2.2.2.2.2.2.2.2.2.2.2.2 m_sums m_steps m_chosen m_passed m_passedMany m_passedCost m_reach) A) args s 0 0 A) (F0 m 19 ls []) := fun b eb H locs ls hw hl => ih b.1 b.2 H locs ls (hn1 b eb) hw hl
    replace h : sX7_load_19 m_thrown m_saved m_savedMany m_aside m_text m_length m_isWay v1 m_s = some q1 := h
    unfold sX7_load_19 at h
    refine r_iload_n E hl 1 rfl dX7_load_19 rfl ?_
    refine r_sipush E 1557 dX7_load_20 (by decide) ?_
    refine r_icmp_ge E 39 dX7_load_23 (by decide) (fun hc => ?_) (fun hc => ?_)
    · replace h := ite_t hc h
      obtain ⟨ro10, h, hro10⟩ := oi_some h
      rw [hr1 _ hro10] at h
      exact vX7_load_39 E  hw (lv_sub hl [0] rfl) h
    · replace h := ite_f hc h
      refine r_aload_n E hl 0 rfl dX7_load_26 rfl ?_
      refine r_get E kW_X7 hw 0 rfl rfl 1 (by decide) kF_X7_7 rfl dX7_load_27 ?_
      refine r_iload_n E hl 1 rfl dX7_load_30 rfl ?_
      refine r_iconst E 0 dX7_load_31 (by decide) ?_
      obtain ⟨hg11, h⟩ := gd_some h
      refine r_iast E (wX7 Z Am m_thrown (upd m_s (v1).toNatClampNeg (0 : Int32)) m_saved m_savedMany m_aside m_sent m_text m_length m_way m_crossed m_wayCost m_isWay m_next m_start m_token m_number m_letters m_isWrong m_sums m_steps m_chosen m_passed m_passedMany m_passedCost m_reach) hw 1 rfl hg11 rfl dX7_load_32 (fun H locs hw => ?_)
      obtain ⟨w12, hw12, h⟩ := nm_out h
      refine r_iinc E w12 [(1, .int w12), (0, .ref (Am 0))] hl (k := 1) rfl dX7_load_33 hw12.symm (by decide) rfl (fun ls hl => ?_)
      refine r_goto E 19 dX7_load_36 (by decide) ?_
      exact hb1 _ (Option.some.inj h).symm _ _ _ hw (lv_sub hl [1, 0] rfl)
set_option maxRecDepth 100000 in
set_option maxHeartbeats 4000000 in
theorem mX7_load (l : Launch) (Z : zT) (sz : Nat) (Am : Nat → Nat) (m_thrown : Int32) (m_s : (Nat → Int32)) (m_saved : (Nat → Int32)) (m_savedMany : Int32) (m_aside : (Nat → Int32)) (m_sent : (Nat → Int32)) (m_text : (Nat → Int32)) (m_length : Int32) (m_way : (Nat → Int32)) (m_crossed : Int32) (m_wayCost : Int32) (m_isWay : Int32) (m_next : Int32) (m_start : Int32) (m_token : Int32) (m_number : Int32) (m_letters : Int64) (m_isWrong : Int32) (m_sums : (Nat → Int32)) (m_steps : (Nat → Int32)) (m_chosen : Int32) (m_passed : (Nat → Int32)) (m_passedMany : Int32) (m_passedCost : Int32) (m_reach : (Nat → Int32))  {res : Int32 × Int32 × (Nat → Int32) × (Nat → Int32) × Int32 × (Nat → Int32) × Int32 × Int32 × Int32 × Int32 × Int32 × Int32 × Int64 × Int32} (h : fX7_load m_s m_saved m_savedMany m_aside m_text m_length m_isWay = some res) : Met l yX7_load (Cond.code yX7_load cX7_load 2 (some .int) :: zWs) rmX7_load (zP Z (wX7 Z Am m_thrown m_s m_saved m_savedMany m_aside m_sent m_text m_length m_way m_crossed m_wayCost m_isWay m_next m_start m_token m_number m_letters m_isWrong m_sums m_steps m_chosen m_passed m_passedMany m_passedCost m_reach) sz [.ref (Am 0)]) (zQi Z res.1 (wX7 Z Am res.2.1 res.2.2.1 res.2.2.2.1 res.2.2.2.2.1 res.2.2.2.2.2.1 m_sent m_text res.2.2.2.2.2.2.1 m_way m_crossed m_wayCost res.2.2.2.2.2.2.2.1 res.2.2.2.2.2.2.2.2.1 res.2.2.2.2.2.2.2.2.2.1 res.2.2.2.2.2.2.2.2.2.2.1 res.2.2.2.2.2.2.2.2.2.2.2.1 res.2.2.2.2.2.2.2.2.2.2.2.2.1 res.2.2.2.2.2.2.2.2.2.2.2.2.2 m_sums m_steps m_chosen m_passed m_passedMany m_passedCost m_reach) (va_A (wX7 Z Am m_thrown m_s m_saved m_savedMany m_aside m_sent m_text m_length m_way m_crossed m_wayCost m_isWay m_next m_start m_token m_number m_letters m_isWrong m_sums m_steps m_chosen m_passed m_passedMany m_passedCost m_reach) sz)) 0 0 (va_A (wX7 Z Am m_thrown m_s m_saved m_savedMany m_aside m_sent m_text m_length m_way m_crossed m_wayCost m_isWay m_next m_start m_token m_number m_letters m_isWrong m_sums m_steps m_chosen m_passed m_passedMany m_passedCost m_reach) sz) := by
  refine zMet (own := RX7) (fun A => zQi Z res.1 (wX7 Z Am res.2.1 res.2.2.1 res.2.2.2.1 res.2.2.2.2.1 res.2.2.2.2.2.1 m_sent m_text res.2.2.2.2.2.2.1 m_way m_crossed m_wayCost res.2.2.2.2.2.2.2.1 res.2.2.2.2.2.2.2.2.1 res.2.2.2.2.2.2.2.2.2.1 res.2.2.2.2.2.2.2.2.2.2.1 res.2.2.2.2.2.2.2.2.2.2.2.1 res.2.2.2.2.2.2.2.2.2.2.2.2.1 res.2.2.2.2.2.2.2.2.2.2.2.2.2 m_sums m_steps m_chosen m_passed m_passedMany m_passedCost m_reach) A) (by decide) rfl (Nat.le_of_ble_eq_true rfl) ?_
  intro p e s m args below meth c ls A E hw hl
  unfold fX7_load at h
  refine r_aload_n E hl 0 rfl dX7_load_0 rfl ?_
  refine r_iconst E 0 dX7_load_1 (by decide) ?_
  refine r_put E (wX7 Z Am (0 : Int32) m_s m_saved m_savedMany m_aside m_sent m_text m_length m_way m_crossed m_wayCost m_isWay m_next m_start m_token m_number m_letters m_isWrong m_sums m_steps m_chosen m_passed m_passedMany m_passedCost m_reach) kW_X7 tyX7_ok nmX7 hw 0 rfl rfl 0 (by decide) kF_X7_40 rfl rfl rfl (Nat.le_of_ble_eq_true rfl) rfl dX7_load_2 (fun H locs hw => ?_)
  refine r_aload_n E hl 0 rfl dX7_load_5 rfl ?_
  refine r_aload_n E hl 0 rfl dX7_load_6 rfl ?_
  refine r_get E kW_X7 hw 0 rfl rfl 4 (by decide) kF_X7_16 rfl dX7_load_7 ?_
  refine r_aload_n E hl 0 rfl dX7_load_10 rfl ?_
  refine r_get E kW_X7 hw 0 rfl rfl 1 (by decide) kF_X7_7 rfl dX7_load_11 ?_
  obtain ⟨y1, hy1, h⟩ := bd_some h
  refine r_callVAv E hw (mX7_copy_aside_s l Z _ Am (0 : Int32) m_s m_saved m_savedMany m_aside m_sent m_text m_length m_way m_crossed m_wayCost m_isWay m_next m_start m_token m_number m_letters m_isWrong m_sums m_steps m_chosen m_passed m_passedMany m_passedCost m_reach hy1) kL_X7_51 kI_X7_copy kS_X7_copy kN_X7 kC_X7_copy rfl rfl hdX7_copy ⟨Nat.le_of_ble_eq_true rfl, Nat.le_of_ble_eq_true rfl⟩ 0 rfl rfl rfl rfl hl [] rfl (Nat.le_of_ble_eq_true rfl) dX7_load_14 ⟨Nat.zero_le _, Nat.zero_le _⟩ (fun H locs hw => ?_)
  refine r_iconst E 0 dX7_load_17 (by decide) ?_
  refine r_istore_n E [(1, .int (0 : Int32)), (0, .ref (Am 0))] hl dX7_load_18 rfl (by decide) rfl (fun ls hl => ?_)
  obtain ⟨n13, h⟩ := wh_some h
  exact tX7_load_19 E  n13 _ _ _ _ _ h hw (lv_sub hl [1, 0] rfl)
