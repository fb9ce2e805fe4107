abbrev rmX7_leads : Room := { frames := 3, cells := 0, slots := 0, locals := 67 }

set_option maxRecDepth 100000 in
set_option maxHeartbeats 4000000 in
theorem vX7_leads_113 {Z : zT} {p : Program} {l : Launch} {e : Env} {s : State} {m : MethodId} {args : Array Value} {below : List Frame} {meth : Method} {c : Code} {A : Nat → Prop} (E : zE Z p s m args meth c RX7 cX7_leads 9 (some .boolean) A) {Am : Nat → Nat} {v5 : Int32} {v6 : Int32} {v7 : Int32} {k0 : Int32} {m_thrown : Int32} {m_s : (Nat → Int32)} {m_saved : (Nat → Int32)} {m_savedMany : Int32} {m_aside : (Nat → Int32)} {m_sent : (Nat → Int32)} {m_text : (Nat → Int32)} {m_length : Int32} {m_way : (Nat → Int32)} {m_crossed : Int32} {m_wayCost : Int32} {m_isWay : Int32} {m_next : Int32} {m_start : Int32} {m_token : Int32} {m_number : Int32} {m_letters : Int64} {m_isWrong : Int32} {m_sums : (Nat → Int32)} {m_steps : (Nat → Int32)} {m_chosen : Int32} {m_passed : (Nat → Int32)} {m_passedMany : Int32} {m_passedCost : Int32} {m_reach : (Nat → Int32)} {res : Int32}  {H : Heap} {locs : List Loc} {ls : Array Slot} (hw : zW Z A (wX7 Z Am m_thrown m_s m_saved m_savedMany m_aside m_sent m_text m_length m_way m_crossed m_wayCost m_isWay m_next m_start m_token m_number m_letters m_isWrong m_sums m_steps m_chosen m_passed m_passedMany m_passedCost m_reach) s.heap H locs) (hl : lv_has ls 9 [(0, .ref (Am 0)), (5, .int v5), (6, .int v6), (7, .int v7)]) (h : uX7_leads_113 v5 v6 v7 k0 m_s = some res) : W p l e rmX7_leads s m args below meth c H locs 0 0 (MQ below (zQi Z res (wX7 Z Am m_thrown m_s m_saved m_savedMany m_aside m_sent m_text m_length m_way m_crossed m_wayCost m_isWay m_next m_start m_token m_number m_letters m_isWrong m_sums m_steps m_chosen m_passed m_passedMany m_passedCost m_reach) A) args s 0 0 A) (F0 m 113 ls [.int k0]) := by
  unfold uX7_leads_113 at h
  refine r_istore E [(8, .int k0), (0, .ref (Am 0)), (5, .int v5), (6, .int v6), (7, .int v7)] hl dX7_leads_113 (by decide) rfl (fun ls hl => ?_)
  refine r_iload E hl 0 rfl dX7_leads_115 ?_
  refine r_if_eq E 148 dX7_leads_117 (by decide) (fun hc => ?_) (fun hc => ?_)
  · replace h := ite_t hc h
    refine r_iconst E 0 dX7_leads_148 (by decide) ?_
    obtain rfl := Option.some.inj h
    exact r_zret E bz_0 hw dX7_leads_149
  · replace h := ite_f hc h
    refine r_aload_n E hl 1 rfl dX7_leads_120 rfl ?_
    refine r_iload E hl 2 rfl dX7_leads_121 ?_
    refine r_iload E hl 4 rfl dX7_leads_123 ?_
    obtain ⟨y5, hy5, h⟩ := bd_some h
    refine r_callVAi E hw (mX7_isEnd l Z _ Am m_thrown m_s m_saved m_savedMany m_aside m_sent m_text m_length m_way m_crossed m_wayCost m_isWay m_next m_start m_token m_number m_letters m_isWrong m_sums m_steps m_chosen m_passed m_passedMany m_passedCost m_reach v5 v7 hy5) kL_X7_84 kI_X7_isEnd kS_X7_isEnd kN_X7 kC_X7_isEnd rfl rfl hdX7_isEnd ⟨Nat.le_of_ble_eq_true rfl, Nat.le_of_ble_eq_true rfl⟩ 0 rfl rfl rfl rfl hl [] rfl (Nat.le_of_ble_eq_true rfl) dX7_leads_125 ⟨Nat.zero_le _, Nat.zero_le _⟩ (fun H locs hw => ?_)
    refine r_if_eq E 148 dX7_leads_128 (by decide) (fun hc => ?_) (fun hc => ?_)
    · replace h := ite_t hc h
      refine r_iconst E 0 dX7_leads_148 (by decide) ?_
      obtain rfl := Option.some.inj h
      exact r_zret E bz_0 hw dX7_leads_149
    · replace h := ite_f hc h
      refine r_aload_n E hl 1 rfl dX7_leads_131 rfl ?_
      refine r_iload E hl 4 rfl dX7_leads_132 ?_
      refine r_iload E hl 2 rfl dX7_leads_134 ?_
      obtain ⟨y6, hy6, h⟩ := bd_some h
      refine r_callVAi E hw (mX7_other l Z _ Am m_thrown m_s m_saved m_savedMany m_aside m_sent m_text m_length m_way m_crossed m_wayCost m_isWay m_next m_start m_token m_number m_letters m_isWrong m_sums m_steps m_chosen m_passed m_passedMany m_passedCost m_reach v7 v5 hy6) kL_X7_219 kI_X7_other kS_X7_other kN_X7 kC_X7_other rfl rfl hdX7_other ⟨Nat.le_of_ble_eq_true rfl, Nat.le_of_ble_eq_true rfl⟩ 0 rfl rfl rfl rfl hl [] rfl (Nat.le_of_ble_eq_true rfl) dX7_leads_136 ⟨Nat.zero_le _, Nat.zero_le _⟩ (fun H locs hw => ?_)
      refine r_iload E hl 3 rfl dX7_leads_139 ?_
      refine r_icmp_ne E 148 dX7_leads_141 (by decide) (fun hc => ?_) (fun hc => ?_)
      · replace h := ite_f hc h
        refine r_iconst E 0 dX7_leads_148 (by decide) ?_
        obtain rfl := Option.some.inj h
        exact r_zret E bz_0 hw dX7_leads_149
      · replace h := ite_t hc h
        refine r_iconst E 1 dX7_leads_144 (by decide) ?_
        refine r_goto E 149 dX7_leads_145 (by decide) ?_
        obtain rfl := Option.some.inj h
        exact r_zret E bz_1 hw dX7_leads_149
set_option maxRecDepth 100000 in
set_option maxHeartbeats 4000000 in
theorem vX7_leads_108 {Z : zT} {p : Program} {l : Launch} {e : Env} {s : State} {m : MethodId} {args : Array Value} {below : List Frame} {meth : Method} {c : Code} {A : Nat → Prop} (E : zE Z p s m args meth c RX7 cX7_leads 9 (some .boolean) A) {Am : Nat → Nat} {v5 : Int32} {v6 : Int32} {v7 : Int32} {m_thrown : Int32} {m_s : (Nat → Int32)} {m_saved : (Nat → Int32)} {m_savedMany : Int32} {m_aside : (Nat → Int32)} {m_sent : (Nat → Int32)} {m_text : (Nat → Int32)} {m_length : Int32} {m_way : (Nat → Int32)} {m_crossed : Int32} {m_wayCost : Int32} {m_isWay : Int32} {m_next : Int32} {m_start : Int32} {m_token : Int32} {m_number : Int32} {m_letters : Int64} {m_isWrong : Int32} {m_sums : (Nat → Int32)} {m_steps : (Nat → Int32)} {m_chosen : Int32} {m_passed : (Nat → Int32)} {m_passedMany : Int32} {m_passedCost : Int32} {m_reach : (Nat → Int32)} {res : Int32}  {H : Heap} {locs : List Loc} {ls : Array Slot} (hw : zW Z A (wX7 Z Am m_thrown m_s m_saved m_savedMany m_aside m_sent m_text m_length m_way m_crossed m_wayCost m_isWay m_next m_start m_token m_number m_letters m_isWrong m_sums m_steps m_chosen m_passed m_passedMany m_passedCost m_reach) s.heap H locs) (hl : lv_has ls 9 [(0, .ref (Am 0)), (5, .int v5), (6, .int v6), (7, .int v7)]) (h : uX7_leads_108 v5 v6 v7 m_s = some res) : W p l e rmX7_leads s m args below meth c H locs 0 0 (MQ below (zQi Z res (wX7 Z Am m_thrown m_s m_saved m_savedMany m_aside m_sent m_text m_length m_way m_crossed m_wayCost m_isWay m_next m_start m_token m_number m_letters m_isWrong m_sums m_steps m_chosen m_passed m_passedMany m_passedCost m_reach) A) args s 0 0 A) (F0 m 108 ls []) := by
  unfold uX7_leads_108 at h
  refine r_iconst E 1 dX7_leads_108 (by decide) ?_
  refine r_goto E 113 dX7_leads_109 (by decide) ?_
  exact vX7_leads_113 E  hw hl h
set_option maxRecDepth 100000 in
set_option maxHeartbeats 4000000 in
theorem mX7_leads (l : Launch) (Z : zT) (sz : Nat) (Am : Nat → Nat) (m_thrown : Int32) (m_s : (Nat → Int32)) (m_saved : (Nat → Int32)) (m_savedMany : Int32) (m_aside : (Nat → Int32)) (m_sent : (Nat → Int32)) (m_text : (Nat → Int32)) (m_length : Int32) (m_way : (Nat → Int32)) (m_crossed : Int32) (m_wayCost : Int32) (m_isWay : Int32) (m_next : Int32) (m_start : Int32) (m_token : Int32) (m_number : Int32) (m_letters : Int64) (m_isWrong : Int32) (m_sums : (Nat → Int32)) (m_steps : (Nat → Int32)) (m_chosen : Int32) (m_passed : (Nat → Int32)) (m_passedMany : Int32) (m_passedCost : Int32) (m_reach : (Nat → Int32)) (v1 : Int32) (v2 : Int32) (v3 : Int32) (v4 : Int32) (v5 : Int32) (v6 : Int32) {res : Int32} (h : fX7_leads v1 v2 v3 v4 v5 v6 m_s = some res) : Met l yX7_leads (Cond.code yX7_leads cX7_leads 9 (some .boolean) :: zWs) rmX7_leads (zP Z (wX7 Z Am m_thrown m_s m_saved m_savedMany m_aside m_sent m_text m_length m_way m_crossed m_wayCost m_isWay m_next m_start m_token m_number m_letters m_isWrong m_sums m_steps m_chosen m_passed m_passedMany m_passedCost m_reach) sz [.ref (Am 0), .int v1, .int v2, .int v3, .int v4, .int v5, .int v6]) (zQi Z res (wX7 Z Am m_thrown m_s m_saved m_savedMany m_aside m_sent m_text m_length m_way m_crossed m_wayCost m_isWay m_next m_start m_token m_number m_letters m_isWrong m_sums m_steps m_chosen m_passed m_passedMany m_passedCost m_reach) (va_A (wX7 Z Am m_thrown m_s m_saved m_savedMany m_aside m_sent m_text m_length m_way m_crossed m_wayCost m_isWay m_next m_start m_token m_number m_letters m_isWrong m_sums m_steps m_chosen m_passed m_passedMany m_passedCost m_reach) sz)) 0 0 (va_A (wX7 Z Am m_thrown m_s m_saved m_savedMany m_aside m_sent m_text m_length m_way m_crossed m_wayCost m_isWay m_next m_start m_token m_number m_letters m_isWrong m_sums m_steps m_chosen m_passed m_passedMany m_passedCost m_reach) sz) := by
  refine zMet (own := RX7) (fun A => zQi Z res (wX7 Z Am m_thrown m_s m_saved m_savedMany m_aside m_sent m_text m_length m_way m_crossed m_wayCost m_isWay m_next m_start m_token m_number m_letters m_isWrong m_sums m_steps m_chosen m_passed m_passedMany m_passedCost m_reach) A) (by decide) rfl (Nat.le_of_ble_eq_true rfl) ?_
  intro p e s m args below meth c ls A E hw hl
  unfold fX7_leads at h
  refine r_aload_n E hl 0 rfl dX7_leads_0 rfl ?_
  refine r_iload_n E hl 1 rfl dX7_leads_1 rfl ?_
  refine r_iload_n E hl 2 rfl dX7_leads_2 rfl ?_
  refine r_iconst E 0 dX7_leads_3 (by decide) ?_
  obtain ⟨y1, hy1, h⟩ := bd_some h
  refine r_callVAi E hw (mX7_fact l Z _ Am m_thrown m_s m_saved m_savedMany m_aside m_sent m_text m_length m_way m_crossed m_wayCost m_isWay m_next m_start m_token m_number m_letters m_isWrong m_sums m_steps m_chosen m_passed m_passedMany m_passedCost m_reach v1 v2 (0 : Int32) hy1) kL_X7_73 kI_X7_fact kS_X7_fact kN_X7 kC_X7_fact rfl rfl hdX7_fact ⟨Nat.le_of_ble_eq_true rfl, Nat.le_of_ble_eq_true rfl⟩ 0 rfl rfl rfl rfl hl [] rfl (Nat.le_of_ble_eq_true rfl) dX7_leads_4 ⟨Nat.zero_le _, Nat.zero_le _⟩ (fun H locs hw => ?_)
  refine r_if_eq E 20 dX7_leads_7 (by decide) (fun hc => ?_) (fun hc => ?_)
  · replace h := ite_t hc h
    refine r_iconst E 0 dX7_leads_20 (by decide) ?_
    obtain rfl := Option.some.inj h
    exact r_zret E bz_0 hw dX7_leads_21
  · replace h := ite_f hc h
    refine r_aload_n E hl 0 rfl dX7_leads_10 rfl ?_
    refine r_iload_n E hl 1 rfl dX7_leads_11 rfl ?_
    refine r_iload_n E hl 2 rfl dX7_leads_12 rfl ?_
    refine r_iconst E 1 dX7_leads_13 (by decide) ?_
    obtain ⟨y2, hy2, h⟩ := bd_some h
    refine r_callVAi E hw (mX7_fact l Z _ Am m_thrown m_s m_saved m_savedMany m_aside m_sent m_text m_length m_way m_crossed m_wayCost m_isWay m_next m_start m_token m_number m_letters m_isWrong m_sums m_steps m_chosen m_passed m_passedMany m_passedCost m_reach v1 v2 (1 : Int32) hy2) kL_X7_73 kI_X7_fact kS_X7_fact kN_X7 kC_X7_fact rfl rfl hdX7_fact ⟨Nat.le_of_ble_eq_true rfl, Nat.le_of_ble_eq_true rfl⟩ 0 rfl rfl rfl rfl hl [] rfl (Nat.le_of_ble_eq_true rfl) dX7_leads_14 ⟨Nat.zero_le _, Nat.zero_le _⟩ (fun H locs hw => ?_)
    refine r_if_ne E 22 dX7_leads_17 (by decide) (fun hc => ?_) (fun hc => ?_)
    · replace h := ite_f hc h
      refine r_iload_n E hl 2 rfl dX7_leads_22 rfl ?_
      refine r_bipush E 32 dX7_leads_23 (by decide) ?_
      refine r_icmp_lt E 67 dX7_leads_25 (by decide) (fun hc => ?_) (fun hc => ?_)
      · replace h := ite_t hc h
        refine r_iload_n E hl 2 rfl dX7_leads_67 rfl ?_
        refine r_bipush E 16 dX7_leads_68 (by decide) ?_
        refine r_isub E dX7_leads_70 ?_
        obtain ⟨w3, hw3, h⟩ := nm_out h
        refine r_nm hw3 ?_
        refine r_istore E [(7, .int w3), (0, .ref (Am 0)), (1, .int v1), (2, .int v2), (3, .int v3), (4, .int v4), (5, .int v5), (6, .int v6)] hl dX7_leads_71 (by decide) rfl (fun ls hl => ?_)
        refine r_aload_n E hl 1 rfl dX7_leads_73 rfl ?_
        refine r_iload E hl 0 rfl dX7_leads_74 ?_
        refine r_iconst E 4 dX7_leads_76 (by decide) ?_
        obtain ⟨y4, hy4, h⟩ := bd_some h
        refine r_callVAi E hw (mX7_linkPart l Z _ Am m_thrown m_s m_saved m_savedMany m_aside m_sent m_text m_length m_way m_crossed m_wayCost m_isWay m_next m_start m_token m_number m_letters m_isWrong m_sums m_steps m_chosen m_passed m_passedMany m_passedCost m_reach w3 (4 : Int32) hy4) kL_X7_62 kI_X7_linkPart kS_X7_linkPart kN_X7 kC_X7_linkPart rfl rfl hdX7_linkPart ⟨Nat.le_of_ble_eq_true rfl, Nat.le_of_ble_eq_true rfl⟩ 0 rfl rfl rfl rfl hl [] rfl (Nat.le_of_ble_eq_true rfl) dX7_leads_77 ⟨Nat.zero_le _, Nat.zero_le _⟩ (fun H locs hw => ?_)
        refine r_if_eq E 108 dX7_leads_80 (by decide) (fun hc => ?_) (fun hc => ?_)
        · replace h := ite_t hc h
          exact vX7_leads_108 E  hw (lv_sub hl [1, 6, 7, 0] rfl) h
        · replace h := ite_f hc h
          refine r_aload_n E hl 1 rfl dX7_leads_83 rfl ?_
          refine r_iload E hl 0 rfl dX7_leads_84 ?_
          obtain ⟨y7, hy7, h⟩ := bd_some h
          refine r_callVAi E hw (mX7_owner l Z _ Am m_thrown m_s m_saved m_savedMany m_aside m_sent m_text m_length m_way m_crossed m_wayCost m_isWay m_next m_start m_token m_number m_letters m_isWrong m_sums m_steps m_chosen m_passed m_passedMany m_passedCost m_reach w3 hy7) kL_X7_81 kI_X7_owner kS_X7_owner kN_X7 kC_X7_owner rfl rfl hdX7_owner ⟨Nat.le_of_ble_eq_true rfl, Nat.le_of_ble_eq_true rfl⟩ 0 rfl rfl rfl rfl hl [] rfl (Nat.le_of_ble_eq_true rfl) dX7_leads_86 ⟨Nat.zero_le _, Nat.zero_le _⟩ (fun H locs hw => ?_)
          refine r_iload_n E hl 4 rfl dX7_leads_89 rfl ?_
          refine r_icmp_eq E 108 dX7_leads_90 (by decide) (fun hc => ?_) (fun hc => ?_)
          · replace h := ite_t hc h
            exact vX7_leads_108 E  hw (lv_sub hl [1, 6, 7, 0] rfl) h
          · replace h := ite_f hc h
            refine r_aload_n E hl 1 rfl dX7_leads_93 rfl ?_
            refine r_iload_n E hl 2 rfl dX7_leads_94 rfl ?_
            refine r_aload_n E hl 1 rfl dX7_leads_95 rfl ?_
            refine r_iload E hl 0 rfl dX7_leads_96 ?_
            obtain ⟨y8, hy8, h⟩ := bd_some h
            refine r_callVAi E hw (mX7_owner l Z _ Am m_thrown m_s m_saved m_savedMany m_aside m_sent m_text m_length m_way m_crossed m_wayCost m_isWay m_next m_start m_token m_number m_letters m_isWrong m_sums m_steps m_chosen m_passed m_passedMany m_passedCost m_reach w3 hy8) kL_X7_81 kI_X7_owner kS_X7_owner kN_X7 kC_X7_owner rfl rfl hdX7_owner ⟨Nat.le_of_ble_eq_true rfl, Nat.le_of_ble_eq_true rfl⟩ 0 rfl rfl rfl rfl hl [.int v1, .ref (Am 0)] rfl (Nat.le_of_ble_eq_true rfl) dX7_leads_98 ⟨Nat.zero_le _, Nat.zero_le _⟩ (fun H locs hw => ?_)
            refine r_iload_n E hl 4 rfl dX7_leads_101 rfl ?_
            obtain ⟨y9, hy9, h⟩ := bd_some h
            refine r_callVAi E hw (mX7_hasGrant l Z _ Am m_thrown m_s m_saved m_savedMany m_aside m_sent m_text m_length m_way m_crossed m_wayCost m_isWay m_next m_start m_token m_number m_letters m_isWrong m_sums m_steps m_chosen m_passed m_passedMany m_passedCost m_reach v1 y8 v3 hy9) kL_X7_88 kI_X7_hasGrant kS_X7_hasGrant kN_X7 kC_X7_hasGrant rfl rfl hdX7_hasGrant ⟨Nat.le_of_ble_eq_true rfl, Nat.le_of_ble_eq_true rfl⟩ 0 rfl rfl rfl rfl hl [] rfl (Nat.le_of_ble_eq_true rfl) dX7_leads_102 ⟨Nat.zero_le _, Nat.zero_le _⟩ (fun H locs hw => ?_)
            refine r_if_eq E 112 dX7_leads_105 (by decide) (fun hc => ?_) (fun hc => ?_)
            · replace h := ite_t hc h
              refine r_iconst E 0 dX7_leads_112 (by decide) ?_
              exact vX7_leads_113 E  hw (lv_sub hl [1, 6, 7, 0] rfl) h
            · replace h := ite_f hc h
              exact vX7_leads_108 E  hw (lv_sub hl [1, 6, 7, 0] rfl) h
      · replace h := ite_f hc h
        refine r_iload E hl 4 rfl dX7_leads_28 ?_
        refine r_if_eq E 65 dX7_leads_30 (by decide) (fun hc => ?_) (fun hc => ?_)
        · replace h := ite_t hc h
          refine r_iconst E 0 dX7_leads_65 (by decide) ?_
          obtain rfl := Option.some.inj h
          exact r_zret E bz_0 hw dX7_leads_66
        · replace h := ite_f hc h
          refine r_aload_n E hl 0 rfl dX7_leads_33 rfl ?_
          refine r_iload_n E hl 2 rfl dX7_leads_34 rfl ?_
          refine r_bipush E 32 dX7_leads_35 (by decide) ?_
          refine r_isub E dX7_leads_37 ?_
          refine r_iconst E 0 dX7_leads_38 (by decide) ?_
          obtain ⟨y10, hy10, h⟩ := bd_some h
          refine r_callVAi E hw (mX7_tunnelPart l Z _ Am m_thrown m_s m_saved m_savedMany m_aside m_sent m_text m_length m_way m_crossed m_wayCost m_isWay m_next m_start m_token m_number m_letters m_isWrong m_sums m_steps m_chosen m_passed m_passedMany m_passedCost m_reach (v2 - (32 : Int32)) (0 : Int32) hy10) kL_X7_106 kI_X7_tunnelPart kS_X7_tunnelPart kN_X7 kC_X7_tunnelPart rfl rfl hdX7_tunnelPart ⟨Nat.le_of_ble_eq_true rfl, Nat.le_of_ble_eq_true rfl⟩ 0 rfl rfl rfl rfl hl [] rfl (Nat.le_of_ble_eq_true rfl) dX7_leads_39 ⟨Nat.zero_le _, Nat.zero_le _⟩ (fun H locs hw => ?_)
          refine r_iload E hl 5 rfl dX7_leads_42 ?_
          refine r_icmp_ne E 65 dX7_leads_44 (by decide) (fun hc => ?_) (fun hc => ?_)
          · replace h := ite_f hc h
            refine r_iconst E 0 dX7_leads_65 (by decide) ?_
            obtain rfl := Option.some.inj h
            exact r_zret E bz_0 hw dX7_leads_66
          · replace h := ite_t hc h
            refine r_aload_n E hl 0 rfl dX7_leads_47 rfl ?_
            refine r_iload_n E hl 2 rfl dX7_leads_48 rfl ?_
            refine r_bipush E 32 dX7_leads_49 (by decide) ?_
            refine r_isub E dX7_leads_51 ?_
            refine r_iconst E 1 dX7_leads_52 (by decide) ?_
            obtain ⟨y11, hy11, h⟩ := bd_some h
            refine r_callVAi E hw (mX7_tunnelPart l Z _ Am m_thrown m_s m_saved m_savedMany m_aside m_sent m_text m_length m_way m_crossed m_wayCost m_isWay m_next m_start m_token m_number m_letters m_isWrong m_sums m_steps m_chosen m_passed m_passedMany m_passedCost m_reach (v2 - (32 : Int32)) (1 : Int32) hy11) kL_X7_106 kI_X7_tunnelPart kS_X7_tunnelPart kN_X7 kC_X7_tunnelPart rfl rfl hdX7_tunnelPart ⟨Nat.le_of_ble_eq_true rfl, Nat.le_of_ble_eq_true rfl⟩ 0 rfl rfl rfl rfl hl [] rfl (Nat.le_of_ble_eq_true rfl) dX7_leads_53 ⟨Nat.zero_le _, Nat.zero_le _⟩ (fun H locs hw => ?_)
            refine r_iload E hl 6 rfl dX7_leads_56 ?_
            refine r_icmp_ne E 65 dX7_leads_58 (by decide) (fun hc => ?_) (fun hc => ?_)
            · replace h := ite_f hc h
              refine r_iconst E 0 dX7_leads_65 (by decide) ?_
              obtain rfl := Option.some.inj h
              exact r_zret E bz_0 hw dX7_leads_66
            · replace h := ite_t hc h
              refine r_iconst E 1 dX7_leads_61 (by decide) ?_
              refine r_goto E 66 dX7_leads_62 (by decide) ?_
              obtain rfl := Option.some.inj h
              exact r_zret E bz_1 hw dX7_leads_66
    · replace h := ite_t hc h
      refine r_iconst E 0 dX7_leads_20 (by decide) ?_
      obtain rfl := Option.some.inj h
      exact r_zret E bz_0 hw dX7_leads_21
abbrev rmX7_isBetter : Room := { frames := 0, cells := 0, slots := 0, locals := 0 }

set_option maxRecDepth 100000 in
set_option maxHeartbeats 4000000 in
theorem vX7_isBetter_30 {Z : zT} {p : Program} {l : Launch} {e : Env} {s : State} {m : MethodId} {args : Array Value} {below : List Frame} {meth : Method} {c : Code} {A : Nat → Prop} (E : zE Z p s m args meth c RX7 cX7_isBetter 4 (some .boolean) A) {Am : Nat → Nat} {m_thrown : Int32} {m_s : (Nat → Int32)} {m_saved : (Nat → Int32)} {m_savedMany : Int32} {m_aside : (Nat → Int32)} {m_sent : (Nat → Int32)} {m_text : (Nat → Int32)} {m_length : Int32} {m_way : (Nat → Int32)} {m_crossed : Int32} {m_wayCost : Int32} {m_isWay : Int32} {m_next : Int32} {m_start : Int32} {m_token : Int32} {m_number : Int32} {m_letters : Int64} {m_isWrong : Int32} {m_sums : (Nat → Int32)} {m_steps : (Nat → Int32)} {m_chosen : Int32} {m_passed : (Nat → Int32)} {m_passedMany : Int32} {m_passedCost : Int32} {m_reach : (Nat → Int32)} {res : Int32}  {H : Heap} {locs : List Loc} {ls : Array Slot} (hw : zW Z A (wX7 Z Am m_thrown m_s m_saved m_savedMany m_aside m_sent m_text m_length m_way m_crossed m_wayCost m_isWay m_next m_start m_token m_number m_letters m_isWrong m_sums m_steps m_chosen m_passed m_passedMany m_passedCost m_reach) s.heap H locs) (hl : lv_has ls 4 []) (h : uX7_isBetter_30  = some res) : W p l e rmX7_isBetter s m args below meth c H locs 0 0 (MQ below (zQi Z res (wX7 Z Am m_thrown m_s m_saved m_savedMany m_aside m_sent m_text m_length m_way m_crossed m_wayCost m_isWay m_next m_start m_token m_number m_letters m_isWrong m_sums m_steps m_chosen m_passed m_passedMany m_passedCost m_reach) A) args s 0 0 A) (F0 m 30 ls []) := by
  unfold uX7_isBetter_30 at h
  refine r_iconst E 1 dX7_isBetter_30 (by decide) ?_
  refine r_goto E 35 dX7_isBetter_31 (by decide) ?_
  obtain rfl := Option.some.inj h
  exact r_zret E bz_1 hw dX7_isBetter_35
set_option maxRecDepth 100000 in
set_option maxHeartbeats 4000000 in
theorem mX7_isBetter (l : Launch) (Z : zT) (sz : Nat) (Am : Nat → Nat) (m_thrown : Int32) (m_s : (Nat → Int32)) (m_saved : (Nat → Int32)) (m_savedMany : Int32) (m_aside : (Nat → Int32)) (m_sent : (Nat → Int32)) (m_text : (Nat → Int32)) (m_length : Int32) (m_way : (Nat → Int32)) (m_crossed : Int32) (m_wayCost : Int32) (m_isWay : Int32) (m_next : Int32) (m_start : Int32) (m_token : Int32) (m_number : Int32) (m_letters : Int64) (m_isWrong : Int32) (m_sums : (Nat → Int32)) (m_steps : (Nat → Int32)) (m_chosen : Int32) (m_passed : (Nat → Int32)) (m_passedMany : Int32) (m_passedCost : Int32) (m_reach : (Nat → Int32)) (v1 : Int32) (v2 : Int32) (v3 : Int32) {res : Int32} (h : fX7_isBetter v1 v2 v3 m_sums m_steps = some res) : Met l yX7_isBetter (Cond.code yX7_isBetter cX7_isBetter 4 (some .boolean) :: zWs) rmX7_isBetter (zP Z (wX7 Z Am m_thrown m_s m_saved m_savedMany m_aside m_sent m_text m_length m_way m_crossed m_wayCost m_isWay m_next m_start m_token m_number m_letters m_isWrong m_sums m_steps m_chosen m_passed m_passedMany m_passedCost m_reach) sz [.ref (Am 0), .int v1, .int v2, .int v3]) (zQi Z res (wX7 Z Am m_thrown m_s m_saved m_savedMany m_aside m_sent m_text m_length m_way m_crossed m_wayCost m_isWay m_next m_start m_token m_number m_letters m_isWrong m_sums m_steps m_chosen m_passed m_passedMany m_passedCost m_reach) (va_A (wX7 Z Am m_thrown m_s m_saved m_savedMany m_aside m_sent m_text m_length m_way m_crossed m_wayCost m_isWay m_next m_start m_token m_number m_letters m_isWrong m_sums m_steps m_chosen m_passed m_passedMany m_passedCost m_reach) sz)) 0 0 (va_A (wX7 Z Am m_thrown m_s m_saved m_savedMany m_aside m_sent m_text m_length m_way m_crossed m_wayCost m_isWay m_next m_start m_token m_number m_letters m_isWrong m_sums m_steps m_chosen m_passed m_passedMany m_passedCost m_reach) sz) := by
  refine zMet (own := RX7) (fun A => zQi Z res (wX7 Z Am m_thrown m_s m_saved m_savedMany m_aside m_sent m_text m_length m_way m_crossed m_wayCost m_isWay m_next m_start m_token m_number m_letters m_isWrong m_sums m_steps m_chosen m_passed m_passedMany m_passedCost m_reach) A) (by decide) rfl (Nat.le_of_ble_eq_true rfl) ?_
  intro p e s m args below meth c ls A E hw hl
  unfold fX7_isBetter at h
  refine r_iload_n E hl 1 rfl dX7_isBetter_0 rfl ?_
  refine r_aload_n E hl 0 rfl dX7_isBetter_1 rfl ?_
  refine r_get E kW_X7 hw 0 rfl rfl 18 (by decide) kF_X7_28 rfl dX7_isBetter_2 ?_
  refine r_iload_n E hl 3 rfl dX7_isBetter_5 rfl ?_
  obtain ⟨hg1, h⟩ := gd_some h
  refine r_iald E hw 7 rfl hg1 dX7_isBetter_6 ?_
  refine r_icmp_lt E 30 dX7_isBetter_7 (by decide) (fun hc => ?_) (fun hc => ?_)
  · replace h := ite_t hc h
    exact vX7_isBetter_30 E  hw (lv_sub hl [] rfl) h
  · replace h := ite_f hc h
    refine r_iload_n E hl 1 rfl dX7_isBetter_10 rfl ?_
    refine r_aload_n E hl 0 rfl dX7_isBetter_11 rfl ?_
    refine r_get E kW_X7 hw 0 rfl rfl 18 (by decide) kF_X7_28 rfl dX7_isBetter_12 ?_
    refine r_iload_n E hl 3 rfl dX7_isBetter_15 rfl ?_
    obtain ⟨hg2, h⟩ := gd_some h
    refine r_iald E hw 7 rfl hg2 dX7_isBetter_16 ?_
    refine r_icmp_ne E 34 dX7_isBetter_17 (by decide) (fun hc => ?_) (fun hc => ?_)
    · replace h := ite_f hc h
      refine r_iconst E 0 dX7_isBetter_34 (by decide) ?_
      obtain rfl := Option.some.inj h
      exact r_zret E bz_0 hw dX7_isBetter_35
    · replace h := ite_t hc h
      refine r_iload_n E hl 2 rfl dX7_isBetter_20 rfl ?_
      refine r_aload_n E hl 0 rfl dX7_isBetter_21 rfl ?_
      refine r_get E kW_X7 hw 0 rfl rfl 19 (by decide) kF_X7_31 rfl dX7_isBetter_22 ?_
      refine r_iload_n E hl 3 rfl dX7_isBetter_25 rfl ?_
      obtain ⟨hg3, h⟩ := gd_some h
      refine r_iald E hw 8 rfl hg3 dX7_isBetter_26 ?_
      refine r_icmp_ge E 34 dX7_isBetter_27 (by decide) (fun hc => ?_) (fun hc => ?_)
      · replace h := ite_t hc h
        refine r_iconst E 0 dX7_isBetter_34 (by decide) ?_
        obtain rfl := Option.some.inj h
        exact r_zret E bz_0 hw dX7_isBetter_35
      · replace h := ite_f hc h
        exact vX7_isBetter_30 E  hw (lv_sub hl [] rfl) h
abbrev rmX7_relax : Room := { frames := 4, cells := 0, slots := 0, locals := 95 }

set_option maxRecDepth 100000 in
set_option maxHeartbeats 4000000 in
theorem vX7_relax_46 {Z : zT} {p : Program} {l : Launch} {e : Env} {s : State} {m : MethodId} {args : Array Value} {below : List Frame} {meth : Method} {c : Code} {A : Nat → Prop} (E : zE Z p s m args meth c RX7 cX7_relax 8 none A) {Am : Nat → Nat} {v1 : Int32} {v2 : Int32} {v3 : Int32} {v4 : Int32} {v5 : Int32} {k0 : Int32} {m_thrown : Int32} {m_s : (Nat → Int32)} {m_saved : (Nat → Int32)} {m_savedMany : Int32} {m_aside : (Nat → Int32)} {m_sent : (Nat → Int32)} {m_text : (Nat → Int32)} {m_length : Int32} {m_way : (Nat → Int32)} {m_crossed : Int32} {m_wayCost : Int32} {m_isWay : Int32} {m_next : Int32} {m_start : Int32} {m_token : Int32} {m_number : Int32} {m_letters : Int64} {m_isWrong : Int32} {m_sums : (Nat → Int32)} {m_steps : (Nat → Int32)} {m_chosen : Int32} {m_passed : (Nat → Int32)} {m_passedMany : Int32} {m_passedCost : Int32} {m_reach : (Nat → Int32)} {res : (Nat → Int32) × (Nat → Int32)}  {H : Heap} {locs : List Loc} {ls : Array Slot} (hw : zW Z A (wX7 Z Am m_thrown m_s m_saved m_savedMany m_aside m_sent m_text m_length m_way m_crossed m_wayCost m_isWay m_next m_start m_token m_number m_letters m_isWrong m_sums m_steps m_chosen m_passed m_passedMany m_passedCost m_reach) s.heap H locs) (hl : lv_has ls 8 [(0, .ref (Am 0)), (1, .int v1), (2, .int v2), (3, .int v3), (4, .int v4), (5, .int v5)]) (h : uX7_relax_46 v1 v2 v3 v4 v5 k0 m_s m_sums m_steps = some res) : W p l e rmX7_relax s m args below meth c H locs 0 0 (MQ below (zQv Z (wX7 Z Am m_thrown m_s m_saved m_savedMany m_aside m_sent m_text m_length m_way m_crossed m_wayCost m_isWay m_next m_start m_token m_number m_letters m_isWrong res.1 res.2 m_chosen m_passed m_passedMany m_passedCost m_reach) A) args s 0 0 A) (F0 m 46 ls [.int k0]) := by
  unfold uX7_relax_46 at h
  refine r_istore E [(6, .int k0), (0, .ref (Am 0)), (1, .int v1), (2, .int v2), (3, .int v3), (4, .int v4), (5, .int v5)] hl dX7_relax_46 (by decide) rfl (fun ls hl => ?_)
  refine r_iload E hl 0 rfl dX7_relax_48 ?_
  refine r_iload E hl 6 rfl dX7_relax_50 ?_
  refine r_icmp_eq E 145 dX7_relax_52 (by decide) (fun hc => ?_) (fun hc => ?_)
  · replace h := ite_t hc h
    obtain rfl := Option.some.inj h
    exact r_vret E hw dX7_relax_145
  · replace h := ite_f hc h
    refine r_aload_n E hl 1 rfl dX7_relax_55 rfl ?_
    refine r_get E kW_X7 hw 0 rfl rfl 18 (by decide) kF_X7_28 rfl dX7_relax_56 ?_
    refine r_iload E hl 0 rfl dX7_relax_59 ?_
    obtain ⟨hg2, h⟩ := gd_some h
    refine r_iald E hw 7 rfl hg2 dX7_relax_61 ?_
    refine r_ldc E (1000000) kQ_X7_253 dX7_relax_62 ?_
    refine r_icmp_ge E 145 dX7_relax_64 (by decide) (fun hc => ?_) (fun hc => ?_)
    · replace h := ite_t hc h
      obtain rfl := Option.some.inj h
      exact r_vret E hw dX7_relax_145
    · replace h := ite_f hc h
      refine r_aload_n E hl 1 rfl dX7_relax_67 rfl ?_
      refine r_iload_n E hl 2 rfl dX7_relax_68 rfl ?_
      refine r_iload_n E hl 3 rfl dX7_relax_69 rfl ?_
      refine r_iload_n E hl 4 rfl dX7_relax_70 rfl ?_
      refine r_iload E hl 5 rfl dX7_relax_71 ?_
      refine r_iload E hl 6 rfl dX7_relax_73 ?_
      refine r_iload E hl 0 rfl dX7_relax_75 ?_
      obtain ⟨y3, hy3, h⟩ := bd_some h
      refine r_callVAi E hw (mX7_leads l Z _ Am m_thrown m_s m_saved m_savedMany m_aside m_sent m_text m_length m_way m_crossed m_wayCost m_isWay m_next m_start m_token m_number m_letters m_isWrong m_sums m_steps m_chosen m_passed m_passedMany m_passedCost m_reach v1 v2 v3 v4 v5 k0 hy3) kL_X7_258 kI_X7_leads kS_X7_leads kN_X7 kC_X7_leads rfl rfl hdX7_leads ⟨Nat.le_of_ble_eq_true rfl, Nat.le_of_ble_eq_true rfl⟩ 0 rfl rfl rfl rfl hl [] rfl (Nat.le_of_ble_eq_true rfl) dX7_relax_77 ⟨Nat.zero_le _, Nat.zero_le _⟩ (fun H locs hw => ?_)
      refine r_if_eq E 145 dX7_relax_80 (by decide) (fun hc => ?_) (fun hc => ?_)
      · replace h := ite_t hc h
        obtain rfl := Option.some.inj h
        exact r_vret E hw dX7_relax_145
      · replace h := ite_f hc h
        refine r_aload_n E hl 1 rfl dX7_relax_83 rfl ?_
        refine r_get E kW_X7 hw 0 rfl rfl 18 (by decide) kF_X7_28 rfl dX7_relax_84 ?_
        refine r_iload E hl 0 rfl dX7_relax_87 ?_
        obtain ⟨hg4, h⟩ := gd_some h
        refine r_iald E hw 7 rfl hg4 dX7_relax_89 ?_
        refine r_aload_n E hl 1 rfl dX7_relax_90 rfl ?_
        refine r_iload_n E hl 2 rfl dX7_relax_91 rfl ?_
        refine r_iload_n E hl 3 rfl dX7_relax_92 rfl ?_
        refine r_iconst E 2 dX7_relax_93 (by decide) ?_
        obtain ⟨y5, hy5, h⟩ := bd_some h
        refine r_callVAi E hw (mX7_fact l Z _ Am m_thrown m_s m_saved m_savedMany m_aside m_sent m_text m_length m_way m_crossed m_wayCost m_isWay m_next m_start m_token m_number m_letters m_isWrong m_sums m_steps m_chosen m_passed m_passedMany m_passedCost m_reach v1 v2 (2 : Int32) hy5) kL_X7_73 kI_X7_fact kS_X7_fact kN_X7 kC_X7_fact rfl rfl hdX7_fact ⟨Nat.le_of_ble_eq_true rfl, Nat.le_of_ble_eq_true rfl⟩ 0 rfl rfl rfl rfl hl [.int (m_sums (k0).toNatClampNeg)] rfl (Nat.le_of_ble_eq_true rfl) dX7_relax_94 ⟨Nat.zero_le _, Nat.zero_le _⟩ (fun H locs hw => ?_)
        refine r_iadd E dX7_relax_97 ?_
        obtain ⟨w6, hw6, h⟩ := nm_out h
        refine r_nm hw6 ?_
        refine r_istore E [(7, .int w6), (6, .int k0), (0, .ref (Am 0)), (1, .int v1), (2, .int v2), (3, .int v3), (4, .int v4), (5, .int v5)] hl dX7_relax_98 (by decide) rfl (fun ls hl => ?_)
        refine r_aload_n E hl 2 rfl dX7_relax_100 rfl ?_
        refine r_iload E hl 0 rfl dX7_relax_101 ?_
        refine r_aload_n E hl 2 rfl dX7_relax_103 rfl ?_
        refine r_get E kW_X7 hw 0 rfl rfl 19 (by decide) kF_X7_31 rfl dX7_relax_104 ?_
        refine r_iload E hl 1 rfl dX7_relax_107 ?_
        obtain ⟨hg7, h⟩ := gd_some h
        refine r_iald E hw 8 rfl hg7 dX7_relax_109 ?_
        refine r_iconst E 1 dX7_relax_110 (by decide) ?_
        refine r_iadd E dX7_relax_111 ?_
        refine r_iload E hl 7 rfl dX7_relax_112 ?_
        obtain ⟨y8, hy8, h⟩ := bd_some h
        refine r_callVAi E hw (mX7_isBetter l Z _ Am m_thrown m_s m_saved m_savedMany m_aside m_sent m_text m_length m_way m_crossed m_wayCost m_isWay m_next m_start m_token m_number m_letters m_isWrong m_sums m_steps m_chosen m_passed m_passedMany m_passedCost m_reach w6 ((m_steps (k0).toNatClampNeg) + (1 : Int32)) v5 hy8) kL_X7_262 kI_X7_isBetter kS_X7_isBetter kN_X7 kC_X7_isBetter rfl rfl hdX7_isBetter ⟨Nat.le_of_ble_eq_true rfl, Nat.le_of_ble_eq_true rfl⟩ 0 rfl rfl rfl rfl hl [] rfl (Nat.le_of_ble_eq_true rfl) dX7_relax_114 ⟨Nat.zero_le _, Nat.zero_le _⟩ (fun H locs hw => ?_)
        refine r_if_eq E 145 dX7_relax_117 (by decide) (fun hc => ?_) (fun hc => ?_)
        · replace h := ite_t hc h
          obtain rfl := Option.some.inj h
          exact r_vret E hw dX7_relax_145
        · replace h := ite_f hc h
          refine r_aload_n E hl 2 rfl dX7_relax_120 rfl ?_
          refine r_get E kW_X7 hw 0 rfl rfl 18 (by decide) kF_X7_28 rfl dX7_relax_121 ?_
          refine r_iload E hl 7 rfl dX7_relax_124 ?_
          refine r_iload E hl 0 rfl dX7_relax_126 ?_
          obtain ⟨hg9, h⟩ := gd_some h
          refine r_iast E (wX7 Z Am m_thrown m_s m_saved m_savedMany m_aside m_sent m_text m_length m_way m_crossed m_wayCost m_isWay m_next m_start m_token m_number m_letters m_isWrong (upd m_sums (v5).toNatClampNeg w6) m_steps m_chosen m_passed m_passedMany m_passedCost m_reach) hw 7 rfl hg9 rfl dX7_relax_128 (fun H locs hw => ?_)
          refine r_aload_n E hl 2 rfl dX7_relax_129 rfl ?_
          refine r_get E kW_X7 hw 0 rfl rfl 19 (by decide) kF_X7_31 rfl dX7_relax_130 ?_
          refine r_iload E hl 7 rfl dX7_relax_133 ?_
          refine r_aload_n E hl 2 rfl dX7_relax_135 rfl ?_
          refine r_get E kW_X7 hw 0 rfl rfl 19 (by decide) kF_X7_31 rfl dX7_relax_136 ?_
          refine r_iload E hl 1 rfl dX7_relax_139 ?_
          obtain ⟨hg10, h⟩ := gd_some h
          refine r_iald E hw 8 rfl hg10 dX7_relax_141 ?_
          refine r_iconst E 1 dX7_relax_142 (by decide) ?_
          refine r_iadd E dX7_relax_143 ?_
          obtain ⟨hg11, h⟩ := gd_some h
          refine r_iast E (wX7 Z Am m_thrown m_s m_saved m_savedMany m_aside m_sent m_text m_length m_way m_crossed m_wayCost m_isWay m_next m_start m_token m_number m_letters m_isWrong (upd m_sums (v5).toNatClampNeg w6) (upd m_steps (v5).toNatClampNeg ((m_steps (k0).toNatClampNeg) + (1 : Int32))) m_chosen m_passed m_passedMany m_passedCost m_reach) hw 8 rfl hg11 rfl dX7_relax_144 (fun H locs hw => ?_)
          obtain rfl := Option.some.inj h
          exact r_vret E hw dX7_relax_145
set_option maxRecDepth 100000 in
set_option maxHeartbeats 4000000 in
theorem mX7_relax (l : Launch) (Z : zT) (sz : Nat) (Am : Nat → Nat) (m_thrown : Int32) (m_s : (Nat → Int32)) (m_saved : (Nat → Int32)) (m_savedMany : Int32) (m_aside : (Nat → Int32)) (m_sent : (Nat → Int32)) (m_text : (Nat → Int32)) (m_length : Int32) (m_way : (Nat → Int32)) (m_crossed : Int32) (m_wayCost : Int32) (m_isWay : Int32) (m_next : Int32) (m_start : Int32) (m_token : Int32) (m_number : Int32) (m_letters : Int64) (m_isWrong : Int32) (m_sums : (Nat → Int32)) (m_steps : (Nat → Int32)) (m_chosen : Int32) (m_passed : (Nat → Int32)) (m_passedMany : Int32) (m_passedCost : Int32) (m_reach : (Nat → Int32)) (v1 : Int32) (v2 : Int32) (v3 : Int32) (v4 : Int32) (v5 : Int32) {res : (Nat → Int32) × (Nat → Int32)} (h : fX7_relax v1 v2 v3 v4 v5 m_s m_sums m_steps = some res) : Met l yX7_relax (Cond.code yX7_relax cX7_relax 8 none :: zWs) rmX7_relax (zP Z (wX7 Z Am m_thrown m_s m_saved m_savedMany m_aside m_sent m_text m_length m_way m_crossed m_wayCost m_isWay m_next m_start m_token m_number m_letters m_isWrong m_sums m_steps m_chosen m_passed m_passedMany m_passedCost m_reach) sz [.ref (Am 0), .int v1, .int v2, .int v3, .int v4, .int v5]) (zQv Z (wX7 Z Am m_thrown m_s m_saved m_savedMany m_aside m_sent m_text m_length m_way m_crossed m_wayCost m_isWay m_next m_start m_token m_number m_letters m_isWrong res.1 res.2 m_chosen m_passed m_passedMany m_passedCost m_reach) (va_A (wX7 Z Am m_thrown m_s m_saved m_savedMany m_aside m_sent m_text m_length m_way m_crossed m_wayCost m_isWay m_next m_start m_token m_number m_letters m_isWrong m_sums m_steps m_chosen m_passed m_passedMany m_passedCost m_reach) sz)) 0 0 (va_A (wX7 Z Am m_thrown m_s m_saved m_savedMany m_aside m_sent m_text m_length m_way m_crossed m_wayCost m_isWay m_next m_start m_token m_number m_letters m_isWrong m_sums m_steps m_chosen m_passed m_passedMany m_passedCost m_reach) sz) := by
  refine zMet (own := RX7) (fun A => zQv Z (wX7 Z Am m_thrown m_s m_saved m_savedMany m_aside m_sent m_text m_length m_way m_crossed m_wayCost m_isWay m_next m_start m_token m_number m_letters m_isWrong res.1 res.2 m_chosen m_passed m_passedMany m_passedCost m_reach) A) (by decide) rfl (Nat.le_of_ble_eq_true rfl) ?_
  intro p e s m args below meth c ls A E hw hl
  unfold fX7_relax at h
  refine r_iload_n E hl 2 rfl dX7_relax_0 rfl ?_
  refine r_bipush E 32 dX7_relax_1 (by decide) ?_
  refine r_icmp_lt E 18 dX7_relax_3 (by decide) (fun hc => ?_) (fun hc => ?_)
  · replace h := ite_t hc h
    refine r_aload_n E hl 0 rfl dX7_relax_18 rfl ?_
    refine r_iload E hl 5 rfl dX7_relax_19 ?_
    refine r_iload_n E hl 2 rfl dX7_relax_21 rfl ?_
    refine r_bipush E 16 dX7_relax_22 (by decide) ?_
    refine r_isub E dX7_relax_24 ?_
    obtain ⟨y1, hy1, h⟩ := bd_some h
    refine r_callVAi E hw (mX7_isEnd l Z _ Am m_thrown m_s m_saved m_savedMany m_aside m_sent m_text m_length m_way m_crossed m_wayCost m_isWay m_next m_start m_token m_number m_letters m_isWrong m_sums m_steps m_chosen m_passed m_passedMany m_passedCost m_reach v5 (v2 - (16 : Int32)) hy1) kL_X7_84 kI_X7_isEnd kS_X7_isEnd kN_X7 kC_X7_isEnd rfl rfl hdX7_isEnd ⟨Nat.le_of_ble_eq_true rfl, Nat.le_of_ble_eq_true rfl⟩ 0 rfl rfl rfl rfl hl [] rfl (Nat.le_of_ble_eq_true rfl) dX7_relax_25 ⟨Nat.zero_le _, Nat.zero_le _⟩ (fun H locs hw => ?_)
    refine r_if_eq E 44 dX7_relax_28 (by decide) (fun hc => ?_) (fun hc => ?_)
    · replace h := ite_t hc h
      refine r_iload E hl 5 rfl dX7_relax_44 ?_
      exact vX7_relax_46 E  hw hl h
    · replace h := ite_f hc h
      refine r_aload_n E hl 0 rfl dX7_relax_31 rfl ?_
      refine r_iload_n E hl 2 rfl dX7_relax_32 rfl ?_
      refine r_bipush E 16 dX7_relax_33 (by decide) ?_
      refine r_isub E dX7_relax_35 ?_
      refine r_iload E hl 5 rfl dX7_relax_36 ?_
      obtain ⟨y12, hy12, h⟩ := bd_some h
      refine r_callVAi E hw (mX7_other l Z _ Am m_thrown m_s m_saved m_savedMany m_aside m_sent m_text m_length m_way m_crossed m_wayCost m_isWay m_next m_start m_token m_number m_letters m_isWrong m_sums m_steps m_chosen m_passed m_passedMany m_passedCost m_reach (v2 - (16 : Int32)) v5 hy12) kL_X7_219 kI_X7_other kS_X7_other kN_X7 kC_X7_other rfl rfl hdX7_other ⟨Nat.le_of_ble_eq_true rfl, Nat.le_of_ble_eq_true rfl⟩ 0 rfl rfl rfl rfl hl [] rfl (Nat.le_of_ble_eq_true rfl) dX7_relax_38 ⟨Nat.zero_le _, Nat.zero_le _⟩ (fun H locs hw => ?_)
      refine r_goto E 46 dX7_relax_41 (by decide) ?_
      exact vX7_relax_46 E  hw hl h
  · replace h := ite_f hc h
    refine r_aload_n E hl 0 rfl dX7_relax_6 rfl ?_
    refine r_iload_n E hl 2 rfl dX7_relax_7 rfl ?_
    refine r_bipush E 32 dX7_relax_8 (by decide) ?_
    refine r_isub E dX7_relax_10 ?_
    refine r_iconst E 1 dX7_relax_11 (by decide) ?_
    obtain ⟨y13, hy13, h⟩ := bd_some h
    refine r_callVAi E hw (mX7_tunnelPart l Z _ Am m_thrown m_s m_saved m_savedMany m_aside m_sent m_text m_length m_way m_crossed m_wayCost m_isWay m_next m_start m_token m_number m_letters m_isWrong m_sums m_steps m_chosen m_passed m_passedMany m_passedCost m_reach (v2 - (32 : Int32)) (1 : Int32) hy13) kL_X7_106 kI_X7_tunnelPart kS_X7_tunnelPart kN_X7 kC_X7_tunnelPart rfl rfl hdX7_tunnelPart ⟨Nat.le_of_ble_eq_true rfl, Nat.le_of_ble_eq_true rfl⟩ 0 rfl rfl rfl rfl hl [] rfl (Nat.le_of_ble_eq_true rfl) dX7_relax_12 ⟨Nat.zero_le _, Nat.zero_le _⟩ (fun H locs hw => ?_)
    refine r_goto E 46 dX7_relax_15 (by decide) ?_
    exact vX7_relax_46 E  hw hl h
abbrev rmX7_find : Room := { frames := 5, cells := 0, slots := 0, locals := 122 }

set_option maxRecDepth 100000 in
set_option maxHeartbeats 4000000 in
theorem vX7_find_115 {Z : zT} {p : Program} {l : Launch} {e : Env} {s : State} {m : MethodId} {args : Array Value} {below : List Frame} {meth : Method} {c : Code} {A : Nat → Prop} (E : zE Z p s m args meth c RX7 cX7_find 8 none A) {Am : Nat → Nat} {v1 : Int32} {v3 : Int32} {v4 : Int32} {v5 : Int32} {m_thrown : Int32} {m_s : (Nat → Int32)} {m_saved : (Nat → Int32)} {m_savedMany : Int32} {m_aside : (Nat → Int32)} {m_sent : (Nat → Int32)} {m_text : (Nat → Int32)} {m_length : Int32} {m_way : (Nat → Int32)} {m_crossed : Int32} {m_wayCost : Int32} {m_isWay : Int32} {m_next : Int32} {m_start : Int32} {m_token : Int32} {m_number : Int32} {m_letters : Int64} {m_isWrong : Int32} {m_sums : (Nat → Int32)} {m_steps : (Nat → Int32)} {m_chosen : Int32} {m_passed : (Nat → Int32)} {m_passedMany : Int32} {m_passedCost : Int32} {m_reach : (Nat → Int32)} {res : (Nat → Int32) × (Nat → Int32)} {q1 : (Int32 × (Nat → Int32) × (Nat → Int32)) ⊕ ((Nat → Int32) × (Nat → Int32))} (hb1 : ∀ b : Int32 × (Nat → Int32) × (Nat → Int32), q1 = .inl b → ∀ (H : Heap) (locs : List Loc) (ls : Array Slot), zW Z A (wX7 Z Am m_thrown m_s m_saved m_savedMany m_aside m_sent m_text m_length m_way m_crossed m_wayCost m_isWay m_next m_start m_token m_number m_letters m_isWrong b.2.1 b.2.2 m_chosen m_passed m_passedMany m_passedCost m_reach) s.heap H locs → lv_has ls 8 [(0, .ref (Am 0)), (1, .int v1), (3, .int v3), (4, .int v4), (5, .int b.1)] → W p l e rmX7_find s m args below meth c H locs 0 0 (MQ below (zQv Z (wX7 Z Am m_thrown m_s m_saved m_savedMany m_aside m_sent m_text m_length m_way m_crossed m_wayCost m_isWay m_next m_start m_token m_number m_letters m_isWrong res.1 res.2 m_chosen m_passed m_passedMany m_passedCost m_reach) A) args s 0 0 A) (F0 m 46 ls [])) (hr1 : ∀ r' , q1 = .inr r' → r' = res) {H : Heap} {locs : List Loc} {ls : Array Slot} (hw : zW Z A (wX7 Z Am m_thrown m_s m_saved m_savedMany m_aside m_sent m_text m_length m_way m_crossed m_wayCost m_isWay m_next m_start m_token m_number m_letters m_isWrong m_sums m_steps m_chosen m_passed m_passedMany m_passedCost m_reach) s.heap H locs) (hl : lv_has ls 8 [(0, .ref (Am 0)), (1, .int v1), (3, .int v3), (4, .int v4), (5, .int v5)]) (h : uX7_find_115 v5 m_sums m_steps = some q1) : W p l e rmX7_find s m args below meth c H locs 0 0 (MQ below (zQv Z (wX7 Z Am m_thrown m_s m_saved m_savedMany m_aside m_sent m_text m_length m_way m_crossed m_wayCost m_isWay m_next m_start m_token m_number m_letters m_isWrong res.1 res.2 m_chosen m_passed m_passedMany m_passedCost m_reach) A) args s 0 0 A) (F0 m 115 ls []) := by
  unfold uX7_find_115 at h
  obtain ⟨w3, hw3, h⟩ := nm_out h
  refine r_iinc E w3 [(5, .int w3), (0, .ref (Am 0)), (1, .int v1), (3, .int v3), (4, .int v4)] hl (k := 4) rfl dX7_find_115 hw3.symm (by decide) rfl (fun ls hl => ?_)
  refine r_goto E 46 dX7_find_118 (by decide) ?_
  exact hb1 _ (Option.some.inj h).symm _ _ _ hw (lv_sub hl [1, 2, 3, 4, 0] rfl)
set_option maxRecDepth 100000 in
set_option maxHeartbeats 4000000 in
theorem vX7_find_109 {Z : zT} {p : Program} {l : Launch} {e : Env} {s : State} {m : MethodId} {args : Array Value} {below : List Frame} {meth : Method} {c : Code} {A : Nat → Prop} (E : zE Z p s m args meth c RX7 cX7_find 8 none A) {Am : Nat → Nat} {v1 : Int32} {v3 : Int32} {v4 : Int32} {v5 : Int32} {v6 : Int32} {m_thrown : Int32} {m_s : (Nat → Int32)} {m_saved : (Nat → Int32)} {m_savedMany : Int32} {m_aside : (Nat → Int32)} {m_sent : (Nat → Int32)} {m_text : (Nat → Int32)} {m_length : Int32} {m_way : (Nat → Int32)} {m_crossed : Int32} {m_wayCost : Int32} {m_isWay : Int32} {m_next : Int32} {m_start : Int32} {m_token : Int32} {m_number : Int32} {m_letters : Int64} {m_isWrong : Int32} {m_sums : (Nat → Int32)} {m_steps : (Nat → Int32)} {m_chosen : Int32} {m_passed : (Nat → Int32)} {m_passedMany : Int32} {m_passedCost : Int32} {m_reach : (Nat → Int32)} {res : (Nat → Int32) × (Nat → Int32)} {q1 : (Int32 × (Nat → Int32) × (Nat → Int32)) ⊕ ((Nat → Int32) × (Nat → Int32))} (hb1 : ∀ b : Int32 × (Nat → Int32) × (Nat → Int32), q1 = .inl b → ∀ (H : Heap) (locs : List Loc) (ls : Array Slot), zW Z A (wX7 Z Am m_thrown m_s m_saved m_savedMany m_aside m_sent m_text m_length m_way m_crossed m_wayCost m_isWay m_next m_start m_token m_number m_letters m_isWrong b.2.1 b.2.2 m_chosen m_passed m_passedMany m_passedCost m_reach) s.heap H locs → lv_has ls 8 [(0, .ref (Am 0)), (1, .int v1), (3, .int v3), (4, .int v4), (5, .int b.1)] → W p l e rmX7_find s m args below meth c H locs 0 0 (MQ below (zQv Z (wX7 Z Am m_thrown m_s m_saved m_savedMany m_aside m_sent m_text m_length m_way m_crossed m_wayCost m_isWay m_next m_start m_token m_number m_letters m_isWrong res.1 res.2 m_chosen m_passed m_passedMany m_passedCost m_reach) A) args s 0 0 A) (F0 m 46 ls [])) (hr1 : ∀ r' , q1 = .inr r' → r' = res) {q2 : (Int32 × (Nat → Int32) × (Nat → Int32)) ⊕ ((Int32 × (Nat → Int32) × (Nat → Int32)) ⊕ ((Nat → Int32) × (Nat → Int32)))} (hb2 : ∀ b : Int32 × (Nat → Int32) × (Nat → Int32), q2 = .inl b → ∀ (H : Heap) (locs : List Loc) (ls : Array Slot), zW Z A (wX7 Z Am m_thrown m_s m_saved m_savedMany m_aside m_sent m_text m_length m_way m_crossed m_wayCost m_isWay m_next m_start m_token m_number m_letters m_isWrong b.2.1 b.2.2 m_chosen m_passed m_passedMany m_passedCost m_reach) s.heap H locs → lv_has ls 8 [(0, .ref (Am 0)), (1, .int v1), (3, .int v3), (4, .int v4), (5, .int v5), (6, .int b.1)] → W p l e rmX7_find s m args below meth c H locs 0 0 (MQ below (zQv Z (wX7 Z Am m_thrown m_s m_saved m_savedMany m_aside m_sent m_text m_length m_way m_crossed m_wayCost m_isWay m_next m_start m_token m_number m_letters m_isWrong res.1 res.2 m_chosen m_passed m_passedMany m_passedCost m_reach) A) args s 0 0 A) (F0 m 61 ls [])) (hr2 : ∀ r' , q2 = .inr r' → r' = q1) {H : Heap} {locs : List Loc} {ls : Array Slot} (hw : zW Z A (wX7 Z Am m_thrown m_s m_saved m_savedMany m_aside m_sent m_text m_length m_way m_crossed m_wayCost m_isWay m_next m_start m_token m_number m_letters m_isWrong m_sums m_steps m_chosen m_passed m_passedMany m_passedCost m_reach) s.heap H locs) (hl : lv_has ls 8 [(0, .ref (Am 0)), (1, .int v1), (3, .int v3), (4, .int v4), (5, .int v5), (6, .int v6)]) (h : uX7_find_109 v6 m_sums m_steps = some q2) : W p l e rmX7_find s m args below meth c H locs 0 0 (MQ below (zQv Z (wX7 Z Am m_thrown m_s m_saved m_savedMany m_aside m_sent m_text m_length m_way m_crossed m_wayCost m_isWay m_next m_start m_token m_number m_letters m_isWrong res.1 res.2 m_chosen m_passed m_passedMany m_passedCost m_reach) A) args s 0 0 A) (F0 m 109 ls []) := by
  unfold uX7_find_109 at h
  obtain ⟨w6, hw6, h⟩ := nm_out h
  refine r_iinc E w6 [(6, .int w6), (0, .ref (Am 0)), (1, .int v1), (3, .int v3), (4, .int v4), (5, .int v5)] hl (k := 5) rfl dX7_find_109 hw6.symm (by decide) rfl (fun ls hl => ?_)
  refine r_goto E 61 dX7_find_112 (by decide) ?_
  exact hb2 _ (Option.some.inj h).symm _ _ _ hw (lv_sub hl [1, 2, 3, 4, 5, 0] rfl)
set_option maxRecDepth 100000 in
set_option maxHeartbeats 4000000 in
theorem tX7_find_71 {Z : zT} {p : Program} {l : Launch} {e : Env} {s : State} {m : MethodId} {args : Array Value} {below : List Frame} {meth : Method} {c : Code} {A : Nat → Prop} (E : zE Z p s m args meth c RX7 cX7_find 8 none A) {Am : Nat → Nat} {v1 : Int32} {v3 : Int32} {v4 : Int32} {v5 : Int32} {v6 : Int32} {m_thrown : Int32} {m_s : (Nat → Int32)} {m_saved : (Nat → Int32)} {m_savedMany : Int32} {m_aside : (Nat → Int32)} {m_sent : (Nat → Int32)} {m_text : (Nat → Int32)} {m_length : Int32} {m_way : (Nat → Int32)} {m_crossed : Int32} {m_wayCost : Int32} {m_isWay : Int32} {m_next : Int32} {m_start : Int32} {m_token : Int32} {m_number : Int32} {m_letters : Int64} {m_isWrong : Int32} {m_chosen : Int32} {m_passed : (Nat → Int32)} {m_passedMany : Int32} {m_passedCost : Int32} {m_reach : (Nat → Int32)} {res : (Nat → Int32) × (Nat → Int32)} {q1 : (Int32 × (Nat → Int32) × (Nat → Int32)) ⊕ ((Nat → Int32) × (Nat → Int32))} (hb1 : ∀ b : Int32 × (Nat → Int32) × (Nat → Int32), q1 = .inl b → ∀ (H : Heap) (locs : List Loc) (ls : Array Slot), zW Z A (wX7 Z Am m_thrown m_s m_saved m_savedMany m_aside m_sent m_text m_length m_way m_crossed m_wayCost m_isWay m_next m_start m_token m_number m_letters m_isWrong b.2.1 b.2.2 m_chosen m_passed m_passedMany m_passedCost m_reach) s.heap H locs → lv_has ls 8 [(0, .ref (Am 0)), (1, .int v1), (3, .int v3), (4, .int v4), (5, .int b.1)] → W p l e rmX7_find s m args below meth c H locs 0 0 (MQ below (zQv Z (wX7 Z Am m_thrown m_s m_saved m_savedMany m_aside m_sent m_text m_length m_way m_crossed m_wayCost m_isWay m_next m_start m_token m_number m_letters m_isWrong res.1 res.2 m_chosen m_passed m_passedMany m_passedCost m_reach) A) args s 0 0 A) (F0 m 46 ls [])) (hr1 : ∀ r' , q1 = .inr r' → r' = res) {q2 : (Int32 × (Nat → Int32) × (Nat → Int32)) ⊕ ((Int32 × (Nat → Int32) × (Nat → Int32)) ⊕ ((Nat → Int32) × (Nat → Int32)))} (hb2 : ∀ b : Int32 × (Nat → Int32) × (Nat → Int32), q2 = .inl b → ∀ (H : Heap) (locs : List Loc) (ls : Array Slot), zW Z A (wX7 Z Am m_thrown m_s m_saved m_savedMany m_aside m_sent m_text m_length m_way m_crossed m_wayCost m_isWay m_next m_start m_token m_number m_letters m_isWrong b.2.1 b.2.2 m_chosen m_passed m_passedMany m_passedCost m_reach) s.heap H locs → lv_has ls 8 [(0, .ref (Am 0)), (1, .int v1), (3, .int v3), (4, .int v4), (5, .int v5), (6, .int b.1)] → W p l e rmX7_find s m args below meth c H locs 0 0 (MQ below (zQv Z (wX7 Z Am m_thrown m_s m_saved m_savedMany m_aside m_sent m_text m_length m_way m_crossed m_wayCost m_isWay m_next m_start m_token m_number m_letters m_isWrong res.1 res.2 m_chosen m_passed m_passedMany m_passedCost m_reach) A) args s 0 0 A) (F0 m 61 ls [])) (hr2 : ∀ r' , q2 = .inr r' → r' = q1) : ∀ (n : Nat) (v7 : Int32) (m_sums : (Nat → Int32)) (m_steps : (Nat → Int32)) (H : Heap) (locs : List Loc) (ls : Array Slot), iter (fun b : Int32 × (Nat → Int32) × (Nat → Int32) => sX7_find_71 v1 v3 v4 v6 m_s b.1 b.2.1 b.2.2) n (v7, m_sums, m_steps) = some q2 → zW Z A (wX7 Z Am m_thrown m_s m_saved m_savedMany m_aside m_sent m_text m_length m_way m_crossed m_wayCost m_isWay m_next m_start m_token m_number m_letters m_isWrong m_sums m_steps m_chosen m_passed m_passedMany m_passedCost m_reach) s.heap H locs → lv_has ls 8 [(0, .ref (Am 0)), (1, .int v1), (3, .int v3), (4, .int v4), (5, .int v5), (6, .int v6), (7, .int v7)] → W p l e rmX7_find s m args below meth c H locs 0 0 (MQ below (zQv Z (wX7 Z Am m_thrown m_s m_saved m_savedMany m_aside m_sent m_text m_length m_way m_crossed m_wayCost m_isWay m_next m_start m_token m_number m_letters m_isWrong res.1 res.2 m_chosen m_passed m_passedMany m_passedCost m_reach) A) args s 0 0 A) (F0 m 71 ls []) := by
  intro n
  induction n with
  | zero => intro v7 m_sums m_steps H locs ls h; cases h
  | succ n ih =>
    intro v7 m_sums m_steps H locs ls h hw hl
    obtain ⟨q3, h, hn3, hr3⟩ := iter_out h
    have hb3 : ∀ b : Int32 × (Nat → Int32) × (Nat → Int32), q3 = .inl b → ∀ (H : Heap) (locs : List Loc) (ls : Array Slot), zW Z A (wX7 Z Am m_thrown m_s m_saved m_savedMany m_aside m_sent m_text m_length m_way m_crossed m_wayCost m_isWay m_next m_start m_token m_number m_letters m_isWrong b.2.1 b.2.2 m_chosen m_passed m_passedMany m_passedCost m_reach) s.heap H locs → lv_has ls 8 [(0, .ref (Am 0)), (1, .int v1), (3, .int v3), (4, .int v4), (5, .int v5), (6, .int v6), (7, .int b.1)] → W p l e rmX7_find s m args below meth c H locs 0 0 (MQ below (zQv Z (wX7 Z Am m_thrown m_s m_saved m_savedMany m_aside m_sent m_text m_length m_way m_crossed m_wayCost m_isWay m_next m_start m_token m_number m_letters m_isWrong res.1 res.2 m_chosen m_passed m_passedMany m_passedCost m_reach) A) args s 0 0 A) (F0 m 71 ls []) := fun b eb H locs ls hw hl => ih b.1 b.2.1 b.2.2 H locs ls (hn3 b eb) hw hl
    replace h : sX7_find_71 v1 v3 v4 v6 m_s v7 m_sums m_steps = some q3 := h
    unfold sX7_find_71 at h
    refine r_iload E hl 6 rfl dX7_find_71 ?_
    refine r_aload_n E hl 0 rfl dX7_find_73 rfl ?_
    refine r_get E kW_X7 hw 0 rfl rfl 1 (by decide) kF_X7_7 rfl dX7_find_74 ?_
    refine r_iconst E 0 dX7_find_77 (by decide) ?_
    obtain ⟨hg5, h⟩ := gd_some h
    refine r_iald E hw 1 rfl hg5 dX7_find_78 ?_
    refine r_icmp_ge E 109 dX7_find_79 (by decide) (fun hc => ?_) (fun hc => ?_)
    · replace h := ite_t hc h
      obtain ⟨ro7, h, hro7⟩ := oi_some h
      rw [hr3 _ hro7] at h
      exact vX7_find_109 E hb1 hr1 hb2 hr2 hw (lv_sub hl [0, 1, 2, 3, 4, 5] rfl) h
    · replace h := ite_f hc h
      refine r_aload_n E hl 0 rfl dX7_find_82 rfl ?_
      refine r_iload E hl 5 rfl dX7_find_83 ?_
      obtain ⟨y8, hy8, h⟩ := bd_some h
      refine r_callVAi E hw (mX7_isItem l Z _ Am m_thrown m_s m_saved m_savedMany m_aside m_sent m_text m_length m_way m_crossed m_wayCost m_isWay m_next m_start m_token m_number m_letters m_isWrong m_sums m_steps m_chosen m_passed m_passedMany m_passedCost m_reach v6 hy8) kL_X7_235 kI_X7_isItem kS_X7_isItem kN_X7 kC_X7_isItem rfl rfl hdX7_isItem ⟨Nat.le_of_ble_eq_true rfl, Nat.le_of_ble_eq_true rfl⟩ 0 rfl rfl rfl rfl hl [] rfl (Nat.le_of_ble_eq_true rfl) dX7_find_85 ⟨Nat.zero_le _, Nat.zero_le _⟩ (fun H locs hw => ?_)
      refine r_if_eq E 109 dX7_find_88 (by decide) (fun hc => ?_) (fun hc => ?_)
      · replace h := ite_t hc h
        obtain ⟨ro9, h, hro9⟩ := oi_some h
        rw [hr3 _ hro9] at h
        exact vX7_find_109 E hb1 hr1 hb2 hr2 hw (lv_sub hl [0, 1, 2, 3, 4, 5] rfl) h
      · replace h := ite_f hc h
        refine r_aload_n E hl 0 rfl dX7_find_91 rfl ?_
        refine r_iload_n E hl 1 rfl dX7_find_92 rfl ?_
        refine r_iload E hl 5 rfl dX7_find_93 ?_
        refine r_iload_n E hl 2 rfl dX7_find_95 rfl ?_
        refine r_iload E hl 3 rfl dX7_find_96 ?_
        refine r_iload E hl 6 rfl dX7_find_98 ?_
        obtain ⟨y10, hy10, h⟩ := bd_some h
        refine r_callVAv E hw (mX7_relax l Z _ Am m_thrown m_s m_saved m_savedMany m_aside m_sent m_text m_length m_way m_crossed m_wayCost m_isWay m_next m_start m_token m_number m_letters m_isWrong m_sums m_steps m_chosen m_passed m_passedMany m_passedCost m_reach v1 v6 v3 v4 v7 hy10) kL_X7_254 kI_X7_relax kS_X7_relax kN_X7 kC_X7_relax rfl rfl hdX7_relax ⟨Nat.le_of_ble_eq_true rfl, Nat.le_of_ble_eq_true rfl⟩ 0 rfl rfl rfl rfl hl [] rfl (Nat.le_of_ble_eq_true rfl) dX7_find_100 ⟨Nat.zero_le _, Nat.zero_le _⟩ (fun H locs hw => ?_)
        obtain ⟨w11, hw11, h⟩ := nm_out h
        refine r_iinc E w11 [(7, .int w11), (0, .ref (Am 0)), (1, .int v1), (3, .int v3), (4, .int v4), (5, .int v5), (6, .int v6)] hl (k := 6) rfl dX7_find_103 hw11.symm (by decide) rfl (fun ls hl => ?_)
        refine r_goto E 71 dX7_find_106 (by decide) ?_
        exact hb3 _ (Option.some.inj h).symm _ _ _ hw (lv_sub hl [1, 2, 3, 4, 5, 6, 0] rfl)
set_option maxRecDepth 100000 in
set_option maxHeartbeats 4000000 in
theorem tX7_find_61 {Z : zT} {p : Program} {l : Launch} {e : Env} {s : State} {m : MethodId} {args : Array Value} {below : List Frame} {meth : Method} {c : Code} {A : Nat → Prop} (E : zE Z p s m args meth c RX7 cX7_find 8 none A) {Am : Nat → Nat} {v1 : Int32} {v3 : Int32} {v4 : Int32} {v5 : Int32} {m_thrown : Int32} {m_s : (Nat → Int32)} {m_saved : (Nat → Int32)} {m_savedMany : Int32} {m_aside : (Nat → Int32)} {m_sent : (Nat → Int32)} {m_text : (Nat → Int32)} {m_length : Int32} {m_way : (Nat → Int32)} {m_crossed : Int32} {m_wayCost : Int32} {m_isWay : Int32} {m_next : Int32} {m_start : Int32} {m_token : Int32} {m_number : Int32} {m_letters : Int64} {m_isWrong : Int32} {m_chosen : Int32} {m_passed : (Nat → Int32)} {m_passedMany : Int32} {m_passedCost : Int32} {m_reach : (Nat → Int32)} {res : (Nat → Int32) × (Nat → Int32)} {q1 : (Int32 × (Nat → Int32) × (Nat → Int32)) ⊕ ((Nat → Int32) × (Nat → Int32))} (hb1 : ∀ b : Int32 × (Nat → Int32) × (Nat → Int32), q1 = .inl b → ∀ (H : Heap) (locs : List Loc) (ls : Array Slot), zW Z A (wX7 Z Am m_thrown m_s m_saved m_savedMany m_aside m_sent m_text m_length m_way m_crossed m_wayCost m_isWay m_next m_start m_token m_number m_letters m_isWrong b.2.1 b.2.2 m_chosen m_passed m_passedMany m_passedCost m_reach) s.heap H locs → lv_has ls 8 [(0, .ref (Am 0)), (1, .int v1), (3, .int v3), (4, .int v4), (5, .int b.1)] → W p l e rmX7_find s m args below meth c H locs 0 0 (MQ below (zQv Z (wX7 Z Am m_thrown m_s m_saved m_savedMany m_aside m_sent m_text m_length m_way m_crossed m_wayCost m_isWay m_next m_start m_token m_number m_letters m_isWrong res.1 res.2 m_chosen m_passed m_passedMany m_passedCost m_reach) A) args s 0 0 A) (F0 m 46 ls [])) (hr1 : ∀ r' , q1 = .inr r' → r' = res) : ∀ (n : Nat) (v6 : Int32) (m_sums : (Nat → Int32)) (m_steps : (Nat → Int32)) (H : Heap) (locs : List Loc) (ls : Array Slot), iter (fun b : Int32 × (Nat → Int32) × (Nat → Int32) => sX7_find_61 v1 v3 v4 v5 m_s b.1 b.2.1 b.2.2) n (v6, m_sums, m_steps) = some q1 → zW Z A (wX7 Z Am m_thrown m_s m_saved m_savedMany m_aside m_sent m_text m_length m_way m_crossed m_wayCost m_isWay m_next m_start m_token m_number m_letters m_isWrong m_sums m_steps m_chosen m_passed m_passedMany m_passedCost m_reach) s.heap H locs → lv_has ls 8 [(0, .ref (Am 0)), (1, .int v1), (3, .int v3), (4, .int v4), (5, .int v5), (6, .int v6)] → W p l e rmX7_find s m args below meth c H locs 0 0 (MQ below (zQv Z (wX7 Z Am m_thrown m_s m_saved m_savedMany m_aside m_sent m_text m_length m_way m_crossed m_wayCost m_isWay m_next m_start m_token m_number m_letters m_isWrong res.1 res.2 m_chosen m_passed m_passedMany m_passedCost m_reach) A) args s 0 0 A) (F0 m 61 ls []) := by
  intro n
  induction n with
  | zero => intro v6 m_sums m_steps H locs ls h; cases h
  | succ n ih =>
    intro v6 m_sums m_steps H locs ls h hw hl
    obtain ⟨q2, h, hn2, hr2⟩ := iter_out h
    have hb2 : ∀ b : Int32 × (Nat → Int32) × (Nat → Int32), q2 = .inl b → ∀ (H : Heap) (locs : List Loc) (ls : Array Slot), zW Z A (wX7 Z Am m_thrown m_s m_saved m_savedMany m_aside m_sent m_text m_length m_way m_crossed m_wayCost m_isWay m_next m_start m_token m_number m_letters m_isWrong b.2.1 b.2.2 m_chosen m_passed m_passedMany m_passedCost m_reach) s.heap H locs → lv_has ls 8 [(0, .ref (Am 0)), (1, .int v1), (3, .int v3), (4, .int v4), (5, .int v5), (6, .int b.1)] → W p l e rmX7_find s m args below meth c H locs 0 0 (MQ below (zQv Z (wX7 Z Am m_thrown m_s m_saved m_savedMany m_aside m_sent m_text m_length m_way m_crossed m_wayCost m_isWay m_next m_start m_token m_number m_letters m_isWrong res.1 res.2 m_chosen m_passed m_passedMany m_passedCost m_reach) A) args s 0 0 A) (F0 m 61 ls []) := fun b eb H locs ls hw hl => ih b.1 b.2.1 b.2.2 H locs ls (hn2 b eb) hw hl
    replace h : sX7_find_61 v1 v3 v4 v5 m_s v6 m_sums m_steps = some q2 := h
    unfold sX7_find_61 at h
    refine r_iload E hl 5 rfl dX7_find_61 ?_
    refine r_bipush E 35 dX7_find_63 (by decide) ?_
    refine r_icmp_ge E 115 dX7_find_65 (by decide) (fun hc => ?_) (fun hc => ?_)
    · replace h := ite_t hc h
      obtain ⟨ro4, h, hro4⟩ := oi_some h
      rw [hr2 _ hro4] at h
      exact vX7_find_115 E hb1 hr1 hw (lv_sub hl [0, 1, 2, 3, 4] rfl) h
    · replace h := ite_f hc h
      refine r_iconst E 0 dX7_find_68 (by decide) ?_
      refine r_istore E [(7, .int (0 : Int32)), (0, .ref (Am 0)), (1, .int v1), (3, .int v3), (4, .int v4), (5, .int v5), (6, .int v6)] hl dX7_find_69 (by decide) rfl (fun ls hl => ?_)
      obtain ⟨n12, h⟩ := wh_some h
      exact tX7_find_71 E hb1 hr1 hb2 hr2 n12 _ _ _ _ _ _ h hw (lv_sub hl [1, 2, 3, 4, 5, 6, 0] rfl)
set_option maxRecDepth 100000 in
set_option maxHeartbeats 4000000 in
theorem tX7_find_46 {Z : zT} {p : Program} {l : Launch} {e : Env} {s : State} {m : MethodId} {args : Array Value} {below : List Frame} {meth : Method} {c : Code} {A : Nat → Prop} (E : zE Z p s m args meth c RX7 cX7_find 8 none A) {Am : Nat → Nat} {v1 : Int32} {v3 : Int32} {v4 : Int32} {m_thrown : Int32} {m_s : (Nat → Int32)} {m_saved : (Nat → Int32)} {m_savedMany : Int32} {m_aside : (Nat → Int32)} {m_sent : (Nat → Int32)} {m_text : (Nat → Int32)} {m_length : Int32} {m_way : (Nat → Int32)} {m_crossed : Int32} {m_wayCost : Int32} {m_isWay : Int32} {m_next : Int32} {m_start : Int32} {m_token : Int32} {m_number : Int32} {m_letters : Int64} {m_isWrong : Int32} {m_chosen : Int32} {m_passed : (Nat → Int32)} {m_passedMany : Int32} {m_passedCost : Int32} {m_reach : (Nat → Int32)} {res : (Nat → Int32) × (Nat → Int32)}  : ∀ (n : Nat) (v5 : Int32) (m_sums : (Nat → Int32)) (m_steps : (Nat → Int32)) (H : Heap) (locs : List Loc) (ls : Array Slot), iter (fun b : Int32 × (Nat → Int32) × (Nat → Int32) => sX7_find_46 v1 v3 v4 m_s b.1 b.2.1 b.2.2) n (v5, m_sums, m_steps) = some res → zW Z A (wX7 Z Am m_thrown m_s m_saved m_savedMany m_aside m_sent m_text m_length m_way m_crossed m_wayCost m_isWay m_next m_start m_token m_number m_letters m_isWrong m_sums m_steps m_chosen m_passed m_passedMany m_passedCost m_reach) s.heap H locs → lv_has ls 8 [(0, .ref (Am 0)), (1, .int v1), (3, .int v3), (4, .int v4), (5, .int v5)] → W p l e rmX7_find s m args below meth c H locs 0 0 (MQ below (zQv Z (wX7 Z Am m_thrown m_s m_saved m_savedMany m_aside m_sent m_text m_length m_way m_crossed m_wayCost m_isWay m_next m_start m_token m_number m_letters m_isWrong res.1 res.2 m_chosen m_passed m_passedMany m_passedCost m_reach) A) args s 0 0 A) (F0 m 46 ls []) := by
  intro n
  induction n with
  | zero => intro v5 m_sums m_steps H locs ls h; cases h
  | succ n ih =>
    intro v5 m_sums m_steps H locs ls h hw hl
    obtain ⟨q1, h, hn1, hr1⟩ := iter_out h
    have hb1 : ∀ b : Int32 × (Nat → Int32) × (Nat → Int32), q1 = .inl b → ∀ (H : Heap) (locs : List Loc) (ls : Array Slot), zW Z A (wX7 Z Am m_thrown m_s m_saved m_savedMany m_aside m_sent m_text m_length m_way m_crossed m_wayCost m_isWay m_next m_start m_token m_number m_letters m_isWrong b.2.1 b.2.2 m_chosen m_passed m_passedMany m_passedCost m_reach) s.heap H locs → lv_has ls 8 [(0, .ref (Am 0)), (1, .int v1), (3, .int v3), (4, .int v4), (5, .int b.1)] → W p l e rmX7_find s m args below meth c H locs 0 0 (MQ below (zQv Z (wX7 Z Am m_thrown m_s m_saved m_savedMany m_aside m_sent m_text m_length m_way m_crossed m_wayCost m_isWay m_next m_start m_token m_number m_letters m_isWrong res.1 res.2 m_chosen m_passed m_passedMany m_passedCost m_reach) A) args s 0 0 A) (F0 m 46 ls []) := fun b eb H locs ls hw hl => ih b.1 b.2.1 b.2.2 H locs ls (hn1 b eb) hw hl
    replace h : sX7_find_46 v1 v3 v4 m_s v5 m_sums m_steps = some q1 := h
    unfold sX7_find_46 at h
    refine r_iload E hl 4 rfl dX7_find_46 ?_
    refine r_aload_n E hl 0 rfl dX7_find_48 rfl ?_
    refine r_get E kW_X7 hw 0 rfl rfl 1 (by decide) kF_X7_7 rfl dX7_find_49 ?_
    refine r_iconst E 0 dX7_find_52 (by decide) ?_
    obtain ⟨hg1, h⟩ := gd_some h
    refine r_iald E hw 1 rfl hg1 dX7_find_53 ?_
    refine r_icmp_ge E 121 dX7_find_54 (by decide) (fun hc => ?_) (fun hc => ?_)
    · replace h := ite_t hc h
      obtain ⟨ro2, h, hro2⟩ := oi_some h
      rw [hr1 _ hro2] at h
      obtain rfl := Option.some.inj h
      exact r_vret E hw dX7_find_121
    · replace h := ite_f hc h
      refine r_bipush E 16 dX7_find_57 (by decide) ?_
      refine r_istore E [(6, .int (16 : Int32)), (0, .ref (Am 0)), (1, .int v1), (3, .int v3), (4, .int v4), (5, .int v5)] hl dX7_find_59 (by decide) rfl (fun ls hl => ?_)
      obtain ⟨n13, h⟩ := wh_some h
      exact tX7_find_61 E hb1 hr1 n13 _ _ _ _ _ _ h hw (lv_sub hl [1, 2, 3, 4, 5, 0] rfl)
set_option maxRecDepth 100000 in
set_option maxHeartbeats 4000000 in
theorem vX7_find_43 {Z : zT} {p : Program} {l : Launch} {e : Env} {s : State} {m : MethodId} {args : Array Value} {below : List Frame} {meth : Method} {c : Code} {A : Nat → Prop} (E : zE Z p s m args meth c RX7 cX7_find 8 none A) {Am : Nat → Nat} {v1 : Int32} {v3 : Int32} {v4 : Int32} {m_thrown : Int32} {m_s : (Nat → Int32)} {m_saved : (Nat → Int32)} {m_savedMany : Int32} {m_aside : (Nat → Int32)} {m_sent : (Nat → Int32)} {m_text : (Nat → Int32)} {m_length : Int32} {m_way : (Nat → Int32)} {m_crossed : Int32} {m_wayCost : Int32} {m_isWay : Int32} {m_next : Int32} {m_start : Int32} {m_token : Int32} {m_number : Int32} {m_letters : Int64} {m_isWrong : Int32} {m_sums : (Nat → Int32)} {m_steps : (Nat → Int32)} {m_chosen : Int32} {m_passed : (Nat → Int32)} {m_passedMany : Int32} {m_passedCost : Int32} {m_reach : (Nat → Int32)} {res : (Nat → Int32) × (Nat → Int32)}  {H : Heap} {locs : List Loc} {ls : Array Slot} (hw : zW Z A (wX7 Z Am m_thrown m_s m_saved m_savedMany m_aside m_sent m_text m_length m_way m_crossed m_wayCost m_isWay m_next m_start m_token m_number m_letters m_isWrong m_sums m_steps m_chosen m_passed m_passedMany m_passedCost m_reach) s.heap H locs) (hl : lv_has ls 8 [(0, .ref (Am 0)), (1, .int v1), (3, .int v3), (4, .int v4)]) (h : uX7_find_43 v1 v3 v4 m_s m_sums m_steps = some res) : W p l e rmX7_find s m args below meth c H locs 0 0 (MQ below (zQv Z (wX7 Z Am m_thrown m_s m_saved m_savedMany m_aside m_sent m_text m_length m_way m_crossed m_wayCost m_isWay m_next m_start m_token m_number m_letters m_isWrong res.1 res.2 m_chosen m_passed m_passedMany m_passedCost m_reach) A) args s 0 0 A) (F0 m 43 ls []) := by
  unfold uX7_find_43 at h
  refine r_iconst E 0 dX7_find_43 (by decide) ?_
  refine r_istore E [(5, .int (0 : Int32)), (0, .ref (Am 0)), (1, .int v1), (3, .int v3), (4, .int v4)] hl dX7_find_44 (by decide) rfl (fun ls hl => ?_)
  obtain ⟨n14, h⟩ := wh_some h
  exact tX7_find_46 E  n14 _ _ _ _ _ _ h hw (lv_sub hl [1, 2, 3, 4, 0] rfl)
set_option maxRecDepth 100000 in
set_option maxHeartbeats 4000000 in
theorem vX7_find_28 {Z : zT} {p : Program} {l : Launch} {e : Env} {s : State} {m : MethodId} {args : Array Value} {below : List Frame} {meth : Method} {c : Code} {A : Nat → Prop} (E : zE Z p s m args meth c RX7 cX7_find 8 none A) {Am : Nat → Nat} {v1 : Int32} {v2 : Int32} {v3 : Int32} {v4 : Int32} {v5 : Int32} {k1 : Int32} {k2 : Int32} {m_thrown : Int32} {m_s : (Nat → Int32)} {m_saved : (Nat → Int32)} {m_savedMany : Int32} {m_aside : (Nat → Int32)} {m_sent : (Nat → Int32)} {m_text : (Nat → Int32)} {m_length : Int32} {m_way : (Nat → Int32)} {m_crossed : Int32} {m_wayCost : Int32} {m_isWay : Int32} {m_next : Int32} {m_start : Int32} {m_token : Int32} {m_number : Int32} {m_letters : Int64} {m_isWrong : Int32} {m_sums : (Nat → Int32)} {m_steps : (Nat → Int32)} {m_chosen : Int32} {m_passed : (Nat → Int32)} {m_passedMany : Int32} {m_passedCost : Int32} {m_reach : (Nat → Int32)} {res : (Nat → Int32) × (Nat → Int32)} {q1 : (Int32 × (Nat → Int32) × (Nat → Int32)) ⊕ ((Nat → Int32) × (Nat → Int32))} (hb1 : ∀ b : Int32 × (Nat → Int32) × (Nat → Int32), q1 = .inl b → ∀ (H : Heap) (locs : List Loc) (ls : Array Slot), zW Z A (wX7 Z Am m_thrown m_s m_saved m_savedMany m_aside m_sent m_text m_length m_way m_crossed m_wayCost m_isWay m_next m_start m_token m_number m_letters m_isWrong b.2.1 b.2.2 m_chosen m_passed m_passedMany m_passedCost m_reach) s.heap H locs → lv_has ls 8 [(0, .ref (Am 0)), (1, .int v1), (2, .int v2), (3, .int v3), (4, .int v4), (5, .int b.1)] → W p l e rmX7_find s m args below meth c H locs 0 0 (MQ below (zQv Z (wX7 Z Am m_thrown m_s m_saved m_savedMany m_aside m_sent m_text m_length m_way m_crossed m_wayCost m_isWay m_next m_start m_token m_number m_letters m_isWrong res.1 res.2 m_chosen m_passed m_passedMany m_passedCost m_reach) A) args s 0 0 A) (F0 m 3 ls [])) (hr1 : ∀ r' , q1 = .inr r' → r' = res) {H : Heap} {locs : List Loc} {ls : Array Slot} (hw : zW Z A (wX7 Z Am m_thrown m_s m_saved m_savedMany m_aside m_sent m_text m_length m_way m_crossed m_wayCost m_isWay m_next m_start m_token m_number m_letters m_isWrong m_sums m_steps m_chosen m_passed m_passedMany m_passedCost m_reach) s.heap H locs) (hl : lv_has ls 8 [(0, .ref (Am 0)), (1, .int v1), (2, .int v2), (3, .int v3), (4, .int v4), (5, .int v5)]) (h : uX7_find_28 v5 k1 k2 m_sums m_steps = some q1) : W p l e rmX7_find s m args below meth c H locs 0 0 (MQ below (zQv Z (wX7 Z Am m_thrown m_s m_saved m_savedMany m_aside m_sent m_text m_length m_way m_crossed m_wayCost m_isWay m_next m_start m_token m_number m_letters m_isWrong res.1 res.2 m_chosen m_passed m_passedMany m_passedCost m_reach) A) args s 0 0 A) (F0 m 28 ls [.int k2, .int k1, .ref (Am 7)]) := by
  unfold uX7_find_28 at h
  obtain ⟨hg16, h⟩ := gd_some h
  refine r_iast E (wX7 Z Am m_thrown m_s m_saved m_savedMany m_aside m_sent m_text m_length m_way m_crossed m_wayCost m_isWay m_next m_start m_token m_number m_letters m_isWrong (upd m_sums (k1).toNatClampNeg k2) m_steps m_chosen m_passed m_passedMany m_passedCost m_reach) hw 7 rfl hg16 rfl dX7_find_28 (fun H locs hw => ?_)
  refine r_aload_n E hl 0 rfl dX7_find_29 rfl ?_
  refine r_get E kW_X7 hw 0 rfl rfl 19 (by decide) kF_X7_31 rfl dX7_find_30 ?_
  refine r_iload E hl 5 rfl dX7_find_33 ?_
  refine r_iconst E 0 dX7_find_35 (by decide) ?_
  obtain ⟨hg17, h⟩ := gd_some h
  refine r_iast E (wX7 Z Am m_thrown m_s m_saved m_savedMany m_aside m_sent m_text m_length m_way m_crossed m_wayCost m_isWay m_next m_start m_token m_number m_letters m_isWrong (upd m_sums (k1).toNatClampNeg k2) (upd m_steps (v5).toNatClampNeg (0 : Int32)) m_chosen m_passed m_passedMany m_passedCost m_reach) hw 8 rfl hg17 rfl dX7_find_36 (fun H locs hw => ?_)
  obtain ⟨w18, hw18, h⟩ := nm_out h
  refine r_iinc E w18 [(5, .int w18), (0, .ref (Am 0)), (1, .int v1), (2, .int v2), (3, .int v3), (4, .int v4)] hl (k := 5) rfl dX7_find_37 hw18.symm (by decide) rfl (fun ls hl => ?_)
  refine r_goto E 3 dX7_find_40 (by decide) ?_
  exact hb1 _ (Option.some.inj h).symm _ _ _ hw (lv_sub hl [1, 2, 3, 4, 5, 0] rfl)
set_option maxRecDepth 100000 in
set_option maxHeartbeats 4000000 in
theorem tX7_find_3 {Z : zT} {p : Program} {l : Launch} {e : Env} {s : State} {m : MethodId} {args : Array Value} {below : List Frame} {meth : Method} {c : Code} {A : Nat → Prop} (E : zE Z p s m args meth c RX7 cX7_find 8 none A) {Am : Nat → Nat} {v1 : Int32} {v2 : Int32} {v3 : Int32} {v4 : Int32} {m_thrown : Int32} {m_s : (Nat → Int32)} {m_saved : (Nat → Int32)} {m_savedMany : Int32} {m_aside : (Nat → Int32)} {m_sent : (Nat → Int32)} {m_text : (Nat → Int32)} {m_length : Int32} {m_way : (Nat → Int32)} {m_crossed : Int32} {m_wayCost : Int32} {m_isWay : Int32} {m_next : Int32} {m_start : Int32} {m_token : Int32} {m_number : Int32} {m_letters : Int64} {m_isWrong : Int32} {m_chosen : Int32} {m_passed : (Nat → Int32)} {m_passedMany : Int32} {m_passedCost : Int32} {m_reach : (Nat → Int32)} {res : (Nat → Int32) × (Nat → Int32)}  : ∀ (n : Nat) (v5 : Int32) (m_sums : (Nat → Int32)) (m_steps : (Nat → Int32)) (H : Heap) (locs : List Loc) (ls : Array Slot), iter (fun b : Int32 × (Nat → Int32) × (Nat → Int32) => sX7_find_3 v1 v2 v3 v4 m_s b.1 b.2.1 b.2.2) n (v5, m_sums, m_steps) = some res → zW Z A (wX7 Z Am m_thrown m_s m_saved m_savedMany m_aside m_sent m_text m_length m_way m_crossed m_wayCost m_isWay m_next m_start m_token m_number m_letters m_isWrong m_sums m_steps m_chosen m_passed m_passedMany m_passedCost m_reach) s.heap H locs → lv_has ls 8 [(0, .ref (Am 0)), (1, .int v1), (2, .int v2), (3, .int v3), (4, .int v4), (5, .int v5)] → W p l e rmX7_find s m args below meth c H locs 0 0 (MQ below (zQv Z (wX7 Z Am m_thrown m_s m_saved m_savedMany m_aside m_sent m_text m_length m_way m_crossed m_wayCost m_isWay m_next m_start m_token m_number m_letters m_isWrong res.1 res.2 m_chosen m_passed m_passedMany m_passedCost m_reach) A) args s 0 0 A) (F0 m 3 ls []) := by
  intro n
  induction n with
  | zero => intro v5 m_sums m_steps H locs ls h; cases h
  | succ n ih =>
    intro v5 m_sums m_steps H locs ls h hw hl
    obtain ⟨q1, h, hn1, hr1⟩ := iter_out h
    have hb1 : ∀ b : Int32 × (Nat → Int32) × (Nat → Int32), q1 = .inl b → ∀ (H : Heap) (locs : List Loc) (ls : Array Slot), zW Z A (wX7 Z Am m_thrown m_s m_saved m_savedMany m_aside m_sent m_text m_length m_way m_crossed m_wayCost m_isWay m_next m_start m_token m_number m_letters m_isWrong b.2.1 b.2.2 m_chosen m_passed m_passedMany m_passedCost m_reach) s.heap H locs → lv_has ls 8 [(0, .ref (Am 0)), (1, .int v1), (2, .int v2), (3, .int v3), (4, .int v4), (5, .int b.1)] → W p l e rmX7_find s m args below meth c H locs 0 0 (MQ below (zQv Z (wX7 Z Am m_thrown m_s m_saved m_savedMany m_aside m_sent m_text m_length m_way m_crossed m_wayCost m_isWay m_next m_start m_token m_number m_letters m_isWrong res.1 res.2 m_chosen m_passed m_passedMany m_passedCost m_reach) A) args s 0 0 A) (F0 m 3 ls []) := fun b eb H locs ls hw hl => ih b.1 b.2.1 b.2.2 H locs ls (hn1 b eb) hw hl
    replace h : sX7_find_3 v1 v2 v3 v4 m_s v5 m_sums m_steps = some q1 := h
    unfold sX7_find_3 at h
    refine r_iload E hl 5 rfl dX7_find_3 ?_
    refine r_bipush E 10 dX7_find_5 (by decide) ?_
    refine r_icmp_ge E 43 dX7_find_7 (by decide) (fun hc => ?_) (fun hc => ?_)
    · replace h := ite_t hc h
      obtain ⟨ro15, h, hro15⟩ := oi_some h
      rw [hr1 _ hro15] at h
      exact vX7_find_43 E  hw (lv_sub hl [0, 1, 3, 4] rfl) h
    · replace h := ite_f hc h
      refine r_aload_n E hl 0 rfl dX7_find_10 rfl ?_
      refine r_get E kW_X7 hw 0 rfl rfl 18 (by decide) kF_X7_28 rfl dX7_find_11 ?_
      refine r_iload E hl 5 rfl dX7_find_14 ?_
      refine r_iload E hl 5 rfl dX7_find_16 ?_
      refine r_iload_n E hl 2 rfl dX7_find_18 rfl ?_
      refine r_icmp_ne E 26 dX7_find_19 (by decide) (fun hc => ?_) (fun hc => ?_)
      · replace h := ite_f hc h
        refine r_ldc E (1000000) kQ_X7_253 dX7_find_26 ?_
        exact vX7_find_28 E hb1 hr1 hw hl h
      · replace h := ite_t hc h
        refine r_iconst E 0 dX7_find_22 (by decide) ?_
        refine r_goto E 28 dX7_find_23 (by decide) ?_
        exact vX7_find_28 E hb1 hr1 hw hl h
set_option maxRecDepth 100000 in
set_option maxHeartbeats 4000000 in
theorem mX7_find (l : Launch) (Z : zT) (sz : Nat) (Am : Nat → Nat) (m_thrown : Int32) (m_s : (Nat → Int32)) (m_saved : (Nat → Int32)) (m_savedMany : Int32) (m_aside : (Nat → Int32)) (m_sent : (Nat → Int32)) (m_text : (Nat → Int32)) (m_length : Int32) (m_way : (Nat → Int32)) (m_crossed : Int32) (m_wayCost : Int32) (m_isWay : Int32) (m_next : Int32) (m_start : Int32) (m_token : Int32) (m_number : Int32) (m_letters : Int64) (m_isWrong : Int32) (m_sums : (Nat → Int32)) (m_steps : (Nat → Int32)) (m_chosen : Int32) (m_passed : (Nat → Int32)) (m_passedMany : Int32) (m_passedCost : Int32) (m_reach : (Nat → Int32)) (v1 : Int32) (v2 : Int32) (v3 : Int32) (v4 : Int32) {res : (Nat → Int32) × (Nat → Int32)} (h : fX7_find v1 v2 v3 v4 m_s m_sums m_steps = some res) : Met l yX7_find (Cond.code yX7_find cX7_find 8 none :: zWs) rmX7_find (zP Z (wX7 Z Am m_thrown m_s m_saved m_savedMany m_aside m_sent m_text m_length m_way m_crossed m_wayCost m_isWay m_next m_start m_token m_number m_letters m_isWrong m_sums m_steps m_chosen m_passed m_passedMany m_passedCost m_reach) sz [.ref (Am 0), .int v1, .int v2, .int v3, .int v4]) (zQv Z (wX7 Z Am m_thrown m_s m_saved m_savedMany m_aside m_sent m_text m_length m_way m_crossed m_wayCost m_isWay m_next m_start m_token m_number m_letters m_isWrong res.1 res.2 m_chosen m_passed m_passedMany m_passedCost m_reach) (va_A (wX7 Z Am m_thrown m_s m_saved m_savedMany m_aside m_sent m_text m_length m_way m_crossed m_wayCost m_isWay m_next m_start m_token m_number m_letters m_isWrong m_sums m_steps m_chosen m_passed m_passedMany m_passedCost m_reach) sz)) 0 0 (va_A (wX7 Z Am m_thrown m_s m_saved m_savedMany m_aside m_sent m_text m_length m_way m_crossed m_wayCost m_isWay m_next m_start m_token m_number m_letters m_isWrong m_sums m_steps m_chosen m_passed m_passedMany m_passedCost m_reach) sz) := by
  refine zMet (own := RX7) (fun A => zQv Z (wX7 Z Am m_thrown m_s m_saved m_savedMany m_aside m_sent m_text m_length m_way m_crossed m_wayCost m_isWay m_next m_start m_token m_number m_letters m_isWrong res.1 res.2 m_chosen m_passed m_passedMany m_passedCost m_reach) A) (by decide) rfl (Nat.le_of_ble_eq_true rfl) ?_
  intro p e s m args below meth c ls A E hw hl
  unfold fX7_find at h
  refine r_iconst E 0 dX7_find_0 (by decide) ?_
  refine r_istore E [(5, .int (0 : Int32)), (0, .ref (Am 0)), (1, .int v1), (2, .int v2), (3, .int v3), (4, .int v4)] hl dX7_find_1 (by decide) rfl (fun ls hl => ?_)
  obtain ⟨n19, h⟩ := wh_some h
  exact tX7_find_3 E  n19 _ _ _ _ _ _ h hw (lv_sub hl [1, 2, 3, 4, 5, 0] rfl)
abbrev rmX7_choose : Room := { frames := 4, cells := 0, slots := 0, locals := 95 }

set_option maxRecDepth 100000 in
set_option maxHeartbeats 4000000 in
theorem vX7_choose_152 {Z : zT} {p : Program} {l : Launch} {e : Env} {s : State} {m : MethodId} {args : Array Value} {below : List Frame} {meth : Method} {c : Code} {A : Nat → Prop} (E : zE Z p s m args meth c RX7 cX7_choose 8 (some .int) A) {Am : Nat → Nat} {v1 : Int32} {v2 : Int32} {v3 : Int32} {v4 : Int32} {v5 : Int32} {m_thrown : Int32} {m_s : (Nat → Int32)} {m_saved : (Nat → Int32)} {m_savedMany : Int32} {m_aside : (Nat → Int32)} {m_sent : (Nat → Int32)} {m_text : (Nat → Int32)} {m_length : Int32} {m_way : (Nat → Int32)} {m_crossed : Int32} {m_wayCost : Int32} {m_isWay : Int32} {m_next : Int32} {m_start : Int32} {m_token : Int32} {m_number : Int32} {m_letters : Int64} {m_isWrong : Int32} {m_sums : (Nat → Int32)} {m_steps : (Nat → Int32)} {m_chosen : Int32} {m_passed : (Nat → Int32)} {m_passedMany : Int32} {m_passedCost : Int32} {m_reach : (Nat → Int32)} {res : Int32 × Int32} {q1 : (Int32) ⊕ (Int32 × Int32)} (hb1 : ∀ b : Int32, q1 = .inl b → ∀ (H : Heap) (locs : List Loc) (ls : Array Slot), zW Z A (wX7 Z Am m_thrown m_s m_saved m_savedMany m_aside m_sent m_text m_length m_way m_crossed m_wayCost m_isWay m_next m_start m_token m_number m_letters m_isWrong m_sums m_steps m_chosen m_passed m_passedMany m_passedCost m_reach) s.heap H locs → lv_has ls 8 [(0, .ref (Am 0)), (1, .int v1), (2, .int v2), (3, .int v3), (4, .int v4), (5, .int b)] → W p l e rmX7_choose s m args below meth c H locs 0 0 (MQ below (zQi Z res.1 (wX7 Z Am m_thrown m_s m_saved m_savedMany m_aside m_sent m_text m_length m_way m_crossed m_wayCost m_isWay m_next m_start m_token m_number m_letters m_isWrong m_sums m_steps res.2 m_passed m_passedMany m_passedCost m_reach) A) args s 0 0 A) (F0 m 17 ls [])) (hr1 : ∀ r' , q1 = .inr r' → r' = res) {H : Heap} {locs : List Loc} {ls : Array Slot} (hw : zW Z A (wX7 Z Am m_thrown m_s m_saved m_savedMany m_aside m_sent m_text m_length m_way m_crossed m_wayCost m_isWay m_next m_start m_token m_number m_letters m_isWrong m_sums m_steps m_chosen m_passed m_passedMany m_passedCost m_reach) s.heap H locs) (hl : lv_has ls 8 [(0, .ref (Am 0)), (1, .int v1), (2, .int v2), (3, .int v3), (4, .int v4), (5, .int v5)]) (h : uX7_choose_152 v5 = some q1) : W p l e rmX7_choose s m args below meth c H locs 0 0 (MQ below (zQi Z res.1 (wX7 Z Am m_thrown m_s m_saved m_savedMany m_aside m_sent m_text m_length m_way m_crossed m_wayCost m_isWay m_next m_start m_token m_number m_letters m_isWrong m_sums m_steps res.2 m_passed m_passedMany m_passedCost m_reach) A) args s 0 0 A) (F0 m 152 ls []) := by
  unfold uX7_choose_152 at h
  obtain ⟨w4, hw4, h⟩ := nm_out h
  refine r_iinc E w4 [(5, .int w4), (0, .ref (Am 0)), (1, .int v1), (2, .int v2), (3, .int v3), (4, .int v4)] hl (k := 5) rfl dX7_choose_152 hw4.symm (by decide) rfl (fun ls hl => ?_)
  refine r_goto E 17 dX7_choose_155 (by decide) ?_
  exact hb1 _ (Option.some.inj h).symm _ _ _ hw (lv_sub hl [1, 2, 3, 4, 5, 0] rfl)
set_option maxRecDepth 100000 in
set_option maxHeartbeats 4000000 in
theorem vX7_choose_146 {Z : zT} {p : Program} {l : Launch} {e : Env} {s : State} {m : MethodId} {args : Array Value} {below : List Frame} {meth : Method} {c : Code} {A : Nat → Prop} (E : zE Z p s m args meth c RX7 cX7_choose 8 (some .int) A) {Am : Nat → Nat} {v1 : Int32} {v2 : Int32} {v3 : Int32} {v4 : Int32} {v5 : Int32} {v6 : Int32} {m_thrown : Int32} {m_s : (Nat → Int32)} {m_saved : (Nat → Int32)} {m_savedMany : Int32} {m_aside : (Nat → Int32)} {m_sent : (Nat → Int32)} {m_text : (Nat → Int32)} {m_length : Int32} {m_way : (Nat → Int32)} {m_crossed : Int32} {m_wayCost : Int32} {m_isWay : Int32} {m_next : Int32} {m_start : Int32} {m_token : Int32} {m_number : Int32} {m_letters : Int64} {m_isWrong : Int32} {m_sums : (Nat → Int32)} {m_steps : (Nat → Int32)} {m_chosen : Int32} {m_passed : (Nat → Int32)} {m_passedMany : Int32} {m_passedCost : Int32} {m_reach : (Nat → Int32)} {res : Int32 × Int32} {q1 : (Int32) ⊕ (Int32 × Int32)} (hb1 : ∀ b : Int32, q1 = .inl b → ∀ (H : Heap) (locs : List Loc) (ls : Array Slot), zW Z A (wX7 Z Am m_thrown m_s m_saved m_savedMany m_aside m_sent m_text m_length m_way m_crossed m_wayCost m_isWay m_next m_start m_token m_number m_letters m_isWrong m_sums m_steps m_chosen m_passed m_passedMany m_passedCost m_reach) s.heap H locs → lv_has ls 8 [(0, .ref (Am 0)), (1, .int v1), (2, .int v2), (3, .int v3), (4, .int v4), (5, .int b)] → W p l e rmX7_choose s m args below meth c H locs 0 0 (MQ below (zQi Z res.1 (wX7 Z Am m_thrown m_s m_saved m_savedMany m_aside m_sent m_text m_length m_way m_crossed m_wayCost m_isWay m_next m_start m_token m_number m_letters m_isWrong m_sums m_steps res.2 m_passed m_passedMany m_passedCost m_reach) A) args s 0 0 A) (F0 m 17 ls [])) (hr1 : ∀ r' , q1 = .inr r' → r' = res) {q2 : (Int32) ⊕ ((Int32) ⊕ (Int32 × Int32))} (hb2 : ∀ b : Int32, q2 = .inl b → ∀ (H : Heap) (locs : List Loc) (ls : Array Slot), zW Z A (wX7 Z Am m_thrown m_s m_saved m_savedMany m_aside m_sent m_text m_length m_way m_crossed m_wayCost m_isWay m_next m_start m_token m_number m_letters m_isWrong m_sums m_steps m_chosen m_passed m_passedMany m_passedCost m_reach) s.heap H locs → lv_has ls 8 [(0, .ref (Am 0)), (1, .int v1), (2, .int v2), (3, .int v3), (4, .int v4), (5, .int v5), (6, .int b)] → W p l e rmX7_choose s m args below meth c H locs 0 0 (MQ below (zQi Z res.1 (wX7 Z Am m_thrown m_s m_saved m_savedMany m_aside m_sent m_text m_length m_way m_crossed m_wayCost m_isWay m_next m_start m_token m_number m_letters m_isWrong m_sums m_steps res.2 m_passed m_passedMany m_passedCost m_reach) A) args s 0 0 A) (F0 m 32 ls [])) (hr2 : ∀ r' , q2 = .inr r' → r' = q1) {H : Heap} {locs : List Loc} {ls : Array Slot} (hw : zW Z A (wX7 Z Am m_thrown m_s m_saved m_savedMany m_aside m_sent m_text m_length m_way m_crossed m_wayCost m_isWay m_next m_start m_token m_number m_letters m_isWrong m_sums m_steps m_chosen m_passed m_passedMany m_passedCost m_reach) s.heap H locs) (hl : lv_has ls 8 [(0, .ref (Am 0)), (1, .int v1), (2, .int v2), (3, .int v3), (4, .int v4), (5, .int v5), (6, .int v6)]) (h : uX7_choose_146 v6 = some q2) : W p l e rmX7_choose s m args below meth c H locs 0 0 (MQ below (zQi Z res.1 (wX7 Z Am m_thrown m_s m_saved m_savedMany m_aside m_sent m_text m_length m_way m_crossed m_wayCost m_isWay m_next m_start m_token m_number m_letters m_isWrong m_sums m_steps res.2 m_passed m_passedMany m_passedCost m_reach) A) args s 0 0 A) (F0 m 146 ls []) := by
  unfold uX7_choose_146 at h
  obtain ⟨w6, hw6, h⟩ := nm_out h
  refine r_iinc E w6 [(6, .int w6), (0, .ref (Am 0)), (1, .int v1), (2, .int v2), (3, .int v3), (4, .int v4), (5, .int v5)] hl (k := 6) rfl dX7_choose_146 hw6.symm (by decide) rfl (fun ls hl => ?_)
  refine r_goto E 32 dX7_choose_149 (by decide) ?_
  exact hb2 _ (Option.some.inj h).symm _ _ _ hw (lv_sub hl [1, 2, 3, 4, 5, 6, 0] rfl)
set_option maxRecDepth 100000 in
set_option maxHeartbeats 4000000 in
theorem vX7_choose_137 {Z : zT} {p : Program} {l : Launch} {e : Env} {s : State} {m : MethodId} {args : Array Value} {below : List Frame} {meth : Method} {c : Code} {A : Nat → Prop} (E : zE Z p s m args meth c RX7 cX7_choose 8 (some .int) A) {Am : Nat → Nat} {v5 : Int32} {v6 : Int32} {m_thrown : Int32} {m_s : (Nat → Int32)} {m_saved : (Nat → Int32)} {m_savedMany : Int32} {m_aside : (Nat → Int32)} {m_sent : (Nat → Int32)} {m_text : (Nat → Int32)} {m_length : Int32} {m_way : (Nat → Int32)} {m_crossed : Int32} {m_wayCost : Int32} {m_isWay : Int32} {m_next : Int32} {m_start : Int32} {m_token : Int32} {m_number : Int32} {m_letters : Int64} {m_isWrong : Int32} {m_sums : (Nat → Int32)} {m_steps : (Nat → Int32)} {m_chosen : Int32} {m_passed : (Nat → Int32)} {m_passedMany : Int32} {m_passedCost : Int32} {m_reach : (Nat → Int32)} {res : Int32 × Int32}  {H : Heap} {locs : List Loc} {ls : Array Slot} (hw : zW Z A (wX7 Z Am m_thrown m_s m_saved m_savedMany m_aside m_sent m_text m_length m_way m_crossed m_wayCost m_isWay m_next m_start m_token m_number m_letters m_isWrong m_sums m_steps m_chosen m_passed m_passedMany m_passedCost m_reach) s.heap H locs) (hl : lv_has ls 8 [(0, .ref (Am 0)), (5, .int v5), (6, .int v6)]) (h : uX7_choose_137 v5 v6 = some res) : W p l e rmX7_choose s m args below meth c H locs 0 0 (MQ below (zQi Z res.1 (wX7 Z Am m_thrown m_s m_saved m_savedMany m_aside m_sent m_text m_length m_way m_crossed m_wayCost m_isWay m_next m_start m_token m_number m_letters m_isWrong m_sums m_steps res.2 m_passed m_passedMany m_passedCost m_reach) A) args s 0 0 A) (F0 m 137 ls []) := by
  unfold uX7_choose_137 at h
  refine r_aload_n E hl 0 rfl dX7_choose_137 rfl ?_
  refine r_iload E hl 1 rfl dX7_choose_138 ?_
  refine r_put E (wX7 Z Am m_thrown m_s m_saved m_savedMany m_aside m_sent m_text m_length m_way m_crossed m_wayCost m_isWay m_next m_start m_token m_number m_letters m_isWrong m_sums m_steps v5 m_passed m_passedMany m_passedCost m_reach) kW_X7 tyX7_ok nmX7 hw 0 rfl rfl 20 (by decide) kF_X7_265 rfl rfl rfl (Nat.le_of_ble_eq_true rfl) rfl dX7_choose_140 (fun H locs hw => ?_)
  refine r_iload E hl 2 rfl dX7_choose_143 ?_
  obtain rfl := Option.some.inj h
  exact r_iret E hw dX7_choose_145
set_option maxRecDepth 100000 in
set_option maxHeartbeats 4000000 in
theorem vX7_choose_75 {Z : zT} {p : Program} {l : Launch} {e : Env} {s : State} {m : MethodId} {args : Array Value} {below : List Frame} {meth : Method} {c : Code} {A : Nat → Prop} (E : zE Z p s m args meth c RX7 cX7_choose 8 (some .int) A) {Am : Nat → Nat} {v1 : Int32} {v2 : Int32} {v3 : Int32} {v4 : Int32} {v5 : Int32} {v6 : Int32} {k0 : Int32} {m_thrown : Int32} {m_s : (Nat → Int32)} {m_saved : (Nat → Int32)} {m_savedMany : Int32} {m_aside : (Nat → Int32)} {m_sent : (Nat → Int32)} {m_text : (Nat → Int32)} {m_length : Int32} {m_way : (Nat → Int32)} {m_crossed : Int32} {m_wayCost : Int32} {m_isWay : Int32} {m_next : Int32} {m_start : Int32} {m_token : Int32} {m_number : Int32} {m_letters : Int64} {m_isWrong : Int32} {m_sums : (Nat → Int32)} {m_steps : (Nat → Int32)} {m_chosen : Int32} {m_passed : (Nat → Int32)} {m_passedMany : Int32} {m_passedCost : Int32} {m_reach : (Nat → Int32)} {res : Int32 × Int32} {q1 : (Int32) ⊕ (Int32 × Int32)} (hb1 : ∀ b : Int32, q1 = .inl b → ∀ (H : Heap) (locs : List Loc) (ls : Array Slot), zW Z A (wX7 Z Am m_thrown m_s m_saved m_savedMany m_aside m_sent m_text m_length m_way m_crossed m_wayCost m_isWay m_next m_start m_token m_number m_letters m_isWrong m_sums m_steps m_chosen m_passed m_passedMany m_passedCost m_reach) s.heap H locs → lv_has ls 8 [(0, .ref (Am 0)), (1, .int v1), (2, .int v2), (3, .int v3), (4, .int v4), (5, .int b)] → W p l e rmX7_choose s m args below meth c H locs 0 0 (MQ below (zQi Z res.1 (wX7 Z Am m_thrown m_s m_saved m_savedMany m_aside m_sent m_text m_length m_way m_crossed m_wayCost m_isWay m_next m_start m_token m_number m_letters m_isWrong m_sums m_steps res.2 m_passed m_passedMany m_passedCost m_reach) A) args s 0 0 A) (F0 m 17 ls [])) (hr1 : ∀ r' , q1 = .inr r' → r' = res) {q2 : (Int32) ⊕ ((Int32) ⊕ (Int32 × Int32))} (hb2 : ∀ b : Int32, q2 = .inl b → ∀ (H : Heap) (locs : List Loc) (ls : Array Slot), zW Z A (wX7 Z Am m_thrown m_s m_saved m_savedMany m_aside m_sent m_text m_length m_way m_crossed m_wayCost m_isWay m_next m_start m_token m_number m_letters m_isWrong m_sums m_steps m_chosen m_passed m_passedMany m_passedCost m_reach) s.heap H locs → lv_has ls 8 [(0, .ref (Am 0)), (1, .int v1), (2, .int v2), (3, .int v3), (4, .int v4), (5, .int v5), (6, .int b)] → W p l e rmX7_choose s m args below meth c H locs 0 0 (MQ below (zQi Z res.1 (wX7 Z Am m_thrown m_s m_saved m_savedMany m_aside m_sent m_text m_length m_way m_crossed m_wayCost m_isWay m_next m_start m_token m_number m_letters m_isWrong m_sums m_steps res.2 m_passed m_passedMany m_passedCost m_reach) A) args s 0 0 A) (F0 m 32 ls [])) (hr2 : ∀ r' , q2 = .inr r' → r' = q1) {H : Heap} {locs : List Loc} {ls : Array Slot} (hw : zW Z A (wX7 Z Am m_thrown m_s m_saved m_savedMany m_aside m_sent m_text m_length m_way m_crossed m_wayCost m_isWay m_next m_start m_token m_number m_letters m_isWrong m_sums m_steps m_chosen m_passed m_passedMany m_passedCost m_reach) s.heap H locs) (hl : lv_has ls 8 [(0, .ref (Am 0)), (1, .int v1), (2, .int v2), (3, .int v3), (4, .int v4), (5, .int v5), (6, .int v6)]) (h : uX7_choose_75 v1 v2 v5 v6 k0 m_s m_sums m_steps = some q2) : W p l e rmX7_choose s m args below meth c H locs 0 0 (MQ below (zQi Z res.1 (wX7 Z Am m_thrown m_s m_saved m_savedMany m_aside m_sent m_text m_length m_way m_crossed m_wayCost m_isWay m_next m_start m_token m_number m_letters m_isWrong m_sums m_steps res.2 m_passed m_passedMany m_passedCost m_reach) A) args s 0 0 A) (F0 m 75 ls [.int k0]) := by
  unfold uX7_choose_75 at h
  refine r_istore E [(7, .int k0), (0, .ref (Am 0)), (1, .int v1), (2, .int v2), (3, .int v3), (4, .int v4), (5, .int v5), (6, .int v6)] hl dX7_choose_75 (by decide) rfl (fun ls hl => ?_)
  refine r_iload E hl 0 rfl dX7_choose_77 ?_
  refine r_if_eq E 146 dX7_choose_79 (by decide) (fun hc => ?_) (fun hc => ?_)
  · replace h := ite_t hc h
    exact vX7_choose_146 E hb1 hr1 hb2 hr2 hw (lv_sub hl [1, 2, 3, 4, 5, 6, 7] rfl) h
  · replace h := ite_f hc h
    refine r_aload_n E hl 1 rfl dX7_choose_82 rfl ?_
    refine r_get E kW_X7 hw 0 rfl rfl 18 (by decide) kF_X7_28 rfl dX7_choose_83 ?_
    refine r_iload E hl 6 rfl dX7_choose_86 ?_
    obtain ⟨hg7, h⟩ := gd_some h
    refine r_iald E hw 7 rfl hg7 dX7_choose_88 ?_
    refine r_ldc E (1000000) kQ_X7_253 dX7_choose_89 ?_
    refine r_icmp_ge E 146 dX7_choose_91 (by decide) (fun hc => ?_) (fun hc => ?_)
    · replace h := ite_t hc h
      exact vX7_choose_146 E hb1 hr1 hb2 hr2 hw (lv_sub hl [1, 2, 3, 4, 5, 6, 7] rfl) h
    · replace h := ite_f hc h
      refine r_aload_n E hl 1 rfl dX7_choose_94 rfl ?_
      refine r_get E kW_X7 hw 0 rfl rfl 18 (by decide) kF_X7_28 rfl dX7_choose_95 ?_
      refine r_iload E hl 6 rfl dX7_choose_98 ?_
      obtain ⟨hg8, h⟩ := gd_some h
      refine r_iald E hw 7 rfl hg8 dX7_choose_100 ?_
      refine r_aload_n E hl 1 rfl dX7_choose_101 rfl ?_
      refine r_iload_n E hl 2 rfl dX7_choose_102 rfl ?_
      refine r_iload E hl 7 rfl dX7_choose_103 ?_
      refine r_iconst E 2 dX7_choose_105 (by decide) ?_
      obtain ⟨y9, hy9, h⟩ := bd_some h
      refine r_callVAi E hw (mX7_fact l Z _ Am m_thrown m_s m_saved m_savedMany m_aside m_sent m_text m_length m_way m_crossed m_wayCost m_isWay m_next m_start m_token m_number m_letters m_isWrong m_sums m_steps m_chosen m_passed m_passedMany m_passedCost m_reach v1 v6 (2 : Int32) hy9) kL_X7_73 kI_X7_fact kS_X7_fact kN_X7 kC_X7_fact rfl rfl hdX7_fact ⟨Nat.le_of_ble_eq_true rfl, Nat.le_of_ble_eq_true rfl⟩ 0 rfl rfl rfl rfl hl [.int (m_sums (v5).toNatClampNeg)] rfl (Nat.le_of_ble_eq_true rfl) dX7_choose_106 ⟨Nat.zero_le _, Nat.zero_le _⟩ (fun H locs hw => ?_)
      refine r_iadd E dX7_choose_109 ?_
      refine r_aload_n E hl 1 rfl dX7_choose_110 rfl ?_
      refine r_get E kW_X7 hw 0 rfl rfl 18 (by decide) kF_X7_28 rfl dX7_choose_111 ?_
      refine r_iload_n E hl 3 rfl dX7_choose_114 rfl ?_
      obtain ⟨hg10, h⟩ := gd_some h
      refine r_iald E hw 7 rfl hg10 dX7_choose_115 ?_
      refine r_icmp_ne E 146 dX7_choose_116 (by decide) (fun hc => ?_) (fun hc => ?_)
      · replace h := ite_f hc h
        exact vX7_choose_146 E hb1 hr1 hb2 hr2 hw (lv_sub hl [1, 2, 3, 4, 5, 6, 7] rfl) h
      · replace h := ite_t hc h
        refine r_aload_n E hl 1 rfl dX7_choose_119 rfl ?_
        refine r_get E kW_X7 hw 0 rfl rfl 19 (by decide) kF_X7_31 rfl dX7_choose_120 ?_
        refine r_iload E hl 6 rfl dX7_choose_123 ?_
        obtain ⟨hg11, h⟩ := gd_some h
        refine r_iald E hw 8 rfl hg11 dX7_choose_125 ?_
        refine r_iconst E 1 dX7_choose_126 (by decide) ?_
        refine r_iadd E dX7_choose_127 ?_
        refine r_aload_n E hl 1 rfl dX7_choose_128 rfl ?_
        refine r_get E kW_X7 hw 0 rfl rfl 19 (by decide) kF_X7_31 rfl dX7_choose_129 ?_
        refine r_iload_n E hl 3 rfl dX7_choose_132 rfl ?_
        obtain ⟨hg12, h⟩ := gd_some h
        refine r_iald E hw 8 rfl hg12 dX7_choose_133 ?_
        refine r_icmp_ne E 146 dX7_choose_134 (by decide) (fun hc => ?_) (fun hc => ?_)
        · replace h := ite_f hc h
          exact vX7_choose_146 E hb1 hr1 hb2 hr2 hw (lv_sub hl [1, 2, 3, 4, 5, 6, 7] rfl) h
        · replace h := ite_t hc h
          obtain ⟨ro14, h, hro14⟩ := oi_some h
          rw [hr2 _ hro14] at h
          obtain ⟨ro13, h, hro13⟩ := oi_some h
          rw [hr1 _ hro13] at h
          exact vX7_choose_137 E  hw (lv_sub hl [1, 6, 7] rfl) h
set_option maxRecDepth 100000 in
set_option maxHeartbeats 4000000 in
theorem vX7_choose_74 {Z : zT} {p : Program} {l : Launch} {e : Env} {s : State} {m : MethodId} {args : Array Value} {below : List Frame} {meth : Method} {c : Code} {A : Nat → Prop} (E : zE Z p s m args meth c RX7 cX7_choose 8 (some .int) A) {Am : Nat → Nat} {v1 : Int32} {v2 : Int32} {v3 : Int32} {v4 : Int32} {v5 : Int32} {v6 : Int32} {m_thrown : Int32} {m_s : (Nat → Int32)} {m_saved : (Nat → Int32)} {m_savedMany : Int32} {m_aside : (Nat → Int32)} {m_sent : (Nat → Int32)} {m_text : (Nat → Int32)} {m_length : Int32} {m_way : (Nat → Int32)} {m_crossed : Int32} {m_wayCost : Int32} {m_isWay : Int32} {m_next : Int32} {m_start : Int32} {m_token : Int32} {m_number : Int32} {m_letters : Int64} {m_isWrong : Int32} {m_sums : (Nat → Int32)} {m_steps : (Nat → Int32)} {m_chosen : Int32} {m_passed : (Nat → Int32)} {m_passedMany : Int32} {m_passedCost : Int32} {m_reach : (Nat → Int32)} {res : Int32 × Int32} {q1 : (Int32) ⊕ (Int32 × Int32)} (hb1 : ∀ b : Int32, q1 = .inl b → ∀ (H : Heap) (locs : List Loc) (ls : Array Slot), zW Z A (wX7 Z Am m_thrown m_s m_saved m_savedMany m_aside m_sent m_text m_length m_way m_crossed m_wayCost m_isWay m_next m_start m_token m_number m_letters m_isWrong m_sums m_steps m_chosen m_passed m_passedMany m_passedCost m_reach) s.heap H locs → lv_has ls 8 [(0, .ref (Am 0)), (1, .int v1), (2, .int v2), (3, .int v3), (4, .int v4), (5, .int b)] → W p l e rmX7_choose s m args below meth c H locs 0 0 (MQ below (zQi Z res.1 (wX7 Z Am m_thrown m_s m_saved m_savedMany m_aside m_sent m_text m_length m_way m_crossed m_wayCost m_isWay m_next m_start m_token m_number m_letters m_isWrong m_sums m_steps res.2 m_passed m_passedMany m_passedCost m_reach) A) args s 0 0 A) (F0 m 17 ls [])) (hr1 : ∀ r' , q1 = .inr r' → r' = res) {q2 : (Int32) ⊕ ((Int32) ⊕ (Int32 × Int32))} (hb2 : ∀ b : Int32, q2 = .inl b → ∀ (H : Heap) (locs : List Loc) (ls : Array Slot), zW Z A (wX7 Z Am m_thrown m_s m_saved m_savedMany m_aside m_sent m_text m_length m_way m_crossed m_wayCost m_isWay m_next m_start m_token m_number m_letters m_isWrong m_sums m_steps m_chosen m_passed m_passedMany m_passedCost m_reach) s.heap H locs → lv_has ls 8 [(0, .ref (Am 0)), (1, .int v1), (2, .int v2), (3, .int v3), (4, .int v4), (5, .int v5), (6, .int b)] → W p l e rmX7_choose s m args below meth c H locs 0 0 (MQ below (zQi Z res.1 (wX7 Z Am m_thrown m_s m_saved m_savedMany m_aside m_sent m_text m_length m_way m_crossed m_wayCost m_isWay m_next m_start m_token m_number m_letters m_isWrong m_sums m_steps res.2 m_passed m_passedMany m_passedCost m_reach) A) args s 0 0 A) (F0 m 32 ls [])) (hr2 : ∀ r' , q2 = .inr r' → r' = q1) {H : Heap} {locs : List Loc} {ls : Array Slot} (hw : zW Z A (wX7 Z Am m_thrown m_s m_saved m_savedMany m_aside m_sent m_text m_length m_way m_crossed m_wayCost m_isWay m_next m_start m_token m_number m_letters m_isWrong m_sums m_steps m_chosen m_passed m_passedMany m_passedCost m_reach) s.heap H locs) (hl : lv_has ls 8 [(0, .ref (Am 0)), (1, .int v1), (2, .int v2), (3, .int v3), (4, .int v4), (5, .int v5), (6, .int v6)]) (h : uX7_choose_74 v1 v2 v5 v6 m_s m_sums m_steps = some q2) : W p l e rmX7_choose s m args below meth c H locs 0 0 (MQ below (zQi Z res.1 (wX7 Z Am m_thrown m_s m_saved m_savedMany m_aside m_sent m_text m_length m_way m_crossed m_wayCost m_isWay m_next m_start m_token m_number m_letters m_isWrong m_sums m_steps res.2 m_passed m_passedMany m_passedCost m_reach) A) args s 0 0 A) (F0 m 74 ls []) := by
  unfold uX7_choose_74 at h
  refine r_iconst E 0 dX7_choose_74 (by decide) ?_
  exact vX7_choose_75 E hb1 hr1 hb2 hr2 hw hl h
set_option maxRecDepth 100000 in
set_option maxHeartbeats 4000000 in
theorem tX7_choose_32 {Z : zT} {p : Program} {l : Launch} {e : Env} {s : State} {m : MethodId} {args : Array Value} {below : List Frame} {meth : Method} {c : Code} {A : Nat → Prop} (E : zE Z p s m args meth c RX7 cX7_choose 8 (some .int) A) {Am : Nat → Nat} {v1 : Int32} {v2 : Int32} {v3 : Int32} {v4 : Int32} {v5 : Int32} {m_thrown : Int32} {m_s : (Nat → Int32)} {m_saved : (Nat → Int32)} {m_savedMany : Int32} {m_aside : (Nat → Int32)} {m_sent : (Nat → Int32)} {m_text : (Nat → Int32)} {m_length : Int32} {m_way : (Nat → Int32)} {m_crossed : Int32} {m_wayCost : Int32} {m_isWay : Int32} {m_next : Int32} {m_start : Int32} {m_token : Int32} {m_number : Int32} {m_letters : Int64} {m_isWrong : Int32} {m_sums : (Nat → Int32)} {m_steps : (Nat → Int32)} {m_chosen : Int32} {m_passed : (Nat → Int32)} {m_passedMany : Int32} {m_passedCost : Int32} {m_reach : (Nat → Int32)} {res : Int32 × Int32} {q1 : (Int32) ⊕ (Int32 × Int32)} (hb1 : ∀ b : Int32, q1 = .inl b → ∀ (H : Heap) (locs : List Loc) (ls : Array Slot), zW Z A (wX7 Z Am m_thrown m_s m_saved m_savedMany m_aside m_sent m_text m_length m_way m_crossed m_wayCost m_isWay m_next m_start m_token m_number m_letters m_isWrong m_sums m_steps m_chosen m_passed m_passedMany m_passedCost m_reach) s.heap H locs → lv_has ls 8 [(0, .ref (Am 0)), (1, .int v1), (2, .int v2), (3, .int v3), (4, .int v4), (5, .int b)] → W p l e rmX7_choose s m args below meth c H locs 0 0 (MQ below (zQi Z res.1 (wX7 Z Am m_thrown m_s m_saved m_savedMany m_aside m_sent m_text m_length m_way m_crossed m_wayCost m_isWay m_next m_start m_token m_number m_letters m_isWrong m_sums m_steps res.2 m_passed m_passedMany m_passedCost m_reach) A) args s 0 0 A) (F0 m 17 ls [])) (hr1 : ∀ r' , q1 = .inr r' → r' = res) : ∀ (n : Nat) (v6 : Int32) (H : Heap) (locs : List Loc) (ls : Array Slot), iter (fun b : Int32 => sX7_choose_32 v1 v2 v3 v4 v5 m_s m_sums m_steps b) n v6 = some q1 → zW Z A (wX7 Z Am m_thrown m_s m_saved m_savedMany m_aside m_sent m_text m_length m_way m_crossed m_wayCost m_isWay m_next m_start m_token m_number m_letters m_isWrong m_sums m_steps m_chosen m_passed m_passedMany m_passedCost m_reach) s.heap H locs → lv_has ls 8 [(0, .ref (Am 0)), (1, .int v1), (2, .int v2), (3, .int v3), (4, .int v4), (5, .int v5), (6, .int v6)] → W p l e rmX7_choose s m args below meth c H locs 0 0 (MQ below (zQi Z res.1 (wX7 Z Am m_thrown m_s m_saved m_savedMany m_aside m_sent m_text m_length m_way m_crossed m_wayCost m_isWay m_next m_start m_token m_number m_letters m_isWrong m_sums m_steps res.2 m_passed m_passedMany m_passedCost m_reach) A) args s 0 0 A) (F0 m 32 ls []) := by
  intro n
  induction n with
  | zero => intro v6 H locs ls h; cases h
  | succ n ih =>
    intro v6 H locs ls h hw hl
    obtain ⟨q2, h, hn2, hr2⟩ := iter_out h
    have hb2 : ∀ b : Int32, q2 = .inl b → ∀ (H : Heap) (locs : List Loc) (ls : Array Slot), zW Z A (wX7 Z Am m_thrown m_s m_saved m_savedMany m_aside m_sent m_text m_length m_way m_crossed m_wayCost m_isWay m_next m_start m_token m_number m_letters m_isWrong m_sums m_steps m_chosen m_passed m_passedMany m_passedCost m_reach) s.heap H locs → lv_has ls 8 [(0, .ref (Am 0)), (1, .int v1), (2, .int v2), (3, .int v3), (4, .int v4), (5, .int v5), (6, .int b)] → W p l e rmX7_choose s m args below meth c H locs 0 0 (MQ below (zQi Z res.1 (wX7 Z Am m_thrown m_s m_saved m_savedMany m_aside m_sent m_text m_length m_way m_crossed m_wayCost m_isWay m_next m_start m_token m_number m_letters m_isWrong m_sums m_steps res.2 m_passed m_passedMany m_passedCost m_reach) A) args s 0 0 A) (F0 m 32 ls []) := fun b eb H locs ls hw hl => ih b H locs ls (hn2 b eb) hw hl
    replace h : sX7_choose_32 v1 v2 v3 v4 v5 m_s m_sums m_steps v6 = some q2 := h
    unfold sX7_choose_32 at h
    refine r_iload E hl 6 rfl dX7_choose_32 ?_
    refine r_bipush E 35 dX7_choose_34 (by decide) ?_
    refine r_icmp_ge E 152 dX7_choose_36 (by decide) (fun hc => ?_) (fun hc => ?_)
    · replace h := ite_t hc h
      obtain ⟨ro5, h, hro5⟩ := oi_some h
      rw [hr2 _ hro5] at h
      exact vX7_choose_152 E hb1 hr1 hw (lv_sub hl [0, 1, 2, 3, 4, 5] rfl) h
    · replace h := ite_f hc h
      refine r_iload E hl 5 rfl dX7_choose_39 ?_
      refine r_iload_n E hl 2 rfl dX7_choose_41 rfl ?_
      refine r_icmp_eq E 74 dX7_choose_42 (by decide) (fun hc => ?_) (fun hc => ?_)
      · replace h := ite_t hc h
        exact vX7_choose_74 E hb1 hr1 hb2 hr2 hw hl h
      · replace h := ite_f hc h
        refine r_aload_n E hl 0 rfl dX7_choose_45 rfl ?_
        refine r_iload E hl 6 rfl dX7_choose_46 ?_
        obtain ⟨y15, hy15, h⟩ := bd_some h
        refine r_callVAi E hw (mX7_isItem l Z _ Am m_thrown m_s m_saved m_savedMany m_aside m_sent m_text m_length m_way m_crossed m_wayCost m_isWay m_next m_start m_token m_number m_letters m_isWrong m_sums m_steps m_chosen m_passed m_passedMany m_passedCost m_reach v6 hy15) kL_X7_235 kI_X7_isItem kS_X7_isItem kN_X7 kC_X7_isItem rfl rfl hdX7_isItem ⟨Nat.le_of_ble_eq_true rfl, Nat.le_of_ble_eq_true rfl⟩ 0 rfl rfl rfl rfl hl [] rfl (Nat.le_of_ble_eq_true rfl) dX7_choose_48 ⟨Nat.zero_le _, Nat.zero_le _⟩ (fun H locs hw => ?_)
        refine r_if_eq E 74 dX7_choose_51 (by decide) (fun hc => ?_) (fun hc => ?_)
        · replace h := ite_t hc h
          exact vX7_choose_74 E hb1 hr1 hb2 hr2 hw hl h
        · replace h := ite_f hc h
          refine r_aload_n E hl 0 rfl dX7_choose_54 rfl ?_
          refine r_iload_n E hl 1 rfl dX7_choose_55 rfl ?_
          refine r_iload E hl 6 rfl dX7_choose_56 ?_
          refine r_iload_n E hl 3 rfl dX7_choose_58 rfl ?_
          refine r_iload E hl 4 rfl dX7_choose_59 ?_
          refine r_iload_n E hl 2 rfl dX7_choose_61 rfl ?_
          refine r_iload E hl 5 rfl dX7_choose_62 ?_
          obtain ⟨y16, hy16, h⟩ := bd_some h
          refine r_callVAi E hw (mX7_leads l Z _ Am m_thrown m_s m_saved m_savedMany m_aside m_sent m_text m_length m_way m_crossed m_wayCost m_isWay m_next m_start m_token m_number m_letters m_isWrong m_sums m_steps m_chosen m_passed m_passedMany m_passedCost m_reach v1 v6 v3 v4 v2 v5 hy16) kL_X7_258 kI_X7_leads kS_X7_leads kN_X7 kC_X7_leads rfl rfl hdX7_leads ⟨Nat.le_of_ble_eq_true rfl, Nat.le_of_ble_eq_true rfl⟩ 0 rfl rfl rfl rfl hl [] rfl (Nat.le_of_ble_eq_true rfl) dX7_choose_64 ⟨Nat.zero_le _, Nat.zero_le _⟩ (fun H locs hw => ?_)
          refine r_if_eq E 74 dX7_choose_67 (by decide) (fun hc => ?_) (fun hc => ?_)
          · replace h := ite_t hc h
            exact vX7_choose_74 E hb1 hr1 hb2 hr2 hw hl h
          · replace h := ite_f hc h
            refine r_iconst E 1 dX7_choose_70 (by decide) ?_
            refine r_goto E 75 dX7_choose_71 (by decide) ?_
            exact vX7_choose_75 E hb1 hr1 hb2 hr2 hw hl h
set_option maxRecDepth 100000 in
set_option maxHeartbeats 4000000 in
theorem tX7_choose_17 {Z : zT} {p : Program} {l : Launch} {e : Env} {s : State} {m : MethodId} {args : Array Value} {below : List Frame} {meth : Method} {c : Code} {A : Nat → Prop} (E : zE Z p s m args meth c RX7 cX7_choose 8 (some .int) A) {Am : Nat → Nat} {v1 : Int32} {v2 : Int32} {v3 : Int32} {v4 : Int32} {m_thrown : Int32} {m_s : (Nat → Int32)} {m_saved : (Nat → Int32)} {m_savedMany : Int32} {m_aside : (Nat → Int32)} {m_sent : (Nat → Int32)} {m_text : (Nat → Int32)} {m_length : Int32} {m_way : (Nat → Int32)} {m_crossed : Int32} {m_wayCost : Int32} {m_isWay : Int32} {m_next : Int32} {m_start : Int32} {m_token : Int32} {m_number : Int32} {m_letters : Int64} {m_isWrong : Int32} {m_sums : (Nat → Int32)} {m_steps : (Nat → Int32)} {m_chosen : Int32} {m_passed : (Nat → Int32)} {m_passedMany : Int32} {m_passedCost : Int32} {m_reach : (Nat → Int32)} {res : Int32 × Int32}  : ∀ (n : Nat) (v5 : Int32) (H : Heap) (locs : List Loc) (ls : Array Slot), iter (fun b : Int32 => sX7_choose_17 v1 v2 v3 v4 m_s m_sums m_steps m_chosen b) n v5 = some res → zW Z A (wX7 Z Am m_thrown m_s m_saved m_savedMany m_aside m_sent m_text m_length m_way m_crossed m_wayCost m_isWay m_next m_start m_token m_number m_letters m_isWrong m_sums m_steps m_chosen m_passed m_passedMany m_passedCost m_reach) s.heap H locs → lv_has ls 8 [(0, .ref (Am 0)), (1, .int v1), (2, .int v2), (3, .int v3), (4, .int v4), (5, .int v5)] → W p l e rmX7_choose s m args below meth c H locs 0 0 (MQ below (zQi Z res.1 (wX7 Z Am m_thrown m_s m_saved m_savedMany m_aside m_sent m_text m_length m_way m_crossed m_wayCost m_isWay m_next m_start m_token m_number m_letters m_isWrong m_sums m_steps res.2 m_passed m_passedMany m_passedCost m_reach) A) args s 0 0 A) (F0 m 17 ls []) := by
  intro n
  induction n with
  | zero => intro v5 H locs ls h; cases h
  | succ n ih =>
    intro v5 H locs ls h hw hl
    obtain ⟨q1, h, hn1, hr1⟩ := iter_out h
    have hb1 : ∀ b : Int32, q1 = .inl b → ∀ (H : Heap) (locs : List Loc) (ls : Array Slot), zW Z A (wX7 Z Am m_thrown m_s m_saved m_savedMany m_aside m_sent m_text m_length m_way m_crossed m_wayCost m_isWay m_next m_start m_token m_number m_letters m_isWrong m_sums m_steps m_chosen m_passed m_passedMany m_passedCost m_reach) s.heap H locs → lv_has ls 8 [(0, .ref (Am 0)), (1, .int v1), (2, .int v2), (3, .int v3), (4, .int v4), (5, .int b)] → W p l e rmX7_choose s m args below meth c H locs 0 0 (MQ below (zQi Z res.1 (wX7 Z Am m_thrown m_s m_saved m_savedMany m_aside m_sent m_text m_length m_way m_crossed m_wayCost m_isWay m_next m_start m_token m_number m_letters m_isWrong m_sums m_steps res.2 m_passed m_passedMany m_passedCost m_reach) A) args s 0 0 A) (F0 m 17 ls []) := fun b eb H locs ls hw hl => ih b H locs ls (hn1 b eb) hw hl
    replace h : sX7_choose_17 v1 v2 v3 v4 m_s m_sums m_steps m_chosen v5 = some q1 := h
    unfold sX7_choose_17 at h
    refine r_iload E hl 5 rfl dX7_choose_17 ?_
    refine r_aload_n E hl 0 rfl dX7_choose_19 rfl ?_
    refine r_get E kW_X7 hw 0 rfl rfl 1 (by decide) kF_X7_7 rfl dX7_choose_20 ?_
    refine r_iconst E 0 dX7_choose_23 (by decide) ?_
    obtain ⟨hg2, h⟩ := gd_some h
    refine r_iald E hw 1 rfl hg2 dX7_choose_24 ?_
    refine r_icmp_ge E 158 dX7_choose_25 (by decide) (fun hc => ?_) (fun hc => ?_)
    · replace h := ite_t hc h
      obtain ⟨ro3, h, hro3⟩ := oi_some h
      rw [hr1 _ hro3] at h
      refine r_bipush E (-9) dX7_choose_158 (by decide) ?_
      obtain rfl := Option.some.inj h
      exact r_iret E hw dX7_choose_160
    · replace h := ite_f hc h
      refine r_bipush E 16 dX7_choose_28 (by decide) ?_
      refine r_istore E [(6, .int (16 : Int32)), (0, .ref (Am 0)), (1, .int v1), (2, .int v2), (3, .int v3), (4, .int v4), (5, .int v5)] hl dX7_choose_30 (by decide) rfl (fun ls hl => ?_)
      obtain ⟨n17, h⟩ := wh_some h
      exact tX7_choose_32 E hb1 hr1 n17 _ _ _ _ h hw (lv_sub hl [1, 2, 3, 4, 5, 6, 0] rfl)
set_option maxRecDepth 100000 in
set_option maxHeartbeats 4000000 in
theorem mX7_choose (l : Launch) (Z : zT) (sz : Nat) (Am : Nat → Nat) (m_thrown : Int32) (m_s : (Nat → Int32)) (m_saved : (Nat → Int32)) (m_savedMany : Int32) (m_aside : (Nat → Int32)) (m_sent : (Nat → Int32)) (m_text : (Nat → Int32)) (m_length : Int32) (m_way : (Nat → Int32)) (m_crossed : Int32) (m_wayCost : Int32) (m_isWay : Int32) (m_next : Int32) (m_start : Int32) (m_token : Int32) (m_number : Int32) (m_letters : Int64) (m_isWrong : Int32) (m_sums : (Nat → Int32)) (m_steps : (Nat → Int32)) (m_chosen : Int32) (m_passed : (Nat → Int32)) (m_passedMany : Int32) (m_passedCost : Int32) (m_reach : (Nat → Int32)) (v1 : Int32) (v2 : Int32) (v3 : Int32) (v4 : Int32) {res : Int32 × Int32} (h : fX7_choose v1 v2 v3 v4 m_s m_sums m_steps m_chosen = some res) : Met l yX7_choose (Cond.code yX7_choose cX7_choose 8 (some .int) :: zWs) rmX7_choose (zP Z (wX7 Z Am m_thrown m_s m_saved m_savedMany m_aside m_sent m_text m_length m_way m_crossed m_wayCost m_isWay m_next m_start m_token m_number m_letters m_isWrong m_sums m_steps m_chosen m_passed m_passedMany m_passedCost m_reach) sz [.ref (Am 0), .int v1, .int v2, .int v3, .int v4]) (zQi Z res.1 (wX7 Z Am m_thrown m_s m_saved m_savedMany m_aside m_sent m_text m_length m_way m_crossed m_wayCost m_isWay m_next m_start m_token m_number m_letters m_isWrong m_sums m_steps res.2 m_passed m_passedMany m_passedCost m_reach) (va_A (wX7 Z Am m_thrown m_s m_saved m_savedMany m_aside m_sent m_text m_length m_way m_crossed m_wayCost m_isWay m_next m_start m_token m_number m_letters m_isWrong m_sums m_steps m_chosen m_passed m_passedMany m_passedCost m_reach) sz)) 0 0 (va_A (wX7 Z Am m_thrown m_s m_saved m_savedMany m_aside m_sent m_text m_length m_way m_crossed m_wayCost m_isWay m_next m_start m_token m_number m_letters m_isWrong m_sums m_steps m_chosen m_passed m_passedMany m_passedCost m_reach) sz) := by
  refine zMet (own := RX7) (fun A => zQi Z res.1 (wX7 Z Am m_thrown m_s m_saved m_savedMany m_aside m_sent m_text m_length m_way m_crossed m_wayCost m_isWay m_next m_start m_token m_number m_letters m_isWrong m_sums m_steps res.2 m_passed m_passedMany m_passedCost m_reach) A) (by decide) rfl (Nat.le_of_ble_eq_true rfl) ?_
  intro p e s m args below meth c ls A E hw hl
  unfold fX7_choose at h
  refine r_aload_n E hl 0 rfl dX7_choose_0 rfl ?_
  refine r_get E kW_X7 hw 0 rfl rfl 18 (by decide) kF_X7_28 rfl dX7_choose_1 ?_
  refine r_iload_n E hl 2 rfl dX7_choose_4 rfl ?_
  obtain ⟨hg1, h⟩ := gd_some h
  refine r_iald E hw 7 rfl hg1 dX7_choose_5 ?_
  refine r_ldc E (1000000) kQ_X7_253 dX7_choose_6 ?_
  refine r_icmp_lt E 14 dX7_choose_8 (by decide) (fun hc => ?_) (fun hc => ?_)
  · replace h := ite_t hc h
    refine r_iconst E 0 dX7_choose_14 (by decide) ?_
    refine r_istore E [(5, .int (0 : Int32)), (0, .ref (Am 0)), (1, .int v1), (2, .int v2), (3, .int v3), (4, .int v4)] hl dX7_choose_15 (by decide) rfl (fun ls hl => ?_)
    obtain ⟨n18, h⟩ := wh_some h
    exact tX7_choose_17 E  n18 _ _ _ _ h hw (lv_sub hl [1, 2, 3, 4, 5, 0] rfl)
  · replace h := ite_f hc h
    refine r_bipush E (-9) dX7_choose_11 (by decide) ?_
    obtain rfl := Option.some.inj h
    exact r_iret E hw dX7_choose_13
abbrev rmX7_distance : Room := { frames := 6, cells := 0, slots := 0, locals := 149 }

set_option maxRecDepth 100000 in
set_option maxHeartbeats 4000000 in
theorem mX7_distance (l : Launch) (Z : zT) (sz : Nat) (Am : Nat → Nat) (m_thrown : Int32) (m_s : (Nat → Int32)) (m_saved : (Nat → Int32)) (m_savedMany : Int32) (m_aside : (Nat → Int32)) (m_sent : (Nat → Int32)) (m_text : (Nat → Int32)) (m_length : Int32) (m_way : (Nat → Int32)) (m_crossed : Int32) (m_wayCost : Int32) (m_isWay : Int32) (m_next : Int32) (m_start : Int32) (m_token : Int32) (m_number : Int32) (m_letters : Int64) (m_isWrong : Int32) (m_sums : (Nat → Int32)) (m_steps : (Nat → Int32)) (m_chosen : Int32) (m_passed : (Nat → Int32)) (m_passedMany : Int32) (m_passedCost : Int32) (m_reach : (Nat → Int32)) (v1 : Int32) (v2 : Int32) (v3 : Int32) {res : Int32 × Int32 × (Nat → Int32) × (Nat → Int32)} (h : fX7_distance v1 v2 v3 m_s m_sums m_steps = some res) : Met l yX7_distance (Cond.code yX7_distance cX7_distance 4 (some .int) :: zWs) rmX7_distance (zP Z (wX7 Z Am m_thrown m_s m_saved m_savedMany m_aside m_sent m_text m_length m_way m_crossed m_wayCost m_isWay m_next m_start m_token m_number m_letters m_isWrong m_sums m_steps m_chosen m_passed m_passedMany m_passedCost m_reach) sz [.ref (Am 0), .int v1, .int v2, .int v3]) (zQi Z res.1 (wX7 Z Am res.2.1 m_s m_saved m_savedMany m_aside m_sent m_text m_length m_way m_crossed m_wayCost m_isWay m_next m_start m_token m_number m_letters m_isWrong res.2.2.1 res.2.2.2 m_chosen m_passed m_passedMany m_passedCost m_reach) (va_A (wX7 Z Am m_thrown m_s m_saved m_savedMany m_aside m_sent m_text m_length m_way m_crossed m_wayCost m_isWay m_next m_start m_token m_number m_letters m_isWrong m_sums m_steps m_chosen m_passed m_passedMany m_passedCost m_reach) sz)) 0 0 (va_A (wX7 Z Am m_thrown m_s m_saved m_savedMany m_aside m_sent m_text m_length m_way m_crossed m_wayCost m_isWay m_next m_start m_token m_number m_letters m_isWrong m_sums m_steps m_chosen m_passed m_passedMany m_passedCost m_reach) sz) := by
  refine zMet (own := RX7) (fun A => zQi Z res.1 (wX7 Z Am res.2.1 m_s m_saved m_savedMany m_aside m_sent m_text m_length m_way m_crossed m_wayCost m_isWay m_next m_start m_token m_number m_letters m_isWrong res.2.2.1 res.2.2.2 m_chosen m_passed m_passedMany m_passedCost m_reach) A) (by decide) rfl (Nat.le_of_ble_eq_true rfl) ?_
  intro p e s m args below meth c ls A E hw hl
  unfold fX7_distance at h
  refine r_aload_n E hl 0 rfl dX7_distance_0 rfl ?_
  refine r_iconst E 0 dX7_distance_1 (by decide) ?_
  refine r_put E (wX7 Z Am (0 : Int32) m_s m_saved m_savedMany m_aside m_sent m_text m_length m_way m_crossed m_wayCost m_isWay m_next m_start m_token m_number m_letters m_isWrong m_sums m_steps m_chosen m_passed m_passedMany m_passedCost m_reach) kW_X7 tyX7_ok nmX7 hw 0 rfl rfl 0 (by decide) kF_X7_40 rfl rfl rfl (Nat.le_of_ble_eq_true rfl) rfl dX7_distance_2 (fun H locs hw => ?_)
  refine r_aload_n E hl 0 rfl dX7_distance_5 rfl ?_
  refine r_iload_n E hl 1 rfl dX7_distance_6 rfl ?_
  obtain ⟨y1, hy1, h⟩ := bd_some h
  refine r_callVAi E hw (mX7_isNode l Z _ Am (0 : Int32) m_s m_saved m_savedMany m_aside m_sent m_text m_length m_way m_crossed m_wayCost m_isWay m_next m_start m_token m_number m_letters m_isWrong m_sums m_steps m_chosen m_passed m_passedMany m_passedCost m_reach v1 hy1) kL_X7_125 kI_X7_isNode kS_X7_isNode kN_X7 kC_X7_isNode rfl rfl hdX7_isNode ⟨Nat.le_of_ble_eq_true rfl, Nat.le_of_ble_eq_true rfl⟩ 0 rfl rfl rfl rfl hl [] rfl (Nat.le_of_ble_eq_true rfl) dX7_distance_7 ⟨Nat.zero_le _, Nat.zero_le _⟩ (fun H locs hw => ?_)
  refine r_if_eq E 28 dX7_distance_10 (by decide) (fun hc => ?_) (fun hc => ?_)
  · replace h := ite_t hc h
    refine r_iconst E (-1) dX7_distance_28 (by decide) ?_
    obtain rfl := Option.some.inj h
    exact r_iret E hw dX7_distance_29
  · replace h := ite_f hc h
    refine r_aload_n E hl 0 rfl dX7_distance_13 rfl ?_
    refine r_iload_n E hl 2 rfl dX7_distance_14 rfl ?_
    obtain ⟨y2, hy2, h⟩ := bd_some h
    refine r_callVAi E hw (mX7_isNode l Z _ Am (0 : Int32) m_s m_saved m_savedMany m_aside m_sent m_text m_length m_way m_crossed m_wayCost m_isWay m_next m_start m_token m_number m_letters m_isWrong m_sums m_steps m_chosen m_passed m_passedMany m_passedCost m_reach v2 hy2) kL_X7_125 kI_X7_isNode kS_X7_isNode kN_X7 kC_X7_isNode rfl rfl hdX7_isNode ⟨Nat.le_of_ble_eq_true rfl, Nat.le_of_ble_eq_true rfl⟩ 0 rfl rfl rfl rfl hl [] rfl (Nat.le_of_ble_eq_true rfl) dX7_distance_15 ⟨Nat.zero_le _, Nat.zero_le _⟩ (fun H locs hw => ?_)
    refine r_if_eq E 28 dX7_distance_18 (by decide) (fun hc => ?_) (fun hc => ?_)
    · replace h := ite_t hc h
      refine r_iconst E (-1) dX7_distance_28 (by decide) ?_
      obtain rfl := Option.some.inj h
      exact r_iret E hw dX7_distance_29
    · replace h := ite_f hc h
      refine r_iload_n E hl 3 rfl dX7_distance_21 rfl ?_
      obtain ⟨y3, hy3, h⟩ := bd_some h
      refine r_callS0i E hw (mX7_isArea l Z _ v3 hy3) kL_X7_116 kT_X7_isArea kN_X7 kC_X7_isArea rfl rfl hdX7_isArea ⟨Nat.le_of_ble_eq_true rfl, Nat.le_of_ble_eq_true rfl⟩ rfl hl [] rfl (Nat.le_of_ble_eq_true rfl) dX7_distance_22 ⟨Nat.zero_le _, Nat.zero_le _⟩ (fun H locs hw => ?_)
      refine r_if_ne E 30 dX7_distance_25 (by decide) (fun hc => ?_) (fun hc => ?_)
      · replace h := ite_f hc h
        refine r_aload_n E hl 0 rfl dX7_distance_30 rfl ?_
        refine r_iload_n E hl 1 rfl dX7_distance_31 rfl ?_
        refine r_iload_n E hl 2 rfl dX7_distance_32 rfl ?_
        refine r_iload_n E hl 3 rfl dX7_distance_33 rfl ?_
        refine r_iconst E 1 dX7_distance_34 (by decide) ?_
        obtain ⟨y4, hy4, h⟩ := bd_some h
        refine r_callVAv E hw (mX7_find l Z _ Am (0 : Int32) m_s m_saved m_savedMany m_aside m_sent m_text m_length m_way m_crossed m_wayCost m_isWay m_next m_start m_token m_number m_letters m_isWrong m_sums m_steps m_chosen m_passed m_passedMany m_passedCost m_reach v1 v2 v3 (1 : Int32) hy4) kL_X7_268 kI_X7_find kS_X7_find kN_X7 kC_X7_find rfl rfl hdX7_find ⟨Nat.le_of_ble_eq_true rfl, Nat.le_of_ble_eq_true rfl⟩ 0 rfl rfl rfl rfl hl [] rfl (Nat.le_of_ble_eq_true rfl) dX7_distance_35 ⟨Nat.zero_le _, Nat.zero_le _⟩ (fun H locs hw => ?_)
        refine r_aload_n E hl 0 rfl dX7_distance_38 rfl ?_
        refine r_get E kW_X7 hw 0 rfl rfl 18 (by decide) kF_X7_28 rfl dX7_distance_39 ?_
        refine r_iload_n E hl 1 rfl dX7_distance_42 rfl ?_
        obtain ⟨hg5, h⟩ := gd_some h
        refine r_iald E hw 7 rfl hg5 dX7_distance_43 ?_
        refine r_ldc E (1000000) kQ_X7_253 dX7_distance_44 ?_
        refine r_icmp_ge E 58 dX7_distance_46 (by decide) (fun hc => ?_) (fun hc => ?_)
        · replace h := ite_t hc h
          refine r_bipush E (-9) dX7_distance_58 (by decide) ?_
          obtain rfl := Option.some.inj h
          exact r_iret E hw dX7_distance_60
        · replace h := ite_f hc h
          refine r_aload_n E hl 0 rfl dX7_distance_49 rfl ?_
          refine r_get E kW_X7 hw 0 rfl rfl 18 (by decide) kF_X7_28 rfl dX7_distance_50 ?_
          refine r_iload_n E hl 1 rfl dX7_distance_53 rfl ?_
          obtain ⟨hg6, h⟩ := gd_some h
          refine r_iald E hw 7 rfl hg6 dX7_distance_54 ?_
          refine r_goto E 60 dX7_distance_55 (by decide) ?_
          obtain rfl := Option.some.inj h
          exact r_iret E hw dX7_distance_60
      · replace h := ite_t hc h
        refine r_iconst E (-1) dX7_distance_28 (by decide) ?_
        obtain rfl := Option.some.inj h
        exact r_iret E hw dX7_distance_29
abbrev rmX7_next : Room := { frames := 6, cells := 0, slots := 0, locals := 149 }

set_option maxRecDepth 100000 in
set_option maxHeartbeats 4000000 in
theorem mX7_next (l : Launch) (Z : zT) (sz : Nat) (Am : Nat → Nat) (m_thrown : Int32) (m_s : (Nat → Int32)) (m_saved : (Nat → Int32)) (m_savedMany : Int32) (m_aside : (Nat → Int32)) (m_sent : (Nat → Int32)) (m_text : (Nat → Int32)) (m_length : Int32) (m_way : (Nat → Int32)) (m_crossed : Int32) (m_wayCost : Int32) (m_isWay : Int32) (m_next : Int32) (m_start : Int32) (m_token : Int32) (m_number : Int32) (m_letters : Int64) (m_isWrong : Int32) (m_sums : (Nat → Int32)) (m_steps : (Nat → Int32)) (m_chosen : Int32) (m_passed : (Nat → Int32)) (m_passedMany : Int32) (m_passedCost : Int32) (m_reach : (Nat → Int32)) (v1 : Int32) (v2 : Int32) (v3 : Int32) (v4 : Int32) {res : Int32 × Int32 × (Nat → Int32) × (Nat → Int32) × Int32} (h : fX7_next v1 v2 v3 v4 m_s m_sums m_steps m_chosen = some res) : Met l yX7_next (Cond.code yX7_next cX7_next 6 (some .int) :: zWs) rmX7_next (zP Z (wX7 Z Am m_thrown m_s m_saved m_savedMany m_aside m_sent m_text m_length m_way m_crossed m_wayCost m_isWay m_next m_start m_token m_number m_letters m_isWrong m_sums m_steps m_chosen m_passed m_passedMany m_passedCost m_reach) sz [.ref (Am 0), .int v1, .int v2, .int v3, .int v4]) (zQi Z res.1 (wX7 Z Am res.2.1 m_s m_saved m_savedMany m_aside m_sent m_text m_length m_way m_crossed m_wayCost m_isWay m_next m_start m_token m_number m_letters m_isWrong res.2.2.1 res.2.2.2.1 res.2.2.2.2 m_passed m_passedMany m_passedCost m_reach) (va_A (wX7 Z Am m_thrown m_s m_saved m_savedMany m_aside m_sent m_text m_length m_way m_crossed m_wayCost m_isWay m_next m_start m_token m_number m_letters m_isWrong m_sums m_steps m_chosen m_passed m_passedMany m_passedCost m_reach) sz)) 0 0 (va_A (wX7 Z Am m_thrown m_s m_saved m_savedMany m_aside m_sent m_text m_length m_way m_crossed m_wayCost m_isWay m_next m_start m_token m_number m_letters m_isWrong m_sums m_steps m_chosen m_passed m_passedMany m_passedCost m_reach) sz) := by
  refine zMet (own := RX7) (fun A => zQi Z res.1 (wX7 Z Am res.2.1 m_s m_saved m_savedMany m_aside m_sent m_text m_length m_way m_crossed m_wayCost m_isWay m_next m_start m_token m_number m_letters m_isWrong res.2.2.1 res.2.2.2.1 res.2.2.2.2 m_passed m_passedMany m_passedCost m_reach) A) (by decide) rfl (Nat.le_of_ble_eq_true rfl) ?_
  intro p e s m args below meth c ls A E hw hl
  unfold fX7_next at h
  refine r_aload_n E hl 0 rfl dX7_next_0 rfl ?_
  refine r_iconst E 0 dX7_next_1 (by decide) ?_
  refine r_put E (wX7 Z Am (0 : Int32) m_s m_saved m_savedMany m_aside m_sent m_text m_length m_way m_crossed m_wayCost m_isWay m_next m_start m_token m_number m_letters m_isWrong m_sums m_steps m_chosen m_passed m_passedMany m_passedCost m_reach) kW_X7 tyX7_ok nmX7 hw 0 rfl rfl 0 (by decide) kF_X7_40 rfl rfl rfl (Nat.le_of_ble_eq_true rfl) rfl dX7_next_2 (fun H locs hw => ?_)
  refine r_aload_n E hl 0 rfl dX7_next_5 rfl ?_
  refine r_iload_n E hl 1 rfl dX7_next_6 rfl ?_
  refine r_iload_n E hl 2 rfl dX7_next_7 rfl ?_
  obtain ⟨y1, hy1, h⟩ := bd_some h
  refine r_callVAi E hw (mX7_areNodes l Z _ Am (0 : Int32) m_s m_saved m_savedMany m_aside m_sent m_text m_length m_way m_crossed m_wayCost m_isWay m_next m_start m_token m_number m_letters m_isWrong m_sums m_steps m_chosen m_passed m_passedMany m_passedCost m_reach v1 v2 hy1) kL_X7_128 kI_X7_areNodes kS_X7_areNodes kN_X7 kC_X7_areNodes rfl rfl hdX7_areNodes ⟨Nat.le_of_ble_eq_true rfl, Nat.le_of_ble_eq_true rfl⟩ 0 rfl rfl rfl rfl hl [] rfl (Nat.le_of_ble_eq_true rfl) dX7_next_8 ⟨Nat.zero_le _, Nat.zero_le _⟩ (fun H locs hw => ?_)
  refine r_if_eq E 31 dX7_next_11 (by decide) (fun hc => ?_) (fun hc => ?_)
  · replace h := ite_t hc h
    refine r_iconst E (-1) dX7_next_31 (by decide) ?_
    obtain rfl := Option.some.inj h
    exact r_iret E hw dX7_next_32
  · replace h := ite_f hc h
    refine r_iload_n E hl 3 rfl dX7_next_14 rfl ?_
    obtain ⟨y2, hy2, h⟩ := bd_some h
    refine r_callS0i E hw (mX7_isArea l Z _ v3 hy2) kL_X7_116 kT_X7_isArea kN_X7 kC_X7_isArea rfl rfl hdX7_isArea ⟨Nat.le_of_ble_eq_true rfl, Nat.le_of_ble_eq_true rfl⟩ rfl hl [] rfl (Nat.le_of_ble_eq_true rfl) dX7_next_15 ⟨Nat.zero_le _, Nat.zero_le _⟩ (fun H locs hw => ?_)
    refine r_if_eq E 31 dX7_next_18 (by decide) (fun hc => ?_) (fun hc => ?_)
    · replace h := ite_t hc h
      refine r_iconst E (-1) dX7_next_31 (by decide) ?_
      obtain rfl := Option.some.inj h
      exact r_iret E hw dX7_next_32
    · replace h := ite_f hc h
      refine r_iload E hl 4 rfl dX7_next_21 ?_
      refine r_iconst E 0 dX7_next_23 (by decide) ?_
      refine r_iconst E 1 dX7_next_24 (by decide) ?_
      obtain ⟨y3, hy3, h⟩ := bd_some h
      refine r_callS0i E hw (mX7_in l Z _ v4 (0 : Int32) (1 : Int32) hy3) kL_X7_58 kT_X7_in kN_X7 kC_X7_in rfl rfl hdX7_in ⟨Nat.le_of_ble_eq_true rfl, Nat.le_of_ble_eq_true rfl⟩ rfl hl [] rfl (Nat.le_of_ble_eq_true rfl) dX7_next_25 ⟨Nat.zero_le _, Nat.zero_le _⟩ (fun H locs hw => ?_)
      refine r_if_ne E 33 dX7_next_28 (by decide) (fun hc => ?_) (fun hc => ?_)
      · replace h := ite_f hc h
        refine r_aload_n E hl 0 rfl dX7_next_33 rfl ?_
        refine r_iload_n E hl 1 rfl dX7_next_34 rfl ?_
        refine r_iload_n E hl 2 rfl dX7_next_35 rfl ?_
        refine r_iload_n E hl 3 rfl dX7_next_36 rfl ?_
        refine r_iconst E 1 dX7_next_37 (by decide) ?_
        obtain ⟨y4, hy4, h⟩ := bd_some h
        refine r_callVAv E hw (mX7_find l Z _ Am (0 : Int32) m_s m_saved m_savedMany m_aside m_sent m_text m_length m_way m_crossed m_wayCost m_isWay m_next m_start m_token m_number m_letters m_isWrong m_sums m_steps m_chosen m_passed m_passedMany m_passedCost m_reach v1 v2 v3 (1 : Int32) hy4) kL_X7_268 kI_X7_find kS_X7_find kN_X7 kC_X7_find rfl rfl hdX7_find ⟨Nat.le_of_ble_eq_true rfl, Nat.le_of_ble_eq_true rfl⟩ 0 rfl rfl rfl rfl hl [] rfl (Nat.le_of_ble_eq_true rfl) dX7_next_38 ⟨Nat.zero_le _, Nat.zero_le _⟩ (fun H locs hw => ?_)
        refine r_aload_n E hl 0 rfl dX7_next_41 rfl ?_
        refine r_iload_n E hl 1 rfl dX7_next_42 rfl ?_
        refine r_iload_n E hl 1 rfl dX7_next_43 rfl ?_
        refine r_iload_n E hl 3 rfl dX7_next_44 rfl ?_
        refine r_iconst E 1 dX7_next_45 (by decide) ?_
        obtain ⟨y5, hy5, h⟩ := bd_some h
        refine r_callVAi E hw (mX7_choose l Z _ Am (0 : Int32) m_s m_saved m_savedMany m_aside m_sent m_text m_length m_way m_crossed m_wayCost m_isWay m_next m_start m_token m_number m_letters m_isWrong y4.1 y4.2 m_chosen m_passed m_passedMany m_passedCost m_reach v1 v1 v3 (1 : Int32) hy5) kL_X7_272 kI_X7_choose kS_X7_choose kN_X7 kC_X7_choose rfl rfl hdX7_choose ⟨Nat.le_of_ble_eq_true rfl, Nat.le_of_ble_eq_true rfl⟩ 0 rfl rfl rfl rfl hl [] rfl (Nat.le_of_ble_eq_true rfl) dX7_next_46 ⟨Nat.zero_le _, Nat.zero_le _⟩ (fun H locs hw => ?_)
        refine r_istore E [(5, .int y5.1), (0, .ref (Am 0)), (1, .int v1), (2, .int v2), (3, .int v3), (4, .int v4)] hl dX7_next_49 (by decide) rfl (fun ls hl => ?_)
        refine r_iload E hl 0 rfl dX7_next_51 ?_
        refine r_bipush E (-9) dX7_next_53 (by decide) ?_
        refine r_icmp_ne E 63 dX7_next_55 (by decide) (fun hc => ?_) (fun hc => ?_)
        · replace h := ite_f hc h
          refine r_iload E hl 5 rfl dX7_next_63 ?_
          refine r_if_ne E 75 dX7_next_65 (by decide) (fun hc => ?_) (fun hc => ?_)
          · replace h := ite_f hc h
            refine r_iload E hl 0 rfl dX7_next_75 ?_
            obtain rfl := Option.some.inj h
            exact r_iret E hw dX7_next_77
          · replace h := ite_t hc h
            refine r_aload_n E hl 1 rfl dX7_next_68 rfl ?_
            refine r_get E kW_X7 hw 0 rfl rfl 20 (by decide) kF_X7_265 rfl dX7_next_69 ?_
            refine r_goto E 77 dX7_next_72 (by decide) ?_
            obtain rfl := Option.some.inj h
            exact r_iret E hw dX7_next_77
        · replace h := ite_t hc h
          refine r_bipush E (-9) dX7_next_58 (by decide) ?_
          refine r_goto E 77 dX7_next_60 (by decide) ?_
          obtain rfl := Option.some.inj h
          exact r_iret E hw dX7_next_77
      · replace h := ite_t hc h
        refine r_iconst E (-1) dX7_next_31 (by decide) ?_
        obtain rfl := Option.some.inj h
        exact r_iret E hw dX7_next_32
abbrev rmX7_refusal : Room := { frames := 3, cells := 0, slots := 0, locals := 65 }

set_option maxRecDepth 100000 in
set_option maxHeartbeats 4000000 in
theorem vX7_refusal_45 {Z : zT} {p : Program} {l : Launch} {e : Env} {s : State} {m : MethodId} {args : Array Value} {below : List Frame} {meth : Method} {c : Code} {A : Nat → Prop} (E : zE Z p s m args meth c RX7 cX7_refusal 4 (some .int) A) {Am : Nat → Nat} {v1 : Int32} {v2 : Int32} {v3 : Int32} {k0 : Int32} {m_thrown : Int32} {m_s : (Nat → Int32)} {m_saved : (Nat → Int32)} {m_savedMany : Int32} {m_aside : (Nat → Int32)} {m_sent : (Nat → Int32)} {m_text : (Nat → Int32)} {m_length : Int32} {m_way : (Nat → Int32)} {m_crossed : Int32} {m_wayCost : Int32} {m_isWay : Int32} {m_next : Int32} {m_start : Int32} {m_token : Int32} {m_number : Int32} {m_letters : Int64} {m_isWrong : Int32} {m_sums : (Nat → Int32)} {m_steps : (Nat → Int32)} {m_chosen : Int32} {m_passed : (Nat → Int32)} {m_passedMany : Int32} {m_passedCost : Int32} {m_reach : (Nat → Int32)} {res : Int32}  {H : Heap} {locs : List Loc} {ls : Array Slot} (hw : zW Z A (wX7 Z Am m_thrown m_s m_saved m_savedMany m_aside m_sent m_text m_length m_way m_crossed m_wayCost m_isWay m_next m_start m_token m_number m_letters m_isWrong m_sums m_steps m_chosen m_passed m_passedMany m_passedCost m_reach) s.heap H locs) (hl : lv_has ls 4 [(0, .ref (Am 0)), (1, .int v1), (2, .int v2), (3, .int v3)]) (h : uX7_refusal_45 v1 v2 v3 k0 m_s m_passedMany = some res) : W p l e rmX7_refusal s m args below meth c H locs 0 0 (MQ below (zQi Z res (wX7 Z Am m_thrown m_s m_saved m_savedMany m_aside m_sent m_text m_length m_way m_crossed m_wayCost m_isWay m_next m_start m_token m_number m_letters m_isWrong m_sums m_steps m_chosen m_passed m_passedMany m_passedCost m_reach) A) args s 0 0 A) (F0 m 45 ls [.int k0]) := by
  unfold uX7_refusal_45 at h
  refine r_if_ne E 50 dX7_refusal_45 (by decide) (fun hc => ?_) (fun hc => ?_)
  · replace h := ite_f hc h
    refine r_iload_n E hl 3 rfl dX7_refusal_50 rfl ?_
    refine r_if_eq E 58 dX7_refusal_51 (by decide) (fun hc => ?_) (fun hc => ?_)
    · replace h := ite_t hc h
      refine r_aload_n E hl 0 rfl dX7_refusal_58 rfl ?_
      refine r_iload_n E hl 2 rfl dX7_refusal_59 rfl ?_
      refine r_iload_n E hl 1 rfl dX7_refusal_60 rfl ?_
      refine r_bipush E 16 dX7_refusal_61 (by decide) ?_
      refine r_isub E dX7_refusal_63 ?_
      obtain ⟨y2, hy2, h⟩ := bd_some h
      refine r_callVAi E hw (mX7_isEntitled l Z _ Am m_thrown m_s m_saved m_savedMany m_aside m_sent m_text m_length m_way m_crossed m_wayCost m_isWay m_next m_start m_token m_number m_letters m_isWrong m_sums m_steps m_chosen m_passed m_passedMany m_passedCost m_reach v2 (v1 - (16 : Int32)) hy2) kL_X7_241 kI_X7_isEntitled kS_X7_isEntitled kN_X7 kC_X7_isEntitled rfl rfl hdX7_isEntitled ⟨Nat.le_of_ble_eq_true rfl, Nat.le_of_ble_eq_true rfl⟩ 0 rfl rfl rfl rfl hl [] rfl (Nat.le_of_ble_eq_true rfl) dX7_refusal_64 ⟨Nat.zero_le _, Nat.zero_le _⟩ (fun H locs hw => ?_)
      refine r_if_ne E 74 dX7_refusal_67 (by decide) (fun hc => ?_) (fun hc => ?_)
      · replace h := ite_f hc h
        refine r_aload_n E hl 0 rfl dX7_refusal_74 rfl ?_
        refine r_get E kW_X7 hw 0 rfl rfl 22 (by decide) kF_X7_276 rfl dX7_refusal_75 ?_
        refine r_bipush E 20 dX7_refusal_78 (by decide) ?_
        refine r_icmp_ne E 87 dX7_refusal_80 (by decide) (fun hc => ?_) (fun hc => ?_)
        · replace h := ite_f hc h
          refine r_iconst E 0 dX7_refusal_87 (by decide) ?_
          obtain rfl := Option.some.inj h
          exact r_iret E hw dX7_refusal_88
        · replace h := ite_t hc h
          refine r_iconst E 4 dX7_refusal_83 (by decide) ?_
          refine r_goto E 88 dX7_refusal_84 (by decide) ?_
          obtain rfl := Option.some.inj h
          exact r_iret E hw dX7_refusal_88
      · replace h := ite_t hc h
        refine r_iconst E 3 dX7_refusal_70 (by decide) ?_
        refine r_goto E 88 dX7_refusal_71 (by decide) ?_
        obtain rfl := Option.some.inj h
        exact r_iret E hw dX7_refusal_88
    · replace h := ite_f hc h
      refine r_iconst E 0 dX7_refusal_54 (by decide) ?_
      refine r_goto E 88 dX7_refusal_55 (by decide) ?_
      obtain rfl := Option.some.inj h
      exact r_iret E hw dX7_refusal_88
  · replace h := ite_t hc h
    refine r_iconst E 2 dX7_refusal_48 (by decide) ?_
    obtain rfl := Option.some.inj h
    exact r_iret E hw dX7_refusal_49
set_option maxRecDepth 100000 in
set_option maxHeartbeats 4000000 in
theorem vX7_refusal_19 {Z : zT} {p : Program} {l : Launch} {e : Env} {s : State} {m : MethodId} {args : Array Value} {below : List Frame} {meth : Method} {c : Code} {A : Nat → Prop} (E : zE Z p s m args meth c RX7 cX7_refusal 4 (some .int) A) {Am : Nat → Nat} {v1 : Int32} {v2 : Int32} {k0 : Int32} {m_thrown : Int32} {m_s : (Nat → Int32)} {m_saved : (Nat → Int32)} {m_savedMany : Int32} {m_aside : (Nat → Int32)} {m_sent : (Nat → Int32)} {m_text : (Nat → Int32)} {m_length : Int32} {m_way : (Nat → Int32)} {m_crossed : Int32} {m_wayCost : Int32} {m_isWay : Int32} {m_next : Int32} {m_start : Int32} {m_token : Int32} {m_number : Int32} {m_letters : Int64} {m_isWrong : Int32} {m_sums : (Nat → Int32)} {m_steps : (Nat → Int32)} {m_chosen : Int32} {m_passed : (Nat → Int32)} {m_passedMany : Int32} {m_passedCost : Int32} {m_reach : (Nat → Int32)} {res : Int32}  {H : Heap} {locs : List Loc} {ls : Array Slot} (hw : zW Z A (wX7 Z Am m_thrown m_s m_saved m_savedMany m_aside m_sent m_text m_length m_way m_crossed m_wayCost m_isWay m_next m_start m_token m_number m_letters m_isWrong m_sums m_steps m_chosen m_passed m_passedMany m_passedCost m_reach) s.heap H locs) (hl : lv_has ls 4 [(0, .ref (Am 0)), (1, .int v1), (2, .int v2)]) (h : uX7_refusal_19 v1 v2 k0 m_s m_passedMany = some res) : W p l e rmX7_refusal s m args below meth c H locs 0 0 (MQ below (zQi Z res (wX7 Z Am m_thrown m_s m_saved m_savedMany m_aside m_sent m_text m_length m_way m_crossed m_wayCost m_isWay m_next m_start m_token m_number m_letters m_isWrong m_sums m_steps m_chosen m_passed m_passedMany m_passedCost m_reach) A) args s 0 0 A) (F0 m 19 ls [.int k0]) := by
  unfold uX7_refusal_19 at h
  refine r_istore_n E [(3, .int k0), (0, .ref (Am 0)), (1, .int v1), (2, .int v2)] hl dX7_refusal_19 rfl (by decide) rfl (fun ls hl => ?_)
  refine r_iload_n E hl 0 rfl dX7_refusal_20 rfl ?_
  refine r_if_eq E 36 dX7_refusal_21 (by decide) (fun hc => ?_) (fun hc => ?_)
  · replace h := ite_t hc h
    refine r_aload_n E hl 1 rfl dX7_refusal_36 rfl ?_
    refine r_iload_n E hl 2 rfl dX7_refusal_37 rfl ?_
    refine r_bipush E 16 dX7_refusal_38 (by decide) ?_
    refine r_isub E dX7_refusal_40 ?_
    refine r_iconst E 3 dX7_refusal_41 (by decide) ?_
    obtain ⟨y1, hy1, h⟩ := bd_some h
    refine r_callVAi E hw (mX7_linkPart l Z _ Am m_thrown m_s m_saved m_savedMany m_aside m_sent m_text m_length m_way m_crossed m_wayCost m_isWay m_next m_start m_token m_number m_letters m_isWrong m_sums m_steps m_chosen m_passed m_passedMany m_passedCost m_reach (v1 - (16 : Int32)) (3 : Int32) hy1) kL_X7_62 kI_X7_linkPart kS_X7_linkPart kN_X7 kC_X7_linkPart rfl rfl hdX7_linkPart ⟨Nat.le_of_ble_eq_true rfl, Nat.le_of_ble_eq_true rfl⟩ 0 rfl rfl rfl rfl hl [] rfl (Nat.le_of_ble_eq_true rfl) dX7_refusal_42 ⟨Nat.zero_le _, Nat.zero_le _⟩ (fun H locs hw => ?_)
    exact vX7_refusal_45 E  hw (lv_sub hl [1, 2, 3, 0] rfl) h
  · replace h := ite_f hc h
    refine r_aload_n E hl 1 rfl dX7_refusal_24 rfl ?_
    refine r_iload_n E hl 2 rfl dX7_refusal_25 rfl ?_
    refine r_bipush E 32 dX7_refusal_26 (by decide) ?_
    refine r_isub E dX7_refusal_28 ?_
    refine r_iconst E 3 dX7_refusal_29 (by decide) ?_
    obtain ⟨y3, hy3, h⟩ := bd_some h
    refine r_callVAi E hw (mX7_tunnelPart l Z _ Am m_thrown m_s m_saved m_savedMany m_aside m_sent m_text m_length m_way m_crossed m_wayCost m_isWay m_next m_start m_token m_number m_letters m_isWrong m_sums m_steps m_chosen m_passed m_passedMany m_passedCost m_reach (v1 - (32 : Int32)) (3 : Int32) hy3) kL_X7_106 kI_X7_tunnelPart kS_X7_tunnelPart kN_X7 kC_X7_tunnelPart rfl rfl hdX7_tunnelPart ⟨Nat.le_of_ble_eq_true rfl, Nat.le_of_ble_eq_true rfl⟩ 0 rfl rfl rfl rfl hl [] rfl (Nat.le_of_ble_eq_true rfl) dX7_refusal_30 ⟨Nat.zero_le _, Nat.zero_le _⟩ (fun H locs hw => ?_)
    refine r_goto E 45 dX7_refusal_33 (by decide) ?_
    exact vX7_refusal_45 E  hw (lv_sub hl [1, 2, 3, 0] rfl) h
set_option maxRecDepth 100000 in
set_option maxHeartbeats 4000000 in
theorem mX7_refusal (l : Launch) (Z : zT) (sz : Nat) (Am : Nat → Nat) (m_thrown : Int32) (m_s : (Nat → Int32)) (m_saved : (Nat → Int32)) (m_savedMany : Int32) (m_aside : (Nat → Int32)) (m_sent : (Nat → Int32)) (m_text : (Nat → Int32)) (m_length : Int32) (m_way : (Nat → Int32)) (m_crossed : Int32) (m_wayCost : Int32) (m_isWay : Int32) (m_next : Int32) (m_start : Int32) (m_token : Int32) (m_number : Int32) (m_letters : Int64) (m_isWrong : Int32) (m_sums : (Nat → Int32)) (m_steps : (Nat → Int32)) (m_chosen : Int32) (m_passed : (Nat → Int32)) (m_passedMany : Int32) (m_passedCost : Int32) (m_reach : (Nat → Int32)) (v1 : Int32) (v2 : Int32) {res : Int32} (h : fX7_refusal v1 v2 m_s m_passedMany = some res) : Met l yX7_refusal (Cond.code yX7_refusal cX7_refusal 4 (some .int) :: zWs) rmX7_refusal (zP Z (wX7 Z Am m_thrown m_s m_saved m_savedMany m_aside m_sent m_text m_length m_way m_crossed m_wayCost m_isWay m_next m_start m_token m_number m_letters m_isWrong m_sums m_steps m_chosen m_passed m_passedMany m_passedCost m_reach) sz [.ref (Am 0), .int v1, .int v2]) (zQi Z res (wX7 Z Am m_thrown m_s m_saved m_savedMany m_aside m_sent m_text m_length m_way m_crossed m_wayCost m_isWay m_next m_start m_token m_number m_letters m_isWrong m_sums m_steps m_chosen m_passed m_passedMany m_passedCost m_reach) (va_A (wX7 Z Am m_thrown m_s m_saved m_savedMany m_aside m_sent m_text m_length m_way m_crossed m_wayCost m_isWay m_next m_start m_token m_number m_letters m_isWrong m_sums m_steps m_chosen m_passed m_passedMany m_passedCost m_reach) sz)) 0 0 (va_A (wX7 Z Am m_thrown m_s m_saved m_savedMany m_aside m_sent m_text m_length m_way m_crossed m_wayCost m_isWay m_next m_start m_token m_number m_letters m_isWrong m_sums m_steps m_chosen m_passed m_passedMany m_passedCost m_reach) sz) := by
  refine zMet (own := RX7) (fun A => zQi Z res (wX7 Z Am m_thrown m_s m_saved m_savedMany m_aside m_sent m_text m_length m_way m_crossed m_wayCost m_isWay m_next m_start m_token m_number m_letters m_isWrong m_sums m_steps m_chosen m_passed m_passedMany m_passedCost m_reach) A) (by decide) rfl (Nat.le_of_ble_eq_true rfl) ?_
  intro p e s m args below meth c ls A E hw hl
  unfold fX7_refusal at h
  refine r_iload_n E hl 1 rfl dX7_refusal_0 rfl ?_
  refine r_bipush E (-9) dX7_refusal_1 (by decide) ?_
  refine r_icmp_ne E 8 dX7_refusal_3 (by decide) (fun hc => ?_) (fun hc => ?_)
  · replace h := ite_f hc h
    refine r_iload_n E hl 1 rfl dX7_refusal_8 rfl ?_
    refine r_bipush E 32 dX7_refusal_9 (by decide) ?_
    refine r_icmp_lt E 18 dX7_refusal_11 (by decide) (fun hc => ?_) (fun hc => ?_)
    · replace h := ite_t hc h
      refine r_iconst E 0 dX7_refusal_18 (by decide) ?_
      exact vX7_refusal_19 E  hw hl h
    · replace h := ite_f hc h
      refine r_iconst E 1 dX7_refusal_14 (by decide) ?_
      refine r_goto E 19 dX7_refusal_15 (by decide) ?_
      exact vX7_refusal_19 E  hw hl h
  · replace h := ite_t hc h
    refine r_iconst E 1 dX7_refusal_6 (by decide) ?_
    obtain rfl := Option.some.inj h
    exact r_iret E hw dX7_refusal_7
abbrev rmX7_carry : Room := { frames := 6, cells := 0, slots := 0, locals := 149 }

set_option maxRecDepth 100000 in
set_option maxHeartbeats 4000000 in
theorem vX7_carry_232 {Z : zT} {p : Program} {l : Launch} {e : Env} {s : State} {m : MethodId} {args : Array Value} {below : List Frame} {meth : Method} {c : Code} {A : Nat → Prop} (E : zE Z p s m args meth c RX7 cX7_carry 9 (some .int) A) {Am : Nat → Nat} {v1 : Int32} {v2 : Int32} {v3 : Int32} {k0 : Int32} {m_thrown : Int32} {m_s : (Nat → Int32)} {m_saved : (Nat → Int32)} {m_savedMany : Int32} {m_aside : (Nat → Int32)} {m_sent : (Nat → Int32)} {m_text : (Nat → Int32)} {m_length : Int32} {m_way : (Nat → Int32)} {m_crossed : Int32} {m_wayCost : Int32} {m_isWay : Int32} {m_next : Int32} {m_start : Int32} {m_token : Int32} {m_number : Int32} {m_letters : Int64} {m_isWrong : Int32} {m_sums : (Nat → Int32)} {m_steps : (Nat → Int32)} {m_chosen : Int32} {m_passed : (Nat → Int32)} {m_passedMany : Int32} {m_passedCost : Int32} {m_reach : (Nat → Int32)} {res : Int32 × (Nat → Int32) × (Nat → Int32) × Int32 × (Nat → Int32) × Int32 × Int32} {q1 : (Int32 × Int32 × (Nat → Int32) × (Nat → Int32) × Int32 × (Nat → Int32) × Int32 × Int32) ⊕ (Int32 × (Nat → Int32) × (Nat → Int32) × Int32 × (Nat → Int32) × Int32 × Int32)} (hb1 : ∀ b : Int32 × Int32 × (Nat → Int32) × (Nat → Int32) × Int32 × (Nat → Int32) × Int32 × Int32, q1 = .inl b → ∀ (H : Heap) (locs : List Loc) (ls : Array Slot), zW Z A (wX7 Z Am m_thrown m_s m_saved m_savedMany m_aside m_sent m_text m_length m_way m_crossed m_wayCost m_isWay m_next m_start m_token m_number m_letters m_isWrong b.2.2.1 b.2.2.2.1 b.2.2.2.2.1 b.2.2.2.2.2.1 b.2.2.2.2.2.2.1 b.2.2.2.2.2.2.2 m_reach) s.heap H locs → lv_has ls 9 [(0, .ref (Am 0)), (1, .int v1), (2, .int v2), (3, .int b.1), (4, .int b.2.1)] → W p l e rmX7_carry s m args below meth c H locs 0 0 (MQ below (zQi Z res.1 (wX7 Z Am m_thrown m_s m_saved m_savedMany m_aside m_sent m_text m_length m_way m_crossed m_wayCost m_isWay m_next m_start m_token m_number m_letters m_isWrong res.2.1 res.2.2.1 res.2.2.2.1 res.2.2.2.2.1 res.2.2.2.2.2.1 res.2.2.2.2.2.2 m_reach) A) args s 0 0 A) (F0 m 23 ls [])) (hr1 : ∀ r' , q1 = .inr r' → r' = res) {H : Heap} {locs : List Loc} {ls : Array Slot} (hw : zW Z A (wX7 Z Am m_thrown m_s m_saved m_savedMany m_aside m_sent m_text m_length m_way m_crossed m_wayCost m_isWay m_next m_start m_token m_number m_letters m_isWrong m_sums m_steps m_chosen m_passed m_passedMany m_passedCost m_reach) s.heap H locs) (hl : lv_has ls 9 [(0, .ref (Am 0)), (1, .int v1), (2, .int v2), (3, .int v3)]) (h : uX7_carry_232 v3 k0 m_sums m_steps m_chosen m_passed m_passedMany m_passedCost = some q1) : W p l e rmX7_carry s m args below meth c H locs 0 0 (MQ below (zQi Z res.1 (wX7 Z Am m_thrown m_s m_saved m_savedMany m_aside m_sent m_text m_length m_way m_crossed m_wayCost m_isWay m_next m_start m_token m_number m_letters m_isWrong res.2.1 res.2.2.1 res.2.2.2.1 res.2.2.2.2.1 res.2.2.2.2.2.1 res.2.2.2.2.2.2 m_reach) A) args s 0 0 A) (F0 m 232 ls [.int k0]) := by
  unfold uX7_carry_232 at h
  refine r_istore E [(4, .int k0), (0, .ref (Am 0)), (1, .int v1), (2, .int v2), (3, .int v3)] hl dX7_carry_232 (by decide) rfl (fun ls hl => ?_)
  refine r_goto E 23 dX7_carry_234 (by decide) ?_
  exact hb1 _ (Option.some.inj h).symm _ _ _ hw (lv_sub hl [1, 2, 3, 4, 0] rfl)
set_option maxRecDepth 100000 in
set_option maxHeartbeats 4000000 in
theorem vX7_carry_230 {Z : zT} {p : Program} {l : Launch} {e : Env} {s : State} {m : MethodId} {args : Array Value} {below : List Frame} {meth : Method} {c : Code} {A : Nat → Prop} (E : zE Z p s m args meth c RX7 cX7_carry 9 (some .int) A) {Am : Nat → Nat} {v1 : Int32} {v2 : Int32} {v3 : Int32} {v4 : Int32} {m_thrown : Int32} {m_s : (Nat → Int32)} {m_saved : (Nat → Int32)} {m_savedMany : Int32} {m_aside : (Nat → Int32)} {m_sent : (Nat → Int32)} {m_text : (Nat → Int32)} {m_length : Int32} {m_way : (Nat → Int32)} {m_crossed : Int32} {m_wayCost : Int32} {m_isWay : Int32} {m_next : Int32} {m_start : Int32} {m_token : Int32} {m_number : Int32} {m_letters : Int64} {m_isWrong : Int32} {m_sums : (Nat → Int32)} {m_steps : (Nat → Int32)} {m_chosen : Int32} {m_passed : (Nat → Int32)} {m_passedMany : Int32} {m_passedCost : Int32} {m_reach : (Nat → Int32)} {res : Int32 × (Nat → Int32) × (Nat → Int32) × Int32 × (Nat → Int32) × Int32 × Int32} {q1 : (Int32 × Int32 × (Nat → Int32) × (Nat → Int32) × Int32 × (Nat → Int32) × Int32 × Int32) ⊕ (Int32 × (Nat → Int32) × (Nat → Int32) × Int32 × (Nat → Int32) × Int32 × Int32)} (hb1 : ∀ b : Int32 × Int32 × (Nat → Int32) × (Nat → Int32) × Int32 × (Nat → Int32) × Int32 × Int32, q1 = .inl b → ∀ (H : Heap) (locs : List Loc) (ls : Array Slot), zW Z A (wX7 Z Am m_thrown m_s m_saved m_savedMany m_aside m_sent m_text m_length m_way m_crossed m_wayCost m_isWay m_next m_start m_token m_number m_letters m_isWrong b.2.2.1 b.2.2.2.1 b.2.2.2.2.1 b.2.2.2.2.2.1 b.2.2.2.2.2.2.1 b.2.2.2.2.2.2.2 m_reach) s.heap H locs → lv_has ls 9 [(0, .ref (Am 0)), (1, .int v1), (2, .int v2), (3, .int b.1), (4, .int b.2.1)] → W p l e rmX7_carry s m args below meth c H locs 0 0 (MQ below (zQi Z res.1 (wX7 Z Am m_thrown m_s m_saved m_savedMany m_aside m_sent m_text m_length m_way m_crossed m_wayCost m_isWay m_next m_start m_token m_number m_letters m_isWrong res.2.1 res.2.2.1 res.2.2.2.1 res.2.2.2.2.1 res.2.2.2.2.2.1 res.2.2.2.2.2.2 m_reach) A) args s 0 0 A) (F0 m 23 ls [])) (hr1 : ∀ r' , q1 = .inr r' → r' = res) {H : Heap} {locs : List Loc} {ls : Array Slot} (hw : zW Z A (wX7 Z Am m_thrown m_s m_saved m_savedMany m_aside m_sent m_text m_length m_way m_crossed m_wayCost m_isWay m_next m_start m_token m_number m_letters m_isWrong m_sums m_steps m_chosen m_passed m_passedMany m_passedCost m_reach) s.heap H locs) (hl : lv_has ls 9 [(0, .ref (Am 0)), (1, .int v1), (2, .int v2), (3, .int v3), (4, .int v4)]) (h : uX7_carry_230 v3 v4 m_sums m_steps m_chosen m_passed m_passedMany m_passedCost = some q1) : W p l e rmX7_carry s m args below meth c H locs 0 0 (MQ below (zQi Z res.1 (wX7 Z Am m_thrown m_s m_saved m_savedMany m_aside m_sent m_text m_length m_way m_crossed m_wayCost m_isWay m_next m_start m_token m_number m_letters m_isWrong res.2.1 res.2.2.1 res.2.2.2.1 res.2.2.2.2.1 res.2.2.2.2.2.1 res.2.2.2.2.2.2 m_reach) A) args s 0 0 A) (F0 m 230 ls []) := by
  unfold uX7_carry_230 at h
  refine r_iload E hl 4 rfl dX7_carry_230 ?_
  exact vX7_carry_232 E hb1 hr1 hw (lv_sub hl [0, 1, 2, 3] rfl) h
set_option maxRecDepth 100000 in
set_option maxHeartbeats 4000000 in
theorem vX7_carry_207 {Z : zT} {p : Program} {l : Launch} {e : Env} {s : State} {m : MethodId} {args : Array Value} {below : List Frame} {meth : Method} {c : Code} {A : Nat → Prop} (E : zE Z p s m args meth c RX7 cX7_carry 9 (some .int) A) {Am : Nat → Nat} {v1 : Int32} {v2 : Int32} {v3 : Int32} {v4 : Int32} {m_thrown : Int32} {m_s : (Nat → Int32)} {m_saved : (Nat → Int32)} {m_savedMany : Int32} {m_aside : (Nat → Int32)} {m_sent : (Nat → Int32)} {m_text : (Nat → Int32)} {m_length : Int32} {m_way : (Nat → Int32)} {m_crossed : Int32} {m_wayCost : Int32} {m_isWay : Int32} {m_next : Int32} {m_start : Int32} {m_token : Int32} {m_number : Int32} {m_letters : Int64} {m_isWrong : Int32} {m_sums : (Nat → Int32)} {m_steps : (Nat → Int32)} {m_chosen : Int32} {m_passed : (Nat → Int32)} {m_passedMany : Int32} {m_passedCost : Int32} {m_reach : (Nat → Int32)} {res : Int32 × (Nat → Int32) × (Nat → Int32) × Int32 × (Nat → Int32) × Int32 × Int32} {q1 : (Int32 × Int32 × (Nat → Int32) × (Nat → Int32) × Int32 × (Nat → Int32) × Int32 × Int32) ⊕ (Int32 × (Nat → Int32) × (Nat → Int32) × Int32 × (Nat → Int32) × Int32 × Int32)} (hb1 : ∀ b : Int32 × Int32 × (Nat → Int32) × (Nat → Int32) × Int32 × (Nat → Int32) × Int32 × Int32, q1 = .inl b → ∀ (H : Heap) (locs : List Loc) (ls : Array Slot), zW Z A (wX7 Z Am m_thrown m_s m_saved m_savedMany m_aside m_sent m_text m_length m_way m_crossed m_wayCost m_isWay m_next m_start m_token m_number m_letters m_isWrong b.2.2.1 b.2.2.2.1 b.2.2.2.2.1 b.2.2.2.2.2.1 b.2.2.2.2.2.2.1 b.2.2.2.2.2.2.2 m_reach) s.heap H locs → lv_has ls 9 [(0, .ref (Am 0)), (1, .int v1), (2, .int v2), (3, .int b.1), (4, .int b.2.1)] → W p l e rmX7_carry s m args below meth c H locs 0 0 (MQ below (zQi Z res.1 (wX7 Z Am m_thrown m_s m_saved m_savedMany m_aside m_sent m_text m_length m_way m_crossed m_wayCost m_isWay m_next m_start m_token m_number m_letters m_isWrong res.2.1 res.2.2.1 res.2.2.2.1 res.2.2.2.2.1 res.2.2.2.2.2.1 res.2.2.2.2.2.2 m_reach) A) args s 0 0 A) (F0 m 23 ls [])) (hr1 : ∀ r' , q1 = .inr r' → r' = res) {H : Heap} {locs : List Loc} {ls : Array Slot} (hw : zW Z A (wX7 Z Am m_thrown m_s m_saved m_savedMany m_aside m_sent m_text m_length m_way m_crossed m_wayCost m_isWay m_next m_start m_token m_number m_letters m_isWrong m_sums m_steps m_chosen m_passed m_passedMany m_passedCost m_reach) s.heap H locs) (hl : lv_has ls 9 [(0, .ref (Am 0)), (1, .int v1), (2, .int v2), (3, .int v3), (4, .int v4)]) (h : uX7_carry_207 v3 v4 m_s m_sums m_steps m_chosen m_passed m_passedMany m_passedCost = some q1) : W p l e rmX7_carry s m args below meth c H locs 0 0 (MQ below (zQi Z res.1 (wX7 Z Am m_thrown m_s m_saved m_savedMany m_aside m_sent m_text m_length m_way m_crossed m_wayCost m_isWay m_next m_start m_token m_number m_letters m_isWrong res.2.1 res.2.2.1 res.2.2.2.1 res.2.2.2.2.1 res.2.2.2.2.2.1 res.2.2.2.2.2.2 m_reach) A) args s 0 0 A) (F0 m 207 ls []) := by
  unfold uX7_carry_207 at h
  refine r_iload E hl 4 rfl dX7_carry_207 ?_
  refine r_bipush E (-9) dX7_carry_209 (by decide) ?_
  refine r_icmp_eq E 230 dX7_carry_211 (by decide) (fun hc => ?_) (fun hc => ?_)
  · replace h := ite_t hc h
    exact vX7_carry_230 E hb1 hr1 hw hl h
  · replace h := ite_f hc h
    refine r_iload_n E hl 3 rfl dX7_carry_214 rfl ?_
    refine r_aload_n E hl 0 rfl dX7_carry_215 rfl ?_
    refine r_iload E hl 4 rfl dX7_carry_216 ?_
    refine r_iconst E 1 dX7_carry_218 (by decide) ?_
    obtain ⟨y11, hy11, h⟩ := bd_some h
    refine r_callVAi E hw (mX7_tunnelPart l Z _ Am m_thrown m_s m_saved m_savedMany m_aside m_sent m_text m_length m_way m_crossed m_wayCost m_isWay m_next m_start m_token m_number m_letters m_isWrong m_sums m_steps m_chosen m_passed m_passedMany m_passedCost m_reach v4 (1 : Int32) hy11) kL_X7_106 kI_X7_tunnelPart kS_X7_tunnelPart kN_X7 kC_X7_tunnelPart rfl rfl hdX7_tunnelPart ⟨Nat.le_of_ble_eq_true rfl, Nat.le_of_ble_eq_true rfl⟩ 0 rfl rfl rfl rfl hl [.int v3] rfl (Nat.le_of_ble_eq_true rfl) dX7_carry_219 ⟨Nat.zero_le _, Nat.zero_le _⟩ (fun H locs hw => ?_)
    refine r_icmp_ne E 230 dX7_carry_222 (by decide) (fun hc => ?_) (fun hc => ?_)
    · replace h := ite_f hc h
      exact vX7_carry_230 E hb1 hr1 hw hl h
    · replace h := ite_t hc h
      refine r_bipush E (-9) dX7_carry_225 (by decide) ?_
      refine r_goto E 232 dX7_carry_227 (by decide) ?_
      exact vX7_carry_232 E hb1 hr1 hw (lv_sub hl [0, 1, 2, 3] rfl) h
set_option maxRecDepth 100000 in
set_option maxHeartbeats 4000000 in
theorem vX7_carry_117 {Z : zT} {p : Program} {l : Launch} {e : Env} {s : State} {m : MethodId} {args : Array Value} {below : List Frame} {meth : Method} {c : Code} {A : Nat → Prop} (E : zE Z p s m args meth c RX7 cX7_carry 9 (some .int) A) {Am : Nat → Nat} {v1 : Int32} {v2 : Int32} {v3 : Int32} {v4 : Int32} {v6 : Int32} {k1 : Int32} {k2 : Int32} {k3 : Int32} {k4 : Int32} {m_thrown : Int32} {m_s : (Nat → Int32)} {m_saved : (Nat → Int32)} {m_savedMany : Int32} {m_aside : (Nat → Int32)} {m_sent : (Nat → Int32)} {m_text : (Nat → Int32)} {m_length : Int32} {m_way : (Nat → Int32)} {m_crossed : Int32} {m_wayCost : Int32} {m_isWay : Int32} {m_next : Int32} {m_start : Int32} {m_token : Int32} {m_number : Int32} {m_letters : Int64} {m_isWrong : Int32} {m_sums : (Nat → Int32)} {m_steps : (Nat → Int32)} {m_chosen : Int32} {m_passed : (Nat → Int32)} {m_passedMany : Int32} {m_passedCost : Int32} {m_reach : (Nat → Int32)} {res : Int32 × (Nat → Int32) × (Nat → Int32) × Int32 × (Nat → Int32) × Int32 × Int32} {q1 : (Int32 × Int32 × (Nat → Int32) × (Nat → Int32) × Int32 × (Nat → Int32) × Int32 × Int32) ⊕ (Int32 × (Nat → Int32) × (Nat → Int32) × Int32 × (Nat → Int32) × Int32 × Int32)} (hb1 : ∀ b : Int32 × Int32 × (Nat → Int32) × (Nat → Int32) × Int32 × (Nat → Int32) × Int32 × Int32, q1 = .inl b → ∀ (H : Heap) (locs : List Loc) (ls : Array Slot), zW Z A (wX7 Z Am m_thrown m_s m_saved m_savedMany m_aside m_sent m_text m_length m_way m_crossed m_wayCost m_isWay m_next m_start m_token m_number m_letters m_isWrong b.2.2.1 b.2.2.2.1 b.2.2.2.2.1 b.2.2.2.2.2.1 b.2.2.2.2.2.2.1 b.2.2.2.2.2.2.2 m_reach) s.heap H locs → lv_has ls 9 [(0, .ref (Am 0)), (1, .int v1), (2, .int v2), (3, .int b.1), (4, .int b.2.1)] → W p l e rmX7_carry s m args below meth c H locs 0 0 (MQ below (zQi Z res.1 (wX7 Z Am m_thrown m_s m_saved m_savedMany m_aside m_sent m_text m_length m_way m_crossed m_wayCost m_isWay m_next m_start m_token m_number m_letters m_isWrong res.2.1 res.2.2.1 res.2.2.2.1 res.2.2.2.2.1 res.2.2.2.2.2.1 res.2.2.2.2.2.2 m_reach) A) args s 0 0 A) (F0 m 23 ls [])) (hr1 : ∀ r' , q1 = .inr r' → r' = res) {H : Heap} {locs : List Loc} {ls : Array Slot} (hw : zW Z A (wX7 Z Am m_thrown m_s m_saved m_savedMany m_aside m_sent m_text m_length m_way m_crossed m_wayCost m_isWay m_next m_start m_token m_number m_letters m_isWrong m_sums m_steps m_chosen m_passed m_passedMany m_passedCost m_reach) s.heap H locs) (hl : lv_has ls 9 [(0, .ref (Am 0)), (1, .int v1), (2, .int v2), (3, .int v3), (4, .int v4), (6, .int v6)]) (h : uX7_carry_117 v3 v4 v6 k1 k2 k3 k4 m_s m_sums m_steps m_chosen m_passed m_passedMany m_passedCost = some q1) : W p l e rmX7_carry s m args below meth c H locs 0 0 (MQ below (zQi Z res.1 (wX7 Z Am m_thrown m_s m_saved m_savedMany m_aside m_sent m_text m_length m_way m_crossed m_wayCost m_isWay m_next m_start m_token m_number m_letters m_isWrong res.2.1 res.2.2.1 res.2.2.2.1 res.2.2.2.2.1 res.2.2.2.2.2.1 res.2.2.2.2.2.2 m_reach) A) args s 0 0 A) (F0 m 117 ls [.int k4, .int k3, .int k2, .int k1, .ref (Am 0)]) := by
  unfold uX7_carry_117 at h
  obtain ⟨y6, hy6, h⟩ := bd_some h
  refine r_callVAi E hw (mX7_choose l Z _ Am m_thrown m_s m_saved m_savedMany m_aside m_sent m_text m_length m_way m_crossed m_wayCost m_isWay m_next m_start m_token m_number m_letters m_isWrong m_sums m_steps m_chosen m_passed m_passedMany m_passedCost m_reach k1 k2 k3 k4 hy6) kL_X7_272 kI_X7_choose kS_X7_choose kN_X7 kC_X7_choose rfl rfl hdX7_choose ⟨Nat.le_of_ble_eq_true rfl, Nat.le_of_ble_eq_true rfl⟩ 0 rfl rfl rfl rfl hl [] rfl (Nat.le_of_ble_eq_true rfl) dX7_carry_117 ⟨Nat.zero_le _, Nat.zero_le _⟩ (fun H locs hw => ?_)
  refine r_istore E [(7, .int y6.1), (0, .ref (Am 0)), (1, .int v1), (2, .int v2), (3, .int v3), (4, .int v4), (6, .int v6)] hl dX7_carry_120 (by decide) rfl (fun ls hl => ?_)
  refine r_aload_n E hl 1 rfl dX7_carry_122 rfl ?_
  refine r_iload E hl 0 rfl dX7_carry_123 ?_
  refine r_iload E hl 6 rfl dX7_carry_125 ?_
  obtain ⟨y7, hy7, h⟩ := bd_some h
  refine r_callVAi E hw (mX7_refusal l Z _ Am m_thrown m_s m_saved m_savedMany m_aside m_sent m_text m_length m_way m_crossed m_wayCost m_isWay m_next m_start m_token m_number m_letters m_isWrong m_sums m_steps y6.2 m_passed m_passedMany m_passedCost m_reach y6.1 v6 hy7) kL_X7_282 kI_X7_refusal kS_X7_refusal kN_X7 kC_X7_refusal rfl rfl hdX7_refusal ⟨Nat.le_of_ble_eq_true rfl, Nat.le_of_ble_eq_true rfl⟩ 0 rfl rfl rfl rfl hl [] rfl (Nat.le_of_ble_eq_true rfl) dX7_carry_127 ⟨Nat.zero_le _, Nat.zero_le _⟩ (fun H locs hw => ?_)
  refine r_istore E [(8, .int y7), (7, .int y6.1), (0, .ref (Am 0)), (1, .int v1), (2, .int v2), (3, .int v3), (4, .int v4), (6, .int v6)] hl dX7_carry_130 (by decide) rfl (fun ls hl => ?_)
  refine r_iload E hl 0 rfl dX7_carry_132 ?_
  refine r_if_le E 140 dX7_carry_134 (by decide) (fun hc => ?_) (fun hc => ?_)
  · replace h := ite_t hc h
    refine r_iload E hl 1 rfl dX7_carry_140 ?_
    refine r_bipush E 32 dX7_carry_142 (by decide) ?_
    refine r_icmp_lt E 157 dX7_carry_144 (by decide) (fun hc => ?_) (fun hc => ?_)
    · replace h := ite_t hc h
      refine r_aload_n E hl 2 rfl dX7_carry_157 rfl ?_
      refine r_iload E hl 1 rfl dX7_carry_158 ?_
      refine r_bipush E 16 dX7_carry_160 (by decide) ?_
      refine r_isub E dX7_carry_162 ?_
      refine r_iload_n E hl 5 rfl dX7_carry_163 rfl ?_
      obtain ⟨y8, hy8, h⟩ := bd_some h
      refine r_callVAi E hw (mX7_other l Z _ Am m_thrown m_s m_saved m_savedMany m_aside m_sent m_text m_length m_way m_crossed m_wayCost m_isWay m_next m_start m_token m_number m_letters m_isWrong m_sums m_steps y6.2 m_passed m_passedMany m_passedCost m_reach (y6.1 - (16 : Int32)) v3 hy8) kL_X7_219 kI_X7_other kS_X7_other kN_X7 kC_X7_other rfl rfl hdX7_other ⟨Nat.le_of_ble_eq_true rfl, Nat.le_of_ble_eq_true rfl⟩ 0 rfl rfl rfl rfl hl [] rfl (Nat.le_of_ble_eq_true rfl) dX7_carry_164 ⟨Nat.zero_le _, Nat.zero_le _⟩ (fun H locs hw => ?_)
      refine r_istore_n E [(3, .int y8), (8, .int y7), (7, .int y6.1), (0, .ref (Am 0)), (1, .int v1), (2, .int v2), (4, .int v4), (6, .int v6)] hl dX7_carry_167 rfl (by decide) rfl (fun ls hl => ?_)
      refine r_aload_n E hl 3 rfl dX7_carry_168 rfl ?_
      refine r_dup E dX7_carry_169 rfl ?_
      refine r_get E kW_X7 hw 0 rfl rfl 22 (by decide) kF_X7_276 rfl dX7_carry_170 ?_
      refine r_iconst E 1 dX7_carry_173 (by decide) ?_
      refine r_iadd E dX7_carry_174 ?_
      refine r_put E (wX7 Z Am m_thrown m_s m_saved m_savedMany m_aside m_sent m_text m_length m_way m_crossed m_wayCost m_isWay m_next m_start m_token m_number m_letters m_isWrong m_sums m_steps y6.2 m_passed (m_passedMany + (1 : Int32)) m_passedCost m_reach) kW_X7 tyX7_ok nmX7 hw 0 rfl rfl 22 (by decide) kF_X7_276 rfl rfl rfl (Nat.le_of_ble_eq_true rfl) rfl dX7_carry_175 (fun H locs hw => ?_)
      refine r_aload_n E hl 3 rfl dX7_carry_178 rfl ?_
      refine r_get E kW_X7 hw 0 rfl rfl 21 (by decide) kF_X7_34 rfl dX7_carry_179 ?_
      refine r_aload_n E hl 3 rfl dX7_carry_182 rfl ?_
      refine r_get E kW_X7 hw 0 rfl rfl 22 (by decide) kF_X7_276 rfl dX7_carry_183 ?_
      refine r_iload_n E hl 0 rfl dX7_carry_186 rfl ?_
      obtain ⟨hg9, h⟩ := gd_some h
      refine r_iast E (wX7 Z Am m_thrown m_s m_saved m_savedMany m_aside m_sent m_text m_length m_way m_crossed m_wayCost m_isWay m_next m_start m_token m_number m_letters m_isWrong m_sums m_steps y6.2 (upd m_passed (m_passedMany + (1 : Int32)).toNatClampNeg y8) (m_passedMany + (1 : Int32)) m_passedCost m_reach) hw 9 rfl hg9 rfl dX7_carry_187 (fun H locs hw => ?_)
      refine r_aload_n E hl 3 rfl dX7_carry_188 rfl ?_
      refine r_dup E dX7_carry_189 rfl ?_
      refine r_get E kW_X7 hw 0 rfl rfl 23 (by decide) kF_X7_279 rfl dX7_carry_190 ?_
      refine r_aload_n E hl 3 rfl dX7_carry_193 rfl ?_
      refine r_iload E hl 2 rfl dX7_carry_194 ?_
      refine r_bipush E 16 dX7_carry_196 (by decide) ?_
      refine r_isub E dX7_carry_198 ?_
      refine r_iconst E 2 dX7_carry_199 (by decide) ?_
      obtain ⟨y10, hy10, h⟩ := bd_some h
      refine r_callVAi E hw (mX7_linkPart l Z _ Am m_thrown m_s m_saved m_savedMany m_aside m_sent m_text m_length m_way m_crossed m_wayCost m_isWay m_next m_start m_token m_number m_letters m_isWrong m_sums m_steps y6.2 (upd m_passed (m_passedMany + (1 : Int32)).toNatClampNeg y8) (m_passedMany + (1 : Int32)) m_passedCost m_reach (y6.1 - (16 : Int32)) (2 : Int32) hy10) kL_X7_62 kI_X7_linkPart kS_X7_linkPart kN_X7 kC_X7_linkPart rfl rfl hdX7_linkPart ⟨Nat.le_of_ble_eq_true rfl, Nat.le_of_ble_eq_true rfl⟩ 0 rfl rfl rfl rfl hl [.int m_passedCost, .ref (Am 0)] rfl (Nat.le_of_ble_eq_true rfl) dX7_carry_200 ⟨Nat.zero_le _, Nat.zero_le _⟩ (fun H locs hw => ?_)
      refine r_iadd E dX7_carry_203 ?_
      refine r_put E (wX7 Z Am m_thrown m_s m_saved m_savedMany m_aside m_sent m_text m_length m_way m_crossed m_wayCost m_isWay m_next m_start m_token m_number m_letters m_isWrong m_sums m_steps y6.2 (upd m_passed (m_passedMany + (1 : Int32)).toNatClampNeg y8) (m_passedMany + (1 : Int32)) (m_passedCost + y10) m_reach) kW_X7 tyX7_ok nmX7 hw 0 rfl rfl 23 (by decide) kF_X7_279 rfl rfl rfl (Nat.le_of_ble_eq_true rfl) rfl dX7_carry_204 (fun H locs hw => ?_)
      exact vX7_carry_207 E hb1 hr1 hw (lv_sub hl [3, 4, 5, 0, 6] rfl) h
    · replace h := ite_f hc h
      refine r_iload E hl 1 rfl dX7_carry_147 ?_
      refine r_bipush E 32 dX7_carry_149 (by decide) ?_
      refine r_isub E dX7_carry_151 ?_
      obtain ⟨w12, hw12, h⟩ := nm_out h
      refine r_nm hw12 ?_
      refine r_istore E [(4, .int w12), (8, .int y7), (7, .int y6.1), (0, .ref (Am 0)), (1, .int v1), (2, .int v2), (3, .int v3), (6, .int v6)] hl dX7_carry_152 (by decide) rfl (fun ls hl => ?_)
      refine r_goto E 207 dX7_carry_154 (by decide) ?_
      exact vX7_carry_207 E hb1 hr1 hw (lv_sub hl [3, 4, 5, 6, 0] rfl) h
  · replace h := ite_f hc h
    obtain ⟨ro13, h, hro13⟩ := oi_some h
    rw [hr1 _ hro13] at h
    refine r_iload E hl 0 rfl dX7_carry_137 ?_
    obtain rfl := Option.some.inj h
    exact r_iret E hw dX7_carry_139
set_option maxRecDepth 100000 in
set_option maxHeartbeats 4000000 in
theorem vX7_carry_97 {Z : zT} {p : Program} {l : Launch} {e : Env} {s : State} {m : MethodId} {args : Array Value} {below : List Frame} {meth : Method} {c : Code} {A : Nat → Prop} (E : zE Z p s m args meth c RX7 cX7_carry 9 (some .int) A) {Am : Nat → Nat} {v1 : Int32} {v2 : Int32} {v3 : Int32} {v4 : Int32} {v6 : Int32} {k1 : Int32} {k2 : Int32} {k3 : Int32} {k4 : Int32} {m_thrown : Int32} {m_s : (Nat → Int32)} {m_saved : (Nat → Int32)} {m_savedMany : Int32} {m_aside : (Nat → Int32)} {m_sent : (Nat → Int32)} {m_text : (Nat → Int32)} {m_length : Int32} {m_way : (Nat → Int32)} {m_crossed : Int32} {m_wayCost : Int32} {m_isWay : Int32} {m_next : Int32} {m_start : Int32} {m_token : Int32} {m_number : Int32} {m_letters : Int64} {m_isWrong : Int32} {m_sums : (Nat → Int32)} {m_steps : (Nat → Int32)} {m_chosen : Int32} {m_passed : (Nat → Int32)} {m_passedMany : Int32} {m_passedCost : Int32} {m_reach : (Nat → Int32)} {res : Int32 × (Nat → Int32) × (Nat → Int32) × Int32 × (Nat → Int32) × Int32 × Int32} {q1 : (Int32 × Int32 × (Nat → Int32) × (Nat → Int32) × Int32 × (Nat → Int32) × Int32 × Int32) ⊕ (Int32 × (Nat → Int32) × (Nat → Int32) × Int32 × (Nat → Int32) × Int32 × Int32)} (hb1 : ∀ b : Int32 × Int32 × (Nat → Int32) × (Nat → Int32) × Int32 × (Nat → Int32) × Int32 × Int32, q1 = .inl b → ∀ (H : Heap) (locs : List Loc) (ls : Array Slot), zW Z A (wX7 Z Am m_thrown m_s m_saved m_savedMany m_aside m_sent m_text m_length m_way m_crossed m_wayCost m_isWay m_next m_start m_token m_number m_letters m_isWrong b.2.2.1 b.2.2.2.1 b.2.2.2.2.1 b.2.2.2.2.2.1 b.2.2.2.2.2.2.1 b.2.2.2.2.2.2.2 m_reach) s.heap H locs → lv_has ls 9 [(0, .ref (Am 0)), (1, .int v1), (2, .int v2), (3, .int b.1), (4, .int b.2.1)] → W p l e rmX7_carry s m args below meth c H locs 0 0 (MQ below (zQi Z res.1 (wX7 Z Am m_thrown m_s m_saved m_savedMany m_aside m_sent m_text m_length m_way m_crossed m_wayCost m_isWay m_next m_start m_token m_number m_letters m_isWrong res.2.1 res.2.2.1 res.2.2.2.1 res.2.2.2.2.1 res.2.2.2.2.2.1 res.2.2.2.2.2.2 m_reach) A) args s 0 0 A) (F0 m 23 ls [])) (hr1 : ∀ r' , q1 = .inr r' → r' = res) {H : Heap} {locs : List Loc} {ls : Array Slot} (hw : zW Z A (wX7 Z Am m_thrown m_s m_saved m_savedMany m_aside m_sent m_text m_length m_way m_crossed m_wayCost m_isWay m_next m_start m_token m_number m_letters m_isWrong m_sums m_steps m_chosen m_passed m_passedMany m_passedCost m_reach) s.heap H locs) (hl : lv_has ls 9 [(0, .ref (Am 0)), (1, .int v1), (2, .int v2), (3, .int v3), (4, .int v4), (6, .int v6)]) (h : uX7_carry_97 v3 v4 v6 k1 k2 k3 k4 m_s m_sums m_steps m_chosen m_passed m_passedMany m_passedCost = some q1) : W p l e rmX7_carry s m args below meth c H locs 0 0 (MQ below (zQi Z res.1 (wX7 Z Am m_thrown m_s m_saved m_savedMany m_aside m_sent m_text m_length m_way m_crossed m_wayCost m_isWay m_next m_start m_token m_number m_letters m_isWrong res.2.1 res.2.2.1 res.2.2.2.1 res.2.2.2.2.1 res.2.2.2.2.2.1 res.2.2.2.2.2.2 m_reach) A) args s 0 0 A) (F0 m 97 ls [.int k4, .int k3, .int k2, .int k1, .ref (Am 0)]) := by
  unfold uX7_carry_97 at h
  obtain ⟨y5, hy5, h⟩ := bd_some h
  refine r_callVAv E hw (mX7_find l Z _ Am m_thrown m_s m_saved m_savedMany m_aside m_sent m_text m_length m_way m_crossed m_wayCost m_isWay m_next m_start m_token m_number m_letters m_isWrong m_sums m_steps m_chosen m_passed m_passedMany m_passedCost m_reach k1 k2 k3 k4 hy5) kL_X7_268 kI_X7_find kS_X7_find kN_X7 kC_X7_find rfl rfl hdX7_find ⟨Nat.le_of_ble_eq_true rfl, Nat.le_of_ble_eq_true rfl⟩ 0 rfl rfl rfl rfl hl [] rfl (Nat.le_of_ble_eq_true rfl) dX7_carry_97 ⟨Nat.zero_le _, Nat.zero_le _⟩ (fun H locs hw => ?_)
  refine r_aload_n E hl 0 rfl dX7_carry_100 rfl ?_
  refine r_iload_n E hl 3 rfl dX7_carry_101 rfl ?_
  refine r_iload_n E hl 3 rfl dX7_carry_102 rfl ?_
  refine r_iload E hl 5 rfl dX7_carry_103 ?_
  refine r_iload E hl 4 rfl dX7_carry_105 ?_
  refine r_bipush E (-9) dX7_carry_107 (by decide) ?_
  refine r_icmp_ne E 116 dX7_carry_109 (by decide) (fun hc => ?_) (fun hc => ?_)
  · replace h := ite_f hc h
    refine r_iconst E 0 dX7_carry_116 (by decide) ?_
    exact vX7_carry_117 E hb1 hr1 hw hl h
  · replace h := ite_t hc h
    refine r_iconst E 1 dX7_carry_112 (by decide) ?_
    refine r_goto E 117 dX7_carry_113 (by decide) ?_
    exact vX7_carry_117 E hb1 hr1 hw hl h
set_option maxRecDepth 100000 in
set_option maxHeartbeats 4000000 in
theorem vX7_carry_74 {Z : zT} {p : Program} {l : Launch} {e : Env} {s : State} {m : MethodId} {args : Array Value} {below : List Frame} {meth : Method} {c : Code} {A : Nat → Prop} (E : zE Z p s m args meth c RX7 cX7_carry 9 (some .int) A) {Am : Nat → Nat} {v1 : Int32} {v2 : Int32} {v3 : Int32} {v4 : Int32} {v5 : Int32} {k1 : Int32} {m_thrown : Int32} {m_s : (Nat → Int32)} {m_saved : (Nat → Int32)} {m_savedMany : Int32} {m_aside : (Nat → Int32)} {m_sent : (Nat → Int32)} {m_text : (Nat → Int32)} {m_length : Int32} {m_way : (Nat → Int32)} {m_crossed : Int32} {m_wayCost : Int32} {m_isWay : Int32} {m_next : Int32} {m_start : Int32} {m_token : Int32} {m_number : Int32} {m_letters : Int64} {m_isWrong : Int32} {m_sums : (Nat → Int32)} {m_steps : (Nat → Int32)} {m_chosen : Int32} {m_passed : (Nat → Int32)} {m_passedMany : Int32} {m_passedCost : Int32} {m_reach : (Nat → Int32)} {res : Int32 × (Nat → Int32) × (Nat → Int32) × Int32 × (Nat → Int32) × Int32 × Int32} {q1 : (Int32 × Int32 × (Nat → Int32) × (Nat → Int32) × Int32 × (Nat → Int32) × Int32 × Int32) ⊕ (Int32 × (Nat → Int32) × (Nat → Int32) × Int32 × (Nat → Int32) × Int32 × Int32)} (hb1 : ∀ b : Int32 × Int32 × (Nat → Int32) × (Nat → Int32) × Int32 × (Nat → Int32) × Int32 × Int32, q1 = .inl b → ∀ (H : Heap) (locs : List Loc) (ls : Array Slot), zW Z A (wX7 Z Am m_thrown m_s m_saved m_savedMany m_aside m_sent m_text m_length m_way m_crossed m_wayCost m_isWay m_next m_start m_token m_number m_letters m_isWrong b.2.2.1 b.2.2.2.1 b.2.2.2.2.1 b.2.2.2.2.2.1 b.2.2.2.2.2.2.1 b.2.2.2.2.2.2.2 m_reach) s.heap H locs → lv_has ls 9 [(0, .ref (Am 0)), (1, .int v1), (2, .int v2), (3, .int b.1), (4, .int b.2.1)] → W p l e rmX7_carry s m args below meth c H locs 0 0 (MQ below (zQi Z res.1 (wX7 Z Am m_thrown m_s m_saved m_savedMany m_aside m_sent m_text m_length m_way m_crossed m_wayCost m_isWay m_next m_start m_token m_number m_letters m_isWrong res.2.1 res.2.2.1 res.2.2.2.1 res.2.2.2.2.1 res.2.2.2.2.2.1 res.2.2.2.2.2.2 m_reach) A) args s 0 0 A) (F0 m 23 ls [])) (hr1 : ∀ r' , q1 = .inr r' → r' = res) {H : Heap} {locs : List Loc} {ls : Array Slot} (hw : zW Z A (wX7 Z Am m_thrown m_s m_saved m_savedMany m_aside m_sent m_text m_length m_way m_crossed m_wayCost m_isWay m_next m_start m_token m_number m_letters m_isWrong m_sums m_steps m_chosen m_passed m_passedMany m_passedCost m_reach) s.heap H locs) (hl : lv_has ls 9 [(0, .ref (Am 0)), (1, .int v1), (2, .int v2), (3, .int v3), (4, .int v4), (5, .int v5)]) (h : uX7_carry_74 v3 v4 v5 k1 m_s m_sums m_steps m_chosen m_passed m_passedMany m_passedCost = some q1) : W p l e rmX7_carry s m args below meth c H locs 0 0 (MQ below (zQi Z res.1 (wX7 Z Am m_thrown m_s m_saved m_savedMany m_aside m_sent m_text m_length m_way m_crossed m_wayCost m_isWay m_next m_start m_token m_number m_letters m_isWrong res.2.1 res.2.2.1 res.2.2.2.1 res.2.2.2.2.1 res.2.2.2.2.2.1 res.2.2.2.2.2.2 m_reach) A) args s 0 0 A) (F0 m 74 ls [.int k1, .ref (Am 0)]) := by
  unfold uX7_carry_74 at h
  obtain ⟨y4, hy4, h⟩ := bd_some h
  refine r_callVAi E hw (mX7_area l Z _ Am m_thrown m_s m_saved m_savedMany m_aside m_sent m_text m_length m_way m_crossed m_wayCost m_isWay m_next m_start m_token m_number m_letters m_isWrong m_sums m_steps m_chosen m_passed m_passedMany m_passedCost m_reach k1 hy4) kL_X7_66 kI_X7_area kS_X7_area kN_X7 kC_X7_area rfl rfl hdX7_area ⟨Nat.le_of_ble_eq_true rfl, Nat.le_of_ble_eq_true rfl⟩ 0 rfl rfl rfl rfl hl [] rfl (Nat.le_of_ble_eq_true rfl) dX7_carry_74 ⟨Nat.zero_le _, Nat.zero_le _⟩ (fun H locs hw => ?_)
  refine r_istore E [(6, .int y4), (0, .ref (Am 0)), (1, .int v1), (2, .int v2), (3, .int v3), (4, .int v4), (5, .int v5)] hl dX7_carry_77 (by decide) rfl (fun ls hl => ?_)
  refine r_aload_n E hl 1 rfl dX7_carry_79 rfl ?_
  refine r_iload_n E hl 4 rfl dX7_carry_80 rfl ?_
  refine r_iload E hl 6 rfl dX7_carry_81 ?_
  refine r_iload E hl 0 rfl dX7_carry_83 ?_
  refine r_iload E hl 5 rfl dX7_carry_85 ?_
  refine r_bipush E (-9) dX7_carry_87 (by decide) ?_
  refine r_icmp_ne E 96 dX7_carry_89 (by decide) (fun hc => ?_) (fun hc => ?_)
  · replace h := ite_f hc h
    refine r_iconst E 0 dX7_carry_96 (by decide) ?_
    exact vX7_carry_97 E hb1 hr1 hw (lv_sub hl [1, 2, 3, 4, 5, 0] rfl) h
  · replace h := ite_t hc h
    refine r_iconst E 1 dX7_carry_92 (by decide) ?_
    refine r_goto E 97 dX7_carry_93 (by decide) ?_
    exact vX7_carry_97 E hb1 hr1 hw (lv_sub hl [1, 2, 3, 4, 5, 0] rfl) h
set_option maxRecDepth 100000 in
set_option maxHeartbeats 4000000 in
theorem vX7_carry_53 {Z : zT} {p : Program} {l : Launch} {e : Env} {s : State} {m : MethodId} {args : Array Value} {below : List Frame} {meth : Method} {c : Code} {A : Nat → Prop} (E : zE Z p s m args meth c RX7 cX7_carry 9 (some .int) A) {Am : Nat → Nat} {v1 : Int32} {v2 : Int32} {v3 : Int32} {v4 : Int32} {k0 : Int32} {m_thrown : Int32} {m_s : (Nat → Int32)} {m_saved : (Nat → Int32)} {m_savedMany : Int32} {m_aside : (Nat → Int32)} {m_sent : (Nat → Int32)} {m_text : (Nat → Int32)} {m_length : Int32} {m_way : (Nat → Int32)} {m_crossed : Int32} {m_wayCost : Int32} {m_isWay : Int32} {m_next : Int32} {m_start : Int32} {m_token : Int32} {m_number : Int32} {m_letters : Int64} {m_isWrong : Int32} {m_sums : (Nat → Int32)} {m_steps : (Nat → Int32)} {m_chosen : Int32} {m_passed : (Nat → Int32)} {m_passedMany : Int32} {m_passedCost : Int32} {m_reach : (Nat → Int32)} {res : Int32 × (Nat → Int32) × (Nat → Int32) × Int32 × (Nat → Int32) × Int32 × Int32} {q1 : (Int32 × Int32 × (Nat → Int32) × (Nat → Int32) × Int32 × (Nat → Int32) × Int32 × Int32) ⊕ (Int32 × (Nat → Int32) × (Nat → Int32) × Int32 × (Nat → Int32) × Int32 × Int32)} (hb1 : ∀ b : Int32 × Int32 × (Nat → Int32) × (Nat → Int32) × Int32 × (Nat → Int32) × Int32 × Int32, q1 = .inl b → ∀ (H : Heap) (locs : List Loc) (ls : Array Slot), zW Z A (wX7 Z Am m_thrown m_s m_saved m_savedMany m_aside m_sent m_text m_length m_way m_crossed m_wayCost m_isWay m_next m_start m_token m_number m_letters m_isWrong b.2.2.1 b.2.2.2.1 b.2.2.2.2.1 b.2.2.2.2.2.1 b.2.2.2.2.2.2.1 b.2.2.2.2.2.2.2 m_reach) s.heap H locs → lv_has ls 9 [(0, .ref (Am 0)), (1, .int v1), (2, .int v2), (3, .int b.1), (4, .int b.2.1)] → W p l e rmX7_carry s m args below meth c H locs 0 0 (MQ below (zQi Z res.1 (wX7 Z Am m_thrown m_s m_saved m_savedMany m_aside m_sent m_text m_length m_way m_crossed m_wayCost m_isWay m_next m_start m_token m_number m_letters m_isWrong res.2.1 res.2.2.1 res.2.2.2.1 res.2.2.2.2.1 res.2.2.2.2.2.1 res.2.2.2.2.2.2 m_reach) A) args s 0 0 A) (F0 m 23 ls [])) (hr1 : ∀ r' , q1 = .inr r' → r' = res) {H : Heap} {locs : List Loc} {ls : Array Slot} (hw : zW Z A (wX7 Z Am m_thrown m_s m_saved m_savedMany m_aside m_sent m_text m_length m_way m_crossed m_wayCost m_isWay m_next m_start m_token m_number m_letters m_isWrong m_sums m_steps m_chosen m_passed m_passedMany m_passedCost m_reach) s.heap H locs) (hl : lv_has ls 9 [(0, .ref (Am 0)), (1, .int v1), (2, .int v2), (3, .int v3), (4, .int v4)]) (h : uX7_carry_53 v1 v3 v4 k0 m_s m_sums m_steps m_chosen m_passed m_passedMany m_passedCost = some q1) : W p l e rmX7_carry s m args below meth c H locs 0 0 (MQ below (zQi Z res.1 (wX7 Z Am m_thrown m_s m_saved m_savedMany m_aside m_sent m_text m_length m_way m_crossed m_wayCost m_isWay m_next m_start m_token m_number m_letters m_isWrong res.2.1 res.2.2.1 res.2.2.2.1 res.2.2.2.2.1 res.2.2.2.2.2.1 res.2.2.2.2.2.2 m_reach) A) args s 0 0 A) (F0 m 53 ls [.int k0]) := by
  unfold uX7_carry_53 at h
  refine r_istore E [(5, .int k0), (0, .ref (Am 0)), (1, .int v1), (2, .int v2), (3, .int v3), (4, .int v4)] hl dX7_carry_53 (by decide) rfl (fun ls hl => ?_)
  refine r_aload_n E hl 1 rfl dX7_carry_55 rfl ?_
  refine r_iload E hl 5 rfl dX7_carry_56 ?_
  refine r_bipush E (-9) dX7_carry_58 (by decide) ?_
  refine r_icmp_ne E 67 dX7_carry_60 (by decide) (fun hc => ?_) (fun hc => ?_)
  · replace h := ite_f hc h
    refine r_aload_n E hl 1 rfl dX7_carry_67 rfl ?_
    refine r_iload E hl 5 rfl dX7_carry_68 ?_
    refine r_iconst E 0 dX7_carry_70 (by decide) ?_
    obtain ⟨y3, hy3, h⟩ := bd_some h
    refine r_callVAi E hw (mX7_tunnelPart l Z _ Am m_thrown m_s m_saved m_savedMany m_aside m_sent m_text m_length m_way m_crossed m_wayCost m_isWay m_next m_start m_token m_number m_letters m_isWrong m_sums m_steps m_chosen m_passed m_passedMany m_passedCost m_reach v4 (0 : Int32) hy3) kL_X7_106 kI_X7_tunnelPart kS_X7_tunnelPart kN_X7 kC_X7_tunnelPart rfl rfl hdX7_tunnelPart ⟨Nat.le_of_ble_eq_true rfl, Nat.le_of_ble_eq_true rfl⟩ 0 rfl rfl rfl rfl hl [.ref (Am 0)] rfl (Nat.le_of_ble_eq_true rfl) dX7_carry_71 ⟨Nat.zero_le _, Nat.zero_le _⟩ (fun H locs hw => ?_)
    exact vX7_carry_74 E hb1 hr1 hw (lv_sub hl [1, 2, 3, 4, 5, 0] rfl) h
  · replace h := ite_t hc h
    refine r_iload_n E hl 2 rfl dX7_carry_63 rfl ?_
    refine r_goto E 74 dX7_carry_64 (by decide) ?_
    exact vX7_carry_74 E hb1 hr1 hw (lv_sub hl [1, 2, 3, 4, 5, 0] rfl) h
set_option maxRecDepth 100000 in
set_option maxHeartbeats 4000000 in
theorem vX7_carry_35 {Z : zT} {p : Program} {l : Launch} {e : Env} {s : State} {m : MethodId} {args : Array Value} {below : List Frame} {meth : Method} {c : Code} {A : Nat → Prop} (E : zE Z p s m args meth c RX7 cX7_carry 9 (some .int) A) {Am : Nat → Nat} {v1 : Int32} {v2 : Int32} {v3 : Int32} {v4 : Int32} {m_thrown : Int32} {m_s : (Nat → Int32)} {m_saved : (Nat → Int32)} {m_savedMany : Int32} {m_aside : (Nat → Int32)} {m_sent : (Nat → Int32)} {m_text : (Nat → Int32)} {m_length : Int32} {m_way : (Nat → Int32)} {m_crossed : Int32} {m_wayCost : Int32} {m_isWay : Int32} {m_next : Int32} {m_start : Int32} {m_token : Int32} {m_number : Int32} {m_letters : Int64} {m_isWrong : Int32} {m_sums : (Nat → Int32)} {m_steps : (Nat → Int32)} {m_chosen : Int32} {m_passed : (Nat → Int32)} {m_passedMany : Int32} {m_passedCost : Int32} {m_reach : (Nat → Int32)} {res : Int32 × (Nat → Int32) × (Nat → Int32) × Int32 × (Nat → Int32) × Int32 × Int32} {q1 : (Int32 × Int32 × (Nat → Int32) × (Nat → Int32) × Int32 × (Nat → Int32) × Int32 × Int32) ⊕ (Int32 × (Nat → Int32) × (Nat → Int32) × Int32 × (Nat → Int32) × Int32 × Int32)} (hb1 : ∀ b : Int32 × Int32 × (Nat → Int32) × (Nat → Int32) × Int32 × (Nat → Int32) × Int32 × Int32, q1 = .inl b → ∀ (H : Heap) (locs : List Loc) (ls : Array Slot), zW Z A (wX7 Z Am m_thrown m_s m_saved m_savedMany m_aside m_sent m_text m_length m_way m_crossed m_wayCost m_isWay m_next m_start m_token m_number m_letters m_isWrong b.2.2.1 b.2.2.2.1 b.2.2.2.2.1 b.2.2.2.2.2.1 b.2.2.2.2.2.2.1 b.2.2.2.2.2.2.2 m_reach) s.heap H locs → lv_has ls 9 [(0, .ref (Am 0)), (1, .int v1), (2, .int v2), (3, .int b.1), (4, .int b.2.1)] → W p l e rmX7_carry s m args below meth c H locs 0 0 (MQ below (zQi Z res.1 (wX7 Z Am m_thrown m_s m_saved m_savedMany m_aside m_sent m_text m_length m_way m_crossed m_wayCost m_isWay m_next m_start m_token m_number m_letters m_isWrong res.2.1 res.2.2.1 res.2.2.2.1 res.2.2.2.2.1 res.2.2.2.2.2.1 res.2.2.2.2.2.2 m_reach) A) args s 0 0 A) (F0 m 23 ls [])) (hr1 : ∀ r' , q1 = .inr r' → r' = res) {H : Heap} {locs : List Loc} {ls : Array Slot} (hw : zW Z A (wX7 Z Am m_thrown m_s m_saved m_savedMany m_aside m_sent m_text m_length m_way m_crossed m_wayCost m_isWay m_next m_start m_token m_number m_letters m_isWrong m_sums m_steps m_chosen m_passed m_passedMany m_passedCost m_reach) s.heap H locs) (hl : lv_has ls 9 [(0, .ref (Am 0)), (1, .int v1), (2, .int v2), (3, .int v3), (4, .int v4)]) (h : uX7_carry_35 v1 v2 v3 v4 m_s m_sums m_steps m_chosen m_passed m_passedMany m_passedCost = some q1) : W p l e rmX7_carry s m args below meth c H locs 0 0 (MQ below (zQi Z res.1 (wX7 Z Am m_thrown m_s m_saved m_savedMany m_aside m_sent m_text m_length m_way m_crossed m_wayCost m_isWay m_next m_start m_token m_number m_letters m_isWrong res.2.1 res.2.2.1 res.2.2.2.1 res.2.2.2.2.1 res.2.2.2.2.2.1 res.2.2.2.2.2.2 m_reach) A) args s 0 0 A) (F0 m 35 ls []) := by
  unfold uX7_carry_35 at h
  refine r_iload E hl 4 rfl dX7_carry_35 ?_
  refine r_bipush E (-9) dX7_carry_37 (by decide) ?_
  refine r_icmp_ne E 46 dX7_carry_39 (by decide) (fun hc => ?_) (fun hc => ?_)
  · replace h := ite_f hc h
    refine r_aload_n E hl 0 rfl dX7_carry_46 rfl ?_
    refine r_iload E hl 4 rfl dX7_carry_47 ?_
    refine r_iconst E 1 dX7_carry_49 (by decide) ?_
    obtain ⟨y2, hy2, h⟩ := bd_some h
    refine r_callVAi E hw (mX7_tunnelPart l Z _ Am m_thrown m_s m_saved m_savedMany m_aside m_sent m_text m_length m_way m_crossed m_wayCost m_isWay m_next m_start m_token m_number m_letters m_isWrong m_sums m_steps m_chosen m_passed m_passedMany m_passedCost m_reach v4 (1 : Int32) hy2) kL_X7_106 kI_X7_tunnelPart kS_X7_tunnelPart kN_X7 kC_X7_tunnelPart rfl rfl hdX7_tunnelPart ⟨Nat.le_of_ble_eq_true rfl, Nat.le_of_ble_eq_true rfl⟩ 0 rfl rfl rfl rfl hl [] rfl (Nat.le_of_ble_eq_true rfl) dX7_carry_50 ⟨Nat.zero_le _, Nat.zero_le _⟩ (fun H locs hw => ?_)
    exact vX7_carry_53 E hb1 hr1 hw hl h
  · replace h := ite_t hc h
    refine r_iload_n E hl 2 rfl dX7_carry_42 rfl ?_
    refine r_goto E 53 dX7_carry_43 (by decide) ?_
    exact vX7_carry_53 E hb1 hr1 hw hl h
set_option maxRecDepth 100000 in
set_option maxHeartbeats 4000000 in
theorem tX7_carry_23 {Z : zT} {p : Program} {l : Launch} {e : Env} {s : State} {m : MethodId} {args : Array Value} {below : List Frame} {meth : Method} {c : Code} {A : Nat → Prop} (E : zE Z p s m args meth c RX7 cX7_carry 9 (some .int) A) {Am : Nat → Nat} {v1 : Int32} {v2 : Int32} {m_thrown : Int32} {m_s : (Nat → Int32)} {m_saved : (Nat → Int32)} {m_savedMany : Int32} {m_aside : (Nat → Int32)} {m_sent : (Nat → Int32)} {m_text : (Nat → Int32)} {m_length : Int32} {m_way : (Nat → Int32)} {m_crossed : Int32} {m_wayCost : Int32} {m_isWay : Int32} {m_next : Int32} {m_start : Int32} {m_token : Int32} {m_number : Int32} {m_letters : Int64} {m_isWrong : Int32} {m_reach : (Nat → Int32)} {res : Int32 × (Nat → Int32) × (Nat → Int32) × Int32 × (Nat → Int32) × Int32 × Int32}  : ∀ (n : Nat) (v3 : Int32) (v4 : Int32) (m_sums : (Nat → Int32)) (m_steps : (Nat → Int32)) (m_chosen : Int32) (m_passed : (Nat → Int32)) (m_passedMany : Int32) (m_passedCost : Int32) (H : Heap) (locs : List Loc) (ls : Array Slot), iter (fun b : Int32 × Int32 × (Nat → Int32) × (Nat → Int32) × Int32 × (Nat → Int32) × Int32 × Int32 => sX7_carry_23 v1 v2 m_s b.1 b.2.1 b.2.2.1 b.2.2.2.1 b.2.2.2.2.1 b.2.2.2.2.2.1 b.2.2.2.2.2.2.1 b.2.2.2.2.2.2.2) n (v3, v4, m_sums, m_steps, m_chosen, m_passed, m_passedMany, m_passedCost) = some res → zW Z A (wX7 Z Am m_thrown m_s m_saved m_savedMany m_aside m_sent m_text m_length m_way m_crossed m_wayCost m_isWay m_next m_start m_token m_number m_letters m_isWrong m_sums m_steps m_chosen m_passed m_passedMany m_passedCost m_reach) s.heap H locs → lv_has ls 9 [(0, .ref (Am 0)), (1, .int v1), (2, .int v2), (3, .int v3), (4, .int v4)] → W p l e rmX7_carry s m args below meth c H locs 0 0 (MQ below (zQi Z res.1 (wX7 Z Am m_thrown m_s m_saved m_savedMany m_aside m_sent m_text m_length m_way m_crossed m_wayCost m_isWay m_next m_start m_token m_number m_letters m_isWrong res.2.1 res.2.2.1 res.2.2.2.1 res.2.2.2.2.1 res.2.2.2.2.2.1 res.2.2.2.2.2.2 m_reach) A) args s 0 0 A) (F0 m 23 ls []) := by
  intro n
  induction n with
  | zero => intro v3 v4 m_sums m_steps m_chosen m_passed m_passedMany m_passedCost H locs ls h; cases h
  | succ n ih =>
    intro v3 v4 m_sums m_steps m_chosen m_passed m_passedMany m_passedCost H locs ls h hw hl
    obtain ⟨q1, h, hn1, hr1⟩ := iter_out h
    have hb1 : ∀ b : Int32 × Int32 × (Nat → Int32) × (Nat → Int32) × Int32 × (Nat → Int32) × Int32 × Int32, q1 = .inl b → ∀ (H : Heap) (locs : List Loc) (ls : Array Slot), zW Z A (wX7 Z Am m_thrown m_s m_saved m_savedMany m_aside m_sent m_text m_length m_way m_crossed m_wayCost m_isWay m_next m_start m_token m_number m_letters m_isWrong b.2.2.1 b.2.2.2.1 b.2.2.2.2.1 b.2.2.2.2.2.1 b.2.2.2.2.2.2.1 b.2.2.2.2.2.2.2 m_reach) s.heap H locs → lv_has ls 9 [(0, .ref (Am 0)), (1, .int v1), (2, .int v2), (3, .int b.1), (4, .int b.2.1)] → W p l e rmX7_carry s m args below meth c H locs 0 0 (MQ below (zQi Z res.1 (wX7 Z Am m_thrown m_s m_saved m_savedMany m_aside m_sent m_text m_length m_way m_crossed m_wayCost m_isWay m_next m_start m_token m_number m_letters m_isWrong res.2.1 res.2.2.1 res.2.2.2.1 res.2.2.2.2.1 res.2.2.2.2.2.1 res.2.2.2.2.2.2 m_reach) A) args s 0 0 A) (F0 m 23 ls []) := fun b eb H locs ls hw hl => ih b.1 b.2.1 b.2.2.1 b.2.2.2.1 b.2.2.2.2.1 b.2.2.2.2.2.1 b.2.2.2.2.2.2.1 b.2.2.2.2.2.2.2 H locs ls (hn1 b eb) hw hl
    replace h : sX7_carry_23 v1 v2 m_s v3 v4 m_sums m_steps m_chosen m_passed m_passedMany m_passedCost = some q1 := h
    unfold sX7_carry_23 at h
    refine r_iload_n E hl 3 rfl dX7_carry_23 rfl ?_
    refine r_iload_n E hl 2 rfl dX7_carry_24 rfl ?_
    refine r_icmp_ne E 35 dX7_carry_25 (by decide) (fun hc => ?_) (fun hc => ?_)
    · replace h := ite_f hc h
      exact vX7_carry_35 E hb1 hr1 hw hl h
    · replace h := ite_t hc h
      refine r_iload E hl 4 rfl dX7_carry_28 ?_
      refine r_bipush E (-9) dX7_carry_30 (by decide) ?_
      refine r_icmp_eq E 237 dX7_carry_32 (by decide) (fun hc => ?_) (fun hc => ?_)
      · replace h := ite_t hc h
        obtain ⟨ro14, h, hro14⟩ := oi_some h
        rw [hr1 _ hro14] at h
        refine r_iconst E 0 dX7_carry_237 (by decide) ?_
        obtain rfl := Option.some.inj h
        exact r_iret E hw dX7_carry_238
      · replace h := ite_f hc h
        exact vX7_carry_35 E hb1 hr1 hw hl h
set_option maxRecDepth 100000 in
set_option maxHeartbeats 4000000 in
theorem mX7_carry (l : Launch) (Z : zT) (sz : Nat) (Am : Nat → Nat) (m_thrown : Int32) (m_s : (Nat → Int32)) (m_saved : (Nat → Int32)) (m_savedMany : Int32) (m_aside : (Nat → Int32)) (m_sent : (Nat → Int32)) (m_text : (Nat → Int32)) (m_length : Int32) (m_way : (Nat → Int32)) (m_crossed : Int32) (m_wayCost : Int32) (m_isWay : Int32) (m_next : Int32) (m_start : Int32) (m_token : Int32) (m_number : Int32) (m_letters : Int64) (m_isWrong : Int32) (m_sums : (Nat → Int32)) (m_steps : (Nat → Int32)) (m_chosen : Int32) (m_passed : (Nat → Int32)) (m_passedMany : Int32) (m_passedCost : Int32) (m_reach : (Nat → Int32)) (v1 : Int32) (v2 : Int32) {res : Int32 × (Nat → Int32) × (Nat → Int32) × Int32 × (Nat → Int32) × Int32 × Int32} (h : fX7_carry v1 v2 m_s m_sums m_steps m_chosen m_passed = some res) : Met l yX7_carry (Cond.code yX7_carry cX7_carry 9 (some .int) :: zWs) rmX7_carry (zP Z (wX7 Z Am m_thrown m_s m_saved m_savedMany m_aside m_sent m_text m_length m_way m_crossed m_wayCost m_isWay m_next m_start m_token m_number m_letters m_isWrong m_sums m_steps m_chosen m_passed m_passedMany m_passedCost m_reach) sz [.ref (Am 0), .int v1, .int v2]) (zQi Z res.1 (wX7 Z Am m_thrown m_s m_saved m_savedMany m_aside m_sent m_text m_length m_way m_crossed m_wayCost m_isWay m_next m_start m_token m_number m_letters m_isWrong res.2.1 res.2.2.1 res.2.2.2.1 res.2.2.2.2.1 res.2.2.2.2.2.1 res.2.2.2.2.2.2 m_reach) (va_A (wX7 Z Am m_thrown m_s m_saved m_savedMany m_aside m_sent m_text m_length m_way m_crossed m_wayCost m_isWay m_next m_start m_token m_number m_letters m_isWrong m_sums m_steps m_chosen m_passed m_passedMany m_passedCost m_reach) sz)) 0 0 (va_A (wX7 Z Am m_thrown m_s m_saved m_savedMany m_aside m_sent m_text m_length m_way m_crossed m_wayCost m_isWay m_next m_start m_token m_number m_letters m_isWrong m_sums m_steps m_chosen m_passed m_passedMany m_passedCost m_reach) sz) := by
  refine zMet (own := RX7) (fun A => zQi Z res.1 (wX7 Z Am m_thrown m_s m_saved m_savedMany m_aside m_sent m_text m_length m_way m_crossed m_wayCost m_isWay m_next m_start m_token m_number m_letters m_isWrong res.2.1 res.2.2.1 res.2.2.2.1 res.2.2.2.2.1 res.2.2.2.2.2.1 res.2.2.2.2.2.2 m_reach) A) (by decide) rfl (Nat.le_of_ble_eq_true rfl) ?_
  intro p e s m args below meth c ls A E hw hl
  unfold fX7_carry at h
  refine r_aload_n E hl 0 rfl dX7_carry_0 rfl ?_
  refine r_get E kW_X7 hw 0 rfl rfl 21 (by decide) kF_X7_34 rfl dX7_carry_1 ?_
  refine r_iconst E 0 dX7_carry_4 (by decide) ?_
  refine r_iload_n E hl 1 rfl dX7_carry_5 rfl ?_
  obtain ⟨hg1, h⟩ := gd_some h
  refine r_iast E (wX7 Z Am m_thrown m_s m_saved m_savedMany m_aside m_sent m_text m_length m_way m_crossed m_wayCost m_isWay m_next m_start m_token m_number m_letters m_isWrong m_sums m_steps m_chosen (upd m_passed ((0 : Int32)).toNatClampNeg v1) m_passedMany m_passedCost m_reach) hw 9 rfl hg1 rfl dX7_carry_6 (fun H locs hw => ?_)
  refine r_aload_n E hl 0 rfl dX7_carry_7 rfl ?_
  refine r_iconst E 0 dX7_carry_8 (by decide) ?_
  refine r_put E (wX7 Z Am m_thrown m_s m_saved m_savedMany m_aside m_sent m_text m_length m_way m_crossed m_wayCost m_isWay m_next m_start m_token m_number m_letters m_isWrong m_sums m_steps m_chosen (upd m_passed ((0 : Int32)).toNatClampNeg v1) (0 : Int32) m_passedCost m_reach) kW_X7 tyX7_ok nmX7 hw 0 rfl rfl 22 (by decide) kF_X7_276 rfl rfl rfl (Nat.le_of_ble_eq_true rfl) rfl dX7_carry_9 (fun H locs hw => ?_)
  refine r_aload_n E hl 0 rfl dX7_carry_12 rfl ?_
  refine r_iconst E 0 dX7_carry_13 (by decide) ?_
  refine r_put E (wX7 Z Am m_thrown m_s m_saved m_savedMany m_aside m_sent m_text m_length m_way m_crossed m_wayCost m_isWay m_next m_start m_token m_number m_letters m_isWrong m_sums m_steps m_chosen (upd m_passed ((0 : Int32)).toNatClampNeg v1) (0 : Int32) (0 : Int32) m_reach) kW_X7 tyX7_ok nmX7 hw 0 rfl rfl 23 (by decide) kF_X7_279 rfl rfl rfl (Nat.le_of_ble_eq_true rfl) rfl dX7_carry_14 (fun H locs hw => ?_)
  refine r_iload_n E hl 1 rfl dX7_carry_17 rfl ?_
  refine r_istore_n E [(3, .int v1), (0, .ref (Am 0)), (1, .int v1), (2, .int v2)] hl dX7_carry_18 rfl (by decide) rfl (fun ls hl => ?_)
  refine r_bipush E (-9) dX7_carry_19 (by decide) ?_
  refine r_istore E [(4, .int (-9 : Int32)), (3, .int v1), (0, .ref (Am 0)), (1, .int v1), (2, .int v2)] hl dX7_carry_21 (by decide) rfl (fun ls hl => ?_)
  obtain ⟨n15, h⟩ := wh_some h
  exact tX7_carry_23 E  n15 _ _ _ _ _ _ _ _ _ _ _ h hw (lv_sub hl [2, 3, 4, 1, 0] rfl)
abbrev rmX7_send : Room := { frames := 7, cells := 0, slots := 0, locals := 177 }

set_option maxRecDepth 100000 in
set_option maxHeartbeats 4000000 in
theorem vX7_send_55 {Z : zT} {p : Program} {l : Launch} {e : Env} {s : State} {m : MethodId} {args : Array Value} {below : List Frame} {meth : Method} {c : Code} {A : Nat → Prop} (E : zE Z p s m args meth c RX7 cX7_send 5 (some .int) A) {Am : Nat → Nat} {v3 : Int32} {m_thrown : Int32} {m_s : (Nat → Int32)} {m_saved : (Nat → Int32)} {m_savedMany : Int32} {m_aside : (Nat → Int32)} {m_sent : (Nat → Int32)} {m_text : (Nat → Int32)} {m_length : Int32} {m_way : (Nat → Int32)} {m_crossed : Int32} {m_wayCost : Int32} {m_isWay : Int32} {m_next : Int32} {m_start : Int32} {m_token : Int32} {m_number : Int32} {m_letters : Int64} {m_isWrong : Int32} {m_sums : (Nat → Int32)} {m_steps : (Nat → Int32)} {m_chosen : Int32} {m_passed : (Nat → Int32)} {m_passedMany : Int32} {m_passedCost : Int32} {m_reach : (Nat → Int32)} {res : Int32 × Int32 × (Nat → Int32) × Int32 × Int32 × Int32 × (Nat → Int32) × (Nat → Int32) × Int32 × (Nat → Int32) × Int32 × Int32}  {H : Heap} {locs : List Loc} {ls : Array Slot} (hw : zW Z A (wX7 Z Am m_thrown m_s m_saved m_savedMany m_aside m_sent m_text m_length m_way m_crossed m_wayCost m_isWay m_next m_start m_token m_number m_letters m_isWrong m_sums m_steps m_chosen m_passed m_passedMany m_passedCost m_reach) s.heap H locs) (hl : lv_has ls 5 [(0, .ref (Am 0)), (3, .int v3)]) (h : uX7_send_55 v3 m_thrown m_way m_sums m_steps m_chosen m_passed m_passedMany m_passedCost = some res) : W p l e rmX7_send s m args below meth c H locs 0 0 (MQ below (zQi Z res.1 (wX7 Z Am res.2.1 m_s m_saved m_savedMany m_aside m_sent m_text m_length res.2.2.1 res.2.2.2.1 res.2.2.2.2.1 res.2.2.2.2.2.1 m_next m_start m_token m_number m_letters m_isWrong res.2.2.2.2.2.2.1 res.2.2.2.2.2.2.2.1 res.2.2.2.2.2.2.2.2.1 res.2.2.2.2.2.2.2.2.2.1 res.2.2.2.2.2.2.2.2.2.2.1 res.2.2.2.2.2.2.2.2.2.2.2 m_reach) A) args s 0 0 A) (F0 m 55 ls []) := by
  unfold uX7_send_55 at h
  refine r_aload_n E hl 0 rfl dX7_send_55 rfl ?_
  refine r_aload_n E hl 0 rfl dX7_send_56 rfl ?_
  refine r_get E kW_X7 hw 0 rfl rfl 22 (by decide) kF_X7_276 rfl dX7_send_57 ?_
  refine r_put E (wX7 Z Am m_thrown m_s m_saved m_savedMany m_aside m_sent m_text m_length m_way m_passedMany m_wayCost m_isWay m_next m_start m_token m_number m_letters m_isWrong m_sums m_steps m_chosen m_passed m_passedMany m_passedCost m_reach) kW_X7 tyX7_ok nmX7 hw 0 rfl rfl 9 (by decide) kF_X7_288 rfl rfl rfl (Nat.le_of_ble_eq_true rfl) rfl dX7_send_60 (fun H locs hw => ?_)
  refine r_aload_n E hl 0 rfl dX7_send_63 rfl ?_
  refine r_aload_n E hl 0 rfl dX7_send_64 rfl ?_
  refine r_get E kW_X7 hw 0 rfl rfl 23 (by decide) kF_X7_279 rfl dX7_send_65 ?_
  refine r_put E (wX7 Z Am m_thrown m_s m_saved m_savedMany m_aside m_sent m_text m_length m_way m_passedMany m_passedCost m_isWay m_next m_start m_token m_number m_letters m_isWrong m_sums m_steps m_chosen m_passed m_passedMany m_passedCost m_reach) kW_X7 tyX7_ok nmX7 hw 0 rfl rfl 10 (by decide) kF_X7_291 rfl rfl rfl (Nat.le_of_ble_eq_true rfl) rfl dX7_send_68 (fun H locs hw => ?_)
  refine r_aload_n E hl 0 rfl dX7_send_71 rfl ?_
  refine r_iconst E 1 dX7_send_72 (by decide) ?_
  refine r_put E (wX7 Z Am m_thrown m_s m_saved m_savedMany m_aside m_sent m_text m_length m_way m_passedMany m_passedCost (1 : Int32) m_next m_start m_token m_number m_letters m_isWrong m_sums m_steps m_chosen m_passed m_passedMany m_passedCost m_reach) kW_X7 tyX7_ok nmX7 hw 0 rfl rfl 11 (by decide) kF_X7_47 rfl rfl rfl (Nat.le_of_ble_eq_true rfl) rfl dX7_send_73 (fun H locs hw => ?_)
  refine r_iload_n E hl 1 rfl dX7_send_76 rfl ?_
  obtain rfl := Option.some.inj h
  exact r_iret E hw dX7_send_77
set_option maxRecDepth 100000 in
set_option maxHeartbeats 4000000 in
theorem tX7_send_26 {Z : zT} {p : Program} {l : Launch} {e : Env} {s : State} {m : MethodId} {args : Array Value} {below : List Frame} {meth : Method} {c : Code} {A : Nat → Prop} (E : zE Z p s m args meth c RX7 cX7_send 5 (some .int) A) {Am : Nat → Nat} {v3 : Int32} {m_thrown : Int32} {m_s : (Nat → Int32)} {m_saved : (Nat → Int32)} {m_savedMany : Int32} {m_aside : (Nat → Int32)} {m_sent : (Nat → Int32)} {m_text : (Nat → Int32)} {m_length : Int32} {m_crossed : Int32} {m_wayCost : Int32} {m_isWay : Int32} {m_next : Int32} {m_start : Int32} {m_token : Int32} {m_number : Int32} {m_letters : Int64} {m_isWrong : Int32} {m_sums : (Nat → Int32)} {m_steps : (Nat → Int32)} {m_chosen : Int32} {m_passed : (Nat → Int32)} {m_passedMany : Int32} {m_passedCost : Int32} {m_reach : (Nat → Int32)} {res : Int32 × Int32 × (Nat → Int32) × Int32 × Int32 × Int32 × (Nat → Int32) × (Nat → Int32) × Int32 × (Nat → Int32) × Int32 × Int32}  : ∀ (n : Nat) (v4 : Int32) (m_way : (Nat → Int32)) (H : Heap) (locs : List Loc) (ls : Array Slot), iter (fun b : Int32 × (Nat → Int32) => sX7_send_26 v3 m_thrown m_sums m_steps m_chosen m_passed m_passedMany m_passedCost b.1 b.2) n (v4, m_way) = some res → zW Z A (wX7 Z Am m_thrown m_s m_saved m_savedMany m_aside m_sent m_text m_length m_way m_crossed m_wayCost m_isWay m_next m_start m_token m_number m_letters m_isWrong m_sums m_steps m_chosen m_passed m_passedMany m_passedCost m_reach) s.heap H locs → lv_has ls 5 [(0, .ref (Am 0)), (3, .int v3), (4, .int v4)] → W p l e rmX7_send s m args below meth c H locs 0 0 (MQ below (zQi Z res.1 (wX7 Z Am res.2.1 m_s m_saved m_savedMany m_aside m_sent m_text m_length res.2.2.1 res.2.2.2.1 res.2.2.2.2.1 res.2.2.2.2.2.1 m_next m_start m_token m_number m_letters m_isWrong res.2.2.2.2.2.2.1 res.2.2.2.2.2.2.2.1 res.2.2.2.2.2.2.2.2.1 res.2.2.2.2.2.2.2.2.2.1 res.2.2.2.2.2.2.2.2.2.2.1 res.2.2.2.2.2.2.2.2.2.2.2 m_reach) A) args s 0 0 A) (F0 m 26 ls []) := by
  intro n
  induction n with
  | zero => intro v4 m_way H locs ls h; cases h
  | succ n ih =>
    intro v4 m_way H locs ls h hw hl
    obtain ⟨q1, h, hn1, hr1⟩ := iter_out h
    have hb1 : ∀ b : Int32 × (Nat → Int32), q1 = .inl b → ∀ (H : Heap) (locs : List Loc) (ls : Array Slot), zW Z A (wX7 Z Am m_thrown m_s m_saved m_savedMany m_aside m_sent m_text m_length b.2 m_crossed m_wayCost m_isWay m_next m_start m_token m_number m_letters m_isWrong m_sums m_steps m_chosen m_passed m_passedMany m_passedCost m_reach) s.heap H locs → lv_has ls 5 [(0, .ref (Am 0)), (3, .int v3), (4, .int b.1)] → W p l e rmX7_send s m args below meth c H locs 0 0 (MQ below (zQi Z res.1 (wX7 Z Am res.2.1 m_s m_saved m_savedMany m_aside m_sent m_text m_length res.2.2.1 res.2.2.2.1 res.2.2.2.2.1 res.2.2.2.2.2.1 m_next m_start m_token m_number m_letters m_isWrong res.2.2.2.2.2.2.1 res.2.2.2.2.2.2.2.1 res.2.2.2.2.2.2.2.2.1 res.2.2.2.2.2.2.2.2.2.1 res.2.2.2.2.2.2.2.2.2.2.1 res.2.2.2.2.2.2.2.2.2.2.2 m_reach) A) args s 0 0 A) (F0 m 26 ls []) := fun b eb H locs ls hw hl => ih b.1 b.2 H locs ls (hn1 b eb) hw hl
    replace h : sX7_send_26 v3 m_thrown m_sums m_steps m_chosen m_passed m_passedMany m_passedCost v4 m_way = some q1 := h
    unfold sX7_send_26 at h
    refine r_iload E hl 2 rfl dX7_send_26 ?_
    refine r_aload_n E hl 0 rfl dX7_send_28 rfl ?_
    refine r_get E kW_X7 hw 0 rfl rfl 22 (by decide) kF_X7_276 rfl dX7_send_29 ?_
    refine r_icmp_gt E 55 dX7_send_32 (by decide) (fun hc => ?_) (fun hc => ?_)
    · replace h := ite_t hc h
      obtain ⟨ro3, h, hro3⟩ := oi_some h
      rw [hr1 _ hro3] at h
      exact vX7_send_55 E  hw (lv_sub hl [0, 1] rfl) h
    · replace h := ite_f hc h
      refine r_aload_n E hl 0 rfl dX7_send_35 rfl ?_
      refine r_get E kW_X7 hw 0 rfl rfl 8 (by decide) kF_X7_25 rfl dX7_send_36 ?_
      refine r_iload E hl 2 rfl dX7_send_39 ?_
      refine r_aload_n E hl 0 rfl dX7_send_41 rfl ?_
      refine r_get E kW_X7 hw 0 rfl rfl 21 (by decide) kF_X7_34 rfl dX7_send_42 ?_
      refine r_iload E hl 2 rfl dX7_send_45 ?_
      obtain ⟨hg4, h⟩ := gd_some h
      refine r_iald E hw 9 rfl hg4 dX7_send_47 ?_
      obtain ⟨hg5, h⟩ := gd_some h
      refine r_iast E (wX7 Z Am m_thrown m_s m_saved m_savedMany m_aside m_sent m_text m_length (upd m_way (v4).toNatClampNeg (m_passed (v4).toNatClampNeg)) m_crossed m_wayCost m_isWay m_next m_start m_token m_number m_letters m_isWrong m_sums m_steps m_chosen m_passed m_passedMany m_passedCost m_reach) hw 6 rfl hg5 rfl dX7_send_48 (fun H locs hw => ?_)
      obtain ⟨w6, hw6, h⟩ := nm_out h
      refine r_iinc E w6 [(4, .int w6), (0, .ref (Am 0)), (3, .int v3)] hl (k := 2) rfl dX7_send_49 hw6.symm (by decide) rfl (fun ls hl => ?_)
      refine r_goto E 26 dX7_send_52 (by decide) ?_
      exact hb1 _ (Option.some.inj h).symm _ _ _ hw (lv_sub hl [1, 2, 0] rfl)
set_option maxRecDepth 100000 in
set_option maxHeartbeats 4000000 in
theorem mX7_send (l : Launch) (Z : zT) (sz : Nat) (Am : Nat → Nat) (m_thrown : Int32) (m_s : (Nat → Int32)) (m_saved : (Nat → Int32)) (m_savedMany : Int32) (m_aside : (Nat → Int32)) (m_sent : (Nat → Int32)) (m_text : (Nat → Int32)) (m_length : Int32) (m_way : (Nat → Int32)) (m_crossed : Int32) (m_wayCost : Int32) (m_isWay : Int32) (m_next : Int32) (m_start : Int32) (m_token : Int32) (m_number : Int32) (m_letters : Int64) (m_isWrong : Int32) (m_sums : (Nat → Int32)) (m_steps : (Nat → Int32)) (m_chosen : Int32) (m_passed : (Nat → Int32)) (m_passedMany : Int32) (m_passedCost : Int32) (m_reach : (Nat → Int32)) (v1 : Int32) (v2 : Int32) {res : Int32 × Int32 × (Nat → Int32) × Int32 × Int32 × Int32 × (Nat → Int32) × (Nat → Int32) × Int32 × (Nat → Int32) × Int32 × Int32} (h : fX7_send v1 v2 m_s m_way m_crossed m_wayCost m_isWay m_sums m_steps m_chosen m_passed m_passedMany m_passedCost = some res) : Met l yX7_send (Cond.code yX7_send cX7_send 5 (some .int) :: zWs) rmX7_send (zP Z (wX7 Z Am m_thrown m_s m_saved m_savedMany m_aside m_sent m_text m_length m_way m_crossed m_wayCost m_isWay m_next m_start m_token m_number m_letters m_isWrong m_sums m_steps m_chosen m_passed m_passedMany m_passedCost m_reach) sz [.ref (Am 0), .int v1, .int v2]) (zQi Z res.1 (wX7 Z Am res.2.1 m_s m_saved m_savedMany m_aside m_sent m_text m_length res.2.2.1 res.2.2.2.1 res.2.2.2.2.1 res.2.2.2.2.2.1 m_next m_start m_token m_number m_letters m_isWrong res.2.2.2.2.2.2.1 res.2.2.2.2.2.2.2.1 res.2.2.2.2.2.2.2.2.1 res.2.2.2.2.2.2.2.2.2.1 res.2.2.2.2.2.2.2.2.2.2.1 res.2.2.2.2.2.2.2.2.2.2.2 m_reach) (va_A (wX7 Z Am m_thrown m_s m_saved m_savedMany m_aside m_sent m_text m_length m_way m_crossed m_wayCost m_isWay m_next m_start m_token m_number m_letters m_isWrong m_sums m_steps m_chosen m_passed m_passedMany m_passedCost m_reach) sz)) 0 0 (va_A (wX7 Z Am m_thrown m_s m_saved m_savedMany m_aside m_sent m_text m_length m_way m_crossed m_wayCost m_isWay m_next m_start m_token m_number m_letters m_isWrong m_sums m_steps m_chosen m_passed m_passedMany m_passedCost m_reach) sz) := by
  refine zMet (own := RX7) (fun A => zQi Z res.1 (wX7 Z Am res.2.1 m_s m_saved m_savedMany m_aside m_sent m_text m_length res.2.2.1 res.2.2.2.1 res.2.2.2.2.1 res.2.2.2.2.2.1 m_next m_start m_token m_number m_letters m_isWrong res.2.2.2.2.2.2.1 res.2.2.2.2.2.2.2.1 res.2.2.2.2.2.2.2.2.1 res.2.2.2.2.2.2.2.2.2.1 res.2.2.2.2.2.2.2.2.2.2.1 res.2.2.2.2.2.2.2.2.2.2.2 m_reach) A) (by decide) rfl (Nat.le_of_ble_eq_true rfl) ?_
  intro p e s m args below meth c ls A E hw hl
  unfold fX7_send at h
  refine r_aload_n E hl 0 rfl dX7_send_0 rfl ?_
  refine r_iconst E 0 dX7_send_1 (by decide) ?_
  refine r_put E (wX7 Z Am (0 : Int32) m_s m_saved m_savedMany m_aside m_sent m_text m_length m_way m_crossed m_wayCost m_isWay m_next m_start m_token m_number m_letters m_isWrong m_sums m_steps m_chosen m_passed m_passedMany m_passedCost m_reach) kW_X7 tyX7_ok nmX7 hw 0 rfl rfl 0 (by decide) kF_X7_40 rfl rfl rfl (Nat.le_of_ble_eq_true rfl) rfl dX7_send_2 (fun H locs hw => ?_)
  refine r_aload_n E hl 0 rfl dX7_send_5 rfl ?_
  refine r_iload_n E hl 1 rfl dX7_send_6 rfl ?_
  refine r_iload_n E hl 2 rfl dX7_send_7 rfl ?_
  obtain ⟨y1, hy1, h⟩ := bd_some h
  refine r_callVAi E hw (mX7_areNodes l Z _ Am (0 : Int32) m_s m_saved m_savedMany m_aside m_sent m_text m_length m_way m_crossed m_wayCost m_isWay m_next m_start m_token m_number m_letters m_isWrong m_sums m_steps m_chosen m_passed m_passedMany m_passedCost m_reach v1 v2 hy1) kL_X7_128 kI_X7_areNodes kS_X7_areNodes kN_X7 kC_X7_areNodes rfl rfl hdX7_areNodes ⟨Nat.le_of_ble_eq_true rfl, Nat.le_of_ble_eq_true rfl⟩ 0 rfl rfl rfl rfl hl [] rfl (Nat.le_of_ble_eq_true rfl) dX7_send_8 ⟨Nat.zero_le _, Nat.zero_le _⟩ (fun H locs hw => ?_)
  refine r_if_ne E 16 dX7_send_11 (by decide) (fun hc => ?_) (fun hc => ?_)
  · replace h := ite_f hc h
    refine r_aload_n E hl 0 rfl dX7_send_16 rfl ?_
    refine r_iload_n E hl 1 rfl dX7_send_17 rfl ?_
    refine r_iload_n E hl 2 rfl dX7_send_18 rfl ?_
    obtain ⟨y2, hy2, h⟩ := bd_some h
    refine r_callVAi E hw (mX7_carry l Z _ Am (0 : Int32) m_s m_saved m_savedMany m_aside m_sent m_text m_length m_way m_crossed m_wayCost m_isWay m_next m_start m_token m_number m_letters m_isWrong m_sums m_steps m_chosen m_passed m_passedMany m_passedCost m_reach v1 v2 hy2) kL_X7_285 kI_X7_carry kS_X7_carry kN_X7 kC_X7_carry rfl rfl hdX7_carry ⟨Nat.le_of_ble_eq_true rfl, Nat.le_of_ble_eq_true rfl⟩ 0 rfl rfl rfl rfl hl [] rfl (Nat.le_of_ble_eq_true rfl) dX7_send_19 ⟨Nat.zero_le _, Nat.zero_le _⟩ (fun H locs hw => ?_)
    refine r_istore_n E [(3, .int y2.1), (0, .ref (Am 0)), (1, .int v1), (2, .int v2)] hl dX7_send_22 rfl (by decide) rfl (fun ls hl => ?_)
    refine r_iconst E 0 dX7_send_23 (by decide) ?_
    refine r_istore E [(4, .int (0 : Int32)), (3, .int y2.1), (0, .ref (Am 0)), (1, .int v1), (2, .int v2)] hl dX7_send_24 (by decide) rfl (fun ls hl => ?_)
    obtain ⟨n7, h⟩ := wh_some h
    exact tX7_send_26 E  n7 _ _ _ _ _ h hw (lv_sub hl [2, 1, 0] rfl)
  · replace h := ite_t hc h
    refine r_iconst E (-1) dX7_send_14 (by decide) ?_
    obtain rfl := Option.some.inj h
    exact r_iret E hw dX7_send_15
abbrev rmX7_way : Room := { frames := 0, cells := 0, slots := 0, locals := 0 }

set_option maxRecDepth 100000 in
set_option maxHeartbeats 4000000 in
theorem mX7_way (l : Launch) (Z : zT) (sz : Nat) (Am : Nat → Nat) (m_thrown : Int32) (m_s : (Nat → Int32)) (m_saved : (Nat → Int32)) (m_savedMany : Int32) (m_aside : (Nat → Int32)) (m_sent : (Nat → Int32)) (m_text : (Nat → Int32)) (m_length : Int32) (m_way : (Nat → Int32)) (m_crossed : Int32) (m_wayCost : Int32) (m_isWay : Int32) (m_next : Int32) (m_start : Int32) (m_token : Int32) (m_number : Int32) (m_letters : Int64) (m_isWrong : Int32) (m_sums : (Nat → Int32)) (m_steps : (Nat → Int32)) (m_chosen : Int32) (m_passed : (Nat → Int32)) (m_passedMany : Int32) (m_passedCost : Int32) (m_reach : (Nat → Int32)) (v1 : Int32) {res : Int32 × Int32} (h : fX7_way v1 m_way m_crossed m_wayCost m_isWay = some res) : Met l yX7_way (Cond.code yX7_way cX7_way 2 (some .int) :: zWs) rmX7_way (zP Z (wX7 Z Am m_thrown m_s m_saved m_savedMany m_aside m_sent m_text m_length m_way m_crossed m_wayCost m_isWay m_next m_start m_token m_number m_letters m_isWrong m_sums m_steps m_chosen m_passed m_passedMany m_passedCost m_reach) sz [.ref (Am 0), .int v1]) (zQi Z res.1 (wX7 Z Am res.2 m_s m_saved m_savedMany m_aside m_sent m_text m_length m_way m_crossed m_wayCost m_isWay m_next m_start m_token m_number m_letters m_isWrong m_sums m_steps m_chosen m_passed m_passedMany m_passedCost m_reach) (va_A (wX7 Z Am m_thrown m_s m_saved m_savedMany m_aside m_sent m_text m_length m_way m_crossed m_wayCost m_isWay m_next m_start m_token m_number m_letters m_isWrong m_sums m_steps m_chosen m_passed m_passedMany m_passedCost m_reach) sz)) 0 0 (va_A (wX7 Z Am m_thrown m_s m_saved m_savedMany m_aside m_sent m_text m_length m_way m_crossed m_wayCost m_isWay m_next m_start m_token m_number m_letters m_isWrong m_sums m_steps m_chosen m_passed m_passedMany m_passedCost m_reach) sz) := by
  refine zMet (own := RX7) (fun A => zQi Z res.1 (wX7 Z Am res.2 m_s m_saved m_savedMany m_aside m_sent m_text m_length m_way m_crossed m_wayCost m_isWay m_next m_start m_token m_number m_letters m_isWrong m_sums m_steps m_chosen m_passed m_passedMany m_passedCost m_reach) A) (by decide) rfl (Nat.le_of_ble_eq_true rfl) ?_
  intro p e s m args below meth c ls A E hw hl
  unfold fX7_way at h
  refine r_aload_n E hl 0 rfl dX7_way_0 rfl ?_
  refine r_iconst E 0 dX7_way_1 (by decide) ?_
  refine r_put E (wX7 Z Am (0 : Int32) m_s m_saved m_savedMany m_aside m_sent m_text m_length m_way m_crossed m_wayCost m_isWay m_next m_start m_token m_number m_letters m_isWrong m_sums m_steps m_chosen m_passed m_passedMany m_passedCost m_reach) kW_X7 tyX7_ok nmX7 hw 0 rfl rfl 0 (by decide) kF_X7_40 rfl rfl rfl (Nat.le_of_ble_eq_true rfl) rfl dX7_way_2 (fun H locs hw => ?_)
  refine r_iload_n E hl 1 rfl dX7_way_5 rfl ?_
  refine r_bipush E (-2) dX7_way_6 (by decide) ?_
  refine r_icmp_ge E 13 dX7_way_8 (by decide) (fun hc => ?_) (fun hc => ?_)
  · replace h := ite_t hc h
    refine r_aload_n E hl 0 rfl dX7_way_13 rfl ?_
    refine r_get E kW_X7 hw 0 rfl rfl 11 (by decide) kF_X7_47 rfl dX7_way_14 ?_
    refine r_if_ne E 23 dX7_way_17 (by decide) (fun hc => ?_) (fun hc => ?_)
    · replace h := ite_f hc h
      refine r_iload_n E hl 1 rfl dX7_way_23 rfl ?_
      refine r_iconst E (-1) dX7_way_24 (by decide) ?_
      refine r_icmp_ne E 35 dX7_way_25 (by decide) (fun hc => ?_) (fun hc => ?_)
      · replace h := ite_f hc h
        refine r_iload_n E hl 1 rfl dX7_way_35 rfl ?_
        refine r_bipush E (-2) dX7_way_36 (by decide) ?_
        refine r_icmp_ne E 48 dX7_way_38 (by decide) (fun hc => ?_) (fun hc => ?_)
        · replace h := ite_f hc h
          refine r_iload_n E hl 1 rfl dX7_way_48 rfl ?_
          refine r_aload_n E hl 0 rfl dX7_way_49 rfl ?_
          refine r_get E kW_X7 hw 0 rfl rfl 9 (by decide) kF_X7_288 rfl dX7_way_50 ?_
          refine r_icmp_gt E 65 dX7_way_53 (by decide) (fun hc => ?_) (fun hc => ?_)
          · replace h := ite_t hc h
            refine r_bipush E (-9) dX7_way_65 (by decide) ?_
            obtain rfl := Option.some.inj h
            exact r_iret E hw dX7_way_67
          · replace h := ite_f hc h
            refine r_aload_n E hl 0 rfl dX7_way_56 rfl ?_
            refine r_get E kW_X7 hw 0 rfl rfl 8 (by decide) kF_X7_25 rfl dX7_way_57 ?_
            refine r_iload_n E hl 1 rfl dX7_way_60 rfl ?_
            obtain ⟨hg1, h⟩ := gd_some h
            refine r_iald E hw 6 rfl hg1 dX7_way_61 ?_
            refine r_goto E 67 dX7_way_62 (by decide) ?_
            obtain rfl := Option.some.inj h
            exact r_iret E hw dX7_way_67
        · replace h := ite_t hc h
          refine r_aload_n E hl 0 rfl dX7_way_41 rfl ?_
          refine r_get E kW_X7 hw 0 rfl rfl 10 (by decide) kF_X7_291 rfl dX7_way_42 ?_
          refine r_goto E 67 dX7_way_45 (by decide) ?_
          obtain rfl := Option.some.inj h
          exact r_iret E hw dX7_way_67
      · replace h := ite_t hc h
        refine r_aload_n E hl 0 rfl dX7_way_28 rfl ?_
        refine r_get E kW_X7 hw 0 rfl rfl 9 (by decide) kF_X7_288 rfl dX7_way_29 ?_
        refine r_goto E 67 dX7_way_32 (by decide) ?_
        obtain rfl := Option.some.inj h
        exact r_iret E hw dX7_way_67
    · replace h := ite_t hc h
      refine r_bipush E (-2) dX7_way_20 (by decide) ?_
      obtain rfl := Option.some.inj h
      exact r_iret E hw dX7_way_22
  · replace h := ite_f hc h
    refine r_iconst E (-1) dX7_way_11 (by decide) ?_
    obtain rfl := Option.some.inj h
    exact r_iret E hw dX7_way_12
abbrev rmX7_outcomes : Room := { frames := 7, cells := 0, slots := 0, locals := 177 }

set_option maxRecDepth 100000 in
set_option maxHeartbeats 4000000 in
theorem vX7_outcomes_75 {Z : zT} {p : Program} {l : Launch} {e : Env} {s : State} {m : MethodId} {args : Array Value} {below : List Frame} {meth : Method} {c : Code} {A : Nat → Prop} (E : zE Z p s m args meth c RX7 cX7_outcomes 5 (some .int) A) {Am : Nat → Nat} {v1 : Int32} {v2 : Int32} {v3 : Int32} {m_thrown : Int32} {m_s : (Nat → Int32)} {m_saved : (Nat → Int32)} {m_savedMany : Int32} {m_aside : (Nat → Int32)} {m_sent : (Nat → Int32)} {m_text : (Nat → Int32)} {m_length : Int32} {m_way : (Nat → Int32)} {m_crossed : Int32} {m_wayCost : Int32} {m_isWay : Int32} {m_next : Int32} {m_start : Int32} {m_token : Int32} {m_number : Int32} {m_letters : Int64} {m_isWrong : Int32} {m_sums : (Nat → Int32)} {m_steps : (Nat → Int32)} {m_chosen : Int32} {m_passed : (Nat → Int32)} {m_passedMany : Int32} {m_passedCost : Int32} {m_reach : (Nat → Int32)} {res : Int32 × Int32 × (Nat → Int32) × (Nat → Int32) × Int32 × (Nat → Int32) × Int32 × Int32} {q1 : (Int32 × Int32 × (Nat → Int32) × (Nat → Int32) × Int32 × (Nat → Int32) × Int32 × Int32) ⊕ (Int32 × Int32 × (Nat → Int32) × (Nat → Int32) × Int32 × (Nat → Int32) × Int32 × Int32)} (hb1 : ∀ b : Int32 × Int32 × (Nat → Int32) × (Nat → Int32) × Int32 × (Nat → Int32) × Int32 × Int32, q1 = .inl b → ∀ (H : Heap) (locs : List Loc) (ls : Array Slot), zW Z A (wX7 Z Am m_thrown m_s m_saved m_savedMany m_aside m_sent m_text m_length m_way m_crossed m_wayCost m_isWay m_next m_start m_token m_number m_letters m_isWrong b.2.2.1 b.2.2.2.1 b.2.2.2.2.1 b.2.2.2.2.2.1 b.2.2.2.2.2.2.1 b.2.2.2.2.2.2.2 m_reach) s.heap H locs → lv_has ls 5 [(0, .ref (Am 0)), (1, .int v1), (2, .int b.1), (3, .int b.2.1)] → W p l e rmX7_outcomes s m args below meth c H locs 0 0 (MQ below (zQi Z res.1 (wX7 Z Am res.2.1 m_s m_saved m_savedMany m_aside m_sent m_text m_length m_way m_crossed m_wayCost m_isWay m_next m_start m_token m_number m_letters m_isWrong res.2.2.1 res.2.2.2.1 res.2.2.2.2.1 res.2.2.2.2.2.1 res.2.2.2.2.2.2.1 res.2.2.2.2.2.2.2 m_reach) A) args s 0 0 A) (F0 m 20 ls [])) (hr1 : ∀ r' , q1 = .inr r' → r' = res) {H : Heap} {locs : List Loc} {ls : Array Slot} (hw : zW Z A (wX7 Z Am m_thrown m_s m_saved m_savedMany m_aside m_sent m_text m_length m_way m_crossed m_wayCost m_isWay m_next m_start m_token m_number m_letters m_isWrong m_sums m_steps m_chosen m_passed m_passedMany m_passedCost m_reach) s.heap H locs) (hl : lv_has ls 5 [(0, .ref (Am 0)), (1, .int v1), (2, .int v2), (3, .int v3)]) (h : uX7_outcomes_75 v2 v3 m_sums m_steps m_chosen m_passed m_passedMany m_passedCost = some q1) : W p l e rmX7_outcomes s m args below meth c H locs 0 0 (MQ below (zQi Z res.1 (wX7 Z Am res.2.1 m_s m_saved m_savedMany m_aside m_sent m_text m_length m_way m_crossed m_wayCost m_isWay m_next m_start m_token m_number m_letters m_isWrong res.2.2.1 res.2.2.2.1 res.2.2.2.2.1 res.2.2.2.2.2.1 res.2.2.2.2.2.2.1 res.2.2.2.2.2.2.2 m_reach) A) args s 0 0 A) (F0 m 75 ls []) := by
  unfold uX7_outcomes_75 at h
  obtain ⟨w5, hw5, h⟩ := nm_out h
  refine r_iinc E w5 [(3, .int w5), (0, .ref (Am 0)), (1, .int v1), (2, .int v2)] hl (k := 3) rfl dX7_outcomes_75 hw5.symm (by decide) rfl (fun ls hl => ?_)
  refine r_goto E 20 dX7_outcomes_78 (by decide) ?_
  exact hb1 _ (Option.some.inj h).symm _ _ _ hw (lv_sub hl [1, 2, 3, 0] rfl)
set_option maxRecDepth 100000 in
set_option maxHeartbeats 4000000 in
theorem vX7_outcomes_67 {Z : zT} {p : Program} {l : Launch} {e : Env} {s : State} {m : MethodId} {args : Array Value} {below : List Frame} {meth : Method} {c : Code} {A : Nat → Prop} (E : zE Z p s m args meth c RX7 cX7_outcomes 5 (some .int) A) {Am : Nat → Nat} {v1 : Int32} {v3 : Int32} {v4 : Int32} {k0 : Int32} {k1 : Int32} {m_thrown : Int32} {m_s : (Nat → Int32)} {m_saved : (Nat → Int32)} {m_savedMany : Int32} {m_aside : (Nat → Int32)} {m_sent : (Nat → Int32)} {m_text : (Nat → Int32)} {m_length : Int32} {m_way : (Nat → Int32)} {m_crossed : Int32} {m_wayCost : Int32} {m_isWay : Int32} {m_next : Int32} {m_start : Int32} {m_token : Int32} {m_number : Int32} {m_letters : Int64} {m_isWrong : Int32} {m_sums : (Nat → Int32)} {m_steps : (Nat → Int32)} {m_chosen : Int32} {m_passed : (Nat → Int32)} {m_passedMany : Int32} {m_passedCost : Int32} {m_reach : (Nat → Int32)} {res : Int32 × Int32 × (Nat → Int32) × (Nat → Int32) × Int32 × (Nat → Int32) × Int32 × Int32} {q1 : (Int32 × Int32 × (Nat → Int32) × (Nat → Int32) × Int32 × (Nat → Int32) × Int32 × Int32) ⊕ (Int32 × Int32 × (Nat → Int32) × (Nat → Int32) × Int32 × (Nat → Int32) × Int32 × Int32)} (hb1 : ∀ b : Int32 × Int32 × (Nat → Int32) × (Nat → Int32) × Int32 × (Nat → Int32) × Int32 × Int32, q1 = .inl b → ∀ (H : Heap) (locs : List Loc) (ls : Array Slot), zW Z A (wX7 Z Am m_thrown m_s m_saved m_savedMany m_aside m_sent m_text m_length m_way m_crossed m_wayCost m_isWay m_next m_start m_token m_number m_letters m_isWrong b.2.2.1 b.2.2.2.1 b.2.2.2.2.1 b.2.2.2.2.2.1 b.2.2.2.2.2.2.1 b.2.2.2.2.2.2.2 m_reach) s.heap H locs → lv_has ls 5 [(0, .ref (Am 0)), (1, .int v1), (2, .int b.1), (3, .int b.2.1)] → W p l e rmX7_outcomes s m args below meth c H locs 0 0 (MQ below (zQi Z res.1 (wX7 Z Am res.2.1 m_s m_saved m_savedMany m_aside m_sent m_text m_length m_way m_crossed m_wayCost m_isWay m_next m_start m_token m_number m_letters m_isWrong res.2.2.1 res.2.2.2.1 res.2.2.2.2.1 res.2.2.2.2.2.1 res.2.2.2.2.2.2.1 res.2.2.2.2.2.2.2 m_reach) A) args s 0 0 A) (F0 m 20 ls [])) (hr1 : ∀ r' , q1 = .inr r' → r' = res) {q2 : (Int32 × Int32 × (Nat → Int32) × (Nat → Int32) × Int32 × (Nat → Int32) × Int32 × Int32) ⊕ ((Int32 × Int32 × (Nat → Int32) × (Nat → Int32) × Int32 × (Nat → Int32) × Int32 × Int32) ⊕ (Int32 × Int32 × (Nat → Int32) × (Nat → Int32) × Int32 × (Nat → Int32) × Int32 × Int32))} (hb2 : ∀ b : Int32 × Int32 × (Nat → Int32) × (Nat → Int32) × Int32 × (Nat → Int32) × Int32 × Int32, q2 = .inl b → ∀ (H : Heap) (locs : List Loc) (ls : Array Slot), zW Z A (wX7 Z Am m_thrown m_s m_saved m_savedMany m_aside m_sent m_text m_length m_way m_crossed m_wayCost m_isWay m_next m_start m_token m_number m_letters m_isWrong b.2.2.1 b.2.2.2.1 b.2.2.2.2.1 b.2.2.2.2.2.1 b.2.2.2.2.2.2.1 b.2.2.2.2.2.2.2 m_reach) s.heap H locs → lv_has ls 5 [(0, .ref (Am 0)), (1, .int v1), (2, .int b.1), (3, .int v3), (4, .int b.2.1)] → W p l e rmX7_outcomes s m args below meth c H locs 0 0 (MQ below (zQi Z res.1 (wX7 Z Am res.2.1 m_s m_saved m_savedMany m_aside m_sent m_text m_length m_way m_crossed m_wayCost m_isWay m_next m_start m_token m_number m_letters m_isWrong res.2.2.1 res.2.2.2.1 res.2.2.2.2.1 res.2.2.2.2.2.1 res.2.2.2.2.2.2.1 res.2.2.2.2.2.2.2 m_reach) A) args s 0 0 A) (F0 m 33 ls [])) (hr2 : ∀ r' , q2 = .inr r' → r' = q1) {H : Heap} {locs : List Loc} {ls : Array Slot} (hw : zW Z A (wX7 Z Am m_thrown m_s m_saved m_savedMany m_aside m_sent m_text m_length m_way m_crossed m_wayCost m_isWay m_next m_start m_token m_number m_letters m_isWrong m_sums m_steps m_chosen m_passed m_passedMany m_passedCost m_reach) s.heap H locs) (hl : lv_has ls 5 [(0, .ref (Am 0)), (1, .int v1), (3, .int v3), (4, .int v4)]) (h : uX7_outcomes_67 v4 k0 k1 m_sums m_steps m_chosen m_passed m_passedMany m_passedCost = some q2) : W p l e rmX7_outcomes s m args below meth c H locs 0 0 (MQ below (zQi Z res.1 (wX7 Z Am res.2.1 m_s m_saved m_savedMany m_aside m_sent m_text m_length m_way m_crossed m_wayCost m_isWay m_next m_start m_token m_number m_letters m_isWrong res.2.2.1 res.2.2.2.1 res.2.2.2.2.1 res.2.2.2.2.2.1 res.2.2.2.2.2.2.1 res.2.2.2.2.2.2.2 m_reach) A) args s 0 0 A) (F0 m 67 ls [.int k1, .int k0]) := by
  unfold uX7_outcomes_67 at h
  refine r_iadd E dX7_outcomes_67 ?_
  obtain ⟨w7, hw7, h⟩ := nm_out h
  refine r_nm hw7 ?_
  refine r_istore_n E [(2, .int w7), (0, .ref (Am 0)), (1, .int v1), (3, .int v3), (4, .int v4)] hl dX7_outcomes_68 rfl (by decide) rfl (fun ls hl => ?_)
  obtain ⟨w8, hw8, h⟩ := nm_out h
  refine r_iinc E w8 [(4, .int w8), (2, .int w7), (0, .ref (Am 0)), (1, .int v1), (3, .int v3)] hl (k := 4) rfl dX7_outcomes_69 hw8.symm (by decide) rfl (fun ls hl => ?_)
  refine r_goto E 33 dX7_outcomes_72 (by decide) ?_
  exact hb2 _ (Option.some.inj h).symm _ _ _ hw (lv_sub hl [2, 3, 1, 4, 0] rfl)
set_option maxRecDepth 100000 in
set_option maxHeartbeats 4000000 in
theorem vX7_outcomes_66 {Z : zT} {p : Program} {l : Launch} {e : Env} {s : State} {m : MethodId} {args : Array Value} {below : List Frame} {meth : Method} {c : Code} {A : Nat → Prop} (E : zE Z p s m args meth c RX7 cX7_outcomes 5 (some .int) A) {Am : Nat → Nat} {v1 : Int32} {v3 : Int32} {v4 : Int32} {k0 : Int32} {m_thrown : Int32} {m_s : (Nat → Int32)} {m_saved : (Nat → Int32)} {m_savedMany : Int32} {m_aside : (Nat → Int32)} {m_sent : (Nat → Int32)} {m_text : (Nat → Int32)} {m_length : Int32} {m_way : (Nat → Int32)} {m_crossed : Int32} {m_wayCost : Int32} {m_isWay : Int32} {m_next : Int32} {m_start : Int32} {m_token : Int32} {m_number : Int32} {m_letters : Int64} {m_isWrong : Int32} {m_sums : (Nat → Int32)} {m_steps : (Nat → Int32)} {m_chosen : Int32} {m_passed : (Nat → Int32)} {m_passedMany : Int32} {m_passedCost : Int32} {m_reach : (Nat → Int32)} {res : Int32 × Int32 × (Nat → Int32) × (Nat → Int32) × Int32 × (Nat → Int32) × Int32 × Int32} {q1 : (Int32 × Int32 × (Nat → Int32) × (Nat → Int32) × Int32 × (Nat → Int32) × Int32 × Int32) ⊕ (Int32 × Int32 × (Nat → Int32) × (Nat → Int32) × Int32 × (Nat → Int32) × Int32 × Int32)} (hb1 : ∀ b : Int32 × Int32 × (Nat → Int32) × (Nat → Int32) × Int32 × (Nat → Int32) × Int32 × Int32, q1 = .inl b → ∀ (H : Heap) (locs : List Loc) (ls : Array Slot), zW Z A (wX7 Z Am m_thrown m_s m_saved m_savedMany m_aside m_sent m_text m_length m_way m_crossed m_wayCost m_isWay m_next m_start m_token m_number m_letters m_isWrong b.2.2.1 b.2.2.2.1 b.2.2.2.2.1 b.2.2.2.2.2.1 b.2.2.2.2.2.2.1 b.2.2.2.2.2.2.2 m_reach) s.heap H locs → lv_has ls 5 [(0, .ref (Am 0)), (1, .int v1), (2, .int b.1), (3, .int b.2.1)] → W p l e rmX7_outcomes s m args below meth c H locs 0 0 (MQ below (zQi Z res.1 (wX7 Z Am res.2.1 m_s m_saved m_savedMany m_aside m_sent m_text m_length m_way m_crossed m_wayCost m_isWay m_next m_start m_token m_number m_letters m_isWrong res.2.2.1 res.2.2.2.1 res.2.2.2.2.1 res.2.2.2.2.2.1 res.2.2.2.2.2.2.1 res.2.2.2.2.2.2.2 m_reach) A) args s 0 0 A) (F0 m 20 ls [])) (hr1 : ∀ r' , q1 = .inr r' → r' = res) {q2 : (Int32 × Int32 × (Nat → Int32) × (Nat → Int32) × Int32 × (Nat → Int32) × Int32 × Int32) ⊕ ((Int32 × Int32 × (Nat → Int32) × (Nat → Int32) × Int32 × (Nat → Int32) × Int32 × Int32) ⊕ (Int32 × Int32 × (Nat → Int32) × (Nat → Int32) × Int32 × (Nat → Int32) × Int32 × Int32))} (hb2 : ∀ b : Int32 × Int32 × (Nat → Int32) × (Nat → Int32) × Int32 × (Nat → Int32) × Int32 × Int32, q2 = .inl b → ∀ (H : Heap) (locs : List Loc) (ls : Array Slot), zW Z A (wX7 Z Am m_thrown m_s m_saved m_savedMany m_aside m_sent m_text m_length m_way m_crossed m_wayCost m_isWay m_next m_start m_token m_number m_letters m_isWrong b.2.2.1 b.2.2.2.1 b.2.2.2.2.1 b.2.2.2.2.2.1 b.2.2.2.2.2.2.1 b.2.2.2.2.2.2.2 m_reach) s.heap H locs → lv_has ls 5 [(0, .ref (Am 0)), (1, .int v1), (2, .int b.1), (3, .int v3), (4, .int b.2.1)] → W p l e rmX7_outcomes s m args below meth c H locs 0 0 (MQ below (zQi Z res.1 (wX7 Z Am res.2.1 m_s m_saved m_savedMany m_aside m_sent m_text m_length m_way m_crossed m_wayCost m_isWay m_next m_start m_token m_number m_letters m_isWrong res.2.2.1 res.2.2.2.1 res.2.2.2.2.1 res.2.2.2.2.2.1 res.2.2.2.2.2.2.1 res.2.2.2.2.2.2.2 m_reach) A) args s 0 0 A) (F0 m 33 ls [])) (hr2 : ∀ r' , q2 = .inr r' → r' = q1) {H : Heap} {locs : List Loc} {ls : Array Slot} (hw : zW Z A (wX7 Z Am m_thrown m_s m_saved m_savedMany m_aside m_sent m_text m_length m_way m_crossed m_wayCost m_isWay m_next m_start m_token m_number m_letters m_isWrong m_sums m_steps m_chosen m_passed m_passedMany m_passedCost m_reach) s.heap H locs) (hl : lv_has ls 5 [(0, .ref (Am 0)), (1, .int v1), (3, .int v3), (4, .int v4)]) (h : uX7_outcomes_66 v4 k0 m_sums m_steps m_chosen m_passed m_passedMany m_passedCost = some q2) : W p l e rmX7_outcomes s m args below meth c H locs 0 0 (MQ below (zQi Z res.1 (wX7 Z Am res.2.1 m_s m_saved m_savedMany m_aside m_sent m_text m_length m_way m_crossed m_wayCost m_isWay m_next m_start m_token m_number m_letters m_isWrong res.2.2.1 res.2.2.2.1 res.2.2.2.2.1 res.2.2.2.2.2.1 res.2.2.2.2.2.2.1 res.2.2.2.2.2.2.2 m_reach) A) args s 0 0 A) (F0 m 66 ls [.int k0]) := by
  unfold uX7_outcomes_66 at h
  refine r_iconst E 0 dX7_outcomes_66 (by decide) ?_
  exact vX7_outcomes_67 E hb1 hr1 hb2 hr2 hw hl h
set_option maxRecDepth 100000 in
set_option maxHeartbeats 4000000 in
theorem tX7_outcomes_33 {Z : zT} {p : Program} {l : Launch} {e : Env} {s : State} {m : MethodId} {args : Array Value} {below : List Frame} {meth : Method} {c : Code} {A : Nat → Prop} (E : zE Z p s m args meth c RX7 cX7_outcomes 5 (some .int) A) {Am : Nat → Nat} {v1 : Int32} {v3 : Int32} {m_thrown : Int32} {m_s : (Nat → Int32)} {m_saved : (Nat → Int32)} {m_savedMany : Int32} {m_aside : (Nat → Int32)} {m_sent : (Nat → Int32)} {m_text : (Nat → Int32)} {m_length : Int32} {m_way : (Nat → Int32)} {m_crossed : Int32} {m_wayCost : Int32} {m_isWay : Int32} {m_next : Int32} {m_start : Int32} {m_token : Int32} {m_number : Int32} {m_letters : Int64} {m_isWrong : Int32} {m_reach : (Nat → Int32)} {res : Int32 × Int32 × (Nat → Int32) × (Nat → Int32) × Int32 × (Nat → Int32) × Int32 × Int32} {q1 : (Int32 × Int32 × (Nat → Int32) × (Nat → Int32) × Int32 × (Nat → Int32) × Int32 × Int32) ⊕ (Int32 × Int32 × (Nat → Int32) × (Nat → Int32) × Int32 × (Nat → Int32) × Int32 × Int32)} (hb1 : ∀ b : Int32 × Int32 × (Nat → Int32) × (Nat → Int32) × Int32 × (Nat → Int32) × Int32 × Int32, q1 = .inl b → ∀ (H : Heap) (locs : List Loc) (ls : Array Slot), zW Z A (wX7 Z Am m_thrown m_s m_saved m_savedMany m_aside m_sent m_text m_length m_way m_crossed m_wayCost m_isWay m_next m_start m_token m_number m_letters m_isWrong b.2.2.1 b.2.2.2.1 b.2.2.2.2.1 b.2.2.2.2.2.1 b.2.2.2.2.2.2.1 b.2.2.2.2.2.2.2 m_reach) s.heap H locs → lv_has ls 5 [(0, .ref (Am 0)), (1, .int v1), (2, .int b.1), (3, .int b.2.1)] → W p l e rmX7_outcomes s m args below meth c H locs 0 0 (MQ below (zQi Z res.1 (wX7 Z Am res.2.1 m_s m_saved m_savedMany m_aside m_sent m_text m_length m_way m_crossed m_wayCost m_isWay m_next m_start m_token m_number m_letters m_isWrong res.2.2.1 res.2.2.2.1 res.2.2.2.2.1 res.2.2.2.2.2.1 res.2.2.2.2.2.2.1 res.2.2.2.2.2.2.2 m_reach) A) args s 0 0 A) (F0 m 20 ls [])) (hr1 : ∀ r' , q1 = .inr r' → r' = res) : ∀ (n : Nat) (v2 : Int32) (v4 : Int32) (m_sums : (Nat → Int32)) (m_steps : (Nat → Int32)) (m_chosen : Int32) (m_passed : (Nat → Int32)) (m_passedMany : Int32) (m_passedCost : Int32) (H : Heap) (locs : List Loc) (ls : Array Slot), iter (fun b : Int32 × Int32 × (Nat → Int32) × (Nat → Int32) × Int32 × (Nat → Int32) × Int32 × Int32 => sX7_outcomes_33 v1 v3 m_s b.1 b.2.1 b.2.2.1 b.2.2.2.1 b.2.2.2.2.1 b.2.2.2.2.2.1 b.2.2.2.2.2.2.1 b.2.2.2.2.2.2.2) n (v2, v4, m_sums, m_steps, m_chosen, m_passed, m_passedMany, m_passedCost) = some q1 → zW Z A (wX7 Z Am m_thrown m_s m_saved m_savedMany m_aside m_sent m_text m_length m_way m_crossed m_wayCost m_isWay m_next m_start m_token m_number m_letters m_isWrong m_sums m_steps m_chosen m_passed m_passedMany m_passedCost m_reach) s.heap H locs → lv_has ls 5 [(0, .ref (Am 0)), (1, .int v1), (2, .int v2), (3, .int v3), (4, .int v4)] → W p l e rmX7_outcomes s m args below meth c H locs 0 0 (MQ below (zQi Z res.1 (wX7 Z Am res.2.1 m_s m_saved m_savedMany m_aside m_sent m_text m_length m_way m_crossed m_wayCost m_isWay m_next m_start m_token m_number m_letters m_isWrong res.2.2.1 res.2.2.2.1 res.2.2.2.2.1 res.2.2.2.2.2.1 res.2.2.2.2.2.2.1 res.2.2.2.2.2.2.2 m_reach) A) args s 0 0 A) (F0 m 33 ls []) := by
  intro n
  induction n with
  | zero => intro v2 v4 m_sums m_steps m_chosen m_passed m_passedMany m_passedCost H locs ls h; cases h
  | succ n ih =>
    intro v2 v4 m_sums m_steps m_chosen m_passed m_passedMany m_passedCost H locs ls h hw hl
    obtain ⟨q2, h, hn2, hr2⟩ := iter_out h
    have hb2 : ∀ b : Int32 × Int32 × (Nat → Int32) × (Nat → Int32) × Int32 × (Nat → Int32) × Int32 × Int32, q2 = .inl b → ∀ (H : Heap) (locs : List Loc) (ls : Array Slot), zW Z A (wX7 Z Am m_thrown m_s m_saved m_savedMany m_aside m_sent m_text m_length m_way m_crossed m_wayCost m_isWay m_next m_start m_token m_number m_letters m_isWrong b.2.2.1 b.2.2.2.1 b.2.2.2.2.1 b.2.2.2.2.2.1 b.2.2.2.2.2.2.1 b.2.2.2.2.2.2.2 m_reach) s.heap H locs → lv_has ls 5 [(0, .ref (Am 0)), (1, .int v1), (2, .int b.1), (3, .int v3), (4, .int b.2.1)] → W p l e rmX7_outcomes s m args below meth c H locs 0 0 (MQ below (zQi Z res.1 (wX7 Z Am res.2.1 m_s m_saved m_savedMany m_aside m_sent m_text m_length m_way m_crossed m_wayCost m_isWay m_next m_start m_token m_number m_letters m_isWrong res.2.2.1 res.2.2.2.1 res.2.2.2.2.1 res.2.2.2.2.2.1 res.2.2.2.2.2.2.1 res.2.2.2.2.2.2.2 m_reach) A) args s 0 0 A) (F0 m 33 ls []) := fun b eb H locs ls hw hl => ih b.1 b.2.1 b.2.2.1 b.2.2.2.1 b.2.2.2.2.1 b.2.2.2.2.2.1 b.2.2.2.2.2.2.1 b.2.2.2.2.2.2.2 H locs ls (hn2 b eb) hw hl
    replace h : sX7_outcomes_33 v1 v3 m_s v2 v4 m_sums m_steps m_chosen m_passed m_passedMany m_passedCost = some q2 := h
    unfold sX7_outcomes_33 at h
    refine r_iload E hl 4 rfl dX7_outcomes_33 ?_
    refine r_aload_n E hl 0 rfl dX7_outcomes_35 rfl ?_
    refine r_get E kW_X7 hw 0 rfl rfl 1 (by decide) kF_X7_7 rfl dX7_outcomes_36 ?_
    refine r_iconst E 0 dX7_outcomes_39 (by decide) ?_
    obtain ⟨hg4, h⟩ := gd_some h
    refine r_iald E hw 1 rfl hg4 dX7_outcomes_40 ?_
    refine r_icmp_ge E 75 dX7_outcomes_41 (by decide) (fun hc => ?_) (fun hc => ?_)
    · replace h := ite_t hc h
      obtain ⟨ro6, h, hro6⟩ := oi_some h
      rw [hr2 _ hro6] at h
      exact vX7_outcomes_75 E hb1 hr1 hw (lv_sub hl [0, 1, 2, 3] rfl) h
    · replace h := ite_f hc h
      refine r_iload_n E hl 2 rfl dX7_outcomes_44 rfl ?_
      refine r_iload_n E hl 3 rfl dX7_outcomes_45 rfl ?_
      refine r_iload E hl 4 rfl dX7_outcomes_46 ?_
      refine r_icmp_eq E 66 dX7_outcomes_48 (by decide) (fun hc => ?_) (fun hc => ?_)
      · replace h := ite_t hc h
        exact vX7_outcomes_66 E hb1 hr1 hb2 hr2 hw (lv_sub hl [0, 1, 3, 4] rfl) h
      · replace h := ite_f hc h
        refine r_aload_n E hl 0 rfl dX7_outcomes_51 rfl ?_
        refine r_iload_n E hl 3 rfl dX7_outcomes_52 rfl ?_
        refine r_iload E hl 4 rfl dX7_outcomes_53 ?_
        obtain ⟨y9, hy9, h⟩ := bd_some h
        refine r_callVAi E hw (mX7_carry l Z _ Am m_thrown m_s m_saved m_savedMany m_aside m_sent m_text m_length m_way m_crossed m_wayCost m_isWay m_next m_start m_token m_number m_letters m_isWrong m_sums m_steps m_chosen m_passed m_passedMany m_passedCost m_reach v3 v4 hy9) kL_X7_285 kI_X7_carry kS_X7_carry kN_X7 kC_X7_carry rfl rfl hdX7_carry ⟨Nat.le_of_ble_eq_true rfl, Nat.le_of_ble_eq_true rfl⟩ 0 rfl rfl rfl rfl hl [.int v2] rfl (Nat.le_of_ble_eq_true rfl) dX7_outcomes_55 ⟨Nat.zero_le _, Nat.zero_le _⟩ (fun H locs hw => ?_)
        refine r_iload_n E hl 1 rfl dX7_outcomes_58 rfl ?_
        refine r_icmp_ne E 66 dX7_outcomes_59 (by decide) (fun hc => ?_) (fun hc => ?_)
        · replace h := ite_f hc h
          exact vX7_outcomes_66 E hb1 hr1 hb2 hr2 hw (lv_sub hl [0, 1, 3, 4] rfl) h
        · replace h := ite_t hc h
          refine r_iconst E 1 dX7_outcomes_62 (by decide) ?_
          refine r_goto E 67 dX7_outcomes_63 (by decide) ?_
          exact vX7_outcomes_67 E hb1 hr1 hb2 hr2 hw (lv_sub hl [0, 1, 3, 4] rfl) h
set_option maxRecDepth 100000 in
set_option maxHeartbeats 4000000 in
theorem tX7_outcomes_20 {Z : zT} {p : Program} {l : Launch} {e : Env} {s : State} {m : MethodId} {args : Array Value} {below : List Frame} {meth : Method} {c : Code} {A : Nat → Prop} (E : zE Z p s m args meth c RX7 cX7_outcomes 5 (some .int) A) {Am : Nat → Nat} {v1 : Int32} {m_thrown : Int32} {m_s : (Nat → Int32)} {m_saved : (Nat → Int32)} {m_savedMany : Int32} {m_aside : (Nat → Int32)} {m_sent : (Nat → Int32)} {m_text : (Nat → Int32)} {m_length : Int32} {m_way : (Nat → Int32)} {m_crossed : Int32} {m_wayCost : Int32} {m_isWay : Int32} {m_next : Int32} {m_start : Int32} {m_token : Int32} {m_number : Int32} {m_letters : Int64} {m_isWrong : Int32} {m_reach : (Nat → Int32)} {res : Int32 × Int32 × (Nat → Int32) × (Nat → Int32) × Int32 × (Nat → Int32) × Int32 × Int32}  : ∀ (n : Nat) (v2 : Int32) (v3 : Int32) (m_sums : (Nat → Int32)) (m_steps : (Nat → Int32)) (m_chosen : Int32) (m_passed : (Nat → Int32)) (m_passedMany : Int32) (m_passedCost : Int32) (H : Heap) (locs : List Loc) (ls : Array Slot), iter (fun b : Int32 × Int32 × (Nat → Int32) × (Nat → Int32) × Int32 × (Nat → Int32) × Int32 × Int32 => sX7_outcomes_20 v1 m_thrown m_s b.1 b.2.1 b.2.2.1 b.2.2.2.1 b.2.2.2.2.1 b.2.2.2.2.2.1 b.2.2.2.2.2.2.1 b.2.2.2.2.2.2.2) n (v2, v3, m_sums, m_steps, m_chosen, m_passed, m_passedMany, m_passedCost) = some res → zW Z A (wX7 Z Am m_thrown m_s m_saved m_savedMany m_aside m_sent m_text m_length m_way m_crossed m_wayCost m_isWay m_next m_start m_token m_number m_letters m_isWrong m_sums m_steps m_chosen m_passed m_passedMany m_passedCost m_reach) s.heap H locs → lv_has ls 5 [(0, .ref (Am 0)), (1, .int v1), (2, .int v2), (3, .int v3)] → W p l e rmX7_outcomes s m args below meth c H locs 0 0 (MQ below (zQi Z res.1 (wX7 Z Am res.2.1 m_s m_saved m_savedMany m_aside m_sent m_text m_length m_way m_crossed m_wayCost m_isWay m_next m_start m_token m_number m_letters m_isWrong res.2.2.1 res.2.2.2.1 res.2.2.2.2.1 res.2.2.2.2.2.1 res.2.2.2.2.2.2.1 res.2.2.2.2.2.2.2 m_reach) A) args s 0 0 A) (F0 m 20 ls []) := by
  intro n
  induction n with
  | zero => intro v2 v3 m_sums m_steps m_chosen m_passed m_passedMany m_passedCost H locs ls h; cases h
  | succ n ih =>
    intro v2 v3 m_sums m_steps m_chosen m_passed m_passedMany m_passedCost H locs ls h hw hl
    obtain ⟨q1, h, hn1, hr1⟩ := iter_out h
    have hb1 : ∀ b : Int32 × Int32 × (Nat → Int32) × (Nat → Int32) × Int32 × (Nat → Int32) × Int32 × Int32, q1 = .inl b → ∀ (H : Heap) (locs : List Loc) (ls : Array Slot), zW Z A (wX7 Z Am m_thrown m_s m_saved m_savedMany m_aside m_sent m_text m_length m_way m_crossed m_wayCost m_isWay m_next m_start m_token m_number m_letters m_isWrong b.2.2.1 b.2.2.2.1 b.2.2.2.2.1 b.2.2.2.2.2.1 b.2.2.2.2.2.2.1 b.2.2.2.2.2.2.2 m_reach) s.heap H locs → lv_has ls 5 [(0, .ref (Am 0)), (1, .int v1), (2, .int b.1), (3, .int b.2.1)] → W p l e rmX7_outcomes s m args below meth c H locs 0 0 (MQ below (zQi Z res.1 (wX7 Z Am res.2.1 m_s m_saved m_savedMany m_aside m_sent m_text m_length m_way m_crossed m_wayCost m_isWay m_next m_start m_token m_number m_letters m_isWrong res.2.2.1 res.2.2.2.1 res.2.2.2.2.1 res.2.2.2.2.2.1 res.2.2.2.2.2.2.1 res.2.2.2.2.2.2.2 m_reach) A) args s 0 0 A) (F0 m 20 ls []) := fun b eb H locs ls hw hl => ih b.1 b.2.1 b.2.2.1 b.2.2.2.1 b.2.2.2.2.1 b.2.2.2.2.2.1 b.2.2.2.2.2.2.1 b.2.2.2.2.2.2.2 H locs ls (hn1 b eb) hw hl
    replace h : sX7_outcomes_20 v1 m_thrown m_s v2 v3 m_sums m_steps m_chosen m_passed m_passedMany m_passedCost = some q1 := h
    unfold sX7_outcomes_20 at h
    refine r_iload_n E hl 3 rfl dX7_outcomes_20 rfl ?_
    refine r_aload_n E hl 0 rfl dX7_outcomes_21 rfl ?_
    refine r_get E kW_X7 hw 0 rfl rfl 1 (by decide) kF_X7_7 rfl dX7_outcomes_22 ?_
    refine r_iconst E 0 dX7_outcomes_25 (by decide) ?_
    obtain ⟨hg2, h⟩ := gd_some h
    refine r_iald E hw 1 rfl hg2 dX7_outcomes_26 ?_
    refine r_icmp_ge E 81 dX7_outcomes_27 (by decide) (fun hc => ?_) (fun hc => ?_)
    · replace h := ite_t hc h
      obtain ⟨ro3, h, hro3⟩ := oi_some h
      rw [hr1 _ hro3] at h
      refine r_iload_n E hl 2 rfl dX7_outcomes_81 rfl ?_
      obtain rfl := Option.some.inj h
      exact r_iret E hw dX7_outcomes_82
    · replace h := ite_f hc h
      refine r_iconst E 0 dX7_outcomes_30 (by decide) ?_
      refine r_istore E [(4, .int (0 : Int32)), (0, .ref (Am 0)), (1, .int v1), (2, .int v2), (3, .int v3)] hl dX7_outcomes_31 (by decide) rfl (fun ls hl => ?_)
      obtain ⟨n10, h⟩ := wh_some h
      exact tX7_outcomes_33 E hb1 hr1 n10 _ _ _ _ _ _ _ _ _ _ _ h hw (lv_sub hl [1, 2, 3, 4, 0] rfl)
set_option maxRecDepth 100000 in
set_option maxHeartbeats 4000000 in
theorem mX7_outcomes (l : Launch) (Z : zT) (sz : Nat) (Am : Nat → Nat) (m_thrown : Int32) (m_s : (Nat → Int32)) (m_saved : (Nat → Int32)) (m_savedMany : Int32) (m_aside : (Nat → Int32)) (m_sent : (Nat → Int32)) (m_text : (Nat → Int32)) (m_length : Int32) (m_way : (Nat → Int32)) (m_crossed : Int32) (m_wayCost : Int32) (m_isWay : Int32) (m_next : Int32) (m_start : Int32) (m_token : Int32) (m_number : Int32) (m_letters : Int64) (m_isWrong : Int32) (m_sums : (Nat → Int32)) (m_steps : (Nat → Int32)) (m_chosen : Int32) (m_passed : (Nat → Int32)) (m_passedMany : Int32) (m_passedCost : Int32) (m_reach : (Nat → Int32)) (v1 : Int32) {res : Int32 × Int32 × (Nat → Int32) × (Nat → Int32) × Int32 × (Nat → Int32) × Int32 × Int32} (h : fX7_outcomes v1 m_s m_sums m_steps m_chosen m_passed m_passedMany m_passedCost = some res) : Met l yX7_outcomes (Cond.code yX7_outcomes cX7_outcomes 5 (some .int) :: zWs) rmX7_outcomes (zP Z (wX7 Z Am m_thrown m_s m_saved m_savedMany m_aside m_sent m_text m_length m_way m_crossed m_wayCost m_isWay m_next m_start m_token m_number m_letters m_isWrong m_sums m_steps m_chosen m_passed m_passedMany m_passedCost m_reach) sz [.ref (Am 0), .int v1]) (zQi Z res.1 (wX7 Z Am res.2.1 m_s m_saved m_savedMany m_aside m_sent m_text m_length m_way m_crossed m_wayCost m_isWay m_next m_start m_token m_number m_letters m_isWrong res.2.2.1 res.2.2.2.1 res.2.2.2.2.1 res.2.2.2.2.2.1 res.2.2.2.2.2.2.1 res.2.2.2.2.2.2.2 m_reach) (va_A (wX7 Z Am m_thrown m_s m_saved m_savedMany m_aside m_sent m_text m_length m_way m_crossed m_wayCost m_isWay m_next m_start m_token m_number m_letters m_isWrong m_sums m_steps m_chosen m_passed m_passedMany m_passedCost m_reach) sz)) 0 0 (va_A (wX7 Z Am m_thrown m_s m_saved m_savedMany m_aside m_sent m_text m_length m_way m_crossed m_wayCost m_isWay m_next m_start m_token m_number m_letters m_isWrong m_sums m_steps m_chosen m_passed m_passedMany m_passedCost m_reach) sz) := by
  refine zMet (own := RX7) (fun A => zQi Z res.1 (wX7 Z Am res.2.1 m_s m_saved m_savedMany m_aside m_sent m_text m_length m_way m_crossed m_wayCost m_isWay m_next m_start m_token m_number m_letters m_isWrong res.2.2.1 res.2.2.2.1 res.2.2.2.2.1 res.2.2.2.2.2.1 res.2.2.2.2.2.2.1 res.2.2.2.2.2.2.2 m_reach) A) (by decide) rfl (Nat.le_of_ble_eq_true rfl) ?_
  intro p e s m args below meth c ls A E hw hl
  unfold fX7_outcomes at h
  refine r_aload_n E hl 0 rfl dX7_outcomes_0 rfl ?_
  refine r_iconst E 0 dX7_outcomes_1 (by decide) ?_
  refine r_put E (wX7 Z Am (0 : Int32) m_s m_saved m_savedMany m_aside m_sent m_text m_length m_way m_crossed m_wayCost m_isWay m_next m_start m_token m_number m_letters m_isWrong m_sums m_steps m_chosen m_passed m_passedMany m_passedCost m_reach) kW_X7 tyX7_ok nmX7 hw 0 rfl rfl 0 (by decide) kF_X7_40 rfl rfl rfl (Nat.le_of_ble_eq_true rfl) rfl dX7_outcomes_2 (fun H locs hw => ?_)
  refine r_iload_n E hl 1 rfl dX7_outcomes_5 rfl ?_
  refine r_iconst E 0 dX7_outcomes_6 (by decide) ?_
  refine r_iconst E 4 dX7_outcomes_7 (by decide) ?_
  obtain ⟨y1, hy1, h⟩ := bd_some h
  refine r_callS0i E hw (mX7_in l Z _ v1 (0 : Int32) (4 : Int32) hy1) kL_X7_58 kT_X7_in kN_X7 kC_X7_in rfl rfl hdX7_in ⟨Nat.le_of_ble_eq_true rfl, Nat.le_of_ble_eq_true rfl⟩ rfl hl [] rfl (Nat.le_of_ble_eq_true rfl) dX7_outcomes_8 ⟨Nat.zero_le _, Nat.zero_le _⟩ (fun H locs hw => ?_)
  refine r_if_ne E 16 dX7_outcomes_11 (by decide) (fun hc => ?_) (fun hc => ?_)
  · replace h := ite_f hc h
    refine r_iconst E 0 dX7_outcomes_16 (by decide) ?_
    refine r_istore_n E [(2, .int (0 : Int32)), (0, .ref (Am 0)), (1, .int v1)] hl dX7_outcomes_17 rfl (by decide) rfl (fun ls hl => ?_)
    refine r_iconst E 0 dX7_outcomes_18 (by decide) ?_
    refine r_istore_n E [(3, .int (0 : Int32)), (2, .int (0 : Int32)), (0, .ref (Am 0)), (1, .int v1)] hl dX7_outcomes_19 rfl (by decide) rfl (fun ls hl => ?_)
    obtain ⟨n11, h⟩ := wh_some h
    exact tX7_outcomes_20 E  n11 _ _ _ _ _ _ _ _ _ _ _ h hw (lv_sub hl [2, 3, 1, 0] rfl)
  · replace h := ite_t hc h
    refine r_iconst E (-1) dX7_outcomes_14 (by decide) ?_
    obtain rfl := Option.some.inj h
    exact r_iret E hw dX7_outcomes_15
abbrev rmX7_findIdeal : Room := { frames := 3, cells := 0, slots := 0, locals := 65 }

set_option maxRecDepth 100000 in
set_option maxHeartbeats 4000000 in
theorem vX7_findIdeal_219 {Z : zT} {p : Program} {l : Launch} {e : Env} {s : State} {m : MethodId} {args : Array Value} {below : List Frame} {meth : Method} {c : Code} {A : Nat → Prop} (E : zE Z p s m args meth c RX7 cX7_findIdeal 8 none A) {Am : Nat → Nat} {v1 : Int32} {v2 : Int32} {m_thrown : Int32} {m_s : (Nat → Int32)} {m_saved : (Nat → Int32)} {m_savedMany : Int32} {m_aside : (Nat → Int32)} {m_sent : (Nat → Int32)} {m_text : (Nat → Int32)} {m_length : Int32} {m_way : (Nat → Int32)} {m_crossed : Int32} {m_wayCost : Int32} {m_isWay : Int32} {m_next : Int32} {m_start : Int32} {m_token : Int32} {m_number : Int32} {m_letters : Int64} {m_isWrong : Int32} {m_sums : (Nat → Int32)} {m_steps : (Nat → Int32)} {m_chosen : Int32} {m_passed : (Nat → Int32)} {m_passedMany : Int32} {m_passedCost : Int32} {m_reach : (Nat → Int32)} {res : (Nat → Int32)} {q1 : (Int32 × (Nat → Int32)) ⊕ ((Nat → Int32))} (hb1 : ∀ b : Int32 × (Nat → Int32), q1 = .inl b → ∀ (H : Heap) (locs : List Loc) (ls : Array Slot), zW Z A (wX7 Z Am m_thrown m_s m_saved m_savedMany m_aside m_sent m_text m_length m_way m_crossed m_wayCost m_isWay m_next m_start m_token m_number m_letters m_isWrong m_sums m_steps m_chosen m_passed m_passedMany m_passedCost b.2) s.heap H locs → lv_has ls 8 [(0, .ref (Am 0)), (1, .int v1), (2, .int b.1)] → W p l e rmX7_findIdeal s m args below meth c H locs 0 0 (MQ below (zQv Z (wX7 Z Am m_thrown m_s m_saved m_savedMany m_aside m_sent m_text m_length m_way m_crossed m_wayCost m_isWay m_next m_start m_token m_number m_letters m_isWrong m_sums m_steps m_chosen m_passed m_passedMany m_passedCost res) A) args s 0 0 A) (F0 m 33 ls [])) (hr1 : ∀ r' , q1 = .inr r' → r' = res) {H : Heap} {locs : List Loc} {ls : Array Slot} (hw : zW Z A (wX7 Z Am m_thrown m_s m_saved m_savedMany m_aside m_sent m_text m_length m_way m_crossed m_wayCost m_isWay m_next m_start m_token m_number m_letters m_isWrong m_sums m_steps m_chosen m_passed m_passedMany m_passedCost m_reach) s.heap H locs) (hl : lv_has ls 8 [(0, .ref (Am 0)), (1, .int v1), (2, .int v2)]) (h : uX7_findIdeal_219 v2 m_reach = some q1) : W p l e rmX7_findIdeal s m args below meth c H locs 0 0 (MQ below (zQv Z (wX7 Z Am m_thrown m_s m_saved m_savedMany m_aside m_sent m_text m_length m_way m_crossed m_wayCost m_isWay m_next m_start m_token m_number m_letters m_isWrong m_sums m_steps m_chosen m_passed m_passedMany m_passedCost res) A) args s 0 0 A) (F0 m 219 ls []) := by
  unfold uX7_findIdeal_219 at h
  obtain ⟨w4, hw4, h⟩ := nm_out h
  refine r_iinc E w4 [(2, .int w4), (0, .ref (Am 0)), (1, .int v1)] hl (k := 2) rfl dX7_findIdeal_219 hw4.symm (by decide) rfl (fun ls hl => ?_)
  refine r_goto E 33 dX7_findIdeal_222 (by decide) ?_
  exact hb1 _ (Option.some.inj h).symm _ _ _ hw (lv_sub hl [1, 2, 0] rfl)
set_option maxRecDepth 100000 in
set_option maxHeartbeats 4000000 in
theorem vX7_findIdeal_212 {Z : zT} {p : Program} {l : Launch} {e : Env} {s : State} {m : MethodId} {args : Array Value} {below : List Frame} {meth : Method} {c : Code} {A : Nat → Prop} (E : zE Z p s m args meth c RX7 cX7_findIdeal 8 none A) {Am : Nat → Nat} {v1 : Int32} {v2 : Int32} {v3 : Int32} {k1 : Int32} {k2 : Int32} {m_thrown : Int32} {m_s : (Nat → Int32)} {m_saved : (Nat → Int32)} {m_savedMany : Int32} {m_aside : (Nat → Int32)} {m_sent : (Nat → Int32)} {m_text : (Nat → Int32)} {m_length : Int32} {m_way : (Nat → Int32)} {m_crossed : Int32} {m_wayCost : Int32} {m_isWay : Int32} {m_next : Int32} {m_start : Int32} {m_token : Int32} {m_number : Int32} {m_letters : Int64} {m_isWrong : Int32} {m_sums : (Nat → Int32)} {m_steps : (Nat → Int32)} {m_chosen : Int32} {m_passed : (Nat → Int32)} {m_passedMany : Int32} {m_passedCost : Int32} {m_reach : (Nat → Int32)} {res : (Nat → Int32)} {q1 : (Int32 × (Nat → Int32)) ⊕ ((Nat → Int32))} (hb1 : ∀ b : Int32 × (Nat → Int32), q1 = .inl b → ∀ (H : Heap) (locs : List Loc) (ls : Array Slot), zW Z A (wX7 Z Am m_thrown m_s m_saved m_savedMany m_aside m_sent m_text m_length m_way m_crossed m_wayCost m_isWay m_next m_start m_token m_number m_letters m_isWrong m_sums m_steps m_chosen m_passed m_passedMany m_passedCost b.2) s.heap H locs → lv_has ls 8 [(0, .ref (Am 0)), (1, .int v1), (2, .int b.1)] → W p l e rmX7_findIdeal s m args below meth c H locs 0 0 (MQ below (zQv Z (wX7 Z Am m_thrown m_s m_saved m_savedMany m_aside m_sent m_text m_length m_way m_crossed m_wayCost m_isWay m_next m_start m_token m_number m_letters m_isWrong m_sums m_steps m_chosen m_passed m_passedMany m_passedCost res) A) args s 0 0 A) (F0 m 33 ls [])) (hr1 : ∀ r' , q1 = .inr r' → r' = res) {q2 : (Int32 × (Nat → Int32)) ⊕ ((Int32 × (Nat → Int32)) ⊕ ((Nat → Int32)))} (hb2 : ∀ b : Int32 × (Nat → Int32), q2 = .inl b → ∀ (H : Heap) (locs : List Loc) (ls : Array Slot), zW Z A (wX7 Z Am m_thrown m_s m_saved m_savedMany m_aside m_sent m_text m_length m_way m_crossed m_wayCost m_isWay m_next m_start m_token m_number m_letters m_isWrong m_sums m_steps m_chosen m_passed m_passedMany m_passedCost b.2) s.heap H locs → lv_has ls 8 [(0, .ref (Am 0)), (1, .int v1), (2, .int v2), (3, .int b.1)] → W p l e rmX7_findIdeal s m args below meth c H locs 0 0 (MQ below (zQv Z (wX7 Z Am m_thrown m_s m_saved m_savedMany m_aside m_sent m_text m_length m_way m_crossed m_wayCost m_isWay m_next m_start m_token m_number m_letters m_isWrong m_sums m_steps m_chosen m_passed m_passedMany m_passedCost res) A) args s 0 0 A) (F0 m 45 ls [])) (hr2 : ∀ r' , q2 = .inr r' → r' = q1) {H : Heap} {locs : List Loc} {ls : Array Slot} (hw : zW Z A (wX7 Z Am m_thrown m_s m_saved m_savedMany m_aside m_sent m_text m_length m_way m_crossed m_wayCost m_isWay m_next m_start m_token m_number m_letters m_isWrong m_sums m_steps m_chosen m_passed m_passedMany m_passedCost m_reach) s.heap H locs) (hl : lv_has ls 8 [(0, .ref (Am 0)), (1, .int v1), (2, .int v2), (3, .int v3)]) (h : uX7_findIdeal_212 v3 k1 k2 m_reach = some q2) : W p l e rmX7_findIdeal s m args below meth c H locs 0 0 (MQ below (zQv Z (wX7 Z Am m_thrown m_s m_saved m_savedMany m_aside m_sent m_text m_length m_way m_crossed m_wayCost m_isWay m_next m_start m_token m_number m_letters m_isWrong m_sums m_steps m_chosen m_passed m_passedMany m_passedCost res) A) args s 0 0 A) (F0 m 212 ls [.int k2, .int k1, .ref (Am 10)]) := by
  unfold uX7_findIdeal_212 at h
  obtain ⟨hg16, h⟩ := gd_some h
  refine r_iast E (wX7 Z Am m_thrown m_s m_saved m_savedMany m_aside m_sent m_text m_length m_way m_crossed m_wayCost m_isWay m_next m_start m_token m_number m_letters m_isWrong m_sums m_steps m_chosen m_passed m_passedMany m_passedCost (upd m_reach (k1).toNatClampNeg k2)) hw 10 rfl hg16 rfl dX7_findIdeal_212 (fun H locs hw => ?_)
  obtain ⟨w17, hw17, h⟩ := nm_out h
  refine r_iinc E w17 [(3, .int w17), (0, .ref (Am 0)), (1, .int v1), (2, .int v2)] hl (k := 3) rfl dX7_findIdeal_213 hw17.symm (by decide) rfl (fun ls hl => ?_)
  refine r_goto E 45 dX7_findIdeal_216 (by decide) ?_
  exact hb2 _ (Option.some.inj h).symm _ _ _ hw (lv_sub hl [1, 2, 3, 0] rfl)
set_option maxRecDepth 100000 in
set_option maxHeartbeats 4000000 in
theorem vX7_findIdeal_165 {Z : zT} {p : Program} {l : Launch} {e : Env} {s : State} {m : MethodId} {args : Array Value} {below : List Frame} {meth : Method} {c : Code} {A : Nat → Prop} (E : zE Z p s m args meth c RX7 cX7_findIdeal 8 none A) {Am : Nat → Nat} {v1 : Int32} {v2 : Int32} {v3 : Int32} {v4 : Int32} {v5 : Int32} {v7 : Int32} {k1 : Int32} {k2 : Int32} {m_thrown : Int32} {m_s : (Nat → Int32)} {m_saved : (Nat → Int32)} {m_savedMany : Int32} {m_aside : (Nat → Int32)} {m_sent : (Nat → Int32)} {m_text : (Nat → Int32)} {m_length : Int32} {m_way : (Nat → Int32)} {m_crossed : Int32} {m_wayCost : Int32} {m_isWay : Int32} {m_next : Int32} {m_start : Int32} {m_token : Int32} {m_number : Int32} {m_letters : Int64} {m_isWrong : Int32} {m_sums : (Nat → Int32)} {m_steps : (Nat → Int32)} {m_chosen : Int32} {m_passed : (Nat → Int32)} {m_passedMany : Int32} {m_passedCost : Int32} {m_reach : (Nat → Int32)} {res : (Nat → Int32)} {q1 : (Int32 × (Nat → Int32)) ⊕ ((Nat → Int32))} (hb1 : ∀ b : Int32 × (Nat → Int32), q1 = .inl b → ∀ (H : Heap) (locs : List Loc) (ls : Array Slot), zW Z A (wX7 Z Am m_thrown m_s m_saved m_savedMany m_aside m_sent m_text m_length m_way m_crossed m_wayCost m_isWay m_next m_start m_token m_number m_letters m_isWrong m_sums m_steps m_chosen m_passed m_passedMany m_passedCost b.2) s.heap H locs → lv_has ls 8 [(0, .ref (Am 0)), (1, .int v1), (2, .int b.1)] → W p l e rmX7_findIdeal s m args below meth c H locs 0 0 (MQ below (zQv Z (wX7 Z Am m_thrown m_s m_saved m_savedMany m_aside m_sent m_text m_length m_way m_crossed m_wayCost m_isWay m_next m_start m_token m_number m_letters m_isWrong m_sums m_steps m_chosen m_passed m_passedMany m_passedCost res) A) args s 0 0 A) (F0 m 33 ls [])) (hr1 : ∀ r' , q1 = .inr r' → r' = res) {q2 : (Int32 × (Nat → Int32)) ⊕ ((Int32 × (Nat → Int32)) ⊕ ((Nat → Int32)))} (hb2 : ∀ b : Int32 × (Nat → Int32), q2 = .inl b → ∀ (H : Heap) (locs : List Loc) (ls : Array Slot), zW Z A (wX7 Z Am m_thrown m_s m_saved m_savedMany m_aside m_sent m_text m_length m_way m_crossed m_wayCost m_isWay m_next m_start m_token m_number m_letters m_isWrong m_sums m_steps m_chosen m_passed m_passedMany m_passedCost b.2) s.heap H locs → lv_has ls 8 [(0, .ref (Am 0)), (1, .int v1), (2, .int v2), (3, .int b.1)] → W p l e rmX7_findIdeal s m args below meth c H locs 0 0 (MQ below (zQv Z (wX7 Z Am m_thrown m_s m_saved m_savedMany m_aside m_sent m_text m_length m_way m_crossed m_wayCost m_isWay m_next m_start m_token m_number m_letters m_isWrong m_sums m_steps m_chosen m_passed m_passedMany m_passedCost res) A) args s 0 0 A) (F0 m 45 ls [])) (hr2 : ∀ r' , q2 = .inr r' → r' = q1) {H : Heap} {locs : List Loc} {ls : Array Slot} (hw : zW Z A (wX7 Z Am m_thrown m_s m_saved m_savedMany m_aside m_sent m_text m_length m_way m_crossed m_wayCost m_isWay m_next m_start m_token m_number m_letters m_isWrong m_sums m_steps m_chosen m_passed m_passedMany m_passedCost m_reach) s.heap H locs) (hl : lv_has ls 8 [(0, .ref (Am 0)), (1, .int v1), (2, .int v2), (3, .int v3), (4, .int v4), (5, .int v5), (7, .int v7)]) (h : uX7_findIdeal_165 v3 v4 v5 v7 k1 k2 m_reach = some q2) : W p l e rmX7_findIdeal s m args below meth c H locs 0 0 (MQ below (zQv Z (wX7 Z Am m_thrown m_s m_saved m_savedMany m_aside m_sent m_text m_length m_way m_crossed m_wayCost m_isWay m_next m_start m_token m_number m_letters m_isWrong m_sums m_steps m_chosen m_passed m_passedMany m_passedCost res) A) args s 0 0 A) (F0 m 165 ls [.int k2, .int k1, .ref (Am 10)]) := by
  unfold uX7_findIdeal_165 at h
  obtain ⟨hg12, h⟩ := gd_some h
  refine r_iast E (wX7 Z Am m_thrown m_s m_saved m_savedMany m_aside m_sent m_text m_length m_way m_crossed m_wayCost m_isWay m_next m_start m_token m_number m_letters m_isWrong m_sums m_steps m_chosen m_passed m_passedMany m_passedCost (upd m_reach (k1).toNatClampNeg k2)) hw 10 rfl hg12 rfl dX7_findIdeal_165 (fun H locs hw => ?_)
  refine r_aload_n E hl 0 rfl dX7_findIdeal_166 rfl ?_
  refine r_get E kW_X7 hw 0 rfl rfl 24 (by decide) kF_X7_37 rfl dX7_findIdeal_167 ?_
  refine r_iload E hl 5 rfl dX7_findIdeal_170 ?_
  refine r_aload_n E hl 0 rfl dX7_findIdeal_172 rfl ?_
  refine r_get E kW_X7 hw 0 rfl rfl 24 (by decide) kF_X7_37 rfl dX7_findIdeal_173 ?_
  refine r_iload E hl 4 rfl dX7_findIdeal_176 ?_
  obtain ⟨hg13, h⟩ := gd_some h
  refine r_iald E hw 10 rfl hg13 dX7_findIdeal_178 ?_
  refine r_iload E hl 6 rfl dX7_findIdeal_179 ?_
  refine r_iadd E dX7_findIdeal_181 ?_
  refine r_aload_n E hl 0 rfl dX7_findIdeal_182 rfl ?_
  refine r_get E kW_X7 hw 0 rfl rfl 24 (by decide) kF_X7_37 rfl dX7_findIdeal_183 ?_
  refine r_iload E hl 5 rfl dX7_findIdeal_186 ?_
  obtain ⟨hg14, h⟩ := gd_some h
  refine r_iald E hw 10 rfl hg14 dX7_findIdeal_188 ?_
  refine r_icmp_ge E 205 dX7_findIdeal_189 (by decide) (fun hc => ?_) (fun hc => ?_)
  · replace h := ite_t hc h
    refine r_aload_n E hl 0 rfl dX7_findIdeal_205 rfl ?_
    refine r_get E kW_X7 hw 0 rfl rfl 24 (by decide) kF_X7_37 rfl dX7_findIdeal_206 ?_
    refine r_iload E hl 5 rfl dX7_findIdeal_209 ?_
    obtain ⟨hg15, h⟩ := gd_some h
    refine r_iald E hw 10 rfl hg15 dX7_findIdeal_211 ?_
    exact vX7_findIdeal_212 E hb1 hr1 hb2 hr2 hw (lv_sub hl [0, 1, 2, 3] rfl) h
  · replace h := ite_f hc h
    refine r_aload_n E hl 0 rfl dX7_findIdeal_192 rfl ?_
    refine r_get E kW_X7 hw 0 rfl rfl 24 (by decide) kF_X7_37 rfl dX7_findIdeal_193 ?_
    refine r_iload E hl 4 rfl dX7_findIdeal_196 ?_
    obtain ⟨hg18, h⟩ := gd_some h
    refine r_iald E hw 10 rfl hg18 dX7_findIdeal_198 ?_
    refine r_iload E hl 6 rfl dX7_findIdeal_199 ?_
    refine r_iadd E dX7_findIdeal_201 ?_
    refine r_goto E 212 dX7_findIdeal_202 (by decide) ?_
    exact vX7_findIdeal_212 E hb1 hr1 hb2 hr2 hw (lv_sub hl [0, 1, 2, 3] rfl) h
set_option maxRecDepth 100000 in
set_option maxHeartbeats 4000000 in
theorem vX7_findIdeal_117 {Z : zT} {p : Program} {l : Launch} {e : Env} {s : State} {m : MethodId} {args : Array Value} {below : List Frame} {meth : Method} {c : Code} {A : Nat → Prop} (E : zE Z p s m args meth c RX7 cX7_findIdeal 8 none A) {Am : Nat → Nat} {v1 : Int32} {v2 : Int32} {v3 : Int32} {v4 : Int32} {v5 : Int32} {k0 : Int32} {m_thrown : Int32} {m_s : (Nat → Int32)} {m_saved : (Nat → Int32)} {m_savedMany : Int32} {m_aside : (Nat → Int32)} {m_sent : (Nat → Int32)} {m_text : (Nat → Int32)} {m_length : Int32} {m_way : (Nat → Int32)} {m_crossed : Int32} {m_wayCost : Int32} {m_isWay : Int32} {m_next : Int32} {m_start : Int32} {m_token : Int32} {m_number : Int32} {m_letters : Int64} {m_isWrong : Int32} {m_sums : (Nat → Int32)} {m_steps : (Nat → Int32)} {m_chosen : Int32} {m_passed : (Nat → Int32)} {m_passedMany : Int32} {m_passedCost : Int32} {m_reach : (Nat → Int32)} {res : (Nat → Int32)} {q1 : (Int32 × (Nat → Int32)) ⊕ ((Nat → Int32))} (hb1 : ∀ b : Int32 × (Nat → Int32), q1 = .inl b → ∀ (H : Heap) (locs : List Loc) (ls : Array Slot), zW Z A (wX7 Z Am m_thrown m_s m_saved m_savedMany m_aside m_sent m_text m_length m_way m_crossed m_wayCost m_isWay m_next m_start m_token m_number m_letters m_isWrong m_sums m_steps m_chosen m_passed m_passedMany m_passedCost b.2) s.heap H locs → lv_has ls 8 [(0, .ref (Am 0)), (1, .int v1), (2, .int b.1)] → W p l e rmX7_findIdeal s m args below meth c H locs 0 0 (MQ below (zQv Z (wX7 Z Am m_thrown m_s m_saved m_savedMany m_aside m_sent m_text m_length m_way m_crossed m_wayCost m_isWay m_next m_start m_token m_number m_letters m_isWrong m_sums m_steps m_chosen m_passed m_passedMany m_passedCost res) A) args s 0 0 A) (F0 m 33 ls [])) (hr1 : ∀ r' , q1 = .inr r' → r' = res) {q2 : (Int32 × (Nat → Int32)) ⊕ ((Int32 × (Nat → Int32)) ⊕ ((Nat → Int32)))} (hb2 : ∀ b : Int32 × (Nat → Int32), q2 = .inl b → ∀ (H : Heap) (locs : List Loc) (ls : Array Slot), zW Z A (wX7 Z Am m_thrown m_s m_saved m_savedMany m_aside m_sent m_text m_length m_way m_crossed m_wayCost m_isWay m_next m_start m_token m_number m_letters m_isWrong m_sums m_steps m_chosen m_passed m_passedMany m_passedCost b.2) s.heap H locs → lv_has ls 8 [(0, .ref (Am 0)), (1, .int v1), (2, .int v2), (3, .int b.1)] → W p l e rmX7_findIdeal s m args below meth c H locs 0 0 (MQ below (zQv Z (wX7 Z Am m_thrown m_s m_saved m_savedMany m_aside m_sent m_text m_length m_way m_crossed m_wayCost m_isWay m_next m_start m_token m_number m_letters m_isWrong m_sums m_steps m_chosen m_passed m_passedMany m_passedCost res) A) args s 0 0 A) (F0 m 45 ls [])) (hr2 : ∀ r' , q2 = .inr r' → r' = q1) {H : Heap} {locs : List Loc} {ls : Array Slot} (hw : zW Z A (wX7 Z Am m_thrown m_s m_saved m_savedMany m_aside m_sent m_text m_length m_way m_crossed m_wayCost m_isWay m_next m_start m_token m_number m_letters m_isWrong m_sums m_steps m_chosen m_passed m_passedMany m_passedCost m_reach) s.heap H locs) (hl : lv_has ls 8 [(0, .ref (Am 0)), (1, .int v1), (2, .int v2), (3, .int v3), (4, .int v4), (5, .int v5)]) (h : uX7_findIdeal_117 v3 v4 v5 k0 m_reach = some q2) : W p l e rmX7_findIdeal s m args below meth c H locs 0 0 (MQ below (zQv Z (wX7 Z Am m_thrown m_s m_saved m_savedMany m_aside m_sent m_text m_length m_way m_crossed m_wayCost m_isWay m_next m_start m_token m_number m_letters m_isWrong m_sums m_steps m_chosen m_passed m_passedMany m_passedCost res) A) args s 0 0 A) (F0 m 117 ls [.int k0]) := by
  unfold uX7_findIdeal_117 at h
  refine r_istore E [(7, .int k0), (0, .ref (Am 0)), (1, .int v1), (2, .int v2), (3, .int v3), (4, .int v4), (5, .int v5)] hl dX7_findIdeal_117 (by decide) rfl (fun ls hl => ?_)
  refine r_aload_n E hl 1 rfl dX7_findIdeal_119 rfl ?_
  refine r_get E kW_X7 hw 0 rfl rfl 24 (by decide) kF_X7_37 rfl dX7_findIdeal_120 ?_
  refine r_iload E hl 5 rfl dX7_findIdeal_123 ?_
  refine r_aload_n E hl 1 rfl dX7_findIdeal_125 rfl ?_
  refine r_get E kW_X7 hw 0 rfl rfl 24 (by decide) kF_X7_37 rfl dX7_findIdeal_126 ?_
  refine r_iload E hl 6 rfl dX7_findIdeal_129 ?_
  obtain ⟨hg9, h⟩ := gd_some h
  refine r_iald E hw 10 rfl hg9 dX7_findIdeal_131 ?_
  refine r_iload E hl 0 rfl dX7_findIdeal_132 ?_
  refine r_iadd E dX7_findIdeal_134 ?_
  refine r_aload_n E hl 1 rfl dX7_findIdeal_135 rfl ?_
  refine r_get E kW_X7 hw 0 rfl rfl 24 (by decide) kF_X7_37 rfl dX7_findIdeal_136 ?_
  refine r_iload E hl 5 rfl dX7_findIdeal_139 ?_
  obtain ⟨hg10, h⟩ := gd_some h
  refine r_iald E hw 10 rfl hg10 dX7_findIdeal_141 ?_
  refine r_icmp_ge E 158 dX7_findIdeal_142 (by decide) (fun hc => ?_) (fun hc => ?_)
  · replace h := ite_t hc h
    refine r_aload_n E hl 1 rfl dX7_findIdeal_158 rfl ?_
    refine r_get E kW_X7 hw 0 rfl rfl 24 (by decide) kF_X7_37 rfl dX7_findIdeal_159 ?_
    refine r_iload E hl 5 rfl dX7_findIdeal_162 ?_
    obtain ⟨hg11, h⟩ := gd_some h
    refine r_iald E hw 10 rfl hg11 dX7_findIdeal_164 ?_
    exact vX7_findIdeal_165 E hb1 hr1 hb2 hr2 hw (lv_sub hl [1, 2, 3, 4, 5, 6, 0] rfl) h
  · replace h := ite_f hc h
    refine r_aload_n E hl 1 rfl dX7_findIdeal_145 rfl ?_
    refine r_get E kW_X7 hw 0 rfl rfl 24 (by decide) kF_X7_37 rfl dX7_findIdeal_146 ?_
    refine r_iload E hl 6 rfl dX7_findIdeal_149 ?_
    obtain ⟨hg19, h⟩ := gd_some h
    refine r_iald E hw 10 rfl hg19 dX7_findIdeal_151 ?_
    refine r_iload E hl 0 rfl dX7_findIdeal_152 ?_
    refine r_iadd E dX7_findIdeal_154 ?_
    refine r_goto E 165 dX7_findIdeal_155 (by decide) ?_
    exact vX7_findIdeal_165 E hb1 hr1 hb2 hr2 hw (lv_sub hl [1, 2, 3, 4, 5, 6, 0] rfl) h
set_option maxRecDepth 100000 in
set_option maxHeartbeats 4000000 in
theorem vX7_findIdeal_99 {Z : zT} {p : Program} {l : Launch} {e : Env} {s : State} {m : MethodId} {args : Array Value} {below : List Frame} {meth : Method} {c : Code} {A : Nat → Prop} (E : zE Z p s m args meth c RX7 cX7_findIdeal 8 none A) {Am : Nat → Nat} {v1 : Int32} {v2 : Int32} {v3 : Int32} {v4 : Int32} {v5 : Int32} {k0 : Int32} {m_thrown : Int32} {m_s : (Nat → Int32)} {m_saved : (Nat → Int32)} {m_savedMany : Int32} {m_aside : (Nat → Int32)} {m_sent : (Nat → Int32)} {m_text : (Nat → Int32)} {m_length : Int32} {m_way : (Nat → Int32)} {m_crossed : Int32} {m_wayCost : Int32} {m_isWay : Int32} {m_next : Int32} {m_start : Int32} {m_token : Int32} {m_number : Int32} {m_letters : Int64} {m_isWrong : Int32} {m_sums : (Nat → Int32)} {m_steps : (Nat → Int32)} {m_chosen : Int32} {m_passed : (Nat → Int32)} {m_passedMany : Int32} {m_passedCost : Int32} {m_reach : (Nat → Int32)} {res : (Nat → Int32)} {q1 : (Int32 × (Nat → Int32)) ⊕ ((Nat → Int32))} (hb1 : ∀ b : Int32 × (Nat → Int32), q1 = .inl b → ∀ (H : Heap) (locs : List Loc) (ls : Array Slot), zW Z A (wX7 Z Am m_thrown m_s m_saved m_savedMany m_aside m_sent m_text m_length m_way m_crossed m_wayCost m_isWay m_next m_start m_token m_number m_letters m_isWrong m_sums m_steps m_chosen m_passed m_passedMany m_passedCost b.2) s.heap H locs → lv_has ls 8 [(0, .ref (Am 0)), (1, .int v1), (2, .int b.1)] → W p l e rmX7_findIdeal s m args below meth c H locs 0 0 (MQ below (zQv Z (wX7 Z Am m_thrown m_s m_saved m_savedMany m_aside m_sent m_text m_length m_way m_crossed m_wayCost m_isWay m_next m_start m_token m_number m_letters m_isWrong m_sums m_steps m_chosen m_passed m_passedMany m_passedCost res) A) args s 0 0 A) (F0 m 33 ls [])) (hr1 : ∀ r' , q1 = .inr r' → r' = res) {q2 : (Int32 × (Nat → Int32)) ⊕ ((Int32 × (Nat → Int32)) ⊕ ((Nat → Int32)))} (hb2 : ∀ b : Int32 × (Nat → Int32), q2 = .inl b → ∀ (H : Heap) (locs : List Loc) (ls : Array Slot), zW Z A (wX7 Z Am m_thrown m_s m_saved m_savedMany m_aside m_sent m_text m_length m_way m_crossed m_wayCost m_isWay m_next m_start m_token m_number m_letters m_isWrong m_sums m_steps m_chosen m_passed m_passedMany m_passedCost b.2) s.heap H locs → lv_has ls 8 [(0, .ref (Am 0)), (1, .int v1), (2, .int v2), (3, .int b.1)] → W p l e rmX7_findIdeal s m args below meth c H locs 0 0 (MQ below (zQv Z (wX7 Z Am m_thrown m_s m_saved m_savedMany m_aside m_sent m_text m_length m_way m_crossed m_wayCost m_isWay m_next m_start m_token m_number m_letters m_isWrong m_sums m_steps m_chosen m_passed m_passedMany m_passedCost res) A) args s 0 0 A) (F0 m 45 ls [])) (hr2 : ∀ r' , q2 = .inr r' → r' = q1) {H : Heap} {locs : List Loc} {ls : Array Slot} (hw : zW Z A (wX7 Z Am m_thrown m_s m_saved m_savedMany m_aside m_sent m_text m_length m_way m_crossed m_wayCost m_isWay m_next m_start m_token m_number m_letters m_isWrong m_sums m_steps m_chosen m_passed m_passedMany m_passedCost m_reach) s.heap H locs) (hl : lv_has ls 8 [(0, .ref (Am 0)), (1, .int v1), (2, .int v2), (3, .int v3), (4, .int v4), (5, .int v5)]) (h : uX7_findIdeal_99 v3 v4 v5 k0 m_s m_reach = some q2) : W p l e rmX7_findIdeal s m args below meth c H locs 0 0 (MQ below (zQv Z (wX7 Z Am m_thrown m_s m_saved m_savedMany m_aside m_sent m_text m_length m_way m_crossed m_wayCost m_isWay m_next m_start m_token m_number m_letters m_isWrong m_sums m_steps m_chosen m_passed m_passedMany m_passedCost res) A) args s 0 0 A) (F0 m 99 ls [.int k0]) := by
  unfold uX7_findIdeal_99 at h
  refine r_istore E [(6, .int k0), (0, .ref (Am 0)), (1, .int v1), (2, .int v2), (3, .int v3), (4, .int v4), (5, .int v5)] hl dX7_findIdeal_99 (by decide) rfl (fun ls hl => ?_)
  refine r_iload E hl 0 rfl dX7_findIdeal_101 ?_
  refine r_if_eq E 115 dX7_findIdeal_103 (by decide) (fun hc => ?_) (fun hc => ?_)
  · replace h := ite_t hc h
    refine r_ldc E (1000000) kQ_X7_253 dX7_findIdeal_115 ?_
    exact vX7_findIdeal_117 E hb1 hr1 hb2 hr2 hw (lv_sub hl [1, 2, 3, 4, 5, 6] rfl) h
  · replace h := ite_f hc h
    refine r_aload_n E hl 1 rfl dX7_findIdeal_106 rfl ?_
    refine r_iload_n E hl 4 rfl dX7_findIdeal_107 rfl ?_
    refine r_iconst E 2 dX7_findIdeal_108 (by decide) ?_
    obtain ⟨y20, hy20, h⟩ := bd_some h
    refine r_callVAi E hw (mX7_linkPart l Z _ Am m_thrown m_s m_saved m_savedMany m_aside m_sent m_text m_length m_way m_crossed m_wayCost m_isWay m_next m_start m_token m_number m_letters m_isWrong m_sums m_steps m_chosen m_passed m_passedMany m_passedCost m_reach v3 (2 : Int32) hy20) kL_X7_62 kI_X7_linkPart kS_X7_linkPart kN_X7 kC_X7_linkPart rfl rfl hdX7_linkPart ⟨Nat.le_of_ble_eq_true rfl, Nat.le_of_ble_eq_true rfl⟩ 0 rfl rfl rfl rfl hl [] rfl (Nat.le_of_ble_eq_true rfl) dX7_findIdeal_109 ⟨Nat.zero_le _, Nat.zero_le _⟩ (fun H locs hw => ?_)
    refine r_goto E 117 dX7_findIdeal_112 (by decide) ?_
    exact vX7_findIdeal_117 E hb1 hr1 hb2 hr2 hw (lv_sub hl [1, 2, 3, 4, 5, 6] rfl) h
set_option maxRecDepth 100000 in
set_option maxHeartbeats 4000000 in
theorem vX7_findIdeal_98 {Z : zT} {p : Program} {l : Launch} {e : Env} {s : State} {m : MethodId} {args : Array Value} {below : List Frame} {meth : Method} {c : Code} {A : Nat → Prop} (E : zE Z p s m args meth c RX7 cX7_findIdeal 8 none A) {Am : Nat → Nat} {v1 : Int32} {v2 : Int32} {v3 : Int32} {v4 : Int32} {v5 : Int32} {m_thrown : Int32} {m_s : (Nat → Int32)} {m_saved : (Nat → Int32)} {m_savedMany : Int32} {m_aside : (Nat → Int32)} {m_sent : (Nat → Int32)} {m_text : (Nat → Int32)} {m_length : Int32} {m_way : (Nat → Int32)} {m_crossed : Int32} {m_wayCost : Int32} {m_isWay : Int32} {m_next : Int32} {m_start : Int32} {m_token : Int32} {m_number : Int32} {m_letters : Int64} {m_isWrong : Int32} {m_sums : (Nat → Int32)} {m_steps : (Nat → Int32)} {m_chosen : Int32} {m_passed : (Nat → Int32)} {m_passedMany : Int32} {m_passedCost : Int32} {m_reach : (Nat → Int32)} {res : (Nat → Int32)} {q1 : (Int32 × (Nat → Int32)) ⊕ ((Nat → Int32))} (hb1 : ∀ b : Int32 × (Nat → Int32), q1 = .inl b → ∀ (H : Heap) (locs : List Loc) (ls : Array Slot), zW Z A (wX7 Z Am m_thrown m_s m_saved m_savedMany m_aside m_sent m_text m_length m_way m_crossed m_wayCost m_isWay m_next m_start m_token m_number m_letters m_isWrong m_sums m_steps m_chosen m_passed m_passedMany m_passedCost b.2) s.heap H locs → lv_has ls 8 [(0, .ref (Am 0)), (1, .int v1), (2, .int b.1)] → W p l e rmX7_findIdeal s m args below meth c H locs 0 0 (MQ below (zQv Z (wX7 Z Am m_thrown m_s m_saved m_savedMany m_aside m_sent m_text m_length m_way m_crossed m_wayCost m_isWay m_next m_start m_token m_number m_letters m_isWrong m_sums m_steps m_chosen m_passed m_passedMany m_passedCost res) A) args s 0 0 A) (F0 m 33 ls [])) (hr1 : ∀ r' , q1 = .inr r' → r' = res) {q2 : (Int32 × (Nat → Int32)) ⊕ ((Int32 × (Nat → Int32)) ⊕ ((Nat → Int32)))} (hb2 : ∀ b : Int32 × (Nat → Int32), q2 = .inl b → ∀ (H : Heap) (locs : List Loc) (ls : Array Slot), zW Z A (wX7 Z Am m_thrown m_s m_saved m_savedMany m_aside m_sent m_text m_length m_way m_crossed m_wayCost m_isWay m_next m_start m_token m_number m_letters m_isWrong m_sums m_steps m_chosen m_passed m_passedMany m_passedCost b.2) s.heap H locs → lv_has ls 8 [(0, .ref (Am 0)), (1, .int v1), (2, .int v2), (3, .int b.1)] → W p l e rmX7_findIdeal s m args below meth c H locs 0 0 (MQ below (zQv Z (wX7 Z Am m_thrown m_s m_saved m_savedMany m_aside m_sent m_text m_length m_way m_crossed m_wayCost m_isWay m_next m_start m_token m_number m_letters m_isWrong m_sums m_steps m_chosen m_passed m_passedMany m_passedCost res) A) args s 0 0 A) (F0 m 45 ls [])) (hr2 : ∀ r' , q2 = .inr r' → r' = q1) {H : Heap} {locs : List Loc} {ls : Array Slot} (hw : zW Z A (wX7 Z Am m_thrown m_s m_saved m_savedMany m_aside m_sent m_text m_length m_way m_crossed m_wayCost m_isWay m_next m_start m_token m_number m_letters m_isWrong m_sums m_steps m_chosen m_passed m_passedMany m_passedCost m_reach) s.heap H locs) (hl : lv_has ls 8 [(0, .ref (Am 0)), (1, .int v1), (2, .int v2), (3, .int v3), (4, .int v4), (5, .int v5)]) (h : uX7_findIdeal_98 v3 v4 v5 m_s m_reach = some q2) : W p l e rmX7_findIdeal s m args below meth c H locs 0 0 (MQ below (zQv Z (wX7 Z Am m_thrown m_s m_saved m_savedMany m_aside m_sent m_text m_length m_way m_crossed m_wayCost m_isWay m_next m_start m_token m_number m_letters m_isWrong m_sums m_steps m_chosen m_passed m_passedMany m_passedCost res) A) args s 0 0 A) (F0 m 98 ls []) := by
  unfold uX7_findIdeal_98 at h
  refine r_iconst E 0 dX7_findIdeal_98 (by decide) ?_
  exact vX7_findIdeal_99 E hb1 hr1 hb2 hr2 hw hl h
set_option maxRecDepth 100000 in
set_option maxHeartbeats 4000000 in
theorem tX7_findIdeal_45 {Z : zT} {p : Program} {l : Launch} {e : Env} {s : State} {m : MethodId} {args : Array Value} {below : List Frame} {meth : Method} {c : Code} {A : Nat → Prop} (E : zE Z p s m args meth c RX7 cX7_findIdeal 8 none A) {Am : Nat → Nat} {v1 : Int32} {v2 : Int32} {m_thrown : Int32} {m_s : (Nat → Int32)} {m_saved : (Nat → Int32)} {m_savedMany : Int32} {m_aside : (Nat → Int32)} {m_sent : (Nat → Int32)} {m_text : (Nat → Int32)} {m_length : Int32} {m_way : (Nat → Int32)} {m_crossed : Int32} {m_wayCost : Int32} {m_isWay : Int32} {m_next : Int32} {m_start : Int32} {m_token : Int32} {m_number : Int32} {m_letters : Int64} {m_isWrong : Int32} {m_sums : (Nat → Int32)} {m_steps : (Nat → Int32)} {m_chosen : Int32} {m_passed : (Nat → Int32)} {m_passedMany : Int32} {m_passedCost : Int32} {res : (Nat → Int32)} {q1 : (Int32 × (Nat → Int32)) ⊕ ((Nat → Int32))} (hb1 : ∀ b : Int32 × (Nat → Int32), q1 = .inl b → ∀ (H : Heap) (locs : List Loc) (ls : Array Slot), zW Z A (wX7 Z Am m_thrown m_s m_saved m_savedMany m_aside m_sent m_text m_length m_way m_crossed m_wayCost m_isWay m_next m_start m_token m_number m_letters m_isWrong m_sums m_steps m_chosen m_passed m_passedMany m_passedCost b.2) s.heap H locs → lv_has ls 8 [(0, .ref (Am 0)), (1, .int v1), (2, .int b.1)] → W p l e rmX7_findIdeal s m args below meth c H locs 0 0 (MQ below (zQv Z (wX7 Z Am m_thrown m_s m_saved m_savedMany m_aside m_sent m_text m_length m_way m_crossed m_wayCost m_isWay m_next m_start m_token m_number m_letters m_isWrong m_sums m_steps m_chosen m_passed m_passedMany m_passedCost res) A) args s 0 0 A) (F0 m 33 ls [])) (hr1 : ∀ r' , q1 = .inr r' → r' = res) : ∀ (n : Nat) (v3 : Int32) (m_reach : (Nat → Int32)) (H : Heap) (locs : List Loc) (ls : Array Slot), iter (fun b : Int32 × (Nat → Int32) => sX7_findIdeal_45 v1 v2 m_s b.1 b.2) n (v3, m_reach) = some q1 → zW Z A (wX7 Z Am m_thrown m_s m_saved m_savedMany m_aside m_sent m_text m_length m_way m_crossed m_wayCost m_isWay m_next m_start m_token m_number m_letters m_isWrong m_sums m_steps m_chosen m_passed m_passedMany m_passedCost m_reach) s.heap H locs → lv_has ls 8 [(0, .ref (Am 0)), (1, .int v1), (2, .int v2), (3, .int v3)] → W p l e rmX7_findIdeal s m args below meth c H locs 0 0 (MQ below (zQv Z (wX7 Z Am m_thrown m_s m_saved m_savedMany m_aside m_sent m_text m_length m_way m_crossed m_wayCost m_isWay m_next m_start m_token m_number m_letters m_isWrong m_sums m_steps m_chosen m_passed m_passedMany m_passedCost res) A) args s 0 0 A) (F0 m 45 ls []) := by
  intro n
  induction n with
  | zero => intro v3 m_reach H locs ls h; cases h
  | succ n ih =>
    intro v3 m_reach H locs ls h hw hl
    obtain ⟨q2, h, hn2, hr2⟩ := iter_out h
    have hb2 : ∀ b : Int32 × (Nat → Int32), q2 = .inl b → ∀ (H : Heap) (locs : List Loc) (ls : Array Slot), zW Z A (wX7 Z Am m_thrown m_s m_saved m_savedMany m_aside m_sent m_text m_length m_way m_crossed m_wayCost m_isWay m_next m_start m_token m_number m_letters m_isWrong m_sums m_steps m_chosen m_passed m_passedMany m_passedCost b.2) s.heap H locs → lv_has ls 8 [(0, .ref (Am 0)), (1, .int v1), (2, .int v2), (3, .int b.1)] → W p l e rmX7_findIdeal s m args below meth c H locs 0 0 (MQ below (zQv Z (wX7 Z Am m_thrown m_s m_saved m_savedMany m_aside m_sent m_text m_length m_way m_crossed m_wayCost m_isWay m_next m_start m_token m_number m_letters m_isWrong m_sums m_steps m_chosen m_passed m_passedMany m_passedCost res) A) args s 0 0 A) (F0 m 45 ls []) := fun b eb H locs ls hw hl => ih b.1 b.2 H locs ls (hn2 b eb) hw hl
    replace h : sX7_findIdeal_45 v1 v2 m_s v3 m_reach = some q2 := h
    unfold sX7_findIdeal_45 at h
    refine r_iload_n E hl 3 rfl dX7_findIdeal_45 rfl ?_
    refine r_aload_n E hl 0 rfl dX7_findIdeal_46 rfl ?_
    refine r_get E kW_X7 hw 0 rfl rfl 1 (by decide) kF_X7_7 rfl dX7_findIdeal_47 ?_
    refine r_iconst E 1 dX7_findIdeal_50 (by decide) ?_
    obtain ⟨hg3, h⟩ := gd_some h
    refine r_iald E hw 1 rfl hg3 dX7_findIdeal_51 ?_
    refine r_icmp_ge E 219 dX7_findIdeal_52 (by decide) (fun hc => ?_) (fun hc => ?_)
    · replace h := ite_t hc h
      obtain ⟨ro5, h, hro5⟩ := oi_some h
      rw [hr2 _ hro5] at h
      exact vX7_findIdeal_219 E hb1 hr1 hw (lv_sub hl [0, 1, 2] rfl) h
    · replace h := ite_f hc h
      refine r_aload_n E hl 0 rfl dX7_findIdeal_55 rfl ?_
      refine r_iload_n E hl 3 rfl dX7_findIdeal_56 rfl ?_
      refine r_iconst E 0 dX7_findIdeal_57 (by decide) ?_
      obtain ⟨y6, hy6, h⟩ := bd_some h
      refine r_callVAi E hw (mX7_linkPart l Z _ Am m_thrown m_s m_saved m_savedMany m_aside m_sent m_text m_length m_way m_crossed m_wayCost m_isWay m_next m_start m_token m_number m_letters m_isWrong m_sums m_steps m_chosen m_passed m_passedMany m_passedCost m_reach v3 (0 : Int32) hy6) kL_X7_62 kI_X7_linkPart kS_X7_linkPart kN_X7 kC_X7_linkPart rfl rfl hdX7_linkPart ⟨Nat.le_of_ble_eq_true rfl, Nat.le_of_ble_eq_true rfl⟩ 0 rfl rfl rfl rfl hl [] rfl (Nat.le_of_ble_eq_true rfl) dX7_findIdeal_58 ⟨Nat.zero_le _, Nat.zero_le _⟩ (fun H locs hw => ?_)
      refine r_istore E [(4, .int y6), (0, .ref (Am 0)), (1, .int v1), (2, .int v2), (3, .int v3)] hl dX7_findIdeal_61 (by decide) rfl (fun ls hl => ?_)
      refine r_aload_n E hl 1 rfl dX7_findIdeal_63 rfl ?_
      refine r_iload_n E hl 4 rfl dX7_findIdeal_64 rfl ?_
      refine r_iconst E 1 dX7_findIdeal_65 (by decide) ?_
      obtain ⟨y7, hy7, h⟩ := bd_some h
      refine r_callVAi E hw (mX7_linkPart l Z _ Am m_thrown m_s m_saved m_savedMany m_aside m_sent m_text m_length m_way m_crossed m_wayCost m_isWay m_next m_start m_token m_number m_letters m_isWrong m_sums m_steps m_chosen m_passed m_passedMany m_passedCost m_reach v3 (1 : Int32) hy7) kL_X7_62 kI_X7_linkPart kS_X7_linkPart kN_X7 kC_X7_linkPart rfl rfl hdX7_linkPart ⟨Nat.le_of_ble_eq_true rfl, Nat.le_of_ble_eq_true rfl⟩ 0 rfl rfl rfl rfl hl [] rfl (Nat.le_of_ble_eq_true rfl) dX7_findIdeal_66 ⟨Nat.zero_le _, Nat.zero_le _⟩ (fun H locs hw => ?_)
      refine r_istore E [(5, .int y7), (4, .int y6), (0, .ref (Am 0)), (1, .int v1), (2, .int v2), (3, .int v3)] hl dX7_findIdeal_69 (by decide) rfl (fun ls hl => ?_)
      refine r_aload_n E hl 2 rfl dX7_findIdeal_71 rfl ?_
      refine r_iload_n E hl 5 rfl dX7_findIdeal_72 rfl ?_
      refine r_iconst E 3 dX7_findIdeal_73 (by decide) ?_
      obtain ⟨y8, hy8, h⟩ := bd_some h
      refine r_callVAi E hw (mX7_linkPart l Z _ Am m_thrown m_s m_saved m_savedMany m_aside m_sent m_text m_length m_way m_crossed m_wayCost m_isWay m_next m_start m_token m_number m_letters m_isWrong m_sums m_steps m_chosen m_passed m_passedMany m_passedCost m_reach v3 (3 : Int32) hy8) kL_X7_62 kI_X7_linkPart kS_X7_linkPart kN_X7 kC_X7_linkPart rfl rfl hdX7_linkPart ⟨Nat.le_of_ble_eq_true rfl, Nat.le_of_ble_eq_true rfl⟩ 0 rfl rfl rfl rfl hl [] rfl (Nat.le_of_ble_eq_true rfl) dX7_findIdeal_74 ⟨Nat.zero_le _, Nat.zero_le _⟩ (fun H locs hw => ?_)
      refine r_iconst E 1 dX7_findIdeal_77 (by decide) ?_
      refine r_icmp_ne E 98 dX7_findIdeal_78 (by decide) (fun hc => ?_) (fun hc => ?_)
      · replace h := ite_f hc h
        exact vX7_findIdeal_98 E hb1 hr1 hb2 hr2 hw (lv_sub hl [2, 3, 4, 5, 1, 0] rfl) h
      · replace h := ite_t hc h
        refine r_aload_n E hl 2 rfl dX7_findIdeal_81 rfl ?_
        refine r_aload_n E hl 2 rfl dX7_findIdeal_82 rfl ?_
        refine r_iload_n E hl 3 rfl dX7_findIdeal_83 rfl ?_
        obtain ⟨y21, hy21, h⟩ := bd_some h
        refine r_callVAi E hw (mX7_area l Z _ Am m_thrown m_s m_saved m_savedMany m_aside m_sent m_text m_length m_way m_crossed m_wayCost m_isWay m_next m_start m_token m_number m_letters m_isWrong m_sums m_steps m_chosen m_passed m_passedMany m_passedCost m_reach v1 hy21) kL_X7_66 kI_X7_area kS_X7_area kN_X7 kC_X7_area rfl rfl hdX7_area ⟨Nat.le_of_ble_eq_true rfl, Nat.le_of_ble_eq_true rfl⟩ 0 rfl rfl rfl rfl hl [.ref (Am 0)] rfl (Nat.le_of_ble_eq_true rfl) dX7_findIdeal_84 ⟨Nat.zero_le _, Nat.zero_le _⟩ (fun H locs hw => ?_)
        refine r_iload_n E hl 5 rfl dX7_findIdeal_87 rfl ?_
        obtain ⟨y22, hy22, h⟩ := bd_some h
        refine r_callVAi E hw (mX7_isEntitled l Z _ Am m_thrown m_s m_saved m_savedMany m_aside m_sent m_text m_length m_way m_crossed m_wayCost m_isWay m_next m_start m_token m_number m_letters m_isWrong m_sums m_steps m_chosen m_passed m_passedMany m_passedCost m_reach y21 v3 hy22) kL_X7_241 kI_X7_isEntitled kS_X7_isEntitled kN_X7 kC_X7_isEntitled rfl rfl hdX7_isEntitled ⟨Nat.le_of_ble_eq_true rfl, Nat.le_of_ble_eq_true rfl⟩ 0 rfl rfl rfl rfl hl [] rfl (Nat.le_of_ble_eq_true rfl) dX7_findIdeal_88 ⟨Nat.zero_le _, Nat.zero_le _⟩ (fun H locs hw => ?_)
        refine r_if_eq E 98 dX7_findIdeal_91 (by decide) (fun hc => ?_) (fun hc => ?_)
        · replace h := ite_t hc h
          exact vX7_findIdeal_98 E hb1 hr1 hb2 hr2 hw (lv_sub hl [2, 3, 4, 5, 1, 0] rfl) h
        · replace h := ite_f hc h
          refine r_iconst E 1 dX7_findIdeal_94 (by decide) ?_
          refine r_goto E 99 dX7_findIdeal_95 (by decide) ?_
          exact vX7_findIdeal_99 E hb1 hr1 hb2 hr2 hw (lv_sub hl [2, 3, 4, 5, 1, 0] rfl) h
set_option maxRecDepth 100000 in
set_option maxHeartbeats 4000000 in
theorem tX7_findIdeal_33 {Z : zT} {p : Program} {l : Launch} {e : Env} {s : State} {m : MethodId} {args : Array Value} {below : List Frame} {meth : Method} {c : Code} {A : Nat → Prop} (E : zE Z p s m args meth c RX7 cX7_findIdeal 8 none A) {Am : Nat → Nat} {v1 : Int32} {m_thrown : Int32} {m_s : (Nat → Int32)} {m_saved : (Nat → Int32)} {m_savedMany : Int32} {m_aside : (Nat → Int32)} {m_sent : (Nat → Int32)} {m_text : (Nat → Int32)} {m_length : Int32} {m_way : (Nat → Int32)} {m_crossed : Int32} {m_wayCost : Int32} {m_isWay : Int32} {m_next : Int32} {m_start : Int32} {m_token : Int32} {m_number : Int32} {m_letters : Int64} {m_isWrong : Int32} {m_sums : (Nat → Int32)} {m_steps : (Nat → Int32)} {m_chosen : Int32} {m_passed : (Nat → Int32)} {m_passedMany : Int32} {m_passedCost : Int32} {res : (Nat → Int32)}  : ∀ (n : Nat) (v2 : Int32) (m_reach : (Nat → Int32)) (H : Heap) (locs : List Loc) (ls : Array Slot), iter (fun b : Int32 × (Nat → Int32) => sX7_findIdeal_33 v1 m_s b.1 b.2) n (v2, m_reach) = some res → zW Z A (wX7 Z Am m_thrown m_s m_saved m_savedMany m_aside m_sent m_text m_length m_way m_crossed m_wayCost m_isWay m_next m_start m_token m_number m_letters m_isWrong m_sums m_steps m_chosen m_passed m_passedMany m_passedCost m_reach) s.heap H locs → lv_has ls 8 [(0, .ref (Am 0)), (1, .int v1), (2, .int v2)] → W p l e rmX7_findIdeal s m args below meth c H locs 0 0 (MQ below (zQv Z (wX7 Z Am m_thrown m_s m_saved m_savedMany m_aside m_sent m_text m_length m_way m_crossed m_wayCost m_isWay m_next m_start m_token m_number m_letters m_isWrong m_sums m_steps m_chosen m_passed m_passedMany m_passedCost res) A) args s 0 0 A) (F0 m 33 ls []) := by
  intro n
  induction n with
  | zero => intro v2 m_reach H locs ls h; cases h
  | succ n ih =>
    intro v2 m_reach H locs ls h hw hl
    obtain ⟨q1, h, hn1, hr1⟩ := iter_out h
    have hb1 : ∀ b : Int32 × (Nat → Int32), q1 = .inl b → ∀ (H : Heap) (locs : List Loc) (ls : Array Slot), zW Z A (wX7 Z Am m_thrown m_s m_saved m_savedMany m_aside m_sent m_text m_length m_way m_crossed m_wayCost m_isWay m_next m_start m_token m_number m_letters m_isWrong m_sums m_steps m_chosen m_passed m_passedMany m_passedCost b.2) s.heap H locs → lv_has ls 8 [(0, .ref (Am 0)), (1, .int v1), (2, .int b.1)] → W p l e rmX7_findIdeal s m args below meth c H locs 0 0 (MQ below (zQv Z (wX7 Z Am m_thrown m_s m_saved m_savedMany m_aside m_sent m_text m_length m_way m_crossed m_wayCost m_isWay m_next m_start m_token m_number m_letters m_isWrong m_sums m_steps m_chosen m_passed m_passedMany m_passedCost res) A) args s 0 0 A) (F0 m 33 ls []) := fun b eb H locs ls hw hl => ih b.1 b.2 H locs ls (hn1 b eb) hw hl
    replace h : sX7_findIdeal_33 v1 m_s v2 m_reach = some q1 := h
    unfold sX7_findIdeal_33 at h
    refine r_iload_n E hl 2 rfl dX7_findIdeal_33 rfl ?_
    refine r_aload_n E hl 0 rfl dX7_findIdeal_34 rfl ?_
    refine r_get E kW_X7 hw 0 rfl rfl 1 (by decide) kF_X7_7 rfl dX7_findIdeal_35 ?_
    refine r_iconst E 0 dX7_findIdeal_38 (by decide) ?_
    obtain ⟨hg1, h⟩ := gd_some h
    refine r_iald E hw 1 rfl hg1 dX7_findIdeal_39 ?_
    refine r_icmp_ge E 225 dX7_findIdeal_40 (by decide) (fun hc => ?_) (fun hc => ?_)
    · replace h := ite_t hc h
      obtain ⟨ro2, h, hro2⟩ := oi_some h
      rw [hr1 _ hro2] at h
      obtain rfl := Option.some.inj h
      exact r_vret E hw dX7_findIdeal_225
    · replace h := ite_f hc h
      refine r_iconst E 0 dX7_findIdeal_43 (by decide) ?_
      refine r_istore_n E [(3, .int (0 : Int32)), (0, .ref (Am 0)), (1, .int v1), (2, .int v2)] hl dX7_findIdeal_44 rfl (by decide) rfl (fun ls hl => ?_)
      obtain ⟨n23, h⟩ := wh_some h
      exact tX7_findIdeal_45 E hb1 hr1 n23 _ _ _ _ _ h hw (lv_sub hl [1, 2, 3, 0] rfl)
set_option maxRecDepth 100000 in
set_option maxHeartbeats 4000000 in
theorem vX7_findIdeal_31 {Z : zT} {p : Program} {l : Launch} {e : Env} {s : State} {m : MethodId} {args : Array Value} {below : List Frame} {meth : Method} {c : Code} {A : Nat → Prop} (E : zE Z p s m args meth c RX7 cX7_findIdeal 8 none A) {Am : Nat → Nat} {v1 : Int32} {m_thrown : Int32} {m_s : (Nat → Int32)} {m_saved : (Nat → Int32)} {m_savedMany : Int32} {m_aside : (Nat → Int32)} {m_sent : (Nat → Int32)} {m_text : (Nat → Int32)} {m_length : Int32} {m_way : (Nat → Int32)} {m_crossed : Int32} {m_wayCost : Int32} {m_isWay : Int32} {m_next : Int32} {m_start : Int32} {m_token : Int32} {m_number : Int32} {m_letters : Int64} {m_isWrong : Int32} {m_sums : (Nat → Int32)} {m_steps : (Nat → Int32)} {m_chosen : Int32} {m_passed : (Nat → Int32)} {m_passedMany : Int32} {m_passedCost : Int32} {m_reach : (Nat → Int32)} {res : (Nat → Int32)}  {H : Heap} {locs : List Loc} {ls : Array Slot} (hw : zW Z A (wX7 Z Am m_thrown m_s m_saved m_savedMany m_aside m_sent m_text m_length m_way m_crossed m_wayCost m_isWay m_next m_start m_token m_number m_letters m_isWrong m_sums m_steps m_chosen m_passed m_passedMany m_passedCost m_reach) s.heap H locs) (hl : lv_has ls 8 [(0, .ref (Am 0)), (1, .int v1)]) (h : uX7_findIdeal_31 v1 m_s m_reach = some res) : W p l e rmX7_findIdeal s m args below meth c H locs 0 0 (MQ below (zQv Z (wX7 Z Am m_thrown m_s m_saved m_savedMany m_aside m_sent m_text m_length m_way m_crossed m_wayCost m_isWay m_next m_start m_token m_number m_letters m_isWrong m_sums m_steps m_chosen m_passed m_passedMany m_passedCost res) A) args s 0 0 A) (F0 m 31 ls []) := by
  unfold uX7_findIdeal_31 at h
  refine r_iconst E 0 dX7_findIdeal_31 (by decide) ?_
  refine r_istore_n E [(2, .int (0 : Int32)), (0, .ref (Am 0)), (1, .int v1)] hl dX7_findIdeal_32 rfl (by decide) rfl (fun ls hl => ?_)
  obtain ⟨n24, h⟩ := wh_some h
  exact tX7_findIdeal_33 E  n24 _ _ _ _ _ h hw (lv_sub hl [1, 2, 0] rfl)
set_option maxRecDepth 100000 in
set_option maxHeartbeats 4000000 in
theorem vX7_findIdeal_24 {Z : zT} {p : Program} {l : Launch} {e : Env} {s : State} {m : MethodId} {args : Array Value} {below : List Frame} {meth : Method} {c : Code} {A : Nat → Prop} (E : zE Z p s m args meth c RX7 cX7_findIdeal 8 none A) {Am : Nat → Nat} {v1 : Int32} {v2 : Int32} {k1 : Int32} {k2 : Int32} {m_thrown : Int32} {m_s : (Nat → Int32)} {m_saved : (Nat → Int32)} {m_savedMany : Int32} {m_aside : (Nat → Int32)} {m_sent : (Nat → Int32)} {m_text : (Nat → Int32)} {m_length : Int32} {m_way : (Nat → Int32)} {m_crossed : Int32} {m_wayCost : Int32} {m_isWay : Int32} {m_next : Int32} {m_start : Int32} {m_token : Int32} {m_number : Int32} {m_letters : Int64} {m_isWrong : Int32} {m_sums : (Nat → Int32)} {m_steps : (Nat → Int32)} {m_chosen : Int32} {m_passed : (Nat → Int32)} {m_passedMany : Int32} {m_passedCost : Int32} {m_reach : (Nat → Int32)} {res : (Nat → Int32)} {q1 : (Int32 × (Nat → Int32)) ⊕ ((Nat → Int32))} (hb1 : ∀ b : Int32 × (Nat → Int32), q1 = .inl b → ∀ (H : Heap) (locs : List Loc) (ls : Array Slot), zW Z A (wX7 Z Am m_thrown m_s m_saved m_savedMany m_aside m_sent m_text m_length m_way m_crossed m_wayCost m_isWay m_next m_start m_token m_number m_letters m_isWrong m_sums m_steps m_chosen m_passed m_passedMany m_passedCost b.2) s.heap H locs → lv_has ls 8 [(0, .ref (Am 0)), (1, .int v1), (2, .int b.1)] → W p l e rmX7_findIdeal s m args below meth c H locs 0 0 (MQ below (zQv Z (wX7 Z Am m_thrown m_s m_saved m_savedMany m_aside m_sent m_text m_length m_way m_crossed m_wayCost m_isWay m_next m_start m_token m_number m_letters m_isWrong m_sums m_steps m_chosen m_passed m_passedMany m_passedCost res) A) args s 0 0 A) (F0 m 2 ls [])) (hr1 : ∀ r' , q1 = .inr r' → r' = res) {H : Heap} {locs : List Loc} {ls : Array Slot} (hw : zW Z A (wX7 Z Am m_thrown m_s m_saved m_savedMany m_aside m_sent m_text m_length m_way m_crossed m_wayCost m_isWay m_next m_start m_token m_number m_letters m_isWrong m_sums m_steps m_chosen m_passed m_passedMany m_passedCost m_reach) s.heap H locs) (hl : lv_has ls 8 [(0, .ref (Am 0)), (1, .int v1), (2, .int v2)]) (h : uX7_findIdeal_24 v2 k1 k2 m_reach = some q1) : W p l e rmX7_findIdeal s m args below meth c H locs 0 0 (MQ below (zQv Z (wX7 Z Am m_thrown m_s m_saved m_savedMany m_aside m_sent m_text m_length m_way m_crossed m_wayCost m_isWay m_next m_start m_token m_number m_letters m_isWrong m_sums m_steps m_chosen m_passed m_passedMany m_passedCost res) A) args s 0 0 A) (F0 m 24 ls [.int k2, .int k1, .ref (Am 10)]) := by
  unfold uX7_findIdeal_24 at h
  obtain ⟨hg26, h⟩ := gd_some h
  refine r_iast E (wX7 Z Am m_thrown m_s m_saved m_savedMany m_aside m_sent m_text m_length m_way m_crossed m_wayCost m_isWay m_next m_start m_token m_number m_letters m_isWrong m_sums m_steps m_chosen m_passed m_passedMany m_passedCost (upd m_reach (k1).toNatClampNeg k2)) hw 10 rfl hg26 rfl dX7_findIdeal_24 (fun H locs hw => ?_)
  obtain ⟨w27, hw27, h⟩ := nm_out h
  refine r_iinc E w27 [(2, .int w27), (0, .ref (Am 0)), (1, .int v1)] hl (k := 2) rfl dX7_findIdeal_25 hw27.symm (by decide) rfl (fun ls hl => ?_)
  refine r_goto E 2 dX7_findIdeal_28 (by decide) ?_
  exact hb1 _ (Option.some.inj h).symm _ _ _ hw (lv_sub hl [1, 2, 0] rfl)
set_option maxRecDepth 100000 in
set_option maxHeartbeats 4000000 in
theorem tX7_findIdeal_2 {Z : zT} {p : Program} {l : Launch} {e : Env} {s : State} {m : MethodId} {args : Array Value} {below : List Frame} {meth : Method} {c : Code} {A : Nat → Prop} (E : zE Z p s m args meth c RX7 cX7_findIdeal 8 none A) {Am : Nat → Nat} {v1 : Int32} {m_thrown : Int32} {m_s : (Nat → Int32)} {m_saved : (Nat → Int32)} {m_savedMany : Int32} {m_aside : (Nat → Int32)} {m_sent : (Nat → Int32)} {m_text : (Nat → Int32)} {m_length : Int32} {m_way : (Nat → Int32)} {m_crossed : Int32} {m_wayCost : Int32} {m_isWay : Int32} {m_next : Int32} {m_start : Int32} {m_token : Int32} {m_number : Int32} {m_letters : Int64} {m_isWrong : Int32} {m_sums : (Nat → Int32)} {m_steps : (Nat → Int32)} {m_chosen : Int32} {m_passed : (Nat → Int32)} {m_passedMany : Int32} {m_passedCost : Int32} {res : (Nat → Int32)}  : ∀ (n : Nat) (v2 : Int32) (m_reach : (Nat → Int32)) (H : Heap) (locs : List Loc) (ls : Array Slot), iter (fun b : Int32 × (Nat → Int32) => sX7_findIdeal_2 v1 m_s b.1 b.2) n (v2, m_reach) = some res → zW Z A (wX7 Z Am m_thrown m_s m_saved m_savedMany m_aside m_sent m_text m_length m_way m_crossed m_wayCost m_isWay m_next m_start m_token m_number m_letters m_isWrong m_sums m_steps m_chosen m_passed m_passedMany m_passedCost m_reach) s.heap H locs → lv_has ls 8 [(0, .ref (Am 0)), (1, .int v1), (2, .int v2)] → W p l e rmX7_findIdeal s m args below meth c H locs 0 0 (MQ below (zQv Z (wX7 Z Am m_thrown m_s m_saved m_savedMany m_aside m_sent m_text m_length m_way m_crossed m_wayCost m_isWay m_next m_start m_token m_number m_letters m_isWrong m_sums m_steps m_chosen m_passed m_passedMany m_passedCost res) A) args s 0 0 A) (F0 m 2 ls []) := by
  intro n
  induction n with
  | zero => intro v2 m_reach H locs ls h; cases h
  | succ n ih =>
    intro v2 m_reach H locs ls h hw hl
    obtain ⟨q1, h, hn1, hr1⟩ := iter_out h
    have hb1 : ∀ b : Int32 × (Nat → Int32), q1 = .inl b → ∀ (H : Heap) (locs : List Loc) (ls : Array Slot), zW Z A (wX7 Z Am m_thrown m_s m_saved m_savedMany m_aside m_sent m_text m_length m_way m_crossed m_wayCost m_isWay m_next m_start m_token m_number m_letters m_isWrong m_sums m_steps m_chosen m_passed m_passedMany m_passedCost b.2) s.heap H locs → lv_has ls 8 [(0, .ref (Am 0)), (1, .int v1), (2, .int b.1)] → W p l e rmX7_findIdeal s m args below meth c H locs 0 0 (MQ below (zQv Z (wX7 Z Am m_thrown m_s m_saved m_savedMany m_aside m_sent m_text m_length m_way m_crossed m_wayCost m_isWay m_next m_start m_token m_number m_letters m_isWrong m_sums m_steps m_chosen m_passed m_passedMany m_passedCost res) A) args s 0 0 A) (F0 m 2 ls []) := fun b eb H locs ls hw hl => ih b.1 b.2 H locs ls (hn1 b eb) hw hl
    replace h : sX7_findIdeal_2 v1 m_s v2 m_reach = some q1 := h
    unfold sX7_findIdeal_2 at h
    refine r_iload_n E hl 2 rfl dX7_findIdeal_2 rfl ?_
    refine r_bipush E 10 dX7_findIdeal_3 (by decide) ?_
    refine r_icmp_ge E 31 dX7_findIdeal_5 (by decide) (fun hc => ?_) (fun hc => ?_)
    · replace h := ite_t hc h
      obtain ⟨ro25, h, hro25⟩ := oi_some h
      rw [hr1 _ hro25] at h
      exact vX7_findIdeal_31 E  hw (lv_sub hl [0, 1] rfl) h
    · replace h := ite_f hc h
      refine r_aload_n E hl 0 rfl dX7_findIdeal_8 rfl ?_
      refine r_get E kW_X7 hw 0 rfl rfl 24 (by decide) kF_X7_37 rfl dX7_findIdeal_9 ?_
      refine r_iload_n E hl 2 rfl dX7_findIdeal_12 rfl ?_
      refine r_iload_n E hl 2 rfl dX7_findIdeal_13 rfl ?_
      refine r_iload_n E hl 1 rfl dX7_findIdeal_14 rfl ?_
      refine r_icmp_ne E 22 dX7_findIdeal_15 (by decide) (fun hc => ?_) (fun hc => ?_)
      · replace h := ite_f hc h
        refine r_ldc E (1000000) kQ_X7_253 dX7_findIdeal_22 ?_
        exact vX7_findIdeal_24 E hb1 hr1 hw hl h
      · replace h := ite_t hc h
        refine r_iconst E 0 dX7_findIdeal_18 (by decide) ?_
        refine r_goto E 24 dX7_findIdeal_19 (by decide) ?_
        exact vX7_findIdeal_24 E hb1 hr1 hw hl h
set_option maxRecDepth 100000 in
set_option maxHeartbeats 4000000 in
theorem mX7_findIdeal (l : Launch) (Z : zT) (sz : Nat) (Am : Nat → Nat) (m_thrown : Int32) (m_s : (Nat → Int32)) (m_saved : (Nat → Int32)) (m_savedMany : Int32) (m_aside : (Nat → Int32)) (m_sent : (Nat → Int32)) (m_text : (Nat → Int32)) (m_length : Int32) (m_way : (Nat → Int32)) (m_crossed : Int32) (m_wayCost : Int32) (m_isWay : Int32) (m_next : Int32) (m_start : Int32) (m_token : Int32) (m_number : Int32) (m_letters : Int64) (m_isWrong : Int32) (m_sums : (Nat → Int32)) (m_steps : (Nat → Int32)) (m_chosen : Int32) (m_passed : (Nat → Int32)) (m_passedMany : Int32) (m_passedCost : Int32) (m_reach : (Nat → Int32)) (v1 : Int32) {res : (Nat → Int32)} (h : fX7_findIdeal v1 m_s m_reach = some res) : Met l yX7_findIdeal (Cond.code yX7_findIdeal cX7_findIdeal 8 none :: zWs) rmX7_findIdeal (zP Z (wX7 Z Am m_thrown m_s m_saved m_savedMany m_aside m_sent m_text m_length m_way m_crossed m_wayCost m_isWay m_next m_start m_token m_number m_letters m_isWrong m_sums m_steps m_chosen m_passed m_passedMany m_passedCost m_reach) sz [.ref (Am 0), .int v1]) (zQv Z (wX7 Z Am m_thrown m_s m_saved m_savedMany m_aside m_sent m_text m_length m_way m_crossed m_wayCost m_isWay m_next m_start m_token m_number m_letters m_isWrong m_sums m_steps m_chosen m_passed m_passedMany m_passedCost res) (va_A (wX7 Z Am m_thrown m_s m_saved m_savedMany m_aside m_sent m_text m_length m_way m_crossed m_wayCost m_isWay m_next m_start m_token m_number m_letters m_isWrong m_sums m_steps m_chosen m_passed m_passedMany m_passedCost m_reach) sz)) 0 0 (va_A (wX7 Z Am m_thrown m_s m_saved m_savedMany m_aside m_sent m_text m_length m_way m_crossed m_wayCost m_isWay m_next m_start m_token m_number m_letters m_isWrong m_sums m_steps m_chosen m_passed m_passedMany m_passedCost m_reach) sz) := by
  refine zMet (own := RX7) (fun A => zQv Z (wX7 Z Am m_thrown m_s m_saved m_savedMany m_aside m_sent m_text m_length m_way m_crossed m_wayCost m_isWay m_next m_start m_token m_number m_letters m_isWrong m_sums m_steps m_chosen m_passed m_passedMany m_passedCost res) A) (by decide) rfl (Nat.le_of_ble_eq_true rfl) ?_
  intro p e s m args below meth c ls A E hw hl
  unfold fX7_findIdeal at h
  refine r_iconst E 0 dX7_findIdeal_0 (by decide) ?_
  refine r_istore_n E [(2, .int (0 : Int32)), (0, .ref (Am 0)), (1, .int v1)] hl dX7_findIdeal_1 rfl (by decide) rfl (fun ls hl => ?_)
  obtain ⟨n28, h⟩ := wh_some h
  exact tX7_findIdeal_2 E  n28 _ _ _ _ _ h hw (lv_sub hl [1, 2, 0] rfl)
abbrev rmX7_ideal : Room := { frames := 4, cells := 0, slots := 0, locals := 92 }

set_option maxRecDepth 100000 in
set_option maxHeartbeats 4000000 in
theorem mX7_ideal (l : Launch) (Z : zT) (sz : Nat) (Am : Nat → Nat) (m_thrown : Int32) (m_s : (Nat → Int32)) (m_saved : (Nat → Int32)) (m_savedMany : Int32) (m_aside : (Nat → Int32)) (m_sent : (Nat → Int32)) (m_text : (Nat → Int32)) (m_length : Int32) (m_way : (Nat → Int32)) (m_crossed : Int32) (m_wayCost : Int32) (m_isWay : Int32) (m_next : Int32) (m_start : Int32) (m_token : Int32) (m_number : Int32) (m_letters : Int64) (m_isWrong : Int32) (m_sums : (Nat → Int32)) (m_steps : (Nat → Int32)) (m_chosen : Int32) (m_passed : (Nat → Int32)) (m_passedMany : Int32) (m_passedCost : Int32) (m_reach : (Nat → Int32)) (v1 : Int32) (v2 : Int32) {res : Int32 × Int32 × (Nat → Int32)} (h : fX7_ideal v1 v2 m_s m_reach = some res) : Met l yX7_ideal (Cond.code yX7_ideal cX7_ideal 3 (some .int) :: zWs) rmX7_ideal (zP Z (wX7 Z Am m_thrown m_s m_saved m_savedMany m_aside m_sent m_text m_length m_way m_crossed m_wayCost m_isWay m_next m_start m_token m_number m_letters m_isWrong m_sums m_steps m_chosen m_passed m_passedMany m_passedCost m_reach) sz [.ref (Am 0), .int v1, .int v2]) (zQi Z res.1 (wX7 Z Am res.2.1 m_s m_saved m_savedMany m_aside m_sent m_text m_length m_way m_crossed m_wayCost m_isWay m_next m_start m_token m_number m_letters m_isWrong m_sums m_steps m_chosen m_passed m_passedMany m_passedCost res.2.2) (va_A (wX7 Z Am m_thrown m_s m_saved m_savedMany m_aside m_sent m_text m_length m_way m_crossed m_wayCost m_isWay m_next m_start m_token m_number m_letters m_isWrong m_sums m_steps m_chosen m_passed m_passedMany m_passedCost m_reach) sz)) 0 0 (va_A (wX7 Z Am m_thrown m_s m_saved m_savedMany m_aside m_sent m_text m_length m_way m_crossed m_wayCost m_isWay m_next m_start m_token m_number m_letters m_isWrong m_sums m_steps m_chosen m_passed m_passedMany m_passedCost m_reach) sz) := by
  refine zMet (own := RX7) (fun A => zQi Z res.1 (wX7 Z Am res.2.1 m_s m_saved m_savedMany m_aside m_sent m_text m_length m_way m_crossed m_wayCost m_isWay m_next m_start m_token m_number m_letters m_isWrong m_sums m_steps m_chosen m_passed m_passedMany m_passedCost res.2.2) A) (by decide) rfl (Nat.le_of_ble_eq_true rfl) ?_
  intro p e s m args below meth c ls A E hw hl
  unfold fX7_ideal at h
  refine r_aload_n E hl 0 rfl dX7_ideal_0 rfl ?_
  refine r_iconst E 0 dX7_ideal_1 (by decide) ?_
  refine r_put E (wX7 Z Am (0 : Int32) m_s m_saved m_savedMany m_aside m_sent m_text m_length m_way m_crossed m_wayCost m_isWay m_next m_start m_token m_number m_letters m_isWrong m_sums m_steps m_chosen m_passed m_passedMany m_passedCost m_reach) kW_X7 tyX7_ok nmX7 hw 0 rfl rfl 0 (by decide) kF_X7_40 rfl rfl rfl (Nat.le_of_ble_eq_true rfl) rfl dX7_ideal_2 (fun H locs hw => ?_)
  refine r_aload_n E hl 0 rfl dX7_ideal_5 rfl ?_
  refine r_iload_n E hl 1 rfl dX7_ideal_6 rfl ?_
  obtain ⟨y1, hy1, h⟩ := bd_some h
  refine r_callVAi E hw (mX7_isNode l Z _ Am (0 : Int32) m_s m_saved m_savedMany m_aside m_sent m_text m_length m_way m_crossed m_wayCost m_isWay m_next m_start m_token m_number m_letters m_isWrong m_sums m_steps m_chosen m_passed m_passedMany m_passedCost m_reach v1 hy1) kL_X7_125 kI_X7_isNode kS_X7_isNode kN_X7 kC_X7_isNode rfl rfl hdX7_isNode ⟨Nat.le_of_ble_eq_true rfl, Nat.le_of_ble_eq_true rfl⟩ 0 rfl rfl rfl rfl hl [] rfl (Nat.le_of_ble_eq_true rfl) dX7_ideal_7 ⟨Nat.zero_le _, Nat.zero_le _⟩ (fun H locs hw => ?_)
  refine r_if_eq E 21 dX7_ideal_10 (by decide) (fun hc => ?_) (fun hc => ?_)
  · replace h := ite_t hc h
    refine r_iconst E (-1) dX7_ideal_21 (by decide) ?_
    obtain rfl := Option.some.inj h
    exact r_iret E hw dX7_ideal_22
  · replace h := ite_f hc h
    refine r_aload_n E hl 0 rfl dX7_ideal_13 rfl ?_
    refine r_iload_n E hl 2 rfl dX7_ideal_14 rfl ?_
    obtain ⟨y2, hy2, h⟩ := bd_some h
    refine r_callVAi E hw (mX7_isNode l Z _ Am (0 : Int32) m_s m_saved m_savedMany m_aside m_sent m_text m_length m_way m_crossed m_wayCost m_isWay m_next m_start m_token m_number m_letters m_isWrong m_sums m_steps m_chosen m_passed m_passedMany m_passedCost m_reach v2 hy2) kL_X7_125 kI_X7_isNode kS_X7_isNode kN_X7 kC_X7_isNode rfl rfl hdX7_isNode ⟨Nat.le_of_ble_eq_true rfl, Nat.le_of_ble_eq_true rfl⟩ 0 rfl rfl rfl rfl hl [] rfl (Nat.le_of_ble_eq_true rfl) dX7_ideal_15 ⟨Nat.zero_le _, Nat.zero_le _⟩ (fun H locs hw => ?_)
    refine r_if_ne E 23 dX7_ideal_18 (by decide) (fun hc => ?_) (fun hc => ?_)
    · replace h := ite_f hc h
      refine r_aload_n E hl 0 rfl dX7_ideal_23 rfl ?_
      refine r_iload_n E hl 1 rfl dX7_ideal_24 rfl ?_
      obtain ⟨y3, hy3, h⟩ := bd_some h
      refine r_callVAv E hw (mX7_findIdeal l Z _ Am (0 : Int32) m_s m_saved m_savedMany m_aside m_sent m_text m_length m_way m_crossed m_wayCost m_isWay m_next m_start m_token m_number m_letters m_isWrong m_sums m_steps m_chosen m_passed m_passedMany m_passedCost m_reach v1 hy3) kL_X7_294 kI_X7_findIdeal kS_X7_findIdeal kN_X7 kC_X7_findIdeal rfl rfl hdX7_findIdeal ⟨Nat.le_of_ble_eq_true rfl, Nat.le_of_ble_eq_true rfl⟩ 0 rfl rfl rfl rfl hl [] rfl (Nat.le_of_ble_eq_true rfl) dX7_ideal_25 ⟨Nat.zero_le _, Nat.zero_le _⟩ (fun H locs hw => ?_)
      refine r_aload_n E hl 0 rfl dX7_ideal_28 rfl ?_
      refine r_get E kW_X7 hw 0 rfl rfl 24 (by decide) kF_X7_37 rfl dX7_ideal_29 ?_
      refine r_iload_n E hl 2 rfl dX7_ideal_32 rfl ?_
      obtain ⟨hg4, h⟩ := gd_some h
      refine r_iald E hw 10 rfl hg4 dX7_ideal_33 ?_
      refine r_ldc E (1000000) kQ_X7_253 dX7_ideal_34 ?_
      refine r_icmp_ge E 48 dX7_ideal_36 (by decide) (fun hc => ?_) (fun hc => ?_)
      · replace h := ite_t hc h
        refine r_bipush E (-9) dX7_ideal_48 (by decide) ?_
        obtain rfl := Option.some.inj h
        exact r_iret E hw dX7_ideal_50
      · replace h := ite_f hc h
        refine r_aload_n E hl 0 rfl dX7_ideal_39 rfl ?_
        refine r_get E kW_X7 hw 0 rfl rfl 24 (by decide) kF_X7_37 rfl dX7_ideal_40 ?_
        refine r_iload_n E hl 2 rfl dX7_ideal_43 rfl ?_
        obtain ⟨hg5, h⟩ := gd_some h
        refine r_iald E hw 10 rfl hg5 dX7_ideal_44 ?_
        refine r_goto E 50 dX7_ideal_45 (by decide) ?_
        obtain rfl := Option.some.inj h
        exact r_iret E hw dX7_ideal_50
    · replace h := ite_t hc h
      refine r_iconst E (-1) dX7_ideal_21 (by decide) ?_
      obtain rfl := Option.some.inj h
      exact r_iret E hw dX7_ideal_22
abbrev rmX7_idealSum : Room := { frames := 4, cells := 0, slots := 0, locals := 92 }

set_option maxRecDepth 100000 in
set_option maxHeartbeats 4000000 in
theorem vX7_idealSum_86 {Z : zT} {p : Program} {l : Launch} {e : Env} {s : State} {m : MethodId} {args : Array Value} {below : List Frame} {meth : Method} {c : Code} {A : Nat → Prop} (E : zE Z p s m args meth c RX7 cX7_idealSum 5 (some .int) A) {Am : Nat → Nat} {v1 : Int32} {v2 : Int32} {v3 : Int32} {m_thrown : Int32} {m_s : (Nat → Int32)} {m_saved : (Nat → Int32)} {m_savedMany : Int32} {m_aside : (Nat → Int32)} {m_sent : (Nat → Int32)} {m_text : (Nat → Int32)} {m_length : Int32} {m_way : (Nat → Int32)} {m_crossed : Int32} {m_wayCost : Int32} {m_isWay : Int32} {m_next : Int32} {m_start : Int32} {m_token : Int32} {m_number : Int32} {m_letters : Int64} {m_isWrong : Int32} {m_sums : (Nat → Int32)} {m_steps : (Nat → Int32)} {m_chosen : Int32} {m_passed : (Nat → Int32)} {m_passedMany : Int32} {m_passedCost : Int32} {m_reach : (Nat → Int32)} {res : Int32 × (Nat → Int32)} {q1 : (Int32 × Int32 × (Nat → Int32)) ⊕ (Int32 × (Nat → Int32))} (hb1 : ∀ b : Int32 × Int32 × (Nat → Int32), q1 = .inl b → ∀ (H : Heap) (locs : List Loc) (ls : Array Slot), zW Z A (wX7 Z Am m_thrown m_s m_saved m_savedMany m_aside m_sent m_text m_length m_way m_crossed m_wayCost m_isWay m_next m_start m_token m_number m_letters m_isWrong m_sums m_steps m_chosen m_passed m_passedMany m_passedCost b.2.2) s.heap H locs → lv_has ls 5 [(0, .ref (Am 0)), (1, .int v1), (2, .int b.1), (3, .int b.2.1)] → W p l e rmX7_idealSum s m args below meth c H locs 0 0 (MQ below (zQi Z res.1 (wX7 Z Am m_thrown m_s m_saved m_savedMany m_aside m_sent m_text m_length m_way m_crossed m_wayCost m_isWay m_next m_start m_token m_number m_letters m_isWrong m_sums m_steps m_chosen m_passed m_passedMany m_passedCost res.2) A) args s 0 0 A) (F0 m 4 ls [])) (hr1 : ∀ r' , q1 = .inr r' → r' = res) {H : Heap} {locs : List Loc} {ls : Array Slot} (hw : zW Z A (wX7 Z Am m_thrown m_s m_saved m_savedMany m_aside m_sent m_text m_length m_way m_crossed m_wayCost m_isWay m_next m_start m_token m_number m_letters m_isWrong m_sums m_steps m_chosen m_passed m_passedMany m_passedCost m_reach) s.heap H locs) (hl : lv_has ls 5 [(0, .ref (Am 0)), (1, .int v1), (2, .int v2), (3, .int v3)]) (h : uX7_idealSum_86 v2 v3 m_reach = some q1) : W p l e rmX7_idealSum s m args below meth c H locs 0 0 (MQ below (zQi Z res.1 (wX7 Z Am m_thrown m_s m_saved m_savedMany m_aside m_sent m_text m_length m_way m_crossed m_wayCost m_isWay m_next m_start m_token m_number m_letters m_isWrong m_sums m_steps m_chosen m_passed m_passedMany m_passedCost res.2) A) args s 0 0 A) (F0 m 86 ls []) := by
  unfold uX7_idealSum_86 at h
  obtain ⟨w4, hw4, h⟩ := nm_out h
  refine r_iinc E w4 [(3, .int w4), (0, .ref (Am 0)), (1, .int v1), (2, .int v2)] hl (k := 3) rfl dX7_idealSum_86 hw4.symm (by decide) rfl (fun ls hl => ?_)
  refine r_goto E 4 dX7_idealSum_89 (by decide) ?_
  exact hb1 _ (Option.some.inj h).symm _ _ _ hw (lv_sub hl [1, 2, 3, 0] rfl)
set_option maxRecDepth 100000 in
set_option maxHeartbeats 4000000 in
theorem vX7_idealSum_78 {Z : zT} {p : Program} {l : Launch} {e : Env} {s : State} {m : MethodId} {args : Array Value} {below : List Frame} {meth : Method} {c : Code} {A : Nat → Prop} (E : zE Z p s m args meth c RX7 cX7_idealSum 5 (some .int) A) {Am : Nat → Nat} {v1 : Int32} {v3 : Int32} {v4 : Int32} {k0 : Int32} {k1 : Int32} {m_thrown : Int32} {m_s : (Nat → Int32)} {m_saved : (Nat → Int32)} {m_savedMany : Int32} {m_aside : (Nat → Int32)} {m_sent : (Nat → Int32)} {m_text : (Nat → Int32)} {m_length : Int32} {m_way : (Nat → Int32)} {m_crossed : Int32} {m_wayCost : Int32} {m_isWay : Int32} {m_next : Int32} {m_start : Int32} {m_token : Int32} {m_number : Int32} {m_letters : Int64} {m_isWrong : Int32} {m_sums : (Nat → Int32)} {m_steps : (Nat → Int32)} {m_chosen : Int32} {m_passed : (Nat → Int32)} {m_passedMany : Int32} {m_passedCost : Int32} {m_reach : (Nat → Int32)} {res : Int32 × (Nat → Int32)} {q1 : (Int32 × Int32 × (Nat → Int32)) ⊕ (Int32 × (Nat → Int32))} (hb1 : ∀ b : Int32 × Int32 × (Nat → Int32), q1 = .inl b → ∀ (H : Heap) (locs : List Loc) (ls : Array Slot), zW Z A (wX7 Z Am m_thrown m_s m_saved m_savedMany m_aside m_sent m_text m_length m_way m_crossed m_wayCost m_isWay m_next m_start m_token m_number m_letters m_isWrong m_sums m_steps m_chosen m_passed m_passedMany m_passedCost b.2.2) s.heap H locs → lv_has ls 5 [(0, .ref (Am 0)), (1, .int v1), (2, .int b.1), (3, .int b.2.1)] → W p l e rmX7_idealSum s m args below meth c H locs 0 0 (MQ below (zQi Z res.1 (wX7 Z Am m_thrown m_s m_saved m_savedMany m_aside m_sent m_text m_length m_way m_crossed m_wayCost m_isWay m_next m_start m_token m_number m_letters m_isWrong m_sums m_steps m_chosen m_passed m_passedMany m_passedCost res.2) A) args s 0 0 A) (F0 m 4 ls [])) (hr1 : ∀ r' , q1 = .inr r' → r' = res) {q2 : (Int32 × Int32) ⊕ ((Int32 × Int32 × (Nat → Int32)) ⊕ (Int32 × (Nat → Int32)))} (hb2 : ∀ b : Int32 × Int32, q2 = .inl b → ∀ (H : Heap) (locs : List Loc) (ls : Array Slot), zW Z A (wX7 Z Am m_thrown m_s m_saved m_savedMany m_aside m_sent m_text m_length m_way m_crossed m_wayCost m_isWay m_next m_start m_token m_number m_letters m_isWrong m_sums m_steps m_chosen m_passed m_passedMany m_passedCost m_reach) s.heap H locs → lv_has ls 5 [(0, .ref (Am 0)), (1, .int v1), (2, .int b.1), (3, .int v3), (4, .int b.2)] → W p l e rmX7_idealSum s m args below meth c H locs 0 0 (MQ below (zQi Z res.1 (wX7 Z Am m_thrown m_s m_saved m_savedMany m_aside m_sent m_text m_length m_way m_crossed m_wayCost m_isWay m_next m_start m_token m_number m_letters m_isWrong m_sums m_steps m_chosen m_passed m_passedMany m_passedCost res.2) A) args s 0 0 A) (F0 m 31 ls [])) (hr2 : ∀ r' , q2 = .inr r' → r' = q1) {H : Heap} {locs : List Loc} {ls : Array Slot} (hw : zW Z A (wX7 Z Am m_thrown m_s m_saved m_savedMany m_aside m_sent m_text m_length m_way m_crossed m_wayCost m_isWay m_next m_start m_token m_number m_letters m_isWrong m_sums m_steps m_chosen m_passed m_passedMany m_passedCost m_reach) s.heap H locs) (hl : lv_has ls 5 [(0, .ref (Am 0)), (1, .int v1), (3, .int v3), (4, .int v4)]) (h : uX7_idealSum_78 v4 k0 k1 = some q2) : W p l e rmX7_idealSum s m args below meth c H locs 0 0 (MQ below (zQi Z res.1 (wX7 Z Am m_thrown m_s m_saved m_savedMany m_aside m_sent m_text m_length m_way m_crossed m_wayCost m_isWay m_next m_start m_token m_number m_letters m_isWrong m_sums m_steps m_chosen m_passed m_passedMany m_passedCost res.2) A) args s 0 0 A) (F0 m 78 ls [.int k1, .int k0]) := by
  unfold uX7_idealSum_78 at h
  refine r_iadd E dX7_idealSum_78 ?_
  obtain ⟨w9, hw9, h⟩ := nm_out h
  refine r_nm hw9 ?_
  refine r_istore_n E [(2, .int w9), (0, .ref (Am 0)), (1, .int v1), (3, .int v3), (4, .int v4)] hl dX7_idealSum_79 rfl (by decide) rfl (fun ls hl => ?_)
  obtain ⟨w10, hw10, h⟩ := nm_out h
  refine r_iinc E w10 [(4, .int w10), (2, .int w9), (0, .ref (Am 0)), (1, .int v1), (3, .int v3)] hl (k := 4) rfl dX7_idealSum_80 hw10.symm (by decide) rfl (fun ls hl => ?_)
  refine r_goto E 31 dX7_idealSum_83 (by decide) ?_
  exact hb2 _ (Option.some.inj h).symm _ _ _ hw (lv_sub hl [2, 3, 1, 4, 0] rfl)
set_option maxRecDepth 100000 in
set_option maxHeartbeats 4000000 in
theorem tX7_idealSum_31 {Z : zT} {p : Program} {l : Launch} {e : Env} {s : State} {m : MethodId} {args : Array Value} {below : List Frame} {meth : Method} {c : Code} {A : Nat → Prop} (E : zE Z p s m args meth c RX7 cX7_idealSum 5 (some .int) A) {Am : Nat → Nat} {v1 : Int32} {v3 : Int32} {m_thrown : Int32} {m_s : (Nat → Int32)} {m_saved : (Nat → Int32)} {m_savedMany : Int32} {m_aside : (Nat → Int32)} {m_sent : (Nat → Int32)} {m_text : (Nat → Int32)} {m_length : Int32} {m_way : (Nat → Int32)} {m_crossed : Int32} {m_wayCost : Int32} {m_isWay : Int32} {m_next : Int32} {m_start : Int32} {m_token : Int32} {m_number : Int32} {m_letters : Int64} {m_isWrong : Int32} {m_sums : (Nat → Int32)} {m_steps : (Nat → Int32)} {m_chosen : Int32} {m_passed : (Nat → Int32)} {m_passedMany : Int32} {m_passedCost : Int32} {m_reach : (Nat → Int32)} {res : Int32 × (Nat → Int32)} {q1 : (Int32 × Int32 × (Nat → Int32)) ⊕ (Int32 × (Nat → Int32))} (hb1 : ∀ b : Int32 × Int32 × (Nat → Int32), q1 = .inl b → ∀ (H : Heap) (locs : List Loc) (ls : Array Slot), zW Z A (wX7 Z Am m_thrown m_s m_saved m_savedMany m_aside m_sent m_text m_length m_way m_crossed m_wayCost m_isWay m_next m_start m_token m_number m_letters m_isWrong m_sums m_steps m_chosen m_passed m_passedMany m_passedCost b.2.2) s.heap H locs → lv_has ls 5 [(0, .ref (Am 0)), (1, .int v1), (2, .int b.1), (3, .int b.2.1)] → W p l e rmX7_idealSum s m args below meth c H locs 0 0 (MQ below (zQi Z res.1 (wX7 Z Am m_thrown m_s m_saved m_savedMany m_aside m_sent m_text m_length m_way m_crossed m_wayCost m_isWay m_next m_start m_token m_number m_letters m_isWrong m_sums m_steps m_chosen m_passed m_passedMany m_passedCost res.2) A) args s 0 0 A) (F0 m 4 ls [])) (hr1 : ∀ r' , q1 = .inr r' → r' = res) : ∀ (n : Nat) (v2 : Int32) (v4 : Int32) (H : Heap) (locs : List Loc) (ls : Array Slot), iter (fun b : Int32 × Int32 => sX7_idealSum_31 v3 m_s m_reach b.1 b.2) n (v2, v4) = some q1 → zW Z A (wX7 Z Am m_thrown m_s m_saved m_savedMany m_aside m_sent m_text m_length m_way m_crossed m_wayCost m_isWay m_next m_start m_token m_number m_letters m_isWrong m_sums m_steps m_chosen m_passed m_passedMany m_passedCost m_reach) s.heap H locs → lv_has ls 5 [(0, .ref (Am 0)), (1, .int v1), (2, .int v2), (3, .int v3), (4, .int v4)] → W p l e rmX7_idealSum s m args below meth c H locs 0 0 (MQ below (zQi Z res.1 (wX7 Z Am m_thrown m_s m_saved m_savedMany m_aside m_sent m_text m_length m_way m_crossed m_wayCost m_isWay m_next m_start m_token m_number m_letters m_isWrong m_sums m_steps m_chosen m_passed m_passedMany m_passedCost res.2) A) args s 0 0 A) (F0 m 31 ls []) := by
  intro n
  induction n with
  | zero => intro v2 v4 H locs ls h; cases h
  | succ n ih =>
    intro v2 v4 H locs ls h hw hl
    obtain ⟨q2, h, hn2, hr2⟩ := iter_out h
    have hb2 : ∀ b : Int32 × Int32, q2 = .inl b → ∀ (H : Heap) (locs : List Loc) (ls : Array Slot), zW Z A (wX7 Z Am m_thrown m_s m_saved m_savedMany m_aside m_sent m_text m_length m_way m_crossed m_wayCost m_isWay m_next m_start m_token m_number m_letters m_isWrong m_sums m_steps m_chosen m_passed m_passedMany m_passedCost m_reach) s.heap H locs → lv_has ls 5 [(0, .ref (Am 0)), (1, .int v1), (2, .int b.1), (3, .int v3), (4, .int b.2)] → W p l e rmX7_idealSum s m args below meth c H locs 0 0 (MQ below (zQi Z res.1 (wX7 Z Am m_thrown m_s m_saved m_savedMany m_aside m_sent m_text m_length m_way m_crossed m_wayCost m_isWay m_next m_start m_token m_number m_letters m_isWrong m_sums m_steps m_chosen m_passed m_passedMany m_passedCost res.2) A) args s 0 0 A) (F0 m 31 ls []) := fun b eb H locs ls hw hl => ih b.1 b.2 H locs ls (hn2 b eb) hw hl
    replace h : sX7_idealSum_31 v3 m_s m_reach v2 v4 = some q2 := h
    unfold sX7_idealSum_31 at h
    refine r_iload E hl 4 rfl dX7_idealSum_31 ?_
    refine r_aload_n E hl 0 rfl dX7_idealSum_33 rfl ?_
    refine r_get E kW_X7 hw 0 rfl rfl 1 (by decide) kF_X7_7 rfl dX7_idealSum_34 ?_
    refine r_iconst E 0 dX7_idealSum_37 (by decide) ?_
    obtain ⟨hg6, h⟩ := gd_some h
    refine r_iald E hw 1 rfl hg6 dX7_idealSum_38 ?_
    refine r_icmp_ge E 86 dX7_idealSum_39 (by decide) (fun hc => ?_) (fun hc => ?_)
    · replace h := ite_t hc h
      obtain ⟨ro7, h, hro7⟩ := oi_some h
      rw [hr2 _ hro7] at h
      exact vX7_idealSum_86 E hb1 hr1 hw (lv_sub hl [0, 1, 2, 3] rfl) h
    · replace h := ite_f hc h
      refine r_iload_n E hl 2 rfl dX7_idealSum_42 rfl ?_
      refine r_iload_n E hl 3 rfl dX7_idealSum_43 rfl ?_
      refine r_iload E hl 4 rfl dX7_idealSum_44 ?_
      refine r_icmp_ne E 53 dX7_idealSum_46 (by decide) (fun hc => ?_) (fun hc => ?_)
      · replace h := ite_f hc h
        refine r_aload_n E hl 0 rfl dX7_idealSum_53 rfl ?_
        refine r_get E kW_X7 hw 0 rfl rfl 24 (by decide) kF_X7_37 rfl dX7_idealSum_54 ?_
        refine r_iload E hl 4 rfl dX7_idealSum_57 ?_
        obtain ⟨hg8, h⟩ := gd_some h
        refine r_iald E hw 10 rfl hg8 dX7_idealSum_59 ?_
        refine r_ldc E (1000000) kQ_X7_253 dX7_idealSum_60 ?_
        refine r_icmp_ge E 75 dX7_idealSum_62 (by decide) (fun hc => ?_) (fun hc => ?_)
        · replace h := ite_t hc h
          refine r_sipush E 200 dX7_idealSum_75 (by decide) ?_
          exact vX7_idealSum_78 E hb1 hr1 hb2 hr2 hw (lv_sub hl [0, 1, 3, 4] rfl) h
        · replace h := ite_f hc h
          refine r_aload_n E hl 0 rfl dX7_idealSum_65 rfl ?_
          refine r_get E kW_X7 hw 0 rfl rfl 24 (by decide) kF_X7_37 rfl dX7_idealSum_66 ?_
          refine r_iload E hl 4 rfl dX7_idealSum_69 ?_
          obtain ⟨hg11, h⟩ := gd_some h
          refine r_iald E hw 10 rfl hg11 dX7_idealSum_71 ?_
          refine r_goto E 78 dX7_idealSum_72 (by decide) ?_
          exact vX7_idealSum_78 E hb1 hr1 hb2 hr2 hw (lv_sub hl [0, 1, 3, 4] rfl) h
      · replace h := ite_t hc h
        refine r_iconst E 0 dX7_idealSum_49 (by decide) ?_
        refine r_goto E 78 dX7_idealSum_50 (by decide) ?_
        exact vX7_idealSum_78 E hb1 hr1 hb2 hr2 hw (lv_sub hl [0, 1, 3, 4] rfl) h
set_option maxRecDepth 100000 in
set_option maxHeartbeats 4000000 in
theorem tX7_idealSum_4 {Z : zT} {p : Program} {l : Launch} {e : Env} {s : State} {m : MethodId} {args : Array Value} {below : List Frame} {meth : Method} {c : Code} {A : Nat → Prop} (E : zE Z p s m args meth c RX7 cX7_idealSum 5 (some .int) A) {Am : Nat → Nat} {v1 : Int32} {m_thrown : Int32} {m_s : (Nat → Int32)} {m_saved : (Nat → Int32)} {m_savedMany : Int32} {m_aside : (Nat → Int32)} {m_sent : (Nat → Int32)} {m_text : (Nat → Int32)} {m_length : Int32} {m_way : (Nat → Int32)} {m_crossed : Int32} {m_wayCost : Int32} {m_isWay : Int32} {m_next : Int32} {m_start : Int32} {m_token : Int32} {m_number : Int32} {m_letters : Int64} {m_isWrong : Int32} {m_sums : (Nat → Int32)} {m_steps : (Nat → Int32)} {m_chosen : Int32} {m_passed : (Nat → Int32)} {m_passedMany : Int32} {m_passedCost : Int32} {res : Int32 × (Nat → Int32)}  : ∀ (n : Nat) (v2 : Int32) (v3 : Int32) (m_reach : (Nat → Int32)) (H : Heap) (locs : List Loc) (ls : Array Slot), iter (fun b : Int32 × Int32 × (Nat → Int32) => sX7_idealSum_4 v1 m_s b.1 b.2.1 b.2.2) n (v2, v3, m_reach) = some res → zW Z A (wX7 Z Am m_thrown m_s m_saved m_savedMany m_aside m_sent m_text m_length m_way m_crossed m_wayCost m_isWay m_next m_start m_token m_number m_letters m_isWrong m_sums m_steps m_chosen m_passed m_passedMany m_passedCost m_reach) s.heap H locs → lv_has ls 5 [(0, .ref (Am 0)), (1, .int v1), (2, .int v2), (3, .int v3)] → W p l e rmX7_idealSum s m args below meth c H locs 0 0 (MQ below (zQi Z res.1 (wX7 Z Am m_thrown m_s m_saved m_savedMany m_aside m_sent m_text m_length m_way m_crossed m_wayCost m_isWay m_next m_start m_token m_number m_letters m_isWrong m_sums m_steps m_chosen m_passed m_passedMany m_passedCost res.2) A) args s 0 0 A) (F0 m 4 ls []) := by
  intro n
  induction n with
  | zero => intro v2 v3 m_reach H locs ls h; cases h
  | succ n ih =>
    intro v2 v3 m_reach H locs ls h hw hl
    obtain ⟨q1, h, hn1, hr1⟩ := iter_out h
    have hb1 : ∀ b : Int32 × Int32 × (Nat → Int32), q1 = .inl b → ∀ (H : Heap) (locs : List Loc) (ls : Array Slot), zW Z A (wX7 Z Am m_thrown m_s m_saved m_savedMany m_aside m_sent m_text m_length m_way m_crossed m_wayCost m_isWay m_next m_start m_token m_number m_letters m_isWrong m_sums m_steps m_chosen m_passed m_passedMany m_passedCost b.2.2) s.heap H locs → lv_has ls 5 [(0, .ref (Am 0)), (1, .int v1), (2, .int b.1), (3, .int b.2.1)] → W p l e rmX7_idealSum s m args below meth c H locs 0 0 (MQ below (zQi Z res.1 (wX7 Z Am m_thrown m_s m_saved m_savedMany m_aside m_sent m_text m_length m_way m_crossed m_wayCost m_isWay m_next m_start m_token m_number m_letters m_isWrong m_sums m_steps m_chosen m_passed m_passedMany m_passedCost res.2) A) args s 0 0 A) (F0 m 4 ls []) := fun b eb H locs ls hw hl => ih b.1 b.2.1 b.2.2 H locs ls (hn1 b eb) hw hl
    replace h : sX7_idealSum_4 v1 m_s v2 v3 m_reach = some q1 := h
    unfold sX7_idealSum_4 at h
    refine r_iload_n E hl 3 rfl dX7_idealSum_4 rfl ?_
    refine r_aload_n E hl 0 rfl dX7_idealSum_5 rfl ?_
    refine r_get E kW_X7 hw 0 rfl rfl 1 (by decide) kF_X7_7 rfl dX7_idealSum_6 ?_
    refine r_iconst E 0 dX7_idealSum_9 (by decide) ?_
    obtain ⟨hg1, h⟩ := gd_some h
    refine r_iald E hw 1 rfl hg1 dX7_idealSum_10 ?_
    refine r_icmp_ge E 92 dX7_idealSum_11 (by decide) (fun hc => ?_) (fun hc => ?_)
    · replace h := ite_t hc h
      obtain ⟨ro2, h, hro2⟩ := oi_some h
      rw [hr1 _ hro2] at h
      refine r_iload_n E hl 2 rfl dX7_idealSum_92 rfl ?_
      obtain rfl := Option.some.inj h
      exact r_iret E hw dX7_idealSum_93
    · replace h := ite_f hc h
      refine r_aload_n E hl 0 rfl dX7_idealSum_14 rfl ?_
      refine r_iload_n E hl 3 rfl dX7_idealSum_15 rfl ?_
      obtain ⟨y3, hy3, h⟩ := bd_some h
      refine r_callVAi E hw (mX7_area l Z _ Am m_thrown m_s m_saved m_savedMany m_aside m_sent m_text m_length m_way m_crossed m_wayCost m_isWay m_next m_start m_token m_number m_letters m_isWrong m_sums m_steps m_chosen m_passed m_passedMany m_passedCost m_reach v3 hy3) kL_X7_66 kI_X7_area kS_X7_area kN_X7 kC_X7_area rfl rfl hdX7_area ⟨Nat.le_of_ble_eq_true rfl, Nat.le_of_ble_eq_true rfl⟩ 0 rfl rfl rfl rfl hl [] rfl (Nat.le_of_ble_eq_true rfl) dX7_idealSum_16 ⟨Nat.zero_le _, Nat.zero_le _⟩ (fun H locs hw => ?_)
      refine r_iload_n E hl 1 rfl dX7_idealSum_19 rfl ?_
      refine r_icmp_ne E 86 dX7_idealSum_20 (by decide) (fun hc => ?_) (fun hc => ?_)
      · replace h := ite_f hc h
        exact vX7_idealSum_86 E hb1 hr1 hw hl h
      · replace h := ite_t hc h
        refine r_aload_n E hl 0 rfl dX7_idealSum_23 rfl ?_
        refine r_iload_n E hl 3 rfl dX7_idealSum_24 rfl ?_
        obtain ⟨y5, hy5, h⟩ := bd_some h
        refine r_callVAv E hw (mX7_findIdeal l Z _ Am m_thrown m_s m_saved m_savedMany m_aside m_sent m_text m_length m_way m_crossed m_wayCost m_isWay m_next m_start m_token m_number m_letters m_isWrong m_sums m_steps m_chosen m_passed m_passedMany m_passedCost m_reach v3 hy5) kL_X7_294 kI_X7_findIdeal kS_X7_findIdeal kN_X7 kC_X7_findIdeal rfl rfl hdX7_findIdeal ⟨Nat.le_of_ble_eq_true rfl, Nat.le_of_ble_eq_true rfl⟩ 0 rfl rfl rfl rfl hl [] rfl (Nat.le_of_ble_eq_true rfl) dX7_idealSum_25 ⟨Nat.zero_le _, Nat.zero_le _⟩ (fun H locs hw => ?_)
        refine r_iconst E 0 dX7_idealSum_28 (by decide) ?_
        refine r_istore E [(4, .int (0 : Int32)), (0, .ref (Am 0)), (1, .int v1), (2, .int v2), (3, .int v3)] hl dX7_idealSum_29 (by decide) rfl (fun ls hl => ?_)
        obtain ⟨n12, h⟩ := wh_some h
        exact tX7_idealSum_31 E hb1 hr1 n12 _ _ _ _ _ h hw (lv_sub hl [1, 2, 3, 4, 0] rfl)
set_option maxRecDepth 100000 in
set_option maxHeartbeats 4000000 in
theorem mX7_idealSum (l : Launch) (Z : zT) (sz : Nat) (Am : Nat → Nat) (m_thrown : Int32) (m_s : (Nat → Int32)) (m_saved : (Nat → Int32)) (m_savedMany : Int32) (m_aside : (Nat → Int32)) (m_sent : (Nat → Int32)) (m_text : (Nat → Int32)) (m_length : Int32) (m_way : (Nat → Int32)) (m_crossed : Int32) (m_wayCost : Int32) (m_isWay : Int32) (m_next : Int32) (m_start : Int32) (m_token : Int32) (m_number : Int32) (m_letters : Int64) (m_isWrong : Int32) (m_sums : (Nat → Int32)) (m_steps : (Nat → Int32)) (m_chosen : Int32) (m_passed : (Nat → Int32)) (m_passedMany : Int32) (m_passedCost : Int32) (m_reach : (Nat → Int32)) (v1 : Int32) {res : Int32 × (Nat → Int32)} (h : fX7_idealSum v1 m_s m_reach = some res) : Met l yX7_idealSum (Cond.code yX7_idealSum cX7_idealSum 5 (some .int) :: zWs) rmX7_idealSum (zP Z (wX7 Z Am m_thrown m_s m_saved m_savedMany m_aside m_sent m_text m_length m_way m_crossed m_wayCost m_isWay m_next m_start m_token m_number m_letters m_isWrong m_sums m_steps m_chosen m_passed m_passedMany m_passedCost m_reach) sz [.ref (Am 0), .int v1]) (zQi Z res.1 (wX7 Z Am m_thrown m_s m_saved m_savedMany m_aside m_sent m_text m_length m_way m_crossed m_wayCost m_isWay m_next m_start m_token m_number m_letters m_isWrong m_sums m_steps m_chosen m_passed m_passedMany m_passedCost res.2) (va_A (wX7 Z Am m_thrown m_s m_saved m_savedMany m_aside m_sent m_text m_length m_way m_crossed m_wayCost m_isWay m_next m_start m_token m_number m_letters m_isWrong m_sums m_steps m_chosen m_passed m_passedMany m_passedCost m_reach) sz)) 0 0 (va_A (wX7 Z Am m_thrown m_s m_saved m_savedMany m_aside m_sent m_text m_length m_way m_crossed m_wayCost m_isWay m_next m_start m_token m_number m_letters m_isWrong m_sums m_steps m_chosen m_passed m_passedMany m_passedCost m_reach) sz) := by
  refine zMet (own := RX7) (fun A => zQi Z res.1 (wX7 Z Am m_thrown m_s m_saved m_savedMany m_aside m_sent m_text m_length m_way m_crossed m_wayCost m_isWay m_next m_start m_token m_number m_letters m_isWrong m_sums m_steps m_chosen m_passed m_passedMany m_passedCost res.2) A) (by decide) rfl (Nat.le_of_ble_eq_true rfl) ?_
  intro p e s m args below meth c ls A E hw hl
  unfold fX7_idealSum at h
  refine r_iconst E 0 dX7_idealSum_0 (by decide) ?_
  refine r_istore_n E [(2, .int (0 : Int32)), (0, .ref (Am 0)), (1, .int v1)] hl dX7_idealSum_1 rfl (by decide) rfl (fun ls hl => ?_)
  refine r_iconst E 0 dX7_idealSum_2 (by decide) ?_
  refine r_istore_n E [(3, .int (0 : Int32)), (2, .int (0 : Int32)), (0, .ref (Am 0)), (1, .int v1)] hl dX7_idealSum_3 rfl (by decide) rfl (fun ls hl => ?_)
  obtain ⟨n13, h⟩ := wh_some h
  exact tX7_idealSum_4 E  n13 _ _ _ _ _ _ h hw (lv_sub hl [2, 3, 1, 0] rfl)
abbrev rmX7_worth : Room := { frames := 5, cells := 0, slots := 0, locals := 116 }

set_option maxRecDepth 100000 in
set_option maxHeartbeats 4000000 in
theorem mX7_worth (l : Launch) (Z : zT) (sz : Nat) (Am : Nat → Nat) (m_thrown : Int32) (m_s : (Nat → Int32)) (m_saved : (Nat → Int32)) (m_savedMany : Int32) (m_aside : (Nat → Int32)) (m_sent : (Nat → Int32)) (m_text : (Nat → Int32)) (m_length : Int32) (m_way : (Nat → Int32)) (m_crossed : Int32) (m_wayCost : Int32) (m_isWay : Int32) (m_next : Int32) (m_start : Int32) (m_token : Int32) (m_number : Int32) (m_letters : Int64) (m_isWrong : Int32) (m_sums : (Nat → Int32)) (m_steps : (Nat → Int32)) (m_chosen : Int32) (m_passed : (Nat → Int32)) (m_passedMany : Int32) (m_passedCost : Int32) (m_reach : (Nat → Int32)) (v1 : Int32) (v2 : Int32) {res : Int32 × Int32 × (Nat → Int32) × (Nat → Int32)} (h : fX7_worth v1 v2 m_s m_reach = some res) : Met l yX7_worth (Cond.code yX7_worth cX7_worth 7 (some .int) :: zWs) rmX7_worth (zP Z (wX7 Z Am m_thrown m_s m_saved m_savedMany m_aside m_sent m_text m_length m_way m_crossed m_wayCost m_isWay m_next m_start m_token m_number m_letters m_isWrong m_sums m_steps m_chosen m_passed m_passedMany m_passedCost m_reach) sz [.ref (Am 0), .int v1, .int v2]) (zQi Z res.1 (wX7 Z Am res.2.1 res.2.2.1 m_saved m_savedMany m_aside m_sent m_text m_length m_way m_crossed m_wayCost m_isWay m_next m_start m_token m_number m_letters m_isWrong m_sums m_steps m_chosen m_passed m_passedMany m_passedCost res.2.2.2) (va_A (wX7 Z Am m_thrown m_s m_saved m_savedMany m_aside m_sent m_text m_length m_way m_crossed m_wayCost m_isWay m_next m_start m_token m_number m_letters m_isWrong m_sums m_steps m_chosen m_passed m_passedMany m_passedCost m_reach) sz)) 0 0 (va_A (wX7 Z Am m_thrown m_s m_saved m_savedMany m_aside m_sent m_text m_length m_way m_crossed m_wayCost m_isWay m_next m_start m_token m_number m_letters m_isWrong m_sums m_steps m_chosen m_passed m_passedMany m_passedCost m_reach) sz) := by
  refine zMet (own := RX7) (fun A => zQi Z res.1 (wX7 Z Am res.2.1 res.2.2.1 m_saved m_savedMany m_aside m_sent m_text m_length m_way m_crossed m_wayCost m_isWay m_next m_start m_token m_number m_letters m_isWrong m_sums m_steps m_chosen m_passed m_passedMany m_passedCost res.2.2.2) A) (by decide) rfl (Nat.le_of_ble_eq_true rfl) ?_
  intro p e s m args below meth c ls A E hw hl
  unfold fX7_worth at h
  refine r_aload_n E hl 0 rfl dX7_worth_0 rfl ?_
  refine r_iconst E 0 dX7_worth_1 (by decide) ?_
  refine r_put E (wX7 Z Am (0 : Int32) m_s m_saved m_savedMany m_aside m_sent m_text m_length m_way m_crossed m_wayCost m_isWay m_next m_start m_token m_number m_letters m_isWrong m_sums m_steps m_chosen m_passed m_passedMany m_passedCost m_reach) kW_X7 tyX7_ok nmX7 hw 0 rfl rfl 0 (by decide) kF_X7_40 rfl rfl rfl (Nat.le_of_ble_eq_true rfl) rfl dX7_worth_2 (fun H locs hw => ?_)
  refine r_iload_n E hl 1 rfl dX7_worth_5 rfl ?_
  refine r_iload_n E hl 2 rfl dX7_worth_6 rfl ?_
  obtain ⟨y1, hy1, h⟩ := bd_some h
  refine r_callS0i E hw (mX7_areAreas l Z _ v1 v2 hy1) kL_X7_138 kT_X7_areAreas kN_X7 kC_X7_areAreas rfl rfl hdX7_areAreas ⟨Nat.le_of_ble_eq_true rfl, Nat.le_of_ble_eq_true rfl⟩ rfl hl [] rfl (Nat.le_of_ble_eq_true rfl) dX7_worth_7 ⟨Nat.zero_le _, Nat.zero_le _⟩ (fun H locs hw => ?_)
  refine r_if_ne E 15 dX7_worth_10 (by decide) (fun hc => ?_) (fun hc => ?_)
  · replace h := ite_f hc h
    refine r_bipush E 14 dX7_worth_15 (by decide) ?_
    refine r_iconst E 4 dX7_worth_17 (by decide) ?_
    refine r_iload_n E hl 1 rfl dX7_worth_18 rfl ?_
    refine r_imul E dX7_worth_19 ?_
    refine r_iadd E dX7_worth_20 ?_
    refine r_iload_n E hl 2 rfl dX7_worth_21 rfl ?_
    refine r_iadd E dX7_worth_22 ?_
    obtain ⟨w2, hw2, h⟩ := nm_out h
    refine r_nm hw2 ?_
    refine r_istore_n E [(3, .int w2), (0, .ref (Am 0)), (1, .int v1), (2, .int v2)] hl dX7_worth_23 rfl (by decide) rfl (fun ls hl => ?_)
    refine r_aload_n E hl 1 rfl dX7_worth_24 rfl ?_
    refine r_get E kW_X7 hw 0 rfl rfl 1 (by decide) kF_X7_7 rfl dX7_worth_25 ?_
    refine r_iload_n E hl 0 rfl dX7_worth_28 rfl ?_
    obtain ⟨hg3, h⟩ := gd_some h
    refine r_iald E hw 1 rfl hg3 dX7_worth_29 ?_
    obtain ⟨w4, hw4, h⟩ := nm_out h
    refine r_nm hw4 ?_
    refine r_istore E [(4, .int w4), (3, .int w2), (0, .ref (Am 0)), (1, .int v1), (2, .int v2)] hl dX7_worth_30 (by decide) rfl (fun ls hl => ?_)
    refine r_aload_n E hl 2 rfl dX7_worth_32 rfl ?_
    refine r_get E kW_X7 hw 0 rfl rfl 1 (by decide) kF_X7_7 rfl dX7_worth_33 ?_
    refine r_iload_n E hl 1 rfl dX7_worth_36 rfl ?_
    refine r_iconst E 0 dX7_worth_37 (by decide) ?_
    obtain ⟨hg5, h⟩ := gd_some h
    refine r_iast E (wX7 Z Am (0 : Int32) (upd m_s (w2).toNatClampNeg (0 : Int32)) m_saved m_savedMany m_aside m_sent m_text m_length m_way m_crossed m_wayCost m_isWay m_next m_start m_token m_number m_letters m_isWrong m_sums m_steps m_chosen m_passed m_passedMany m_passedCost m_reach) hw 1 rfl hg5 rfl dX7_worth_38 (fun H locs hw => ?_)
    refine r_aload_n E hl 2 rfl dX7_worth_39 rfl ?_
    refine r_iload_n E hl 4 rfl dX7_worth_40 rfl ?_
    obtain ⟨y6, hy6, h⟩ := bd_some h
    refine r_callVAi E hw (mX7_idealSum l Z _ Am (0 : Int32) (upd m_s (w2).toNatClampNeg (0 : Int32)) m_saved m_savedMany m_aside m_sent m_text m_length m_way m_crossed m_wayCost m_isWay m_next m_start m_token m_number m_letters m_isWrong m_sums m_steps m_chosen m_passed m_passedMany m_passedCost m_reach v2 hy6) kL_X7_297 kI_X7_idealSum kS_X7_idealSum kN_X7 kC_X7_idealSum rfl rfl hdX7_idealSum ⟨Nat.le_of_ble_eq_true rfl, Nat.le_of_ble_eq_true rfl⟩ 0 rfl rfl rfl rfl hl [] rfl (Nat.le_of_ble_eq_true rfl) dX7_worth_41 ⟨Nat.zero_le _, Nat.zero_le _⟩ (fun H locs hw => ?_)
    refine r_istore E [(5, .int y6.1), (4, .int w4), (3, .int w2), (0, .ref (Am 0)), (1, .int v1), (2, .int v2)] hl dX7_worth_44 (by decide) rfl (fun ls hl => ?_)
    refine r_aload_n E hl 3 rfl dX7_worth_46 rfl ?_
    refine r_get E kW_X7 hw 0 rfl rfl 1 (by decide) kF_X7_7 rfl dX7_worth_47 ?_
    refine r_iload_n E hl 2 rfl dX7_worth_50 rfl ?_
    refine r_iconst E 1 dX7_worth_51 (by decide) ?_
    obtain ⟨hg7, h⟩ := gd_some h
    refine r_iast E (wX7 Z Am (0 : Int32) (upd (upd m_s (w2).toNatClampNeg (0 : Int32)) (w2).toNatClampNeg (1 : Int32)) m_saved m_savedMany m_aside m_sent m_text m_length m_way m_crossed m_wayCost m_isWay m_next m_start m_token m_number m_letters m_isWrong m_sums m_steps m_chosen m_passed m_passedMany m_passedCost y6.2) hw 1 rfl hg7 rfl dX7_worth_52 (fun H locs hw => ?_)
    refine r_aload_n E hl 3 rfl dX7_worth_53 rfl ?_
    refine r_iload_n E hl 5 rfl dX7_worth_54 rfl ?_
    obtain ⟨y8, hy8, h⟩ := bd_some h
    refine r_callVAi E hw (mX7_idealSum l Z _ Am (0 : Int32) (upd (upd m_s (w2).toNatClampNeg (0 : Int32)) (w2).toNatClampNeg (1 : Int32)) m_saved m_savedMany m_aside m_sent m_text m_length m_way m_crossed m_wayCost m_isWay m_next m_start m_token m_number m_letters m_isWrong m_sums m_steps m_chosen m_passed m_passedMany m_passedCost y6.2 v2 hy8) kL_X7_297 kI_X7_idealSum kS_X7_idealSum kN_X7 kC_X7_idealSum rfl rfl hdX7_idealSum ⟨Nat.le_of_ble_eq_true rfl, Nat.le_of_ble_eq_true rfl⟩ 0 rfl rfl rfl rfl hl [] rfl (Nat.le_of_ble_eq_true rfl) dX7_worth_55 ⟨Nat.zero_le _, Nat.zero_le _⟩ (fun H locs hw => ?_)
    refine r_istore E [(6, .int y8.1), (5, .int y6.1), (4, .int w4), (3, .int w2), (0, .ref (Am 0)), (1, .int v1), (2, .int v2)] hl dX7_worth_58 (by decide) rfl (fun ls hl => ?_)
    refine r_aload_n E hl 4 rfl dX7_worth_60 rfl ?_
    refine r_get E kW_X7 hw 0 rfl rfl 1 (by decide) kF_X7_7 rfl dX7_worth_61 ?_
    refine r_iload_n E hl 3 rfl dX7_worth_64 rfl ?_
    refine r_iload E hl 2 rfl dX7_worth_65 ?_
    obtain ⟨hg9, h⟩ := gd_some h
    refine r_iast E (wX7 Z Am (0 : Int32) (upd (upd (upd m_s (w2).toNatClampNeg (0 : Int32)) (w2).toNatClampNeg (1 : Int32)) (w2).toNatClampNeg w4) m_saved m_savedMany m_aside m_sent m_text m_length m_way m_crossed m_wayCost m_isWay m_next m_start m_token m_number m_letters m_isWrong m_sums m_steps m_chosen m_passed m_passedMany m_passedCost y8.2) hw 1 rfl hg9 rfl dX7_worth_67 (fun H locs hw => ?_)
    refine r_iload E hl 1 rfl dX7_worth_68 ?_
    refine r_iload E hl 0 rfl dX7_worth_70 ?_
    refine r_isub E dX7_worth_72 ?_
    obtain rfl := Option.some.inj h
    exact r_iret E hw dX7_worth_73
  · replace h := ite_t hc h
    refine r_iconst E (-1) dX7_worth_13 (by decide) ?_
    obtain rfl := Option.some.inj h
    exact r_iret E hw dX7_worth_14
