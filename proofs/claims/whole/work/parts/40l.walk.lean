abbrev rmX6_isNode : Room := { frames := 0, cells := 0, slots := 0, locals := 0 }

set_option maxRecDepth 100000 in
set_option maxHeartbeats 4000000 in
theorem mX6_isNode (l : Launch) (Z : zT) (sz : Nat) (Ao : Nat) (Ah : Nat) (An : Nat → Nat) (Ac : Nat → Nat) (Ar : Nat → Nat) (Af : Nat → Nat) (Ag : Nat → Nat) (Ap : Nat → Nat) (At : Nat → Nat) (o_historySize : Int32) (o_wayIsKept : Int32) (n_nodes : Int32) (n_links : Int32) (n_tunnels : Int32) (n_messages : Int32) (n_areas : (Nat → Int32)) (n_firsts : (Nat → Int32)) (n_seconds : (Nat → Int32)) (n_privates : (Nat → Int32)) (n_entries : (Nat → Int32)) (n_exits : (Nat → Int32)) (n_truth : (Nat → Int32)) (n_facts : (Nat → Int32)) (n_news : (Nat → Int64)) (v1 : Int32) {res : Int32} (h : fX6_isNode v1 n_nodes = some res) : Met l yX6_isNode (Cond.code yX6_isNode cX6_isNode 2 (some .boolean) :: zWs) rmX6_isNode (zP Z ((wX6 Z Ao Ah An Ac Ar Af Ag Ap At o_historySize o_wayIsKept ++ wX3 Z An n_nodes n_links n_tunnels n_messages n_areas n_firsts n_seconds n_privates n_entries n_exits n_truth n_facts n_news)) sz [.ref Ao, .int v1]) (zQi Z res ((wX6 Z Ao Ah An Ac Ar Af Ag Ap At o_historySize o_wayIsKept ++ wX3 Z An n_nodes n_links n_tunnels n_messages n_areas n_firsts n_seconds n_privates n_entries n_exits n_truth n_facts n_news)) (va_A ((wX6 Z Ao Ah An Ac Ar Af Ag Ap At o_historySize o_wayIsKept ++ wX3 Z An n_nodes n_links n_tunnels n_messages n_areas n_firsts n_seconds n_privates n_entries n_exits n_truth n_facts n_news)) sz)) 0 0 (va_A ((wX6 Z Ao Ah An Ac Ar Af Ag Ap At o_historySize o_wayIsKept ++ wX3 Z An n_nodes n_links n_tunnels n_messages n_areas n_firsts n_seconds n_privates n_entries n_exits n_truth n_facts n_news)) sz) := by
  refine zMet (own := RX6) (fun A => zQi Z res ((wX6 Z Ao Ah An Ac Ar Af Ag Ap At o_historySize o_wayIsKept ++ wX3 Z An n_nodes n_links n_tunnels n_messages n_areas n_firsts n_seconds n_privates n_entries n_exits n_truth n_facts n_news)) A) (by decide) rfl (Nat.le_of_ble_eq_true rfl) ?_
  intro p e s m args below meth c ls A E hw hl
  unfold fX6_isNode at h
  refine r_iload_n E hl 1 rfl dX6_isNode_0 rfl ?_
  refine r_if_lt E 19 dX6_isNode_1 (by decide) (fun hc => ?_) (fun hc => ?_)
  · replace h := ite_t hc h
    refine r_iconst E 0 dX6_isNode_19 (by decide) ?_
    obtain rfl := Option.some.inj h
    exact r_zret E bz_0 hw dX6_isNode_20
  · replace h := ite_f hc h
    refine r_iload_n E hl 1 rfl dX6_isNode_4 rfl ?_
    refine r_aload_n E hl 0 rfl dX6_isNode_5 rfl ?_
    refine r_get E kW_X6 hw 0 rfl rfl 0 (by decide) kF_X6_12 rfl dX6_isNode_6 ?_
    refine r_get E kW_X3 hw 1 rfl rfl 0 (by decide) kF_X6_66 rfl dX6_isNode_9 ?_
    refine r_icmp_ge E 19 dX6_isNode_12 (by decide) (fun hc => ?_) (fun hc => ?_)
    · replace h := ite_t hc h
      refine r_iconst E 0 dX6_isNode_19 (by decide) ?_
      obtain rfl := Option.some.inj h
      exact r_zret E bz_0 hw dX6_isNode_20
    · replace h := ite_f hc h
      refine r_iconst E 1 dX6_isNode_15 (by decide) ?_
      refine r_goto E 20 dX6_isNode_16 (by decide) ?_
      obtain rfl := Option.some.inj h
      exact r_zret E bz_1 hw dX6_isNode_20
abbrev rmX6_isPair : Room := { frames := 1, cells := 0, slots := 0, locals := 21 }

set_option maxRecDepth 100000 in
set_option maxHeartbeats 4000000 in
theorem mX6_isPair (l : Launch) (Z : zT) (sz : Nat) (Ao : Nat) (Ah : Nat) (An : Nat → Nat) (Ac : Nat → Nat) (Ar : Nat → Nat) (Af : Nat → Nat) (Ag : Nat → Nat) (Ap : Nat → Nat) (At : Nat → Nat) (o_historySize : Int32) (o_wayIsKept : Int32) (n_nodes : Int32) (n_links : Int32) (n_tunnels : Int32) (n_messages : Int32) (n_areas : (Nat → Int32)) (n_firsts : (Nat → Int32)) (n_seconds : (Nat → Int32)) (n_privates : (Nat → Int32)) (n_entries : (Nat → Int32)) (n_exits : (Nat → Int32)) (n_truth : (Nat → Int32)) (n_facts : (Nat → Int32)) (n_news : (Nat → Int64)) (v1 : Int32) (v2 : Int32) {res : Int32} (h : fX6_isPair v1 v2 n_nodes = some res) : Met l yX6_isPair (Cond.code yX6_isPair cX6_isPair 3 (some .boolean) :: zWs) rmX6_isPair (zP Z ((wX6 Z Ao Ah An Ac Ar Af Ag Ap At o_historySize o_wayIsKept ++ wX3 Z An n_nodes n_links n_tunnels n_messages n_areas n_firsts n_seconds n_privates n_entries n_exits n_truth n_facts n_news)) sz [.ref Ao, .int v1, .int v2]) (zQi Z res ((wX6 Z Ao Ah An Ac Ar Af Ag Ap At o_historySize o_wayIsKept ++ wX3 Z An n_nodes n_links n_tunnels n_messages n_areas n_firsts n_seconds n_privates n_entries n_exits n_truth n_facts n_news)) (va_A ((wX6 Z Ao Ah An Ac Ar Af Ag Ap At o_historySize o_wayIsKept ++ wX3 Z An n_nodes n_links n_tunnels n_messages n_areas n_firsts n_seconds n_privates n_entries n_exits n_truth n_facts n_news)) sz)) 0 0 (va_A ((wX6 Z Ao Ah An Ac Ar Af Ag Ap At o_historySize o_wayIsKept ++ wX3 Z An n_nodes n_links n_tunnels n_messages n_areas n_firsts n_seconds n_privates n_entries n_exits n_truth n_facts n_news)) sz) := by
  refine zMet (own := RX6) (fun A => zQi Z res ((wX6 Z Ao Ah An Ac Ar Af Ag Ap At o_historySize o_wayIsKept ++ wX3 Z An n_nodes n_links n_tunnels n_messages n_areas n_firsts n_seconds n_privates n_entries n_exits n_truth n_facts n_news)) A) (by decide) rfl (Nat.le_of_ble_eq_true rfl) ?_
  intro p e s m args below meth c ls A E hw hl
  unfold fX6_isPair at h
  refine r_aload_n E hl 0 rfl dX6_isPair_0 rfl ?_
  refine r_iload_n E hl 1 rfl dX6_isPair_1 rfl ?_
  obtain ⟨y1, hy1, h⟩ := bd_some h
  refine r_callVAi E hw (mX6_isNode l Z _ Ao Ah An Ac Ar Af Ag Ap At o_historySize o_wayIsKept n_nodes n_links n_tunnels n_messages n_areas n_firsts n_seconds n_privates n_entries n_exits n_truth n_facts n_news v1 hy1) kL_X6_165 kI_X6_isNode kS_X6_isNode kN_X6 kC_X6_isNode rfl rfl hdX6_isNode ⟨Nat.le_of_ble_eq_true rfl, Nat.le_of_ble_eq_true rfl⟩ 0 rfl rfl rfl rfl hl [] rfl (Nat.le_of_ble_eq_true rfl) dX6_isPair_2 ⟨Nat.zero_le _, Nat.zero_le _⟩ (fun H locs hw => ?_)
  refine r_if_eq E 25 dX6_isPair_5 (by decide) (fun hc => ?_) (fun hc => ?_)
  · replace h := ite_t hc h
    refine r_iconst E 0 dX6_isPair_25 (by decide) ?_
    obtain rfl := Option.some.inj h
    exact r_zret E bz_0 hw dX6_isPair_26
  · replace h := ite_f hc h
    refine r_aload_n E hl 0 rfl dX6_isPair_8 rfl ?_
    refine r_iload_n E hl 2 rfl dX6_isPair_9 rfl ?_
    obtain ⟨y2, hy2, h⟩ := bd_some h
    refine r_callVAi E hw (mX6_isNode l Z _ Ao Ah An Ac Ar Af Ag Ap At o_historySize o_wayIsKept n_nodes n_links n_tunnels n_messages n_areas n_firsts n_seconds n_privates n_entries n_exits n_truth n_facts n_news v2 hy2) kL_X6_165 kI_X6_isNode kS_X6_isNode kN_X6 kC_X6_isNode rfl rfl hdX6_isNode ⟨Nat.le_of_ble_eq_true rfl, Nat.le_of_ble_eq_true rfl⟩ 0 rfl rfl rfl rfl hl [] rfl (Nat.le_of_ble_eq_true rfl) dX6_isPair_10 ⟨Nat.zero_le _, Nat.zero_le _⟩ (fun H locs hw => ?_)
    refine r_if_eq E 25 dX6_isPair_13 (by decide) (fun hc => ?_) (fun hc => ?_)
    · replace h := ite_t hc h
      refine r_iconst E 0 dX6_isPair_25 (by decide) ?_
      obtain rfl := Option.some.inj h
      exact r_zret E bz_0 hw dX6_isPair_26
    · replace h := ite_f hc h
      refine r_iload_n E hl 1 rfl dX6_isPair_16 rfl ?_
      refine r_iload_n E hl 2 rfl dX6_isPair_17 rfl ?_
      refine r_icmp_eq E 25 dX6_isPair_18 (by decide) (fun hc => ?_) (fun hc => ?_)
      · replace h := ite_t hc h
        refine r_iconst E 0 dX6_isPair_25 (by decide) ?_
        obtain rfl := Option.some.inj h
        exact r_zret E bz_0 hw dX6_isPair_26
      · replace h := ite_f hc h
        refine r_iconst E 1 dX6_isPair_21 (by decide) ?_
        refine r_goto E 26 dX6_isPair_22 (by decide) ?_
        obtain rfl := Option.some.inj h
        exact r_zret E bz_1 hw dX6_isPair_26
abbrev rmX6_isLink : Room := { frames := 0, cells := 0, slots := 0, locals := 0 }

set_option maxRecDepth 100000 in
set_option maxHeartbeats 4000000 in
theorem mX6_isLink (l : Launch) (Z : zT) (sz : Nat) (Ao : Nat) (Ah : Nat) (An : Nat → Nat) (Ac : Nat → Nat) (Ar : Nat → Nat) (Af : Nat → Nat) (Ag : Nat → Nat) (Ap : Nat → Nat) (At : Nat → Nat) (o_historySize : Int32) (o_wayIsKept : Int32) (n_nodes : Int32) (n_links : Int32) (n_tunnels : Int32) (n_messages : Int32) (n_areas : (Nat → Int32)) (n_firsts : (Nat → Int32)) (n_seconds : (Nat → Int32)) (n_privates : (Nat → Int32)) (n_entries : (Nat → Int32)) (n_exits : (Nat → Int32)) (n_truth : (Nat → Int32)) (n_facts : (Nat → Int32)) (n_news : (Nat → Int64)) (v1 : Int32) {res : Int32} (h : fX6_isLink v1 n_links = some res) : Met l yX6_isLink (Cond.code yX6_isLink cX6_isLink 2 (some .boolean) :: zWs) rmX6_isLink (zP Z ((wX6 Z Ao Ah An Ac Ar Af Ag Ap At o_historySize o_wayIsKept ++ wX3 Z An n_nodes n_links n_tunnels n_messages n_areas n_firsts n_seconds n_privates n_entries n_exits n_truth n_facts n_news)) sz [.ref Ao, .int v1]) (zQi Z res ((wX6 Z Ao Ah An Ac Ar Af Ag Ap At o_historySize o_wayIsKept ++ wX3 Z An n_nodes n_links n_tunnels n_messages n_areas n_firsts n_seconds n_privates n_entries n_exits n_truth n_facts n_news)) (va_A ((wX6 Z Ao Ah An Ac Ar Af Ag Ap At o_historySize o_wayIsKept ++ wX3 Z An n_nodes n_links n_tunnels n_messages n_areas n_firsts n_seconds n_privates n_entries n_exits n_truth n_facts n_news)) sz)) 0 0 (va_A ((wX6 Z Ao Ah An Ac Ar Af Ag Ap At o_historySize o_wayIsKept ++ wX3 Z An n_nodes n_links n_tunnels n_messages n_areas n_firsts n_seconds n_privates n_entries n_exits n_truth n_facts n_news)) sz) := by
  refine zMet (own := RX6) (fun A => zQi Z res ((wX6 Z Ao Ah An Ac Ar Af Ag Ap At o_historySize o_wayIsKept ++ wX3 Z An n_nodes n_links n_tunnels n_messages n_areas n_firsts n_seconds n_privates n_entries n_exits n_truth n_facts n_news)) A) (by decide) rfl (Nat.le_of_ble_eq_true rfl) ?_
  intro p e s m args below meth c ls A E hw hl
  unfold fX6_isLink at h
  refine r_iload_n E hl 1 rfl dX6_isLink_0 rfl ?_
  refine r_if_lt E 19 dX6_isLink_1 (by decide) (fun hc => ?_) (fun hc => ?_)
  · replace h := ite_t hc h
    refine r_iconst E 0 dX6_isLink_19 (by decide) ?_
    obtain rfl := Option.some.inj h
    exact r_zret E bz_0 hw dX6_isLink_20
  · replace h := ite_f hc h
    refine r_iload_n E hl 1 rfl dX6_isLink_4 rfl ?_
    refine r_aload_n E hl 0 rfl dX6_isLink_5 rfl ?_
    refine r_get E kW_X6 hw 0 rfl rfl 0 (by decide) kF_X6_12 rfl dX6_isLink_6 ?_
    refine r_get E kW_X3 hw 1 rfl rfl 1 (by decide) kF_X6_86 rfl dX6_isLink_9 ?_
    refine r_icmp_ge E 19 dX6_isLink_12 (by decide) (fun hc => ?_) (fun hc => ?_)
    · replace h := ite_t hc h
      refine r_iconst E 0 dX6_isLink_19 (by decide) ?_
      obtain rfl := Option.some.inj h
      exact r_zret E bz_0 hw dX6_isLink_20
    · replace h := ite_f hc h
      refine r_iconst E 1 dX6_isLink_15 (by decide) ?_
      refine r_goto E 20 dX6_isLink_16 (by decide) ?_
      obtain rfl := Option.some.inj h
      exact r_zret E bz_1 hw dX6_isLink_20
abbrev rmX6_isTunnel : Room := { frames := 0, cells := 0, slots := 0, locals := 0 }

set_option maxRecDepth 100000 in
set_option maxHeartbeats 4000000 in
theorem mX6_isTunnel (l : Launch) (Z : zT) (sz : Nat) (Ao : Nat) (Ah : Nat) (An : Nat → Nat) (Ac : Nat → Nat) (Ar : Nat → Nat) (Af : Nat → Nat) (Ag : Nat → Nat) (Ap : Nat → Nat) (At : Nat → Nat) (o_historySize : Int32) (o_wayIsKept : Int32) (n_nodes : Int32) (n_links : Int32) (n_tunnels : Int32) (n_messages : Int32) (n_areas : (Nat → Int32)) (n_firsts : (Nat → Int32)) (n_seconds : (Nat → Int32)) (n_privates : (Nat → Int32)) (n_entries : (Nat → Int32)) (n_exits : (Nat → Int32)) (n_truth : (Nat → Int32)) (n_facts : (Nat → Int32)) (n_news : (Nat → Int64)) (v1 : Int32) {res : Int32} (h : fX6_isTunnel v1 n_tunnels = some res) : Met l yX6_isTunnel (Cond.code yX6_isTunnel cX6_isTunnel 2 (some .boolean) :: zWs) rmX6_isTunnel (zP Z ((wX6 Z Ao Ah An Ac Ar Af Ag Ap At o_historySize o_wayIsKept ++ wX3 Z An n_nodes n_links n_tunnels n_messages n_areas n_firsts n_seconds n_privates n_entries n_exits n_truth n_facts n_news)) sz [.ref Ao, .int v1]) (zQi Z res ((wX6 Z Ao Ah An Ac Ar Af Ag Ap At o_historySize o_wayIsKept ++ wX3 Z An n_nodes n_links n_tunnels n_messages n_areas n_firsts n_seconds n_privates n_entries n_exits n_truth n_facts n_news)) (va_A ((wX6 Z Ao Ah An Ac Ar Af Ag Ap At o_historySize o_wayIsKept ++ wX3 Z An n_nodes n_links n_tunnels n_messages n_areas n_firsts n_seconds n_privates n_entries n_exits n_truth n_facts n_news)) sz)) 0 0 (va_A ((wX6 Z Ao Ah An Ac Ar Af Ag Ap At o_historySize o_wayIsKept ++ wX3 Z An n_nodes n_links n_tunnels n_messages n_areas n_firsts n_seconds n_privates n_entries n_exits n_truth n_facts n_news)) sz) := by
  refine zMet (own := RX6) (fun A => zQi Z res ((wX6 Z Ao Ah An Ac Ar Af Ag Ap At o_historySize o_wayIsKept ++ wX3 Z An n_nodes n_links n_tunnels n_messages n_areas n_firsts n_seconds n_privates n_entries n_exits n_truth n_facts n_news)) A) (by decide) rfl (Nat.le_of_ble_eq_true rfl) ?_
  intro p e s m args below meth c ls A E hw hl
  unfold fX6_isTunnel at h
  refine r_iload_n E hl 1 rfl dX6_isTunnel_0 rfl ?_
  refine r_if_lt E 19 dX6_isTunnel_1 (by decide) (fun hc => ?_) (fun hc => ?_)
  · replace h := ite_t hc h
    refine r_iconst E 0 dX6_isTunnel_19 (by decide) ?_
    obtain rfl := Option.some.inj h
    exact r_zret E bz_0 hw dX6_isTunnel_20
  · replace h := ite_f hc h
    refine r_iload_n E hl 1 rfl dX6_isTunnel_4 rfl ?_
    refine r_aload_n E hl 0 rfl dX6_isTunnel_5 rfl ?_
    refine r_get E kW_X6 hw 0 rfl rfl 0 (by decide) kF_X6_12 rfl dX6_isTunnel_6 ?_
    refine r_get E kW_X3 hw 1 rfl rfl 2 (by decide) kF_X6_122 rfl dX6_isTunnel_9 ?_
    refine r_icmp_ge E 19 dX6_isTunnel_12 (by decide) (fun hc => ?_) (fun hc => ?_)
    · replace h := ite_t hc h
      refine r_iconst E 0 dX6_isTunnel_19 (by decide) ?_
      obtain rfl := Option.some.inj h
      exact r_zret E bz_0 hw dX6_isTunnel_20
    · replace h := ite_f hc h
      refine r_iconst E 1 dX6_isTunnel_15 (by decide) ?_
      refine r_goto E 20 dX6_isTunnel_16 (by decide) ?_
      obtain rfl := Option.some.inj h
      exact r_zret E bz_1 hw dX6_isTunnel_20
abbrev rmX6_isItem : Room := { frames := 1, cells := 0, slots := 0, locals := 21 }

set_option maxRecDepth 100000 in
set_option maxHeartbeats 4000000 in
theorem mX6_isItem (l : Launch) (Z : zT) (sz : Nat) (Ao : Nat) (Ah : Nat) (An : Nat → Nat) (Ac : Nat → Nat) (Ar : Nat → Nat) (Af : Nat → Nat) (Ag : Nat → Nat) (Ap : Nat → Nat) (At : Nat → Nat) (o_historySize : Int32) (o_wayIsKept : Int32) (n_nodes : Int32) (n_links : Int32) (n_tunnels : Int32) (n_messages : Int32) (n_areas : (Nat → Int32)) (n_firsts : (Nat → Int32)) (n_seconds : (Nat → Int32)) (n_privates : (Nat → Int32)) (n_entries : (Nat → Int32)) (n_exits : (Nat → Int32)) (n_truth : (Nat → Int32)) (n_facts : (Nat → Int32)) (n_news : (Nat → Int64)) (v1 : Int32) {res : Int32} (h : fX6_isItem v1 n_links n_tunnels = some res) : Met l yX6_isItem (Cond.code yX6_isItem cX6_isItem 2 (some .boolean) :: zWs) rmX6_isItem (zP Z ((wX6 Z Ao Ah An Ac Ar Af Ag Ap At o_historySize o_wayIsKept ++ wX3 Z An n_nodes n_links n_tunnels n_messages n_areas n_firsts n_seconds n_privates n_entries n_exits n_truth n_facts n_news)) sz [.ref Ao, .int v1]) (zQi Z res ((wX6 Z Ao Ah An Ac Ar Af Ag Ap At o_historySize o_wayIsKept ++ wX3 Z An n_nodes n_links n_tunnels n_messages n_areas n_firsts n_seconds n_privates n_entries n_exits n_truth n_facts n_news)) (va_A ((wX6 Z Ao Ah An Ac Ar Af Ag Ap At o_historySize o_wayIsKept ++ wX3 Z An n_nodes n_links n_tunnels n_messages n_areas n_firsts n_seconds n_privates n_entries n_exits n_truth n_facts n_news)) sz)) 0 0 (va_A ((wX6 Z Ao Ah An Ac Ar Af Ag Ap At o_historySize o_wayIsKept ++ wX3 Z An n_nodes n_links n_tunnels n_messages n_areas n_firsts n_seconds n_privates n_entries n_exits n_truth n_facts n_news)) sz) := by
  refine zMet (own := RX6) (fun A => zQi Z res ((wX6 Z Ao Ah An Ac Ar Af Ag Ap At o_historySize o_wayIsKept ++ wX3 Z An n_nodes n_links n_tunnels n_messages n_areas n_firsts n_seconds n_privates n_entries n_exits n_truth n_facts n_news)) A) (by decide) rfl (Nat.le_of_ble_eq_true rfl) ?_
  intro p e s m args below meth c ls A E hw hl
  unfold fX6_isItem at h
  refine r_iload_n E hl 1 rfl dX6_isItem_0 rfl ?_
  refine r_if_ge E 6 dX6_isItem_1 (by decide) (fun hc => ?_) (fun hc => ?_)
  · replace h := ite_t hc h
    refine r_iload_n E hl 1 rfl dX6_isItem_6 rfl ?_
    refine r_bipush E 16 dX6_isItem_7 (by decide) ?_
    refine r_icmp_ge E 29 dX6_isItem_9 (by decide) (fun hc => ?_) (fun hc => ?_)
    · replace h := ite_t hc h
      refine r_iload_n E hl 1 rfl dX6_isItem_29 rfl ?_
      refine r_bipush E 32 dX6_isItem_30 (by decide) ?_
      refine r_icmp_ge E 46 dX6_isItem_32 (by decide) (fun hc => ?_) (fun hc => ?_)
      · replace h := ite_t hc h
        refine r_aload_n E hl 0 rfl dX6_isItem_46 rfl ?_
        refine r_iload_n E hl 1 rfl dX6_isItem_47 rfl ?_
        refine r_bipush E 32 dX6_isItem_48 (by decide) ?_
        refine r_isub E dX6_isItem_50 ?_
        obtain ⟨y1, hy1, h⟩ := bd_some h
        refine r_callVAi E hw (mX6_isTunnel l Z _ Ao Ah An Ac Ar Af Ag Ap At o_historySize o_wayIsKept n_nodes n_links n_tunnels n_messages n_areas n_firsts n_seconds n_privates n_entries n_exits n_truth n_facts n_news (v1 - (32 : Int32)) hy1) kL_X6_128 kI_X6_isTunnel kS_X6_isTunnel kN_X6 kC_X6_isTunnel rfl rfl hdX6_isTunnel ⟨Nat.le_of_ble_eq_true rfl, Nat.le_of_ble_eq_true rfl⟩ 0 rfl rfl rfl rfl hl [] rfl (Nat.le_of_ble_eq_true rfl) dX6_isItem_51 ⟨Nat.zero_le _, Nat.zero_le _⟩ (fun H locs hw => ?_)
        obtain ⟨hz, h⟩ := gd_some h
        obtain rfl := Option.some.inj h
        exact r_zret E hz hw dX6_isItem_54
      · replace h := ite_f hc h
        refine r_aload_n E hl 0 rfl dX6_isItem_35 rfl ?_
        refine r_iload_n E hl 1 rfl dX6_isItem_36 rfl ?_
        refine r_bipush E 16 dX6_isItem_37 (by decide) ?_
        refine r_isub E dX6_isItem_39 ?_
        obtain ⟨y2, hy2, h⟩ := bd_some h
        refine r_callVAi E hw (mX6_isLink l Z _ Ao Ah An Ac Ar Af Ag Ap At o_historySize o_wayIsKept n_nodes n_links n_tunnels n_messages n_areas n_firsts n_seconds n_privates n_entries n_exits n_truth n_facts n_news (v1 - (16 : Int32)) hy2) kL_X6_93 kI_X6_isLink kS_X6_isLink kN_X6 kC_X6_isLink rfl rfl hdX6_isLink ⟨Nat.le_of_ble_eq_true rfl, Nat.le_of_ble_eq_true rfl⟩ 0 rfl rfl rfl rfl hl [] rfl (Nat.le_of_ble_eq_true rfl) dX6_isItem_40 ⟨Nat.zero_le _, Nat.zero_le _⟩ (fun H locs hw => ?_)
        refine r_goto E 54 dX6_isItem_43 (by decide) ?_
        obtain ⟨hz, h⟩ := gd_some h
        obtain rfl := Option.some.inj h
        exact r_zret E hz hw dX6_isItem_54
    · replace h := ite_f hc h
      refine r_iload_n E hl 1 rfl dX6_isItem_12 rfl ?_
      obtain ⟨y3, hy3, h⟩ := bd_some h
      refine r_callS0i E hw (mX6_grantOwner l Z _ v1 hy3) kL_X6_266 kT_X6_grantOwner kN_X6 kC_X6_grantOwner rfl rfl hdX6_grantOwner ⟨Nat.le_of_ble_eq_true rfl, Nat.le_of_ble_eq_true rfl⟩ rfl hl [] rfl (Nat.le_of_ble_eq_true rfl) dX6_isItem_13 ⟨Nat.zero_le _, Nat.zero_le _⟩ (fun H locs hw => ?_)
      refine r_iload_n E hl 1 rfl dX6_isItem_16 rfl ?_
      obtain ⟨y4, hy4, h⟩ := bd_some h
      refine r_callS0i E hw (mX6_grantArea l Z _ v1 hy4) kL_X6_269 kT_X6_grantArea kN_X6 kC_X6_grantArea rfl rfl hdX6_grantArea ⟨Nat.le_of_ble_eq_true rfl, Nat.le_of_ble_eq_true rfl⟩ rfl hl [.int y3] rfl (Nat.le_of_ble_eq_true rfl) dX6_isItem_17 ⟨Nat.zero_le _, Nat.zero_le _⟩ (fun H locs hw => ?_)
      refine r_icmp_eq E 27 dX6_isItem_20 (by decide) (fun hc => ?_) (fun hc => ?_)
      · replace h := ite_t hc h
        refine r_iconst E 0 dX6_isItem_27 (by decide) ?_
        obtain rfl := Option.some.inj h
        exact r_zret E bz_0 hw dX6_isItem_28
      · replace h := ite_f hc h
        refine r_iconst E 1 dX6_isItem_23 (by decide) ?_
        refine r_goto E 28 dX6_isItem_24 (by decide) ?_
        obtain rfl := Option.some.inj h
        exact r_zret E bz_1 hw dX6_isItem_28
  · replace h := ite_f hc h
    refine r_iconst E 0 dX6_isItem_4 (by decide) ?_
    obtain rfl := Option.some.inj h
    exact r_zret E bz_0 hw dX6_isItem_5
abbrev rmX6_append : Room := { frames := 0, cells := 0, slots := 0, locals := 0 }

set_option maxRecDepth 100000 in
set_option maxHeartbeats 4000000 in
theorem mX6_append (l : Launch) (Z : zT) (sz : Nat) (Ao : Nat) (Ah : Nat) (An : Nat → Nat) (Ac : Nat → Nat) (Ar : Nat → Nat) (Af : Nat → Nat) (Ag : Nat → Nat) (Ap : Nat → Nat) (At : Nat → Nat) (o_historySize : Int32) (o_wayIsKept : Int32) (r_text : (Nat → Int32)) (r_length : Int32) (r_start : Int32) (r_end : Int32) (r_kind : Int32) (r_error : Int32) (r_thing : Int32) (r_first : Int32) (r_second : Int32) (r_cost : Int32) (v1 : Int32) {res : Int32 × (Nat → Int32) × Int32} (h : fX6_append v1 r_text r_length = some res) : Met l yX6_append (Cond.code yX6_append cX6_append 2 (some .int) :: zWs) rmX6_append (zP Z ((wX6 Z Ao Ah An Ac Ar Af Ag Ap At o_historySize o_wayIsKept ++ wX5 Z Ar r_text r_length r_start r_end r_kind r_error r_thing r_first r_second r_cost)) sz [.ref Ao, .int v1]) (zQi Z res.1 ((wX6 Z Ao Ah An Ac Ar Af Ag Ap At o_historySize o_wayIsKept ++ wX5 Z Ar res.2.1 res.2.2 r_start r_end r_kind r_error r_thing r_first r_second r_cost)) (va_A ((wX6 Z Ao Ah An Ac Ar Af Ag Ap At o_historySize o_wayIsKept ++ wX5 Z Ar r_text r_length r_start r_end r_kind r_error r_thing r_first r_second r_cost)) sz)) 0 0 (va_A ((wX6 Z Ao Ah An Ac Ar Af Ag Ap At o_historySize o_wayIsKept ++ wX5 Z Ar r_text r_length r_start r_end r_kind r_error r_thing r_first r_second r_cost)) sz) := by
  refine zMet (own := RX6) (fun A => zQi Z res.1 ((wX6 Z Ao Ah An Ac Ar Af Ag Ap At o_historySize o_wayIsKept ++ wX5 Z Ar res.2.1 res.2.2 r_start r_end r_kind r_error r_thing r_first r_second r_cost)) A) (by decide) rfl (Nat.le_of_ble_eq_true rfl) ?_
  intro p e s m args below meth c ls A E hw hl
  unfold fX6_append at h
  refine r_iload_n E hl 1 rfl dX6_append_0 rfl ?_
  refine r_iconst E 1 dX6_append_1 (by decide) ?_
  refine r_icmp_lt E 12 dX6_append_2 (by decide) (fun hc => ?_) (fun hc => ?_)
  · replace h := ite_t hc h
    refine r_iconst E (-1) dX6_append_12 (by decide) ?_
    obtain rfl := Option.some.inj h
    exact r_iret E hw dX6_append_13
  · replace h := ite_f hc h
    refine r_iload_n E hl 1 rfl dX6_append_5 rfl ?_
    refine r_sipush E 255 dX6_append_6 (by decide) ?_
    refine r_icmp_le E 14 dX6_append_9 (by decide) (fun hc => ?_) (fun hc => ?_)
    · replace h := ite_t hc h
      refine r_aload_n E hl 0 rfl dX6_append_14 rfl ?_
      refine r_get E kW_X6 hw 0 rfl rfl 4 (by decide) kF_X6_30 rfl dX6_append_15 ?_
      refine r_get E kW_X5 hw 1 rfl rfl 1 (by decide) kF_X6_134 rfl dX6_append_18 ?_
      refine r_bipush E 120 dX6_append_21 (by decide) ?_
      refine r_icmp_lt E 29 dX6_append_23 (by decide) (fun hc => ?_) (fun hc => ?_)
      · replace h := ite_t hc h
        refine r_aload_n E hl 0 rfl dX6_append_29 rfl ?_
        refine r_get E kW_X6 hw 0 rfl rfl 4 (by decide) kF_X6_30 rfl dX6_append_30 ?_
        refine r_get E kW_X5 hw 1 rfl rfl 0 (by decide) kF_X6_137 rfl dX6_append_33 ?_
        refine r_aload_n E hl 0 rfl dX6_append_36 rfl ?_
        refine r_get E kW_X6 hw 0 rfl rfl 4 (by decide) kF_X6_30 rfl dX6_append_37 ?_
        refine r_get E kW_X5 hw 1 rfl rfl 1 (by decide) kF_X6_134 rfl dX6_append_40 ?_
        refine r_iload_n E hl 1 rfl dX6_append_43 rfl ?_
        refine r_i2c E dX6_append_44 ?_
        obtain ⟨hg1, h⟩ := gd_some h
        refine r_cast E ((wX6 Z Ao Ah An Ac Ar Af Ag Ap At o_historySize o_wayIsKept ++ wX5 Z Ar (upd r_text (r_length).toNatClampNeg (vp_nar .char (((v1).toUInt32 % 65536).toInt32))) r_length r_start r_end r_kind r_error r_thing r_first r_second r_cost)) hw 2 rfl hg1 rfl dX6_append_45 (fun H locs hw => ?_)
        refine r_aload_n E hl 0 rfl dX6_append_46 rfl ?_
        refine r_get E kW_X6 hw 0 rfl rfl 4 (by decide) kF_X6_30 rfl dX6_append_47 ?_
        refine r_dup E dX6_append_50 rfl ?_
        refine r_get E kW_X5 hw 1 rfl rfl 1 (by decide) kF_X6_134 rfl dX6_append_51 ?_
        refine r_iconst E 1 dX6_append_54 (by decide) ?_
        refine r_iadd E dX6_append_55 ?_
        refine r_put E ((wX6 Z Ao Ah An Ac Ar Af Ag Ap At o_historySize o_wayIsKept ++ wX5 Z Ar (upd r_text (r_length).toNatClampNeg (vp_nar .char (((v1).toUInt32 % 65536).toInt32))) (r_length + (1 : Int32)) r_start r_end r_kind r_error r_thing r_first r_second r_cost)) kW_X5 tyX5_ok nmX5 hw 1 rfl rfl 1 (by decide) kF_X6_134 rfl rfl rfl (Nat.le_of_ble_eq_true rfl) rfl dX6_append_56 (fun H locs hw => ?_)
        refine r_aload_n E hl 0 rfl dX6_append_59 rfl ?_
        refine r_get E kW_X6 hw 0 rfl rfl 4 (by decide) kF_X6_30 rfl dX6_append_60 ?_
        refine r_get E kW_X5 hw 1 rfl rfl 1 (by decide) kF_X6_134 rfl dX6_append_63 ?_
        obtain rfl := Option.some.inj h
        exact r_iret E hw dX6_append_66
      · replace h := ite_f hc h
        refine r_bipush E (-3) dX6_append_26 (by decide) ?_
        obtain rfl := Option.some.inj h
        exact r_iret E hw dX6_append_28
    · replace h := ite_f hc h
      refine r_iconst E (-1) dX6_append_12 (by decide) ?_
      obtain rfl := Option.some.inj h
      exact r_iret E hw dX6_append_13
abbrev rmX6_clearText : Room := { frames := 0, cells := 0, slots := 0, locals := 0 }

set_option maxRecDepth 100000 in
set_option maxHeartbeats 4000000 in
theorem mX6_clearText (l : Launch) (Z : zT) (sz : Nat) (Ao : Nat) (Ah : Nat) (An : Nat → Nat) (Ac : Nat → Nat) (Ar : Nat → Nat) (Af : Nat → Nat) (Ag : Nat → Nat) (Ap : Nat → Nat) (At : Nat → Nat) (o_historySize : Int32) (o_wayIsKept : Int32) (r_text : (Nat → Int32)) (r_length : Int32) (r_start : Int32) (r_end : Int32) (r_kind : Int32) (r_error : Int32) (r_thing : Int32) (r_first : Int32) (r_second : Int32) (r_cost : Int32)  {res : Int32 × Int32} (h : fX6_clearText r_length = some res) : Met l yX6_clearText (Cond.code yX6_clearText cX6_clearText 2 (some .int) :: zWs) rmX6_clearText (zP Z ((wX6 Z Ao Ah An Ac Ar Af Ag Ap At o_historySize o_wayIsKept ++ wX5 Z Ar r_text r_length r_start r_end r_kind r_error r_thing r_first r_second r_cost)) sz [.ref Ao]) (zQi Z res.1 ((wX6 Z Ao Ah An Ac Ar Af Ag Ap At o_historySize o_wayIsKept ++ wX5 Z Ar r_text res.2 r_start r_end r_kind r_error r_thing r_first r_second r_cost)) (va_A ((wX6 Z Ao Ah An Ac Ar Af Ag Ap At o_historySize o_wayIsKept ++ wX5 Z Ar r_text r_length r_start r_end r_kind r_error r_thing r_first r_second r_cost)) sz)) 0 0 (va_A ((wX6 Z Ao Ah An Ac Ar Af Ag Ap At o_historySize o_wayIsKept ++ wX5 Z Ar r_text r_length r_start r_end r_kind r_error r_thing r_first r_second r_cost)) sz) := by
  refine zMet (own := RX6) (fun A => zQi Z res.1 ((wX6 Z Ao Ah An Ac Ar Af Ag Ap At o_historySize o_wayIsKept ++ wX5 Z Ar r_text res.2 r_start r_end r_kind r_error r_thing r_first r_second r_cost)) A) (by decide) rfl (Nat.le_of_ble_eq_true rfl) ?_
  intro p e s m args below meth c ls A E hw hl
  unfold fX6_clearText at h
  refine r_aload_n E hl 0 rfl dX6_clearText_0 rfl ?_
  refine r_get E kW_X6 hw 0 rfl rfl 4 (by decide) kF_X6_30 rfl dX6_clearText_1 ?_
  refine r_get E kW_X5 hw 1 rfl rfl 1 (by decide) kF_X6_134 rfl dX6_clearText_4 ?_
  refine r_istore_n E [(1, .int r_length), (0, .ref Ao)] hl dX6_clearText_7 rfl (by decide) rfl (fun ls hl => ?_)
  refine r_aload_n E hl 1 rfl dX6_clearText_8 rfl ?_
  refine r_get E kW_X6 hw 0 rfl rfl 4 (by decide) kF_X6_30 rfl dX6_clearText_9 ?_
  refine r_iconst E 0 dX6_clearText_12 (by decide) ?_
  refine r_put E ((wX6 Z Ao Ah An Ac Ar Af Ag Ap At o_historySize o_wayIsKept ++ wX5 Z Ar r_text (0 : Int32) r_start r_end r_kind r_error r_thing r_first r_second r_cost)) kW_X5 tyX5_ok nmX5 hw 1 rfl rfl 1 (by decide) kF_X6_134 rfl rfl rfl (Nat.le_of_ble_eq_true rfl) rfl dX6_clearText_13 (fun H locs hw => ?_)
  refine r_iload_n E hl 0 rfl dX6_clearText_16 rfl ?_
  obtain rfl := Option.some.inj h
  exact r_iret E hw dX6_clearText_17
abbrev rmX6_count : Room := { frames := 2, cells := 0, slots := 0, locals := 42 }

set_option maxRecDepth 100000 in
set_option maxHeartbeats 4000000 in
theorem mX6_count (l : Launch) (Z : zT) (sz : Nat) (Ao : Nat) (Ah : Nat) (An : Nat → Nat) (Ac : Nat → Nat) (Ar : Nat → Nat) (Af : Nat → Nat) (Ag : Nat → Nat) (Ap : Nat → Nat) (At : Nat → Nat) (o_historySize : Int32) (o_wayIsKept : Int32) (n_nodes : Int32) (n_links : Int32) (n_tunnels : Int32) (n_messages : Int32) (n_areas : (Nat → Int32)) (n_firsts : (Nat → Int32)) (n_seconds : (Nat → Int32)) (n_privates : (Nat → Int32)) (n_entries : (Nat → Int32)) (n_exits : (Nat → Int32)) (n_truth : (Nat → Int32)) (n_facts : (Nat → Int32)) (n_news : (Nat → Int64)) (r_text : (Nat → Int32)) (r_length : Int32) (r_start : Int32) (r_end : Int32) (r_kind : Int32) (r_error : Int32) (r_thing : Int32) (r_first : Int32) (r_second : Int32) (r_cost : Int32) (v1 : Int32) {res : Int32} (h : fX6_count v1 o_historySize n_nodes n_links n_tunnels n_messages n_truth r_length = some res) : Met l yX6_count (Cond.code yX6_count cX6_count 2 (some .int) :: zWs) rmX6_count (zP Z ((wX6 Z Ao Ah An Ac Ar Af Ag Ap At o_historySize o_wayIsKept ++ wX3 Z An n_nodes n_links n_tunnels n_messages n_areas n_firsts n_seconds n_privates n_entries n_exits n_truth n_facts n_news ++ wX5 Z Ar r_text r_length r_start r_end r_kind r_error r_thing r_first r_second r_cost)) sz [.ref Ao, .int v1]) (zQi Z res ((wX6 Z Ao Ah An Ac Ar Af Ag Ap At o_historySize o_wayIsKept ++ wX3 Z An n_nodes n_links n_tunnels n_messages n_areas n_firsts n_seconds n_privates n_entries n_exits n_truth n_facts n_news ++ wX5 Z Ar r_text r_length r_start r_end r_kind r_error r_thing r_first r_second r_cost)) (va_A ((wX6 Z Ao Ah An Ac Ar Af Ag Ap At o_historySize o_wayIsKept ++ wX3 Z An n_nodes n_links n_tunnels n_messages n_areas n_firsts n_seconds n_privates n_entries n_exits n_truth n_facts n_news ++ wX5 Z Ar r_text r_length r_start r_end r_kind r_error r_thing r_first r_second r_cost)) sz)) 0 0 (va_A ((wX6 Z Ao Ah An Ac Ar Af Ag Ap At o_historySize o_wayIsKept ++ wX3 Z An n_nodes n_links n_tunnels n_messages n_areas n_firsts n_seconds n_privates n_entries n_exits n_truth n_facts n_news ++ wX5 Z Ar r_text r_length r_start r_end r_kind r_error r_thing r_first r_second r_cost)) sz) := by
  refine zMet (own := RX6) (fun A => zQi Z res ((wX6 Z Ao Ah An Ac Ar Af Ag Ap At o_historySize o_wayIsKept ++ wX3 Z An n_nodes n_links n_tunnels n_messages n_areas n_firsts n_seconds n_privates n_entries n_exits n_truth n_facts n_news ++ wX5 Z Ar r_text r_length r_start r_end r_kind r_error r_thing r_first r_second r_cost)) A) (by decide) rfl (Nat.le_of_ble_eq_true rfl) ?_
  intro p e s m args below meth c ls A E hw hl
  unfold fX6_count at h
  refine r_iload_n E hl 1 rfl dX6_count_0 rfl ?_
  by_cases hc0 : v1 = (0 : Int32)
  · replace h := ite_t hc0 h
    refine r_tabIn E 44 dX6_count_1 (0 : Int32) hc0 (by decide) (by decide) rfl (by decide) ?_
    refine r_aload_n E hl 0 rfl dX6_count_44 rfl ?_
    refine r_get E kW_X6 hw 0 rfl rfl 0 (by decide) kF_X6_12 rfl dX6_count_45 ?_
    refine r_get E kW_X3 hw 1 rfl rfl 0 (by decide) kF_X6_66 rfl dX6_count_48 ?_
    obtain rfl := Option.some.inj h
    exact r_iret E hw dX6_count_51
  replace h := ite_f hc0 h
  by_cases hc1 : v1 = (1 : Int32)
  · replace h := ite_t hc1 h
    refine r_tabIn E 52 dX6_count_1 (1 : Int32) hc1 (by decide) (by decide) rfl (by decide) ?_
    refine r_aload_n E hl 0 rfl dX6_count_52 rfl ?_
    refine r_get E kW_X6 hw 0 rfl rfl 0 (by decide) kF_X6_12 rfl dX6_count_53 ?_
    refine r_get E kW_X3 hw 1 rfl rfl 1 (by decide) kF_X6_86 rfl dX6_count_56 ?_
    obtain rfl := Option.some.inj h
    exact r_iret E hw dX6_count_59
  replace h := ite_f hc1 h
  by_cases hc2 : v1 = (2 : Int32)
  · replace h := ite_t hc2 h
    refine r_tabIn E 60 dX6_count_1 (2 : Int32) hc2 (by decide) (by decide) rfl (by decide) ?_
    refine r_aload_n E hl 0 rfl dX6_count_60 rfl ?_
    refine r_get E kW_X6 hw 0 rfl rfl 0 (by decide) kF_X6_12 rfl dX6_count_61 ?_
    refine r_get E kW_X3 hw 1 rfl rfl 2 (by decide) kF_X6_122 rfl dX6_count_64 ?_
    obtain rfl := Option.some.inj h
    exact r_iret E hw dX6_count_67
  replace h := ite_f hc2 h
  by_cases hc3 : v1 = (3 : Int32)
  · replace h := ite_t hc3 h
    refine r_tabIn E 68 dX6_count_1 (3 : Int32) hc3 (by decide) (by decide) rfl (by decide) ?_
    refine r_aload_n E hl 0 rfl dX6_count_68 rfl ?_
    refine r_get E kW_X6 hw 0 rfl rfl 0 (by decide) kF_X6_12 rfl dX6_count_69 ?_
    obtain ⟨y1, hy1, h⟩ := bd_some h
    refine r_callVQi E ((wX6 Z Ao Ah An Ac Ar Af Ag Ap At o_historySize o_wayIsKept ++ wX3 Z An n_nodes n_links n_tunnels n_messages n_areas n_firsts n_seconds n_privates n_entries n_exits n_truth n_facts n_news ++ wX5 Z Ar r_text r_length r_start r_end r_kind r_error r_thing r_first r_second r_cost)) (wX6 Z Ao Ah An Ac Ar Af Ag Ap At o_historySize o_wayIsKept ++ wX5 Z Ar r_text r_length r_start r_end r_kind r_error r_thing r_first r_second r_cost) hw (mX3_countGrants l Z _ An n_nodes n_links n_tunnels n_messages n_areas n_firsts n_seconds n_privates n_entries n_exits n_truth n_facts n_news hy1) kL_X6_161 kI_X3_countGrants kS_X3_countGrants kN_X3 kC_X3_countGrants rfl rfl hdX3_countGrants ⟨Nat.le_of_ble_eq_true rfl, Nat.le_of_ble_eq_true rfl⟩ (fun f => by simp only [sf_app] <;> omega) (fun f => by simp only [sf_app] <;> omega) 1 rfl rfl rfl rfl hl [] rfl (Nat.le_of_ble_eq_true rfl) dX6_count_72 ⟨Nat.zero_le _, Nat.zero_le _⟩ (fun H locs hw => ?_)
    obtain rfl := Option.some.inj h
    exact r_iret E hw dX6_count_75
  replace h := ite_f hc3 h
  by_cases hc4 : v1 = (4 : Int32)
  · replace h := ite_t hc4 h
    refine r_tabIn E 76 dX6_count_1 (4 : Int32) hc4 (by decide) (by decide) rfl (by decide) ?_
    refine r_aload_n E hl 0 rfl dX6_count_76 rfl ?_
    refine r_get E kW_X6 hw 0 rfl rfl 0 (by decide) kF_X6_12 rfl dX6_count_77 ?_
    refine r_get E kW_X3 hw 1 rfl rfl 3 (by decide) kF_X6_153 rfl dX6_count_80 ?_
    obtain rfl := Option.some.inj h
    exact r_iret E hw dX6_count_83
  replace h := ite_f hc4 h
  by_cases hc5 : v1 = (5 : Int32)
  · replace h := ite_t hc5 h
    refine r_tabIn E 84 dX6_count_1 (5 : Int32) hc5 (by decide) (by decide) rfl (by decide) ?_
    refine r_aload_n E hl 0 rfl dX6_count_84 rfl ?_
    refine r_get E kW_X6 hw 0 rfl rfl 3 (by decide) kF_X6_23 rfl dX6_count_85 ?_
    obtain rfl := Option.some.inj h
    exact r_iret E hw dX6_count_88
  replace h := ite_f hc5 h
  by_cases hc6 : v1 = (6 : Int32)
  · replace h := ite_t hc6 h
    refine r_tabIn E 89 dX6_count_1 (6 : Int32) hc6 (by decide) (by decide) rfl (by decide) ?_
    refine r_aload_n E hl 0 rfl dX6_count_89 rfl ?_
    refine r_get E kW_X6 hw 0 rfl rfl 4 (by decide) kF_X6_30 rfl dX6_count_90 ?_
    refine r_get E kW_X5 hw 11 rfl rfl 1 (by decide) kF_X6_134 rfl dX6_count_93 ?_
    obtain rfl := Option.some.inj h
    exact r_iret E hw dX6_count_96
  replace h := ite_f hc6 h
  refine r_tabOut E 97 dX6_count_1 (by have a0 := ne_toInt hc0 (k := 0) (by decide); have a1 := ne_toInt hc1 (k := 1) (by decide); have a2 := ne_toInt hc2 (k := 2) (by decide); have a3 := ne_toInt hc3 (k := 3) (by decide); have a4 := ne_toInt hc4 (k := 4) (by decide); have a5 := ne_toInt hc5 (k := 5) (by decide); have a6 := ne_toInt hc6 (k := 6) (by decide); omega) (by decide) ?_
  refine r_iconst E (-1) dX6_count_97 (by decide) ?_
  obtain rfl := Option.some.inj h
  exact r_iret E hw dX6_count_98
abbrev rmX6_node : Room := { frames := 5, cells := 0, slots := 0, locals := 113 }

set_option maxRecDepth 100000 in
set_option maxHeartbeats 4000000 in
theorem mX6_node (l : Launch) (Z : zT) (sz : Nat) (Ao : Nat) (Ah : Nat) (An : Nat → Nat) (Ac : Nat → Nat) (Ar : Nat → Nat) (Af : Nat → Nat) (Ag : Nat → Nat) (Ap : Nat → Nat) (At : Nat → Nat) (o_historySize : Int32) (o_wayIsKept : Int32) (n_nodes : Int32) (n_links : Int32) (n_tunnels : Int32) (n_messages : Int32) (n_areas : (Nat → Int32)) (n_firsts : (Nat → Int32)) (n_seconds : (Nat → Int32)) (n_privates : (Nat → Int32)) (n_entries : (Nat → Int32)) (n_exits : (Nat → Int32)) (n_truth : (Nat → Int32)) (n_facts : (Nat → Int32)) (n_news : (Nat → Int64)) (v1 : Int32) (v2 : Int32) {res : Int32} (h : fX6_node v1 v2 n_nodes n_areas n_firsts n_seconds n_privates n_truth n_facts n_news = some res) : Met l yX6_node (Cond.code yX6_node cX6_node 3 (some .int) :: zWs) rmX6_node (zP Z ((wX6 Z Ao Ah An Ac Ar Af Ag Ap At o_historySize o_wayIsKept ++ wX3 Z An n_nodes n_links n_tunnels n_messages n_areas n_firsts n_seconds n_privates n_entries n_exits n_truth n_facts n_news)) sz [.ref Ao, .int v1, .int v2]) (zQi Z res ((wX6 Z Ao Ah An Ac Ar Af Ag Ap At o_historySize o_wayIsKept ++ wX3 Z An n_nodes n_links n_tunnels n_messages n_areas n_firsts n_seconds n_privates n_entries n_exits n_truth n_facts n_news)) (va_A ((wX6 Z Ao Ah An Ac Ar Af Ag Ap At o_historySize o_wayIsKept ++ wX3 Z An n_nodes n_links n_tunnels n_messages n_areas n_firsts n_seconds n_privates n_entries n_exits n_truth n_facts n_news)) sz)) 0 0 (va_A ((wX6 Z Ao Ah An Ac Ar Af Ag Ap At o_historySize o_wayIsKept ++ wX3 Z An n_nodes n_links n_tunnels n_messages n_areas n_firsts n_seconds n_privates n_entries n_exits n_truth n_facts n_news)) sz) := by
  refine zMet (own := RX6) (fun A => zQi Z res ((wX6 Z Ao Ah An Ac Ar Af Ag Ap At o_historySize o_wayIsKept ++ wX3 Z An n_nodes n_links n_tunnels n_messages n_areas n_firsts n_seconds n_privates n_entries n_exits n_truth n_facts n_news)) A) (by decide) rfl (Nat.le_of_ble_eq_true rfl) ?_
  intro p e s m args below meth c ls A E hw hl
  unfold fX6_node at h
  refine r_aload_n E hl 0 rfl dX6_node_0 rfl ?_
  refine r_iload_n E hl 1 rfl dX6_node_1 rfl ?_
  obtain ⟨y1, hy1, h⟩ := bd_some h
  refine r_callVAi E hw (mX6_isNode l Z _ Ao Ah An Ac Ar Af Ag Ap At o_historySize o_wayIsKept n_nodes n_links n_tunnels n_messages n_areas n_firsts n_seconds n_privates n_entries n_exits n_truth n_facts n_news v1 hy1) kL_X6_165 kI_X6_isNode kS_X6_isNode kN_X6 kC_X6_isNode rfl rfl hdX6_isNode ⟨Nat.le_of_ble_eq_true rfl, Nat.le_of_ble_eq_true rfl⟩ 0 rfl rfl rfl rfl hl [] rfl (Nat.le_of_ble_eq_true rfl) dX6_node_2 ⟨Nat.zero_le _, Nat.zero_le _⟩ (fun H locs hw => ?_)
  refine r_if_ne E 10 dX6_node_5 (by decide) (fun hc => ?_) (fun hc => ?_)
  · replace h := ite_f hc h
    refine r_iload_n E hl 2 rfl dX6_node_10 rfl ?_
    by_cases hc0 : v2 = (0 : Int32)
    · replace h := ite_t hc0 h
      refine r_tabIn E 44 dX6_node_11 (0 : Int32) hc0 (by decide) (by decide) rfl (by decide) ?_
      refine r_aload_n E hl 0 rfl dX6_node_44 rfl ?_
      refine r_get E kW_X6 hw 0 rfl rfl 0 (by decide) kF_X6_12 rfl dX6_node_45 ?_
      refine r_get E kW_X3 hw 1 rfl rfl 4 (by decide) kF_X6_168 rfl dX6_node_48 ?_
      refine r_iload_n E hl 1 rfl dX6_node_51 rfl ?_
      obtain ⟨hg2, h⟩ := gd_some h
      refine r_iald E hw 2 rfl hg2 dX6_node_52 ?_
      obtain rfl := Option.some.inj h
      exact r_iret E hw dX6_node_53
    replace h := ite_f hc0 h
    by_cases hc1 : v2 = (1 : Int32)
    · replace h := ite_t hc1 h
      refine r_tabIn E 54 dX6_node_11 (1 : Int32) hc1 (by decide) (by decide) rfl (by decide) ?_
      refine r_aload_n E hl 0 rfl dX6_node_54 rfl ?_
      refine r_get E kW_X6 hw 0 rfl rfl 0 (by decide) kF_X6_12 rfl dX6_node_55 ?_
      refine r_iload_n E hl 1 rfl dX6_node_58 rfl ?_
      obtain ⟨y3, hy3, h⟩ := bd_some h
      refine r_callVQi E ((wX6 Z Ao Ah An Ac Ar Af Ag Ap At o_historySize o_wayIsKept ++ wX3 Z An n_nodes n_links n_tunnels n_messages n_areas n_firsts n_seconds n_privates n_entries n_exits n_truth n_facts n_news)) (wX6 Z Ao Ah An Ac Ar Af Ag Ap At o_historySize o_wayIsKept) hw (mX3_countFacts l Z _ An n_nodes n_links n_tunnels n_messages n_areas n_firsts n_seconds n_privates n_entries n_exits n_truth n_facts n_news v1 hy3) kL_X6_171 kI_X3_countFacts kS_X3_countFacts kN_X3 kC_X3_countFacts rfl rfl hdX3_countFacts ⟨Nat.le_of_ble_eq_true rfl, Nat.le_of_ble_eq_true rfl⟩ (fun f => by simp only [sf_app] <;> omega) (fun f => by simp only [sf_app] <;> omega) 1 rfl rfl rfl rfl hl [] rfl (Nat.le_of_ble_eq_true rfl) dX6_node_59 ⟨Nat.zero_le _, Nat.zero_le _⟩ (fun H locs hw => ?_)
      obtain rfl := Option.some.inj h
      exact r_iret E hw dX6_node_62
    replace h := ite_f hc1 h
    by_cases hc2 : v2 = (2 : Int32)
    · replace h := ite_t hc2 h
      refine r_tabIn E 63 dX6_node_11 (2 : Int32) hc2 (by decide) (by decide) rfl (by decide) ?_
      refine r_aload_n E hl 0 rfl dX6_node_63 rfl ?_
      refine r_get E kW_X6 hw 0 rfl rfl 0 (by decide) kF_X6_12 rfl dX6_node_64 ?_
      refine r_get E kW_X3 hw 1 rfl rfl 12 (by decide) kF_X6_174 rfl dX6_node_67 ?_
      refine r_iload_n E hl 1 rfl dX6_node_70 rfl ?_
      obtain ⟨hg4, h⟩ := gd_some h
      refine r_lald E hw 10 rfl hg4 dX6_node_71 ?_
      obtain ⟨y5, hy5, h⟩ := bd_some h
      refine r_callS0i E hw (mJ13_bitCount_95d88 l Z _ (n_news (v1).toNatClampNeg) hy5) kL_X6_178 kT_J13_bitCount_95d88 kN_J13 kC_J13_bitCount_95d88 rfl rfl hdJ13_bitCount_95d88 ⟨Nat.le_of_ble_eq_true rfl, Nat.le_of_ble_eq_true rfl⟩ rfl hl [] rfl (Nat.le_of_ble_eq_true rfl) dX6_node_72 ⟨Nat.zero_le _, Nat.zero_le _⟩ (fun H locs hw => ?_)
      obtain rfl := Option.some.inj h
      exact r_iret E hw dX6_node_75
    replace h := ite_f hc2 h
    by_cases hc3 : v2 = (3 : Int32)
    · replace h := ite_t hc3 h
      refine r_tabIn E 76 dX6_node_11 (3 : Int32) hc3 (by decide) (by decide) rfl (by decide) ?_
      refine r_aload_n E hl 0 rfl dX6_node_76 rfl ?_
      refine r_get E kW_X6 hw 0 rfl rfl 0 (by decide) kF_X6_12 rfl dX6_node_77 ?_
      refine r_iload_n E hl 1 rfl dX6_node_80 rfl ?_
      obtain ⟨y6, hy6, h⟩ := bd_some h
      refine r_callVQi E ((wX6 Z Ao Ah An Ac Ar Af Ag Ap At o_historySize o_wayIsKept ++ wX3 Z An n_nodes n_links n_tunnels n_messages n_areas n_firsts n_seconds n_privates n_entries n_exits n_truth n_facts n_news)) (wX6 Z Ao Ah An Ac Ar Af Ag Ap At o_historySize o_wayIsKept) hw (mX3_countBehind l Z _ An n_nodes n_links n_tunnels n_messages n_areas n_firsts n_seconds n_privates n_entries n_exits n_truth n_facts n_news v1 hy6) kL_X6_184 kI_X3_countBehind kS_X3_countBehind kN_X3 kC_X3_countBehind rfl rfl hdX3_countBehind ⟨Nat.le_of_ble_eq_true rfl, Nat.le_of_ble_eq_true rfl⟩ (fun f => by simp only [sf_app] <;> omega) (fun f => by simp only [sf_app] <;> omega) 1 rfl rfl rfl rfl hl [] rfl (Nat.le_of_ble_eq_true rfl) dX6_node_81 ⟨Nat.zero_le _, Nat.zero_le _⟩ (fun H locs hw => ?_)
      obtain rfl := Option.some.inj h
      exact r_iret E hw dX6_node_84
    replace h := ite_f hc3 h
    by_cases hc4 : v2 = (4 : Int32)
    · replace h := ite_t hc4 h
      refine r_tabIn E 85 dX6_node_11 (4 : Int32) hc4 (by decide) (by decide) rfl (by decide) ?_
      refine r_aload_n E hl 0 rfl dX6_node_85 rfl ?_
      refine r_get E kW_X6 hw 0 rfl rfl 0 (by decide) kF_X6_12 rfl dX6_node_86 ?_
      refine r_iload_n E hl 1 rfl dX6_node_89 rfl ?_
      obtain ⟨y7, hy7, h⟩ := bd_some h
      refine r_callVQi E ((wX6 Z Ao Ah An Ac Ar Af Ag Ap At o_historySize o_wayIsKept ++ wX3 Z An n_nodes n_links n_tunnels n_messages n_areas n_firsts n_seconds n_privates n_entries n_exits n_truth n_facts n_news)) (wX6 Z Ao Ah An Ac Ar Af Ag Ap At o_historySize o_wayIsKept) hw (mX3_countSecrets l Z _ An n_nodes n_links n_tunnels n_messages n_areas n_firsts n_seconds n_privates n_entries n_exits n_truth n_facts n_news v1 hy7) kL_X6_187 kI_X3_countSecrets kS_X3_countSecrets kN_X3 kC_X3_countSecrets rfl rfl hdX3_countSecrets ⟨Nat.le_of_ble_eq_true rfl, Nat.le_of_ble_eq_true rfl⟩ (fun f => by simp only [sf_app] <;> omega) (fun f => by simp only [sf_app] <;> omega) 1 rfl rfl rfl rfl hl [] rfl (Nat.le_of_ble_eq_true rfl) dX6_node_90 ⟨Nat.zero_le _, Nat.zero_le _⟩ (fun H locs hw => ?_)
      obtain rfl := Option.some.inj h
      exact r_iret E hw dX6_node_93
    replace h := ite_f hc4 h
    refine r_tabOut E 94 dX6_node_11 (by have a0 := ne_toInt hc0 (k := 0) (by decide); have a1 := ne_toInt hc1 (k := 1) (by decide); have a2 := ne_toInt hc2 (k := 2) (by decide); have a3 := ne_toInt hc3 (k := 3) (by decide); have a4 := ne_toInt hc4 (k := 4) (by decide); omega) (by decide) ?_
    refine r_iconst E (-1) dX6_node_94 (by decide) ?_
    obtain rfl := Option.some.inj h
    exact r_iret E hw dX6_node_95
  · replace h := ite_t hc h
    refine r_iconst E (-1) dX6_node_8 (by decide) ?_
    obtain rfl := Option.some.inj h
    exact r_iret E hw dX6_node_9
abbrev rmX6_link : Room := { frames := 1, cells := 0, slots := 0, locals := 21 }

set_option maxRecDepth 100000 in
set_option maxHeartbeats 4000000 in
theorem mX6_link (l : Launch) (Z : zT) (sz : Nat) (Ao : Nat) (Ah : Nat) (An : Nat → Nat) (Ac : Nat → Nat) (Ar : Nat → Nat) (Af : Nat → Nat) (Ag : Nat → Nat) (Ap : Nat → Nat) (At : Nat → Nat) (o_historySize : Int32) (o_wayIsKept : Int32) (n_nodes : Int32) (n_links : Int32) (n_tunnels : Int32) (n_messages : Int32) (n_areas : (Nat → Int32)) (n_firsts : (Nat → Int32)) (n_seconds : (Nat → Int32)) (n_privates : (Nat → Int32)) (n_entries : (Nat → Int32)) (n_exits : (Nat → Int32)) (n_truth : (Nat → Int32)) (n_facts : (Nat → Int32)) (n_news : (Nat → Int64)) (v1 : Int32) (v2 : Int32) {res : Int32} (h : fX6_link v1 v2 n_links n_firsts n_seconds n_privates n_truth = some res) : Met l yX6_link (Cond.code yX6_link cX6_link 4 (some .int) :: zWs) rmX6_link (zP Z ((wX6 Z Ao Ah An Ac Ar Af Ag Ap At o_historySize o_wayIsKept ++ wX3 Z An n_nodes n_links n_tunnels n_messages n_areas n_firsts n_seconds n_privates n_entries n_exits n_truth n_facts n_news)) sz [.ref Ao, .int v1, .int v2]) (zQi Z res ((wX6 Z Ao Ah An Ac Ar Af Ag Ap At o_historySize o_wayIsKept ++ wX3 Z An n_nodes n_links n_tunnels n_messages n_areas n_firsts n_seconds n_privates n_entries n_exits n_truth n_facts n_news)) (va_A ((wX6 Z Ao Ah An Ac Ar Af Ag Ap At o_historySize o_wayIsKept ++ wX3 Z An n_nodes n_links n_tunnels n_messages n_areas n_firsts n_seconds n_privates n_entries n_exits n_truth n_facts n_news)) sz)) 0 0 (va_A ((wX6 Z Ao Ah An Ac Ar Af Ag Ap At o_historySize o_wayIsKept ++ wX3 Z An n_nodes n_links n_tunnels n_messages n_areas n_firsts n_seconds n_privates n_entries n_exits n_truth n_facts n_news)) sz) := by
  refine zMet (own := RX6) (fun A => zQi Z res ((wX6 Z Ao Ah An Ac Ar Af Ag Ap At o_historySize o_wayIsKept ++ wX3 Z An n_nodes n_links n_tunnels n_messages n_areas n_firsts n_seconds n_privates n_entries n_exits n_truth n_facts n_news)) A) (by decide) rfl (Nat.le_of_ble_eq_true rfl) ?_
  intro p e s m args below meth c ls A E hw hl
  unfold fX6_link at h
  refine r_aload_n E hl 0 rfl dX6_link_0 rfl ?_
  refine r_iload_n E hl 1 rfl dX6_link_1 rfl ?_
  obtain ⟨y1, hy1, h⟩ := bd_some h
  refine r_callVAi E hw (mX6_isLink l Z _ Ao Ah An Ac Ar Af Ag Ap At o_historySize o_wayIsKept n_nodes n_links n_tunnels n_messages n_areas n_firsts n_seconds n_privates n_entries n_exits n_truth n_facts n_news v1 hy1) kL_X6_93 kI_X6_isLink kS_X6_isLink kN_X6 kC_X6_isLink rfl rfl hdX6_isLink ⟨Nat.le_of_ble_eq_true rfl, Nat.le_of_ble_eq_true rfl⟩ 0 rfl rfl rfl rfl hl [] rfl (Nat.le_of_ble_eq_true rfl) dX6_link_2 ⟨Nat.zero_le _, Nat.zero_le _⟩ (fun H locs hw => ?_)
  refine r_if_ne E 10 dX6_link_5 (by decide) (fun hc => ?_) (fun hc => ?_)
  · replace h := ite_f hc h
    refine r_aload_n E hl 0 rfl dX6_link_10 rfl ?_
    refine r_get E kW_X6 hw 0 rfl rfl 0 (by decide) kF_X6_12 rfl dX6_link_11 ?_
    refine r_get E kW_X3 hw 1 rfl rfl 10 (by decide) kF_X6_96 rfl dX6_link_14 ?_
    refine r_bipush E 16 dX6_link_17 (by decide) ?_
    refine r_iload_n E hl 1 rfl dX6_link_19 rfl ?_
    refine r_iadd E dX6_link_20 ?_
    obtain ⟨hg2, h⟩ := gd_some h
    refine r_iald E hw 8 rfl hg2 dX6_link_21 ?_
    obtain ⟨w3, hw3, h⟩ := nm_out h
    refine r_nm hw3 ?_
    refine r_istore_n E [(3, .int w3), (0, .ref Ao), (1, .int v1), (2, .int v2)] hl dX6_link_22 rfl (by decide) rfl (fun ls hl => ?_)
    refine r_iload_n E hl 3 rfl dX6_link_23 rfl ?_
    by_cases hc0 : v2 = (0 : Int32)
    · replace h := ite_t hc0 h
      refine r_tabIn E 64 dX6_link_24 (0 : Int32) hc0 (by decide) (by decide) rfl (by decide) ?_
      refine r_aload_n E hl 1 rfl dX6_link_64 rfl ?_
      refine r_get E kW_X6 hw 0 rfl rfl 0 (by decide) kF_X6_12 rfl dX6_link_65 ?_
      refine r_get E kW_X3 hw 1 rfl rfl 5 (by decide) kF_X6_190 rfl dX6_link_68 ?_
      refine r_iload_n E hl 2 rfl dX6_link_71 rfl ?_
      obtain ⟨hg4, h⟩ := gd_some h
      refine r_iald E hw 3 rfl hg4 dX6_link_72 ?_
      obtain rfl := Option.some.inj h
      exact r_iret E hw dX6_link_73
    replace h := ite_f hc0 h
    by_cases hc1 : v2 = (1 : Int32)
    · replace h := ite_t hc1 h
      refine r_tabIn E 74 dX6_link_24 (1 : Int32) hc1 (by decide) (by decide) rfl (by decide) ?_
      refine r_aload_n E hl 1 rfl dX6_link_74 rfl ?_
      refine r_get E kW_X6 hw 0 rfl rfl 0 (by decide) kF_X6_12 rfl dX6_link_75 ?_
      refine r_get E kW_X3 hw 1 rfl rfl 6 (by decide) kF_X6_193 rfl dX6_link_78 ?_
      refine r_iload_n E hl 2 rfl dX6_link_81 rfl ?_
      obtain ⟨hg5, h⟩ := gd_some h
      refine r_iald E hw 4 rfl hg5 dX6_link_82 ?_
      obtain rfl := Option.some.inj h
      exact r_iret E hw dX6_link_83
    replace h := ite_f hc1 h
    by_cases hc2 : v2 = (2 : Int32)
    · replace h := ite_t hc2 h
      refine r_tabIn E 84 dX6_link_24 (2 : Int32) hc2 (by decide) (by decide) rfl (by decide) ?_
      refine r_iload_n E hl 0 rfl dX6_link_84 rfl ?_
      obtain ⟨y6, hy6, h⟩ := bd_some h
      refine r_callS0i E hw (mX0_price l Z _ w3 hy6) kL_X6_105 kT_X0_price kN_X0 kC_X0_price rfl rfl hdX0_price ⟨Nat.le_of_ble_eq_true rfl, Nat.le_of_ble_eq_true rfl⟩ rfl hl [] rfl (Nat.le_of_ble_eq_true rfl) dX6_link_85 ⟨Nat.zero_le _, Nat.zero_le _⟩ (fun H locs hw => ?_)
      obtain rfl := Option.some.inj h
      exact r_iret E hw dX6_link_88
    replace h := ite_f hc2 h
    by_cases hc3 : v2 = (3 : Int32)
    · replace h := ite_t hc3 h
      refine r_tabIn E 89 dX6_link_24 (3 : Int32) hc3 (by decide) (by decide) rfl (by decide) ?_
      refine r_iload_n E hl 0 rfl dX6_link_89 rfl ?_
      obtain ⟨y7, hy7, h⟩ := bd_some h
      refine r_callS0i E hw (mX0_state l Z _ w3 hy7) kL_X6_100 kT_X0_state kN_X0 kC_X0_state rfl rfl hdX0_state ⟨Nat.le_of_ble_eq_true rfl, Nat.le_of_ble_eq_true rfl⟩ rfl hl [] rfl (Nat.le_of_ble_eq_true rfl) dX6_link_90 ⟨Nat.zero_le _, Nat.zero_le _⟩ (fun H locs hw => ?_)
      obtain rfl := Option.some.inj h
      exact r_iret E hw dX6_link_93
    replace h := ite_f hc3 h
    by_cases hc4 : v2 = (4 : Int32)
    · replace h := ite_t hc4 h
      refine r_tabIn E 94 dX6_link_24 (4 : Int32) hc4 (by decide) (by decide) rfl (by decide) ?_
      refine r_aload_n E hl 1 rfl dX6_link_94 rfl ?_
      refine r_get E kW_X6 hw 0 rfl rfl 0 (by decide) kF_X6_12 rfl dX6_link_95 ?_
      refine r_get E kW_X3 hw 1 rfl rfl 7 (by decide) kF_X6_196 rfl dX6_link_98 ?_
      refine r_iload_n E hl 2 rfl dX6_link_101 rfl ?_
      obtain ⟨hg8, h⟩ := gd_some h
      refine r_iald E hw 5 rfl hg8 dX6_link_102 ?_
      obtain rfl := Option.some.inj h
      exact r_iret E hw dX6_link_103
    replace h := ite_f hc4 h
    by_cases hc5 : v2 = (5 : Int32)
    · replace h := ite_t hc5 h
      refine r_tabIn E 104 dX6_link_24 (5 : Int32) hc5 (by decide) (by decide) rfl (by decide) ?_
      refine r_iload_n E hl 0 rfl dX6_link_104 rfl ?_
      obtain ⟨y9, hy9, h⟩ := bd_some h
      refine r_callS0i E hw (mX0_version l Z _ w3 hy9) kL_X6_199 kT_X0_version kN_X0 kC_X0_version rfl rfl hdX0_version ⟨Nat.le_of_ble_eq_true rfl, Nat.le_of_ble_eq_true rfl⟩ rfl hl [] rfl (Nat.le_of_ble_eq_true rfl) dX6_link_105 ⟨Nat.zero_le _, Nat.zero_le _⟩ (fun H locs hw => ?_)
      obtain rfl := Option.some.inj h
      exact r_iret E hw dX6_link_108
    replace h := ite_f hc5 h
    refine r_tabOut E 109 dX6_link_24 (by have a0 := ne_toInt hc0 (k := 0) (by decide); have a1 := ne_toInt hc1 (k := 1) (by decide); have a2 := ne_toInt hc2 (k := 2) (by decide); have a3 := ne_toInt hc3 (k := 3) (by decide); have a4 := ne_toInt hc4 (k := 4) (by decide); have a5 := ne_toInt hc5 (k := 5) (by decide); omega) (by decide) ?_
    refine r_iconst E (-1) dX6_link_109 (by decide) ?_
    obtain rfl := Option.some.inj h
    exact r_iret E hw dX6_link_110
  · replace h := ite_t hc h
    refine r_iconst E (-1) dX6_link_8 (by decide) ?_
    obtain rfl := Option.some.inj h
    exact r_iret E hw dX6_link_9
abbrev rmX6_tunnel : Room := { frames := 1, cells := 0, slots := 0, locals := 21 }

set_option maxRecDepth 100000 in
set_option maxHeartbeats 4000000 in
theorem mX6_tunnel (l : Launch) (Z : zT) (sz : Nat) (Ao : Nat) (Ah : Nat) (An : Nat → Nat) (Ac : Nat → Nat) (Ar : Nat → Nat) (Af : Nat → Nat) (Ag : Nat → Nat) (Ap : Nat → Nat) (At : Nat → Nat) (o_historySize : Int32) (o_wayIsKept : Int32) (n_nodes : Int32) (n_links : Int32) (n_tunnels : Int32) (n_messages : Int32) (n_areas : (Nat → Int32)) (n_firsts : (Nat → Int32)) (n_seconds : (Nat → Int32)) (n_privates : (Nat → Int32)) (n_entries : (Nat → Int32)) (n_exits : (Nat → Int32)) (n_truth : (Nat → Int32)) (n_facts : (Nat → Int32)) (n_news : (Nat → Int64)) (v1 : Int32) (v2 : Int32) {res : Int32} (h : fX6_tunnel v1 v2 n_tunnels n_entries n_exits n_truth = some res) : Met l yX6_tunnel (Cond.code yX6_tunnel cX6_tunnel 4 (some .int) :: zWs) rmX6_tunnel (zP Z ((wX6 Z Ao Ah An Ac Ar Af Ag Ap At o_historySize o_wayIsKept ++ wX3 Z An n_nodes n_links n_tunnels n_messages n_areas n_firsts n_seconds n_privates n_entries n_exits n_truth n_facts n_news)) sz [.ref Ao, .int v1, .int v2]) (zQi Z res ((wX6 Z Ao Ah An Ac Ar Af Ag Ap At o_historySize o_wayIsKept ++ wX3 Z An n_nodes n_links n_tunnels n_messages n_areas n_firsts n_seconds n_privates n_entries n_exits n_truth n_facts n_news)) (va_A ((wX6 Z Ao Ah An Ac Ar Af Ag Ap At o_historySize o_wayIsKept ++ wX3 Z An n_nodes n_links n_tunnels n_messages n_areas n_firsts n_seconds n_privates n_entries n_exits n_truth n_facts n_news)) sz)) 0 0 (va_A ((wX6 Z Ao Ah An Ac Ar Af Ag Ap At o_historySize o_wayIsKept ++ wX3 Z An n_nodes n_links n_tunnels n_messages n_areas n_firsts n_seconds n_privates n_entries n_exits n_truth n_facts n_news)) sz) := by
  refine zMet (own := RX6) (fun A => zQi Z res ((wX6 Z Ao Ah An Ac Ar Af Ag Ap At o_historySize o_wayIsKept ++ wX3 Z An n_nodes n_links n_tunnels n_messages n_areas n_firsts n_seconds n_privates n_entries n_exits n_truth n_facts n_news)) A) (by decide) rfl (Nat.le_of_ble_eq_true rfl) ?_
  intro p e s m args below meth c ls A E hw hl
  unfold fX6_tunnel at h
  refine r_aload_n E hl 0 rfl dX6_tunnel_0 rfl ?_
  refine r_iload_n E hl 1 rfl dX6_tunnel_1 rfl ?_
  obtain ⟨y1, hy1, h⟩ := bd_some h
  refine r_callVAi E hw (mX6_isTunnel l Z _ Ao Ah An Ac Ar Af Ag Ap At o_historySize o_wayIsKept n_nodes n_links n_tunnels n_messages n_areas n_firsts n_seconds n_privates n_entries n_exits n_truth n_facts n_news v1 hy1) kL_X6_128 kI_X6_isTunnel kS_X6_isTunnel kN_X6 kC_X6_isTunnel rfl rfl hdX6_isTunnel ⟨Nat.le_of_ble_eq_true rfl, Nat.le_of_ble_eq_true rfl⟩ 0 rfl rfl rfl rfl hl [] rfl (Nat.le_of_ble_eq_true rfl) dX6_tunnel_2 ⟨Nat.zero_le _, Nat.zero_le _⟩ (fun H locs hw => ?_)
  refine r_if_ne E 10 dX6_tunnel_5 (by decide) (fun hc => ?_) (fun hc => ?_)
  · replace h := ite_f hc h
    refine r_aload_n E hl 0 rfl dX6_tunnel_10 rfl ?_
    refine r_get E kW_X6 hw 0 rfl rfl 0 (by decide) kF_X6_12 rfl dX6_tunnel_11 ?_
    refine r_get E kW_X3 hw 1 rfl rfl 10 (by decide) kF_X6_96 rfl dX6_tunnel_14 ?_
    refine r_bipush E 32 dX6_tunnel_17 (by decide) ?_
    refine r_iload_n E hl 1 rfl dX6_tunnel_19 rfl ?_
    refine r_iadd E dX6_tunnel_20 ?_
    obtain ⟨hg2, h⟩ := gd_some h
    refine r_iald E hw 8 rfl hg2 dX6_tunnel_21 ?_
    obtain ⟨w3, hw3, h⟩ := nm_out h
    refine r_nm hw3 ?_
    refine r_istore_n E [(3, .int w3), (0, .ref Ao), (1, .int v1), (2, .int v2)] hl dX6_tunnel_22 rfl (by decide) rfl (fun ls hl => ?_)
    refine r_iload_n E hl 3 rfl dX6_tunnel_23 rfl ?_
    by_cases hc0 : v2 = (0 : Int32)
    · replace h := ite_t hc0 h
      refine r_tabIn E 60 dX6_tunnel_24 (0 : Int32) hc0 (by decide) (by decide) rfl (by decide) ?_
      refine r_aload_n E hl 1 rfl dX6_tunnel_60 rfl ?_
      refine r_get E kW_X6 hw 0 rfl rfl 0 (by decide) kF_X6_12 rfl dX6_tunnel_61 ?_
      refine r_get E kW_X3 hw 1 rfl rfl 8 (by decide) kF_X6_202 rfl dX6_tunnel_64 ?_
      refine r_iload_n E hl 2 rfl dX6_tunnel_67 rfl ?_
      obtain ⟨hg4, h⟩ := gd_some h
      refine r_iald E hw 6 rfl hg4 dX6_tunnel_68 ?_
      obtain rfl := Option.some.inj h
      exact r_iret E hw dX6_tunnel_69
    replace h := ite_f hc0 h
    by_cases hc1 : v2 = (1 : Int32)
    · replace h := ite_t hc1 h
      refine r_tabIn E 70 dX6_tunnel_24 (1 : Int32) hc1 (by decide) (by decide) rfl (by decide) ?_
      refine r_aload_n E hl 1 rfl dX6_tunnel_70 rfl ?_
      refine r_get E kW_X6 hw 0 rfl rfl 0 (by decide) kF_X6_12 rfl dX6_tunnel_71 ?_
      refine r_get E kW_X3 hw 1 rfl rfl 9 (by decide) kF_X6_205 rfl dX6_tunnel_74 ?_
      refine r_iload_n E hl 2 rfl dX6_tunnel_77 rfl ?_
      obtain ⟨hg5, h⟩ := gd_some h
      refine r_iald E hw 7 rfl hg5 dX6_tunnel_78 ?_
      obtain rfl := Option.some.inj h
      exact r_iret E hw dX6_tunnel_79
    replace h := ite_f hc1 h
    by_cases hc2 : v2 = (2 : Int32)
    · replace h := ite_t hc2 h
      refine r_tabIn E 80 dX6_tunnel_24 (2 : Int32) hc2 (by decide) (by decide) rfl (by decide) ?_
      refine r_iload_n E hl 0 rfl dX6_tunnel_80 rfl ?_
      obtain ⟨y6, hy6, h⟩ := bd_some h
      refine r_callS0i E hw (mX0_price l Z _ w3 hy6) kL_X6_105 kT_X0_price kN_X0 kC_X0_price rfl rfl hdX0_price ⟨Nat.le_of_ble_eq_true rfl, Nat.le_of_ble_eq_true rfl⟩ rfl hl [] rfl (Nat.le_of_ble_eq_true rfl) dX6_tunnel_81 ⟨Nat.zero_le _, Nat.zero_le _⟩ (fun H locs hw => ?_)
      obtain rfl := Option.some.inj h
      exact r_iret E hw dX6_tunnel_84
    replace h := ite_f hc2 h
    by_cases hc3 : v2 = (3 : Int32)
    · replace h := ite_t hc3 h
      refine r_tabIn E 85 dX6_tunnel_24 (3 : Int32) hc3 (by decide) (by decide) rfl (by decide) ?_
      refine r_iload_n E hl 0 rfl dX6_tunnel_85 rfl ?_
      obtain ⟨y7, hy7, h⟩ := bd_some h
      refine r_callS0i E hw (mX0_state l Z _ w3 hy7) kL_X6_100 kT_X0_state kN_X0 kC_X0_state rfl rfl hdX0_state ⟨Nat.le_of_ble_eq_true rfl, Nat.le_of_ble_eq_true rfl⟩ rfl hl [] rfl (Nat.le_of_ble_eq_true rfl) dX6_tunnel_86 ⟨Nat.zero_le _, Nat.zero_le _⟩ (fun H locs hw => ?_)
      obtain rfl := Option.some.inj h
      exact r_iret E hw dX6_tunnel_89
    replace h := ite_f hc3 h
    by_cases hc4 : v2 = (4 : Int32)
    · replace h := ite_t hc4 h
      refine r_tabIn E 90 dX6_tunnel_24 (4 : Int32) hc4 (by decide) (by decide) rfl (by decide) ?_
      refine r_iload_n E hl 0 rfl dX6_tunnel_90 rfl ?_
      obtain ⟨y8, hy8, h⟩ := bd_some h
      refine r_callS0i E hw (mX0_version l Z _ w3 hy8) kL_X6_199 kT_X0_version kN_X0 kC_X0_version rfl rfl hdX0_version ⟨Nat.le_of_ble_eq_true rfl, Nat.le_of_ble_eq_true rfl⟩ rfl hl [] rfl (Nat.le_of_ble_eq_true rfl) dX6_tunnel_91 ⟨Nat.zero_le _, Nat.zero_le _⟩ (fun H locs hw => ?_)
      obtain rfl := Option.some.inj h
      exact r_iret E hw dX6_tunnel_94
    replace h := ite_f hc4 h
    refine r_tabOut E 95 dX6_tunnel_24 (by have a0 := ne_toInt hc0 (k := 0) (by decide); have a1 := ne_toInt hc1 (k := 1) (by decide); have a2 := ne_toInt hc2 (k := 2) (by decide); have a3 := ne_toInt hc3 (k := 3) (by decide); have a4 := ne_toInt hc4 (k := 4) (by decide); omega) (by decide) ?_
    refine r_iconst E (-1) dX6_tunnel_95 (by decide) ?_
    obtain rfl := Option.some.inj h
    exact r_iret E hw dX6_tunnel_96
  · replace h := ite_t hc h
    refine r_iconst E (-1) dX6_tunnel_8 (by decide) ?_
    obtain rfl := Option.some.inj h
    exact r_iret E hw dX6_tunnel_9
abbrev rmX6_grant : Room := { frames := 2, cells := 0, slots := 0, locals := 41 }

set_option maxRecDepth 100000 in
set_option maxHeartbeats 4000000 in
theorem mX6_grant (l : Launch) (Z : zT) (sz : Nat) (Ao : Nat) (Ah : Nat) (An : Nat → Nat) (Ac : Nat → Nat) (Ar : Nat → Nat) (Af : Nat → Nat) (Ag : Nat → Nat) (Ap : Nat → Nat) (At : Nat → Nat) (o_historySize : Int32) (o_wayIsKept : Int32) (n_nodes : Int32) (n_links : Int32) (n_tunnels : Int32) (n_messages : Int32) (n_areas : (Nat → Int32)) (n_firsts : (Nat → Int32)) (n_seconds : (Nat → Int32)) (n_privates : (Nat → Int32)) (n_entries : (Nat → Int32)) (n_exits : (Nat → Int32)) (n_truth : (Nat → Int32)) (n_facts : (Nat → Int32)) (n_news : (Nat → Int64)) (v1 : Int32) (v2 : Int32) (v3 : Int32) {res : Int32} (h : fX6_grant v1 v2 v3 n_truth = some res) : Met l yX6_grant (Cond.code yX6_grant cX6_grant 5 (some .int) :: zWs) rmX6_grant (zP Z ((wX6 Z Ao Ah An Ac Ar Af Ag Ap At o_historySize o_wayIsKept ++ wX3 Z An n_nodes n_links n_tunnels n_messages n_areas n_firsts n_seconds n_privates n_entries n_exits n_truth n_facts n_news)) sz [.ref Ao, .int v1, .int v2, .int v3]) (zQi Z res ((wX6 Z Ao Ah An Ac Ar Af Ag Ap At o_historySize o_wayIsKept ++ wX3 Z An n_nodes n_links n_tunnels n_messages n_areas n_firsts n_seconds n_privates n_entries n_exits n_truth n_facts n_news)) (va_A ((wX6 Z Ao Ah An Ac Ar Af Ag Ap At o_historySize o_wayIsKept ++ wX3 Z An n_nodes n_links n_tunnels n_messages n_areas n_firsts n_seconds n_privates n_entries n_exits n_truth n_facts n_news)) sz)) 0 0 (va_A ((wX6 Z Ao Ah An Ac Ar Af Ag Ap At o_historySize o_wayIsKept ++ wX3 Z An n_nodes n_links n_tunnels n_messages n_areas n_firsts n_seconds n_privates n_entries n_exits n_truth n_facts n_news)) sz) := by
  refine zMet (own := RX6) (fun A => zQi Z res ((wX6 Z Ao Ah An Ac Ar Af Ag Ap At o_historySize o_wayIsKept ++ wX3 Z An n_nodes n_links n_tunnels n_messages n_areas n_firsts n_seconds n_privates n_entries n_exits n_truth n_facts n_news)) A) (by decide) rfl (Nat.le_of_ble_eq_true rfl) ?_
  intro p e s m args below meth c ls A E hw hl
  unfold fX6_grant at h
  refine r_iload_n E hl 1 rfl dX6_grant_0 rfl ?_
  refine r_iload_n E hl 2 rfl dX6_grant_1 rfl ?_
  obtain ⟨y1, hy1, h⟩ := bd_some h
  refine r_callS0i E hw (mX6_areTwoAreas l Z _ v1 v2 hy1) kL_X6_112 kT_X6_areTwoAreas kN_X6 kC_X6_areTwoAreas rfl rfl hdX6_areTwoAreas ⟨Nat.le_of_ble_eq_true rfl, Nat.le_of_ble_eq_true rfl⟩ rfl hl [] rfl (Nat.le_of_ble_eq_true rfl) dX6_grant_2 ⟨Nat.zero_le _, Nat.zero_le _⟩ (fun H locs hw => ?_)
  refine r_if_ne E 10 dX6_grant_5 (by decide) (fun hc => ?_) (fun hc => ?_)
  · replace h := ite_f hc h
    refine r_aload_n E hl 0 rfl dX6_grant_10 rfl ?_
    refine r_get E kW_X6 hw 0 rfl rfl 0 (by decide) kF_X6_12 rfl dX6_grant_11 ?_
    refine r_get E kW_X3 hw 1 rfl rfl 10 (by decide) kF_X6_96 rfl dX6_grant_14 ?_
    refine r_iload_n E hl 1 rfl dX6_grant_17 rfl ?_
    refine r_iload_n E hl 2 rfl dX6_grant_18 rfl ?_
    obtain ⟨y2, hy2, h⟩ := bd_some h
    refine r_callS0i E hw (mX6_grantItem l Z _ v1 v2 hy2) kL_X6_115 kT_X6_grantItem kN_X6 kC_X6_grantItem rfl rfl hdX6_grantItem ⟨Nat.le_of_ble_eq_true rfl, Nat.le_of_ble_eq_true rfl⟩ rfl hl [.ref (An 7)] rfl (Nat.le_of_ble_eq_true rfl) dX6_grant_19 ⟨Nat.zero_le _, Nat.zero_le _⟩ (fun H locs hw => ?_)
    obtain ⟨hg3, h⟩ := gd_some h
    refine r_iald E hw 8 rfl hg3 dX6_grant_22 ?_
    obtain ⟨w4, hw4, h⟩ := nm_out h
    refine r_nm hw4 ?_
    refine r_istore E [(4, .int w4), (0, .ref Ao), (1, .int v1), (2, .int v2), (3, .int v3)] hl dX6_grant_23 (by decide) rfl (fun ls hl => ?_)
    refine r_iload_n E hl 4 rfl dX6_grant_25 rfl ?_
    by_cases hc0 : v3 = (0 : Int32)
    · replace h := ite_t hc0 h
      refine r_look E (off := 26) 52 dX6_grant_26 (by decide) (by rw [hc0] <;> rfl) (by decide) ?_
      refine r_iload E hl 0 rfl dX6_grant_52 ?_
      obtain ⟨y5, hy5, h⟩ := bd_some h
      refine r_callS0i E hw (mX0_state l Z _ w4 hy5) kL_X6_100 kT_X0_state kN_X0 kC_X0_state rfl rfl hdX0_state ⟨Nat.le_of_ble_eq_true rfl, Nat.le_of_ble_eq_true rfl⟩ rfl hl [] rfl (Nat.le_of_ble_eq_true rfl) dX6_grant_54 ⟨Nat.zero_le _, Nat.zero_le _⟩ (fun H locs hw => ?_)
      obtain rfl := Option.some.inj h
      exact r_iret E hw dX6_grant_57
    replace h := ite_f hc0 h
    by_cases hc1 : v3 = (1 : Int32)
    · replace h := ite_t hc1 h
      refine r_look E (off := 32) 58 dX6_grant_26 (by decide) (by rw [hc1] <;> rfl) (by decide) ?_
      refine r_iload E hl 0 rfl dX6_grant_58 ?_
      obtain ⟨y6, hy6, h⟩ := bd_some h
      refine r_callS0i E hw (mX0_version l Z _ w4 hy6) kL_X6_199 kT_X0_version kN_X0 kC_X0_version rfl rfl hdX0_version ⟨Nat.le_of_ble_eq_true rfl, Nat.le_of_ble_eq_true rfl⟩ rfl hl [] rfl (Nat.le_of_ble_eq_true rfl) dX6_grant_60 ⟨Nat.zero_le _, Nat.zero_le _⟩ (fun H locs hw => ?_)
      obtain rfl := Option.some.inj h
      exact r_iret E hw dX6_grant_63
    replace h := ite_f hc1 h
    refine r_look E (off := 38) 64 dX6_grant_26 (by decide) (by rw [lv_osw hc0 (by decide), lv_osw hc1 (by decide)] <;> rfl) (by decide) ?_
    refine r_iconst E (-1) dX6_grant_64 (by decide) ?_
    obtain rfl := Option.some.inj h
    exact r_iret E hw dX6_grant_65
  · replace h := ite_t hc h
    refine r_iconst E (-1) dX6_grant_8 (by decide) ?_
    obtain rfl := Option.some.inj h
    exact r_iret E hw dX6_grant_9
abbrev rmX6_known : Room := { frames := 2, cells := 0, slots := 0, locals := 42 }

set_option maxRecDepth 100000 in
set_option maxHeartbeats 4000000 in
theorem mX6_known (l : Launch) (Z : zT) (sz : Nat) (Ao : Nat) (Ah : Nat) (An : Nat → Nat) (Ac : Nat → Nat) (Ar : Nat → Nat) (Af : Nat → Nat) (Ag : Nat → Nat) (Ap : Nat → Nat) (At : Nat → Nat) (o_historySize : Int32) (o_wayIsKept : Int32) (n_nodes : Int32) (n_links : Int32) (n_tunnels : Int32) (n_messages : Int32) (n_areas : (Nat → Int32)) (n_firsts : (Nat → Int32)) (n_seconds : (Nat → Int32)) (n_privates : (Nat → Int32)) (n_entries : (Nat → Int32)) (n_exits : (Nat → Int32)) (n_truth : (Nat → Int32)) (n_facts : (Nat → Int32)) (n_news : (Nat → Int64)) (v1 : Int32) (v2 : Int32) (v3 : Int32) {res : Int32} (h : fX6_known v1 v2 v3 n_nodes n_links n_tunnels n_facts n_news = some res) : Met l yX6_known (Cond.code yX6_known cX6_known 5 (some .int) :: zWs) rmX6_known (zP Z ((wX6 Z Ao Ah An Ac Ar Af Ag Ap At o_historySize o_wayIsKept ++ wX3 Z An n_nodes n_links n_tunnels n_messages n_areas n_firsts n_seconds n_privates n_entries n_exits n_truth n_facts n_news)) sz [.ref Ao, .int v1, .int v2, .int v3]) (zQi Z res ((wX6 Z Ao Ah An Ac Ar Af Ag Ap At o_historySize o_wayIsKept ++ wX3 Z An n_nodes n_links n_tunnels n_messages n_areas n_firsts n_seconds n_privates n_entries n_exits n_truth n_facts n_news)) (va_A ((wX6 Z Ao Ah An Ac Ar Af Ag Ap At o_historySize o_wayIsKept ++ wX3 Z An n_nodes n_links n_tunnels n_messages n_areas n_firsts n_seconds n_privates n_entries n_exits n_truth n_facts n_news)) sz)) 0 0 (va_A ((wX6 Z Ao Ah An Ac Ar Af Ag Ap At o_historySize o_wayIsKept ++ wX3 Z An n_nodes n_links n_tunnels n_messages n_areas n_firsts n_seconds n_privates n_entries n_exits n_truth n_facts n_news)) sz) := by
  refine zMet (own := RX6) (fun A => zQi Z res ((wX6 Z Ao Ah An Ac Ar Af Ag Ap At o_historySize o_wayIsKept ++ wX3 Z An n_nodes n_links n_tunnels n_messages n_areas n_firsts n_seconds n_privates n_entries n_exits n_truth n_facts n_news)) A) (by decide) rfl (Nat.le_of_ble_eq_true rfl) ?_
  intro p e s m args below meth c ls A E hw hl
  unfold fX6_known at h
  refine r_aload_n E hl 0 rfl dX6_known_0 rfl ?_
  refine r_iload_n E hl 1 rfl dX6_known_1 rfl ?_
  obtain ⟨y1, hy1, h⟩ := bd_some h
  refine r_callVAi E hw (mX6_isNode l Z _ Ao Ah An Ac Ar Af Ag Ap At o_historySize o_wayIsKept n_nodes n_links n_tunnels n_messages n_areas n_firsts n_seconds n_privates n_entries n_exits n_truth n_facts n_news v1 hy1) kL_X6_165 kI_X6_isNode kS_X6_isNode kN_X6 kC_X6_isNode rfl rfl hdX6_isNode ⟨Nat.le_of_ble_eq_true rfl, Nat.le_of_ble_eq_true rfl⟩ 0 rfl rfl rfl rfl hl [] rfl (Nat.le_of_ble_eq_true rfl) dX6_known_2 ⟨Nat.zero_le _, Nat.zero_le _⟩ (fun H locs hw => ?_)
  refine r_if_eq E 16 dX6_known_5 (by decide) (fun hc => ?_) (fun hc => ?_)
  · replace h := ite_t hc h
    refine r_iconst E (-1) dX6_known_16 (by decide) ?_
    obtain rfl := Option.some.inj h
    exact r_iret E hw dX6_known_17
  · replace h := ite_f hc h
    refine r_aload_n E hl 0 rfl dX6_known_8 rfl ?_
    refine r_iload_n E hl 2 rfl dX6_known_9 rfl ?_
    obtain ⟨y2, hy2, h⟩ := bd_some h
    refine r_callVAi E hw (mX6_isItem l Z _ Ao Ah An Ac Ar Af Ag Ap At o_historySize o_wayIsKept n_nodes n_links n_tunnels n_messages n_areas n_firsts n_seconds n_privates n_entries n_exits n_truth n_facts n_news v2 hy2) kL_X6_208 kI_X6_isItem kS_X6_isItem kN_X6 kC_X6_isItem rfl rfl hdX6_isItem ⟨Nat.le_of_ble_eq_true rfl, Nat.le_of_ble_eq_true rfl⟩ 0 rfl rfl rfl rfl hl [] rfl (Nat.le_of_ble_eq_true rfl) dX6_known_10 ⟨Nat.zero_le _, Nat.zero_le _⟩ (fun H locs hw => ?_)
    refine r_if_ne E 18 dX6_known_13 (by decide) (fun hc => ?_) (fun hc => ?_)
    · replace h := ite_f hc h
      refine r_aload_n E hl 0 rfl dX6_known_18 rfl ?_
      refine r_get E kW_X6 hw 0 rfl rfl 0 (by decide) kF_X6_12 rfl dX6_known_19 ?_
      refine r_get E kW_X3 hw 1 rfl rfl 11 (by decide) kF_X6_211 rfl dX6_known_22 ?_
      refine r_iload_n E hl 1 rfl dX6_known_25 rfl ?_
      refine r_iload_n E hl 2 rfl dX6_known_26 rfl ?_
      obtain ⟨y3, hy3, h⟩ := bd_some h
      refine r_callS0i E hw (mX6_place l Z _ v1 v2 hy3) kL_X6_214 kT_X6_place kN_X6 kC_X6_place rfl rfl hdX6_place ⟨Nat.le_of_ble_eq_true rfl, Nat.le_of_ble_eq_true rfl⟩ rfl hl [.ref (An 8)] rfl (Nat.le_of_ble_eq_true rfl) dX6_known_27 ⟨Nat.zero_le _, Nat.zero_le _⟩ (fun H locs hw => ?_)
      obtain ⟨hg4, h⟩ := gd_some h
      refine r_iald E hw 9 rfl hg4 dX6_known_30 ?_
      obtain ⟨w5, hw5, h⟩ := nm_out h
      refine r_nm hw5 ?_
      refine r_istore E [(4, .int w5), (0, .ref Ao), (1, .int v1), (2, .int v2), (3, .int v3)] hl dX6_known_31 (by decide) rfl (fun ls hl => ?_)
      refine r_iload_n E hl 4 rfl dX6_known_33 rfl ?_
      by_cases hc0 : v3 = (0 : Int32)
      · replace h := ite_t hc0 h
        refine r_tabIn E 64 dX6_known_34 (0 : Int32) hc0 (by decide) (by decide) rfl (by decide) ?_
        refine r_iload E hl 0 rfl dX6_known_64 ?_
        obtain ⟨y6, hy6, h⟩ := bd_some h
        refine r_callS0i E hw (mX0_version l Z _ w5 hy6) kL_X6_199 kT_X0_version kN_X0 kC_X0_version rfl rfl hdX0_version ⟨Nat.le_of_ble_eq_true rfl, Nat.le_of_ble_eq_true rfl⟩ rfl hl [] rfl (Nat.le_of_ble_eq_true rfl) dX6_known_66 ⟨Nat.zero_le _, Nat.zero_le _⟩ (fun H locs hw => ?_)
        obtain rfl := Option.some.inj h
        exact r_iret E hw dX6_known_69
      replace h := ite_f hc0 h
      by_cases hc1 : v3 = (1 : Int32)
      · replace h := ite_t hc1 h
        refine r_tabIn E 70 dX6_known_34 (1 : Int32) hc1 (by decide) (by decide) rfl (by decide) ?_
        refine r_iload E hl 0 rfl dX6_known_70 ?_
        refine r_if_ne E 80 dX6_known_72 (by decide) (fun hc => ?_) (fun hc => ?_)
        · replace h := ite_f hc h
          refine r_iload E hl 0 rfl dX6_known_80 ?_
          obtain ⟨y7, hy7, h⟩ := bd_some h
          refine r_callS0i E hw (mX0_state l Z _ w5 hy7) kL_X6_100 kT_X0_state kN_X0 kC_X0_state rfl rfl hdX0_state ⟨Nat.le_of_ble_eq_true rfl, Nat.le_of_ble_eq_true rfl⟩ rfl hl [] rfl (Nat.le_of_ble_eq_true rfl) dX6_known_82 ⟨Nat.zero_le _, Nat.zero_le _⟩ (fun H locs hw => ?_)
          obtain rfl := Option.some.inj h
          exact r_iret E hw dX6_known_85
        · replace h := ite_t hc h
          refine r_bipush E (-9) dX6_known_75 (by decide) ?_
          refine r_goto E 85 dX6_known_77 (by decide) ?_
          obtain rfl := Option.some.inj h
          exact r_iret E hw dX6_known_85
      replace h := ite_f hc1 h
      by_cases hc2 : v3 = (2 : Int32)
      · replace h := ite_t hc2 h
        refine r_tabIn E 86 dX6_known_34 (2 : Int32) hc2 (by decide) (by decide) rfl (by decide) ?_
        refine r_iload E hl 0 rfl dX6_known_86 ?_
        refine r_if_ne E 96 dX6_known_88 (by decide) (fun hc => ?_) (fun hc => ?_)
        · replace h := ite_f hc h
          refine r_iload E hl 0 rfl dX6_known_96 ?_
          obtain ⟨y8, hy8, h⟩ := bd_some h
          refine r_callS0i E hw (mX0_price l Z _ w5 hy8) kL_X6_105 kT_X0_price kN_X0 kC_X0_price rfl rfl hdX0_price ⟨Nat.le_of_ble_eq_true rfl, Nat.le_of_ble_eq_true rfl⟩ rfl hl [] rfl (Nat.le_of_ble_eq_true rfl) dX6_known_98 ⟨Nat.zero_le _, Nat.zero_le _⟩ (fun H locs hw => ?_)
          obtain rfl := Option.some.inj h
          exact r_iret E hw dX6_known_101
        · replace h := ite_t hc h
          refine r_bipush E (-9) dX6_known_91 (by decide) ?_
          refine r_goto E 101 dX6_known_93 (by decide) ?_
          obtain rfl := Option.some.inj h
          exact r_iret E hw dX6_known_101
      replace h := ite_f hc2 h
      by_cases hc3 : v3 = (3 : Int32)
      · replace h := ite_t hc3 h
        refine r_tabIn E 102 dX6_known_34 (3 : Int32) hc3 (by decide) (by decide) rfl (by decide) ?_
        refine r_aload_n E hl 1 rfl dX6_known_102 rfl ?_
        refine r_get E kW_X6 hw 0 rfl rfl 0 (by decide) kF_X6_12 rfl dX6_known_103 ?_
        refine r_iload_n E hl 2 rfl dX6_known_106 rfl ?_
        refine r_iload_n E hl 3 rfl dX6_known_107 rfl ?_
        obtain ⟨y9, hy9, h⟩ := bd_some h
        refine r_callVQi E ((wX6 Z Ao Ah An Ac Ar Af Ag Ap At o_historySize o_wayIsKept ++ wX3 Z An n_nodes n_links n_tunnels n_messages n_areas n_firsts n_seconds n_privates n_entries n_exits n_truth n_facts n_news)) (wX6 Z Ao Ah An Ac Ar Af Ag Ap At o_historySize o_wayIsKept) hw (mX3_isNews l Z _ An n_nodes n_links n_tunnels n_messages n_areas n_firsts n_seconds n_privates n_entries n_exits n_truth n_facts n_news v1 v2 hy9) kL_X6_217 kI_X3_isNews kS_X3_isNews kN_X3 kC_X3_isNews rfl rfl hdX3_isNews ⟨Nat.le_of_ble_eq_true rfl, Nat.le_of_ble_eq_true rfl⟩ (fun f => by simp only [sf_app] <;> omega) (fun f => by simp only [sf_app] <;> omega) 1 rfl rfl rfl rfl hl [] rfl (Nat.le_of_ble_eq_true rfl) dX6_known_108 ⟨Nat.zero_le _, Nat.zero_le _⟩ (fun H locs hw => ?_)
        refine r_if_eq E 118 dX6_known_111 (by decide) (fun hc => ?_) (fun hc => ?_)
        · replace h := ite_t hc h
          refine r_iconst E 0 dX6_known_118 (by decide) ?_
          obtain rfl := Option.some.inj h
          exact r_iret E hw dX6_known_119
        · replace h := ite_f hc h
          refine r_iconst E 1 dX6_known_114 (by decide) ?_
          refine r_goto E 119 dX6_known_115 (by decide) ?_
          obtain rfl := Option.some.inj h
          exact r_iret E hw dX6_known_119
      replace h := ite_f hc3 h
      refine r_tabOut E 120 dX6_known_34 (by have a0 := ne_toInt hc0 (k := 0) (by decide); have a1 := ne_toInt hc1 (k := 1) (by decide); have a2 := ne_toInt hc2 (k := 2) (by decide); have a3 := ne_toInt hc3 (k := 3) (by decide); omega) (by decide) ?_
      refine r_iconst E (-1) dX6_known_120 (by decide) ?_
      obtain rfl := Option.some.inj h
      exact r_iret E hw dX6_known_121
    · replace h := ite_t hc h
      refine r_iconst E (-1) dX6_known_16 (by decide) ?_
      obtain rfl := Option.some.inj h
      exact r_iret E hw dX6_known_17
abbrev rmX6_distance : Room := { frames := 4, cells := 0, slots := 0, locals := 92 }

set_option maxRecDepth 100000 in
set_option maxHeartbeats 4000000 in
theorem mX6_distance (l : Launch) (Z : zT) (sz : Nat) (Ao : Nat) (Ah : Nat) (An : Nat → Nat) (Ac : Nat → Nat) (Ar : Nat → Nat) (Af : Nat → Nat) (Ag : Nat → Nat) (Ap : Nat → Nat) (At : Nat → Nat) (o_historySize : Int32) (o_wayIsKept : Int32) (n_nodes : Int32) (n_links : Int32) (n_tunnels : Int32) (n_messages : Int32) (n_areas : (Nat → Int32)) (n_firsts : (Nat → Int32)) (n_seconds : (Nat → Int32)) (n_privates : (Nat → Int32)) (n_entries : (Nat → Int32)) (n_exits : (Nat → Int32)) (n_truth : (Nat → Int32)) (n_facts : (Nat → Int32)) (n_news : (Nat → Int64)) (g_nodes : Int32) (g_edges : Int32) (g_starts : (Nat → Int32)) (g_ends : (Nat → Int32)) (g_lengths : (Nat → Int32)) (g_items : (Nat → Int32)) (g_remaining : (Nat → Int32)) (v1 : Int32) (v2 : Int32) (v3 : Int32) {res : Int32 × Int32 × Int32 × (Nat → Int32) × (Nat → Int32) × (Nat → Int32) × (Nat → Int32) × (Nat → Int32)} (h : fX6_distance v1 v2 v3 n_nodes n_links n_tunnels n_areas n_firsts n_seconds n_privates n_entries n_exits n_facts g_nodes g_edges g_starts g_ends g_lengths g_items g_remaining = some res) : Met l yX6_distance (Cond.code yX6_distance cX6_distance 4 (some .int) :: zWs) rmX6_distance (zP Z ((wX6 Z Ao Ah An Ac Ar Af Ag Ap At o_historySize o_wayIsKept ++ wX3 Z An n_nodes n_links n_tunnels n_messages n_areas n_firsts n_seconds n_privates n_entries n_exits n_truth n_facts n_news ++ wX2 Z Ag g_nodes g_edges g_starts g_ends g_lengths g_items g_remaining)) sz [.ref Ao, .int v1, .int v2, .int v3]) (zQi Z res.1 ((wX6 Z Ao Ah An Ac Ar Af Ag Ap At o_historySize o_wayIsKept ++ wX3 Z An n_nodes n_links n_tunnels n_messages n_areas n_firsts n_seconds n_privates n_entries n_exits n_truth n_facts n_news ++ wX2 Z Ag res.2.1 res.2.2.1 res.2.2.2.1 res.2.2.2.2.1 res.2.2.2.2.2.1 res.2.2.2.2.2.2.1 res.2.2.2.2.2.2.2)) (va_A ((wX6 Z Ao Ah An Ac Ar Af Ag Ap At o_historySize o_wayIsKept ++ wX3 Z An n_nodes n_links n_tunnels n_messages n_areas n_firsts n_seconds n_privates n_entries n_exits n_truth n_facts n_news ++ wX2 Z Ag g_nodes g_edges g_starts g_ends g_lengths g_items g_remaining)) sz)) 0 0 (va_A ((wX6 Z Ao Ah An Ac Ar Af Ag Ap At o_historySize o_wayIsKept ++ wX3 Z An n_nodes n_links n_tunnels n_messages n_areas n_firsts n_seconds n_privates n_entries n_exits n_truth n_facts n_news ++ wX2 Z Ag g_nodes g_edges g_starts g_ends g_lengths g_items g_remaining)) sz) := by
  refine zMet (own := RX6) (fun A => zQi Z res.1 ((wX6 Z Ao Ah An Ac Ar Af Ag Ap At o_historySize o_wayIsKept ++ wX3 Z An n_nodes n_links n_tunnels n_messages n_areas n_firsts n_seconds n_privates n_entries n_exits n_truth n_facts n_news ++ wX2 Z Ag res.2.1 res.2.2.1 res.2.2.2.1 res.2.2.2.2.1 res.2.2.2.2.2.1 res.2.2.2.2.2.2.1 res.2.2.2.2.2.2.2)) A) (by decide) rfl (Nat.le_of_ble_eq_true rfl) ?_
  intro p e s m args below meth c ls A E hw hl
  unfold fX6_distance at h
  refine r_aload_n E hl 0 rfl dX6_distance_0 rfl ?_
  refine r_iload_n E hl 1 rfl dX6_distance_1 rfl ?_
  obtain ⟨y1, hy1, h⟩ := bd_some h
  refine r_callVQi E ((wX6 Z Ao Ah An Ac Ar Af Ag Ap At o_historySize o_wayIsKept ++ wX3 Z An n_nodes n_links n_tunnels n_messages n_areas n_firsts n_seconds n_privates n_entries n_exits n_truth n_facts n_news ++ wX2 Z Ag g_nodes g_edges g_starts g_ends g_lengths g_items g_remaining)) (wX2 Z Ag g_nodes g_edges g_starts g_ends g_lengths g_items g_remaining) hw (mX6_isNode l Z _ Ao Ah An Ac Ar Af Ag Ap At o_historySize o_wayIsKept n_nodes n_links n_tunnels n_messages n_areas n_firsts n_seconds n_privates n_entries n_exits n_truth n_facts n_news v1 hy1) kL_X6_165 kI_X6_isNode kS_X6_isNode kN_X6 kC_X6_isNode rfl rfl hdX6_isNode ⟨Nat.le_of_ble_eq_true rfl, Nat.le_of_ble_eq_true rfl⟩ (fun f => by simp only [sf_app] <;> omega) (fun f => by simp only [sf_app] <;> omega) 0 rfl rfl rfl rfl hl [] rfl (Nat.le_of_ble_eq_true rfl) dX6_distance_2 ⟨Nat.zero_le _, Nat.zero_le _⟩ (fun H locs hw => ?_)
  refine r_if_eq E 23 dX6_distance_5 (by decide) (fun hc => ?_) (fun hc => ?_)
  · replace h := ite_t hc h
    refine r_iconst E (-1) dX6_distance_23 (by decide) ?_
    obtain rfl := Option.some.inj h
    exact r_iret E hw dX6_distance_24
  · replace h := ite_f hc h
    refine r_aload_n E hl 0 rfl dX6_distance_8 rfl ?_
    refine r_iload_n E hl 2 rfl dX6_distance_9 rfl ?_
    obtain ⟨y2, hy2, h⟩ := bd_some h
    refine r_callVQi E ((wX6 Z Ao Ah An Ac Ar Af Ag Ap At o_historySize o_wayIsKept ++ wX3 Z An n_nodes n_links n_tunnels n_messages n_areas n_firsts n_seconds n_privates n_entries n_exits n_truth n_facts n_news ++ wX2 Z Ag g_nodes g_edges g_starts g_ends g_lengths g_items g_remaining)) (wX2 Z Ag g_nodes g_edges g_starts g_ends g_lengths g_items g_remaining) hw (mX6_isNode l Z _ Ao Ah An Ac Ar Af Ag Ap At o_historySize o_wayIsKept n_nodes n_links n_tunnels n_messages n_areas n_firsts n_seconds n_privates n_entries n_exits n_truth n_facts n_news v2 hy2) kL_X6_165 kI_X6_isNode kS_X6_isNode kN_X6 kC_X6_isNode rfl rfl hdX6_isNode ⟨Nat.le_of_ble_eq_true rfl, Nat.le_of_ble_eq_true rfl⟩ (fun f => by simp only [sf_app] <;> omega) (fun f => by simp only [sf_app] <;> omega) 0 rfl rfl rfl rfl hl [] rfl (Nat.le_of_ble_eq_true rfl) dX6_distance_10 ⟨Nat.zero_le _, Nat.zero_le _⟩ (fun H locs hw => ?_)
    refine r_if_eq E 23 dX6_distance_13 (by decide) (fun hc => ?_) (fun hc => ?_)
    · replace h := ite_t hc h
      refine r_iconst E (-1) dX6_distance_23 (by decide) ?_
      obtain rfl := Option.some.inj h
      exact r_iret E hw dX6_distance_24
    · replace h := ite_f hc h
      refine r_iload_n E hl 3 rfl dX6_distance_16 rfl ?_
      obtain ⟨y3, hy3, h⟩ := bd_some h
      refine r_callS0i E hw (mX6_isArea l Z _ v3 hy3) kL_X6_62 kT_X6_isArea kN_X6 kC_X6_isArea rfl rfl hdX6_isArea ⟨Nat.le_of_ble_eq_true rfl, Nat.le_of_ble_eq_true rfl⟩ rfl hl [] rfl (Nat.le_of_ble_eq_true rfl) dX6_distance_17 ⟨Nat.zero_le _, Nat.zero_le _⟩ (fun H locs hw => ?_)
      refine r_if_ne E 25 dX6_distance_20 (by decide) (fun hc => ?_) (fun hc => ?_)
      · replace h := ite_f hc h
        refine r_aload_n E hl 0 rfl dX6_distance_25 rfl ?_
        refine r_get E kW_X6 hw 0 rfl rfl 6 (by decide) kF_X6_44 rfl dX6_distance_26 ?_
        refine r_aload_n E hl 0 rfl dX6_distance_29 rfl ?_
        refine r_get E kW_X6 hw 0 rfl rfl 0 (by decide) kF_X6_12 rfl dX6_distance_30 ?_
        refine r_iload_n E hl 1 rfl dX6_distance_33 rfl ?_
        refine r_iload_n E hl 3 rfl dX6_distance_34 rfl ?_
        refine r_iconst E 1 dX6_distance_35 (by decide) ?_
        obtain ⟨y4, hy4, h⟩ := bd_some h
        refine r_callVQv E ((wX6 Z Ao Ah An Ac Ar Af Ag Ap At o_historySize o_wayIsKept ++ wX3 Z An n_nodes n_links n_tunnels n_messages n_areas n_firsts n_seconds n_privates n_entries n_exits n_truth n_facts n_news ++ wX2 Z Ag y4.1 y4.2.1 y4.2.2.1 y4.2.2.2.1 y4.2.2.2.2.1 y4.2.2.2.2.2 g_remaining)) (wX6 Z Ao Ah An Ac Ar Af Ag Ap At o_historySize o_wayIsKept) hw (mX2_takeView l Z _ Ag An g_nodes g_edges g_starts g_ends g_lengths g_items g_remaining n_nodes n_links n_tunnels n_messages n_areas n_firsts n_seconds n_privates n_entries n_exits n_truth n_facts n_news v1 v3 (1 : Int32) hy4) kL_X6_220 kI_X2_takeView kS_X2_takeView kN_X2 kC_X2_takeView rfl rfl hdX2_takeView ⟨Nat.le_of_ble_eq_true rfl, Nat.le_of_ble_eq_true rfl⟩ (fun f => by simp only [sf_app] <;> omega) (fun f => by simp only [sf_app] <;> omega) 11 rfl rfl rfl rfl hl [] rfl (Nat.le_of_ble_eq_true rfl) dX6_distance_36 ⟨Nat.zero_le _, Nat.zero_le _⟩ (fun H locs hw => ?_)
        refine r_aload_n E hl 0 rfl dX6_distance_39 rfl ?_
        refine r_get E kW_X6 hw 0 rfl rfl 6 (by decide) kF_X6_44 rfl dX6_distance_40 ?_
        refine r_iload_n E hl 2 rfl dX6_distance_43 rfl ?_
        obtain ⟨y5, hy5, h⟩ := bd_some h
        refine r_callVQv E ((wX6 Z Ao Ah An Ac Ar Af Ag Ap At o_historySize o_wayIsKept ++ wX3 Z An n_nodes n_links n_tunnels n_messages n_areas n_firsts n_seconds n_privates n_entries n_exits n_truth n_facts n_news ++ wX2 Z Ag y4.1 y4.2.1 y4.2.2.1 y4.2.2.2.1 y4.2.2.2.2.1 y4.2.2.2.2.2 y5)) (wX6 Z Ao Ah An Ac Ar Af Ag Ap At o_historySize o_wayIsKept ++ wX3 Z An n_nodes n_links n_tunnels n_messages n_areas n_firsts n_seconds n_privates n_entries n_exits n_truth n_facts n_news) hw (mX2_measureTo l Z _ Ag y4.1 y4.2.1 y4.2.2.1 y4.2.2.2.1 y4.2.2.2.2.1 y4.2.2.2.2.2 g_remaining v2 hy5) kL_X6_224 kI_X2_measureTo kS_X2_measureTo kN_X2 kC_X2_measureTo rfl rfl hdX2_measureTo ⟨Nat.le_of_ble_eq_true rfl, Nat.le_of_ble_eq_true rfl⟩ (fun f => by simp only [sf_app] <;> omega) (fun f => by simp only [sf_app] <;> omega) 11 rfl rfl rfl rfl hl [] rfl (Nat.le_of_ble_eq_true rfl) dX6_distance_44 ⟨Nat.zero_le _, Nat.zero_le _⟩ (fun H locs hw => ?_)
        refine r_aload_n E hl 0 rfl dX6_distance_47 rfl ?_
        refine r_get E kW_X6 hw 0 rfl rfl 6 (by decide) kF_X6_44 rfl dX6_distance_48 ?_
        refine r_iload_n E hl 1 rfl dX6_distance_51 rfl ?_
        obtain ⟨y6, hy6, h⟩ := bd_some h
        refine r_callVQi E ((wX6 Z Ao Ah An Ac Ar Af Ag Ap At o_historySize o_wayIsKept ++ wX3 Z An n_nodes n_links n_tunnels n_messages n_areas n_firsts n_seconds n_privates n_entries n_exits n_truth n_facts n_news ++ wX2 Z Ag y4.1 y4.2.1 y4.2.2.1 y4.2.2.2.1 y4.2.2.2.2.1 y4.2.2.2.2.2 y5)) (wX6 Z Ao Ah An Ac Ar Af Ag Ap At o_historySize o_wayIsKept ++ wX3 Z An n_nodes n_links n_tunnels n_messages n_areas n_firsts n_seconds n_privates n_entries n_exits n_truth n_facts n_news) hw (mX2_costFrom l Z _ Ag y4.1 y4.2.1 y4.2.2.1 y4.2.2.2.1 y4.2.2.2.2.1 y4.2.2.2.2.2 y5 v1 hy6) kL_X6_228 kI_X2_costFrom kS_X2_costFrom kN_X2 kC_X2_costFrom rfl rfl hdX2_costFrom ⟨Nat.le_of_ble_eq_true rfl, Nat.le_of_ble_eq_true rfl⟩ (fun f => by simp only [sf_app] <;> omega) (fun f => by simp only [sf_app] <;> omega) 11 rfl rfl rfl rfl hl [] rfl (Nat.le_of_ble_eq_true rfl) dX6_distance_52 ⟨Nat.zero_le _, Nat.zero_le _⟩ (fun H locs hw => ?_)
        obtain rfl := Option.some.inj h
        exact r_iret E hw dX6_distance_55
      · replace h := ite_t hc h
        refine r_iconst E (-1) dX6_distance_23 (by decide) ?_
        obtain rfl := Option.some.inj h
        exact r_iret E hw dX6_distance_24
abbrev rmX6_next : Room := { frames := 4, cells := 0, slots := 0, locals := 92 }

set_option maxRecDepth 100000 in
set_option maxHeartbeats 4000000 in
theorem mX6_next (l : Launch) (Z : zT) (sz : Nat) (Ao : Nat) (Ah : Nat) (An : Nat → Nat) (Ac : Nat → Nat) (Ar : Nat → Nat) (Af : Nat → Nat) (Ag : Nat → Nat) (Ap : Nat → Nat) (At : Nat → Nat) (o_historySize : Int32) (o_wayIsKept : Int32) (n_nodes : Int32) (n_links : Int32) (n_tunnels : Int32) (n_messages : Int32) (n_areas : (Nat → Int32)) (n_firsts : (Nat → Int32)) (n_seconds : (Nat → Int32)) (n_privates : (Nat → Int32)) (n_entries : (Nat → Int32)) (n_exits : (Nat → Int32)) (n_truth : (Nat → Int32)) (n_facts : (Nat → Int32)) (n_news : (Nat → Int64)) (g_nodes : Int32) (g_edges : Int32) (g_starts : (Nat → Int32)) (g_ends : (Nat → Int32)) (g_lengths : (Nat → Int32)) (g_items : (Nat → Int32)) (g_remaining : (Nat → Int32)) (v1 : Int32) (v2 : Int32) (v3 : Int32) (v4 : Int32) {res : Int32 × Int32 × Int32 × (Nat → Int32) × (Nat → Int32) × (Nat → Int32) × (Nat → Int32) × (Nat → Int32)} (h : fX6_next v1 v2 v3 v4 n_nodes n_links n_tunnels n_areas n_firsts n_seconds n_privates n_entries n_exits n_facts g_nodes g_edges g_starts g_ends g_lengths g_items g_remaining = some res) : Met l yX6_next (Cond.code yX6_next cX6_next 6 (some .int) :: zWs) rmX6_next (zP Z ((wX6 Z Ao Ah An Ac Ar Af Ag Ap At o_historySize o_wayIsKept ++ wX3 Z An n_nodes n_links n_tunnels n_messages n_areas n_firsts n_seconds n_privates n_entries n_exits n_truth n_facts n_news ++ wX2 Z Ag g_nodes g_edges g_starts g_ends g_lengths g_items g_remaining)) sz [.ref Ao, .int v1, .int v2, .int v3, .int v4]) (zQi Z res.1 ((wX6 Z Ao Ah An Ac Ar Af Ag Ap At o_historySize o_wayIsKept ++ wX3 Z An n_nodes n_links n_tunnels n_messages n_areas n_firsts n_seconds n_privates n_entries n_exits n_truth n_facts n_news ++ wX2 Z Ag res.2.1 res.2.2.1 res.2.2.2.1 res.2.2.2.2.1 res.2.2.2.2.2.1 res.2.2.2.2.2.2.1 res.2.2.2.2.2.2.2)) (va_A ((wX6 Z Ao Ah An Ac Ar Af Ag Ap At o_historySize o_wayIsKept ++ wX3 Z An n_nodes n_links n_tunnels n_messages n_areas n_firsts n_seconds n_privates n_entries n_exits n_truth n_facts n_news ++ wX2 Z Ag g_nodes g_edges g_starts g_ends g_lengths g_items g_remaining)) sz)) 0 0 (va_A ((wX6 Z Ao Ah An Ac Ar Af Ag Ap At o_historySize o_wayIsKept ++ wX3 Z An n_nodes n_links n_tunnels n_messages n_areas n_firsts n_seconds n_privates n_entries n_exits n_truth n_facts n_news ++ wX2 Z Ag g_nodes g_edges g_starts g_ends g_lengths g_items g_remaining)) sz) := by
  refine zMet (own := RX6) (fun A => zQi Z res.1 ((wX6 Z Ao Ah An Ac Ar Af Ag Ap At o_historySize o_wayIsKept ++ wX3 Z An n_nodes n_links n_tunnels n_messages n_areas n_firsts n_seconds n_privates n_entries n_exits n_truth n_facts n_news ++ wX2 Z Ag res.2.1 res.2.2.1 res.2.2.2.1 res.2.2.2.2.1 res.2.2.2.2.2.1 res.2.2.2.2.2.2.1 res.2.2.2.2.2.2.2)) A) (by decide) rfl (Nat.le_of_ble_eq_true rfl) ?_
  intro p e s m args below meth c ls A E hw hl
  unfold fX6_next at h
  refine r_aload_n E hl 0 rfl dX6_next_0 rfl ?_
  refine r_iload_n E hl 1 rfl dX6_next_1 rfl ?_
  refine r_iload_n E hl 2 rfl dX6_next_2 rfl ?_
  obtain ⟨y1, hy1, h⟩ := bd_some h
  refine r_callVQi E ((wX6 Z Ao Ah An Ac Ar Af Ag Ap At o_historySize o_wayIsKept ++ wX3 Z An n_nodes n_links n_tunnels n_messages n_areas n_firsts n_seconds n_privates n_entries n_exits n_truth n_facts n_news ++ wX2 Z Ag g_nodes g_edges g_starts g_ends g_lengths g_items g_remaining)) (wX2 Z Ag g_nodes g_edges g_starts g_ends g_lengths g_items g_remaining) hw (mX6_isPair l Z _ Ao Ah An Ac Ar Af Ag Ap At o_historySize o_wayIsKept n_nodes n_links n_tunnels n_messages n_areas n_firsts n_seconds n_privates n_entries n_exits n_truth n_facts n_news v1 v2 hy1) kL_X6_76 kI_X6_isPair kS_X6_isPair kN_X6 kC_X6_isPair rfl rfl hdX6_isPair ⟨Nat.le_of_ble_eq_true rfl, Nat.le_of_ble_eq_true rfl⟩ (fun f => by simp only [sf_app] <;> omega) (fun f => by simp only [sf_app] <;> omega) 0 rfl rfl rfl rfl hl [] rfl (Nat.le_of_ble_eq_true rfl) dX6_next_3 ⟨Nat.zero_le _, Nat.zero_le _⟩ (fun H locs hw => ?_)
  refine r_if_eq E 24 dX6_next_6 (by decide) (fun hc => ?_) (fun hc => ?_)
  · replace h := ite_t hc h
    refine r_iconst E (-1) dX6_next_24 (by decide) ?_
    obtain rfl := Option.some.inj h
    exact r_iret E hw dX6_next_25
  · replace h := ite_f hc h
    refine r_iload_n E hl 3 rfl dX6_next_9 rfl ?_
    obtain ⟨y2, hy2, h⟩ := bd_some h
    refine r_callS0i E hw (mX6_isArea l Z _ v3 hy2) kL_X6_62 kT_X6_isArea kN_X6 kC_X6_isArea rfl rfl hdX6_isArea ⟨Nat.le_of_ble_eq_true rfl, Nat.le_of_ble_eq_true rfl⟩ rfl hl [] rfl (Nat.le_of_ble_eq_true rfl) dX6_next_10 ⟨Nat.zero_le _, Nat.zero_le _⟩ (fun H locs hw => ?_)
    refine r_if_eq E 24 dX6_next_13 (by decide) (fun hc => ?_) (fun hc => ?_)
    · replace h := ite_t hc h
      refine r_iconst E (-1) dX6_next_24 (by decide) ?_
      obtain rfl := Option.some.inj h
      exact r_iret E hw dX6_next_25
    · replace h := ite_f hc h
      refine r_iload E hl 4 rfl dX6_next_16 ?_
      obtain ⟨y3, hy3, h⟩ := bd_some h
      refine r_callS0i E hw (mX6_isFlag l Z _ v4 hy3) kL_X6_83 kT_X6_isFlag kN_X6 kC_X6_isFlag rfl rfl hdX6_isFlag ⟨Nat.le_of_ble_eq_true rfl, Nat.le_of_ble_eq_true rfl⟩ rfl hl [] rfl (Nat.le_of_ble_eq_true rfl) dX6_next_18 ⟨Nat.zero_le _, Nat.zero_le _⟩ (fun H locs hw => ?_)
      refine r_if_ne E 26 dX6_next_21 (by decide) (fun hc => ?_) (fun hc => ?_)
      · replace h := ite_f hc h
        refine r_aload_n E hl 0 rfl dX6_next_26 rfl ?_
        refine r_get E kW_X6 hw 0 rfl rfl 6 (by decide) kF_X6_44 rfl dX6_next_27 ?_
        refine r_aload_n E hl 0 rfl dX6_next_30 rfl ?_
        refine r_get E kW_X6 hw 0 rfl rfl 0 (by decide) kF_X6_12 rfl dX6_next_31 ?_
        refine r_iload_n E hl 1 rfl dX6_next_34 rfl ?_
        refine r_iload_n E hl 3 rfl dX6_next_35 rfl ?_
        refine r_iconst E 1 dX6_next_36 (by decide) ?_
        obtain ⟨y4, hy4, h⟩ := bd_some h
        refine r_callVQv E ((wX6 Z Ao Ah An Ac Ar Af Ag Ap At o_historySize o_wayIsKept ++ wX3 Z An n_nodes n_links n_tunnels n_messages n_areas n_firsts n_seconds n_privates n_entries n_exits n_truth n_facts n_news ++ wX2 Z Ag y4.1 y4.2.1 y4.2.2.1 y4.2.2.2.1 y4.2.2.2.2.1 y4.2.2.2.2.2 g_remaining)) (wX6 Z Ao Ah An Ac Ar Af Ag Ap At o_historySize o_wayIsKept) hw (mX2_takeView l Z _ Ag An g_nodes g_edges g_starts g_ends g_lengths g_items g_remaining n_nodes n_links n_tunnels n_messages n_areas n_firsts n_seconds n_privates n_entries n_exits n_truth n_facts n_news v1 v3 (1 : Int32) hy4) kL_X6_220 kI_X2_takeView kS_X2_takeView kN_X2 kC_X2_takeView rfl rfl hdX2_takeView ⟨Nat.le_of_ble_eq_true rfl, Nat.le_of_ble_eq_true rfl⟩ (fun f => by simp only [sf_app] <;> omega) (fun f => by simp only [sf_app] <;> omega) 11 rfl rfl rfl rfl hl [] rfl (Nat.le_of_ble_eq_true rfl) dX6_next_37 ⟨Nat.zero_le _, Nat.zero_le _⟩ (fun H locs hw => ?_)
        refine r_aload_n E hl 0 rfl dX6_next_40 rfl ?_
        refine r_get E kW_X6 hw 0 rfl rfl 6 (by decide) kF_X6_44 rfl dX6_next_41 ?_
        refine r_iload_n E hl 2 rfl dX6_next_44 rfl ?_
        obtain ⟨y5, hy5, h⟩ := bd_some h
        refine r_callVQv E ((wX6 Z Ao Ah An Ac Ar Af Ag Ap At o_historySize o_wayIsKept ++ wX3 Z An n_nodes n_links n_tunnels n_messages n_areas n_firsts n_seconds n_privates n_entries n_exits n_truth n_facts n_news ++ wX2 Z Ag y4.1 y4.2.1 y4.2.2.1 y4.2.2.2.1 y4.2.2.2.2.1 y4.2.2.2.2.2 y5)) (wX6 Z Ao Ah An Ac Ar Af Ag Ap At o_historySize o_wayIsKept ++ wX3 Z An n_nodes n_links n_tunnels n_messages n_areas n_firsts n_seconds n_privates n_entries n_exits n_truth n_facts n_news) hw (mX2_measureTo l Z _ Ag y4.1 y4.2.1 y4.2.2.1 y4.2.2.2.1 y4.2.2.2.2.1 y4.2.2.2.2.2 g_remaining v2 hy5) kL_X6_224 kI_X2_measureTo kS_X2_measureTo kN_X2 kC_X2_measureTo rfl rfl hdX2_measureTo ⟨Nat.le_of_ble_eq_true rfl, Nat.le_of_ble_eq_true rfl⟩ (fun f => by simp only [sf_app] <;> omega) (fun f => by simp only [sf_app] <;> omega) 11 rfl rfl rfl rfl hl [] rfl (Nat.le_of_ble_eq_true rfl) dX6_next_45 ⟨Nat.zero_le _, Nat.zero_le _⟩ (fun H locs hw => ?_)
        refine r_aload_n E hl 0 rfl dX6_next_48 rfl ?_
        refine r_get E kW_X6 hw 0 rfl rfl 6 (by decide) kF_X6_44 rfl dX6_next_49 ?_
        refine r_iload_n E hl 1 rfl dX6_next_52 rfl ?_
        obtain ⟨y6, hy6, h⟩ := bd_some h
        refine r_callVQi E ((wX6 Z Ao Ah An Ac Ar Af Ag Ap At o_historySize o_wayIsKept ++ wX3 Z An n_nodes n_links n_tunnels n_messages n_areas n_firsts n_seconds n_privates n_entries n_exits n_truth n_facts n_news ++ wX2 Z Ag y4.1 y4.2.1 y4.2.2.1 y4.2.2.2.1 y4.2.2.2.2.1 y4.2.2.2.2.2 y5)) (wX6 Z Ao Ah An Ac Ar Af Ag Ap At o_historySize o_wayIsKept ++ wX3 Z An n_nodes n_links n_tunnels n_messages n_areas n_firsts n_seconds n_privates n_entries n_exits n_truth n_facts n_news) hw (mX2_firstEdge l Z _ Ag y4.1 y4.2.1 y4.2.2.1 y4.2.2.2.1 y4.2.2.2.2.1 y4.2.2.2.2.2 y5 v1 hy6) kL_X6_231 kI_X2_firstEdge kS_X2_firstEdge kN_X2 kC_X2_firstEdge rfl rfl hdX2_firstEdge ⟨Nat.le_of_ble_eq_true rfl, Nat.le_of_ble_eq_true rfl⟩ (fun f => by simp only [sf_app] <;> omega) (fun f => by simp only [sf_app] <;> omega) 11 rfl rfl rfl rfl hl [] rfl (Nat.le_of_ble_eq_true rfl) dX6_next_53 ⟨Nat.zero_le _, Nat.zero_le _⟩ (fun H locs hw => ?_)
        refine r_istore E [(5, .int y6), (0, .ref Ao), (1, .int v1), (2, .int v2), (3, .int v3), (4, .int v4)] hl dX6_next_56 (by decide) rfl (fun ls hl => ?_)
        refine r_iload E hl 0 rfl dX6_next_58 ?_
        refine r_if_ge E 66 dX6_next_60 (by decide) (fun hc => ?_) (fun hc => ?_)
        · replace h := ite_t hc h
          refine r_iload E hl 5 rfl dX6_next_66 ?_
          refine r_if_ne E 84 dX6_next_68 (by decide) (fun hc => ?_) (fun hc => ?_)
          · replace h := ite_f hc h
            refine r_aload_n E hl 1 rfl dX6_next_84 rfl ?_
            refine r_get E kW_X6 hw 0 rfl rfl 6 (by decide) kF_X6_44 rfl dX6_next_85 ?_
            refine r_get E kW_X2 hw 11 rfl rfl 5 (by decide) kF_X6_237 rfl dX6_next_88 ?_
            refine r_iload E hl 0 rfl dX6_next_91 ?_
            obtain ⟨hg7, h⟩ := gd_some h
            refine r_iald E hw 15 rfl hg7 dX6_next_93 ?_
            obtain rfl := Option.some.inj h
            exact r_iret E hw dX6_next_94
          · replace h := ite_t hc h
            refine r_aload_n E hl 1 rfl dX6_next_71 rfl ?_
            refine r_get E kW_X6 hw 0 rfl rfl 6 (by decide) kF_X6_44 rfl dX6_next_72 ?_
            refine r_get E kW_X2 hw 11 rfl rfl 3 (by decide) kF_X6_234 rfl dX6_next_75 ?_
            refine r_iload E hl 0 rfl dX6_next_78 ?_
            obtain ⟨hg8, h⟩ := gd_some h
            refine r_iald E hw 13 rfl hg8 dX6_next_80 ?_
            refine r_goto E 94 dX6_next_81 (by decide) ?_
            obtain rfl := Option.some.inj h
            exact r_iret E hw dX6_next_94
        · replace h := ite_f hc h
          refine r_bipush E (-9) dX6_next_63 (by decide) ?_
          obtain rfl := Option.some.inj h
          exact r_iret E hw dX6_next_65
      · replace h := ite_t hc h
        refine r_iconst E (-1) dX6_next_24 (by decide) ?_
        obtain rfl := Option.some.inj h
        exact r_iret E hw dX6_next_25
abbrev rmX6_send : Room := { frames := 6, cells := 0, slots := 0, locals := 143 }

set_option maxRecDepth 100000 in
set_option maxHeartbeats 4000000 in
theorem mX6_send (l : Launch) (Z : zT) (sz : Nat) (Ao : Nat) (Ah : Nat) (An : Nat → Nat) (Ac : Nat → Nat) (Ar : Nat → Nat) (Af : Nat → Nat) (Ag : Nat → Nat) (Ap : Nat → Nat) (At : Nat → Nat) (o_historySize : Int32) (o_wayIsKept : Int32) (n_nodes : Int32) (n_links : Int32) (n_tunnels : Int32) (n_messages : Int32) (n_areas : (Nat → Int32)) (n_firsts : (Nat → Int32)) (n_seconds : (Nat → Int32)) (n_privates : (Nat → Int32)) (n_entries : (Nat → Int32)) (n_exits : (Nat → Int32)) (n_truth : (Nat → Int32)) (n_facts : (Nat → Int32)) (n_news : (Nat → Int64)) (g_nodes : Int32) (g_edges : Int32) (g_starts : (Nat → Int32)) (g_ends : (Nat → Int32)) (g_lengths : (Nat → Int32)) (g_items : (Nat → Int32)) (g_remaining : (Nat → Int32)) (p_crossed : Int32) (p_cost : Int32) (p_stops : (Nat → Int32)) (p_at : Int32) (p_area : Int32) (p_exit : Int32) (v1 : Int32) (v2 : Int32) {res : Int32 × Int32 × Int32 × Int32 × (Nat → Int32) × (Nat → Int32) × (Nat → Int32) × (Nat → Int32) × (Nat → Int32) × Int32 × Int32 × (Nat → Int32) × Int32 × Int32 × Int32} (h : fX6_send v1 v2 o_wayIsKept n_nodes n_links n_tunnels n_areas n_firsts n_seconds n_privates n_entries n_exits n_truth n_facts g_nodes g_edges g_starts g_ends g_lengths g_items g_remaining p_crossed p_cost p_stops p_at p_area p_exit = some res) : Met l yX6_send (Cond.code yX6_send cX6_send 3 (some .int) :: zWs) rmX6_send (zP Z ((wX6 Z Ao Ah An Ac Ar Af Ag Ap At o_historySize o_wayIsKept ++ wX3 Z An n_nodes n_links n_tunnels n_messages n_areas n_firsts n_seconds n_privates n_entries n_exits n_truth n_facts n_news ++ wX2 Z Ag g_nodes g_edges g_starts g_ends g_lengths g_items g_remaining ++ wX4 Z Ap p_crossed p_cost p_stops p_at p_area p_exit)) sz [.ref Ao, .int v1, .int v2]) (zQi Z res.1 ((wX6 Z Ao Ah An Ac Ar Af Ag Ap At o_historySize res.2.1 ++ wX3 Z An n_nodes n_links n_tunnels n_messages n_areas n_firsts n_seconds n_privates n_entries n_exits n_truth n_facts n_news ++ wX2 Z Ag res.2.2.1 res.2.2.2.1 res.2.2.2.2.1 res.2.2.2.2.2.1 res.2.2.2.2.2.2.1 res.2.2.2.2.2.2.2.1 res.2.2.2.2.2.2.2.2.1 ++ wX4 Z Ap res.2.2.2.2.2.2.2.2.2.1 res.2.2.2.2.2.2.2.2.2.2.1 res.2.2.2.2.2.2.2.2.2.2.2.1 res.2.2.2.2.2.2.2.2.2.2.2.2.1 res.2.2.2.2.2.2.2.2.2.2.2.2.2.1 res.2.2.2.2.2.2.2.2.2.2.2.2.2.2)) (va_A ((wX6 Z Ao Ah An Ac Ar Af Ag Ap At o_historySize o_wayIsKept ++ wX3 Z An n_nodes n_links n_tunnels n_messages n_areas n_firsts n_seconds n_privates n_entries n_exits n_truth n_facts n_news ++ wX2 Z Ag g_nodes g_edges g_starts g_ends g_lengths g_items g_remaining ++ wX4 Z Ap p_crossed p_cost p_stops p_at p_area p_exit)) sz)) 0 0 (va_A ((wX6 Z Ao Ah An Ac Ar Af Ag Ap At o_historySize o_wayIsKept ++ wX3 Z An n_nodes n_links n_tunnels n_messages n_areas n_firsts n_seconds n_privates n_entries n_exits n_truth n_facts n_news ++ wX2 Z Ag g_nodes g_edges g_starts g_ends g_lengths g_items g_remaining ++ wX4 Z Ap p_crossed p_cost p_stops p_at p_area p_exit)) sz) := by
  refine zMet (own := RX6) (fun A => zQi Z res.1 ((wX6 Z Ao Ah An Ac Ar Af Ag Ap At o_historySize res.2.1 ++ wX3 Z An n_nodes n_links n_tunnels n_messages n_areas n_firsts n_seconds n_privates n_entries n_exits n_truth n_facts n_news ++ wX2 Z Ag res.2.2.1 res.2.2.2.1 res.2.2.2.2.1 res.2.2.2.2.2.1 res.2.2.2.2.2.2.1 res.2.2.2.2.2.2.2.1 res.2.2.2.2.2.2.2.2.1 ++ wX4 Z Ap res.2.2.2.2.2.2.2.2.2.1 res.2.2.2.2.2.2.2.2.2.2.1 res.2.2.2.2.2.2.2.2.2.2.2.1 res.2.2.2.2.2.2.2.2.2.2.2.2.1 res.2.2.2.2.2.2.2.2.2.2.2.2.2.1 res.2.2.2.2.2.2.2.2.2.2.2.2.2.2)) A) (by decide) rfl (Nat.le_of_ble_eq_true rfl) ?_
  intro p e s m args below meth c ls A E hw hl
  unfold fX6_send at h
  refine r_aload_n E hl 0 rfl dX6_send_0 rfl ?_
  refine r_iload_n E hl 1 rfl dX6_send_1 rfl ?_
  refine r_iload_n E hl 2 rfl dX6_send_2 rfl ?_
  obtain ⟨y1, hy1, h⟩ := bd_some h
  refine r_callVQi E ((wX6 Z Ao Ah An Ac Ar Af Ag Ap At o_historySize o_wayIsKept ++ wX3 Z An n_nodes n_links n_tunnels n_messages n_areas n_firsts n_seconds n_privates n_entries n_exits n_truth n_facts n_news ++ wX2 Z Ag g_nodes g_edges g_starts g_ends g_lengths g_items g_remaining ++ wX4 Z Ap p_crossed p_cost p_stops p_at p_area p_exit)) (wX2 Z Ag g_nodes g_edges g_starts g_ends g_lengths g_items g_remaining ++ wX4 Z Ap p_crossed p_cost p_stops p_at p_area p_exit) hw (mX6_isPair l Z _ Ao Ah An Ac Ar Af Ag Ap At o_historySize o_wayIsKept n_nodes n_links n_tunnels n_messages n_areas n_firsts n_seconds n_privates n_entries n_exits n_truth n_facts n_news v1 v2 hy1) kL_X6_76 kI_X6_isPair kS_X6_isPair kN_X6 kC_X6_isPair rfl rfl hdX6_isPair ⟨Nat.le_of_ble_eq_true rfl, Nat.le_of_ble_eq_true rfl⟩ (fun f => by simp only [sf_app] <;> omega) (fun f => by simp only [sf_app] <;> omega) 0 rfl rfl rfl rfl hl [] rfl (Nat.le_of_ble_eq_true rfl) dX6_send_3 ⟨Nat.zero_le _, Nat.zero_le _⟩ (fun H locs hw => ?_)
  refine r_if_ne E 11 dX6_send_6 (by decide) (fun hc => ?_) (fun hc => ?_)
  · replace h := ite_f hc h
    refine r_aload_n E hl 0 rfl dX6_send_11 rfl ?_
    refine r_iconst E 1 dX6_send_12 (by decide) ?_
    refine r_put E ((wX6 Z Ao Ah An Ac Ar Af Ag Ap At o_historySize (1 : Int32) ++ wX3 Z An n_nodes n_links n_tunnels n_messages n_areas n_firsts n_seconds n_privates n_entries n_exits n_truth n_facts n_news ++ wX2 Z Ag g_nodes g_edges g_starts g_ends g_lengths g_items g_remaining ++ wX4 Z Ap p_crossed p_cost p_stops p_at p_area p_exit)) kW_X6 tyX6_ok nmX6 hw 0 rfl rfl 9 (by decide) kF_X6_58 rfl rfl rfl (Nat.le_of_ble_eq_true rfl) rfl dX6_send_13 (fun H locs hw => ?_)
    refine r_aload_n E hl 0 rfl dX6_send_16 rfl ?_
    refine r_get E kW_X6 hw 0 rfl rfl 7 (by decide) kF_X6_51 rfl dX6_send_17 ?_
    refine r_aload_n E hl 0 rfl dX6_send_20 rfl ?_
    refine r_get E kW_X6 hw 0 rfl rfl 0 (by decide) kF_X6_12 rfl dX6_send_21 ?_
    refine r_aload_n E hl 0 rfl dX6_send_24 rfl ?_
    refine r_get E kW_X6 hw 0 rfl rfl 6 (by decide) kF_X6_44 rfl dX6_send_25 ?_
    refine r_iload_n E hl 1 rfl dX6_send_28 rfl ?_
    refine r_iload_n E hl 2 rfl dX6_send_29 rfl ?_
    obtain ⟨y2, hy2, h⟩ := bd_some h
    refine r_callVQi E ((wX6 Z Ao Ah An Ac Ar Af Ag Ap At o_historySize (1 : Int32) ++ wX3 Z An n_nodes n_links n_tunnels n_messages n_areas n_firsts n_seconds n_privates n_entries n_exits n_truth n_facts n_news ++ wX2 Z Ag y2.2.2.2.2.2.2.2.1 y2.2.2.2.2.2.2.2.2.1 y2.2.2.2.2.2.2.2.2.2.1 y2.2.2.2.2.2.2.2.2.2.2.1 y2.2.2.2.2.2.2.2.2.2.2.2.1 y2.2.2.2.2.2.2.2.2.2.2.2.2.1 y2.2.2.2.2.2.2.2.2.2.2.2.2.2 ++ wX4 Z Ap y2.2.1 y2.2.2.1 y2.2.2.2.1 y2.2.2.2.2.1 y2.2.2.2.2.2.1 y2.2.2.2.2.2.2.1)) (wX6 Z Ao Ah An Ac Ar Af Ag Ap At o_historySize (1 : Int32)) hw (mX4_travel l Z _ Ap An Ag p_crossed p_cost p_stops p_at p_area p_exit n_nodes n_links n_tunnels n_messages n_areas n_firsts n_seconds n_privates n_entries n_exits n_truth n_facts n_news g_nodes g_edges g_starts g_ends g_lengths g_items g_remaining v1 v2 hy2) kL_X6_240 kI_X4_travel kS_X4_travel kN_X4 kC_X4_travel rfl rfl hdX4_travel ⟨Nat.le_of_ble_eq_true rfl, Nat.le_of_ble_eq_true rfl⟩ (fun f => by simp only [sf_app] <;> omega) (fun f => by simp only [sf_app] <;> omega) 17 rfl rfl rfl rfl hl [] rfl (Nat.le_of_ble_eq_true rfl) dX6_send_30 ⟨Nat.zero_le _, Nat.zero_le _⟩ (fun H locs hw => ?_)
    obtain rfl := Option.some.inj h
    exact r_iret E hw dX6_send_33
  · replace h := ite_t hc h
    refine r_iconst E (-1) dX6_send_9 (by decide) ?_
    obtain rfl := Option.some.inj h
    exact r_iret E hw dX6_send_10
abbrev rmX6_way : Room := { frames := 0, cells := 0, slots := 0, locals := 0 }

set_option maxRecDepth 100000 in
set_option maxHeartbeats 4000000 in
theorem mX6_way (l : Launch) (Z : zT) (sz : Nat) (Ao : Nat) (Ah : Nat) (An : Nat → Nat) (Ac : Nat → Nat) (Ar : Nat → Nat) (Af : Nat → Nat) (Ag : Nat → Nat) (Ap : Nat → Nat) (At : Nat → Nat) (o_historySize : Int32) (o_wayIsKept : Int32) (p_crossed : Int32) (p_cost : Int32) (p_stops : (Nat → Int32)) (p_at : Int32) (p_area : Int32) (p_exit : Int32) (v1 : Int32) {res : Int32} (h : fX6_way v1 o_wayIsKept p_crossed p_cost p_stops = some res) : Met l yX6_way (Cond.code yX6_way cX6_way 2 (some .int) :: zWs) rmX6_way (zP Z ((wX6 Z Ao Ah An Ac Ar Af Ag Ap At o_historySize o_wayIsKept ++ wX4 Z Ap p_crossed p_cost p_stops p_at p_area p_exit)) sz [.ref Ao, .int v1]) (zQi Z res ((wX6 Z Ao Ah An Ac Ar Af Ag Ap At o_historySize o_wayIsKept ++ wX4 Z Ap p_crossed p_cost p_stops p_at p_area p_exit)) (va_A ((wX6 Z Ao Ah An Ac Ar Af Ag Ap At o_historySize o_wayIsKept ++ wX4 Z Ap p_crossed p_cost p_stops p_at p_area p_exit)) sz)) 0 0 (va_A ((wX6 Z Ao Ah An Ac Ar Af Ag Ap At o_historySize o_wayIsKept ++ wX4 Z Ap p_crossed p_cost p_stops p_at p_area p_exit)) sz) := by
  refine zMet (own := RX6) (fun A => zQi Z res ((wX6 Z Ao Ah An Ac Ar Af Ag Ap At o_historySize o_wayIsKept ++ wX4 Z Ap p_crossed p_cost p_stops p_at p_area p_exit)) A) (by decide) rfl (Nat.le_of_ble_eq_true rfl) ?_
  intro p e s m args below meth c ls A E hw hl
  unfold fX6_way at h
  refine r_iload_n E hl 1 rfl dX6_way_0 rfl ?_
  refine r_bipush E (-2) dX6_way_1 (by decide) ?_
  refine r_icmp_ge E 8 dX6_way_3 (by decide) (fun hc => ?_) (fun hc => ?_)
  · replace h := ite_t hc h
    refine r_aload_n E hl 0 rfl dX6_way_8 rfl ?_
    refine r_get E kW_X6 hw 0 rfl rfl 9 (by decide) kF_X6_58 rfl dX6_way_9 ?_
    refine r_if_ne E 18 dX6_way_12 (by decide) (fun hc => ?_) (fun hc => ?_)
    · replace h := ite_f hc h
      refine r_iload_n E hl 1 rfl dX6_way_18 rfl ?_
      refine r_bipush E (-2) dX6_way_19 (by decide) ?_
      refine r_icmp_ne E 32 dX6_way_21 (by decide) (fun hc => ?_) (fun hc => ?_)
      · replace h := ite_f hc h
        refine r_iload_n E hl 1 rfl dX6_way_32 rfl ?_
        refine r_iconst E (-1) dX6_way_33 (by decide) ?_
        refine r_icmp_ne E 45 dX6_way_34 (by decide) (fun hc => ?_) (fun hc => ?_)
        · replace h := ite_f hc h
          refine r_iload_n E hl 1 rfl dX6_way_45 rfl ?_
          refine r_aload_n E hl 0 rfl dX6_way_46 rfl ?_
          refine r_get E kW_X6 hw 0 rfl rfl 7 (by decide) kF_X6_51 rfl dX6_way_47 ?_
          refine r_get E kW_X4 hw 1 rfl rfl 0 (by decide) kF_X6_247 rfl dX6_way_50 ?_
          refine r_icmp_gt E 68 dX6_way_53 (by decide) (fun hc => ?_) (fun hc => ?_)
          · replace h := ite_t hc h
            refine r_bipush E (-9) dX6_way_68 (by decide) ?_
            obtain rfl := Option.some.inj h
            exact r_iret E hw dX6_way_70
          · replace h := ite_f hc h
            refine r_aload_n E hl 0 rfl dX6_way_56 rfl ?_
            refine r_get E kW_X6 hw 0 rfl rfl 7 (by decide) kF_X6_51 rfl dX6_way_57 ?_
            refine r_get E kW_X4 hw 1 rfl rfl 2 (by decide) kF_X6_250 rfl dX6_way_60 ?_
            refine r_iload_n E hl 1 rfl dX6_way_63 rfl ?_
            obtain ⟨hg1, h⟩ := gd_some h
            refine r_iald E hw 2 rfl hg1 dX6_way_64 ?_
            refine r_goto E 70 dX6_way_65 (by decide) ?_
            obtain rfl := Option.some.inj h
            exact r_iret E hw dX6_way_70
        · replace h := ite_t hc h
          refine r_aload_n E hl 0 rfl dX6_way_37 rfl ?_
          refine r_get E kW_X6 hw 0 rfl rfl 7 (by decide) kF_X6_51 rfl dX6_way_38 ?_
          refine r_get E kW_X4 hw 1 rfl rfl 0 (by decide) kF_X6_247 rfl dX6_way_41 ?_
          obtain rfl := Option.some.inj h
          exact r_iret E hw dX6_way_44
      · replace h := ite_t hc h
        refine r_aload_n E hl 0 rfl dX6_way_24 rfl ?_
        refine r_get E kW_X6 hw 0 rfl rfl 7 (by decide) kF_X6_51 rfl dX6_way_25 ?_
        refine r_get E kW_X4 hw 1 rfl rfl 1 (by decide) kF_X6_244 rfl dX6_way_28 ?_
        obtain rfl := Option.some.inj h
        exact r_iret E hw dX6_way_31
    · replace h := ite_t hc h
      refine r_bipush E (-2) dX6_way_15 (by decide) ?_
      obtain rfl := Option.some.inj h
      exact r_iret E hw dX6_way_17
  · replace h := ite_f hc h
    refine r_iconst E (-1) dX6_way_6 (by decide) ?_
    obtain rfl := Option.some.inj h
    exact r_iret E hw dX6_way_7
abbrev rmX6_outcomes : Room := { frames := 6, cells := 0, slots := 0, locals := 143 }

set_option maxRecDepth 100000 in
set_option maxHeartbeats 4000000 in
theorem vX6_outcomes_78 {Z : zT} {p : Program} {l : Launch} {e : Env} {s : State} {m : MethodId} {args : Array Value} {below : List Frame} {meth : Method} {c : Code} {A : Nat → Prop} (E : zE Z p s m args meth c RX6 cX6_outcomes 5 (some .int) A) {Ao Ah : Nat} {An Ac Ar Af Ag Ap At : Nat → Nat} {v1 : Int32} {v2 : Int32} {v3 : Int32} {o_historySize : Int32} {o_wayIsKept : Int32} {n_nodes : Int32} {n_links : Int32} {n_tunnels : Int32} {n_messages : Int32} {n_areas : (Nat → Int32)} {n_firsts : (Nat → Int32)} {n_seconds : (Nat → Int32)} {n_privates : (Nat → Int32)} {n_entries : (Nat → Int32)} {n_exits : (Nat → Int32)} {n_truth : (Nat → Int32)} {n_facts : (Nat → Int32)} {n_news : (Nat → Int64)} {g_nodes : Int32} {g_edges : Int32} {g_starts : (Nat → Int32)} {g_ends : (Nat → Int32)} {g_lengths : (Nat → Int32)} {g_items : (Nat → Int32)} {g_remaining : (Nat → Int32)} {t_crossed : Int32} {t_cost : Int32} {t_stops : (Nat → Int32)} {t_at : Int32} {t_area : Int32} {t_exit : Int32} {res : Int32 × Int32 × Int32 × (Nat → Int32) × (Nat → Int32) × (Nat → Int32) × (Nat → Int32) × (Nat → Int32) × Int32 × Int32 × (Nat → Int32) × Int32 × Int32 × Int32} {q1 : (Int32 × Int32 × Int32 × Int32 × (Nat → Int32) × (Nat → Int32) × (Nat → Int32) × (Nat → Int32) × (Nat → Int32) × Int32 × Int32 × (Nat → Int32) × Int32 × Int32 × Int32) ⊕ (Int32 × Int32 × Int32 × (Nat → Int32) × (Nat → Int32) × (Nat → Int32) × (Nat → Int32) × (Nat → Int32) × Int32 × Int32 × (Nat → Int32) × Int32 × Int32 × Int32)} (hb1 : ∀ b : Int32 × Int32 × Int32 × Int32 × (Nat → Int32) × (Nat → Int32) × (Nat → Int32) × (Nat → Int32) × (Nat → Int32) × Int32 × Int32 × (Nat → Int32) × Int32 × Int32 × Int32, q1 = .inl b → ∀ (H : Heap) (locs : List Loc) (ls : Array Slot), zW Z A ((wX6 Z Ao Ah An Ac Ar Af Ag Ap At o_historySize o_wayIsKept ++ wX3 Z An n_nodes n_links n_tunnels n_messages n_areas n_firsts n_seconds n_privates n_entries n_exits n_truth n_facts n_news ++ wX2 Z Ag b.2.2.1 b.2.2.2.1 b.2.2.2.2.1 b.2.2.2.2.2.1 b.2.2.2.2.2.2.1 b.2.2.2.2.2.2.2.1 b.2.2.2.2.2.2.2.2.1 ++ wX4 Z At b.2.2.2.2.2.2.2.2.2.1 b.2.2.2.2.2.2.2.2.2.2.1 b.2.2.2.2.2.2.2.2.2.2.2.1 b.2.2.2.2.2.2.2.2.2.2.2.2.1 b.2.2.2.2.2.2.2.2.2.2.2.2.2.1 b.2.2.2.2.2.2.2.2.2.2.2.2.2.2)) s.heap H locs → lv_has ls 5 [(0, .ref Ao), (1, .int v1), (2, .int b.1), (3, .int b.2.1)] → W p l e rmX6_outcomes s m args below meth c H locs 0 0 (MQ below (zQi Z res.1 ((wX6 Z Ao Ah An Ac Ar Af Ag Ap At o_historySize o_wayIsKept ++ wX3 Z An n_nodes n_links n_tunnels n_messages n_areas n_firsts n_seconds n_privates n_entries n_exits n_truth n_facts n_news ++ wX2 Z Ag res.2.1 res.2.2.1 res.2.2.2.1 res.2.2.2.2.1 res.2.2.2.2.2.1 res.2.2.2.2.2.2.1 res.2.2.2.2.2.2.2.1 ++ wX4 Z At res.2.2.2.2.2.2.2.2.1 res.2.2.2.2.2.2.2.2.2.1 res.2.2.2.2.2.2.2.2.2.2.1 res.2.2.2.2.2.2.2.2.2.2.2.1 res.2.2.2.2.2.2.2.2.2.2.2.2.1 res.2.2.2.2.2.2.2.2.2.2.2.2.2)) A) args s 0 0 A) (F0 m 15 ls [])) (hr1 : ∀ r' , q1 = .inr r' → r' = res) {H : Heap} {locs : List Loc} {ls : Array Slot} (hw : zW Z A ((wX6 Z Ao Ah An Ac Ar Af Ag Ap At o_historySize o_wayIsKept ++ wX3 Z An n_nodes n_links n_tunnels n_messages n_areas n_firsts n_seconds n_privates n_entries n_exits n_truth n_facts n_news ++ wX2 Z Ag g_nodes g_edges g_starts g_ends g_lengths g_items g_remaining ++ wX4 Z At t_crossed t_cost t_stops t_at t_area t_exit)) s.heap H locs) (hl : lv_has ls 5 [(0, .ref Ao), (1, .int v1), (2, .int v2), (3, .int v3)]) (h : uX6_outcomes_78 v2 v3 g_nodes g_edges g_starts g_ends g_lengths g_items g_remaining t_crossed t_cost t_stops t_at t_area t_exit = some q1) : W p l e rmX6_outcomes s m args below meth c H locs 0 0 (MQ below (zQi Z res.1 ((wX6 Z Ao Ah An Ac Ar Af Ag Ap At o_historySize o_wayIsKept ++ wX3 Z An n_nodes n_links n_tunnels n_messages n_areas n_firsts n_seconds n_privates n_entries n_exits n_truth n_facts n_news ++ wX2 Z Ag res.2.1 res.2.2.1 res.2.2.2.1 res.2.2.2.2.1 res.2.2.2.2.2.1 res.2.2.2.2.2.2.1 res.2.2.2.2.2.2.2.1 ++ wX4 Z At res.2.2.2.2.2.2.2.2.1 res.2.2.2.2.2.2.2.2.2.1 res.2.2.2.2.2.2.2.2.2.2.1 res.2.2.2.2.2.2.2.2.2.2.2.1 res.2.2.2.2.2.2.2.2.2.2.2.2.1 res.2.2.2.2.2.2.2.2.2.2.2.2.2)) A) args s 0 0 A) (F0 m 78 ls []) := by
  unfold uX6_outcomes_78 at h
  obtain ⟨w2, hw2, h⟩ := nm_out h
  refine r_iinc E w2 [(3, .int w2), (0, .ref Ao), (1, .int v1), (2, .int v2)] hl (k := 3) rfl dX6_outcomes_78 hw2.symm (by decide) rfl (fun ls hl => ?_)
  refine r_goto E 15 dX6_outcomes_81 (by decide) ?_
  exact hb1 _ (Option.some.inj h).symm _ _ _ hw (lv_sub hl [1, 2, 3, 0] rfl)
set_option maxRecDepth 100000 in
set_option maxHeartbeats 4000000 in
theorem vX6_outcomes_72 {Z : zT} {p : Program} {l : Launch} {e : Env} {s : State} {m : MethodId} {args : Array Value} {below : List Frame} {meth : Method} {c : Code} {A : Nat → Prop} (E : zE Z p s m args meth c RX6 cX6_outcomes 5 (some .int) A) {Ao Ah : Nat} {An Ac Ar Af Ag Ap At : Nat → Nat} {v1 : Int32} {v2 : Int32} {v3 : Int32} {v4 : Int32} {o_historySize : Int32} {o_wayIsKept : Int32} {n_nodes : Int32} {n_links : Int32} {n_tunnels : Int32} {n_messages : Int32} {n_areas : (Nat → Int32)} {n_firsts : (Nat → Int32)} {n_seconds : (Nat → Int32)} {n_privates : (Nat → Int32)} {n_entries : (Nat → Int32)} {n_exits : (Nat → Int32)} {n_truth : (Nat → Int32)} {n_facts : (Nat → Int32)} {n_news : (Nat → Int64)} {g_nodes : Int32} {g_edges : Int32} {g_starts : (Nat → Int32)} {g_ends : (Nat → Int32)} {g_lengths : (Nat → Int32)} {g_items : (Nat → Int32)} {g_remaining : (Nat → Int32)} {t_crossed : Int32} {t_cost : Int32} {t_stops : (Nat → Int32)} {t_at : Int32} {t_area : Int32} {t_exit : Int32} {res : Int32 × Int32 × Int32 × (Nat → Int32) × (Nat → Int32) × (Nat → Int32) × (Nat → Int32) × (Nat → Int32) × Int32 × Int32 × (Nat → Int32) × Int32 × Int32 × Int32} {q1 : (Int32 × Int32 × Int32 × Int32 × (Nat → Int32) × (Nat → Int32) × (Nat → Int32) × (Nat → Int32) × (Nat → Int32) × Int32 × Int32 × (Nat → Int32) × Int32 × Int32 × Int32) ⊕ (Int32 × Int32 × Int32 × (Nat → Int32) × (Nat → Int32) × (Nat → Int32) × (Nat → Int32) × (Nat → Int32) × Int32 × Int32 × (Nat → Int32) × Int32 × Int32 × Int32)} (hb1 : ∀ b : Int32 × Int32 × Int32 × Int32 × (Nat → Int32) × (Nat → Int32) × (Nat → Int32) × (Nat → Int32) × (Nat → Int32) × Int32 × Int32 × (Nat → Int32) × Int32 × Int32 × Int32, q1 = .inl b → ∀ (H : Heap) (locs : List Loc) (ls : Array Slot), zW Z A ((wX6 Z Ao Ah An Ac Ar Af Ag Ap At o_historySize o_wayIsKept ++ wX3 Z An n_nodes n_links n_tunnels n_messages n_areas n_firsts n_seconds n_privates n_entries n_exits n_truth n_facts n_news ++ wX2 Z Ag b.2.2.1 b.2.2.2.1 b.2.2.2.2.1 b.2.2.2.2.2.1 b.2.2.2.2.2.2.1 b.2.2.2.2.2.2.2.1 b.2.2.2.2.2.2.2.2.1 ++ wX4 Z At b.2.2.2.2.2.2.2.2.2.1 b.2.2.2.2.2.2.2.2.2.2.1 b.2.2.2.2.2.2.2.2.2.2.2.1 b.2.2.2.2.2.2.2.2.2.2.2.2.1 b.2.2.2.2.2.2.2.2.2.2.2.2.2.1 b.2.2.2.2.2.2.2.2.2.2.2.2.2.2)) s.heap H locs → lv_has ls 5 [(0, .ref Ao), (1, .int v1), (2, .int b.1), (3, .int b.2.1)] → W p l e rmX6_outcomes s m args below meth c H locs 0 0 (MQ below (zQi Z res.1 ((wX6 Z Ao Ah An Ac Ar Af Ag Ap At o_historySize o_wayIsKept ++ wX3 Z An n_nodes n_links n_tunnels n_messages n_areas n_firsts n_seconds n_privates n_entries n_exits n_truth n_facts n_news ++ wX2 Z Ag res.2.1 res.2.2.1 res.2.2.2.1 res.2.2.2.2.1 res.2.2.2.2.2.1 res.2.2.2.2.2.2.1 res.2.2.2.2.2.2.2.1 ++ wX4 Z At res.2.2.2.2.2.2.2.2.1 res.2.2.2.2.2.2.2.2.2.1 res.2.2.2.2.2.2.2.2.2.2.1 res.2.2.2.2.2.2.2.2.2.2.2.1 res.2.2.2.2.2.2.2.2.2.2.2.2.1 res.2.2.2.2.2.2.2.2.2.2.2.2.2)) A) args s 0 0 A) (F0 m 15 ls [])) (hr1 : ∀ r' , q1 = .inr r' → r' = res) {q2 : (Int32 × Int32 × Int32 × Int32 × (Nat → Int32) × (Nat → Int32) × (Nat → Int32) × (Nat → Int32) × (Nat → Int32) × Int32 × Int32 × (Nat → Int32) × Int32 × Int32 × Int32) ⊕ ((Int32 × Int32 × Int32 × Int32 × (Nat → Int32) × (Nat → Int32) × (Nat → Int32) × (Nat → Int32) × (Nat → Int32) × Int32 × Int32 × (Nat → Int32) × Int32 × Int32 × Int32) ⊕ (Int32 × Int32 × Int32 × (Nat → Int32) × (Nat → Int32) × (Nat → Int32) × (Nat → Int32) × (Nat → Int32) × Int32 × Int32 × (Nat → Int32) × Int32 × Int32 × Int32))} (hb2 : ∀ b : Int32 × Int32 × Int32 × Int32 × (Nat → Int32) × (Nat → Int32) × (Nat → Int32) × (Nat → Int32) × (Nat → Int32) × Int32 × Int32 × (Nat → Int32) × Int32 × Int32 × Int32, q2 = .inl b → ∀ (H : Heap) (locs : List Loc) (ls : Array Slot), zW Z A ((wX6 Z Ao Ah An Ac Ar Af Ag Ap At o_historySize o_wayIsKept ++ wX3 Z An n_nodes n_links n_tunnels n_messages n_areas n_firsts n_seconds n_privates n_entries n_exits n_truth n_facts n_news ++ wX2 Z Ag b.2.2.1 b.2.2.2.1 b.2.2.2.2.1 b.2.2.2.2.2.1 b.2.2.2.2.2.2.1 b.2.2.2.2.2.2.2.1 b.2.2.2.2.2.2.2.2.1 ++ wX4 Z At b.2.2.2.2.2.2.2.2.2.1 b.2.2.2.2.2.2.2.2.2.2.1 b.2.2.2.2.2.2.2.2.2.2.2.1 b.2.2.2.2.2.2.2.2.2.2.2.2.1 b.2.2.2.2.2.2.2.2.2.2.2.2.2.1 b.2.2.2.2.2.2.2.2.2.2.2.2.2.2)) s.heap H locs → lv_has ls 5 [(0, .ref Ao), (1, .int v1), (2, .int b.1), (3, .int v3), (4, .int b.2.1)] → W p l e rmX6_outcomes s m args below meth c H locs 0 0 (MQ below (zQi Z res.1 ((wX6 Z Ao Ah An Ac Ar Af Ag Ap At o_historySize o_wayIsKept ++ wX3 Z An n_nodes n_links n_tunnels n_messages n_areas n_firsts n_seconds n_privates n_entries n_exits n_truth n_facts n_news ++ wX2 Z Ag res.2.1 res.2.2.1 res.2.2.2.1 res.2.2.2.2.1 res.2.2.2.2.2.1 res.2.2.2.2.2.2.1 res.2.2.2.2.2.2.2.1 ++ wX4 Z At res.2.2.2.2.2.2.2.2.1 res.2.2.2.2.2.2.2.2.2.1 res.2.2.2.2.2.2.2.2.2.2.1 res.2.2.2.2.2.2.2.2.2.2.2.1 res.2.2.2.2.2.2.2.2.2.2.2.2.1 res.2.2.2.2.2.2.2.2.2.2.2.2.2)) A) args s 0 0 A) (F0 m 29 ls [])) (hr2 : ∀ r' , q2 = .inr r' → r' = q1) {H : Heap} {locs : List Loc} {ls : Array Slot} (hw : zW Z A ((wX6 Z Ao Ah An Ac Ar Af Ag Ap At o_historySize o_wayIsKept ++ wX3 Z An n_nodes n_links n_tunnels n_messages n_areas n_firsts n_seconds n_privates n_entries n_exits n_truth n_facts n_news ++ wX2 Z Ag g_nodes g_edges g_starts g_ends g_lengths g_items g_remaining ++ wX4 Z At t_crossed t_cost t_stops t_at t_area t_exit)) s.heap H locs) (hl : lv_has ls 5 [(0, .ref Ao), (1, .int v1), (2, .int v2), (3, .int v3), (4, .int v4)]) (h : uX6_outcomes_72 v2 v4 g_nodes g_edges g_starts g_ends g_lengths g_items g_remaining t_crossed t_cost t_stops t_at t_area t_exit = some q2) : W p l e rmX6_outcomes s m args below meth c H locs 0 0 (MQ below (zQi Z res.1 ((wX6 Z Ao Ah An Ac Ar Af Ag Ap At o_historySize o_wayIsKept ++ wX3 Z An n_nodes n_links n_tunnels n_messages n_areas n_firsts n_seconds n_privates n_entries n_exits n_truth n_facts n_news ++ wX2 Z Ag res.2.1 res.2.2.1 res.2.2.2.1 res.2.2.2.2.1 res.2.2.2.2.2.1 res.2.2.2.2.2.2.1 res.2.2.2.2.2.2.2.1 ++ wX4 Z At res.2.2.2.2.2.2.2.2.1 res.2.2.2.2.2.2.2.2.2.1 res.2.2.2.2.2.2.2.2.2.2.1 res.2.2.2.2.2.2.2.2.2.2.2.1 res.2.2.2.2.2.2.2.2.2.2.2.2.1 res.2.2.2.2.2.2.2.2.2.2.2.2.2)) A) args s 0 0 A) (F0 m 72 ls []) := by
  unfold uX6_outcomes_72 at h
  obtain ⟨w4, hw4, h⟩ := nm_out h
  refine r_iinc E w4 [(4, .int w4), (0, .ref Ao), (1, .int v1), (2, .int v2), (3, .int v3)] hl (k := 4) rfl dX6_outcomes_72 hw4.symm (by decide) rfl (fun ls hl => ?_)
  refine r_goto E 29 dX6_outcomes_75 (by decide) ?_
  exact hb2 _ (Option.some.inj h).symm _ _ _ hw (lv_sub hl [1, 2, 3, 4, 0] rfl)
set_option maxRecDepth 100000 in
set_option maxHeartbeats 4000000 in
theorem tX6_outcomes_29 {Z : zT} {p : Program} {l : Launch} {e : Env} {s : State} {m : MethodId} {args : Array Value} {below : List Frame} {meth : Method} {c : Code} {A : Nat → Prop} (E : zE Z p s m args meth c RX6 cX6_outcomes 5 (some .int) A) {Ao Ah : Nat} {An Ac Ar Af Ag Ap At : Nat → Nat} {v1 : Int32} {v3 : Int32} {o_historySize : Int32} {o_wayIsKept : Int32} {n_nodes : Int32} {n_links : Int32} {n_tunnels : Int32} {n_messages : Int32} {n_areas : (Nat → Int32)} {n_firsts : (Nat → Int32)} {n_seconds : (Nat → Int32)} {n_privates : (Nat → Int32)} {n_entries : (Nat → Int32)} {n_exits : (Nat → Int32)} {n_truth : (Nat → Int32)} {n_facts : (Nat → Int32)} {n_news : (Nat → Int64)} {res : Int32 × Int32 × Int32 × (Nat → Int32) × (Nat → Int32) × (Nat → Int32) × (Nat → Int32) × (Nat → Int32) × Int32 × Int32 × (Nat → Int32) × Int32 × Int32 × Int32} {q1 : (Int32 × Int32 × Int32 × Int32 × (Nat → Int32) × (Nat → Int32) × (Nat → Int32) × (Nat → Int32) × (Nat → Int32) × Int32 × Int32 × (Nat → Int32) × Int32 × Int32 × Int32) ⊕ (Int32 × Int32 × Int32 × (Nat → Int32) × (Nat → Int32) × (Nat → Int32) × (Nat → Int32) × (Nat → Int32) × Int32 × Int32 × (Nat → Int32) × Int32 × Int32 × Int32)} (hb1 : ∀ b : Int32 × Int32 × Int32 × Int32 × (Nat → Int32) × (Nat → Int32) × (Nat → Int32) × (Nat → Int32) × (Nat → Int32) × Int32 × Int32 × (Nat → Int32) × Int32 × Int32 × Int32, q1 = .inl b → ∀ (H : Heap) (locs : List Loc) (ls : Array Slot), zW Z A ((wX6 Z Ao Ah An Ac Ar Af Ag Ap At o_historySize o_wayIsKept ++ wX3 Z An n_nodes n_links n_tunnels n_messages n_areas n_firsts n_seconds n_privates n_entries n_exits n_truth n_facts n_news ++ wX2 Z Ag b.2.2.1 b.2.2.2.1 b.2.2.2.2.1 b.2.2.2.2.2.1 b.2.2.2.2.2.2.1 b.2.2.2.2.2.2.2.1 b.2.2.2.2.2.2.2.2.1 ++ wX4 Z At b.2.2.2.2.2.2.2.2.2.1 b.2.2.2.2.2.2.2.2.2.2.1 b.2.2.2.2.2.2.2.2.2.2.2.1 b.2.2.2.2.2.2.2.2.2.2.2.2.1 b.2.2.2.2.2.2.2.2.2.2.2.2.2.1 b.2.2.2.2.2.2.2.2.2.2.2.2.2.2)) s.heap H locs → lv_has ls 5 [(0, .ref Ao), (1, .int v1), (2, .int b.1), (3, .int b.2.1)] → W p l e rmX6_outcomes s m args below meth c H locs 0 0 (MQ below (zQi Z res.1 ((wX6 Z Ao Ah An Ac Ar Af Ag Ap At o_historySize o_wayIsKept ++ wX3 Z An n_nodes n_links n_tunnels n_messages n_areas n_firsts n_seconds n_privates n_entries n_exits n_truth n_facts n_news ++ wX2 Z Ag res.2.1 res.2.2.1 res.2.2.2.1 res.2.2.2.2.1 res.2.2.2.2.2.1 res.2.2.2.2.2.2.1 res.2.2.2.2.2.2.2.1 ++ wX4 Z At res.2.2.2.2.2.2.2.2.1 res.2.2.2.2.2.2.2.2.2.1 res.2.2.2.2.2.2.2.2.2.2.1 res.2.2.2.2.2.2.2.2.2.2.2.1 res.2.2.2.2.2.2.2.2.2.2.2.2.1 res.2.2.2.2.2.2.2.2.2.2.2.2.2)) A) args s 0 0 A) (F0 m 15 ls [])) (hr1 : ∀ r' , q1 = .inr r' → r' = res) : ∀ (n : Nat) (v2 : Int32) (v4 : Int32) (g_nodes : Int32) (g_edges : Int32) (g_starts : (Nat → Int32)) (g_ends : (Nat → Int32)) (g_lengths : (Nat → Int32)) (g_items : (Nat → Int32)) (g_remaining : (Nat → Int32)) (t_crossed : Int32) (t_cost : Int32) (t_stops : (Nat → Int32)) (t_at : Int32) (t_area : Int32) (t_exit : Int32) (H : Heap) (locs : List Loc) (ls : Array Slot), iter (fun b : Int32 × Int32 × Int32 × Int32 × (Nat → Int32) × (Nat → Int32) × (Nat → Int32) × (Nat → Int32) × (Nat → Int32) × Int32 × Int32 × (Nat → Int32) × Int32 × Int32 × Int32 => sX6_outcomes_29 v1 v3 n_nodes n_links n_tunnels n_areas n_firsts n_seconds n_privates n_entries n_exits n_truth n_facts b.1 b.2.1 b.2.2.1 b.2.2.2.1 b.2.2.2.2.1 b.2.2.2.2.2.1 b.2.2.2.2.2.2.1 b.2.2.2.2.2.2.2.1 b.2.2.2.2.2.2.2.2.1 b.2.2.2.2.2.2.2.2.2.1 b.2.2.2.2.2.2.2.2.2.2.1 b.2.2.2.2.2.2.2.2.2.2.2.1 b.2.2.2.2.2.2.2.2.2.2.2.2.1 b.2.2.2.2.2.2.2.2.2.2.2.2.2.1 b.2.2.2.2.2.2.2.2.2.2.2.2.2.2) n (v2, v4, g_nodes, g_edges, g_starts, g_ends, g_lengths, g_items, g_remaining, t_crossed, t_cost, t_stops, t_at, t_area, t_exit) = some q1 → zW Z A ((wX6 Z Ao Ah An Ac Ar Af Ag Ap At o_historySize o_wayIsKept ++ wX3 Z An n_nodes n_links n_tunnels n_messages n_areas n_firsts n_seconds n_privates n_entries n_exits n_truth n_facts n_news ++ wX2 Z Ag g_nodes g_edges g_starts g_ends g_lengths g_items g_remaining ++ wX4 Z At t_crossed t_cost t_stops t_at t_area t_exit)) s.heap H locs → lv_has ls 5 [(0, .ref Ao), (1, .int v1), (2, .int v2), (3, .int v3), (4, .int v4)] → W p l e rmX6_outcomes s m args below meth c H locs 0 0 (MQ below (zQi Z res.1 ((wX6 Z Ao Ah An Ac Ar Af Ag Ap At o_historySize o_wayIsKept ++ wX3 Z An n_nodes n_links n_tunnels n_messages n_areas n_firsts n_seconds n_privates n_entries n_exits n_truth n_facts n_news ++ wX2 Z Ag res.2.1 res.2.2.1 res.2.2.2.1 res.2.2.2.2.1 res.2.2.2.2.2.1 res.2.2.2.2.2.2.1 res.2.2.2.2.2.2.2.1 ++ wX4 Z At res.2.2.2.2.2.2.2.2.1 res.2.2.2.2.2.2.2.2.2.1 res.2.2.2.2.2.2.2.2.2.2.1 res.2.2.2.2.2.2.2.2.2.2.2.1 res.2.2.2.2.2.2.2.2.2.2.2.2.1 res.2.2.2.2.2.2.2.2.2.2.2.2.2)) A) args s 0 0 A) (F0 m 29 ls []) := by
  intro n
  induction n with
  | zero => intro v2 v4 g_nodes g_edges g_starts g_ends g_lengths g_items g_remaining t_crossed t_cost t_stops t_at t_area t_exit H locs ls h; cases h
  | succ n ih =>
    intro v2 v4 g_nodes g_edges g_starts g_ends g_lengths g_items g_remaining t_crossed t_cost t_stops t_at t_area t_exit H locs ls h hw hl
    obtain ⟨q2, h, hn2, hr2⟩ := iter_out h
    have hb2 : ∀ b : Int32 × Int32 × Int32 × Int32 × (Nat → Int32) × (Nat → Int32) × (Nat → Int32) × (Nat → Int32) × (Nat → Int32) × Int32 × Int32 × (Nat → Int32) × Int32 × Int32 × Int32, q2 = .inl b → ∀ (H : Heap) (locs : List Loc) (ls : Array Slot), zW Z A ((wX6 Z Ao Ah An Ac Ar Af Ag Ap At o_historySize o_wayIsKept ++ wX3 Z An n_nodes n_links n_tunnels n_messages n_areas n_firsts n_seconds n_privates n_entries n_exits n_truth n_facts n_news ++ wX2 Z Ag b.2.2.1 b.2.2.2.1 b.2.2.2.2.1 b.2.2.2.2.2.1 b.2.2.2.2.2.2.1 b.2.2.2.2.2.2.2.1 b.2.2.2.2.2.2.2.2.1 ++ wX4 Z At b.2.2.2.2.2.2.2.2.2.1 b.2.2.2.2.2.2.2.2.2.2.1 b.2.2.2.2.2.2.2.2.2.2.2.1 b.2.2.2.2.2.2.2.2.2.2.2.2.1 b.2.2.2.2.2.2.2.2.2.2.2.2.2.1 b.2.2.2.2.2.2.2.2.2.2.2.2.2.2)) s.heap H locs → lv_has ls 5 [(0, .ref Ao), (1, .int v1), (2, .int b.1), (3, .int v3), (4, .int b.2.1)] → W p l e rmX6_outcomes s m args below meth c H locs 0 0 (MQ below (zQi Z res.1 ((wX6 Z Ao Ah An Ac Ar Af Ag Ap At o_historySize o_wayIsKept ++ wX3 Z An n_nodes n_links n_tunnels n_messages n_areas n_firsts n_seconds n_privates n_entries n_exits n_truth n_facts n_news ++ wX2 Z Ag res.2.1 res.2.2.1 res.2.2.2.1 res.2.2.2.2.1 res.2.2.2.2.2.1 res.2.2.2.2.2.2.1 res.2.2.2.2.2.2.2.1 ++ wX4 Z At res.2.2.2.2.2.2.2.2.1 res.2.2.2.2.2.2.2.2.2.1 res.2.2.2.2.2.2.2.2.2.2.1 res.2.2.2.2.2.2.2.2.2.2.2.1 res.2.2.2.2.2.2.2.2.2.2.2.2.1 res.2.2.2.2.2.2.2.2.2.2.2.2.2)) A) args s 0 0 A) (F0 m 29 ls []) := fun b eb H locs ls hw hl => ih b.1 b.2.1 b.2.2.1 b.2.2.2.1 b.2.2.2.2.1 b.2.2.2.2.2.1 b.2.2.2.2.2.2.1 b.2.2.2.2.2.2.2.1 b.2.2.2.2.2.2.2.2.1 b.2.2.2.2.2.2.2.2.2.1 b.2.2.2.2.2.2.2.2.2.2.1 b.2.2.2.2.2.2.2.2.2.2.2.1 b.2.2.2.2.2.2.2.2.2.2.2.2.1 b.2.2.2.2.2.2.2.2.2.2.2.2.2.1 b.2.2.2.2.2.2.2.2.2.2.2.2.2.2 H locs ls (hn2 b eb) hw hl
    replace h : sX6_outcomes_29 v1 v3 n_nodes n_links n_tunnels n_areas n_firsts n_seconds n_privates n_entries n_exits n_truth n_facts v2 v4 g_nodes g_edges g_starts g_ends g_lengths g_items g_remaining t_crossed t_cost t_stops t_at t_area t_exit = some q2 := h
    unfold sX6_outcomes_29 at h
    refine r_iload E hl 4 rfl dX6_outcomes_29 ?_
    refine r_aload_n E hl 0 rfl dX6_outcomes_31 rfl ?_
    refine r_get E kW_X6 hw 0 rfl rfl 0 (by decide) kF_X6_12 rfl dX6_outcomes_32 ?_
    refine r_get E kW_X3 hw 1 rfl rfl 0 (by decide) kF_X6_66 rfl dX6_outcomes_35 ?_
    refine r_icmp_ge E 78 dX6_outcomes_38 (by decide) (fun hc => ?_) (fun hc => ?_)
    · replace h := ite_t hc h
      obtain ⟨ro3, h, hro3⟩ := oi_some h
      rw [hr2 _ hro3] at h
      exact vX6_outcomes_78 E hb1 hr1 hw (lv_sub hl [0, 1, 2, 3] rfl) h
    · replace h := ite_f hc h
      refine r_iload_n E hl 3 rfl dX6_outcomes_41 rfl ?_
      refine r_iload E hl 4 rfl dX6_outcomes_42 ?_
      refine r_icmp_eq E 72 dX6_outcomes_44 (by decide) (fun hc => ?_) (fun hc => ?_)
      · replace h := ite_t hc h
        exact vX6_outcomes_72 E hb1 hr1 hb2 hr2 hw hl h
      · replace h := ite_f hc h
        refine r_aload_n E hl 0 rfl dX6_outcomes_47 rfl ?_
        refine r_get E kW_X6 hw 0 rfl rfl 8 (by decide) kF_X6_55 rfl dX6_outcomes_48 ?_
        refine r_aload_n E hl 0 rfl dX6_outcomes_51 rfl ?_
        refine r_get E kW_X6 hw 0 rfl rfl 0 (by decide) kF_X6_12 rfl dX6_outcomes_52 ?_
        refine r_aload_n E hl 0 rfl dX6_outcomes_55 rfl ?_
        refine r_get E kW_X6 hw 0 rfl rfl 6 (by decide) kF_X6_44 rfl dX6_outcomes_56 ?_
        refine r_iload_n E hl 3 rfl dX6_outcomes_59 rfl ?_
        refine r_iload E hl 4 rfl dX6_outcomes_60 ?_
        obtain ⟨y5, hy5, h⟩ := bd_some h
        refine r_callVQi E ((wX6 Z Ao Ah An Ac Ar Af Ag Ap At o_historySize o_wayIsKept ++ wX3 Z An n_nodes n_links n_tunnels n_messages n_areas n_firsts n_seconds n_privates n_entries n_exits n_truth n_facts n_news ++ wX2 Z Ag y5.2.2.2.2.2.2.2.1 y5.2.2.2.2.2.2.2.2.1 y5.2.2.2.2.2.2.2.2.2.1 y5.2.2.2.2.2.2.2.2.2.2.1 y5.2.2.2.2.2.2.2.2.2.2.2.1 y5.2.2.2.2.2.2.2.2.2.2.2.2.1 y5.2.2.2.2.2.2.2.2.2.2.2.2.2 ++ wX4 Z At y5.2.1 y5.2.2.1 y5.2.2.2.1 y5.2.2.2.2.1 y5.2.2.2.2.2.1 y5.2.2.2.2.2.2.1)) (wX6 Z Ao Ah An Ac Ar Af Ag Ap At o_historySize o_wayIsKept) hw (mX4_travel l Z _ At An Ag t_crossed t_cost t_stops t_at t_area t_exit n_nodes n_links n_tunnels n_messages n_areas n_firsts n_seconds n_privates n_entries n_exits n_truth n_facts n_news g_nodes g_edges g_starts g_ends g_lengths g_items g_remaining v3 v4 hy5) kL_X6_240 kI_X4_travel kS_X4_travel kN_X4 kC_X4_travel rfl rfl hdX4_travel ⟨Nat.le_of_ble_eq_true rfl, Nat.le_of_ble_eq_true rfl⟩ (fun f => by simp only [sf_app] <;> omega) (fun f => by simp only [sf_app] <;> omega) 17 rfl rfl rfl rfl hl [] rfl (Nat.le_of_ble_eq_true rfl) dX6_outcomes_62 ⟨Nat.zero_le _, Nat.zero_le _⟩ (fun H locs hw => ?_)
        refine r_iload_n E hl 1 rfl dX6_outcomes_65 rfl ?_
        refine r_icmp_ne E 72 dX6_outcomes_66 (by decide) (fun hc => ?_) (fun hc => ?_)
        · replace h := ite_f hc h
          exact vX6_outcomes_72 E hb1 hr1 hb2 hr2 hw hl h
        · replace h := ite_t hc h
          obtain ⟨w6, hw6, h⟩ := nm_out h
          refine r_iinc E w6 [(2, .int w6), (0, .ref Ao), (1, .int v1), (3, .int v3), (4, .int v4)] hl (k := 2) rfl dX6_outcomes_69 hw6.symm (by decide) rfl (fun ls hl => ?_)
          exact vX6_outcomes_72 E hb1 hr1 hb2 hr2 hw (lv_sub hl [1, 2, 0, 3, 4] rfl) h
set_option maxRecDepth 100000 in
set_option maxHeartbeats 4000000 in
theorem tX6_outcomes_15 {Z : zT} {p : Program} {l : Launch} {e : Env} {s : State} {m : MethodId} {args : Array Value} {below : List Frame} {meth : Method} {c : Code} {A : Nat → Prop} (E : zE Z p s m args meth c RX6 cX6_outcomes 5 (some .int) A) {Ao Ah : Nat} {An Ac Ar Af Ag Ap At : Nat → Nat} {v1 : Int32} {o_historySize : Int32} {o_wayIsKept : Int32} {n_nodes : Int32} {n_links : Int32} {n_tunnels : Int32} {n_messages : Int32} {n_areas : (Nat → Int32)} {n_firsts : (Nat → Int32)} {n_seconds : (Nat → Int32)} {n_privates : (Nat → Int32)} {n_entries : (Nat → Int32)} {n_exits : (Nat → Int32)} {n_truth : (Nat → Int32)} {n_facts : (Nat → Int32)} {n_news : (Nat → Int64)} {res : Int32 × Int32 × Int32 × (Nat → Int32) × (Nat → Int32) × (Nat → Int32) × (Nat → Int32) × (Nat → Int32) × Int32 × Int32 × (Nat → Int32) × Int32 × Int32 × Int32}  : ∀ (n : Nat) (v2 : Int32) (v3 : Int32) (g_nodes : Int32) (g_edges : Int32) (g_starts : (Nat → Int32)) (g_ends : (Nat → Int32)) (g_lengths : (Nat → Int32)) (g_items : (Nat → Int32)) (g_remaining : (Nat → Int32)) (t_crossed : Int32) (t_cost : Int32) (t_stops : (Nat → Int32)) (t_at : Int32) (t_area : Int32) (t_exit : Int32) (H : Heap) (locs : List Loc) (ls : Array Slot), iter (fun b : Int32 × Int32 × Int32 × Int32 × (Nat → Int32) × (Nat → Int32) × (Nat → Int32) × (Nat → Int32) × (Nat → Int32) × Int32 × Int32 × (Nat → Int32) × Int32 × Int32 × Int32 => sX6_outcomes_15 v1 n_nodes n_links n_tunnels n_areas n_firsts n_seconds n_privates n_entries n_exits n_truth n_facts b.1 b.2.1 b.2.2.1 b.2.2.2.1 b.2.2.2.2.1 b.2.2.2.2.2.1 b.2.2.2.2.2.2.1 b.2.2.2.2.2.2.2.1 b.2.2.2.2.2.2.2.2.1 b.2.2.2.2.2.2.2.2.2.1 b.2.2.2.2.2.2.2.2.2.2.1 b.2.2.2.2.2.2.2.2.2.2.2.1 b.2.2.2.2.2.2.2.2.2.2.2.2.1 b.2.2.2.2.2.2.2.2.2.2.2.2.2.1 b.2.2.2.2.2.2.2.2.2.2.2.2.2.2) n (v2, v3, g_nodes, g_edges, g_starts, g_ends, g_lengths, g_items, g_remaining, t_crossed, t_cost, t_stops, t_at, t_area, t_exit) = some res → zW Z A ((wX6 Z Ao Ah An Ac Ar Af Ag Ap At o_historySize o_wayIsKept ++ wX3 Z An n_nodes n_links n_tunnels n_messages n_areas n_firsts n_seconds n_privates n_entries n_exits n_truth n_facts n_news ++ wX2 Z Ag g_nodes g_edges g_starts g_ends g_lengths g_items g_remaining ++ wX4 Z At t_crossed t_cost t_stops t_at t_area t_exit)) s.heap H locs → lv_has ls 5 [(0, .ref Ao), (1, .int v1), (2, .int v2), (3, .int v3)] → W p l e rmX6_outcomes s m args below meth c H locs 0 0 (MQ below (zQi Z res.1 ((wX6 Z Ao Ah An Ac Ar Af Ag Ap At o_historySize o_wayIsKept ++ wX3 Z An n_nodes n_links n_tunnels n_messages n_areas n_firsts n_seconds n_privates n_entries n_exits n_truth n_facts n_news ++ wX2 Z Ag res.2.1 res.2.2.1 res.2.2.2.1 res.2.2.2.2.1 res.2.2.2.2.2.1 res.2.2.2.2.2.2.1 res.2.2.2.2.2.2.2.1 ++ wX4 Z At res.2.2.2.2.2.2.2.2.1 res.2.2.2.2.2.2.2.2.2.1 res.2.2.2.2.2.2.2.2.2.2.1 res.2.2.2.2.2.2.2.2.2.2.2.1 res.2.2.2.2.2.2.2.2.2.2.2.2.1 res.2.2.2.2.2.2.2.2.2.2.2.2.2)) A) args s 0 0 A) (F0 m 15 ls []) := by
  intro n
  induction n with
  | zero => intro v2 v3 g_nodes g_edges g_starts g_ends g_lengths g_items g_remaining t_crossed t_cost t_stops t_at t_area t_exit H locs ls h; cases h
  | succ n ih =>
    intro v2 v3 g_nodes g_edges g_starts g_ends g_lengths g_items g_remaining t_crossed t_cost t_stops t_at t_area t_exit H locs ls h hw hl
    obtain ⟨q1, h, hn1, hr1⟩ := iter_out h
    have hb1 : ∀ b : Int32 × Int32 × Int32 × Int32 × (Nat → Int32) × (Nat → Int32) × (Nat → Int32) × (Nat → Int32) × (Nat → Int32) × Int32 × Int32 × (Nat → Int32) × Int32 × Int32 × Int32, q1 = .inl b → ∀ (H : Heap) (locs : List Loc) (ls : Array Slot), zW Z A ((wX6 Z Ao Ah An Ac Ar Af Ag Ap At o_historySize o_wayIsKept ++ wX3 Z An n_nodes n_links n_tunnels n_messages n_areas n_firsts n_seconds n_privates n_entries n_exits n_truth n_facts n_news ++ wX2 Z Ag b.2.2.1 b.2.2.2.1 b.2.2.2.2.1 b.2.2.2.2.2.1 b.2.2.2.2.2.2.1 b.2.2.2.2.2.2.2.1 b.2.2.2.2.2.2.2.2.1 ++ wX4 Z At b.2.2.2.2.2.2.2.2.2.1 b.2.2.2.2.2.2.2.2.2.2.1 b.2.2.2.2.2.2.2.2.2.2.2.1 b.2.2.2.2.2.2.2.2.2.2.2.2.1 b.2.2.2.2.2.2.2.2.2.2.2.2.2.1 b.2.2.2.2.2.2.2.2.2.2.2.2.2.2)) s.heap H locs → lv_has ls 5 [(0, .ref Ao), (1, .int v1), (2, .int b.1), (3, .int b.2.1)] → W p l e rmX6_outcomes s m args below meth c H locs 0 0 (MQ below (zQi Z res.1 ((wX6 Z Ao Ah An Ac Ar Af Ag Ap At o_historySize o_wayIsKept ++ wX3 Z An n_nodes n_links n_tunnels n_messages n_areas n_firsts n_seconds n_privates n_entries n_exits n_truth n_facts n_news ++ wX2 Z Ag res.2.1 res.2.2.1 res.2.2.2.1 res.2.2.2.2.1 res.2.2.2.2.2.1 res.2.2.2.2.2.2.1 res.2.2.2.2.2.2.2.1 ++ wX4 Z At res.2.2.2.2.2.2.2.2.1 res.2.2.2.2.2.2.2.2.2.1 res.2.2.2.2.2.2.2.2.2.2.1 res.2.2.2.2.2.2.2.2.2.2.2.1 res.2.2.2.2.2.2.2.2.2.2.2.2.1 res.2.2.2.2.2.2.2.2.2.2.2.2.2)) A) args s 0 0 A) (F0 m 15 ls []) := fun b eb H locs ls hw hl => ih b.1 b.2.1 b.2.2.1 b.2.2.2.1 b.2.2.2.2.1 b.2.2.2.2.2.1 b.2.2.2.2.2.2.1 b.2.2.2.2.2.2.2.1 b.2.2.2.2.2.2.2.2.1 b.2.2.2.2.2.2.2.2.2.1 b.2.2.2.2.2.2.2.2.2.2.1 b.2.2.2.2.2.2.2.2.2.2.2.1 b.2.2.2.2.2.2.2.2.2.2.2.2.1 b.2.2.2.2.2.2.2.2.2.2.2.2.2.1 b.2.2.2.2.2.2.2.2.2.2.2.2.2.2 H locs ls (hn1 b eb) hw hl
    replace h : sX6_outcomes_15 v1 n_nodes n_links n_tunnels n_areas n_firsts n_seconds n_privates n_entries n_exits n_truth n_facts v2 v3 g_nodes g_edges g_starts g_ends g_lengths g_items g_remaining t_crossed t_cost t_stops t_at t_area t_exit = some q1 := h
    unfold sX6_outcomes_15 at h
    refine r_iload_n E hl 3 rfl dX6_outcomes_15 rfl ?_
    refine r_aload_n E hl 0 rfl dX6_outcomes_16 rfl ?_
    refine r_get E kW_X6 hw 0 rfl rfl 0 (by decide) kF_X6_12 rfl dX6_outcomes_17 ?_
    refine r_get E kW_X3 hw 1 rfl rfl 0 (by decide) kF_X6_66 rfl dX6_outcomes_20 ?_
    refine r_icmp_ge E 84 dX6_outcomes_23 (by decide) (fun hc => ?_) (fun hc => ?_)
    · replace h := ite_t hc h
      obtain ⟨ro1, h, hro1⟩ := oi_some h
      rw [hr1 _ hro1] at h
      refine r_iload_n E hl 2 rfl dX6_outcomes_84 rfl ?_
      obtain rfl := Option.some.inj h
      exact r_iret E hw dX6_outcomes_85
    · replace h := ite_f hc h
      refine r_iconst E 0 dX6_outcomes_26 (by decide) ?_
      refine r_istore E [(4, .int (0 : Int32)), (0, .ref Ao), (1, .int v1), (2, .int v2), (3, .int v3)] hl dX6_outcomes_27 (by decide) rfl (fun ls hl => ?_)
      obtain ⟨n7, h⟩ := wh_some h
      exact tX6_outcomes_29 E hb1 hr1 n7 _ _ _ _ _ _ _ _ _ _ _ _ _ _ _ _ _ _ h hw (lv_sub hl [1, 2, 3, 4, 0] rfl)
set_option maxRecDepth 100000 in
set_option maxHeartbeats 4000000 in
theorem mX6_outcomes (l : Launch) (Z : zT) (sz : Nat) (Ao : Nat) (Ah : Nat) (An : Nat → Nat) (Ac : Nat → Nat) (Ar : Nat → Nat) (Af : Nat → Nat) (Ag : Nat → Nat) (Ap : Nat → Nat) (At : Nat → Nat) (o_historySize : Int32) (o_wayIsKept : Int32) (n_nodes : Int32) (n_links : Int32) (n_tunnels : Int32) (n_messages : Int32) (n_areas : (Nat → Int32)) (n_firsts : (Nat → Int32)) (n_seconds : (Nat → Int32)) (n_privates : (Nat → Int32)) (n_entries : (Nat → Int32)) (n_exits : (Nat → Int32)) (n_truth : (Nat → Int32)) (n_facts : (Nat → Int32)) (n_news : (Nat → Int64)) (g_nodes : Int32) (g_edges : Int32) (g_starts : (Nat → Int32)) (g_ends : (Nat → Int32)) (g_lengths : (Nat → Int32)) (g_items : (Nat → Int32)) (g_remaining : (Nat → Int32)) (t_crossed : Int32) (t_cost : Int32) (t_stops : (Nat → Int32)) (t_at : Int32) (t_area : Int32) (t_exit : Int32) (v1 : Int32) {res : Int32 × Int32 × Int32 × (Nat → Int32) × (Nat → Int32) × (Nat → Int32) × (Nat → Int32) × (Nat → Int32) × Int32 × Int32 × (Nat → Int32) × Int32 × Int32 × Int32} (h : fX6_outcomes v1 n_nodes n_links n_tunnels n_areas n_firsts n_seconds n_privates n_entries n_exits n_truth n_facts g_nodes g_edges g_starts g_ends g_lengths g_items g_remaining t_crossed t_cost t_stops t_at t_area t_exit = some res) : Met l yX6_outcomes (Cond.code yX6_outcomes cX6_outcomes 5 (some .int) :: zWs) rmX6_outcomes (zP Z ((wX6 Z Ao Ah An Ac Ar Af Ag Ap At o_historySize o_wayIsKept ++ wX3 Z An n_nodes n_links n_tunnels n_messages n_areas n_firsts n_seconds n_privates n_entries n_exits n_truth n_facts n_news ++ wX2 Z Ag g_nodes g_edges g_starts g_ends g_lengths g_items g_remaining ++ wX4 Z At t_crossed t_cost t_stops t_at t_area t_exit)) sz [.ref Ao, .int v1]) (zQi Z res.1 ((wX6 Z Ao Ah An Ac Ar Af Ag Ap At o_historySize o_wayIsKept ++ wX3 Z An n_nodes n_links n_tunnels n_messages n_areas n_firsts n_seconds n_privates n_entries n_exits n_truth n_facts n_news ++ wX2 Z Ag res.2.1 res.2.2.1 res.2.2.2.1 res.2.2.2.2.1 res.2.2.2.2.2.1 res.2.2.2.2.2.2.1 res.2.2.2.2.2.2.2.1 ++ wX4 Z At res.2.2.2.2.2.2.2.2.1 res.2.2.2.2.2.2.2.2.2.1 res.2.2.2.2.2.2.2.2.2.2.1 res.2.2.2.2.2.2.2.2.2.2.2.1 res.2.2.2.2.2.2.2.2.2.2.2.2.1 res.2.2.2.2.2.2.2.2.2.2.2.2.2)) (va_A ((wX6 Z Ao Ah An Ac Ar Af Ag Ap At o_historySize o_wayIsKept ++ wX3 Z An n_nodes n_links n_tunnels n_messages n_areas n_firsts n_seconds n_privates n_entries n_exits n_truth n_facts n_news ++ wX2 Z Ag g_nodes g_edges g_starts g_ends g_lengths g_items g_remaining ++ wX4 Z At t_crossed t_cost t_stops t_at t_area t_exit)) sz)) 0 0 (va_A ((wX6 Z Ao Ah An Ac Ar Af Ag Ap At o_historySize o_wayIsKept ++ wX3 Z An n_nodes n_links n_tunnels n_messages n_areas n_firsts n_seconds n_privates n_entries n_exits n_truth n_facts n_news ++ wX2 Z Ag g_nodes g_edges g_starts g_ends g_lengths g_items g_remaining ++ wX4 Z At t_crossed t_cost t_stops t_at t_area t_exit)) sz) := by
  refine zMet (own := RX6) (fun A => zQi Z res.1 ((wX6 Z Ao Ah An Ac Ar Af Ag Ap At o_historySize o_wayIsKept ++ wX3 Z An n_nodes n_links n_tunnels n_messages n_areas n_firsts n_seconds n_privates n_entries n_exits n_truth n_facts n_news ++ wX2 Z Ag res.2.1 res.2.2.1 res.2.2.2.1 res.2.2.2.2.1 res.2.2.2.2.2.1 res.2.2.2.2.2.2.1 res.2.2.2.2.2.2.2.1 ++ wX4 Z At res.2.2.2.2.2.2.2.2.1 res.2.2.2.2.2.2.2.2.2.1 res.2.2.2.2.2.2.2.2.2.2.1 res.2.2.2.2.2.2.2.2.2.2.2.1 res.2.2.2.2.2.2.2.2.2.2.2.2.1 res.2.2.2.2.2.2.2.2.2.2.2.2.2)) A) (by decide) rfl (Nat.le_of_ble_eq_true rfl) ?_
  intro p e s m args below meth c ls A E hw hl
  unfold fX6_outcomes at h
  refine r_iload_n E hl 1 rfl dX6_outcomes_0 rfl ?_
  refine r_if_lt E 9 dX6_outcomes_1 (by decide) (fun hc => ?_) (fun hc => ?_)
  · replace h := ite_t hc h
    refine r_iconst E (-1) dX6_outcomes_9 (by decide) ?_
    obtain rfl := Option.some.inj h
    exact r_iret E hw dX6_outcomes_10
  · replace h := ite_f hc h
    refine r_iload_n E hl 1 rfl dX6_outcomes_4 rfl ?_
    refine r_iconst E 4 dX6_outcomes_5 (by decide) ?_
    refine r_icmp_le E 11 dX6_outcomes_6 (by decide) (fun hc => ?_) (fun hc => ?_)
    · replace h := ite_t hc h
      refine r_iconst E 0 dX6_outcomes_11 (by decide) ?_
      refine r_istore_n E [(2, .int (0 : Int32)), (0, .ref Ao), (1, .int v1)] hl dX6_outcomes_12 rfl (by decide) rfl (fun ls hl => ?_)
      refine r_iconst E 0 dX6_outcomes_13 (by decide) ?_
      refine r_istore_n E [(3, .int (0 : Int32)), (2, .int (0 : Int32)), (0, .ref Ao), (1, .int v1)] hl dX6_outcomes_14 rfl (by decide) rfl (fun ls hl => ?_)
      obtain ⟨n8, h⟩ := wh_some h
      exact tX6_outcomes_15 E  n8 _ _ _ _ _ _ _ _ _ _ _ _ _ _ _ _ _ _ h hw (lv_sub hl [2, 3, 1, 0] rfl)
    · replace h := ite_f hc h
      refine r_iconst E (-1) dX6_outcomes_9 (by decide) ?_
      obtain rfl := Option.some.inj h
      exact r_iret E hw dX6_outcomes_10
abbrev rmX6_ideal : Room := { frames := 3, cells := 0, slots := 0, locals := 74 }

set_option maxRecDepth 100000 in
set_option maxHeartbeats 4000000 in
theorem mX6_ideal (l : Launch) (Z : zT) (sz : Nat) (Ao : Nat) (Ah : Nat) (An : Nat → Nat) (Ac : Nat → Nat) (Ar : Nat → Nat) (Af : Nat → Nat) (Ag : Nat → Nat) (Ap : Nat → Nat) (At : Nat → Nat) (o_historySize : Int32) (o_wayIsKept : Int32) (n_nodes : Int32) (n_links : Int32) (n_tunnels : Int32) (n_messages : Int32) (n_areas : (Nat → Int32)) (n_firsts : (Nat → Int32)) (n_seconds : (Nat → Int32)) (n_privates : (Nat → Int32)) (n_entries : (Nat → Int32)) (n_exits : (Nat → Int32)) (n_truth : (Nat → Int32)) (n_facts : (Nat → Int32)) (n_news : (Nat → Int64)) (g_nodes : Int32) (g_edges : Int32) (g_starts : (Nat → Int32)) (g_ends : (Nat → Int32)) (g_lengths : (Nat → Int32)) (g_items : (Nat → Int32)) (g_remaining : (Nat → Int32)) (v1 : Int32) (v2 : Int32) {res : Int32 × Int32 × Int32 × (Nat → Int32) × (Nat → Int32) × (Nat → Int32) × (Nat → Int32) × (Nat → Int32)} (h : fX6_ideal v1 v2 n_nodes n_links n_areas n_firsts n_seconds n_privates n_truth g_nodes g_edges g_starts g_ends g_lengths g_items g_remaining = some res) : Met l yX6_ideal (Cond.code yX6_ideal cX6_ideal 3 (some .int) :: zWs) rmX6_ideal (zP Z ((wX6 Z Ao Ah An Ac Ar Af Ag Ap At o_historySize o_wayIsKept ++ wX3 Z An n_nodes n_links n_tunnels n_messages n_areas n_firsts n_seconds n_privates n_entries n_exits n_truth n_facts n_news ++ wX2 Z Ag g_nodes g_edges g_starts g_ends g_lengths g_items g_remaining)) sz [.ref Ao, .int v1, .int v2]) (zQi Z res.1 ((wX6 Z Ao Ah An Ac Ar Af Ag Ap At o_historySize o_wayIsKept ++ wX3 Z An n_nodes n_links n_tunnels n_messages n_areas n_firsts n_seconds n_privates n_entries n_exits n_truth n_facts n_news ++ wX2 Z Ag res.2.1 res.2.2.1 res.2.2.2.1 res.2.2.2.2.1 res.2.2.2.2.2.1 res.2.2.2.2.2.2.1 res.2.2.2.2.2.2.2)) (va_A ((wX6 Z Ao Ah An Ac Ar Af Ag Ap At o_historySize o_wayIsKept ++ wX3 Z An n_nodes n_links n_tunnels n_messages n_areas n_firsts n_seconds n_privates n_entries n_exits n_truth n_facts n_news ++ wX2 Z Ag g_nodes g_edges g_starts g_ends g_lengths g_items g_remaining)) sz)) 0 0 (va_A ((wX6 Z Ao Ah An Ac Ar Af Ag Ap At o_historySize o_wayIsKept ++ wX3 Z An n_nodes n_links n_tunnels n_messages n_areas n_firsts n_seconds n_privates n_entries n_exits n_truth n_facts n_news ++ wX2 Z Ag g_nodes g_edges g_starts g_ends g_lengths g_items g_remaining)) sz) := by
  refine zMet (own := RX6) (fun A => zQi Z res.1 ((wX6 Z Ao Ah An Ac Ar Af Ag Ap At o_historySize o_wayIsKept ++ wX3 Z An n_nodes n_links n_tunnels n_messages n_areas n_firsts n_seconds n_privates n_entries n_exits n_truth n_facts n_news ++ wX2 Z Ag res.2.1 res.2.2.1 res.2.2.2.1 res.2.2.2.2.1 res.2.2.2.2.2.1 res.2.2.2.2.2.2.1 res.2.2.2.2.2.2.2)) A) (by decide) rfl (Nat.le_of_ble_eq_true rfl) ?_
  intro p e s m args below meth c ls A E hw hl
  unfold fX6_ideal at h
  refine r_aload_n E hl 0 rfl dX6_ideal_0 rfl ?_
  refine r_iload_n E hl 1 rfl dX6_ideal_1 rfl ?_
  obtain ⟨y1, hy1, h⟩ := bd_some h
  refine r_callVQi E ((wX6 Z Ao Ah An Ac Ar Af Ag Ap At o_historySize o_wayIsKept ++ wX3 Z An n_nodes n_links n_tunnels n_messages n_areas n_firsts n_seconds n_privates n_entries n_exits n_truth n_facts n_news ++ wX2 Z Ag g_nodes g_edges g_starts g_ends g_lengths g_items g_remaining)) (wX2 Z Ag g_nodes g_edges g_starts g_ends g_lengths g_items g_remaining) hw (mX6_isNode l Z _ Ao Ah An Ac Ar Af Ag Ap At o_historySize o_wayIsKept n_nodes n_links n_tunnels n_messages n_areas n_firsts n_seconds n_privates n_entries n_exits n_truth n_facts n_news v1 hy1) kL_X6_165 kI_X6_isNode kS_X6_isNode kN_X6 kC_X6_isNode rfl rfl hdX6_isNode ⟨Nat.le_of_ble_eq_true rfl, Nat.le_of_ble_eq_true rfl⟩ (fun f => by simp only [sf_app] <;> omega) (fun f => by simp only [sf_app] <;> omega) 0 rfl rfl rfl rfl hl [] rfl (Nat.le_of_ble_eq_true rfl) dX6_ideal_2 ⟨Nat.zero_le _, Nat.zero_le _⟩ (fun H locs hw => ?_)
  refine r_if_eq E 16 dX6_ideal_5 (by decide) (fun hc => ?_) (fun hc => ?_)
  · replace h := ite_t hc h
    refine r_iconst E (-1) dX6_ideal_16 (by decide) ?_
    obtain rfl := Option.some.inj h
    exact r_iret E hw dX6_ideal_17
  · replace h := ite_f hc h
    refine r_aload_n E hl 0 rfl dX6_ideal_8 rfl ?_
    refine r_iload_n E hl 2 rfl dX6_ideal_9 rfl ?_
    obtain ⟨y2, hy2, h⟩ := bd_some h
    refine r_callVQi E ((wX6 Z Ao Ah An Ac Ar Af Ag Ap At o_historySize o_wayIsKept ++ wX3 Z An n_nodes n_links n_tunnels n_messages n_areas n_firsts n_seconds n_privates n_entries n_exits n_truth n_facts n_news ++ wX2 Z Ag g_nodes g_edges g_starts g_ends g_lengths g_items g_remaining)) (wX2 Z Ag g_nodes g_edges g_starts g_ends g_lengths g_items g_remaining) hw (mX6_isNode l Z _ Ao Ah An Ac Ar Af Ag Ap At o_historySize o_wayIsKept n_nodes n_links n_tunnels n_messages n_areas n_firsts n_seconds n_privates n_entries n_exits n_truth n_facts n_news v2 hy2) kL_X6_165 kI_X6_isNode kS_X6_isNode kN_X6 kC_X6_isNode rfl rfl hdX6_isNode ⟨Nat.le_of_ble_eq_true rfl, Nat.le_of_ble_eq_true rfl⟩ (fun f => by simp only [sf_app] <;> omega) (fun f => by simp only [sf_app] <;> omega) 0 rfl rfl rfl rfl hl [] rfl (Nat.le_of_ble_eq_true rfl) dX6_ideal_10 ⟨Nat.zero_le _, Nat.zero_le _⟩ (fun H locs hw => ?_)
    refine r_if_ne E 18 dX6_ideal_13 (by decide) (fun hc => ?_) (fun hc => ?_)
    · replace h := ite_f hc h
      refine r_aload_n E hl 0 rfl dX6_ideal_18 rfl ?_
      refine r_get E kW_X6 hw 0 rfl rfl 6 (by decide) kF_X6_44 rfl dX6_ideal_19 ?_
      refine r_aload_n E hl 0 rfl dX6_ideal_22 rfl ?_
      refine r_get E kW_X6 hw 0 rfl rfl 0 (by decide) kF_X6_12 rfl dX6_ideal_23 ?_
      refine r_aload_n E hl 0 rfl dX6_ideal_26 rfl ?_
      refine r_get E kW_X6 hw 0 rfl rfl 0 (by decide) kF_X6_12 rfl dX6_ideal_27 ?_
      refine r_aload_n E hl 0 rfl dX6_ideal_30 rfl ?_
      refine r_get E kW_X6 hw 0 rfl rfl 0 (by decide) kF_X6_12 rfl dX6_ideal_31 ?_
      refine r_get E kW_X3 hw 1 rfl rfl 4 (by decide) kF_X6_168 rfl dX6_ideal_34 ?_
      refine r_iload_n E hl 1 rfl dX6_ideal_37 rfl ?_
      obtain ⟨hg3, h⟩ := gd_some h
      refine r_iald E hw 2 rfl hg3 dX6_ideal_38 ?_
      obtain ⟨y4, hy4, h⟩ := bd_some h
      refine r_callVQi E ((wX6 Z Ao Ah An Ac Ar Af Ag Ap At o_historySize o_wayIsKept ++ wX3 Z An n_nodes n_links n_tunnels n_messages n_areas n_firsts n_seconds n_privates n_entries n_exits n_truth n_facts n_news ++ wX2 Z Ag g_nodes g_edges g_starts g_ends g_lengths g_items g_remaining)) (wX6 Z Ao Ah An Ac Ar Af Ag Ap At o_historySize o_wayIsKept ++ wX2 Z Ag g_nodes g_edges g_starts g_ends g_lengths g_items g_remaining) hw (mX3_entitlements l Z _ An n_nodes n_links n_tunnels n_messages n_areas n_firsts n_seconds n_privates n_entries n_exits n_truth n_facts n_news (n_areas (v1).toNatClampNeg) hy4) kL_X6_253 kI_X3_entitlements kS_X3_entitlements kN_X3 kC_X3_entitlements rfl rfl hdX3_entitlements ⟨Nat.le_of_ble_eq_true rfl, Nat.le_of_ble_eq_true rfl⟩ (fun f => by simp only [sf_app] <;> omega) (fun f => by simp only [sf_app] <;> omega) 1 rfl rfl rfl rfl hl [.ref (An 0), .ref (Ag 0)] rfl (Nat.le_of_ble_eq_true rfl) dX6_ideal_39 ⟨Nat.zero_le _, Nat.zero_le _⟩ (fun H locs hw => ?_)
      obtain ⟨y5, hy5, h⟩ := bd_some h
      refine r_callVQv E ((wX6 Z Ao Ah An Ac Ar Af Ag Ap At o_historySize o_wayIsKept ++ wX3 Z An n_nodes n_links n_tunnels n_messages n_areas n_firsts n_seconds n_privates n_entries n_exits n_truth n_facts n_news ++ wX2 Z Ag y5.1 y5.2.1 y5.2.2.1 y5.2.2.2.1 y5.2.2.2.2.1 y5.2.2.2.2.2 g_remaining)) (wX6 Z Ao Ah An Ac Ar Af Ag Ap At o_historySize o_wayIsKept) hw (mX2_takeTrueLinks l Z _ Ag An g_nodes g_edges g_starts g_ends g_lengths g_items g_remaining n_nodes n_links n_tunnels n_messages n_areas n_firsts n_seconds n_privates n_entries n_exits n_truth n_facts n_news y4 hy5) kL_X6_256 kI_X2_takeTrueLinks kS_X2_takeTrueLinks kN_X2 kC_X2_takeTrueLinks rfl rfl hdX2_takeTrueLinks ⟨Nat.le_of_ble_eq_true rfl, Nat.le_of_ble_eq_true rfl⟩ (fun f => by simp only [sf_app] <;> omega) (fun f => by simp only [sf_app] <;> omega) 11 rfl rfl rfl rfl hl [] rfl (Nat.le_of_ble_eq_true rfl) dX6_ideal_42 ⟨Nat.zero_le _, Nat.zero_le _⟩ (fun H locs hw => ?_)
      refine r_aload_n E hl 0 rfl dX6_ideal_45 rfl ?_
      refine r_get E kW_X6 hw 0 rfl rfl 6 (by decide) kF_X6_44 rfl dX6_ideal_46 ?_
      refine r_iload_n E hl 2 rfl dX6_ideal_49 rfl ?_
      obtain ⟨y6, hy6, h⟩ := bd_some h
      refine r_callVQv E ((wX6 Z Ao Ah An Ac Ar Af Ag Ap At o_historySize o_wayIsKept ++ wX3 Z An n_nodes n_links n_tunnels n_messages n_areas n_firsts n_seconds n_privates n_entries n_exits n_truth n_facts n_news ++ wX2 Z Ag y5.1 y5.2.1 y5.2.2.1 y5.2.2.2.1 y5.2.2.2.2.1 y5.2.2.2.2.2 y6)) (wX6 Z Ao Ah An Ac Ar Af Ag Ap At o_historySize o_wayIsKept ++ wX3 Z An n_nodes n_links n_tunnels n_messages n_areas n_firsts n_seconds n_privates n_entries n_exits n_truth n_facts n_news) hw (mX2_measureTo l Z _ Ag y5.1 y5.2.1 y5.2.2.1 y5.2.2.2.1 y5.2.2.2.2.1 y5.2.2.2.2.2 g_remaining v2 hy6) kL_X6_224 kI_X2_measureTo kS_X2_measureTo kN_X2 kC_X2_measureTo rfl rfl hdX2_measureTo ⟨Nat.le_of_ble_eq_true rfl, Nat.le_of_ble_eq_true rfl⟩ (fun f => by simp only [sf_app] <;> omega) (fun f => by simp only [sf_app] <;> omega) 11 rfl rfl rfl rfl hl [] rfl (Nat.le_of_ble_eq_true rfl) dX6_ideal_50 ⟨Nat.zero_le _, Nat.zero_le _⟩ (fun H locs hw => ?_)
      refine r_aload_n E hl 0 rfl dX6_ideal_53 rfl ?_
      refine r_get E kW_X6 hw 0 rfl rfl 6 (by decide) kF_X6_44 rfl dX6_ideal_54 ?_
      refine r_iload_n E hl 1 rfl dX6_ideal_57 rfl ?_
      obtain ⟨y7, hy7, h⟩ := bd_some h
      refine r_callVQi E ((wX6 Z Ao Ah An Ac Ar Af Ag Ap At o_historySize o_wayIsKept ++ wX3 Z An n_nodes n_links n_tunnels n_messages n_areas n_firsts n_seconds n_privates n_entries n_exits n_truth n_facts n_news ++ wX2 Z Ag y5.1 y5.2.1 y5.2.2.1 y5.2.2.2.1 y5.2.2.2.2.1 y5.2.2.2.2.2 y6)) (wX6 Z Ao Ah An Ac Ar Af Ag Ap At o_historySize o_wayIsKept ++ wX3 Z An n_nodes n_links n_tunnels n_messages n_areas n_firsts n_seconds n_privates n_entries n_exits n_truth n_facts n_news) hw (mX2_costFrom l Z _ Ag y5.1 y5.2.1 y5.2.2.1 y5.2.2.2.1 y5.2.2.2.2.1 y5.2.2.2.2.2 y6 v1 hy7) kL_X6_228 kI_X2_costFrom kS_X2_costFrom kN_X2 kC_X2_costFrom rfl rfl hdX2_costFrom ⟨Nat.le_of_ble_eq_true rfl, Nat.le_of_ble_eq_true rfl⟩ (fun f => by simp only [sf_app] <;> omega) (fun f => by simp only [sf_app] <;> omega) 11 rfl rfl rfl rfl hl [] rfl (Nat.le_of_ble_eq_true rfl) dX6_ideal_58 ⟨Nat.zero_le _, Nat.zero_le _⟩ (fun H locs hw => ?_)
      obtain rfl := Option.some.inj h
      exact r_iret E hw dX6_ideal_61
    · replace h := ite_t hc h
      refine r_iconst E (-1) dX6_ideal_16 (by decide) ?_
      obtain rfl := Option.some.inj h
      exact r_iret E hw dX6_ideal_17
abbrev rmX6_sumOfIdeals : Room := { frames := 3, cells := 0, slots := 0, locals := 74 }

set_option maxRecDepth 100000 in
set_option maxHeartbeats 4000000 in
theorem vX6_sumOfIdeals_102 {Z : zT} {p : Program} {l : Launch} {e : Env} {s : State} {m : MethodId} {args : Array Value} {below : List Frame} {meth : Method} {c : Code} {A : Nat → Prop} (E : zE Z p s m args meth c RX6 cX6_sumOfIdeals 7 (some .int) A) {Ao Ah : Nat} {An Ac Ar Af Ag Ap At : Nat → Nat} {v1 : Int32} {v3 : Int32} {v4 : Int32} {o_historySize : Int32} {o_wayIsKept : Int32} {n_nodes : Int32} {n_links : Int32} {n_tunnels : Int32} {n_messages : Int32} {n_areas : (Nat → Int32)} {n_firsts : (Nat → Int32)} {n_seconds : (Nat → Int32)} {n_privates : (Nat → Int32)} {n_entries : (Nat → Int32)} {n_exits : (Nat → Int32)} {n_truth : (Nat → Int32)} {n_facts : (Nat → Int32)} {n_news : (Nat → Int64)} {g_nodes : Int32} {g_edges : Int32} {g_starts : (Nat → Int32)} {g_ends : (Nat → Int32)} {g_lengths : (Nat → Int32)} {g_items : (Nat → Int32)} {g_remaining : (Nat → Int32)} {res : Int32 × Int32 × Int32 × (Nat → Int32) × (Nat → Int32) × (Nat → Int32) × (Nat → Int32) × (Nat → Int32)} {q1 : (Int32 × Int32 × (Nat → Int32)) ⊕ (Int32 × Int32 × Int32 × (Nat → Int32) × (Nat → Int32) × (Nat → Int32) × (Nat → Int32) × (Nat → Int32))} (hb1 : ∀ b : Int32 × Int32 × (Nat → Int32), q1 = .inl b → ∀ (H : Heap) (locs : List Loc) (ls : Array Slot), zW Z A ((wX6 Z Ao Ah An Ac Ar Af Ag Ap At o_historySize o_wayIsKept ++ wX3 Z An n_nodes n_links n_tunnels n_messages n_areas n_firsts n_seconds n_privates n_entries n_exits n_truth n_facts n_news ++ wX2 Z Ag g_nodes g_edges g_starts g_ends g_lengths g_items b.2.2)) s.heap H locs → lv_has ls 7 [(0, .ref Ao), (1, .int v1), (3, .int b.1), (4, .int b.2.1)] → W p l e rmX6_sumOfIdeals s m args below meth c H locs 0 0 (MQ below (zQi Z res.1 ((wX6 Z Ao Ah An Ac Ar Af Ag Ap At o_historySize o_wayIsKept ++ wX3 Z An n_nodes n_links n_tunnels n_messages n_areas n_firsts n_seconds n_privates n_entries n_exits n_truth n_facts n_news ++ wX2 Z Ag res.2.1 res.2.2.1 res.2.2.2.1 res.2.2.2.2.1 res.2.2.2.2.2.1 res.2.2.2.2.2.2.1 res.2.2.2.2.2.2.2)) A) args s 0 0 A) (F0 m 17 ls [])) (hr1 : ∀ r' , q1 = .inr r' → r' = res) {H : Heap} {locs : List Loc} {ls : Array Slot} (hw : zW Z A ((wX6 Z Ao Ah An Ac Ar Af Ag Ap At o_historySize o_wayIsKept ++ wX3 Z An n_nodes n_links n_tunnels n_messages n_areas n_firsts n_seconds n_privates n_entries n_exits n_truth n_facts n_news ++ wX2 Z Ag g_nodes g_edges g_starts g_ends g_lengths g_items g_remaining)) s.heap H locs) (hl : lv_has ls 7 [(0, .ref Ao), (1, .int v1), (3, .int v3), (4, .int v4)]) (h : uX6_sumOfIdeals_102 v3 v4 g_remaining = some q1) : W p l e rmX6_sumOfIdeals s m args below meth c H locs 0 0 (MQ below (zQi Z res.1 ((wX6 Z Ao Ah An Ac Ar Af Ag Ap At o_historySize o_wayIsKept ++ wX3 Z An n_nodes n_links n_tunnels n_messages n_areas n_firsts n_seconds n_privates n_entries n_exits n_truth n_facts n_news ++ wX2 Z Ag res.2.1 res.2.2.1 res.2.2.2.1 res.2.2.2.2.1 res.2.2.2.2.2.1 res.2.2.2.2.2.2.1 res.2.2.2.2.2.2.2)) A) args s 0 0 A) (F0 m 102 ls []) := by
  unfold uX6_sumOfIdeals_102 at h
  obtain ⟨w4, hw4, h⟩ := nm_out h
  refine r_iinc E w4 [(4, .int w4), (0, .ref Ao), (1, .int v1), (3, .int v3)] hl (k := 3) rfl dX6_sumOfIdeals_102 hw4.symm (by decide) rfl (fun ls hl => ?_)
  refine r_goto E 17 dX6_sumOfIdeals_105 (by decide) ?_
  exact hb1 _ (Option.some.inj h).symm _ _ _ hw (lv_sub hl [1, 2, 3, 0] rfl)
set_option maxRecDepth 100000 in
set_option maxHeartbeats 4000000 in
theorem vX6_sumOfIdeals_96 {Z : zT} {p : Program} {l : Launch} {e : Env} {s : State} {m : MethodId} {args : Array Value} {below : List Frame} {meth : Method} {c : Code} {A : Nat → Prop} (E : zE Z p s m args meth c RX6 cX6_sumOfIdeals 7 (some .int) A) {Ao Ah : Nat} {An Ac Ar Af Ag Ap At : Nat → Nat} {v1 : Int32} {v3 : Int32} {v4 : Int32} {v5 : Int32} {o_historySize : Int32} {o_wayIsKept : Int32} {n_nodes : Int32} {n_links : Int32} {n_tunnels : Int32} {n_messages : Int32} {n_areas : (Nat → Int32)} {n_firsts : (Nat → Int32)} {n_seconds : (Nat → Int32)} {n_privates : (Nat → Int32)} {n_entries : (Nat → Int32)} {n_exits : (Nat → Int32)} {n_truth : (Nat → Int32)} {n_facts : (Nat → Int32)} {n_news : (Nat → Int64)} {g_nodes : Int32} {g_edges : Int32} {g_starts : (Nat → Int32)} {g_ends : (Nat → Int32)} {g_lengths : (Nat → Int32)} {g_items : (Nat → Int32)} {g_remaining : (Nat → Int32)} {res : Int32 × Int32 × Int32 × (Nat → Int32) × (Nat → Int32) × (Nat → Int32) × (Nat → Int32) × (Nat → Int32)} {q1 : (Int32 × Int32 × (Nat → Int32)) ⊕ (Int32 × Int32 × Int32 × (Nat → Int32) × (Nat → Int32) × (Nat → Int32) × (Nat → Int32) × (Nat → Int32))} (hb1 : ∀ b : Int32 × Int32 × (Nat → Int32), q1 = .inl b → ∀ (H : Heap) (locs : List Loc) (ls : Array Slot), zW Z A ((wX6 Z Ao Ah An Ac Ar Af Ag Ap At o_historySize o_wayIsKept ++ wX3 Z An n_nodes n_links n_tunnels n_messages n_areas n_firsts n_seconds n_privates n_entries n_exits n_truth n_facts n_news ++ wX2 Z Ag g_nodes g_edges g_starts g_ends g_lengths g_items b.2.2)) s.heap H locs → lv_has ls 7 [(0, .ref Ao), (1, .int v1), (3, .int b.1), (4, .int b.2.1)] → W p l e rmX6_sumOfIdeals s m args below meth c H locs 0 0 (MQ below (zQi Z res.1 ((wX6 Z Ao Ah An Ac Ar Af Ag Ap At o_historySize o_wayIsKept ++ wX3 Z An n_nodes n_links n_tunnels n_messages n_areas n_firsts n_seconds n_privates n_entries n_exits n_truth n_facts n_news ++ wX2 Z Ag res.2.1 res.2.2.1 res.2.2.2.1 res.2.2.2.2.1 res.2.2.2.2.2.1 res.2.2.2.2.2.2.1 res.2.2.2.2.2.2.2)) A) args s 0 0 A) (F0 m 17 ls [])) (hr1 : ∀ r' , q1 = .inr r' → r' = res) {q2 : (Int32 × Int32) ⊕ ((Int32 × Int32 × (Nat → Int32)) ⊕ (Int32 × Int32 × Int32 × (Nat → Int32) × (Nat → Int32) × (Nat → Int32) × (Nat → Int32) × (Nat → Int32)))} (hb2 : ∀ b : Int32 × Int32, q2 = .inl b → ∀ (H : Heap) (locs : List Loc) (ls : Array Slot), zW Z A ((wX6 Z Ao Ah An Ac Ar Af Ag Ap At o_historySize o_wayIsKept ++ wX3 Z An n_nodes n_links n_tunnels n_messages n_areas n_firsts n_seconds n_privates n_entries n_exits n_truth n_facts n_news ++ wX2 Z Ag g_nodes g_edges g_starts g_ends g_lengths g_items g_remaining)) s.heap H locs → lv_has ls 7 [(0, .ref Ao), (1, .int v1), (3, .int b.1), (4, .int v4), (5, .int b.2)] → W p l e rmX6_sumOfIdeals s m args below meth c H locs 0 0 (MQ below (zQi Z res.1 ((wX6 Z Ao Ah An Ac Ar Af Ag Ap At o_historySize o_wayIsKept ++ wX3 Z An n_nodes n_links n_tunnels n_messages n_areas n_firsts n_seconds n_privates n_entries n_exits n_truth n_facts n_news ++ wX2 Z Ag res.2.1 res.2.2.1 res.2.2.2.1 res.2.2.2.2.1 res.2.2.2.2.2.1 res.2.2.2.2.2.2.1 res.2.2.2.2.2.2.2)) A) args s 0 0 A) (F0 m 41 ls [])) (hr2 : ∀ r' , q2 = .inr r' → r' = q1) {H : Heap} {locs : List Loc} {ls : Array Slot} (hw : zW Z A ((wX6 Z Ao Ah An Ac Ar Af Ag Ap At o_historySize o_wayIsKept ++ wX3 Z An n_nodes n_links n_tunnels n_messages n_areas n_firsts n_seconds n_privates n_entries n_exits n_truth n_facts n_news ++ wX2 Z Ag g_nodes g_edges g_starts g_ends g_lengths g_items g_remaining)) s.heap H locs) (hl : lv_has ls 7 [(0, .ref Ao), (1, .int v1), (3, .int v3), (4, .int v4), (5, .int v5)]) (h : uX6_sumOfIdeals_96 v3 v5 = some q2) : W p l e rmX6_sumOfIdeals s m args below meth c H locs 0 0 (MQ below (zQi Z res.1 ((wX6 Z Ao Ah An Ac Ar Af Ag Ap At o_historySize o_wayIsKept ++ wX3 Z An n_nodes n_links n_tunnels n_messages n_areas n_firsts n_seconds n_privates n_entries n_exits n_truth n_facts n_news ++ wX2 Z Ag res.2.1 res.2.2.1 res.2.2.2.1 res.2.2.2.2.1 res.2.2.2.2.2.1 res.2.2.2.2.2.2.1 res.2.2.2.2.2.2.2)) A) args s 0 0 A) (F0 m 96 ls []) := by
  unfold uX6_sumOfIdeals_96 at h
  obtain ⟨w7, hw7, h⟩ := nm_out h
  refine r_iinc E w7 [(5, .int w7), (0, .ref Ao), (1, .int v1), (3, .int v3), (4, .int v4)] hl (k := 4) rfl dX6_sumOfIdeals_96 hw7.symm (by decide) rfl (fun ls hl => ?_)
  refine r_goto E 41 dX6_sumOfIdeals_99 (by decide) ?_
  exact hb2 _ (Option.some.inj h).symm _ _ _ hw (lv_sub hl [1, 2, 3, 4, 0] rfl)
set_option maxRecDepth 100000 in
set_option maxHeartbeats 4000000 in
theorem vX6_sumOfIdeals_94 {Z : zT} {p : Program} {l : Launch} {e : Env} {s : State} {m : MethodId} {args : Array Value} {below : List Frame} {meth : Method} {c : Code} {A : Nat → Prop} (E : zE Z p s m args meth c RX6 cX6_sumOfIdeals 7 (some .int) A) {Ao Ah : Nat} {An Ac Ar Af Ag Ap At : Nat → Nat} {v1 : Int32} {v4 : Int32} {v5 : Int32} {k0 : Int32} {k1 : Int32} {o_historySize : Int32} {o_wayIsKept : Int32} {n_nodes : Int32} {n_links : Int32} {n_tunnels : Int32} {n_messages : Int32} {n_areas : (Nat → Int32)} {n_firsts : (Nat → Int32)} {n_seconds : (Nat → Int32)} {n_privates : (Nat → Int32)} {n_entries : (Nat → Int32)} {n_exits : (Nat → Int32)} {n_truth : (Nat → Int32)} {n_facts : (Nat → Int32)} {n_news : (Nat → Int64)} {g_nodes : Int32} {g_edges : Int32} {g_starts : (Nat → Int32)} {g_ends : (Nat → Int32)} {g_lengths : (Nat → Int32)} {g_items : (Nat → Int32)} {g_remaining : (Nat → Int32)} {res : Int32 × Int32 × Int32 × (Nat → Int32) × (Nat → Int32) × (Nat → Int32) × (Nat → Int32) × (Nat → Int32)} {q1 : (Int32 × Int32 × (Nat → Int32)) ⊕ (Int32 × Int32 × Int32 × (Nat → Int32) × (Nat → Int32) × (Nat → Int32) × (Nat → Int32) × (Nat → Int32))} (hb1 : ∀ b : Int32 × Int32 × (Nat → Int32), q1 = .inl b → ∀ (H : Heap) (locs : List Loc) (ls : Array Slot), zW Z A ((wX6 Z Ao Ah An Ac Ar Af Ag Ap At o_historySize o_wayIsKept ++ wX3 Z An n_nodes n_links n_tunnels n_messages n_areas n_firsts n_seconds n_privates n_entries n_exits n_truth n_facts n_news ++ wX2 Z Ag g_nodes g_edges g_starts g_ends g_lengths g_items b.2.2)) s.heap H locs → lv_has ls 7 [(0, .ref Ao), (1, .int v1), (3, .int b.1), (4, .int b.2.1)] → W p l e rmX6_sumOfIdeals s m args below meth c H locs 0 0 (MQ below (zQi Z res.1 ((wX6 Z Ao Ah An Ac Ar Af Ag Ap At o_historySize o_wayIsKept ++ wX3 Z An n_nodes n_links n_tunnels n_messages n_areas n_firsts n_seconds n_privates n_entries n_exits n_truth n_facts n_news ++ wX2 Z Ag res.2.1 res.2.2.1 res.2.2.2.1 res.2.2.2.2.1 res.2.2.2.2.2.1 res.2.2.2.2.2.2.1 res.2.2.2.2.2.2.2)) A) args s 0 0 A) (F0 m 17 ls [])) (hr1 : ∀ r' , q1 = .inr r' → r' = res) {q2 : (Int32 × Int32) ⊕ ((Int32 × Int32 × (Nat → Int32)) ⊕ (Int32 × Int32 × Int32 × (Nat → Int32) × (Nat → Int32) × (Nat → Int32) × (Nat → Int32) × (Nat → Int32)))} (hb2 : ∀ b : Int32 × Int32, q2 = .inl b → ∀ (H : Heap) (locs : List Loc) (ls : Array Slot), zW Z A ((wX6 Z Ao Ah An Ac Ar Af Ag Ap At o_historySize o_wayIsKept ++ wX3 Z An n_nodes n_links n_tunnels n_messages n_areas n_firsts n_seconds n_privates n_entries n_exits n_truth n_facts n_news ++ wX2 Z Ag g_nodes g_edges g_starts g_ends g_lengths g_items g_remaining)) s.heap H locs → lv_has ls 7 [(0, .ref Ao), (1, .int v1), (3, .int b.1), (4, .int v4), (5, .int b.2)] → W p l e rmX6_sumOfIdeals s m args below meth c H locs 0 0 (MQ below (zQi Z res.1 ((wX6 Z Ao Ah An Ac Ar Af Ag Ap At o_historySize o_wayIsKept ++ wX3 Z An n_nodes n_links n_tunnels n_messages n_areas n_firsts n_seconds n_privates n_entries n_exits n_truth n_facts n_news ++ wX2 Z Ag res.2.1 res.2.2.1 res.2.2.2.1 res.2.2.2.2.1 res.2.2.2.2.2.1 res.2.2.2.2.2.2.1 res.2.2.2.2.2.2.2)) A) args s 0 0 A) (F0 m 41 ls [])) (hr2 : ∀ r' , q2 = .inr r' → r' = q1) {H : Heap} {locs : List Loc} {ls : Array Slot} (hw : zW Z A ((wX6 Z Ao Ah An Ac Ar Af Ag Ap At o_historySize o_wayIsKept ++ wX3 Z An n_nodes n_links n_tunnels n_messages n_areas n_firsts n_seconds n_privates n_entries n_exits n_truth n_facts n_news ++ wX2 Z Ag g_nodes g_edges g_starts g_ends g_lengths g_items g_remaining)) s.heap H locs) (hl : lv_has ls 7 [(0, .ref Ao), (1, .int v1), (4, .int v4), (5, .int v5)]) (h : uX6_sumOfIdeals_94 v5 k0 k1 = some q2) : W p l e rmX6_sumOfIdeals s m args below meth c H locs 0 0 (MQ below (zQi Z res.1 ((wX6 Z Ao Ah An Ac Ar Af Ag Ap At o_historySize o_wayIsKept ++ wX3 Z An n_nodes n_links n_tunnels n_messages n_areas n_firsts n_seconds n_privates n_entries n_exits n_truth n_facts n_news ++ wX2 Z Ag res.2.1 res.2.2.1 res.2.2.2.1 res.2.2.2.2.1 res.2.2.2.2.2.1 res.2.2.2.2.2.2.1 res.2.2.2.2.2.2.2)) A) args s 0 0 A) (F0 m 94 ls [.int k1, .int k0]) := by
  unfold uX6_sumOfIdeals_94 at h
  refine r_iadd E dX6_sumOfIdeals_94 ?_
  obtain ⟨w9, hw9, h⟩ := nm_out h
  refine r_nm hw9 ?_
  refine r_istore_n E [(3, .int w9), (0, .ref Ao), (1, .int v1), (4, .int v4), (5, .int v5)] hl dX6_sumOfIdeals_95 rfl (by decide) rfl (fun ls hl => ?_)
  exact vX6_sumOfIdeals_96 E hb1 hr1 hb2 hr2 hw (lv_sub hl [1, 2, 0, 3, 4] rfl) h
set_option maxRecDepth 100000 in
set_option maxHeartbeats 4000000 in
theorem tX6_sumOfIdeals_41 {Z : zT} {p : Program} {l : Launch} {e : Env} {s : State} {m : MethodId} {args : Array Value} {below : List Frame} {meth : Method} {c : Code} {A : Nat → Prop} (E : zE Z p s m args meth c RX6 cX6_sumOfIdeals 7 (some .int) A) {Ao Ah : Nat} {An Ac Ar Af Ag Ap At : Nat → Nat} {v1 : Int32} {v4 : Int32} {o_historySize : Int32} {o_wayIsKept : Int32} {n_nodes : Int32} {n_links : Int32} {n_tunnels : Int32} {n_messages : Int32} {n_areas : (Nat → Int32)} {n_firsts : (Nat → Int32)} {n_seconds : (Nat → Int32)} {n_privates : (Nat → Int32)} {n_entries : (Nat → Int32)} {n_exits : (Nat → Int32)} {n_truth : (Nat → Int32)} {n_facts : (Nat → Int32)} {n_news : (Nat → Int64)} {g_nodes : Int32} {g_edges : Int32} {g_starts : (Nat → Int32)} {g_ends : (Nat → Int32)} {g_lengths : (Nat → Int32)} {g_items : (Nat → Int32)} {g_remaining : (Nat → Int32)} {res : Int32 × Int32 × Int32 × (Nat → Int32) × (Nat → Int32) × (Nat → Int32) × (Nat → Int32) × (Nat → Int32)} {q1 : (Int32 × Int32 × (Nat → Int32)) ⊕ (Int32 × Int32 × Int32 × (Nat → Int32) × (Nat → Int32) × (Nat → Int32) × (Nat → Int32) × (Nat → Int32))} (hb1 : ∀ b : Int32 × Int32 × (Nat → Int32), q1 = .inl b → ∀ (H : Heap) (locs : List Loc) (ls : Array Slot), zW Z A ((wX6 Z Ao Ah An Ac Ar Af Ag Ap At o_historySize o_wayIsKept ++ wX3 Z An n_nodes n_links n_tunnels n_messages n_areas n_firsts n_seconds n_privates n_entries n_exits n_truth n_facts n_news ++ wX2 Z Ag g_nodes g_edges g_starts g_ends g_lengths g_items b.2.2)) s.heap H locs → lv_has ls 7 [(0, .ref Ao), (1, .int v1), (3, .int b.1), (4, .int b.2.1)] → W p l e rmX6_sumOfIdeals s m args below meth c H locs 0 0 (MQ below (zQi Z res.1 ((wX6 Z Ao Ah An Ac Ar Af Ag Ap At o_historySize o_wayIsKept ++ wX3 Z An n_nodes n_links n_tunnels n_messages n_areas n_firsts n_seconds n_privates n_entries n_exits n_truth n_facts n_news ++ wX2 Z Ag res.2.1 res.2.2.1 res.2.2.2.1 res.2.2.2.2.1 res.2.2.2.2.2.1 res.2.2.2.2.2.2.1 res.2.2.2.2.2.2.2)) A) args s 0 0 A) (F0 m 17 ls [])) (hr1 : ∀ r' , q1 = .inr r' → r' = res) : ∀ (n : Nat) (v3 : Int32) (v5 : Int32) (H : Heap) (locs : List Loc) (ls : Array Slot), iter (fun b : Int32 × Int32 => sX6_sumOfIdeals_41 v1 v4 n_nodes n_areas g_remaining b.1 b.2) n (v3, v5) = some q1 → zW Z A ((wX6 Z Ao Ah An Ac Ar Af Ag Ap At o_historySize o_wayIsKept ++ wX3 Z An n_nodes n_links n_tunnels n_messages n_areas n_firsts n_seconds n_privates n_entries n_exits n_truth n_facts n_news ++ wX2 Z Ag g_nodes g_edges g_starts g_ends g_lengths g_items g_remaining)) s.heap H locs → lv_has ls 7 [(0, .ref Ao), (1, .int v1), (3, .int v3), (4, .int v4), (5, .int v5)] → W p l e rmX6_sumOfIdeals s m args below meth c H locs 0 0 (MQ below (zQi Z res.1 ((wX6 Z Ao Ah An Ac Ar Af Ag Ap At o_historySize o_wayIsKept ++ wX3 Z An n_nodes n_links n_tunnels n_messages n_areas n_firsts n_seconds n_privates n_entries n_exits n_truth n_facts n_news ++ wX2 Z Ag res.2.1 res.2.2.1 res.2.2.2.1 res.2.2.2.2.1 res.2.2.2.2.2.1 res.2.2.2.2.2.2.1 res.2.2.2.2.2.2.2)) A) args s 0 0 A) (F0 m 41 ls []) := by
  intro n
  induction n with
  | zero => intro v3 v5 H locs ls h; cases h
  | succ n ih =>
    intro v3 v5 H locs ls h hw hl
    obtain ⟨q2, h, hn2, hr2⟩ := iter_out h
    have hb2 : ∀ b : Int32 × Int32, q2 = .inl b → ∀ (H : Heap) (locs : List Loc) (ls : Array Slot), zW Z A ((wX6 Z Ao Ah An Ac Ar Af Ag Ap At o_historySize o_wayIsKept ++ wX3 Z An n_nodes n_links n_tunnels n_messages n_areas n_firsts n_seconds n_privates n_entries n_exits n_truth n_facts n_news ++ wX2 Z Ag g_nodes g_edges g_starts g_ends g_lengths g_items g_remaining)) s.heap H locs → lv_has ls 7 [(0, .ref Ao), (1, .int v1), (3, .int b.1), (4, .int v4), (5, .int b.2)] → W p l e rmX6_sumOfIdeals s m args below meth c H locs 0 0 (MQ below (zQi Z res.1 ((wX6 Z Ao Ah An Ac Ar Af Ag Ap At o_historySize o_wayIsKept ++ wX3 Z An n_nodes n_links n_tunnels n_messages n_areas n_firsts n_seconds n_privates n_entries n_exits n_truth n_facts n_news ++ wX2 Z Ag res.2.1 res.2.2.1 res.2.2.2.1 res.2.2.2.2.1 res.2.2.2.2.2.1 res.2.2.2.2.2.2.1 res.2.2.2.2.2.2.2)) A) args s 0 0 A) (F0 m 41 ls []) := fun b eb H locs ls hw hl => ih b.1 b.2 H locs ls (hn2 b eb) hw hl
    replace h : sX6_sumOfIdeals_41 v1 v4 n_nodes n_areas g_remaining v3 v5 = some q2 := h
    unfold sX6_sumOfIdeals_41 at h
    refine r_iload E hl 4 rfl dX6_sumOfIdeals_41 ?_
    refine r_aload_n E hl 0 rfl dX6_sumOfIdeals_43 rfl ?_
    refine r_get E kW_X6 hw 0 rfl rfl 0 (by decide) kF_X6_12 rfl dX6_sumOfIdeals_44 ?_
    refine r_get E kW_X3 hw 1 rfl rfl 0 (by decide) kF_X6_66 rfl dX6_sumOfIdeals_47 ?_
    refine r_icmp_ge E 102 dX6_sumOfIdeals_50 (by decide) (fun hc => ?_) (fun hc => ?_)
    · replace h := ite_t hc h
      obtain ⟨ro5, h, hro5⟩ := oi_some h
      rw [hr2 _ hro5] at h
      exact vX6_sumOfIdeals_102 E hb1 hr1 hw (lv_sub hl [0, 1, 2, 3] rfl) h
    · replace h := ite_f hc h
      refine r_aload_n E hl 0 rfl dX6_sumOfIdeals_53 rfl ?_
      refine r_get E kW_X6 hw 0 rfl rfl 0 (by decide) kF_X6_12 rfl dX6_sumOfIdeals_54 ?_
      refine r_get E kW_X3 hw 1 rfl rfl 4 (by decide) kF_X6_168 rfl dX6_sumOfIdeals_57 ?_
      refine r_iload E hl 4 rfl dX6_sumOfIdeals_60 ?_
      obtain ⟨hg6, h⟩ := gd_some h
      refine r_iald E hw 2 rfl hg6 dX6_sumOfIdeals_62 ?_
      refine r_iload_n E hl 1 rfl dX6_sumOfIdeals_63 rfl ?_
      refine r_icmp_ne E 96 dX6_sumOfIdeals_64 (by decide) (fun hc => ?_) (fun hc => ?_)
      · replace h := ite_f hc h
        exact vX6_sumOfIdeals_96 E hb1 hr1 hb2 hr2 hw hl h
      · replace h := ite_t hc h
        refine r_aload_n E hl 0 rfl dX6_sumOfIdeals_67 rfl ?_
        refine r_get E kW_X6 hw 0 rfl rfl 6 (by decide) kF_X6_44 rfl dX6_sumOfIdeals_68 ?_
        refine r_iload E hl 4 rfl dX6_sumOfIdeals_71 ?_
        obtain ⟨y8, hy8, h⟩ := bd_some h
        refine r_callVQi E ((wX6 Z Ao Ah An Ac Ar Af Ag Ap At o_historySize o_wayIsKept ++ wX3 Z An n_nodes n_links n_tunnels n_messages n_areas n_firsts n_seconds n_privates n_entries n_exits n_truth n_facts n_news ++ wX2 Z Ag g_nodes g_edges g_starts g_ends g_lengths g_items g_remaining)) (wX6 Z Ao Ah An Ac Ar Af Ag Ap At o_historySize o_wayIsKept ++ wX3 Z An n_nodes n_links n_tunnels n_messages n_areas n_firsts n_seconds n_privates n_entries n_exits n_truth n_facts n_news) hw (mX2_costFrom l Z _ Ag g_nodes g_edges g_starts g_ends g_lengths g_items g_remaining v5 hy8) kL_X6_228 kI_X2_costFrom kS_X2_costFrom kN_X2 kC_X2_costFrom rfl rfl hdX2_costFrom ⟨Nat.le_of_ble_eq_true rfl, Nat.le_of_ble_eq_true rfl⟩ (fun f => by simp only [sf_app] <;> omega) (fun f => by simp only [sf_app] <;> omega) 11 rfl rfl rfl rfl hl [] rfl (Nat.le_of_ble_eq_true rfl) dX6_sumOfIdeals_73 ⟨Nat.zero_le _, Nat.zero_le _⟩ (fun H locs hw => ?_)
        refine r_istore E [(6, .int y8), (0, .ref Ao), (1, .int v1), (3, .int v3), (4, .int v4), (5, .int v5)] hl dX6_sumOfIdeals_76 (by decide) rfl (fun ls hl => ?_)
        refine r_iload_n E hl 3 rfl dX6_sumOfIdeals_78 rfl ?_
        refine r_iload E hl 0 rfl dX6_sumOfIdeals_79 ?_
        refine r_bipush E (-9) dX6_sumOfIdeals_81 (by decide) ?_
        refine r_icmp_ne E 92 dX6_sumOfIdeals_83 (by decide) (fun hc => ?_) (fun hc => ?_)
        · replace h := ite_f hc h
          refine r_iload E hl 0 rfl dX6_sumOfIdeals_92 ?_
          exact vX6_sumOfIdeals_94 E hb1 hr1 hb2 hr2 hw (lv_sub hl [1, 2, 4, 5] rfl) h
        · replace h := ite_t hc h
          refine r_sipush E 200 dX6_sumOfIdeals_86 (by decide) ?_
          refine r_goto E 94 dX6_sumOfIdeals_89 (by decide) ?_
          exact vX6_sumOfIdeals_94 E hb1 hr1 hb2 hr2 hw (lv_sub hl [1, 2, 4, 5] rfl) h
set_option maxRecDepth 100000 in
set_option maxHeartbeats 4000000 in
theorem tX6_sumOfIdeals_17 {Z : zT} {p : Program} {l : Launch} {e : Env} {s : State} {m : MethodId} {args : Array Value} {below : List Frame} {meth : Method} {c : Code} {A : Nat → Prop} (E : zE Z p s m args meth c RX6 cX6_sumOfIdeals 7 (some .int) A) {Ao Ah : Nat} {An Ac Ar Af Ag Ap At : Nat → Nat} {v1 : Int32} {o_historySize : Int32} {o_wayIsKept : Int32} {n_nodes : Int32} {n_links : Int32} {n_tunnels : Int32} {n_messages : Int32} {n_areas : (Nat → Int32)} {n_firsts : (Nat → Int32)} {n_seconds : (Nat → Int32)} {n_privates : (Nat → Int32)} {n_entries : (Nat → Int32)} {n_exits : (Nat → Int32)} {n_truth : (Nat → Int32)} {n_facts : (Nat → Int32)} {n_news : (Nat → Int64)} {g_nodes : Int32} {g_edges : Int32} {g_starts : (Nat → Int32)} {g_ends : (Nat → Int32)} {g_lengths : (Nat → Int32)} {g_items : (Nat → Int32)} {res : Int32 × Int32 × Int32 × (Nat → Int32) × (Nat → Int32) × (Nat → Int32) × (Nat → Int32) × (Nat → Int32)}  : ∀ (n : Nat) (v3 : Int32) (v4 : Int32) (g_remaining : (Nat → Int32)) (H : Heap) (locs : List Loc) (ls : Array Slot), iter (fun b : Int32 × Int32 × (Nat → Int32) => sX6_sumOfIdeals_17 v1 n_nodes n_areas g_nodes g_edges g_starts g_ends g_lengths g_items b.1 b.2.1 b.2.2) n (v3, v4, g_remaining) = some res → zW Z A ((wX6 Z Ao Ah An Ac Ar Af Ag Ap At o_historySize o_wayIsKept ++ wX3 Z An n_nodes n_links n_tunnels n_messages n_areas n_firsts n_seconds n_privates n_entries n_exits n_truth n_facts n_news ++ wX2 Z Ag g_nodes g_edges g_starts g_ends g_lengths g_items g_remaining)) s.heap H locs → lv_has ls 7 [(0, .ref Ao), (1, .int v1), (3, .int v3), (4, .int v4)] → W p l e rmX6_sumOfIdeals s m args below meth c H locs 0 0 (MQ below (zQi Z res.1 ((wX6 Z Ao Ah An Ac Ar Af Ag Ap At o_historySize o_wayIsKept ++ wX3 Z An n_nodes n_links n_tunnels n_messages n_areas n_firsts n_seconds n_privates n_entries n_exits n_truth n_facts n_news ++ wX2 Z Ag res.2.1 res.2.2.1 res.2.2.2.1 res.2.2.2.2.1 res.2.2.2.2.2.1 res.2.2.2.2.2.2.1 res.2.2.2.2.2.2.2)) A) args s 0 0 A) (F0 m 17 ls []) := by
  intro n
  induction n with
  | zero => intro v3 v4 g_remaining H locs ls h; cases h
  | succ n ih =>
    intro v3 v4 g_remaining H locs ls h hw hl
    obtain ⟨q1, h, hn1, hr1⟩ := iter_out h
    have hb1 : ∀ b : Int32 × Int32 × (Nat → Int32), q1 = .inl b → ∀ (H : Heap) (locs : List Loc) (ls : Array Slot), zW Z A ((wX6 Z Ao Ah An Ac Ar Af Ag Ap At o_historySize o_wayIsKept ++ wX3 Z An n_nodes n_links n_tunnels n_messages n_areas n_firsts n_seconds n_privates n_entries n_exits n_truth n_facts n_news ++ wX2 Z Ag g_nodes g_edges g_starts g_ends g_lengths g_items b.2.2)) s.heap H locs → lv_has ls 7 [(0, .ref Ao), (1, .int v1), (3, .int b.1), (4, .int b.2.1)] → W p l e rmX6_sumOfIdeals s m args below meth c H locs 0 0 (MQ below (zQi Z res.1 ((wX6 Z Ao Ah An Ac Ar Af Ag Ap At o_historySize o_wayIsKept ++ wX3 Z An n_nodes n_links n_tunnels n_messages n_areas n_firsts n_seconds n_privates n_entries n_exits n_truth n_facts n_news ++ wX2 Z Ag res.2.1 res.2.2.1 res.2.2.2.1 res.2.2.2.2.1 res.2.2.2.2.2.1 res.2.2.2.2.2.2.1 res.2.2.2.2.2.2.2)) A) args s 0 0 A) (F0 m 17 ls []) := fun b eb H locs ls hw hl => ih b.1 b.2.1 b.2.2 H locs ls (hn1 b eb) hw hl
    replace h : sX6_sumOfIdeals_17 v1 n_nodes n_areas g_nodes g_edges g_starts g_ends g_lengths g_items v3 v4 g_remaining = some q1 := h
    unfold sX6_sumOfIdeals_17 at h
    refine r_iload E hl 3 rfl dX6_sumOfIdeals_17 ?_
    refine r_aload_n E hl 0 rfl dX6_sumOfIdeals_19 rfl ?_
    refine r_get E kW_X6 hw 0 rfl rfl 0 (by decide) kF_X6_12 rfl dX6_sumOfIdeals_20 ?_
    refine r_get E kW_X3 hw 1 rfl rfl 0 (by decide) kF_X6_66 rfl dX6_sumOfIdeals_23 ?_
    refine r_icmp_ge E 108 dX6_sumOfIdeals_26 (by decide) (fun hc => ?_) (fun hc => ?_)
    · replace h := ite_t hc h
      obtain ⟨ro2, h, hro2⟩ := oi_some h
      rw [hr1 _ hro2] at h
      refine r_iload_n E hl 2 rfl dX6_sumOfIdeals_108 rfl ?_
      obtain rfl := Option.some.inj h
      exact r_iret E hw dX6_sumOfIdeals_109
    · replace h := ite_f hc h
      refine r_aload_n E hl 0 rfl dX6_sumOfIdeals_29 rfl ?_
      refine r_get E kW_X6 hw 0 rfl rfl 6 (by decide) kF_X6_44 rfl dX6_sumOfIdeals_30 ?_
      refine r_iload E hl 3 rfl dX6_sumOfIdeals_33 ?_
      obtain ⟨y3, hy3, h⟩ := bd_some h
      refine r_callVQv E ((wX6 Z Ao Ah An Ac Ar Af Ag Ap At o_historySize o_wayIsKept ++ wX3 Z An n_nodes n_links n_tunnels n_messages n_areas n_firsts n_seconds n_privates n_entries n_exits n_truth n_facts n_news ++ wX2 Z Ag g_nodes g_edges g_starts g_ends g_lengths g_items y3)) (wX6 Z Ao Ah An Ac Ar Af Ag Ap At o_historySize o_wayIsKept ++ wX3 Z An n_nodes n_links n_tunnels n_messages n_areas n_firsts n_seconds n_privates n_entries n_exits n_truth n_facts n_news) hw (mX2_measureTo l Z _ Ag g_nodes g_edges g_starts g_ends g_lengths g_items g_remaining v4 hy3) kL_X6_224 kI_X2_measureTo kS_X2_measureTo kN_X2 kC_X2_measureTo rfl rfl hdX2_measureTo ⟨Nat.le_of_ble_eq_true rfl, Nat.le_of_ble_eq_true rfl⟩ (fun f => by simp only [sf_app] <;> omega) (fun f => by simp only [sf_app] <;> omega) 11 rfl rfl rfl rfl hl [] rfl (Nat.le_of_ble_eq_true rfl) dX6_sumOfIdeals_35 ⟨Nat.zero_le _, Nat.zero_le _⟩ (fun H locs hw => ?_)
      refine r_iconst E 0 dX6_sumOfIdeals_38 (by decide) ?_
      refine r_istore E [(5, .int (0 : Int32)), (0, .ref Ao), (1, .int v1), (3, .int v3), (4, .int v4)] hl dX6_sumOfIdeals_39 (by decide) rfl (fun ls hl => ?_)
      obtain ⟨n10, h⟩ := wh_some h
      exact tX6_sumOfIdeals_41 E hb1 hr1 n10 _ _ _ _ _ h hw (lv_sub hl [1, 2, 3, 4, 0] rfl)
set_option maxRecDepth 100000 in
set_option maxHeartbeats 4000000 in
theorem mX6_sumOfIdeals (l : Launch) (Z : zT) (sz : Nat) (Ao : Nat) (Ah : Nat) (An : Nat → Nat) (Ac : Nat → Nat) (Ar : Nat → Nat) (Af : Nat → Nat) (Ag : Nat → Nat) (Ap : Nat → Nat) (At : Nat → Nat) (o_historySize : Int32) (o_wayIsKept : Int32) (n_nodes : Int32) (n_links : Int32) (n_tunnels : Int32) (n_messages : Int32) (n_areas : (Nat → Int32)) (n_firsts : (Nat → Int32)) (n_seconds : (Nat → Int32)) (n_privates : (Nat → Int32)) (n_entries : (Nat → Int32)) (n_exits : (Nat → Int32)) (n_truth : (Nat → Int32)) (n_facts : (Nat → Int32)) (n_news : (Nat → Int64)) (g_nodes : Int32) (g_edges : Int32) (g_starts : (Nat → Int32)) (g_ends : (Nat → Int32)) (g_lengths : (Nat → Int32)) (g_items : (Nat → Int32)) (g_remaining : (Nat → Int32)) (v1 : Int32) (v2 : Int32) {res : Int32 × Int32 × Int32 × (Nat → Int32) × (Nat → Int32) × (Nat → Int32) × (Nat → Int32) × (Nat → Int32)} (h : fX6_sumOfIdeals v1 v2 n_nodes n_links n_areas n_firsts n_seconds n_privates n_truth g_starts g_ends g_lengths g_items g_remaining = some res) : Met l yX6_sumOfIdeals (Cond.code yX6_sumOfIdeals cX6_sumOfIdeals 7 (some .int) :: zWs) rmX6_sumOfIdeals (zP Z ((wX6 Z Ao Ah An Ac Ar Af Ag Ap At o_historySize o_wayIsKept ++ wX3 Z An n_nodes n_links n_tunnels n_messages n_areas n_firsts n_seconds n_privates n_entries n_exits n_truth n_facts n_news ++ wX2 Z Ag g_nodes g_edges g_starts g_ends g_lengths g_items g_remaining)) sz [.ref Ao, .int v1, .int v2]) (zQi Z res.1 ((wX6 Z Ao Ah An Ac Ar Af Ag Ap At o_historySize o_wayIsKept ++ wX3 Z An n_nodes n_links n_tunnels n_messages n_areas n_firsts n_seconds n_privates n_entries n_exits n_truth n_facts n_news ++ wX2 Z Ag res.2.1 res.2.2.1 res.2.2.2.1 res.2.2.2.2.1 res.2.2.2.2.2.1 res.2.2.2.2.2.2.1 res.2.2.2.2.2.2.2)) (va_A ((wX6 Z Ao Ah An Ac Ar Af Ag Ap At o_historySize o_wayIsKept ++ wX3 Z An n_nodes n_links n_tunnels n_messages n_areas n_firsts n_seconds n_privates n_entries n_exits n_truth n_facts n_news ++ wX2 Z Ag g_nodes g_edges g_starts g_ends g_lengths g_items g_remaining)) sz)) 0 0 (va_A ((wX6 Z Ao Ah An Ac Ar Af Ag Ap At o_historySize o_wayIsKept ++ wX3 Z An n_nodes n_links n_tunnels n_messages n_areas n_firsts n_seconds n_privates n_entries n_exits n_truth n_facts n_news ++ wX2 Z Ag g_nodes g_edges g_starts g_ends g_lengths g_items g_remaining)) sz) := by
  refine zMet (own := RX6) (fun A => zQi Z res.1 ((wX6 Z Ao Ah An Ac Ar Af Ag Ap At o_historySize o_wayIsKept ++ wX3 Z An n_nodes n_links n_tunnels n_messages n_areas n_firsts n_seconds n_privates n_entries n_exits n_truth n_facts n_news ++ wX2 Z Ag res.2.1 res.2.2.1 res.2.2.2.1 res.2.2.2.2.1 res.2.2.2.2.2.1 res.2.2.2.2.2.2.1 res.2.2.2.2.2.2.2)) A) (by decide) rfl (Nat.le_of_ble_eq_true rfl) ?_
  intro p e s m args below meth c ls A E hw hl
  unfold fX6_sumOfIdeals at h
  refine r_aload_n E hl 0 rfl dX6_sumOfIdeals_0 rfl ?_
  refine r_get E kW_X6 hw 0 rfl rfl 6 (by decide) kF_X6_44 rfl dX6_sumOfIdeals_1 ?_
  refine r_aload_n E hl 0 rfl dX6_sumOfIdeals_4 rfl ?_
  refine r_get E kW_X6 hw 0 rfl rfl 0 (by decide) kF_X6_12 rfl dX6_sumOfIdeals_5 ?_
  refine r_iload_n E hl 2 rfl dX6_sumOfIdeals_8 rfl ?_
  obtain ⟨y1, hy1, h⟩ := bd_some h
  refine r_callVQv E ((wX6 Z Ao Ah An Ac Ar Af Ag Ap At o_historySize o_wayIsKept ++ wX3 Z An n_nodes n_links n_tunnels n_messages n_areas n_firsts n_seconds n_privates n_entries n_exits n_truth n_facts n_news ++ wX2 Z Ag y1.1 y1.2.1 y1.2.2.1 y1.2.2.2.1 y1.2.2.2.2.1 y1.2.2.2.2.2 g_remaining)) (wX6 Z Ao Ah An Ac Ar Af Ag Ap At o_historySize o_wayIsKept) hw (mX2_takeTrueLinks l Z _ Ag An g_nodes g_edges g_starts g_ends g_lengths g_items g_remaining n_nodes n_links n_tunnels n_messages n_areas n_firsts n_seconds n_privates n_entries n_exits n_truth n_facts n_news v2 hy1) kL_X6_256 kI_X2_takeTrueLinks kS_X2_takeTrueLinks kN_X2 kC_X2_takeTrueLinks rfl rfl hdX2_takeTrueLinks ⟨Nat.le_of_ble_eq_true rfl, Nat.le_of_ble_eq_true rfl⟩ (fun f => by simp only [sf_app] <;> omega) (fun f => by simp only [sf_app] <;> omega) 11 rfl rfl rfl rfl hl [] rfl (Nat.le_of_ble_eq_true rfl) dX6_sumOfIdeals_9 ⟨Nat.zero_le _, Nat.zero_le _⟩ (fun H locs hw => ?_)
  refine r_iconst E 0 dX6_sumOfIdeals_12 (by decide) ?_
  refine r_istore_n E [(3, .int (0 : Int32)), (0, .ref Ao), (1, .int v1), (2, .int v2)] hl dX6_sumOfIdeals_13 rfl (by decide) rfl (fun ls hl => ?_)
  refine r_iconst E 0 dX6_sumOfIdeals_14 (by decide) ?_
  refine r_istore E [(4, .int (0 : Int32)), (3, .int (0 : Int32)), (0, .ref Ao), (1, .int v1), (2, .int v2)] hl dX6_sumOfIdeals_15 (by decide) rfl (fun ls hl => ?_)
  obtain ⟨n11, h⟩ := wh_some h
  exact tX6_sumOfIdeals_17 E  n11 _ _ _ _ _ _ h hw (lv_sub hl [2, 3, 1, 0] rfl)
abbrev rmX6_worth : Room := { frames := 4, cells := 0, slots := 0, locals := 100 }

set_option maxRecDepth 100000 in
set_option maxHeartbeats 4000000 in
theorem mX6_worth (l : Launch) (Z : zT) (sz : Nat) (Ao : Nat) (Ah : Nat) (An : Nat → Nat) (Ac : Nat → Nat) (Ar : Nat → Nat) (Af : Nat → Nat) (Ag : Nat → Nat) (Ap : Nat → Nat) (At : Nat → Nat) (o_historySize : Int32) (o_wayIsKept : Int32) (n_nodes : Int32) (n_links : Int32) (n_tunnels : Int32) (n_messages : Int32) (n_areas : (Nat → Int32)) (n_firsts : (Nat → Int32)) (n_seconds : (Nat → Int32)) (n_privates : (Nat → Int32)) (n_entries : (Nat → Int32)) (n_exits : (Nat → Int32)) (n_truth : (Nat → Int32)) (n_facts : (Nat → Int32)) (n_news : (Nat → Int64)) (g_nodes : Int32) (g_edges : Int32) (g_starts : (Nat → Int32)) (g_ends : (Nat → Int32)) (g_lengths : (Nat → Int32)) (g_items : (Nat → Int32)) (g_remaining : (Nat → Int32)) (v1 : Int32) (v2 : Int32) {res : Int32 × Int32 × Int32 × (Nat → Int32) × (Nat → Int32) × (Nat → Int32) × (Nat → Int32) × (Nat → Int32)} (h : fX6_worth v1 v2 n_nodes n_links n_areas n_firsts n_seconds n_privates n_truth g_nodes g_edges g_starts g_ends g_lengths g_items g_remaining = some res) : Met l yX6_worth (Cond.code yX6_worth cX6_worth 6 (some .int) :: zWs) rmX6_worth (zP Z ((wX6 Z Ao Ah An Ac Ar Af Ag Ap At o_historySize o_wayIsKept ++ wX3 Z An n_nodes n_links n_tunnels n_messages n_areas n_firsts n_seconds n_privates n_entries n_exits n_truth n_facts n_news ++ wX2 Z Ag g_nodes g_edges g_starts g_ends g_lengths g_items g_remaining)) sz [.ref Ao, .int v1, .int v2]) (zQi Z res.1 ((wX6 Z Ao Ah An Ac Ar Af Ag Ap At o_historySize o_wayIsKept ++ wX3 Z An n_nodes n_links n_tunnels n_messages n_areas n_firsts n_seconds n_privates n_entries n_exits n_truth n_facts n_news ++ wX2 Z Ag res.2.1 res.2.2.1 res.2.2.2.1 res.2.2.2.2.1 res.2.2.2.2.2.1 res.2.2.2.2.2.2.1 res.2.2.2.2.2.2.2)) (va_A ((wX6 Z Ao Ah An Ac Ar Af Ag Ap At o_historySize o_wayIsKept ++ wX3 Z An n_nodes n_links n_tunnels n_messages n_areas n_firsts n_seconds n_privates n_entries n_exits n_truth n_facts n_news ++ wX2 Z Ag g_nodes g_edges g_starts g_ends g_lengths g_items g_remaining)) sz)) 0 0 (va_A ((wX6 Z Ao Ah An Ac Ar Af Ag Ap At o_historySize o_wayIsKept ++ wX3 Z An n_nodes n_links n_tunnels n_messages n_areas n_firsts n_seconds n_privates n_entries n_exits n_truth n_facts n_news ++ wX2 Z Ag g_nodes g_edges g_starts g_ends g_lengths g_items g_remaining)) sz) := by
  refine zMet (own := RX6) (fun A => zQi Z res.1 ((wX6 Z Ao Ah An Ac Ar Af Ag Ap At o_historySize o_wayIsKept ++ wX3 Z An n_nodes n_links n_tunnels n_messages n_areas n_firsts n_seconds n_privates n_entries n_exits n_truth n_facts n_news ++ wX2 Z Ag res.2.1 res.2.2.1 res.2.2.2.1 res.2.2.2.2.1 res.2.2.2.2.2.1 res.2.2.2.2.2.2.1 res.2.2.2.2.2.2.2)) A) (by decide) rfl (Nat.le_of_ble_eq_true rfl) ?_
  intro p e s m args below meth c ls A E hw hl
  unfold fX6_worth at h
  refine r_iload_n E hl 1 rfl dX6_worth_0 rfl ?_
  refine r_iload_n E hl 2 rfl dX6_worth_1 rfl ?_
  obtain ⟨y1, hy1, h⟩ := bd_some h
  refine r_callS0i E hw (mX6_areTwoAreas l Z _ v1 v2 hy1) kL_X6_112 kT_X6_areTwoAreas kN_X6 kC_X6_areTwoAreas rfl rfl hdX6_areTwoAreas ⟨Nat.le_of_ble_eq_true rfl, Nat.le_of_ble_eq_true rfl⟩ rfl hl [] rfl (Nat.le_of_ble_eq_true rfl) dX6_worth_2 ⟨Nat.zero_le _, Nat.zero_le _⟩ (fun H locs hw => ?_)
  refine r_if_ne E 10 dX6_worth_5 (by decide) (fun hc => ?_) (fun hc => ?_)
  · replace h := ite_f hc h
    refine r_aload_n E hl 0 rfl dX6_worth_10 rfl ?_
    refine r_get E kW_X6 hw 0 rfl rfl 0 (by decide) kF_X6_12 rfl dX6_worth_11 ?_
    refine r_iload_n E hl 2 rfl dX6_worth_14 rfl ?_
    obtain ⟨y2, hy2, h⟩ := bd_some h
    refine r_callVQi E ((wX6 Z Ao Ah An Ac Ar Af Ag Ap At o_historySize o_wayIsKept ++ wX3 Z An n_nodes n_links n_tunnels n_messages n_areas n_firsts n_seconds n_privates n_entries n_exits n_truth n_facts n_news ++ wX2 Z Ag g_nodes g_edges g_starts g_ends g_lengths g_items g_remaining)) (wX6 Z Ao Ah An Ac Ar Af Ag Ap At o_historySize o_wayIsKept ++ wX2 Z Ag g_nodes g_edges g_starts g_ends g_lengths g_items g_remaining) hw (mX3_entitlements l Z _ An n_nodes n_links n_tunnels n_messages n_areas n_firsts n_seconds n_privates n_entries n_exits n_truth n_facts n_news v2 hy2) kL_X6_253 kI_X3_entitlements kS_X3_entitlements kN_X3 kC_X3_entitlements rfl rfl hdX3_entitlements ⟨Nat.le_of_ble_eq_true rfl, Nat.le_of_ble_eq_true rfl⟩ (fun f => by simp only [sf_app] <;> omega) (fun f => by simp only [sf_app] <;> omega) 1 rfl rfl rfl rfl hl [] rfl (Nat.le_of_ble_eq_true rfl) dX6_worth_15 ⟨Nat.zero_le _, Nat.zero_le _⟩ (fun H locs hw => ?_)
    refine r_istore_n E [(3, .int y2), (0, .ref Ao), (1, .int v1), (2, .int v2)] hl dX6_worth_18 rfl (by decide) rfl (fun ls hl => ?_)
    refine r_aload_n E hl 1 rfl dX6_worth_19 rfl ?_
    refine r_iload_n E hl 3 rfl dX6_worth_20 rfl ?_
    refine r_iload_n E hl 0 rfl dX6_worth_21 rfl ?_
    refine r_iconst E 1 dX6_worth_22 (by decide) ?_
    refine r_iload_n E hl 2 rfl dX6_worth_23 rfl ?_
    refine r_ishl E dX6_worth_24 ?_
    refine r_iconst E (-1) dX6_worth_25 (by decide) ?_
    refine r_ixor E dX6_worth_26 ?_
    refine r_iand E dX6_worth_27 ?_
    obtain ⟨y3, hy3, h⟩ := bd_some h
    refine r_callVAi E hw (mX6_sumOfIdeals l Z _ Ao Ah An Ac Ar Af Ag Ap At o_historySize o_wayIsKept n_nodes n_links n_tunnels n_messages n_areas n_firsts n_seconds n_privates n_entries n_exits n_truth n_facts n_news g_nodes g_edges g_starts g_ends g_lengths g_items g_remaining v2 (y2 &&& (((1 : Int32) <<< (v1 &&& 31)) ^^^ (-1 : Int32))) hy3) kL_X6_260 kI_X6_sumOfIdeals kS_X6_sumOfIdeals kN_X6 kC_X6_sumOfIdeals rfl rfl hdX6_sumOfIdeals ⟨Nat.le_of_ble_eq_true rfl, Nat.le_of_ble_eq_true rfl⟩ 0 rfl rfl rfl rfl hl [] rfl (Nat.le_of_ble_eq_true rfl) dX6_worth_28 ⟨Nat.zero_le _, Nat.zero_le _⟩ (fun H locs hw => ?_)
    refine r_istore E [(4, .int y3.1), (3, .int y2), (0, .ref Ao), (1, .int v1), (2, .int v2)] hl dX6_worth_31 (by decide) rfl (fun ls hl => ?_)
    refine r_aload_n E hl 2 rfl dX6_worth_33 rfl ?_
    refine r_iload_n E hl 4 rfl dX6_worth_34 rfl ?_
    refine r_iload_n E hl 1 rfl dX6_worth_35 rfl ?_
    refine r_iconst E 1 dX6_worth_36 (by decide) ?_
    refine r_iload_n E hl 3 rfl dX6_worth_37 rfl ?_
    refine r_ishl E dX6_worth_38 ?_
    refine r_ior E dX6_worth_39 ?_
    obtain ⟨y4, hy4, h⟩ := bd_some h
    refine r_callVAi E hw (mX6_sumOfIdeals l Z _ Ao Ah An Ac Ar Af Ag Ap At o_historySize o_wayIsKept n_nodes n_links n_tunnels n_messages n_areas n_firsts n_seconds n_privates n_entries n_exits n_truth n_facts n_news y3.2.1 y3.2.2.1 y3.2.2.2.1 y3.2.2.2.2.1 y3.2.2.2.2.2.1 y3.2.2.2.2.2.2.1 y3.2.2.2.2.2.2.2 v2 (y2 ||| ((1 : Int32) <<< (v1 &&& 31))) hy4) kL_X6_260 kI_X6_sumOfIdeals kS_X6_sumOfIdeals kN_X6 kC_X6_sumOfIdeals rfl rfl hdX6_sumOfIdeals ⟨Nat.le_of_ble_eq_true rfl, Nat.le_of_ble_eq_true rfl⟩ 0 rfl rfl rfl rfl hl [] rfl (Nat.le_of_ble_eq_true rfl) dX6_worth_40 ⟨Nat.zero_le _, Nat.zero_le _⟩ (fun H locs hw => ?_)
    refine r_istore E [(5, .int y4.1), (4, .int y3.1), (3, .int y2), (0, .ref Ao), (1, .int v1), (2, .int v2)] hl dX6_worth_43 (by decide) rfl (fun ls hl => ?_)
    refine r_iload E hl 1 rfl dX6_worth_45 ?_
    refine r_iload E hl 0 rfl dX6_worth_47 ?_
    refine r_isub E dX6_worth_49 ?_
    obtain rfl := Option.some.inj h
    exact r_iret E hw dX6_worth_50
  · replace h := ite_t hc h
    refine r_iconst E (-1) dX6_worth_8 (by decide) ?_
    obtain rfl := Option.some.inj h
    exact r_iret E hw dX6_worth_9
abbrev rmX6_roundsToQuiet : Room := { frames := 6, cells := 0, slots := 0, locals := 141 }

set_option maxRecDepth 100000 in
set_option maxHeartbeats 4000000 in
theorem mX6_roundsToQuiet (l : Launch) (Z : zT) (sz : Nat) (Ao : Nat) (Ah : Nat) (An : Nat → Nat) (Ac : Nat → Nat) (Ar : Nat → Nat) (Af : Nat → Nat) (Ag : Nat → Nat) (Ap : Nat → Nat) (At : Nat → Nat) (o_historySize : Int32) (o_wayIsKept : Int32) (n_nodes : Int32) (n_links : Int32) (n_tunnels : Int32) (n_messages : Int32) (n_areas : (Nat → Int32)) (n_firsts : (Nat → Int32)) (n_seconds : (Nat → Int32)) (n_privates : (Nat → Int32)) (n_entries : (Nat → Int32)) (n_exits : (Nat → Int32)) (n_truth : (Nat → Int32)) (n_facts : (Nat → Int32)) (n_news : (Nat → Int64)) (c_nodes : Int32) (c_links : Int32) (c_tunnels : Int32) (c_messages : Int32) (c_areas : (Nat → Int32)) (c_firsts : (Nat → Int32)) (c_seconds : (Nat → Int32)) (c_privates : (Nat → Int32)) (c_entries : (Nat → Int32)) (c_exits : (Nat → Int32)) (c_truth : (Nat → Int32)) (c_facts : (Nat → Int32)) (c_news : (Nat → Int64)) (f_sentFacts : (Nat → Int32)) (f_sentNews : (Nat → Int64))  {res : Int32 × Int32 × Int32 × Int32 × Int32 × (Nat → Int32) × (Nat → Int32) × (Nat → Int32) × (Nat → Int32) × (Nat → Int32) × (Nat → Int32) × (Nat → Int32) × (Nat → Int32) × (Nat → Int64) × (Nat → Int32) × (Nat → Int64)} (h : fX6_roundsToQuiet n_nodes n_links n_tunnels n_messages n_areas n_firsts n_seconds n_privates n_entries n_exits n_truth n_facts n_news c_areas c_firsts c_seconds c_privates c_entries c_exits c_truth c_facts c_news f_sentFacts f_sentNews = some res) : Met l yX6_roundsToQuiet (Cond.code yX6_roundsToQuiet cX6_roundsToQuiet 1 (some .int) :: zWs) rmX6_roundsToQuiet (zP Z ((wX6 Z Ao Ah An Ac Ar Af Ag Ap At o_historySize o_wayIsKept ++ wX3 Z An n_nodes n_links n_tunnels n_messages n_areas n_firsts n_seconds n_privates n_entries n_exits n_truth n_facts n_news ++ wX3 Z Ac c_nodes c_links c_tunnels c_messages c_areas c_firsts c_seconds c_privates c_entries c_exits c_truth c_facts c_news ++ wX1 Z Af f_sentFacts f_sentNews)) sz [.ref Ao]) (zQi Z res.1 ((wX6 Z Ao Ah An Ac Ar Af Ag Ap At o_historySize o_wayIsKept ++ wX3 Z An n_nodes n_links n_tunnels n_messages n_areas n_firsts n_seconds n_privates n_entries n_exits n_truth n_facts n_news ++ wX3 Z Ac res.2.1 res.2.2.1 res.2.2.2.1 res.2.2.2.2.1 res.2.2.2.2.2.1 res.2.2.2.2.2.2.1 res.2.2.2.2.2.2.2.1 res.2.2.2.2.2.2.2.2.1 res.2.2.2.2.2.2.2.2.2.1 res.2.2.2.2.2.2.2.2.2.2.1 res.2.2.2.2.2.2.2.2.2.2.2.1 res.2.2.2.2.2.2.2.2.2.2.2.2.1 res.2.2.2.2.2.2.2.2.2.2.2.2.2.1 ++ wX1 Z Af res.2.2.2.2.2.2.2.2.2.2.2.2.2.2.1 res.2.2.2.2.2.2.2.2.2.2.2.2.2.2.2)) (va_A ((wX6 Z Ao Ah An Ac Ar Af Ag Ap At o_historySize o_wayIsKept ++ wX3 Z An n_nodes n_links n_tunnels n_messages n_areas n_firsts n_seconds n_privates n_entries n_exits n_truth n_facts n_news ++ wX3 Z Ac c_nodes c_links c_tunnels c_messages c_areas c_firsts c_seconds c_privates c_entries c_exits c_truth c_facts c_news ++ wX1 Z Af f_sentFacts f_sentNews)) sz)) 0 0 (va_A ((wX6 Z Ao Ah An Ac Ar Af Ag Ap At o_historySize o_wayIsKept ++ wX3 Z An n_nodes n_links n_tunnels n_messages n_areas n_firsts n_seconds n_privates n_entries n_exits n_truth n_facts n_news ++ wX3 Z Ac c_nodes c_links c_tunnels c_messages c_areas c_firsts c_seconds c_privates c_entries c_exits c_truth c_facts c_news ++ wX1 Z Af f_sentFacts f_sentNews)) sz) := by
  refine zMet (own := RX6) (fun A => zQi Z res.1 ((wX6 Z Ao Ah An Ac Ar Af Ag Ap At o_historySize o_wayIsKept ++ wX3 Z An n_nodes n_links n_tunnels n_messages n_areas n_firsts n_seconds n_privates n_entries n_exits n_truth n_facts n_news ++ wX3 Z Ac res.2.1 res.2.2.1 res.2.2.2.1 res.2.2.2.2.1 res.2.2.2.2.2.1 res.2.2.2.2.2.2.1 res.2.2.2.2.2.2.2.1 res.2.2.2.2.2.2.2.2.1 res.2.2.2.2.2.2.2.2.2.1 res.2.2.2.2.2.2.2.2.2.2.1 res.2.2.2.2.2.2.2.2.2.2.2.1 res.2.2.2.2.2.2.2.2.2.2.2.2.1 res.2.2.2.2.2.2.2.2.2.2.2.2.2.1 ++ wX1 Z Af res.2.2.2.2.2.2.2.2.2.2.2.2.2.2.1 res.2.2.2.2.2.2.2.2.2.2.2.2.2.2.2)) A) (by decide) rfl (Nat.le_of_ble_eq_true rfl) ?_
  intro p e s m args below meth c ls A E hw hl
  unfold fX6_roundsToQuiet at h
  refine r_aload_n E hl 0 rfl dX6_roundsToQuiet_0 rfl ?_
  refine r_get E kW_X6 hw 0 rfl rfl 1 (by decide) kF_X6_16 rfl dX6_roundsToQuiet_1 ?_
  refine r_aload_n E hl 0 rfl dX6_roundsToQuiet_4 rfl ?_
  refine r_get E kW_X6 hw 0 rfl rfl 0 (by decide) kF_X6_12 rfl dX6_roundsToQuiet_5 ?_
  obtain ⟨y1, hy1, h⟩ := bd_some h
  refine r_callVQv E ((wX6 Z Ao Ah An Ac Ar Af Ag Ap At o_historySize o_wayIsKept ++ wX3 Z An n_nodes n_links n_tunnels n_messages n_areas n_firsts n_seconds n_privates n_entries n_exits n_truth n_facts n_news ++ wX3 Z Ac y1.1 y1.2.1 y1.2.2.1 y1.2.2.2.1 y1.2.2.2.2.1 y1.2.2.2.2.2.1 y1.2.2.2.2.2.2.1 y1.2.2.2.2.2.2.2.1 y1.2.2.2.2.2.2.2.2.1 y1.2.2.2.2.2.2.2.2.2.1 y1.2.2.2.2.2.2.2.2.2.2.1 y1.2.2.2.2.2.2.2.2.2.2.2.1 y1.2.2.2.2.2.2.2.2.2.2.2.2 ++ wX1 Z Af f_sentFacts f_sentNews)) (wX6 Z Ao Ah An Ac Ar Af Ag Ap At o_historySize o_wayIsKept ++ wX1 Z Af f_sentFacts f_sentNews) hw (mX3_copyFrom l Z _ Ac An c_nodes c_links c_tunnels c_messages c_areas c_firsts c_seconds c_privates c_entries c_exits c_truth c_facts c_news n_nodes n_links n_tunnels n_messages n_areas n_firsts n_seconds n_privates n_entries n_exits n_truth n_facts n_news hy1) kL_X6_145 kI_X3_copyFrom kS_X3_copyFrom kN_X3 kC_X3_copyFrom rfl rfl hdX3_copyFrom ⟨Nat.le_of_ble_eq_true rfl, Nat.le_of_ble_eq_true rfl⟩ (fun f => by simp only [sf_app] <;> omega) (fun f => by simp only [sf_app] <;> omega) 11 rfl rfl rfl rfl hl [] rfl (Nat.le_of_ble_eq_true rfl) dX6_roundsToQuiet_8 ⟨Nat.zero_le _, Nat.zero_le _⟩ (fun H locs hw => ?_)
  refine r_aload_n E hl 0 rfl dX6_roundsToQuiet_11 rfl ?_
  refine r_get E kW_X6 hw 0 rfl rfl 5 (by decide) kF_X6_37 rfl dX6_roundsToQuiet_12 ?_
  refine r_aload_n E hl 0 rfl dX6_roundsToQuiet_15 rfl ?_
  refine r_get E kW_X6 hw 0 rfl rfl 1 (by decide) kF_X6_16 rfl dX6_roundsToQuiet_16 ?_
  refine r_ldc E (1000000) kQ_X6_160 dX6_roundsToQuiet_19 ?_
  obtain ⟨y2, hy2, h⟩ := bd_some h
  refine r_callVQi E ((wX6 Z Ao Ah An Ac Ar Af Ag Ap At o_historySize o_wayIsKept ++ wX3 Z An n_nodes n_links n_tunnels n_messages n_areas n_firsts n_seconds n_privates n_entries n_exits n_truth n_facts n_news ++ wX3 Z Ac y1.1 y1.2.1 y1.2.2.1 y2.2.2.2.1 y1.2.2.2.2.1 y1.2.2.2.2.2.1 y1.2.2.2.2.2.2.1 y1.2.2.2.2.2.2.2.1 y1.2.2.2.2.2.2.2.2.1 y1.2.2.2.2.2.2.2.2.2.1 y1.2.2.2.2.2.2.2.2.2.2.1 y2.2.2.2.2.1 y2.2.2.2.2.2 ++ wX1 Z Af y2.2.1 y2.2.2.1)) (wX6 Z Ao Ah An Ac Ar Af Ag Ap At o_historySize o_wayIsKept ++ wX3 Z An n_nodes n_links n_tunnels n_messages n_areas n_firsts n_seconds n_privates n_entries n_exits n_truth n_facts n_news) hw (mX1_passRounds l Z _ Af Ac f_sentFacts f_sentNews y1.1 y1.2.1 y1.2.2.1 y1.2.2.2.1 y1.2.2.2.2.1 y1.2.2.2.2.2.1 y1.2.2.2.2.2.2.1 y1.2.2.2.2.2.2.2.1 y1.2.2.2.2.2.2.2.2.1 y1.2.2.2.2.2.2.2.2.2.1 y1.2.2.2.2.2.2.2.2.2.2.1 y1.2.2.2.2.2.2.2.2.2.2.2.1 y1.2.2.2.2.2.2.2.2.2.2.2.2 (1000000 : Int32) hy2) kL_X6_156 kI_X1_passRounds kS_X1_passRounds kN_X1 kC_X1_passRounds rfl rfl hdX1_passRounds ⟨Nat.le_of_ble_eq_true rfl, Nat.le_of_ble_eq_true rfl⟩ (fun f => by simp only [sf_app] <;> omega) (fun f => by simp only [sf_app] <;> omega) 21 rfl rfl rfl rfl hl [] rfl (Nat.le_of_ble_eq_true rfl) dX6_roundsToQuiet_21 ⟨Nat.zero_le _, Nat.zero_le _⟩ (fun H locs hw => ?_)
  obtain rfl := Option.some.inj h
  exact r_iret E hw dX6_roundsToQuiet_24
