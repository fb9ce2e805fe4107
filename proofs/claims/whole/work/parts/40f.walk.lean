abbrev rmX4_isDelivered : Room := { frames := 0, cells := 0, slots := 0, locals := 0 }

set_option maxRecDepth 100000 in
set_option maxHeartbeats 4000000 in
theorem mX4_isDelivered (l : Launch) (Z : zT) (sz : Nat) (Ap : Nat → Nat) (p_crossed : Int32) (p_cost : Int32) (p_stops : (Nat → Int32)) (p_at : Int32) (p_area : Int32) (p_exit : Int32) (v1 : Int32) {res : Int32} (h : fX4_isDelivered v1 p_at p_exit = some res) : Met l yX4_isDelivered (Cond.code yX4_isDelivered cX4_isDelivered 2 (some .boolean) :: zWs) rmX4_isDelivered (zP Z (wX4 Z Ap p_crossed p_cost p_stops p_at p_area p_exit) sz [.ref (Ap 0), .int v1]) (zQi Z res (wX4 Z Ap p_crossed p_cost p_stops p_at p_area p_exit) (va_A (wX4 Z Ap p_crossed p_cost p_stops p_at p_area p_exit) sz)) 0 0 (va_A (wX4 Z Ap p_crossed p_cost p_stops p_at p_area p_exit) sz) := by
  refine zMet (own := RX4) (fun A => zQi Z res (wX4 Z Ap p_crossed p_cost p_stops p_at p_area p_exit) A) (by decide) rfl (Nat.le_of_ble_eq_true rfl) ?_
  intro p e s m args below meth c ls A E hw hl
  unfold fX4_isDelivered at h
  refine r_aload_n E hl 0 rfl dX4_isDelivered_0 rfl ?_
  refine r_get E kW_X4 hw 0 rfl rfl 3 (by decide) kF_X4_22 rfl dX4_isDelivered_1 ?_
  refine r_iload_n E hl 1 rfl dX4_isDelivered_4 rfl ?_
  refine r_icmp_ne E 20 dX4_isDelivered_5 (by decide) (fun hc => ?_) (fun hc => ?_)
  · replace h := ite_f hc h
    refine r_iconst E 0 dX4_isDelivered_20 (by decide) ?_
    obtain rfl := Option.some.inj h
    exact r_zret E bz_0 hw dX4_isDelivered_21
  · replace h := ite_t hc h
    refine r_aload_n E hl 0 rfl dX4_isDelivered_8 rfl ?_
    refine r_get E kW_X4 hw 0 rfl rfl 5 (by decide) kF_X4_28 rfl dX4_isDelivered_9 ?_
    refine r_iconst E (-1) dX4_isDelivered_12 (by decide) ?_
    refine r_icmp_ne E 20 dX4_isDelivered_13 (by decide) (fun hc => ?_) (fun hc => ?_)
    · replace h := ite_f hc h
      refine r_iconst E 0 dX4_isDelivered_20 (by decide) ?_
      obtain rfl := Option.some.inj h
      exact r_zret E bz_0 hw dX4_isDelivered_21
    · replace h := ite_t hc h
      refine r_iconst E 1 dX4_isDelivered_16 (by decide) ?_
      refine r_goto E 21 dX4_isDelivered_17 (by decide) ?_
      obtain rfl := Option.some.inj h
      exact r_zret E bz_1 hw dX4_isDelivered_21
abbrev rmX4_chooseEdge : Room := { frames := 4, cells := 0, slots := 0, locals := 92 }

set_option maxRecDepth 100000 in
set_option maxHeartbeats 4000000 in
theorem vX4_chooseEdge_43 {Z : zT} {p : Program} {l : Launch} {e : Env} {s : State} {m : MethodId} {args : Array Value} {below : List Frame} {meth : Method} {c : Code} {A : Nat → Prop} (E : zE Z p s m args meth c RX4 cX4_chooseEdge 4 (some .int) A) {Ap : Nat → Nat} {An : Nat → Nat} {Ag : Nat → Nat} {k1 : Int32} {p_crossed : Int32} {p_cost : Int32} {p_stops : (Nat → Int32)} {p_at : Int32} {p_area : Int32} {p_exit : Int32} {n_nodes : Int32} {n_links : Int32} {n_tunnels : Int32} {n_messages : Int32} {n_areas : (Nat → Int32)} {n_firsts : (Nat → Int32)} {n_seconds : (Nat → Int32)} {n_privates : (Nat → Int32)} {n_entries : (Nat → Int32)} {n_exits : (Nat → Int32)} {n_truth : (Nat → Int32)} {n_facts : (Nat → Int32)} {n_news : (Nat → Int64)} {g_nodes : Int32} {g_edges : Int32} {g_starts : (Nat → Int32)} {g_ends : (Nat → Int32)} {g_lengths : (Nat → Int32)} {g_items : (Nat → Int32)} {g_remaining : (Nat → Int32)} {res : Int32 × Int32 × Int32 × (Nat → Int32) × (Nat → Int32) × (Nat → Int32) × (Nat → Int32) × (Nat → Int32)}  {H : Heap} {locs : List Loc} {ls : Array Slot} (hw : zW Z A ((wX4 Z Ap p_crossed p_cost p_stops p_at p_area p_exit ++ wX3 Z An n_nodes n_links n_tunnels n_messages n_areas n_firsts n_seconds n_privates n_entries n_exits n_truth n_facts n_news ++ wX2 Z Ag g_nodes g_edges g_starts g_ends g_lengths g_items g_remaining)) s.heap H locs) (hl : lv_has ls 4 [(0, .ref (Ap 0)), (2, .ref (Ag 0))]) (h : uX4_chooseEdge_43 k1 p_at g_nodes g_edges g_starts g_ends g_lengths g_items g_remaining = some res) : W p l e rmX4_chooseEdge s m args below meth c H locs 0 0 (MQ below (zQi Z res.1 ((wX4 Z Ap p_crossed p_cost p_stops p_at p_area p_exit ++ wX3 Z An n_nodes n_links n_tunnels n_messages n_areas n_firsts n_seconds n_privates n_entries n_exits n_truth n_facts n_news ++ wX2 Z Ag res.2.1 res.2.2.1 res.2.2.2.1 res.2.2.2.2.1 res.2.2.2.2.2.1 res.2.2.2.2.2.2.1 res.2.2.2.2.2.2.2)) A) args s 0 0 A) (F0 m 43 ls [.int k1, .ref (Ag 0)]) := by
  unfold uX4_chooseEdge_43 at h
  obtain ⟨y2, hy2, h⟩ := bd_some h
  refine r_callVQv E ((wX4 Z Ap p_crossed p_cost p_stops p_at p_area p_exit ++ wX3 Z An n_nodes n_links n_tunnels n_messages n_areas n_firsts n_seconds n_privates n_entries n_exits n_truth n_facts n_news ++ wX2 Z Ag g_nodes g_edges g_starts g_ends g_lengths g_items y2)) (wX4 Z Ap p_crossed p_cost p_stops p_at p_area p_exit ++ wX3 Z An n_nodes n_links n_tunnels n_messages n_areas n_firsts n_seconds n_privates n_entries n_exits n_truth n_facts n_news) hw (mX2_measureTo l Z _ Ag g_nodes g_edges g_starts g_ends g_lengths g_items g_remaining k1 hy2) kL_X4_68 kI_X2_measureTo kS_X2_measureTo kN_X2 kC_X2_measureTo rfl rfl hdX2_measureTo ⟨Nat.le_of_ble_eq_true rfl, Nat.le_of_ble_eq_true rfl⟩ (fun f => by simp only [sf_app] <;> omega) (fun f => by simp only [sf_app] <;> omega) 12 rfl rfl rfl rfl hl [] rfl (Nat.le_of_ble_eq_true rfl) dX4_chooseEdge_43 ⟨Nat.zero_le _, Nat.zero_le _⟩ (fun H locs hw => ?_)
  refine r_aload_n E hl 1 rfl dX4_chooseEdge_46 rfl ?_
  refine r_aload_n E hl 0 rfl dX4_chooseEdge_47 rfl ?_
  refine r_get E kW_X4 hw 0 rfl rfl 3 (by decide) kF_X4_22 rfl dX4_chooseEdge_48 ?_
  obtain ⟨y3, hy3, h⟩ := bd_some h
  refine r_callVQi E ((wX4 Z Ap p_crossed p_cost p_stops p_at p_area p_exit ++ wX3 Z An n_nodes n_links n_tunnels n_messages n_areas n_firsts n_seconds n_privates n_entries n_exits n_truth n_facts n_news ++ wX2 Z Ag g_nodes g_edges g_starts g_ends g_lengths g_items y2)) (wX4 Z Ap p_crossed p_cost p_stops p_at p_area p_exit ++ wX3 Z An n_nodes n_links n_tunnels n_messages n_areas n_firsts n_seconds n_privates n_entries n_exits n_truth n_facts n_news) hw (mX2_firstEdge l Z _ Ag g_nodes g_edges g_starts g_ends g_lengths g_items y2 p_at hy3) kL_X4_71 kI_X2_firstEdge kS_X2_firstEdge kN_X2 kC_X2_firstEdge rfl rfl hdX2_firstEdge ⟨Nat.le_of_ble_eq_true rfl, Nat.le_of_ble_eq_true rfl⟩ (fun f => by simp only [sf_app] <;> omega) (fun f => by simp only [sf_app] <;> omega) 12 rfl rfl rfl rfl hl [] rfl (Nat.le_of_ble_eq_true rfl) dX4_chooseEdge_51 ⟨Nat.zero_le _, Nat.zero_le _⟩ (fun H locs hw => ?_)
  obtain rfl := Option.some.inj h
  exact r_iret E hw dX4_chooseEdge_54
set_option maxRecDepth 100000 in
set_option maxHeartbeats 4000000 in
theorem vX4_chooseEdge_23 {Z : zT} {p : Program} {l : Launch} {e : Env} {s : State} {m : MethodId} {args : Array Value} {below : List Frame} {meth : Method} {c : Code} {A : Nat → Prop} (E : zE Z p s m args meth c RX4 cX4_chooseEdge 4 (some .int) A) {Ap : Nat → Nat} {An : Nat → Nat} {Ag : Nat → Nat} {v3 : Int32} {k2 : Int32} {k3 : Int32} {k4 : Int32} {p_crossed : Int32} {p_cost : Int32} {p_stops : (Nat → Int32)} {p_at : Int32} {p_area : Int32} {p_exit : Int32} {n_nodes : Int32} {n_links : Int32} {n_tunnels : Int32} {n_messages : Int32} {n_areas : (Nat → Int32)} {n_firsts : (Nat → Int32)} {n_seconds : (Nat → Int32)} {n_privates : (Nat → Int32)} {n_entries : (Nat → Int32)} {n_exits : (Nat → Int32)} {n_truth : (Nat → Int32)} {n_facts : (Nat → Int32)} {n_news : (Nat → Int64)} {g_nodes : Int32} {g_edges : Int32} {g_starts : (Nat → Int32)} {g_ends : (Nat → Int32)} {g_lengths : (Nat → Int32)} {g_items : (Nat → Int32)} {g_remaining : (Nat → Int32)} {res : Int32 × Int32 × Int32 × (Nat → Int32) × (Nat → Int32) × (Nat → Int32) × (Nat → Int32) × (Nat → Int32)}  {H : Heap} {locs : List Loc} {ls : Array Slot} (hw : zW Z A ((wX4 Z Ap p_crossed p_cost p_stops p_at p_area p_exit ++ wX3 Z An n_nodes n_links n_tunnels n_messages n_areas n_firsts n_seconds n_privates n_entries n_exits n_truth n_facts n_news ++ wX2 Z Ag g_nodes g_edges g_starts g_ends g_lengths g_items g_remaining)) s.heap H locs) (hl : lv_has ls 4 [(0, .ref (Ap 0)), (2, .ref (Ag 0)), (3, .int v3)]) (h : uX4_chooseEdge_23 v3 k2 k3 k4 p_at p_exit n_nodes n_links n_tunnels n_areas n_firsts n_seconds n_privates n_entries n_exits n_facts g_starts g_ends g_lengths g_items g_remaining = some res) : W p l e rmX4_chooseEdge s m args below meth c H locs 0 0 (MQ below (zQi Z res.1 ((wX4 Z Ap p_crossed p_cost p_stops p_at p_area p_exit ++ wX3 Z An n_nodes n_links n_tunnels n_messages n_areas n_firsts n_seconds n_privates n_entries n_exits n_truth n_facts n_news ++ wX2 Z Ag res.2.1 res.2.2.1 res.2.2.2.1 res.2.2.2.2.1 res.2.2.2.2.2.1 res.2.2.2.2.2.2.1 res.2.2.2.2.2.2.2)) A) args s 0 0 A) (F0 m 23 ls [.int k4, .int k3, .int k2, .ref (An 0), .ref (Ag 0)]) := by
  unfold uX4_chooseEdge_23 at h
  obtain ⟨y1, hy1, h⟩ := bd_some h
  refine r_callVQv E ((wX4 Z Ap p_crossed p_cost p_stops p_at p_area p_exit ++ wX3 Z An n_nodes n_links n_tunnels n_messages n_areas n_firsts n_seconds n_privates n_entries n_exits n_truth n_facts n_news ++ wX2 Z Ag y1.1 y1.2.1 y1.2.2.1 y1.2.2.2.1 y1.2.2.2.2.1 y1.2.2.2.2.2 g_remaining)) (wX4 Z Ap p_crossed p_cost p_stops p_at p_area p_exit) hw (mX2_takeView l Z _ Ag An g_nodes g_edges g_starts g_ends g_lengths g_items g_remaining n_nodes n_links n_tunnels n_messages n_areas n_firsts n_seconds n_privates n_entries n_exits n_truth n_facts n_news k2 k3 k4 hy1) kL_X4_64 kI_X2_takeView kS_X2_takeView kN_X2 kC_X2_takeView rfl rfl hdX2_takeView ⟨Nat.le_of_ble_eq_true rfl, Nat.le_of_ble_eq_true rfl⟩ (fun f => by simp only [sf_app] <;> omega) (fun f => by simp only [sf_app] <;> omega) 12 rfl rfl rfl rfl hl [] rfl (Nat.le_of_ble_eq_true rfl) dX4_chooseEdge_23 ⟨Nat.zero_le _, Nat.zero_le _⟩ (fun H locs hw => ?_)
  refine r_aload_n E hl 1 rfl dX4_chooseEdge_26 rfl ?_
  refine r_aload_n E hl 0 rfl dX4_chooseEdge_27 rfl ?_
  refine r_get E kW_X4 hw 0 rfl rfl 5 (by decide) kF_X4_28 rfl dX4_chooseEdge_28 ?_
  refine r_iconst E (-1) dX4_chooseEdge_31 (by decide) ?_
  refine r_icmp_ne E 39 dX4_chooseEdge_32 (by decide) (fun hc => ?_) (fun hc => ?_)
  · replace h := ite_f hc h
    refine r_aload_n E hl 0 rfl dX4_chooseEdge_39 rfl ?_
    refine r_get E kW_X4 hw 0 rfl rfl 5 (by decide) kF_X4_28 rfl dX4_chooseEdge_40 ?_
    exact vX4_chooseEdge_43 E  hw (lv_sub hl [0, 1] rfl) h
  · replace h := ite_t hc h
    refine r_iload_n E hl 2 rfl dX4_chooseEdge_35 rfl ?_
    refine r_goto E 43 dX4_chooseEdge_36 (by decide) ?_
    exact vX4_chooseEdge_43 E  hw (lv_sub hl [0, 1] rfl) h
set_option maxRecDepth 100000 in
set_option maxHeartbeats 4000000 in
theorem mX4_chooseEdge (l : Launch) (Z : zT) (sz : Nat) (Ap : Nat → Nat) (An : Nat → Nat) (Ag : Nat → Nat) (p_crossed : Int32) (p_cost : Int32) (p_stops : (Nat → Int32)) (p_at : Int32) (p_area : Int32) (p_exit : Int32) (n_nodes : Int32) (n_links : Int32) (n_tunnels : Int32) (n_messages : Int32) (n_areas : (Nat → Int32)) (n_firsts : (Nat → Int32)) (n_seconds : (Nat → Int32)) (n_privates : (Nat → Int32)) (n_entries : (Nat → Int32)) (n_exits : (Nat → Int32)) (n_truth : (Nat → Int32)) (n_facts : (Nat → Int32)) (n_news : (Nat → Int64)) (g_nodes : Int32) (g_edges : Int32) (g_starts : (Nat → Int32)) (g_ends : (Nat → Int32)) (g_lengths : (Nat → Int32)) (g_items : (Nat → Int32)) (g_remaining : (Nat → Int32)) (v3 : Int32) {res : Int32 × Int32 × Int32 × (Nat → Int32) × (Nat → Int32) × (Nat → Int32) × (Nat → Int32) × (Nat → Int32)} (h : fX4_chooseEdge v3 p_at p_area p_exit n_nodes n_links n_tunnels n_areas n_firsts n_seconds n_privates n_entries n_exits n_facts g_starts g_ends g_lengths g_items g_remaining = some res) : Met l yX4_chooseEdge (Cond.code yX4_chooseEdge cX4_chooseEdge 4 (some .int) :: zWs) rmX4_chooseEdge (zP Z ((wX4 Z Ap p_crossed p_cost p_stops p_at p_area p_exit ++ wX3 Z An n_nodes n_links n_tunnels n_messages n_areas n_firsts n_seconds n_privates n_entries n_exits n_truth n_facts n_news ++ wX2 Z Ag g_nodes g_edges g_starts g_ends g_lengths g_items g_remaining)) sz [.ref (Ap 0), .ref (An 0), .ref (Ag 0), .int v3]) (zQi Z res.1 ((wX4 Z Ap p_crossed p_cost p_stops p_at p_area p_exit ++ wX3 Z An n_nodes n_links n_tunnels n_messages n_areas n_firsts n_seconds n_privates n_entries n_exits n_truth n_facts n_news ++ wX2 Z Ag res.2.1 res.2.2.1 res.2.2.2.1 res.2.2.2.2.1 res.2.2.2.2.2.1 res.2.2.2.2.2.2.1 res.2.2.2.2.2.2.2)) (va_A ((wX4 Z Ap p_crossed p_cost p_stops p_at p_area p_exit ++ wX3 Z An n_nodes n_links n_tunnels n_messages n_areas n_firsts n_seconds n_privates n_entries n_exits n_truth n_facts n_news ++ wX2 Z Ag g_nodes g_edges g_starts g_ends g_lengths g_items g_remaining)) sz)) 0 0 (va_A ((wX4 Z Ap p_crossed p_cost p_stops p_at p_area p_exit ++ wX3 Z An n_nodes n_links n_tunnels n_messages n_areas n_firsts n_seconds n_privates n_entries n_exits n_truth n_facts n_news ++ wX2 Z Ag g_nodes g_edges g_starts g_ends g_lengths g_items g_remaining)) sz) := by
  refine zMet (own := RX4) (fun A => zQi Z res.1 ((wX4 Z Ap p_crossed p_cost p_stops p_at p_area p_exit ++ wX3 Z An n_nodes n_links n_tunnels n_messages n_areas n_firsts n_seconds n_privates n_entries n_exits n_truth n_facts n_news ++ wX2 Z Ag res.2.1 res.2.2.1 res.2.2.2.1 res.2.2.2.2.1 res.2.2.2.2.2.1 res.2.2.2.2.2.2.1 res.2.2.2.2.2.2.2)) A) (by decide) rfl (Nat.le_of_ble_eq_true rfl) ?_
  intro p e s m args below meth c ls A E hw hl
  unfold fX4_chooseEdge at h
  refine r_aload_n E hl 2 rfl dX4_chooseEdge_0 rfl ?_
  refine r_aload_n E hl 1 rfl dX4_chooseEdge_1 rfl ?_
  refine r_aload_n E hl 0 rfl dX4_chooseEdge_2 rfl ?_
  refine r_get E kW_X4 hw 0 rfl rfl 3 (by decide) kF_X4_22 rfl dX4_chooseEdge_3 ?_
  refine r_aload_n E hl 0 rfl dX4_chooseEdge_6 rfl ?_
  refine r_get E kW_X4 hw 0 rfl rfl 4 (by decide) kF_X4_25 rfl dX4_chooseEdge_7 ?_
  refine r_aload_n E hl 0 rfl dX4_chooseEdge_10 rfl ?_
  refine r_get E kW_X4 hw 0 rfl rfl 5 (by decide) kF_X4_28 rfl dX4_chooseEdge_11 ?_
  refine r_iconst E (-1) dX4_chooseEdge_14 (by decide) ?_
  refine r_icmp_ne E 22 dX4_chooseEdge_15 (by decide) (fun hc => ?_) (fun hc => ?_)
  · replace h := ite_f hc h
    refine r_iconst E 0 dX4_chooseEdge_22 (by decide) ?_
    exact vX4_chooseEdge_23 E  hw (lv_sub hl [0, 2, 3] rfl) h
  · replace h := ite_t hc h
    refine r_iconst E 1 dX4_chooseEdge_18 (by decide) ?_
    refine r_goto E 23 dX4_chooseEdge_19 (by decide) ?_
    exact vX4_chooseEdge_23 E  hw (lv_sub hl [0, 2, 3] rfl) h
abbrev rmX4_obstacleAt : Room := { frames := 3, cells := 0, slots := 0, locals := 66 }

set_option maxRecDepth 100000 in
set_option maxHeartbeats 4000000 in
theorem vX4_obstacleAt_52 {Z : zT} {p : Program} {l : Launch} {e : Env} {s : State} {m : MethodId} {args : Array Value} {below : List Frame} {meth : Method} {c : Code} {A : Nat → Prop} (E : zE Z p s m args meth c RX4 cX4_obstacleAt 4 (some .int) A) {Ap : Nat → Nat} {An : Nat → Nat} {p_crossed : Int32} {p_cost : Int32} {p_stops : (Nat → Int32)} {p_at : Int32} {p_area : Int32} {p_exit : Int32} {n_nodes : Int32} {n_links : Int32} {n_tunnels : Int32} {n_messages : Int32} {n_areas : (Nat → Int32)} {n_firsts : (Nat → Int32)} {n_seconds : (Nat → Int32)} {n_privates : (Nat → Int32)} {n_entries : (Nat → Int32)} {n_exits : (Nat → Int32)} {n_truth : (Nat → Int32)} {n_facts : (Nat → Int32)} {n_news : (Nat → Int64)} {res : Int32}  {H : Heap} {locs : List Loc} {ls : Array Slot} (hw : zW Z A ((wX4 Z Ap p_crossed p_cost p_stops p_at p_area p_exit ++ wX3 Z An n_nodes n_links n_tunnels n_messages n_areas n_firsts n_seconds n_privates n_entries n_exits n_truth n_facts n_news)) s.heap H locs) (hl : lv_has ls 4 [(0, .ref (Ap 0))]) (h : uX4_obstacleAt_52 p_crossed = some res) : W p l e rmX4_obstacleAt s m args below meth c H locs 0 0 (MQ below (zQi Z res ((wX4 Z Ap p_crossed p_cost p_stops p_at p_area p_exit ++ wX3 Z An n_nodes n_links n_tunnels n_messages n_areas n_firsts n_seconds n_privates n_entries n_exits n_truth n_facts n_news)) A) args s 0 0 A) (F0 m 52 ls []) := by
  unfold uX4_obstacleAt_52 at h
  refine r_aload_n E hl 0 rfl dX4_obstacleAt_52 rfl ?_
  refine r_get E kW_X4 hw 0 rfl rfl 0 (by decide) kF_X4_9 rfl dX4_obstacleAt_53 ?_
  refine r_bipush E 20 dX4_obstacleAt_56 (by decide) ?_
  refine r_icmp_lt E 65 dX4_obstacleAt_58 (by decide) (fun hc => ?_) (fun hc => ?_)
  · replace h := ite_t hc h
    refine r_iconst E 0 dX4_obstacleAt_65 (by decide) ?_
    obtain rfl := Option.some.inj h
    exact r_iret E hw dX4_obstacleAt_66
  · replace h := ite_f hc h
    refine r_iconst E 4 dX4_obstacleAt_61 (by decide) ?_
    refine r_goto E 66 dX4_obstacleAt_62 (by decide) ?_
    obtain rfl := Option.some.inj h
    exact r_iret E hw dX4_obstacleAt_66
set_option maxRecDepth 100000 in
set_option maxHeartbeats 4000000 in
theorem mX4_obstacleAt (l : Launch) (Z : zT) (sz : Nat) (Ap : Nat → Nat) (An : Nat → Nat) (p_crossed : Int32) (p_cost : Int32) (p_stops : (Nat → Int32)) (p_at : Int32) (p_area : Int32) (p_exit : Int32) (n_nodes : Int32) (n_links : Int32) (n_tunnels : Int32) (n_messages : Int32) (n_areas : (Nat → Int32)) (n_firsts : (Nat → Int32)) (n_seconds : (Nat → Int32)) (n_privates : (Nat → Int32)) (n_entries : (Nat → Int32)) (n_exits : (Nat → Int32)) (n_truth : (Nat → Int32)) (n_facts : (Nat → Int32)) (n_news : (Nat → Int64)) (v2 : Int32) {res : Int32} (h : fX4_obstacleAt v2 p_crossed p_area n_areas n_firsts n_privates n_truth = some res) : Met l yX4_obstacleAt (Cond.code yX4_obstacleAt cX4_obstacleAt 4 (some .int) :: zWs) rmX4_obstacleAt (zP Z ((wX4 Z Ap p_crossed p_cost p_stops p_at p_area p_exit ++ wX3 Z An n_nodes n_links n_tunnels n_messages n_areas n_firsts n_seconds n_privates n_entries n_exits n_truth n_facts n_news)) sz [.ref (Ap 0), .ref (An 0), .int v2]) (zQi Z res ((wX4 Z Ap p_crossed p_cost p_stops p_at p_area p_exit ++ wX3 Z An n_nodes n_links n_tunnels n_messages n_areas n_firsts n_seconds n_privates n_entries n_exits n_truth n_facts n_news)) (va_A ((wX4 Z Ap p_crossed p_cost p_stops p_at p_area p_exit ++ wX3 Z An n_nodes n_links n_tunnels n_messages n_areas n_firsts n_seconds n_privates n_entries n_exits n_truth n_facts n_news)) sz)) 0 0 (va_A ((wX4 Z Ap p_crossed p_cost p_stops p_at p_area p_exit ++ wX3 Z An n_nodes n_links n_tunnels n_messages n_areas n_firsts n_seconds n_privates n_entries n_exits n_truth n_facts n_news)) sz) := by
  refine zMet (own := RX4) (fun A => zQi Z res ((wX4 Z Ap p_crossed p_cost p_stops p_at p_area p_exit ++ wX3 Z An n_nodes n_links n_tunnels n_messages n_areas n_firsts n_seconds n_privates n_entries n_exits n_truth n_facts n_news)) A) (by decide) rfl (Nat.le_of_ble_eq_true rfl) ?_
  intro p e s m args below meth c ls A E hw hl
  unfold fX4_obstacleAt at h
  refine r_aload_n E hl 1 rfl dX4_obstacleAt_0 rfl ?_
  refine r_iload_n E hl 2 rfl dX4_obstacleAt_1 rfl ?_
  obtain ⟨y1, hy1, h⟩ := bd_some h
  refine r_callVQi E ((wX4 Z Ap p_crossed p_cost p_stops p_at p_area p_exit ++ wX3 Z An n_nodes n_links n_tunnels n_messages n_areas n_firsts n_seconds n_privates n_entries n_exits n_truth n_facts n_news)) (wX4 Z Ap p_crossed p_cost p_stops p_at p_area p_exit) hw (mX3_isUp l Z _ An n_nodes n_links n_tunnels n_messages n_areas n_firsts n_seconds n_privates n_entries n_exits n_truth n_facts n_news v2 hy1) kL_X4_75 kI_X3_isUp kS_X3_isUp kN_X3 kC_X3_isUp rfl rfl hdX3_isUp ⟨Nat.le_of_ble_eq_true rfl, Nat.le_of_ble_eq_true rfl⟩ (fun f => by simp only [sf_app] <;> omega) (fun f => by simp only [sf_app] <;> omega) 2 rfl rfl rfl rfl hl [] rfl (Nat.le_of_ble_eq_true rfl) dX4_obstacleAt_2 ⟨Nat.zero_le _, Nat.zero_le _⟩ (fun H locs hw => ?_)
  refine r_if_ne E 10 dX4_obstacleAt_5 (by decide) (fun hc => ?_) (fun hc => ?_)
  · replace h := ite_f hc h
    refine r_iload_n E hl 2 rfl dX4_obstacleAt_10 rfl ?_
    refine r_bipush E 32 dX4_obstacleAt_11 (by decide) ?_
    refine r_icmp_lt E 18 dX4_obstacleAt_13 (by decide) (fun hc => ?_) (fun hc => ?_)
    · replace h := ite_t hc h
      refine r_aload_n E hl 1 rfl dX4_obstacleAt_18 rfl ?_
      refine r_aload_n E hl 0 rfl dX4_obstacleAt_19 rfl ?_
      refine r_get E kW_X4 hw 0 rfl rfl 4 (by decide) kF_X4_25 rfl dX4_obstacleAt_20 ?_
      obtain ⟨y2, hy2, h⟩ := bd_some h
      refine r_callVQi E ((wX4 Z Ap p_crossed p_cost p_stops p_at p_area p_exit ++ wX3 Z An n_nodes n_links n_tunnels n_messages n_areas n_firsts n_seconds n_privates n_entries n_exits n_truth n_facts n_news)) (wX4 Z Ap p_crossed p_cost p_stops p_at p_area p_exit) hw (mX3_entitlements l Z _ An n_nodes n_links n_tunnels n_messages n_areas n_firsts n_seconds n_privates n_entries n_exits n_truth n_facts n_news p_area hy2) kL_X4_78 kI_X3_entitlements kS_X3_entitlements kN_X3 kC_X3_entitlements rfl rfl hdX3_entitlements ⟨Nat.le_of_ble_eq_true rfl, Nat.le_of_ble_eq_true rfl⟩ (fun f => by simp only [sf_app] <;> omega) (fun f => by simp only [sf_app] <;> omega) 2 rfl rfl rfl rfl hl [] rfl (Nat.le_of_ble_eq_true rfl) dX4_obstacleAt_23 ⟨Nat.zero_le _, Nat.zero_le _⟩ (fun H locs hw => ?_)
      refine r_aload_n E hl 1 rfl dX4_obstacleAt_26 rfl ?_
      refine r_iload_n E hl 2 rfl dX4_obstacleAt_27 rfl ?_
      refine r_bipush E 16 dX4_obstacleAt_28 (by decide) ?_
      refine r_isub E dX4_obstacleAt_30 ?_
      obtain ⟨y3, hy3, h⟩ := bd_some h
      refine r_callVQi E ((wX4 Z Ap p_crossed p_cost p_stops p_at p_area p_exit ++ wX3 Z An n_nodes n_links n_tunnels n_messages n_areas n_firsts n_seconds n_privates n_entries n_exits n_truth n_facts n_news)) (wX4 Z Ap p_crossed p_cost p_stops p_at p_area p_exit) hw (mX3_owner l Z _ An n_nodes n_links n_tunnels n_messages n_areas n_firsts n_seconds n_privates n_entries n_exits n_truth n_facts n_news (v2 - (16 : Int32)) hy3) kL_X4_81 kI_X3_owner kS_X3_owner kN_X3 kC_X3_owner rfl rfl hdX3_owner ⟨Nat.le_of_ble_eq_true rfl, Nat.le_of_ble_eq_true rfl⟩ (fun f => by simp only [sf_app] <;> omega) (fun f => by simp only [sf_app] <;> omega) 2 rfl rfl rfl rfl hl [.int y2] rfl (Nat.le_of_ble_eq_true rfl) dX4_obstacleAt_31 ⟨Nat.zero_le _, Nat.zero_le _⟩ (fun H locs hw => ?_)
      obtain ⟨y4, hy4, h⟩ := bd_some h
      refine r_callS0i E hw (mX3_has l Z _ y2 y3 hy4) kL_X4_84 kT_X3_has kN_X3 kC_X3_has rfl rfl hdX3_has ⟨Nat.le_of_ble_eq_true rfl, Nat.le_of_ble_eq_true rfl⟩ rfl hl [] rfl (Nat.le_of_ble_eq_true rfl) dX4_obstacleAt_34 ⟨Nat.zero_le _, Nat.zero_le _⟩ (fun H locs hw => ?_)
      refine r_istore_n E [(3, .int y4), (0, .ref (Ap 0)), (1, .ref (An 0)), (2, .int v2)] hl dX4_obstacleAt_37 rfl (by decide) rfl (fun ls hl => ?_)
      refine r_aload_n E hl 2 rfl dX4_obstacleAt_38 rfl ?_
      refine r_iload_n E hl 3 rfl dX4_obstacleAt_39 rfl ?_
      obtain ⟨y5, hy5, h⟩ := bd_some h
      refine r_callVQi E ((wX4 Z Ap p_crossed p_cost p_stops p_at p_area p_exit ++ wX3 Z An n_nodes n_links n_tunnels n_messages n_areas n_firsts n_seconds n_privates n_entries n_exits n_truth n_facts n_news)) (wX4 Z Ap p_crossed p_cost p_stops p_at p_area p_exit) hw (mX3_isPrivateLink l Z _ An n_nodes n_links n_tunnels n_messages n_areas n_firsts n_seconds n_privates n_entries n_exits n_truth n_facts n_news v2 hy5) kL_X4_88 kI_X3_isPrivateLink kS_X3_isPrivateLink kN_X3 kC_X3_isPrivateLink rfl rfl hdX3_isPrivateLink ⟨Nat.le_of_ble_eq_true rfl, Nat.le_of_ble_eq_true rfl⟩ (fun f => by simp only [sf_app] <;> omega) (fun f => by simp only [sf_app] <;> omega) 2 rfl rfl rfl rfl hl [] rfl (Nat.le_of_ble_eq_true rfl) dX4_obstacleAt_40 ⟨Nat.zero_le _, Nat.zero_le _⟩ (fun H locs hw => ?_)
      refine r_if_eq E 52 dX4_obstacleAt_43 (by decide) (fun hc => ?_) (fun hc => ?_)
      · replace h := ite_t hc h
        exact vX4_obstacleAt_52 E  hw (lv_sub hl [1] rfl) h
      · replace h := ite_f hc h
        refine r_iload_n E hl 0 rfl dX4_obstacleAt_46 rfl ?_
        refine r_if_ne E 52 dX4_obstacleAt_47 (by decide) (fun hc => ?_) (fun hc => ?_)
        · replace h := ite_f hc h
          exact vX4_obstacleAt_52 E  hw (lv_sub hl [1] rfl) h
        · replace h := ite_t hc h
          refine r_iconst E 3 dX4_obstacleAt_50 (by decide) ?_
          obtain rfl := Option.some.inj h
          exact r_iret E hw dX4_obstacleAt_51
    · replace h := ite_f hc h
      refine r_iconst E 0 dX4_obstacleAt_16 (by decide) ?_
      obtain rfl := Option.some.inj h
      exact r_iret E hw dX4_obstacleAt_17
  · replace h := ite_t hc h
    refine r_iconst E 2 dX4_obstacleAt_8 (by decide) ?_
    obtain rfl := Option.some.inj h
    exact r_iret E hw dX4_obstacleAt_9
abbrev rmX4_move : Room := { frames := 1, cells := 0, slots := 0, locals := 20 }

set_option maxRecDepth 100000 in
set_option maxHeartbeats 4000000 in
theorem mX4_move (l : Launch) (Z : zT) (sz : Nat) (Ap : Nat → Nat) (An : Nat → Nat) (p_crossed : Int32) (p_cost : Int32) (p_stops : (Nat → Int32)) (p_at : Int32) (p_area : Int32) (p_exit : Int32) (n_nodes : Int32) (n_links : Int32) (n_tunnels : Int32) (n_messages : Int32) (n_areas : (Nat → Int32)) (n_firsts : (Nat → Int32)) (n_seconds : (Nat → Int32)) (n_privates : (Nat → Int32)) (n_entries : (Nat → Int32)) (n_exits : (Nat → Int32)) (n_truth : (Nat → Int32)) (n_facts : (Nat → Int32)) (n_news : (Nat → Int64)) (v2 : Int32) (v3 : Int32) {res : Int32 × Int32 × (Nat → Int32) × Int32 × Int32 × Int32} (h : fX4_move v2 v3 p_crossed p_cost p_stops p_at p_area p_exit n_areas n_truth = some res) : Met l yX4_move (Cond.code yX4_move cX4_move 4 none :: zWs) rmX4_move (zP Z ((wX4 Z Ap p_crossed p_cost p_stops p_at p_area p_exit ++ wX3 Z An n_nodes n_links n_tunnels n_messages n_areas n_firsts n_seconds n_privates n_entries n_exits n_truth n_facts n_news)) sz [.ref (Ap 0), .ref (An 0), .int v2, .int v3]) (zQv Z ((wX4 Z Ap res.1 res.2.1 res.2.2.1 res.2.2.2.1 res.2.2.2.2.1 res.2.2.2.2.2 ++ wX3 Z An n_nodes n_links n_tunnels n_messages n_areas n_firsts n_seconds n_privates n_entries n_exits n_truth n_facts n_news)) (va_A ((wX4 Z Ap p_crossed p_cost p_stops p_at p_area p_exit ++ wX3 Z An n_nodes n_links n_tunnels n_messages n_areas n_firsts n_seconds n_privates n_entries n_exits n_truth n_facts n_news)) sz)) 0 0 (va_A ((wX4 Z Ap p_crossed p_cost p_stops p_at p_area p_exit ++ wX3 Z An n_nodes n_links n_tunnels n_messages n_areas n_firsts n_seconds n_privates n_entries n_exits n_truth n_facts n_news)) sz) := by
  refine zMet (own := RX4) (fun A => zQv Z ((wX4 Z Ap res.1 res.2.1 res.2.2.1 res.2.2.2.1 res.2.2.2.2.1 res.2.2.2.2.2 ++ wX3 Z An n_nodes n_links n_tunnels n_messages n_areas n_firsts n_seconds n_privates n_entries n_exits n_truth n_facts n_news)) A) (by decide) rfl (Nat.le_of_ble_eq_true rfl) ?_
  intro p e s m args below meth c ls A E hw hl
  unfold fX4_move at h
  refine r_iload_n E hl 2 rfl dX4_move_0 rfl ?_
  refine r_bipush E 32 dX4_move_1 (by decide) ?_
  refine r_icmp_lt E 25 dX4_move_3 (by decide) (fun hc => ?_) (fun hc => ?_)
  · replace h := ite_t hc h
    refine r_aload_n E hl 0 rfl dX4_move_25 rfl ?_
    refine r_dup E dX4_move_26 rfl ?_
    refine r_get E kW_X4 hw 0 rfl rfl 1 (by decide) kF_X4_15 rfl dX4_move_27 ?_
    refine r_aload_n E hl 1 rfl dX4_move_30 rfl ?_
    refine r_get E kW_X3 hw 2 rfl rfl 10 (by decide) kF_X4_91 rfl dX4_move_31 ?_
    refine r_iload_n E hl 2 rfl dX4_move_34 rfl ?_
    obtain ⟨hg1, h⟩ := gd_some h
    refine r_iald E hw 9 rfl hg1 dX4_move_35 ?_
    obtain ⟨y2, hy2, h⟩ := bd_some h
    refine r_callS0i E hw (mX0_price l Z _ (n_truth (v2).toNatClampNeg) hy2) kL_X4_94 kT_X0_price kN_X0 kC_X0_price rfl rfl hdX0_price ⟨Nat.le_of_ble_eq_true rfl, Nat.le_of_ble_eq_true rfl⟩ rfl hl [.int p_cost, .ref (Ap 0)] rfl (Nat.le_of_ble_eq_true rfl) dX4_move_36 ⟨Nat.zero_le _, Nat.zero_le _⟩ (fun H locs hw => ?_)
    refine r_iadd E dX4_move_39 ?_
    refine r_put E ((wX4 Z Ap p_crossed (p_cost + y2) p_stops p_at p_area p_exit ++ wX3 Z An n_nodes n_links n_tunnels n_messages n_areas n_firsts n_seconds n_privates n_entries n_exits n_truth n_facts n_news)) kW_X4 tyX4_ok nmX4 hw 0 rfl rfl 1 (by decide) kF_X4_15 rfl rfl rfl (Nat.le_of_ble_eq_true rfl) rfl dX4_move_40 (fun H locs hw => ?_)
    refine r_aload_n E hl 0 rfl dX4_move_43 rfl ?_
    refine r_dup E dX4_move_44 rfl ?_
    refine r_get E kW_X4 hw 0 rfl rfl 0 (by decide) kF_X4_9 rfl dX4_move_45 ?_
    refine r_iconst E 1 dX4_move_48 (by decide) ?_
    refine r_iadd E dX4_move_49 ?_
    refine r_put E ((wX4 Z Ap (p_crossed + (1 : Int32)) (p_cost + y2) p_stops p_at p_area p_exit ++ wX3 Z An n_nodes n_links n_tunnels n_messages n_areas n_firsts n_seconds n_privates n_entries n_exits n_truth n_facts n_news)) kW_X4 tyX4_ok nmX4 hw 0 rfl rfl 0 (by decide) kF_X4_9 rfl rfl rfl (Nat.le_of_ble_eq_true rfl) rfl dX4_move_50 (fun H locs hw => ?_)
    refine r_aload_n E hl 0 rfl dX4_move_53 rfl ?_
    refine r_get E kW_X4 hw 0 rfl rfl 2 (by decide) kF_X4_18 rfl dX4_move_54 ?_
    refine r_aload_n E hl 0 rfl dX4_move_57 rfl ?_
    refine r_get E kW_X4 hw 0 rfl rfl 0 (by decide) kF_X4_9 rfl dX4_move_58 ?_
    refine r_iload_n E hl 3 rfl dX4_move_61 rfl ?_
    obtain ⟨hg3, h⟩ := gd_some h
    refine r_iast E ((wX4 Z Ap (p_crossed + (1 : Int32)) (p_cost + y2) (upd p_stops (p_crossed + (1 : Int32)).toNatClampNeg v3) p_at p_area p_exit ++ wX3 Z An n_nodes n_links n_tunnels n_messages n_areas n_firsts n_seconds n_privates n_entries n_exits n_truth n_facts n_news)) hw 1 rfl hg3 rfl dX4_move_62 (fun H locs hw => ?_)
    refine r_aload_n E hl 0 rfl dX4_move_63 rfl ?_
    refine r_iload_n E hl 3 rfl dX4_move_64 rfl ?_
    refine r_put E ((wX4 Z Ap (p_crossed + (1 : Int32)) (p_cost + y2) (upd p_stops (p_crossed + (1 : Int32)).toNatClampNeg v3) v3 p_area p_exit ++ wX3 Z An n_nodes n_links n_tunnels n_messages n_areas n_firsts n_seconds n_privates n_entries n_exits n_truth n_facts n_news)) kW_X4 tyX4_ok nmX4 hw 0 rfl rfl 3 (by decide) kF_X4_22 rfl rfl rfl (Nat.le_of_ble_eq_true rfl) rfl dX4_move_65 (fun H locs hw => ?_)
    obtain rfl := Option.some.inj h
    exact r_vret E hw dX4_move_68
  · replace h := ite_f hc h
    refine r_aload_n E hl 0 rfl dX4_move_6 rfl ?_
    refine r_iload_n E hl 3 rfl dX4_move_7 rfl ?_
    refine r_put E ((wX4 Z Ap p_crossed p_cost p_stops p_at p_area v3 ++ wX3 Z An n_nodes n_links n_tunnels n_messages n_areas n_firsts n_seconds n_privates n_entries n_exits n_truth n_facts n_news)) kW_X4 tyX4_ok nmX4 hw 0 rfl rfl 5 (by decide) kF_X4_28 rfl rfl rfl (Nat.le_of_ble_eq_true rfl) rfl dX4_move_8 (fun H locs hw => ?_)
    refine r_aload_n E hl 0 rfl dX4_move_11 rfl ?_
    refine r_aload_n E hl 1 rfl dX4_move_12 rfl ?_
    refine r_get E kW_X3 hw 2 rfl rfl 4 (by decide) kF_X4_31 rfl dX4_move_13 ?_
    refine r_aload_n E hl 0 rfl dX4_move_16 rfl ?_
    refine r_get E kW_X4 hw 0 rfl rfl 3 (by decide) kF_X4_22 rfl dX4_move_17 ?_
    obtain ⟨hg4, h⟩ := gd_some h
    refine r_iald E hw 3 rfl hg4 dX4_move_20 ?_
    refine r_put E ((wX4 Z Ap p_crossed p_cost p_stops p_at (n_areas (p_at).toNatClampNeg) v3 ++ wX3 Z An n_nodes n_links n_tunnels n_messages n_areas n_firsts n_seconds n_privates n_entries n_exits n_truth n_facts n_news)) kW_X4 tyX4_ok nmX4 hw 0 rfl rfl 4 (by decide) kF_X4_25 rfl rfl rfl (Nat.le_of_ble_eq_true rfl) rfl dX4_move_21 (fun H locs hw => ?_)
    obtain rfl := Option.some.inj h
    exact r_vret E hw dX4_move_24
abbrev rmX4_leaveTunnelAtExit : Room := { frames := 0, cells := 0, slots := 0, locals := 0 }

set_option maxRecDepth 100000 in
set_option maxHeartbeats 4000000 in
theorem mX4_leaveTunnelAtExit (l : Launch) (Z : zT) (sz : Nat) (Ap : Nat → Nat) (p_crossed : Int32) (p_cost : Int32) (p_stops : (Nat → Int32)) (p_at : Int32) (p_area : Int32) (p_exit : Int32) (v1 : Int32) {res : Int32 × Int32} (h : fX4_leaveTunnelAtExit v1 p_at p_area p_exit = some res) : Met l yX4_leaveTunnelAtExit (Cond.code yX4_leaveTunnelAtExit cX4_leaveTunnelAtExit 2 none :: zWs) rmX4_leaveTunnelAtExit (zP Z (wX4 Z Ap p_crossed p_cost p_stops p_at p_area p_exit) sz [.ref (Ap 0), .int v1]) (zQv Z (wX4 Z Ap p_crossed p_cost p_stops p_at res.1 res.2) (va_A (wX4 Z Ap p_crossed p_cost p_stops p_at p_area p_exit) sz)) 0 0 (va_A (wX4 Z Ap p_crossed p_cost p_stops p_at p_area p_exit) sz) := by
  refine zMet (own := RX4) (fun A => zQv Z (wX4 Z Ap p_crossed p_cost p_stops p_at res.1 res.2) A) (by decide) rfl (Nat.le_of_ble_eq_true rfl) ?_
  intro p e s m args below meth c ls A E hw hl
  unfold fX4_leaveTunnelAtExit at h
  refine r_aload_n E hl 0 rfl dX4_leaveTunnelAtExit_0 rfl ?_
  refine r_get E kW_X4 hw 0 rfl rfl 3 (by decide) kF_X4_22 rfl dX4_leaveTunnelAtExit_1 ?_
  refine r_aload_n E hl 0 rfl dX4_leaveTunnelAtExit_4 rfl ?_
  refine r_get E kW_X4 hw 0 rfl rfl 5 (by decide) kF_X4_28 rfl dX4_leaveTunnelAtExit_5 ?_
  refine r_icmp_ne E 21 dX4_leaveTunnelAtExit_8 (by decide) (fun hc => ?_) (fun hc => ?_)
  · replace h := ite_f hc h
    obtain rfl := Option.some.inj h
    exact r_vret E hw dX4_leaveTunnelAtExit_21
  · replace h := ite_t hc h
    refine r_aload_n E hl 0 rfl dX4_leaveTunnelAtExit_11 rfl ?_
    refine r_iconst E (-1) dX4_leaveTunnelAtExit_12 (by decide) ?_
    refine r_put E (wX4 Z Ap p_crossed p_cost p_stops p_at p_area (-1 : Int32)) kW_X4 tyX4_ok nmX4 hw 0 rfl rfl 5 (by decide) kF_X4_28 rfl rfl rfl (Nat.le_of_ble_eq_true rfl) rfl dX4_leaveTunnelAtExit_13 (fun H locs hw => ?_)
    refine r_aload_n E hl 0 rfl dX4_leaveTunnelAtExit_16 rfl ?_
    refine r_iload_n E hl 1 rfl dX4_leaveTunnelAtExit_17 rfl ?_
    refine r_put E (wX4 Z Ap p_crossed p_cost p_stops p_at v1 (-1 : Int32)) kW_X4 tyX4_ok nmX4 hw 0 rfl rfl 4 (by decide) kF_X4_25 rfl rfl rfl (Nat.le_of_ble_eq_true rfl) rfl dX4_leaveTunnelAtExit_18 (fun H locs hw => ?_)
    obtain rfl := Option.some.inj h
    exact r_vret E hw dX4_leaveTunnelAtExit_21
abbrev rmX4_travel : Room := { frames := 5, cells := 0, slots := 0, locals := 115 }

set_option maxRecDepth 100000 in
set_option maxHeartbeats 4000000 in
theorem vX4_travel_129 {Z : zT} {p : Program} {l : Launch} {e : Env} {s : State} {m : MethodId} {args : Array Value} {below : List Frame} {meth : Method} {c : Code} {A : Nat → Prop} (E : zE Z p s m args meth c RX4 cX4_travel 9 (some .int) A) {Ap : Nat → Nat} {An : Nat → Nat} {Ag : Nat → Nat} {v4 : Int32} {p_crossed : Int32} {p_cost : Int32} {p_stops : (Nat → Int32)} {p_at : Int32} {p_area : Int32} {p_exit : Int32} {n_nodes : Int32} {n_links : Int32} {n_tunnels : Int32} {n_messages : Int32} {n_areas : (Nat → Int32)} {n_firsts : (Nat → Int32)} {n_seconds : (Nat → Int32)} {n_privates : (Nat → Int32)} {n_entries : (Nat → Int32)} {n_exits : (Nat → Int32)} {n_truth : (Nat → Int32)} {n_facts : (Nat → Int32)} {n_news : (Nat → Int64)} {g_nodes : Int32} {g_edges : Int32} {g_starts : (Nat → Int32)} {g_ends : (Nat → Int32)} {g_lengths : (Nat → Int32)} {g_items : (Nat → Int32)} {g_remaining : (Nat → Int32)} {res : Int32 × Int32 × Int32 × (Nat → Int32) × Int32 × Int32 × Int32 × Int32 × Int32 × (Nat → Int32) × (Nat → Int32) × (Nat → Int32) × (Nat → Int32) × (Nat → Int32)}  {H : Heap} {locs : List Loc} {ls : Array Slot} (hw : zW Z A ((wX4 Z Ap p_crossed p_cost p_stops p_at p_area p_exit ++ wX3 Z An n_nodes n_links n_tunnels n_messages n_areas n_firsts n_seconds n_privates n_entries n_exits n_truth n_facts n_news ++ wX2 Z Ag g_nodes g_edges g_starts g_ends g_lengths g_items g_remaining)) s.heap H locs) (hl : lv_has ls 9 [(0, .ref (Ap 0)), (4, .int v4)]) (h : uX4_travel_129 v4 p_crossed p_cost p_stops p_at p_area p_exit g_nodes g_edges g_starts g_ends g_lengths g_items g_remaining = some res) : W p l e rmX4_travel s m args below meth c H locs 0 0 (MQ below (zQi Z res.1 ((wX4 Z Ap res.2.1 res.2.2.1 res.2.2.2.1 res.2.2.2.2.1 res.2.2.2.2.2.1 res.2.2.2.2.2.2.1 ++ wX3 Z An n_nodes n_links n_tunnels n_messages n_areas n_firsts n_seconds n_privates n_entries n_exits n_truth n_facts n_news ++ wX2 Z Ag res.2.2.2.2.2.2.2.1 res.2.2.2.2.2.2.2.2.1 res.2.2.2.2.2.2.2.2.2.1 res.2.2.2.2.2.2.2.2.2.2.1 res.2.2.2.2.2.2.2.2.2.2.2.1 res.2.2.2.2.2.2.2.2.2.2.2.2.1 res.2.2.2.2.2.2.2.2.2.2.2.2.2)) A) args s 0 0 A) (F0 m 129 ls []) := by
  unfold uX4_travel_129 at h
  refine r_aload_n E hl 0 rfl dX4_travel_129 rfl ?_
  refine r_iload E hl 1 rfl dX4_travel_130 ?_
  obtain ⟨y3, hy3, h⟩ := bd_some h
  refine r_callVQi E ((wX4 Z Ap p_crossed p_cost p_stops p_at p_area p_exit ++ wX3 Z An n_nodes n_links n_tunnels n_messages n_areas n_firsts n_seconds n_privates n_entries n_exits n_truth n_facts n_news ++ wX2 Z Ag g_nodes g_edges g_starts g_ends g_lengths g_items g_remaining)) (wX3 Z An n_nodes n_links n_tunnels n_messages n_areas n_firsts n_seconds n_privates n_entries n_exits n_truth n_facts n_news ++ wX2 Z Ag g_nodes g_edges g_starts g_ends g_lengths g_items g_remaining) hw (mX4_isDelivered l Z _ Ap p_crossed p_cost p_stops p_at p_area p_exit v4 hy3) kL_X4_36 kI_X4_isDelivered kS_X4_isDelivered kN_X4 kC_X4_isDelivered rfl rfl hdX4_isDelivered ⟨Nat.le_of_ble_eq_true rfl, Nat.le_of_ble_eq_true rfl⟩ (fun f => by simp only [sf_app] <;> omega) (fun f => by simp only [sf_app] <;> omega) 0 rfl rfl rfl rfl hl [] rfl (Nat.le_of_ble_eq_true rfl) dX4_travel_132 ⟨Nat.zero_le _, Nat.zero_le _⟩ (fun H locs hw => ?_)
  refine r_if_eq E 142 dX4_travel_135 (by decide) (fun hc => ?_) (fun hc => ?_)
  · replace h := ite_t hc h
    refine r_iconst E 4 dX4_travel_142 (by decide) ?_
    obtain rfl := Option.some.inj h
    exact r_iret E hw dX4_travel_143
  · replace h := ite_f hc h
    refine r_iconst E 0 dX4_travel_138 (by decide) ?_
    refine r_goto E 143 dX4_travel_139 (by decide) ?_
    obtain rfl := Option.some.inj h
    exact r_iret E hw dX4_travel_143
set_option maxRecDepth 100000 in
set_option maxHeartbeats 4000000 in
theorem tX4_travel_40 {Z : zT} {p : Program} {l : Launch} {e : Env} {s : State} {m : MethodId} {args : Array Value} {below : List Frame} {meth : Method} {c : Code} {A : Nat → Prop} (E : zE Z p s m args meth c RX4 cX4_travel 9 (some .int) A) {Ap : Nat → Nat} {An : Nat → Nat} {Ag : Nat → Nat} {v3 : Int32} {v4 : Int32} {n_nodes : Int32} {n_links : Int32} {n_tunnels : Int32} {n_messages : Int32} {n_areas : (Nat → Int32)} {n_firsts : (Nat → Int32)} {n_seconds : (Nat → Int32)} {n_privates : (Nat → Int32)} {n_entries : (Nat → Int32)} {n_exits : (Nat → Int32)} {n_truth : (Nat → Int32)} {n_facts : (Nat → Int32)} {n_news : (Nat → Int64)} {res : Int32 × Int32 × Int32 × (Nat → Int32) × Int32 × Int32 × Int32 × Int32 × Int32 × (Nat → Int32) × (Nat → Int32) × (Nat → Int32) × (Nat → Int32) × (Nat → Int32)}  : ∀ (n : Nat) (v5 : Int32) (p_crossed : Int32) (p_cost : Int32) (p_stops : (Nat → Int32)) (p_at : Int32) (p_area : Int32) (p_exit : Int32) (g_nodes : Int32) (g_edges : Int32) (g_starts : (Nat → Int32)) (g_ends : (Nat → Int32)) (g_lengths : (Nat → Int32)) (g_items : (Nat → Int32)) (g_remaining : (Nat → Int32)) (H : Heap) (locs : List Loc) (ls : Array Slot), iter (fun b : Int32 × Int32 × Int32 × (Nat → Int32) × Int32 × Int32 × Int32 × Int32 × Int32 × (Nat → Int32) × (Nat → Int32) × (Nat → Int32) × (Nat → Int32) × (Nat → Int32) => sX4_travel_40 v3 v4 n_nodes n_links n_tunnels n_areas n_firsts n_seconds n_privates n_entries n_exits n_truth n_facts b.1 b.2.1 b.2.2.1 b.2.2.2.1 b.2.2.2.2.1 b.2.2.2.2.2.1 b.2.2.2.2.2.2.1 b.2.2.2.2.2.2.2.1 b.2.2.2.2.2.2.2.2.1 b.2.2.2.2.2.2.2.2.2.1 b.2.2.2.2.2.2.2.2.2.2.1 b.2.2.2.2.2.2.2.2.2.2.2.1 b.2.2.2.2.2.2.2.2.2.2.2.2.1 b.2.2.2.2.2.2.2.2.2.2.2.2.2) n (v5, p_crossed, p_cost, p_stops, p_at, p_area, p_exit, g_nodes, g_edges, g_starts, g_ends, g_lengths, g_items, g_remaining) = some res → zW Z A ((wX4 Z Ap p_crossed p_cost p_stops p_at p_area p_exit ++ wX3 Z An n_nodes n_links n_tunnels n_messages n_areas n_firsts n_seconds n_privates n_entries n_exits n_truth n_facts n_news ++ wX2 Z Ag g_nodes g_edges g_starts g_ends g_lengths g_items g_remaining)) s.heap H locs → lv_has ls 9 [(0, .ref (Ap 0)), (1, .ref (An 0)), (2, .ref (Ag 0)), (3, .int v3), (4, .int v4), (5, .int v5)] → W p l e rmX4_travel s m args below meth c H locs 0 0 (MQ below (zQi Z res.1 ((wX4 Z Ap res.2.1 res.2.2.1 res.2.2.2.1 res.2.2.2.2.1 res.2.2.2.2.2.1 res.2.2.2.2.2.2.1 ++ wX3 Z An n_nodes n_links n_tunnels n_messages n_areas n_firsts n_seconds n_privates n_entries n_exits n_truth n_facts n_news ++ wX2 Z Ag res.2.2.2.2.2.2.2.1 res.2.2.2.2.2.2.2.2.1 res.2.2.2.2.2.2.2.2.2.1 res.2.2.2.2.2.2.2.2.2.2.1 res.2.2.2.2.2.2.2.2.2.2.2.1 res.2.2.2.2.2.2.2.2.2.2.2.2.1 res.2.2.2.2.2.2.2.2.2.2.2.2.2)) A) args s 0 0 A) (F0 m 40 ls []) := by
  intro n
  induction n with
  | zero => intro v5 p_crossed p_cost p_stops p_at p_area p_exit g_nodes g_edges g_starts g_ends g_lengths g_items g_remaining H locs ls h; cases h
  | succ n ih =>
    intro v5 p_crossed p_cost p_stops p_at p_area p_exit g_nodes g_edges g_starts g_ends g_lengths g_items g_remaining H locs ls h hw hl
    obtain ⟨q1, h, hn1, hr1⟩ := iter_out h
    have hb1 : ∀ b : Int32 × Int32 × Int32 × (Nat → Int32) × Int32 × Int32 × Int32 × Int32 × Int32 × (Nat → Int32) × (Nat → Int32) × (Nat → Int32) × (Nat → Int32) × (Nat → Int32), q1 = .inl b → ∀ (H : Heap) (locs : List Loc) (ls : Array Slot), zW Z A ((wX4 Z Ap b.2.1 b.2.2.1 b.2.2.2.1 b.2.2.2.2.1 b.2.2.2.2.2.1 b.2.2.2.2.2.2.1 ++ wX3 Z An n_nodes n_links n_tunnels n_messages n_areas n_firsts n_seconds n_privates n_entries n_exits n_truth n_facts n_news ++ wX2 Z Ag b.2.2.2.2.2.2.2.1 b.2.2.2.2.2.2.2.2.1 b.2.2.2.2.2.2.2.2.2.1 b.2.2.2.2.2.2.2.2.2.2.1 b.2.2.2.2.2.2.2.2.2.2.2.1 b.2.2.2.2.2.2.2.2.2.2.2.2.1 b.2.2.2.2.2.2.2.2.2.2.2.2.2)) s.heap H locs → lv_has ls 9 [(0, .ref (Ap 0)), (1, .ref (An 0)), (2, .ref (Ag 0)), (3, .int v3), (4, .int v4), (5, .int b.1)] → W p l e rmX4_travel s m args below meth c H locs 0 0 (MQ below (zQi Z res.1 ((wX4 Z Ap res.2.1 res.2.2.1 res.2.2.2.1 res.2.2.2.2.1 res.2.2.2.2.2.1 res.2.2.2.2.2.2.1 ++ wX3 Z An n_nodes n_links n_tunnels n_messages n_areas n_firsts n_seconds n_privates n_entries n_exits n_truth n_facts n_news ++ wX2 Z Ag res.2.2.2.2.2.2.2.1 res.2.2.2.2.2.2.2.2.1 res.2.2.2.2.2.2.2.2.2.1 res.2.2.2.2.2.2.2.2.2.2.1 res.2.2.2.2.2.2.2.2.2.2.2.1 res.2.2.2.2.2.2.2.2.2.2.2.2.1 res.2.2.2.2.2.2.2.2.2.2.2.2.2)) A) args s 0 0 A) (F0 m 40 ls []) := fun b eb H locs ls hw hl => ih b.1 b.2.1 b.2.2.1 b.2.2.2.1 b.2.2.2.2.1 b.2.2.2.2.2.1 b.2.2.2.2.2.2.1 b.2.2.2.2.2.2.2.1 b.2.2.2.2.2.2.2.2.1 b.2.2.2.2.2.2.2.2.2.1 b.2.2.2.2.2.2.2.2.2.2.1 b.2.2.2.2.2.2.2.2.2.2.2.1 b.2.2.2.2.2.2.2.2.2.2.2.2.1 b.2.2.2.2.2.2.2.2.2.2.2.2.2 H locs ls (hn1 b eb) hw hl
    replace h : sX4_travel_40 v3 v4 n_nodes n_links n_tunnels n_areas n_firsts n_seconds n_privates n_entries n_exits n_truth n_facts v5 p_crossed p_cost p_stops p_at p_area p_exit g_nodes g_edges g_starts g_ends g_lengths g_items g_remaining = some q1 := h
    unfold sX4_travel_40 at h
    refine r_iload E hl 5 rfl dX4_travel_40 ?_
    refine r_bipush E 42 dX4_travel_42 (by decide) ?_
    refine r_icmp_ge E 129 dX4_travel_44 (by decide) (fun hc => ?_) (fun hc => ?_)
    · replace h := ite_t hc h
      obtain ⟨ro4, h, hro4⟩ := oi_some h
      rw [hr1 _ hro4] at h
      exact vX4_travel_129 E  hw (lv_sub hl [0, 4] rfl) h
    · replace h := ite_f hc h
      refine r_aload_n E hl 0 rfl dX4_travel_47 rfl ?_
      refine r_iload E hl 4 rfl dX4_travel_48 ?_
      obtain ⟨y5, hy5, h⟩ := bd_some h
      refine r_callVQi E ((wX4 Z Ap p_crossed p_cost p_stops p_at p_area p_exit ++ wX3 Z An n_nodes n_links n_tunnels n_messages n_areas n_firsts n_seconds n_privates n_entries n_exits n_truth n_facts n_news ++ wX2 Z Ag g_nodes g_edges g_starts g_ends g_lengths g_items g_remaining)) (wX3 Z An n_nodes n_links n_tunnels n_messages n_areas n_firsts n_seconds n_privates n_entries n_exits n_truth n_facts n_news ++ wX2 Z Ag g_nodes g_edges g_starts g_ends g_lengths g_items g_remaining) hw (mX4_isDelivered l Z _ Ap p_crossed p_cost p_stops p_at p_area p_exit v4 hy5) kL_X4_36 kI_X4_isDelivered kS_X4_isDelivered kN_X4 kC_X4_isDelivered rfl rfl hdX4_isDelivered ⟨Nat.le_of_ble_eq_true rfl, Nat.le_of_ble_eq_true rfl⟩ (fun f => by simp only [sf_app] <;> omega) (fun f => by simp only [sf_app] <;> omega) 0 rfl rfl rfl rfl hl [] rfl (Nat.le_of_ble_eq_true rfl) dX4_travel_50 ⟨Nat.zero_le _, Nat.zero_le _⟩ (fun H locs hw => ?_)
      refine r_if_ne E 129 dX4_travel_53 (by decide) (fun hc => ?_) (fun hc => ?_)
      · replace h := ite_f hc h
        obtain ⟨ro6, h, hro6⟩ := oi_some h
        rw [hr1 _ hro6] at h
        exact vX4_travel_129 E  hw (lv_sub hl [0, 4] rfl) h
      · replace h := ite_t hc h
        refine r_aload_n E hl 0 rfl dX4_travel_56 rfl ?_
        refine r_aload_n E hl 1 rfl dX4_travel_57 rfl ?_
        refine r_aload_n E hl 2 rfl dX4_travel_58 rfl ?_
        refine r_iload E hl 4 rfl dX4_travel_59 ?_
        obtain ⟨y7, hy7, h⟩ := bd_some h
        refine r_callVAi E hw (mX4_chooseEdge l Z _ Ap An Ag p_crossed p_cost p_stops p_at p_area p_exit n_nodes n_links n_tunnels n_messages n_areas n_firsts n_seconds n_privates n_entries n_exits n_truth n_facts n_news g_nodes g_edges g_starts g_ends g_lengths g_items g_remaining v4 hy7) kL_X4_40 kI_X4_chooseEdge kS_X4_chooseEdge kN_X4 kC_X4_chooseEdge rfl rfl hdX4_chooseEdge ⟨Nat.le_of_ble_eq_true rfl, Nat.le_of_ble_eq_true rfl⟩ 0 rfl rfl rfl rfl hl [] rfl (Nat.le_of_ble_eq_true rfl) dX4_travel_61 ⟨Nat.zero_le _, Nat.zero_le _⟩ (fun H locs hw => ?_)
        refine r_istore E [(6, .int y7.1), (0, .ref (Ap 0)), (1, .ref (An 0)), (2, .ref (Ag 0)), (3, .int v3), (4, .int v4), (5, .int v5)] hl dX4_travel_64 (by decide) rfl (fun ls hl => ?_)
        refine r_iload E hl 0 rfl dX4_travel_66 ?_
        refine r_if_ge E 73 dX4_travel_68 (by decide) (fun hc => ?_) (fun hc => ?_)
        · replace h := ite_t hc h
          refine r_aload_n E hl 3 rfl dX4_travel_73 rfl ?_
          refine r_get E kW_X2 hw 12 rfl rfl 5 (by decide) kF_X4_44 rfl dX4_travel_74 ?_
          refine r_iload E hl 0 rfl dX4_travel_77 ?_
          obtain ⟨hg8, h⟩ := gd_some h
          refine r_iald E hw 16 rfl hg8 dX4_travel_79 ?_
          obtain ⟨w9, hw9, h⟩ := nm_out h
          refine r_nm hw9 ?_
          refine r_istore E [(7, .int w9), (6, .int y7.1), (0, .ref (Ap 0)), (1, .ref (An 0)), (2, .ref (Ag 0)), (3, .int v3), (4, .int v4), (5, .int v5)] hl dX4_travel_80 (by decide) rfl (fun ls hl => ?_)
          refine r_aload_n E hl 2 rfl dX4_travel_82 rfl ?_
          refine r_aload_n E hl 3 rfl dX4_travel_83 rfl ?_
          refine r_iload E hl 0 rfl dX4_travel_84 ?_
          obtain ⟨y10, hy10, h⟩ := bd_some h
          refine r_callVQi E ((wX4 Z Ap p_crossed p_cost p_stops p_at p_area p_exit ++ wX3 Z An n_nodes n_links n_tunnels n_messages n_areas n_firsts n_seconds n_privates n_entries n_exits n_truth n_facts n_news ++ wX2 Z Ag y7.2.1 y7.2.2.1 y7.2.2.2.1 y7.2.2.2.2.1 y7.2.2.2.2.2.1 y7.2.2.2.2.2.2.1 y7.2.2.2.2.2.2.2)) (wX2 Z Ag y7.2.1 y7.2.2.1 y7.2.2.2.1 y7.2.2.2.2.1 y7.2.2.2.2.2.1 y7.2.2.2.2.2.2.1 y7.2.2.2.2.2.2.2) hw (mX4_obstacleAt l Z _ Ap An p_crossed p_cost p_stops p_at p_area p_exit n_nodes n_links n_tunnels n_messages n_areas n_firsts n_seconds n_privates n_entries n_exits n_truth n_facts n_news w9 hy10) kL_X4_49 kI_X4_obstacleAt kS_X4_obstacleAt kN_X4 kC_X4_obstacleAt rfl rfl hdX4_obstacleAt ⟨Nat.le_of_ble_eq_true rfl, Nat.le_of_ble_eq_true rfl⟩ (fun f => by simp only [sf_app] <;> omega) (fun f => by simp only [sf_app] <;> omega) 0 rfl rfl rfl rfl hl [] rfl (Nat.le_of_ble_eq_true rfl) dX4_travel_86 ⟨Nat.zero_le _, Nat.zero_le _⟩ (fun H locs hw => ?_)
          refine r_istore E [(8, .int y10), (7, .int w9), (6, .int y7.1), (0, .ref (Ap 0)), (1, .ref (An 0)), (2, .ref (Ag 0)), (3, .int v3), (4, .int v4), (5, .int v5)] hl dX4_travel_89 (by decide) rfl (fun ls hl => ?_)
          refine r_iload E hl 0 rfl dX4_travel_91 ?_
          refine r_if_eq E 99 dX4_travel_93 (by decide) (fun hc => ?_) (fun hc => ?_)
          · replace h := ite_t hc h
            refine r_aload_n E hl 3 rfl dX4_travel_99 rfl ?_
            refine r_aload_n E hl 4 rfl dX4_travel_100 rfl ?_
            refine r_iload E hl 1 rfl dX4_travel_101 ?_
            refine r_aload_n E hl 5 rfl dX4_travel_103 rfl ?_
            refine r_get E kW_X2 hw 12 rfl rfl 3 (by decide) kF_X4_53 rfl dX4_travel_104 ?_
            refine r_iload E hl 2 rfl dX4_travel_107 ?_
            obtain ⟨hg11, h⟩ := gd_some h
            refine r_iald E hw 14 rfl hg11 dX4_travel_109 ?_
            obtain ⟨y12, hy12, h⟩ := bd_some h
            refine r_callVQv E ((wX4 Z Ap y12.1 y12.2.1 y12.2.2.1 y12.2.2.2.1 y12.2.2.2.2.1 y12.2.2.2.2.2 ++ wX3 Z An n_nodes n_links n_tunnels n_messages n_areas n_firsts n_seconds n_privates n_entries n_exits n_truth n_facts n_news ++ wX2 Z Ag y7.2.1 y7.2.2.1 y7.2.2.2.1 y7.2.2.2.2.1 y7.2.2.2.2.2.1 y7.2.2.2.2.2.2.1 y7.2.2.2.2.2.2.2)) (wX2 Z Ag y7.2.1 y7.2.2.1 y7.2.2.2.1 y7.2.2.2.2.1 y7.2.2.2.2.2.1 y7.2.2.2.2.2.2.1 y7.2.2.2.2.2.2.2) hw (mX4_move l Z _ Ap An p_crossed p_cost p_stops p_at p_area p_exit n_nodes n_links n_tunnels n_messages n_areas n_firsts n_seconds n_privates n_entries n_exits n_truth n_facts n_news w9 (y7.2.2.2.2.1 (y7.1).toNatClampNeg) hy12) kL_X4_56 kI_X4_move kS_X4_move kN_X4 kC_X4_move rfl rfl hdX4_move ⟨Nat.le_of_ble_eq_true rfl, Nat.le_of_ble_eq_true rfl⟩ (fun f => by simp only [sf_app] <;> omega) (fun f => by simp only [sf_app] <;> omega) 0 rfl rfl rfl rfl hl [] rfl (Nat.le_of_ble_eq_true rfl) dX4_travel_110 ⟨Nat.zero_le _, Nat.zero_le _⟩ (fun H locs hw => ?_)
            refine r_aload_n E hl 3 rfl dX4_travel_113 rfl ?_
            refine r_aload_n E hl 4 rfl dX4_travel_114 rfl ?_
            refine r_get E kW_X3 hw 2 rfl rfl 4 (by decide) kF_X4_31 rfl dX4_travel_115 ?_
            refine r_iload_n E hl 6 rfl dX4_travel_118 rfl ?_
            obtain ⟨hg13, h⟩ := gd_some h
            refine r_iald E hw 3 rfl hg13 dX4_travel_119 ?_
            obtain ⟨y14, hy14, h⟩ := bd_some h
            refine r_callVQv E ((wX4 Z Ap y12.1 y12.2.1 y12.2.2.1 y12.2.2.2.1 y14.1 y14.2 ++ wX3 Z An n_nodes n_links n_tunnels n_messages n_areas n_firsts n_seconds n_privates n_entries n_exits n_truth n_facts n_news ++ wX2 Z Ag y7.2.1 y7.2.2.1 y7.2.2.2.1 y7.2.2.2.2.1 y7.2.2.2.2.2.1 y7.2.2.2.2.2.2.1 y7.2.2.2.2.2.2.2)) (wX3 Z An n_nodes n_links n_tunnels n_messages n_areas n_firsts n_seconds n_privates n_entries n_exits n_truth n_facts n_news ++ wX2 Z Ag y7.2.1 y7.2.2.1 y7.2.2.2.1 y7.2.2.2.2.1 y7.2.2.2.2.2.1 y7.2.2.2.2.2.2.1 y7.2.2.2.2.2.2.2) hw (mX4_leaveTunnelAtExit l Z _ Ap y12.1 y12.2.1 y12.2.2.1 y12.2.2.2.1 y12.2.2.2.2.1 y12.2.2.2.2.2 (n_areas (v3).toNatClampNeg) hy14) kL_X4_60 kI_X4_leaveTunnelAtExit kS_X4_leaveTunnelAtExit kN_X4 kC_X4_leaveTunnelAtExit rfl rfl hdX4_leaveTunnelAtExit ⟨Nat.le_of_ble_eq_true rfl, Nat.le_of_ble_eq_true rfl⟩ (fun f => by simp only [sf_app] <;> omega) (fun f => by simp only [sf_app] <;> omega) 0 rfl rfl rfl rfl hl [] rfl (Nat.le_of_ble_eq_true rfl) dX4_travel_120 ⟨Nat.zero_le _, Nat.zero_le _⟩ (fun H locs hw => ?_)
            obtain ⟨w15, hw15, h⟩ := nm_out h
            refine r_iinc E w15 [(5, .int w15), (8, .int y10), (7, .int w9), (6, .int y7.1), (0, .ref (Ap 0)), (1, .ref (An 0)), (2, .ref (Ag 0)), (3, .int v3), (4, .int v4)] hl (k := 8) rfl dX4_travel_123 hw15.symm (by decide) rfl (fun ls hl => ?_)
            refine r_goto E 40 dX4_travel_126 (by decide) ?_
            exact hb1 _ (Option.some.inj h).symm _ _ _ hw (lv_sub hl [4, 5, 6, 7, 8, 0] rfl)
          · replace h := ite_f hc h
            obtain ⟨ro16, h, hro16⟩ := oi_some h
            rw [hr1 _ hro16] at h
            refine r_iload E hl 0 rfl dX4_travel_96 ?_
            obtain rfl := Option.some.inj h
            exact r_iret E hw dX4_travel_98
        · replace h := ite_f hc h
          obtain ⟨ro17, h, hro17⟩ := oi_some h
          rw [hr1 _ hro17] at h
          refine r_iconst E 1 dX4_travel_71 (by decide) ?_
          obtain rfl := Option.some.inj h
          exact r_iret E hw dX4_travel_72
set_option maxRecDepth 100000 in
set_option maxHeartbeats 4000000 in
theorem mX4_travel (l : Launch) (Z : zT) (sz : Nat) (Ap : Nat → Nat) (An : Nat → Nat) (Ag : Nat → Nat) (p_crossed : Int32) (p_cost : Int32) (p_stops : (Nat → Int32)) (p_at : Int32) (p_area : Int32) (p_exit : Int32) (n_nodes : Int32) (n_links : Int32) (n_tunnels : Int32) (n_messages : Int32) (n_areas : (Nat → Int32)) (n_firsts : (Nat → Int32)) (n_seconds : (Nat → Int32)) (n_privates : (Nat → Int32)) (n_entries : (Nat → Int32)) (n_exits : (Nat → Int32)) (n_truth : (Nat → Int32)) (n_facts : (Nat → Int32)) (n_news : (Nat → Int64)) (g_nodes : Int32) (g_edges : Int32) (g_starts : (Nat → Int32)) (g_ends : (Nat → Int32)) (g_lengths : (Nat → Int32)) (g_items : (Nat → Int32)) (g_remaining : (Nat → Int32)) (v3 : Int32) (v4 : Int32) {res : Int32 × Int32 × Int32 × (Nat → Int32) × Int32 × Int32 × Int32 × Int32 × Int32 × (Nat → Int32) × (Nat → Int32) × (Nat → Int32) × (Nat → Int32) × (Nat → Int32)} (h : fX4_travel v3 v4 p_stops n_nodes n_links n_tunnels n_areas n_firsts n_seconds n_privates n_entries n_exits n_truth n_facts g_nodes g_edges g_starts g_ends g_lengths g_items g_remaining = some res) : Met l yX4_travel (Cond.code yX4_travel cX4_travel 9 (some .int) :: zWs) rmX4_travel (zP Z ((wX4 Z Ap p_crossed p_cost p_stops p_at p_area p_exit ++ wX3 Z An n_nodes n_links n_tunnels n_messages n_areas n_firsts n_seconds n_privates n_entries n_exits n_truth n_facts n_news ++ wX2 Z Ag g_nodes g_edges g_starts g_ends g_lengths g_items g_remaining)) sz [.ref (Ap 0), .ref (An 0), .ref (Ag 0), .int v3, .int v4]) (zQi Z res.1 ((wX4 Z Ap res.2.1 res.2.2.1 res.2.2.2.1 res.2.2.2.2.1 res.2.2.2.2.2.1 res.2.2.2.2.2.2.1 ++ wX3 Z An n_nodes n_links n_tunnels n_messages n_areas n_firsts n_seconds n_privates n_entries n_exits n_truth n_facts n_news ++ wX2 Z Ag res.2.2.2.2.2.2.2.1 res.2.2.2.2.2.2.2.2.1 res.2.2.2.2.2.2.2.2.2.1 res.2.2.2.2.2.2.2.2.2.2.1 res.2.2.2.2.2.2.2.2.2.2.2.1 res.2.2.2.2.2.2.2.2.2.2.2.2.1 res.2.2.2.2.2.2.2.2.2.2.2.2.2)) (va_A ((wX4 Z Ap p_crossed p_cost p_stops p_at p_area p_exit ++ wX3 Z An n_nodes n_links n_tunnels n_messages n_areas n_firsts n_seconds n_privates n_entries n_exits n_truth n_facts n_news ++ wX2 Z Ag g_nodes g_edges g_starts g_ends g_lengths g_items g_remaining)) sz)) 0 0 (va_A ((wX4 Z Ap p_crossed p_cost p_stops p_at p_area p_exit ++ wX3 Z An n_nodes n_links n_tunnels n_messages n_areas n_firsts n_seconds n_privates n_entries n_exits n_truth n_facts n_news ++ wX2 Z Ag g_nodes g_edges g_starts g_ends g_lengths g_items g_remaining)) sz) := by
  refine zMet (own := RX4) (fun A => zQi Z res.1 ((wX4 Z Ap res.2.1 res.2.2.1 res.2.2.2.1 res.2.2.2.2.1 res.2.2.2.2.2.1 res.2.2.2.2.2.2.1 ++ wX3 Z An n_nodes n_links n_tunnels n_messages n_areas n_firsts n_seconds n_privates n_entries n_exits n_truth n_facts n_news ++ wX2 Z Ag res.2.2.2.2.2.2.2.1 res.2.2.2.2.2.2.2.2.1 res.2.2.2.2.2.2.2.2.2.1 res.2.2.2.2.2.2.2.2.2.2.1 res.2.2.2.2.2.2.2.2.2.2.2.1 res.2.2.2.2.2.2.2.2.2.2.2.2.1 res.2.2.2.2.2.2.2.2.2.2.2.2.2)) A) (by decide) rfl (Nat.le_of_ble_eq_true rfl) ?_
  intro p e s m args below meth c ls A E hw hl
  unfold fX4_travel at h
  refine r_aload_n E hl 0 rfl dX4_travel_0 rfl ?_
  refine r_iconst E 0 dX4_travel_1 (by decide) ?_
  refine r_put E ((wX4 Z Ap (0 : Int32) p_cost p_stops p_at p_area p_exit ++ wX3 Z An n_nodes n_links n_tunnels n_messages n_areas n_firsts n_seconds n_privates n_entries n_exits n_truth n_facts n_news ++ wX2 Z Ag g_nodes g_edges g_starts g_ends g_lengths g_items g_remaining)) kW_X4 tyX4_ok nmX4 hw 0 rfl rfl 0 (by decide) kF_X4_9 rfl rfl rfl (Nat.le_of_ble_eq_true rfl) rfl dX4_travel_2 (fun H locs hw => ?_)
  refine r_aload_n E hl 0 rfl dX4_travel_5 rfl ?_
  refine r_iconst E 0 dX4_travel_6 (by decide) ?_
  refine r_put E ((wX4 Z Ap (0 : Int32) (0 : Int32) p_stops p_at p_area p_exit ++ wX3 Z An n_nodes n_links n_tunnels n_messages n_areas n_firsts n_seconds n_privates n_entries n_exits n_truth n_facts n_news ++ wX2 Z Ag g_nodes g_edges g_starts g_ends g_lengths g_items g_remaining)) kW_X4 tyX4_ok nmX4 hw 0 rfl rfl 1 (by decide) kF_X4_15 rfl rfl rfl (Nat.le_of_ble_eq_true rfl) rfl dX4_travel_7 (fun H locs hw => ?_)
  refine r_aload_n E hl 0 rfl dX4_travel_10 rfl ?_
  refine r_get E kW_X4 hw 0 rfl rfl 2 (by decide) kF_X4_18 rfl dX4_travel_11 ?_
  refine r_iconst E 0 dX4_travel_14 (by decide) ?_
  refine r_iload_n E hl 3 rfl dX4_travel_15 rfl ?_
  obtain ⟨hg1, h⟩ := gd_some h
  refine r_iast E ((wX4 Z Ap (0 : Int32) (0 : Int32) (upd p_stops ((0 : Int32)).toNatClampNeg v3) p_at p_area p_exit ++ wX3 Z An n_nodes n_links n_tunnels n_messages n_areas n_firsts n_seconds n_privates n_entries n_exits n_truth n_facts n_news ++ wX2 Z Ag g_nodes g_edges g_starts g_ends g_lengths g_items g_remaining)) hw 1 rfl hg1 rfl dX4_travel_16 (fun H locs hw => ?_)
  refine r_aload_n E hl 0 rfl dX4_travel_17 rfl ?_
  refine r_iload_n E hl 3 rfl dX4_travel_18 rfl ?_
  refine r_put E ((wX4 Z Ap (0 : Int32) (0 : Int32) (upd p_stops ((0 : Int32)).toNatClampNeg v3) v3 p_area p_exit ++ wX3 Z An n_nodes n_links n_tunnels n_messages n_areas n_firsts n_seconds n_privates n_entries n_exits n_truth n_facts n_news ++ wX2 Z Ag g_nodes g_edges g_starts g_ends g_lengths g_items g_remaining)) kW_X4 tyX4_ok nmX4 hw 0 rfl rfl 3 (by decide) kF_X4_22 rfl rfl rfl (Nat.le_of_ble_eq_true rfl) rfl dX4_travel_19 (fun H locs hw => ?_)
  refine r_aload_n E hl 0 rfl dX4_travel_22 rfl ?_
  refine r_iconst E (-1) dX4_travel_23 (by decide) ?_
  refine r_put E ((wX4 Z Ap (0 : Int32) (0 : Int32) (upd p_stops ((0 : Int32)).toNatClampNeg v3) v3 p_area (-1 : Int32) ++ wX3 Z An n_nodes n_links n_tunnels n_messages n_areas n_firsts n_seconds n_privates n_entries n_exits n_truth n_facts n_news ++ wX2 Z Ag g_nodes g_edges g_starts g_ends g_lengths g_items g_remaining)) kW_X4 tyX4_ok nmX4 hw 0 rfl rfl 5 (by decide) kF_X4_28 rfl rfl rfl (Nat.le_of_ble_eq_true rfl) rfl dX4_travel_24 (fun H locs hw => ?_)
  refine r_aload_n E hl 0 rfl dX4_travel_27 rfl ?_
  refine r_aload_n E hl 1 rfl dX4_travel_28 rfl ?_
  refine r_get E kW_X3 hw 2 rfl rfl 4 (by decide) kF_X4_31 rfl dX4_travel_29 ?_
  refine r_iload_n E hl 3 rfl dX4_travel_32 rfl ?_
  obtain ⟨hg2, h⟩ := gd_some h
  refine r_iald E hw 3 rfl hg2 dX4_travel_33 ?_
  refine r_put E ((wX4 Z Ap (0 : Int32) (0 : Int32) (upd p_stops ((0 : Int32)).toNatClampNeg v3) v3 (n_areas (v3).toNatClampNeg) (-1 : Int32) ++ wX3 Z An n_nodes n_links n_tunnels n_messages n_areas n_firsts n_seconds n_privates n_entries n_exits n_truth n_facts n_news ++ wX2 Z Ag g_nodes g_edges g_starts g_ends g_lengths g_items g_remaining)) kW_X4 tyX4_ok nmX4 hw 0 rfl rfl 4 (by decide) kF_X4_25 rfl rfl rfl (Nat.le_of_ble_eq_true rfl) rfl dX4_travel_34 (fun H locs hw => ?_)
  refine r_iconst E 0 dX4_travel_37 (by decide) ?_
  refine r_istore E [(5, .int (0 : Int32)), (0, .ref (Ap 0)), (1, .ref (An 0)), (2, .ref (Ag 0)), (3, .int v3), (4, .int v4)] hl dX4_travel_38 (by decide) rfl (fun ls hl => ?_)
  obtain ⟨n18, h⟩ := wh_some h
  exact tX4_travel_40 E  n18 _ _ _ _ _ _ _ _ _ _ _ _ _ _ _ _ _ h hw (lv_sub hl [1, 2, 3, 4, 5, 0] rfl)
