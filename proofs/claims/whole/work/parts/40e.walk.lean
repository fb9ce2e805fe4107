abbrev rmX2_lengthOver : Room := { frames := 0, cells := 0, slots := 0, locals := 0 }

set_option maxRecDepth 100000 in
set_option maxHeartbeats 4000000 in
theorem mX2_lengthOver (l : Launch) (Z : zT) (sz : Nat) (Ag : Nat → Nat) (g_nodes : Int32) (g_edges : Int32) (g_starts : (Nat → Int32)) (g_ends : (Nat → Int32)) (g_lengths : (Nat → Int32)) (g_items : (Nat → Int32)) (g_remaining : (Nat → Int32)) (v1 : Int32) {res : Int32} (h : fX2_lengthOver v1 g_ends g_lengths g_remaining = some res) : Met l yX2_lengthOver (Cond.code yX2_lengthOver cX2_lengthOver 2 (some .int) :: zWs) rmX2_lengthOver (zP Z (wX2 Z Ag g_nodes g_edges g_starts g_ends g_lengths g_items g_remaining) sz [.ref (Ag 0), .int v1]) (zQi Z res (wX2 Z Ag g_nodes g_edges g_starts g_ends g_lengths g_items g_remaining) (va_A (wX2 Z Ag g_nodes g_edges g_starts g_ends g_lengths g_items g_remaining) sz)) 0 0 (va_A (wX2 Z Ag g_nodes g_edges g_starts g_ends g_lengths g_items g_remaining) sz) := by
  refine zMet (own := RX2) (fun A => zQi Z res (wX2 Z Ag g_nodes g_edges g_starts g_ends g_lengths g_items g_remaining) A) (by decide) rfl (Nat.le_of_ble_eq_true rfl) ?_
  intro p e s m args below meth c ls A E hw hl
  unfold fX2_lengthOver at h
  refine r_aload_n E hl 0 rfl dX2_lengthOver_0 rfl ?_
  refine r_get E kW_X2 hw 0 rfl rfl 4 (by decide) kF_X2_25 rfl dX2_lengthOver_1 ?_
  refine r_iload_n E hl 1 rfl dX2_lengthOver_4 rfl ?_
  obtain ⟨hg1, h⟩ := gd_some h
  refine r_iald E hw 3 rfl hg1 dX2_lengthOver_5 ?_
  refine r_aload_n E hl 0 rfl dX2_lengthOver_6 rfl ?_
  refine r_get E kW_X2 hw 0 rfl rfl 6 (by decide) kF_X2_31 rfl dX2_lengthOver_7 ?_
  refine r_aload_n E hl 0 rfl dX2_lengthOver_10 rfl ?_
  refine r_get E kW_X2 hw 0 rfl rfl 3 (by decide) kF_X2_22 rfl dX2_lengthOver_11 ?_
  refine r_iload_n E hl 1 rfl dX2_lengthOver_14 rfl ?_
  obtain ⟨hg2, h⟩ := gd_some h
  refine r_iald E hw 2 rfl hg2 dX2_lengthOver_15 ?_
  obtain ⟨hg3, h⟩ := gd_some h
  refine r_iald E hw 5 rfl hg3 dX2_lengthOver_16 ?_
  refine r_iadd E dX2_lengthOver_17 ?_
  obtain rfl := Option.some.inj h
  exact r_iret E hw dX2_lengthOver_18
abbrev rmX2_addEdge : Room := { frames := 0, cells := 0, slots := 0, locals := 0 }

set_option maxRecDepth 100000 in
set_option maxHeartbeats 4000000 in
theorem mX2_addEdge (l : Launch) (Z : zT) (sz : Nat) (Ag : Nat → Nat) (g_nodes : Int32) (g_edges : Int32) (g_starts : (Nat → Int32)) (g_ends : (Nat → Int32)) (g_lengths : (Nat → Int32)) (g_items : (Nat → Int32)) (g_remaining : (Nat → Int32)) (v1 : Int32) (v2 : Int32) (v3 : Int32) (v4 : Int32) {res : Int32 × (Nat → Int32) × (Nat → Int32) × (Nat → Int32) × (Nat → Int32)} (h : fX2_addEdge v1 v2 v3 v4 g_edges g_starts g_ends g_lengths g_items = some res) : Met l yX2_addEdge (Cond.code yX2_addEdge cX2_addEdge 5 none :: zWs) rmX2_addEdge (zP Z (wX2 Z Ag g_nodes g_edges g_starts g_ends g_lengths g_items g_remaining) sz [.ref (Ag 0), .int v1, .int v2, .int v3, .int v4]) (zQv Z (wX2 Z Ag g_nodes res.1 res.2.1 res.2.2.1 res.2.2.2.1 res.2.2.2.2 g_remaining) (va_A (wX2 Z Ag g_nodes g_edges g_starts g_ends g_lengths g_items g_remaining) sz)) 0 0 (va_A (wX2 Z Ag g_nodes g_edges g_starts g_ends g_lengths g_items g_remaining) sz) := by
  refine zMet (own := RX2) (fun A => zQv Z (wX2 Z Ag g_nodes res.1 res.2.1 res.2.2.1 res.2.2.2.1 res.2.2.2.2 g_remaining) A) (by decide) rfl (Nat.le_of_ble_eq_true rfl) ?_
  intro p e s m args below meth c ls A E hw hl
  unfold fX2_addEdge at h
  refine r_aload_n E hl 0 rfl dX2_addEdge_0 rfl ?_
  refine r_get E kW_X2 hw 0 rfl rfl 2 (by decide) kF_X2_18 rfl dX2_addEdge_1 ?_
  refine r_aload_n E hl 0 rfl dX2_addEdge_4 rfl ?_
  refine r_get E kW_X2 hw 0 rfl rfl 1 (by decide) kF_X2_15 rfl dX2_addEdge_5 ?_
  refine r_iload_n E hl 1 rfl dX2_addEdge_8 rfl ?_
  obtain ⟨hg1, h⟩ := gd_some h
  refine r_iast E (wX2 Z Ag g_nodes g_edges (upd g_starts (g_edges).toNatClampNeg v1) g_ends g_lengths g_items g_remaining) hw 1 rfl hg1 rfl dX2_addEdge_9 (fun H locs hw => ?_)
  refine r_aload_n E hl 0 rfl dX2_addEdge_10 rfl ?_
  refine r_get E kW_X2 hw 0 rfl rfl 3 (by decide) kF_X2_22 rfl dX2_addEdge_11 ?_
  refine r_aload_n E hl 0 rfl dX2_addEdge_14 rfl ?_
  refine r_get E kW_X2 hw 0 rfl rfl 1 (by decide) kF_X2_15 rfl dX2_addEdge_15 ?_
  refine r_iload_n E hl 2 rfl dX2_addEdge_18 rfl ?_
  obtain ⟨hg2, h⟩ := gd_some h
  refine r_iast E (wX2 Z Ag g_nodes g_edges (upd g_starts (g_edges).toNatClampNeg v1) (upd g_ends (g_edges).toNatClampNeg v2) g_lengths g_items g_remaining) hw 2 rfl hg2 rfl dX2_addEdge_19 (fun H locs hw => ?_)
  refine r_aload_n E hl 0 rfl dX2_addEdge_20 rfl ?_
  refine r_get E kW_X2 hw 0 rfl rfl 5 (by decide) kF_X2_28 rfl dX2_addEdge_21 ?_
  refine r_aload_n E hl 0 rfl dX2_addEdge_24 rfl ?_
  refine r_get E kW_X2 hw 0 rfl rfl 1 (by decide) kF_X2_15 rfl dX2_addEdge_25 ?_
  refine r_iload_n E hl 3 rfl dX2_addEdge_28 rfl ?_
  obtain ⟨hg3, h⟩ := gd_some h
  refine r_iast E (wX2 Z Ag g_nodes g_edges (upd g_starts (g_edges).toNatClampNeg v1) (upd g_ends (g_edges).toNatClampNeg v2) g_lengths (upd g_items (g_edges).toNatClampNeg v3) g_remaining) hw 4 rfl hg3 rfl dX2_addEdge_29 (fun H locs hw => ?_)
  refine r_aload_n E hl 0 rfl dX2_addEdge_30 rfl ?_
  refine r_get E kW_X2 hw 0 rfl rfl 4 (by decide) kF_X2_25 rfl dX2_addEdge_31 ?_
  refine r_aload_n E hl 0 rfl dX2_addEdge_34 rfl ?_
  refine r_get E kW_X2 hw 0 rfl rfl 1 (by decide) kF_X2_15 rfl dX2_addEdge_35 ?_
  refine r_iload E hl 4 rfl dX2_addEdge_38 ?_
  refine r_bipush E 100 dX2_addEdge_40 (by decide) ?_
  refine r_imul E dX2_addEdge_42 ?_
  refine r_iconst E 1 dX2_addEdge_43 (by decide) ?_
  refine r_iadd E dX2_addEdge_44 ?_
  obtain ⟨hg4, h⟩ := gd_some h
  refine r_iast E (wX2 Z Ag g_nodes g_edges (upd g_starts (g_edges).toNatClampNeg v1) (upd g_ends (g_edges).toNatClampNeg v2) (upd g_lengths (g_edges).toNatClampNeg ((v4 * (100 : Int32)) + (1 : Int32))) (upd g_items (g_edges).toNatClampNeg v3) g_remaining) hw 3 rfl hg4 rfl dX2_addEdge_45 (fun H locs hw => ?_)
  refine r_aload_n E hl 0 rfl dX2_addEdge_46 rfl ?_
  refine r_dup E dX2_addEdge_47 rfl ?_
  refine r_get E kW_X2 hw 0 rfl rfl 1 (by decide) kF_X2_15 rfl dX2_addEdge_48 ?_
  refine r_iconst E 1 dX2_addEdge_51 (by decide) ?_
  refine r_iadd E dX2_addEdge_52 ?_
  refine r_put E (wX2 Z Ag g_nodes (g_edges + (1 : Int32)) (upd g_starts (g_edges).toNatClampNeg v1) (upd g_ends (g_edges).toNatClampNeg v2) (upd g_lengths (g_edges).toNatClampNeg ((v4 * (100 : Int32)) + (1 : Int32))) (upd g_items (g_edges).toNatClampNeg v3) g_remaining) kW_X2 tyX2_ok nmX2 hw 0 rfl rfl 1 (by decide) kF_X2_15 rfl rfl rfl (Nat.le_of_ble_eq_true rfl) rfl dX2_addEdge_53 (fun H locs hw => ?_)
  obtain rfl := Option.some.inj h
  exact r_vret E hw dX2_addEdge_56
abbrev rmX2_takeLinks_facts : Room := { frames := 1, cells := 0, slots := 0, locals := 24 }

set_option maxRecDepth 100000 in
set_option maxHeartbeats 4000000 in
theorem vX2_takeLinks_facts_134 {Z : zT} {p : Program} {l : Launch} {e : Env} {s : State} {m : MethodId} {args : Array Value} {below : List Frame} {meth : Method} {c : Code} {A : Nat → Prop} (E : zE Z p s m args meth c RX2 cX2_takeLinks 9 none A) {Ag : Nat → Nat} {An : Nat → Nat} {v3 : Int32} {v4 : Int32} {v5 : Int32} {g_nodes : Int32} {g_edges : Int32} {g_starts : (Nat → Int32)} {g_ends : (Nat → Int32)} {g_lengths : (Nat → Int32)} {g_items : (Nat → Int32)} {g_remaining : (Nat → Int32)} {n_nodes : Int32} {n_links : Int32} {n_tunnels : Int32} {n_messages : Int32} {n_areas : (Nat → Int32)} {n_firsts : (Nat → Int32)} {n_seconds : (Nat → Int32)} {n_privates : (Nat → Int32)} {n_entries : (Nat → Int32)} {n_exits : (Nat → Int32)} {n_truth : (Nat → Int32)} {n_facts : (Nat → Int32)} {n_news : (Nat → Int64)} {res : Int32 × Int32 × (Nat → Int32) × (Nat → Int32) × (Nat → Int32) × (Nat → Int32)} {q1 : (Int32 × Int32 × (Nat → Int32) × (Nat → Int32) × (Nat → Int32) × (Nat → Int32)) ⊕ (Int32 × Int32 × (Nat → Int32) × (Nat → Int32) × (Nat → Int32) × (Nat → Int32))} (hb1 : ∀ b : Int32 × Int32 × (Nat → Int32) × (Nat → Int32) × (Nat → Int32) × (Nat → Int32), q1 = .inl b → ∀ (H : Heap) (locs : List Loc) (ls : Array Slot), zW Z A ((wX2 Z Ag g_nodes b.2.1 b.2.2.1 b.2.2.2.1 b.2.2.2.2.1 b.2.2.2.2.2 g_remaining ++ wX3 Z An n_nodes n_links n_tunnels n_messages n_areas n_firsts n_seconds n_privates n_entries n_exits n_truth n_facts n_news)) s.heap H locs → lv_has ls 9 [(0, .ref (Ag 0)), (1, .ref (An 0)), (2, .ref (An 8)), (3, .int v3), (4, .int v4), (5, .int b.1)] → W p l e rmX2_takeLinks_facts s m args below meth c H locs 0 0 (MQ below (zQv Z ((wX2 Z Ag res.1 res.2.1 res.2.2.1 res.2.2.2.1 res.2.2.2.2.1 res.2.2.2.2.2 g_remaining ++ wX3 Z An n_nodes n_links n_tunnels n_messages n_areas n_firsts n_seconds n_privates n_entries n_exits n_truth n_facts n_news)) A) args s 0 0 A) (F0 m 16 ls [])) (hr1 : ∀ r' , q1 = .inr r' → r' = res) {H : Heap} {locs : List Loc} {ls : Array Slot} (hw : zW Z A ((wX2 Z Ag g_nodes g_edges g_starts g_ends g_lengths g_items g_remaining ++ wX3 Z An n_nodes n_links n_tunnels n_messages n_areas n_firsts n_seconds n_privates n_entries n_exits n_truth n_facts n_news)) s.heap H locs) (hl : lv_has ls 9 [(0, .ref (Ag 0)), (1, .ref (An 0)), (2, .ref (An 8)), (3, .int v3), (4, .int v4), (5, .int v5)]) (h : uX2_takeLinks_facts_134 v5 g_edges g_starts g_ends g_lengths g_items = some q1) : W p l e rmX2_takeLinks_facts s m args below meth c H locs 0 0 (MQ below (zQv Z ((wX2 Z Ag res.1 res.2.1 res.2.2.1 res.2.2.2.1 res.2.2.2.2.1 res.2.2.2.2.2 g_remaining ++ wX3 Z An n_nodes n_links n_tunnels n_messages n_areas n_firsts n_seconds n_privates n_entries n_exits n_truth n_facts n_news)) A) args s 0 0 A) (F0 m 134 ls []) := by
  unfold uX2_takeLinks_facts_134 at h
  obtain ⟨w6, hw6, h⟩ := nm_out h
  refine r_iinc E w6 [(5, .int w6), (0, .ref (Ag 0)), (1, .ref (An 0)), (2, .ref (An 8)), (3, .int v3), (4, .int v4)] hl (k := 5) rfl dX2_takeLinks_134 hw6.symm (by decide) rfl (fun ls hl => ?_)
  refine r_goto E 16 dX2_takeLinks_137 (by decide) ?_
  exact hb1 _ (Option.some.inj h).symm _ _ _ hw (lv_sub hl [1, 2, 3, 4, 5, 0] rfl)
set_option maxRecDepth 100000 in
set_option maxHeartbeats 4000000 in
theorem vX2_takeLinks_facts_68 {Z : zT} {p : Program} {l : Launch} {e : Env} {s : State} {m : MethodId} {args : Array Value} {below : List Frame} {meth : Method} {c : Code} {A : Nat → Prop} (E : zE Z p s m args meth c RX2 cX2_takeLinks 9 none A) {Ag : Nat → Nat} {An : Nat → Nat} {v3 : Int32} {v4 : Int32} {v5 : Int32} {v6 : Int32} {v7 : Int32} {k0 : Int32} {g_nodes : Int32} {g_edges : Int32} {g_starts : (Nat → Int32)} {g_ends : (Nat → Int32)} {g_lengths : (Nat → Int32)} {g_items : (Nat → Int32)} {g_remaining : (Nat → Int32)} {n_nodes : Int32} {n_links : Int32} {n_tunnels : Int32} {n_messages : Int32} {n_areas : (Nat → Int32)} {n_firsts : (Nat → Int32)} {n_seconds : (Nat → Int32)} {n_privates : (Nat → Int32)} {n_entries : (Nat → Int32)} {n_exits : (Nat → Int32)} {n_truth : (Nat → Int32)} {n_facts : (Nat → Int32)} {n_news : (Nat → Int64)} {res : Int32 × Int32 × (Nat → Int32) × (Nat → Int32) × (Nat → Int32) × (Nat → Int32)} {q1 : (Int32 × Int32 × (Nat → Int32) × (Nat → Int32) × (Nat → Int32) × (Nat → Int32)) ⊕ (Int32 × Int32 × (Nat → Int32) × (Nat → Int32) × (Nat → Int32) × (Nat → Int32))} (hb1 : ∀ b : Int32 × Int32 × (Nat → Int32) × (Nat → Int32) × (Nat → Int32) × (Nat → Int32), q1 = .inl b → ∀ (H : Heap) (locs : List Loc) (ls : Array Slot), zW Z A ((wX2 Z Ag g_nodes b.2.1 b.2.2.1 b.2.2.2.1 b.2.2.2.2.1 b.2.2.2.2.2 g_remaining ++ wX3 Z An n_nodes n_links n_tunnels n_messages n_areas n_firsts n_seconds n_privates n_entries n_exits n_truth n_facts n_news)) s.heap H locs → lv_has ls 9 [(0, .ref (Ag 0)), (1, .ref (An 0)), (2, .ref (An 8)), (3, .int v3), (4, .int v4), (5, .int b.1)] → W p l e rmX2_takeLinks_facts s m args below meth c H locs 0 0 (MQ below (zQv Z ((wX2 Z Ag res.1 res.2.1 res.2.2.1 res.2.2.2.1 res.2.2.2.2.1 res.2.2.2.2.2 g_remaining ++ wX3 Z An n_nodes n_links n_tunnels n_messages n_areas n_firsts n_seconds n_privates n_entries n_exits n_truth n_facts n_news)) A) args s 0 0 A) (F0 m 16 ls [])) (hr1 : ∀ r' , q1 = .inr r' → r' = res) {H : Heap} {locs : List Loc} {ls : Array Slot} (hw : zW Z A ((wX2 Z Ag g_nodes g_edges g_starts g_ends g_lengths g_items g_remaining ++ wX3 Z An n_nodes n_links n_tunnels n_messages n_areas n_firsts n_seconds n_privates n_entries n_exits n_truth n_facts n_news)) s.heap H locs) (hl : lv_has ls 9 [(0, .ref (Ag 0)), (1, .ref (An 0)), (2, .ref (An 8)), (3, .int v3), (4, .int v4), (5, .int v5), (6, .int v6), (7, .int v7)]) (h : uX2_takeLinks_facts_68 v5 v6 v7 k0 g_edges g_starts g_ends g_lengths g_items n_firsts n_seconds = some q1) : W p l e rmX2_takeLinks_facts s m args below meth c H locs 0 0 (MQ below (zQv Z ((wX2 Z Ag res.1 res.2.1 res.2.2.1 res.2.2.2.1 res.2.2.2.2.1 res.2.2.2.2.2 g_remaining ++ wX3 Z An n_nodes n_links n_tunnels n_messages n_areas n_firsts n_seconds n_privates n_entries n_exits n_truth n_facts n_news)) A) args s 0 0 A) (F0 m 68 ls [.int k0]) := by
  unfold uX2_takeLinks_facts_68 at h
  refine r_istore E [(8, .int k0), (0, .ref (Ag 0)), (1, .ref (An 0)), (2, .ref (An 8)), (3, .int v3), (4, .int v4), (5, .int v5), (6, .int v6), (7, .int v7)] hl dX2_takeLinks_68 (by decide) rfl (fun ls hl => ?_)
  refine r_iload E hl 0 rfl dX2_takeLinks_70 ?_
  refine r_if_eq E 134 dX2_takeLinks_72 (by decide) (fun hc => ?_) (fun hc => ?_)
  · replace h := ite_t hc h
    exact vX2_takeLinks_facts_134 E hb1 hr1 hw (lv_sub hl [1, 2, 3, 4, 5, 6] rfl) h
  · replace h := ite_f hc h
    refine r_iload E hl 8 rfl dX2_takeLinks_75 ?_
    obtain ⟨y7, hy7, h⟩ := bd_some h
    refine r_callS0i E hw (mX0_state l Z _ v7 hy7) kL_X2_73 kT_X0_state kN_X0 kC_X0_state rfl rfl hdX0_state ⟨Nat.le_of_ble_eq_true rfl, Nat.le_of_ble_eq_true rfl⟩ rfl hl [] rfl (Nat.le_of_ble_eq_true rfl) dX2_takeLinks_77 ⟨Nat.zero_le _, Nat.zero_le _⟩ (fun H locs hw => ?_)
    refine r_iconst E 1 dX2_takeLinks_80 (by decide) ?_
    refine r_icmp_ne E 134 dX2_takeLinks_81 (by decide) (fun hc => ?_) (fun hc => ?_)
    · replace h := ite_f hc h
      exact vX2_takeLinks_facts_134 E hb1 hr1 hw (lv_sub hl [1, 2, 3, 4, 5, 6] rfl) h
    · replace h := ite_t hc h
      refine r_aload_n E hl 1 rfl dX2_takeLinks_84 rfl ?_
      refine r_aload_n E hl 2 rfl dX2_takeLinks_85 rfl ?_
      refine r_get E kW_X3 hw 6 rfl rfl 5 (by decide) kF_X2_78 rfl dX2_takeLinks_86 ?_
      refine r_iload E hl 6 rfl dX2_takeLinks_89 ?_
      obtain ⟨hg8, h⟩ := gd_some h
      refine r_iald E hw 8 rfl hg8 dX2_takeLinks_91 ?_
      refine r_aload_n E hl 2 rfl dX2_takeLinks_92 rfl ?_
      refine r_get E kW_X3 hw 6 rfl rfl 6 (by decide) kF_X2_81 rfl dX2_takeLinks_93 ?_
      refine r_iload E hl 6 rfl dX2_takeLinks_96 ?_
      obtain ⟨hg9, h⟩ := gd_some h
      refine r_iald E hw 9 rfl hg9 dX2_takeLinks_98 ?_
      refine r_iload E hl 7 rfl dX2_takeLinks_99 ?_
      refine r_iload E hl 8 rfl dX2_takeLinks_101 ?_
      obtain ⟨y10, hy10, h⟩ := bd_some h
      refine r_callS0i E hw (mX0_price l Z _ v7 hy10) kL_X2_84 kT_X0_price kN_X0 kC_X0_price rfl rfl hdX0_price ⟨Nat.le_of_ble_eq_true rfl, Nat.le_of_ble_eq_true rfl⟩ rfl hl [.int v6, .int (n_seconds (v5).toNatClampNeg), .int (n_firsts (v5).toNatClampNeg), .ref (Ag 0)] rfl (Nat.le_of_ble_eq_true rfl) dX2_takeLinks_103 ⟨Nat.zero_le _, Nat.zero_le _⟩ (fun H locs hw => ?_)
      obtain ⟨y11, hy11, h⟩ := bd_some h
      refine r_callVQv E ((wX2 Z Ag g_nodes y11.1 y11.2.1 y11.2.2.1 y11.2.2.2.1 y11.2.2.2.2 g_remaining ++ wX3 Z An n_nodes n_links n_tunnels n_messages n_areas n_firsts n_seconds n_privates n_entries n_exits n_truth n_facts n_news)) (wX3 Z An n_nodes n_links n_tunnels n_messages n_areas n_firsts n_seconds n_privates n_entries n_exits n_truth n_facts n_news) hw (mX2_addEdge l Z _ Ag g_nodes g_edges g_starts g_ends g_lengths g_items g_remaining (n_firsts (v5).toNatClampNeg) (n_seconds (v5).toNatClampNeg) v6 y10 hy11) kL_X2_87 kI_X2_addEdge kS_X2_addEdge kN_X2 kC_X2_addEdge rfl rfl hdX2_addEdge ⟨Nat.le_of_ble_eq_true rfl, Nat.le_of_ble_eq_true rfl⟩ (fun f => by simp only [sf_app] <;> omega) (fun f => by simp only [sf_app] <;> omega) 0 rfl rfl rfl rfl hl [] rfl (Nat.le_of_ble_eq_true rfl) dX2_takeLinks_106 ⟨Nat.zero_le _, Nat.zero_le _⟩ (fun H locs hw => ?_)
      refine r_aload_n E hl 1 rfl dX2_takeLinks_109 rfl ?_
      refine r_aload_n E hl 2 rfl dX2_takeLinks_110 rfl ?_
      refine r_get E kW_X3 hw 6 rfl rfl 6 (by decide) kF_X2_81 rfl dX2_takeLinks_111 ?_
      refine r_iload E hl 6 rfl dX2_takeLinks_114 ?_
      obtain ⟨hg12, h⟩ := gd_some h
      refine r_iald E hw 9 rfl hg12 dX2_takeLinks_116 ?_
      refine r_aload_n E hl 2 rfl dX2_takeLinks_117 rfl ?_
      refine r_get E kW_X3 hw 6 rfl rfl 5 (by decide) kF_X2_78 rfl dX2_takeLinks_118 ?_
      refine r_iload E hl 6 rfl dX2_takeLinks_121 ?_
      obtain ⟨hg13, h⟩ := gd_some h
      refine r_iald E hw 8 rfl hg13 dX2_takeLinks_123 ?_
      refine r_iload E hl 7 rfl dX2_takeLinks_124 ?_
      refine r_iload E hl 8 rfl dX2_takeLinks_126 ?_
      obtain ⟨y14, hy14, h⟩ := bd_some h
      refine r_callS0i E hw (mX0_price l Z _ v7 hy14) kL_X2_84 kT_X0_price kN_X0 kC_X0_price rfl rfl hdX0_price ⟨Nat.le_of_ble_eq_true rfl, Nat.le_of_ble_eq_true rfl⟩ rfl hl [.int v6, .int (n_firsts (v5).toNatClampNeg), .int (n_seconds (v5).toNatClampNeg), .ref (Ag 0)] rfl (Nat.le_of_ble_eq_true rfl) dX2_takeLinks_128 ⟨Nat.zero_le _, Nat.zero_le _⟩ (fun H locs hw => ?_)
      obtain ⟨y15, hy15, h⟩ := bd_some h
      refine r_callVQv E ((wX2 Z Ag g_nodes y15.1 y15.2.1 y15.2.2.1 y15.2.2.2.1 y15.2.2.2.2 g_remaining ++ wX3 Z An n_nodes n_links n_tunnels n_messages n_areas n_firsts n_seconds n_privates n_entries n_exits n_truth n_facts n_news)) (wX3 Z An n_nodes n_links n_tunnels n_messages n_areas n_firsts n_seconds n_privates n_entries n_exits n_truth n_facts n_news) hw (mX2_addEdge l Z _ Ag g_nodes y11.1 y11.2.1 y11.2.2.1 y11.2.2.2.1 y11.2.2.2.2 g_remaining (n_seconds (v5).toNatClampNeg) (n_firsts (v5).toNatClampNeg) v6 y14 hy15) kL_X2_87 kI_X2_addEdge kS_X2_addEdge kN_X2 kC_X2_addEdge rfl rfl hdX2_addEdge ⟨Nat.le_of_ble_eq_true rfl, Nat.le_of_ble_eq_true rfl⟩ (fun f => by simp only [sf_app] <;> omega) (fun f => by simp only [sf_app] <;> omega) 0 rfl rfl rfl rfl hl [] rfl (Nat.le_of_ble_eq_true rfl) dX2_takeLinks_131 ⟨Nat.zero_le _, Nat.zero_le _⟩ (fun H locs hw => ?_)
      exact vX2_takeLinks_facts_134 E hb1 hr1 hw (lv_sub hl [1, 2, 3, 4, 5, 6] rfl) h
set_option maxRecDepth 100000 in
set_option maxHeartbeats 4000000 in
theorem vX2_takeLinks_facts_63 {Z : zT} {p : Program} {l : Launch} {e : Env} {s : State} {m : MethodId} {args : Array Value} {below : List Frame} {meth : Method} {c : Code} {A : Nat → Prop} (E : zE Z p s m args meth c RX2 cX2_takeLinks 9 none A) {Ag : Nat → Nat} {An : Nat → Nat} {v3 : Int32} {v4 : Int32} {v5 : Int32} {v6 : Int32} {v7 : Int32} {g_nodes : Int32} {g_edges : Int32} {g_starts : (Nat → Int32)} {g_ends : (Nat → Int32)} {g_lengths : (Nat → Int32)} {g_items : (Nat → Int32)} {g_remaining : (Nat → Int32)} {n_nodes : Int32} {n_links : Int32} {n_tunnels : Int32} {n_messages : Int32} {n_areas : (Nat → Int32)} {n_firsts : (Nat → Int32)} {n_seconds : (Nat → Int32)} {n_privates : (Nat → Int32)} {n_entries : (Nat → Int32)} {n_exits : (Nat → Int32)} {n_truth : (Nat → Int32)} {n_facts : (Nat → Int32)} {n_news : (Nat → Int64)} {res : Int32 × Int32 × (Nat → Int32) × (Nat → Int32) × (Nat → Int32) × (Nat → Int32)} {q1 : (Int32 × Int32 × (Nat → Int32) × (Nat → Int32) × (Nat → Int32) × (Nat → Int32)) ⊕ (Int32 × Int32 × (Nat → Int32) × (Nat → Int32) × (Nat → Int32) × (Nat → Int32))} (hb1 : ∀ b : Int32 × Int32 × (Nat → Int32) × (Nat → Int32) × (Nat → Int32) × (Nat → Int32), q1 = .inl b → ∀ (H : Heap) (locs : List Loc) (ls : Array Slot), zW Z A ((wX2 Z Ag g_nodes b.2.1 b.2.2.1 b.2.2.2.1 b.2.2.2.2.1 b.2.2.2.2.2 g_remaining ++ wX3 Z An n_nodes n_links n_tunnels n_messages n_areas n_firsts n_seconds n_privates n_entries n_exits n_truth n_facts n_news)) s.heap H locs → lv_has ls 9 [(0, .ref (Ag 0)), (1, .ref (An 0)), (2, .ref (An 8)), (3, .int v3), (4, .int v4), (5, .int b.1)] → W p l e rmX2_takeLinks_facts s m args below meth c H locs 0 0 (MQ below (zQv Z ((wX2 Z Ag res.1 res.2.1 res.2.2.1 res.2.2.2.1 res.2.2.2.2.1 res.2.2.2.2.2 g_remaining ++ wX3 Z An n_nodes n_links n_tunnels n_messages n_areas n_firsts n_seconds n_privates n_entries n_exits n_truth n_facts n_news)) A) args s 0 0 A) (F0 m 16 ls [])) (hr1 : ∀ r' , q1 = .inr r' → r' = res) {H : Heap} {locs : List Loc} {ls : Array Slot} (hw : zW Z A ((wX2 Z Ag g_nodes g_edges g_starts g_ends g_lengths g_items g_remaining ++ wX3 Z An n_nodes n_links n_tunnels n_messages n_areas n_firsts n_seconds n_privates n_entries n_exits n_truth n_facts n_news)) s.heap H locs) (hl : lv_has ls 9 [(0, .ref (Ag 0)), (1, .ref (An 0)), (2, .ref (An 8)), (3, .int v3), (4, .int v4), (5, .int v5), (6, .int v6), (7, .int v7)]) (h : uX2_takeLinks_facts_63 v5 v6 v7 g_edges g_starts g_ends g_lengths g_items n_firsts n_seconds = some q1) : W p l e rmX2_takeLinks_facts s m args below meth c H locs 0 0 (MQ below (zQv Z ((wX2 Z Ag res.1 res.2.1 res.2.2.1 res.2.2.2.1 res.2.2.2.2.1 res.2.2.2.2.2 g_remaining ++ wX3 Z An n_nodes n_links n_tunnels n_messages n_areas n_firsts n_seconds n_privates n_entries n_exits n_truth n_facts n_news)) A) args s 0 0 A) (F0 m 63 ls []) := by
  unfold uX2_takeLinks_facts_63 at h
  refine r_iconst E 1 dX2_takeLinks_63 (by decide) ?_
  refine r_goto E 68 dX2_takeLinks_64 (by decide) ?_
  exact vX2_takeLinks_facts_68 E hb1 hr1 hw hl h
set_option maxRecDepth 100000 in
set_option maxHeartbeats 4000000 in
theorem tX2_takeLinks_facts_16 {Z : zT} {p : Program} {l : Launch} {e : Env} {s : State} {m : MethodId} {args : Array Value} {below : List Frame} {meth : Method} {c : Code} {A : Nat → Prop} (E : zE Z p s m args meth c RX2 cX2_takeLinks 9 none A) {Ag : Nat → Nat} {An : Nat → Nat} {v3 : Int32} {v4 : Int32} {g_nodes : Int32} {g_remaining : (Nat → Int32)} {n_nodes : Int32} {n_links : Int32} {n_tunnels : Int32} {n_messages : Int32} {n_areas : (Nat → Int32)} {n_firsts : (Nat → Int32)} {n_seconds : (Nat → Int32)} {n_privates : (Nat → Int32)} {n_entries : (Nat → Int32)} {n_exits : (Nat → Int32)} {n_truth : (Nat → Int32)} {n_facts : (Nat → Int32)} {n_news : (Nat → Int64)} {res : Int32 × Int32 × (Nat → Int32) × (Nat → Int32) × (Nat → Int32) × (Nat → Int32)}  : ∀ (n : Nat) (v5 : Int32) (g_edges : Int32) (g_starts : (Nat → Int32)) (g_ends : (Nat → Int32)) (g_lengths : (Nat → Int32)) (g_items : (Nat → Int32)) (H : Heap) (locs : List Loc) (ls : Array Slot), iter (fun b : Int32 × Int32 × (Nat → Int32) × (Nat → Int32) × (Nat → Int32) × (Nat → Int32) => sX2_takeLinks_facts_16 v3 v4 g_nodes n_links n_areas n_firsts n_seconds n_privates n_facts b.1 b.2.1 b.2.2.1 b.2.2.2.1 b.2.2.2.2.1 b.2.2.2.2.2) n (v5, g_edges, g_starts, g_ends, g_lengths, g_items) = some res → zW Z A ((wX2 Z Ag g_nodes g_edges g_starts g_ends g_lengths g_items g_remaining ++ wX3 Z An n_nodes n_links n_tunnels n_messages n_areas n_firsts n_seconds n_privates n_entries n_exits n_truth n_facts n_news)) s.heap H locs → lv_has ls 9 [(0, .ref (Ag 0)), (1, .ref (An 0)), (2, .ref (An 8)), (3, .int v3), (4, .int v4), (5, .int v5)] → W p l e rmX2_takeLinks_facts s m args below meth c H locs 0 0 (MQ below (zQv Z ((wX2 Z Ag res.1 res.2.1 res.2.2.1 res.2.2.2.1 res.2.2.2.2.1 res.2.2.2.2.2 g_remaining ++ wX3 Z An n_nodes n_links n_tunnels n_messages n_areas n_firsts n_seconds n_privates n_entries n_exits n_truth n_facts n_news)) A) args s 0 0 A) (F0 m 16 ls []) := by
  intro n
  induction n with
  | zero => intro v5 g_edges g_starts g_ends g_lengths g_items H locs ls h; cases h
  | succ n ih =>
    intro v5 g_edges g_starts g_ends g_lengths g_items H locs ls h hw hl
    obtain ⟨q1, h, hn1, hr1⟩ := iter_out h
    have hb1 : ∀ b : Int32 × Int32 × (Nat → Int32) × (Nat → Int32) × (Nat → Int32) × (Nat → Int32), q1 = .inl b → ∀ (H : Heap) (locs : List Loc) (ls : Array Slot), zW Z A ((wX2 Z Ag g_nodes b.2.1 b.2.2.1 b.2.2.2.1 b.2.2.2.2.1 b.2.2.2.2.2 g_remaining ++ wX3 Z An n_nodes n_links n_tunnels n_messages n_areas n_firsts n_seconds n_privates n_entries n_exits n_truth n_facts n_news)) s.heap H locs → lv_has ls 9 [(0, .ref (Ag 0)), (1, .ref (An 0)), (2, .ref (An 8)), (3, .int v3), (4, .int v4), (5, .int b.1)] → W p l e rmX2_takeLinks_facts s m args below meth c H locs 0 0 (MQ below (zQv Z ((wX2 Z Ag res.1 res.2.1 res.2.2.1 res.2.2.2.1 res.2.2.2.2.1 res.2.2.2.2.2 g_remaining ++ wX3 Z An n_nodes n_links n_tunnels n_messages n_areas n_firsts n_seconds n_privates n_entries n_exits n_truth n_facts n_news)) A) args s 0 0 A) (F0 m 16 ls []) := fun b eb H locs ls hw hl => ih b.1 b.2.1 b.2.2.1 b.2.2.2.1 b.2.2.2.2.1 b.2.2.2.2.2 H locs ls (hn1 b eb) hw hl
    replace h : sX2_takeLinks_facts_16 v3 v4 g_nodes n_links n_areas n_firsts n_seconds n_privates n_facts v5 g_edges g_starts g_ends g_lengths g_items = some q1 := h
    unfold sX2_takeLinks_facts_16 at h
    refine r_iload E hl 5 rfl dX2_takeLinks_16 ?_
    refine r_aload_n E hl 1 rfl dX2_takeLinks_18 rfl ?_
    refine r_get E kW_X3 hw 6 rfl rfl 1 (by decide) kF_X2_58 rfl dX2_takeLinks_19 ?_
    refine r_icmp_ge E 140 dX2_takeLinks_22 (by decide) (fun hc => ?_) (fun hc => ?_)
    · replace h := ite_t hc h
      obtain ⟨ro1, h, hro1⟩ := oi_some h
      rw [hr1 _ hro1] at h
      obtain rfl := Option.some.inj h
      exact r_vret E hw dX2_takeLinks_140
    · replace h := ite_f hc h
      refine r_bipush E 16 dX2_takeLinks_25 (by decide) ?_
      refine r_iload E hl 5 rfl dX2_takeLinks_27 ?_
      refine r_iadd E dX2_takeLinks_29 ?_
      obtain ⟨w2, hw2, h⟩ := nm_out h
      refine r_nm hw2 ?_
      refine r_istore E [(6, .int w2), (0, .ref (Ag 0)), (1, .ref (An 0)), (2, .ref (An 8)), (3, .int v3), (4, .int v4), (5, .int v5)] hl dX2_takeLinks_30 (by decide) rfl (fun ls hl => ?_)
      refine r_aload_n E hl 3 rfl dX2_takeLinks_32 rfl ?_
      refine r_iload_n E hl 4 rfl dX2_takeLinks_33 rfl ?_
      refine r_iload E hl 0 rfl dX2_takeLinks_34 ?_
      refine r_iadd E dX2_takeLinks_36 ?_
      obtain ⟨hg3, h⟩ := gd_some h
      refine r_iald E hw 14 rfl hg3 dX2_takeLinks_37 ?_
      obtain ⟨w4, hw4, h⟩ := nm_out h
      refine r_nm hw4 ?_
      refine r_istore E [(7, .int w4), (6, .int w2), (0, .ref (Ag 0)), (1, .ref (An 0)), (2, .ref (An 8)), (3, .int v3), (4, .int v4), (5, .int v5)] hl dX2_takeLinks_38 (by decide) rfl (fun ls hl => ?_)
      refine r_aload_n E hl 3 rfl dX2_takeLinks_40 rfl ?_
      refine r_iload E hl 1 rfl dX2_takeLinks_41 ?_
      obtain ⟨y5, hy5, h⟩ := bd_some h
      refine r_callVQi E ((wX2 Z Ag g_nodes g_edges g_starts g_ends g_lengths g_items g_remaining ++ wX3 Z An n_nodes n_links n_tunnels n_messages n_areas n_firsts n_seconds n_privates n_entries n_exits n_truth n_facts n_news)) (wX2 Z Ag g_nodes g_edges g_starts g_ends g_lengths g_items g_remaining) hw (mX3_isPrivateLink l Z _ An n_nodes n_links n_tunnels n_messages n_areas n_firsts n_seconds n_privates n_entries n_exits n_truth n_facts n_news w2 hy5) kL_X2_61 kI_X3_isPrivateLink kS_X3_isPrivateLink kN_X3 kC_X3_isPrivateLink rfl rfl hdX3_isPrivateLink ⟨Nat.le_of_ble_eq_true rfl, Nat.le_of_ble_eq_true rfl⟩ (fun f => by simp only [sf_app] <;> omega) (fun f => by simp only [sf_app] <;> omega) 6 rfl rfl rfl rfl hl [] rfl (Nat.le_of_ble_eq_true rfl) dX2_takeLinks_43 ⟨Nat.zero_le _, Nat.zero_le _⟩ (fun H locs hw => ?_)
      refine r_if_eq E 63 dX2_takeLinks_46 (by decide) (fun hc => ?_) (fun hc => ?_)
      · replace h := ite_t hc h
        exact vX2_takeLinks_facts_63 E hb1 hr1 hw (lv_sub hl [2, 3, 4, 5, 6, 7, 1, 0] rfl) h
      · replace h := ite_f hc h
        refine r_iload E hl 6 rfl dX2_takeLinks_49 ?_
        refine r_aload_n E hl 3 rfl dX2_takeLinks_51 rfl ?_
        refine r_iload E hl 7 rfl dX2_takeLinks_52 ?_
        obtain ⟨y16, hy16, h⟩ := bd_some h
        refine r_callVQi E ((wX2 Z Ag g_nodes g_edges g_starts g_ends g_lengths g_items g_remaining ++ wX3 Z An n_nodes n_links n_tunnels n_messages n_areas n_firsts n_seconds n_privates n_entries n_exits n_truth n_facts n_news)) (wX2 Z Ag g_nodes g_edges g_starts g_ends g_lengths g_items g_remaining) hw (mX3_owner l Z _ An n_nodes n_links n_tunnels n_messages n_areas n_firsts n_seconds n_privates n_entries n_exits n_truth n_facts n_news v5 hy16) kL_X2_65 kI_X3_owner kS_X3_owner kN_X3 kC_X3_owner rfl rfl hdX3_owner ⟨Nat.le_of_ble_eq_true rfl, Nat.le_of_ble_eq_true rfl⟩ (fun f => by simp only [sf_app] <;> omega) (fun f => by simp only [sf_app] <;> omega) 6 rfl rfl rfl rfl hl [.int v4] rfl (Nat.le_of_ble_eq_true rfl) dX2_takeLinks_54 ⟨Nat.zero_le _, Nat.zero_le _⟩ (fun H locs hw => ?_)
        obtain ⟨y17, hy17, h⟩ := bd_some h
        refine r_callS0i E hw (mX3_has l Z _ v4 y16 hy17) kL_X2_69 kT_X3_has kN_X3 kC_X3_has rfl rfl hdX3_has ⟨Nat.le_of_ble_eq_true rfl, Nat.le_of_ble_eq_true rfl⟩ rfl hl [] rfl (Nat.le_of_ble_eq_true rfl) dX2_takeLinks_57 ⟨Nat.zero_le _, Nat.zero_le _⟩ (fun H locs hw => ?_)
        refine r_if_eq E 67 dX2_takeLinks_60 (by decide) (fun hc => ?_) (fun hc => ?_)
        · replace h := ite_t hc h
          refine r_iconst E 0 dX2_takeLinks_67 (by decide) ?_
          exact vX2_takeLinks_facts_68 E hb1 hr1 hw (lv_sub hl [2, 3, 4, 5, 6, 7, 1, 0] rfl) h
        · replace h := ite_f hc h
          exact vX2_takeLinks_facts_63 E hb1 hr1 hw (lv_sub hl [2, 3, 4, 5, 6, 7, 1, 0] rfl) h
set_option maxRecDepth 100000 in
set_option maxHeartbeats 4000000 in
theorem mX2_takeLinks_facts (l : Launch) (Z : zT) (sz : Nat) (Ag : Nat → Nat) (An : Nat → Nat) (g_nodes : Int32) (g_edges : Int32) (g_starts : (Nat → Int32)) (g_ends : (Nat → Int32)) (g_lengths : (Nat → Int32)) (g_items : (Nat → Int32)) (g_remaining : (Nat → Int32)) (n_nodes : Int32) (n_links : Int32) (n_tunnels : Int32) (n_messages : Int32) (n_areas : (Nat → Int32)) (n_firsts : (Nat → Int32)) (n_seconds : (Nat → Int32)) (n_privates : (Nat → Int32)) (n_entries : (Nat → Int32)) (n_exits : (Nat → Int32)) (n_truth : (Nat → Int32)) (n_facts : (Nat → Int32)) (n_news : (Nat → Int64)) (v3 : Int32) (v4 : Int32) {res : Int32 × Int32 × (Nat → Int32) × (Nat → Int32) × (Nat → Int32) × (Nat → Int32)} (h : fX2_takeLinks_facts v3 v4 g_starts g_ends g_lengths g_items n_nodes n_links n_areas n_firsts n_seconds n_privates n_facts = some res) : Met l yX2_takeLinks (Cond.code yX2_takeLinks cX2_takeLinks 9 none :: zWs) rmX2_takeLinks_facts (zP Z ((wX2 Z Ag g_nodes g_edges g_starts g_ends g_lengths g_items g_remaining ++ wX3 Z An n_nodes n_links n_tunnels n_messages n_areas n_firsts n_seconds n_privates n_entries n_exits n_truth n_facts n_news)) sz [.ref (Ag 0), .ref (An 0), .ref (An 8), .int v3, .int v4]) (zQv Z ((wX2 Z Ag res.1 res.2.1 res.2.2.1 res.2.2.2.1 res.2.2.2.2.1 res.2.2.2.2.2 g_remaining ++ wX3 Z An n_nodes n_links n_tunnels n_messages n_areas n_firsts n_seconds n_privates n_entries n_exits n_truth n_facts n_news)) (va_A ((wX2 Z Ag g_nodes g_edges g_starts g_ends g_lengths g_items g_remaining ++ wX3 Z An n_nodes n_links n_tunnels n_messages n_areas n_firsts n_seconds n_privates n_entries n_exits n_truth n_facts n_news)) sz)) 0 0 (va_A ((wX2 Z Ag g_nodes g_edges g_starts g_ends g_lengths g_items g_remaining ++ wX3 Z An n_nodes n_links n_tunnels n_messages n_areas n_firsts n_seconds n_privates n_entries n_exits n_truth n_facts n_news)) sz) := by
  refine zMet (own := RX2) (fun A => zQv Z ((wX2 Z Ag res.1 res.2.1 res.2.2.1 res.2.2.2.1 res.2.2.2.2.1 res.2.2.2.2.2 g_remaining ++ wX3 Z An n_nodes n_links n_tunnels n_messages n_areas n_firsts n_seconds n_privates n_entries n_exits n_truth n_facts n_news)) A) (by decide) rfl (Nat.le_of_ble_eq_true rfl) ?_
  intro p e s m args below meth c ls A E hw hl
  unfold fX2_takeLinks_facts at h
  refine r_aload_n E hl 0 rfl dX2_takeLinks_0 rfl ?_
  refine r_aload_n E hl 1 rfl dX2_takeLinks_1 rfl ?_
  refine r_get E kW_X3 hw 6 rfl rfl 0 (by decide) kF_X2_57 rfl dX2_takeLinks_2 ?_
  refine r_put E ((wX2 Z Ag n_nodes g_edges g_starts g_ends g_lengths g_items g_remaining ++ wX3 Z An n_nodes n_links n_tunnels n_messages n_areas n_firsts n_seconds n_privates n_entries n_exits n_truth n_facts n_news)) kW_X2 tyX2_ok nmX2 hw 0 rfl rfl 0 (by decide) kF_X2_9 rfl rfl rfl (Nat.le_of_ble_eq_true rfl) rfl dX2_takeLinks_5 (fun H locs hw => ?_)
  refine r_aload_n E hl 0 rfl dX2_takeLinks_8 rfl ?_
  refine r_iconst E 0 dX2_takeLinks_9 (by decide) ?_
  refine r_put E ((wX2 Z Ag n_nodes (0 : Int32) g_starts g_ends g_lengths g_items g_remaining ++ wX3 Z An n_nodes n_links n_tunnels n_messages n_areas n_firsts n_seconds n_privates n_entries n_exits n_truth n_facts n_news)) kW_X2 tyX2_ok nmX2 hw 0 rfl rfl 1 (by decide) kF_X2_15 rfl rfl rfl (Nat.le_of_ble_eq_true rfl) rfl dX2_takeLinks_10 (fun H locs hw => ?_)
  refine r_iconst E 0 dX2_takeLinks_13 (by decide) ?_
  refine r_istore E [(5, .int (0 : Int32)), (0, .ref (Ag 0)), (1, .ref (An 0)), (2, .ref (An 8)), (3, .int v3), (4, .int v4)] hl dX2_takeLinks_14 (by decide) rfl (fun ls hl => ?_)
  obtain ⟨n18, h⟩ := wh_some h
  exact tX2_takeLinks_facts_16 E  n18 _ _ _ _ _ _ _ _ _ h hw (lv_sub hl [1, 2, 3, 4, 5, 0] rfl)
abbrev rmX2_takeLinks_truth : Room := { frames := 1, cells := 0, slots := 0, locals := 24 }

set_option maxRecDepth 100000 in
set_option maxHeartbeats 4000000 in
theorem vX2_takeLinks_truth_134 {Z : zT} {p : Program} {l : Launch} {e : Env} {s : State} {m : MethodId} {args : Array Value} {below : List Frame} {meth : Method} {c : Code} {A : Nat → Prop} (E : zE Z p s m args meth c RX2 cX2_takeLinks 9 none A) {Ag : Nat → Nat} {An : Nat → Nat} {v3 : Int32} {v4 : Int32} {v5 : Int32} {g_nodes : Int32} {g_edges : Int32} {g_starts : (Nat → Int32)} {g_ends : (Nat → Int32)} {g_lengths : (Nat → Int32)} {g_items : (Nat → Int32)} {g_remaining : (Nat → Int32)} {n_nodes : Int32} {n_links : Int32} {n_tunnels : Int32} {n_messages : Int32} {n_areas : (Nat → Int32)} {n_firsts : (Nat → Int32)} {n_seconds : (Nat → Int32)} {n_privates : (Nat → Int32)} {n_entries : (Nat → Int32)} {n_exits : (Nat → Int32)} {n_truth : (Nat → Int32)} {n_facts : (Nat → Int32)} {n_news : (Nat → Int64)} {res : Int32 × Int32 × (Nat → Int32) × (Nat → Int32) × (Nat → Int32) × (Nat → Int32)} {q1 : (Int32 × Int32 × (Nat → Int32) × (Nat → Int32) × (Nat → Int32) × (Nat → Int32)) ⊕ (Int32 × Int32 × (Nat → Int32) × (Nat → Int32) × (Nat → Int32) × (Nat → Int32))} (hb1 : ∀ b : Int32 × Int32 × (Nat → Int32) × (Nat → Int32) × (Nat → Int32) × (Nat → Int32), q1 = .inl b → ∀ (H : Heap) (locs : List Loc) (ls : Array Slot), zW Z A ((wX2 Z Ag g_nodes b.2.1 b.2.2.1 b.2.2.2.1 b.2.2.2.2.1 b.2.2.2.2.2 g_remaining ++ wX3 Z An n_nodes n_links n_tunnels n_messages n_areas n_firsts n_seconds n_privates n_entries n_exits n_truth n_facts n_news)) s.heap H locs → lv_has ls 9 [(0, .ref (Ag 0)), (1, .ref (An 0)), (2, .ref (An 7)), (3, .int v3), (4, .int v4), (5, .int b.1)] → W p l e rmX2_takeLinks_truth s m args below meth c H locs 0 0 (MQ below (zQv Z ((wX2 Z Ag res.1 res.2.1 res.2.2.1 res.2.2.2.1 res.2.2.2.2.1 res.2.2.2.2.2 g_remaining ++ wX3 Z An n_nodes n_links n_tunnels n_messages n_areas n_firsts n_seconds n_privates n_entries n_exits n_truth n_facts n_news)) A) args s 0 0 A) (F0 m 16 ls [])) (hr1 : ∀ r' , q1 = .inr r' → r' = res) {H : Heap} {locs : List Loc} {ls : Array Slot} (hw : zW Z A ((wX2 Z Ag g_nodes g_edges g_starts g_ends g_lengths g_items g_remaining ++ wX3 Z An n_nodes n_links n_tunnels n_messages n_areas n_firsts n_seconds n_privates n_entries n_exits n_truth n_facts n_news)) s.heap H locs) (hl : lv_has ls 9 [(0, .ref (Ag 0)), (1, .ref (An 0)), (2, .ref (An 7)), (3, .int v3), (4, .int v4), (5, .int v5)]) (h : uX2_takeLinks_truth_134 v5 g_edges g_starts g_ends g_lengths g_items = some q1) : W p l e rmX2_takeLinks_truth s m args below meth c H locs 0 0 (MQ below (zQv Z ((wX2 Z Ag res.1 res.2.1 res.2.2.1 res.2.2.2.1 res.2.2.2.2.1 res.2.2.2.2.2 g_remaining ++ wX3 Z An n_nodes n_links n_tunnels n_messages n_areas n_firsts n_seconds n_privates n_entries n_exits n_truth n_facts n_news)) A) args s 0 0 A) (F0 m 134 ls []) := by
  unfold uX2_takeLinks_truth_134 at h
  obtain ⟨w6, hw6, h⟩ := nm_out h
  refine r_iinc E w6 [(5, .int w6), (0, .ref (Ag 0)), (1, .ref (An 0)), (2, .ref (An 7)), (3, .int v3), (4, .int v4)] hl (k := 5) rfl dX2_takeLinks_134 hw6.symm (by decide) rfl (fun ls hl => ?_)
  refine r_goto E 16 dX2_takeLinks_137 (by decide) ?_
  exact hb1 _ (Option.some.inj h).symm _ _ _ hw (lv_sub hl [1, 2, 3, 4, 5, 0] rfl)
set_option maxRecDepth 100000 in
set_option maxHeartbeats 4000000 in
theorem vX2_takeLinks_truth_68 {Z : zT} {p : Program} {l : Launch} {e : Env} {s : State} {m : MethodId} {args : Array Value} {below : List Frame} {meth : Method} {c : Code} {A : Nat → Prop} (E : zE Z p s m args meth c RX2 cX2_takeLinks 9 none A) {Ag : Nat → Nat} {An : Nat → Nat} {v3 : Int32} {v4 : Int32} {v5 : Int32} {v6 : Int32} {v7 : Int32} {k0 : Int32} {g_nodes : Int32} {g_edges : Int32} {g_starts : (Nat → Int32)} {g_ends : (Nat → Int32)} {g_lengths : (Nat → Int32)} {g_items : (Nat → Int32)} {g_remaining : (Nat → Int32)} {n_nodes : Int32} {n_links : Int32} {n_tunnels : Int32} {n_messages : Int32} {n_areas : (Nat → Int32)} {n_firsts : (Nat → Int32)} {n_seconds : (Nat → Int32)} {n_privates : (Nat → Int32)} {n_entries : (Nat → Int32)} {n_exits : (Nat → Int32)} {n_truth : (Nat → Int32)} {n_facts : (Nat → Int32)} {n_news : (Nat → Int64)} {res : Int32 × Int32 × (Nat → Int32) × (Nat → Int32) × (Nat → Int32) × (Nat → Int32)} {q1 : (Int32 × Int32 × (Nat → Int32) × (Nat → Int32) × (Nat → Int32) × (Nat → Int32)) ⊕ (Int32 × Int32 × (Nat → Int32) × (Nat → Int32) × (Nat → Int32) × (Nat → Int32))} (hb1 : ∀ b : Int32 × Int32 × (Nat → Int32) × (Nat → Int32) × (Nat → Int32) × (Nat → Int32), q1 = .inl b → ∀ (H : Heap) (locs : List Loc) (ls : Array Slot), zW Z A ((wX2 Z Ag g_nodes b.2.1 b.2.2.1 b.2.2.2.1 b.2.2.2.2.1 b.2.2.2.2.2 g_remaining ++ wX3 Z An n_nodes n_links n_tunnels n_messages n_areas n_firsts n_seconds n_privates n_entries n_exits n_truth n_facts n_news)) s.heap H locs → lv_has ls 9 [(0, .ref (Ag 0)), (1, .ref (An 0)), (2, .ref (An 7)), (3, .int v3), (4, .int v4), (5, .int b.1)] → W p l e rmX2_takeLinks_truth s m args below meth c H locs 0 0 (MQ below (zQv Z ((wX2 Z Ag res.1 res.2.1 res.2.2.1 res.2.2.2.1 res.2.2.2.2.1 res.2.2.2.2.2 g_remaining ++ wX3 Z An n_nodes n_links n_tunnels n_messages n_areas n_firsts n_seconds n_privates n_entries n_exits n_truth n_facts n_news)) A) args s 0 0 A) (F0 m 16 ls [])) (hr1 : ∀ r' , q1 = .inr r' → r' = res) {H : Heap} {locs : List Loc} {ls : Array Slot} (hw : zW Z A ((wX2 Z Ag g_nodes g_edges g_starts g_ends g_lengths g_items g_remaining ++ wX3 Z An n_nodes n_links n_tunnels n_messages n_areas n_firsts n_seconds n_privates n_entries n_exits n_truth n_facts n_news)) s.heap H locs) (hl : lv_has ls 9 [(0, .ref (Ag 0)), (1, .ref (An 0)), (2, .ref (An 7)), (3, .int v3), (4, .int v4), (5, .int v5), (6, .int v6), (7, .int v7)]) (h : uX2_takeLinks_truth_68 v5 v6 v7 k0 g_edges g_starts g_ends g_lengths g_items n_firsts n_seconds = some q1) : W p l e rmX2_takeLinks_truth s m args below meth c H locs 0 0 (MQ below (zQv Z ((wX2 Z Ag res.1 res.2.1 res.2.2.1 res.2.2.2.1 res.2.2.2.2.1 res.2.2.2.2.2 g_remaining ++ wX3 Z An n_nodes n_links n_tunnels n_messages n_areas n_firsts n_seconds n_privates n_entries n_exits n_truth n_facts n_news)) A) args s 0 0 A) (F0 m 68 ls [.int k0]) := by
  unfold uX2_takeLinks_truth_68 at h
  refine r_istore E [(8, .int k0), (0, .ref (Ag 0)), (1, .ref (An 0)), (2, .ref (An 7)), (3, .int v3), (4, .int v4), (5, .int v5), (6, .int v6), (7, .int v7)] hl dX2_takeLinks_68 (by decide) rfl (fun ls hl => ?_)
  refine r_iload E hl 0 rfl dX2_takeLinks_70 ?_
  refine r_if_eq E 134 dX2_takeLinks_72 (by decide) (fun hc => ?_) (fun hc => ?_)
  · replace h := ite_t hc h
    exact vX2_takeLinks_truth_134 E hb1 hr1 hw (lv_sub hl [1, 2, 3, 4, 5, 6] rfl) h
  · replace h := ite_f hc h
    refine r_iload E hl 8 rfl dX2_takeLinks_75 ?_
    obtain ⟨y7, hy7, h⟩ := bd_some h
    refine r_callS0i E hw (mX0_state l Z _ v7 hy7) kL_X2_73 kT_X0_state kN_X0 kC_X0_state rfl rfl hdX0_state ⟨Nat.le_of_ble_eq_true rfl, Nat.le_of_ble_eq_true rfl⟩ rfl hl [] rfl (Nat.le_of_ble_eq_true rfl) dX2_takeLinks_77 ⟨Nat.zero_le _, Nat.zero_le _⟩ (fun H locs hw => ?_)
    refine r_iconst E 1 dX2_takeLinks_80 (by decide) ?_
    refine r_icmp_ne E 134 dX2_takeLinks_81 (by decide) (fun hc => ?_) (fun hc => ?_)
    · replace h := ite_f hc h
      exact vX2_takeLinks_truth_134 E hb1 hr1 hw (lv_sub hl [1, 2, 3, 4, 5, 6] rfl) h
    · replace h := ite_t hc h
      refine r_aload_n E hl 1 rfl dX2_takeLinks_84 rfl ?_
      refine r_aload_n E hl 2 rfl dX2_takeLinks_85 rfl ?_
      refine r_get E kW_X3 hw 6 rfl rfl 5 (by decide) kF_X2_78 rfl dX2_takeLinks_86 ?_
      refine r_iload E hl 6 rfl dX2_takeLinks_89 ?_
      obtain ⟨hg8, h⟩ := gd_some h
      refine r_iald E hw 8 rfl hg8 dX2_takeLinks_91 ?_
      refine r_aload_n E hl 2 rfl dX2_takeLinks_92 rfl ?_
      refine r_get E kW_X3 hw 6 rfl rfl 6 (by decide) kF_X2_81 rfl dX2_takeLinks_93 ?_
      refine r_iload E hl 6 rfl dX2_takeLinks_96 ?_
      obtain ⟨hg9, h⟩ := gd_some h
      refine r_iald E hw 9 rfl hg9 dX2_takeLinks_98 ?_
      refine r_iload E hl 7 rfl dX2_takeLinks_99 ?_
      refine r_iload E hl 8 rfl dX2_takeLinks_101 ?_
      obtain ⟨y10, hy10, h⟩ := bd_some h
      refine r_callS0i E hw (mX0_price l Z _ v7 hy10) kL_X2_84 kT_X0_price kN_X0 kC_X0_price rfl rfl hdX0_price ⟨Nat.le_of_ble_eq_true rfl, Nat.le_of_ble_eq_true rfl⟩ rfl hl [.int v6, .int (n_seconds (v5).toNatClampNeg), .int (n_firsts (v5).toNatClampNeg), .ref (Ag 0)] rfl (Nat.le_of_ble_eq_true rfl) dX2_takeLinks_103 ⟨Nat.zero_le _, Nat.zero_le _⟩ (fun H locs hw => ?_)
      obtain ⟨y11, hy11, h⟩ := bd_some h
      refine r_callVQv E ((wX2 Z Ag g_nodes y11.1 y11.2.1 y11.2.2.1 y11.2.2.2.1 y11.2.2.2.2 g_remaining ++ wX3 Z An n_nodes n_links n_tunnels n_messages n_areas n_firsts n_seconds n_privates n_entries n_exits n_truth n_facts n_news)) (wX3 Z An n_nodes n_links n_tunnels n_messages n_areas n_firsts n_seconds n_privates n_entries n_exits n_truth n_facts n_news) hw (mX2_addEdge l Z _ Ag g_nodes g_edges g_starts g_ends g_lengths g_items g_remaining (n_firsts (v5).toNatClampNeg) (n_seconds (v5).toNatClampNeg) v6 y10 hy11) kL_X2_87 kI_X2_addEdge kS_X2_addEdge kN_X2 kC_X2_addEdge rfl rfl hdX2_addEdge ⟨Nat.le_of_ble_eq_true rfl, Nat.le_of_ble_eq_true rfl⟩ (fun f => by simp only [sf_app] <;> omega) (fun f => by simp only [sf_app] <;> omega) 0 rfl rfl rfl rfl hl [] rfl (Nat.le_of_ble_eq_true rfl) dX2_takeLinks_106 ⟨Nat.zero_le _, Nat.zero_le _⟩ (fun H locs hw => ?_)
      refine r_aload_n E hl 1 rfl dX2_takeLinks_109 rfl ?_
      refine r_aload_n E hl 2 rfl dX2_takeLinks_110 rfl ?_
      refine r_get E kW_X3 hw 6 rfl rfl 6 (by decide) kF_X2_81 rfl dX2_takeLinks_111 ?_
      refine r_iload E hl 6 rfl dX2_takeLinks_114 ?_
      obtain ⟨hg12, h⟩ := gd_some h
      refine r_iald E hw 9 rfl hg12 dX2_takeLinks_116 ?_
      refine r_aload_n E hl 2 rfl dX2_takeLinks_117 rfl ?_
      refine r_get E kW_X3 hw 6 rfl rfl 5 (by decide) kF_X2_78 rfl dX2_takeLinks_118 ?_
      refine r_iload E hl 6 rfl dX2_takeLinks_121 ?_
      obtain ⟨hg13, h⟩ := gd_some h
      refine r_iald E hw 8 rfl hg13 dX2_takeLinks_123 ?_
      refine r_iload E hl 7 rfl dX2_takeLinks_124 ?_
      refine r_iload E hl 8 rfl dX2_takeLinks_126 ?_
      obtain ⟨y14, hy14, h⟩ := bd_some h
      refine r_callS0i E hw (mX0_price l Z _ v7 hy14) kL_X2_84 kT_X0_price kN_X0 kC_X0_price rfl rfl hdX0_price ⟨Nat.le_of_ble_eq_true rfl, Nat.le_of_ble_eq_true rfl⟩ rfl hl [.int v6, .int (n_firsts (v5).toNatClampNeg), .int (n_seconds (v5).toNatClampNeg), .ref (Ag 0)] rfl (Nat.le_of_ble_eq_true rfl) dX2_takeLinks_128 ⟨Nat.zero_le _, Nat.zero_le _⟩ (fun H locs hw => ?_)
      obtain ⟨y15, hy15, h⟩ := bd_some h
      refine r_callVQv E ((wX2 Z Ag g_nodes y15.1 y15.2.1 y15.2.2.1 y15.2.2.2.1 y15.2.2.2.2 g_remaining ++ wX3 Z An n_nodes n_links n_tunnels n_messages n_areas n_firsts n_seconds n_privates n_entries n_exits n_truth n_facts n_news)) (wX3 Z An n_nodes n_links n_tunnels n_messages n_areas n_firsts n_seconds n_privates n_entries n_exits n_truth n_facts n_news) hw (mX2_addEdge l Z _ Ag g_nodes y11.1 y11.2.1 y11.2.2.1 y11.2.2.2.1 y11.2.2.2.2 g_remaining (n_seconds (v5).toNatClampNeg) (n_firsts (v5).toNatClampNeg) v6 y14 hy15) kL_X2_87 kI_X2_addEdge kS_X2_addEdge kN_X2 kC_X2_addEdge rfl rfl hdX2_addEdge ⟨Nat.le_of_ble_eq_true rfl, Nat.le_of_ble_eq_true rfl⟩ (fun f => by simp only [sf_app] <;> omega) (fun f => by simp only [sf_app] <;> omega) 0 rfl rfl rfl rfl hl [] rfl (Nat.le_of_ble_eq_true rfl) dX2_takeLinks_131 ⟨Nat.zero_le _, Nat.zero_le _⟩ (fun H locs hw => ?_)
      exact vX2_takeLinks_truth_134 E hb1 hr1 hw (lv_sub hl [1, 2, 3, 4, 5, 6] rfl) h
set_option maxRecDepth 100000 in
set_option maxHeartbeats 4000000 in
theorem vX2_takeLinks_truth_63 {Z : zT} {p : Program} {l : Launch} {e : Env} {s : State} {m : MethodId} {args : Array Value} {below : List Frame} {meth : Method} {c : Code} {A : Nat → Prop} (E : zE Z p s m args meth c RX2 cX2_takeLinks 9 none A) {Ag : Nat → Nat} {An : Nat → Nat} {v3 : Int32} {v4 : Int32} {v5 : Int32} {v6 : Int32} {v7 : Int32} {g_nodes : Int32} {g_edges : Int32} {g_starts : (Nat → Int32)} {g_ends : (Nat → Int32)} {g_lengths : (Nat → Int32)} {g_items : (Nat → Int32)} {g_remaining : (Nat → Int32)} {n_nodes : Int32} {n_links : Int32} {n_tunnels : Int32} {n_messages : Int32} {n_areas : (Nat → Int32)} {n_firsts : (Nat → Int32)} {n_seconds : (Nat → Int32)} {n_privates : (Nat → Int32)} {n_entries : (Nat → Int32)} {n_exits : (Nat → Int32)} {n_truth : (Nat → Int32)} {n_facts : (Nat → Int32)} {n_news : (Nat → Int64)} {res : Int32 × Int32 × (Nat → Int32) × (Nat → Int32) × (Nat → Int32) × (Nat → Int32)} {q1 : (Int32 × Int32 × (Nat → Int32) × (Nat → Int32) × (Nat → Int32) × (Nat → Int32)) ⊕ (Int32 × Int32 × (Nat → Int32) × (Nat → Int32) × (Nat → Int32) × (Nat → Int32))} (hb1 : ∀ b : Int32 × Int32 × (Nat → Int32) × (Nat → Int32) × (Nat → Int32) × (Nat → Int32), q1 = .inl b → ∀ (H : Heap) (locs : List Loc) (ls : Array Slot), zW Z A ((wX2 Z Ag g_nodes b.2.1 b.2.2.1 b.2.2.2.1 b.2.2.2.2.1 b.2.2.2.2.2 g_remaining ++ wX3 Z An n_nodes n_links n_tunnels n_messages n_areas n_firsts n_seconds n_privates n_entries n_exits n_truth n_facts n_news)) s.heap H locs → lv_has ls 9 [(0, .ref (Ag 0)), (1, .ref (An 0)), (2, .ref (An 7)), (3, .int v3), (4, .int v4), (5, .int b.1)] → W p l e rmX2_takeLinks_truth s m args below meth c H locs 0 0 (MQ below (zQv Z ((wX2 Z Ag res.1 res.2.1 res.2.2.1 res.2.2.2.1 res.2.2.2.2.1 res.2.2.2.2.2 g_remaining ++ wX3 Z An n_nodes n_links n_tunnels n_messages n_areas n_firsts n_seconds n_privates n_entries n_exits n_truth n_facts n_news)) A) args s 0 0 A) (F0 m 16 ls [])) (hr1 : ∀ r' , q1 = .inr r' → r' = res) {H : Heap} {locs : List Loc} {ls : Array Slot} (hw : zW Z A ((wX2 Z Ag g_nodes g_edges g_starts g_ends g_lengths g_items g_remaining ++ wX3 Z An n_nodes n_links n_tunnels n_messages n_areas n_firsts n_seconds n_privates n_entries n_exits n_truth n_facts n_news)) s.heap H locs) (hl : lv_has ls 9 [(0, .ref (Ag 0)), (1, .ref (An 0)), (2, .ref (An 7)), (3, .int v3), (4, .int v4), (5, .int v5), (6, .int v6), (7, .int v7)]) (h : uX2_takeLinks_truth_63 v5 v6 v7 g_edges g_starts g_ends g_lengths g_items n_firsts n_seconds = some q1) : W p l e rmX2_takeLinks_truth s m args below meth c H locs 0 0 (MQ below (zQv Z ((wX2 Z Ag res.1 res.2.1 res.2.2.1 res.2.2.2.1 res.2.2.2.2.1 res.2.2.2.2.2 g_remaining ++ wX3 Z An n_nodes n_links n_tunnels n_messages n_areas n_firsts n_seconds n_privates n_entries n_exits n_truth n_facts n_news)) A) args s 0 0 A) (F0 m 63 ls []) := by
  unfold uX2_takeLinks_truth_63 at h
  refine r_iconst E 1 dX2_takeLinks_63 (by decide) ?_
  refine r_goto E 68 dX2_takeLinks_64 (by decide) ?_
  exact vX2_takeLinks_truth_68 E hb1 hr1 hw hl h
set_option maxRecDepth 100000 in
set_option maxHeartbeats 4000000 in
theorem tX2_takeLinks_truth_16 {Z : zT} {p : Program} {l : Launch} {e : Env} {s : State} {m : MethodId} {args : Array Value} {below : List Frame} {meth : Method} {c : Code} {A : Nat → Prop} (E : zE Z p s m args meth c RX2 cX2_takeLinks 9 none A) {Ag : Nat → Nat} {An : Nat → Nat} {v3 : Int32} {v4 : Int32} {g_nodes : Int32} {g_remaining : (Nat → Int32)} {n_nodes : Int32} {n_links : Int32} {n_tunnels : Int32} {n_messages : Int32} {n_areas : (Nat → Int32)} {n_firsts : (Nat → Int32)} {n_seconds : (Nat → Int32)} {n_privates : (Nat → Int32)} {n_entries : (Nat → Int32)} {n_exits : (Nat → Int32)} {n_truth : (Nat → Int32)} {n_facts : (Nat → Int32)} {n_news : (Nat → Int64)} {res : Int32 × Int32 × (Nat → Int32) × (Nat → Int32) × (Nat → Int32) × (Nat → Int32)}  : ∀ (n : Nat) (v5 : Int32) (g_edges : Int32) (g_starts : (Nat → Int32)) (g_ends : (Nat → Int32)) (g_lengths : (Nat → Int32)) (g_items : (Nat → Int32)) (H : Heap) (locs : List Loc) (ls : Array Slot), iter (fun b : Int32 × Int32 × (Nat → Int32) × (Nat → Int32) × (Nat → Int32) × (Nat → Int32) => sX2_takeLinks_truth_16 v3 v4 g_nodes n_links n_areas n_firsts n_seconds n_privates n_truth b.1 b.2.1 b.2.2.1 b.2.2.2.1 b.2.2.2.2.1 b.2.2.2.2.2) n (v5, g_edges, g_starts, g_ends, g_lengths, g_items) = some res → zW Z A ((wX2 Z Ag g_nodes g_edges g_starts g_ends g_lengths g_items g_remaining ++ wX3 Z An n_nodes n_links n_tunnels n_messages n_areas n_firsts n_seconds n_privates n_entries n_exits n_truth n_facts n_news)) s.heap H locs → lv_has ls 9 [(0, .ref (Ag 0)), (1, .ref (An 0)), (2, .ref (An 7)), (3, .int v3), (4, .int v4), (5, .int v5)] → W p l e rmX2_takeLinks_truth s m args below meth c H locs 0 0 (MQ below (zQv Z ((wX2 Z Ag res.1 res.2.1 res.2.2.1 res.2.2.2.1 res.2.2.2.2.1 res.2.2.2.2.2 g_remaining ++ wX3 Z An n_nodes n_links n_tunnels n_messages n_areas n_firsts n_seconds n_privates n_entries n_exits n_truth n_facts n_news)) A) args s 0 0 A) (F0 m 16 ls []) := by
  intro n
  induction n with
  | zero => intro v5 g_edges g_starts g_ends g_lengths g_items H locs ls h; cases h
  | succ n ih =>
    intro v5 g_edges g_starts g_ends g_lengths g_items H locs ls h hw hl
    obtain ⟨q1, h, hn1, hr1⟩ := iter_out h
    have hb1 : ∀ b : Int32 × Int32 × (Nat → Int32) × (Nat → Int32) × (Nat → Int32) × (Nat → Int32), q1 = .inl b → ∀ (H : Heap) (locs : List Loc) (ls : Array Slot), zW Z A ((wX2 Z Ag g_nodes b.2.1 b.2.2.1 b.2.2.2.1 b.2.2.2.2.1 b.2.2.2.2.2 g_remaining ++ wX3 Z An n_nodes n_links n_tunnels n_messages n_areas n_firsts n_seconds n_privates n_entries n_exits n_truth n_facts n_news)) s.heap H locs → lv_has ls 9 [(0, .ref (Ag 0)), (1, .ref (An 0)), (2, .ref (An 7)), (3, .int v3), (4, .int v4), (5, .int b.1)] → W p l e rmX2_takeLinks_truth s m args below meth c H locs 0 0 (MQ below (zQv Z ((wX2 Z Ag res.1 res.2.1 res.2.2.1 res.2.2.2.1 res.2.2.2.2.1 res.2.2.2.2.2 g_remaining ++ wX3 Z An n_nodes n_links n_tunnels n_messages n_areas n_firsts n_seconds n_privates n_entries n_exits n_truth n_facts n_news)) A) args s 0 0 A) (F0 m 16 ls []) := fun b eb H locs ls hw hl => ih b.1 b.2.1 b.2.2.1 b.2.2.2.1 b.2.2.2.2.1 b.2.2.2.2.2 H locs ls (hn1 b eb) hw hl
    replace h : sX2_takeLinks_truth_16 v3 v4 g_nodes n_links n_areas n_firsts n_seconds n_privates n_truth v5 g_edges g_starts g_ends g_lengths g_items = some q1 := h
    unfold sX2_takeLinks_truth_16 at h
    refine r_iload E hl 5 rfl dX2_takeLinks_16 ?_
    refine r_aload_n E hl 1 rfl dX2_takeLinks_18 rfl ?_
    refine r_get E kW_X3 hw 6 rfl rfl 1 (by decide) kF_X2_58 rfl dX2_takeLinks_19 ?_
    refine r_icmp_ge E 140 dX2_takeLinks_22 (by decide) (fun hc => ?_) (fun hc => ?_)
    · replace h := ite_t hc h
      obtain ⟨ro1, h, hro1⟩ := oi_some h
      rw [hr1 _ hro1] at h
      obtain rfl := Option.some.inj h
      exact r_vret E hw dX2_takeLinks_140
    · replace h := ite_f hc h
      refine r_bipush E 16 dX2_takeLinks_25 (by decide) ?_
      refine r_iload E hl 5 rfl dX2_takeLinks_27 ?_
      refine r_iadd E dX2_takeLinks_29 ?_
      obtain ⟨w2, hw2, h⟩ := nm_out h
      refine r_nm hw2 ?_
      refine r_istore E [(6, .int w2), (0, .ref (Ag 0)), (1, .ref (An 0)), (2, .ref (An 7)), (3, .int v3), (4, .int v4), (5, .int v5)] hl dX2_takeLinks_30 (by decide) rfl (fun ls hl => ?_)
      refine r_aload_n E hl 3 rfl dX2_takeLinks_32 rfl ?_
      refine r_iload_n E hl 4 rfl dX2_takeLinks_33 rfl ?_
      refine r_iload E hl 0 rfl dX2_takeLinks_34 ?_
      refine r_iadd E dX2_takeLinks_36 ?_
      obtain ⟨hg3, h⟩ := gd_some h
      refine r_iald E hw 13 rfl hg3 dX2_takeLinks_37 ?_
      obtain ⟨w4, hw4, h⟩ := nm_out h
      refine r_nm hw4 ?_
      refine r_istore E [(7, .int w4), (6, .int w2), (0, .ref (Ag 0)), (1, .ref (An 0)), (2, .ref (An 7)), (3, .int v3), (4, .int v4), (5, .int v5)] hl dX2_takeLinks_38 (by decide) rfl (fun ls hl => ?_)
      refine r_aload_n E hl 3 rfl dX2_takeLinks_40 rfl ?_
      refine r_iload E hl 1 rfl dX2_takeLinks_41 ?_
      obtain ⟨y5, hy5, h⟩ := bd_some h
      refine r_callVQi E ((wX2 Z Ag g_nodes g_edges g_starts g_ends g_lengths g_items g_remaining ++ wX3 Z An n_nodes n_links n_tunnels n_messages n_areas n_firsts n_seconds n_privates n_entries n_exits n_truth n_facts n_news)) (wX2 Z Ag g_nodes g_edges g_starts g_ends g_lengths g_items g_remaining) hw (mX3_isPrivateLink l Z _ An n_nodes n_links n_tunnels n_messages n_areas n_firsts n_seconds n_privates n_entries n_exits n_truth n_facts n_news w2 hy5) kL_X2_61 kI_X3_isPrivateLink kS_X3_isPrivateLink kN_X3 kC_X3_isPrivateLink rfl rfl hdX3_isPrivateLink ⟨Nat.le_of_ble_eq_true rfl, Nat.le_of_ble_eq_true rfl⟩ (fun f => by simp only [sf_app] <;> omega) (fun f => by simp only [sf_app] <;> omega) 6 rfl rfl rfl rfl hl [] rfl (Nat.le_of_ble_eq_true rfl) dX2_takeLinks_43 ⟨Nat.zero_le _, Nat.zero_le _⟩ (fun H locs hw => ?_)
      refine r_if_eq E 63 dX2_takeLinks_46 (by decide) (fun hc => ?_) (fun hc => ?_)
      · replace h := ite_t hc h
        exact vX2_takeLinks_truth_63 E hb1 hr1 hw (lv_sub hl [2, 3, 4, 5, 6, 7, 1, 0] rfl) h
      · replace h := ite_f hc h
        refine r_iload E hl 6 rfl dX2_takeLinks_49 ?_
        refine r_aload_n E hl 3 rfl dX2_takeLinks_51 rfl ?_
        refine r_iload E hl 7 rfl dX2_takeLinks_52 ?_
        obtain ⟨y16, hy16, h⟩ := bd_some h
        refine r_callVQi E ((wX2 Z Ag g_nodes g_edges g_starts g_ends g_lengths g_items g_remaining ++ wX3 Z An n_nodes n_links n_tunnels n_messages n_areas n_firsts n_seconds n_privates n_entries n_exits n_truth n_facts n_news)) (wX2 Z Ag g_nodes g_edges g_starts g_ends g_lengths g_items g_remaining) hw (mX3_owner l Z _ An n_nodes n_links n_tunnels n_messages n_areas n_firsts n_seconds n_privates n_entries n_exits n_truth n_facts n_news v5 hy16) kL_X2_65 kI_X3_owner kS_X3_owner kN_X3 kC_X3_owner rfl rfl hdX3_owner ⟨Nat.le_of_ble_eq_true rfl, Nat.le_of_ble_eq_true rfl⟩ (fun f => by simp only [sf_app] <;> omega) (fun f => by simp only [sf_app] <;> omega) 6 rfl rfl rfl rfl hl [.int v4] rfl (Nat.le_of_ble_eq_true rfl) dX2_takeLinks_54 ⟨Nat.zero_le _, Nat.zero_le _⟩ (fun H locs hw => ?_)
        obtain ⟨y17, hy17, h⟩ := bd_some h
        refine r_callS0i E hw (mX3_has l Z _ v4 y16 hy17) kL_X2_69 kT_X3_has kN_X3 kC_X3_has rfl rfl hdX3_has ⟨Nat.le_of_ble_eq_true rfl, Nat.le_of_ble_eq_true rfl⟩ rfl hl [] rfl (Nat.le_of_ble_eq_true rfl) dX2_takeLinks_57 ⟨Nat.zero_le _, Nat.zero_le _⟩ (fun H locs hw => ?_)
        refine r_if_eq E 67 dX2_takeLinks_60 (by decide) (fun hc => ?_) (fun hc => ?_)
        · replace h := ite_t hc h
          refine r_iconst E 0 dX2_takeLinks_67 (by decide) ?_
          exact vX2_takeLinks_truth_68 E hb1 hr1 hw (lv_sub hl [2, 3, 4, 5, 6, 7, 1, 0] rfl) h
        · replace h := ite_f hc h
          exact vX2_takeLinks_truth_63 E hb1 hr1 hw (lv_sub hl [2, 3, 4, 5, 6, 7, 1, 0] rfl) h
set_option maxRecDepth 100000 in
set_option maxHeartbeats 4000000 in
theorem mX2_takeLinks_truth (l : Launch) (Z : zT) (sz : Nat) (Ag : Nat → Nat) (An : Nat → Nat) (g_nodes : Int32) (g_edges : Int32) (g_starts : (Nat → Int32)) (g_ends : (Nat → Int32)) (g_lengths : (Nat → Int32)) (g_items : (Nat → Int32)) (g_remaining : (Nat → Int32)) (n_nodes : Int32) (n_links : Int32) (n_tunnels : Int32) (n_messages : Int32) (n_areas : (Nat → Int32)) (n_firsts : (Nat → Int32)) (n_seconds : (Nat → Int32)) (n_privates : (Nat → Int32)) (n_entries : (Nat → Int32)) (n_exits : (Nat → Int32)) (n_truth : (Nat → Int32)) (n_facts : (Nat → Int32)) (n_news : (Nat → Int64)) (v3 : Int32) (v4 : Int32) {res : Int32 × Int32 × (Nat → Int32) × (Nat → Int32) × (Nat → Int32) × (Nat → Int32)} (h : fX2_takeLinks_truth v3 v4 g_starts g_ends g_lengths g_items n_nodes n_links n_areas n_firsts n_seconds n_privates n_truth = some res) : Met l yX2_takeLinks (Cond.code yX2_takeLinks cX2_takeLinks 9 none :: zWs) rmX2_takeLinks_truth (zP Z ((wX2 Z Ag g_nodes g_edges g_starts g_ends g_lengths g_items g_remaining ++ wX3 Z An n_nodes n_links n_tunnels n_messages n_areas n_firsts n_seconds n_privates n_entries n_exits n_truth n_facts n_news)) sz [.ref (Ag 0), .ref (An 0), .ref (An 7), .int v3, .int v4]) (zQv Z ((wX2 Z Ag res.1 res.2.1 res.2.2.1 res.2.2.2.1 res.2.2.2.2.1 res.2.2.2.2.2 g_remaining ++ wX3 Z An n_nodes n_links n_tunnels n_messages n_areas n_firsts n_seconds n_privates n_entries n_exits n_truth n_facts n_news)) (va_A ((wX2 Z Ag g_nodes g_edges g_starts g_ends g_lengths g_items g_remaining ++ wX3 Z An n_nodes n_links n_tunnels n_messages n_areas n_firsts n_seconds n_privates n_entries n_exits n_truth n_facts n_news)) sz)) 0 0 (va_A ((wX2 Z Ag g_nodes g_edges g_starts g_ends g_lengths g_items g_remaining ++ wX3 Z An n_nodes n_links n_tunnels n_messages n_areas n_firsts n_seconds n_privates n_entries n_exits n_truth n_facts n_news)) sz) := by
  refine zMet (own := RX2) (fun A => zQv Z ((wX2 Z Ag res.1 res.2.1 res.2.2.1 res.2.2.2.1 res.2.2.2.2.1 res.2.2.2.2.2 g_remaining ++ wX3 Z An n_nodes n_links n_tunnels n_messages n_areas n_firsts n_seconds n_privates n_entries n_exits n_truth n_facts n_news)) A) (by decide) rfl (Nat.le_of_ble_eq_true rfl) ?_
  intro p e s m args below meth c ls A E hw hl
  unfold fX2_takeLinks_truth at h
  refine r_aload_n E hl 0 rfl dX2_takeLinks_0 rfl ?_
  refine r_aload_n E hl 1 rfl dX2_takeLinks_1 rfl ?_
  refine r_get E kW_X3 hw 6 rfl rfl 0 (by decide) kF_X2_57 rfl dX2_takeLinks_2 ?_
  refine r_put E ((wX2 Z Ag n_nodes g_edges g_starts g_ends g_lengths g_items g_remaining ++ wX3 Z An n_nodes n_links n_tunnels n_messages n_areas n_firsts n_seconds n_privates n_entries n_exits n_truth n_facts n_news)) kW_X2 tyX2_ok nmX2 hw 0 rfl rfl 0 (by decide) kF_X2_9 rfl rfl rfl (Nat.le_of_ble_eq_true rfl) rfl dX2_takeLinks_5 (fun H locs hw => ?_)
  refine r_aload_n E hl 0 rfl dX2_takeLinks_8 rfl ?_
  refine r_iconst E 0 dX2_takeLinks_9 (by decide) ?_
  refine r_put E ((wX2 Z Ag n_nodes (0 : Int32) g_starts g_ends g_lengths g_items g_remaining ++ wX3 Z An n_nodes n_links n_tunnels n_messages n_areas n_firsts n_seconds n_privates n_entries n_exits n_truth n_facts n_news)) kW_X2 tyX2_ok nmX2 hw 0 rfl rfl 1 (by decide) kF_X2_15 rfl rfl rfl (Nat.le_of_ble_eq_true rfl) rfl dX2_takeLinks_10 (fun H locs hw => ?_)
  refine r_iconst E 0 dX2_takeLinks_13 (by decide) ?_
  refine r_istore E [(5, .int (0 : Int32)), (0, .ref (Ag 0)), (1, .ref (An 0)), (2, .ref (An 7)), (3, .int v3), (4, .int v4)] hl dX2_takeLinks_14 (by decide) rfl (fun ls hl => ?_)
  obtain ⟨n18, h⟩ := wh_some h
  exact tX2_takeLinks_truth_16 E  n18 _ _ _ _ _ _ _ _ _ h hw (lv_sub hl [1, 2, 3, 4, 5, 0] rfl)
abbrev rmX2_takeTunnels : Room := { frames := 1, cells := 0, slots := 0, locals := 24 }

set_option maxRecDepth 100000 in
set_option maxHeartbeats 4000000 in
theorem vX2_takeTunnels_59 {Z : zT} {p : Program} {l : Launch} {e : Env} {s : State} {m : MethodId} {args : Array Value} {below : List Frame} {meth : Method} {c : Code} {A : Nat → Prop} (E : zE Z p s m args meth c RX2 cX2_takeTunnels 6 none A) {Ag : Nat → Nat} {An : Nat → Nat} {v2 : Int32} {v3 : Int32} {g_nodes : Int32} {g_edges : Int32} {g_starts : (Nat → Int32)} {g_ends : (Nat → Int32)} {g_lengths : (Nat → Int32)} {g_items : (Nat → Int32)} {g_remaining : (Nat → Int32)} {n_nodes : Int32} {n_links : Int32} {n_tunnels : Int32} {n_messages : Int32} {n_areas : (Nat → Int32)} {n_firsts : (Nat → Int32)} {n_seconds : (Nat → Int32)} {n_privates : (Nat → Int32)} {n_entries : (Nat → Int32)} {n_exits : (Nat → Int32)} {n_truth : (Nat → Int32)} {n_facts : (Nat → Int32)} {n_news : (Nat → Int64)} {res : Int32 × (Nat → Int32) × (Nat → Int32) × (Nat → Int32) × (Nat → Int32)} {q1 : (Int32 × Int32 × (Nat → Int32) × (Nat → Int32) × (Nat → Int32) × (Nat → Int32)) ⊕ (Int32 × (Nat → Int32) × (Nat → Int32) × (Nat → Int32) × (Nat → Int32))} (hb1 : ∀ b : Int32 × Int32 × (Nat → Int32) × (Nat → Int32) × (Nat → Int32) × (Nat → Int32), q1 = .inl b → ∀ (H : Heap) (locs : List Loc) (ls : Array Slot), zW Z A ((wX2 Z Ag g_nodes b.2.1 b.2.2.1 b.2.2.2.1 b.2.2.2.2.1 b.2.2.2.2.2 g_remaining ++ wX3 Z An n_nodes n_links n_tunnels n_messages n_areas n_firsts n_seconds n_privates n_entries n_exits n_truth n_facts n_news)) s.heap H locs → lv_has ls 6 [(0, .ref (Ag 0)), (1, .ref (An 0)), (2, .int v2), (3, .int b.1)] → W p l e rmX2_takeTunnels s m args below meth c H locs 0 0 (MQ below (zQv Z ((wX2 Z Ag g_nodes res.1 res.2.1 res.2.2.1 res.2.2.2.1 res.2.2.2.2 g_remaining ++ wX3 Z An n_nodes n_links n_tunnels n_messages n_areas n_firsts n_seconds n_privates n_entries n_exits n_truth n_facts n_news)) A) args s 0 0 A) (F0 m 2 ls [])) (hr1 : ∀ r' , q1 = .inr r' → r' = res) {H : Heap} {locs : List Loc} {ls : Array Slot} (hw : zW Z A ((wX2 Z Ag g_nodes g_edges g_starts g_ends g_lengths g_items g_remaining ++ wX3 Z An n_nodes n_links n_tunnels n_messages n_areas n_firsts n_seconds n_privates n_entries n_exits n_truth n_facts n_news)) s.heap H locs) (hl : lv_has ls 6 [(0, .ref (Ag 0)), (1, .ref (An 0)), (2, .int v2), (3, .int v3)]) (h : uX2_takeTunnels_59 v3 g_edges g_starts g_ends g_lengths g_items = some q1) : W p l e rmX2_takeTunnels s m args below meth c H locs 0 0 (MQ below (zQv Z ((wX2 Z Ag g_nodes res.1 res.2.1 res.2.2.1 res.2.2.2.1 res.2.2.2.2 g_remaining ++ wX3 Z An n_nodes n_links n_tunnels n_messages n_areas n_firsts n_seconds n_privates n_entries n_exits n_truth n_facts n_news)) A) args s 0 0 A) (F0 m 59 ls []) := by
  unfold uX2_takeTunnels_59 at h
  obtain ⟨w6, hw6, h⟩ := nm_out h
  refine r_iinc E w6 [(3, .int w6), (0, .ref (Ag 0)), (1, .ref (An 0)), (2, .int v2)] hl (k := 3) rfl dX2_takeTunnels_59 hw6.symm (by decide) rfl (fun ls hl => ?_)
  refine r_goto E 2 dX2_takeTunnels_62 (by decide) ?_
  exact hb1 _ (Option.some.inj h).symm _ _ _ hw (lv_sub hl [1, 2, 3, 0] rfl)
set_option maxRecDepth 100000 in
set_option maxHeartbeats 4000000 in
theorem tX2_takeTunnels_2 {Z : zT} {p : Program} {l : Launch} {e : Env} {s : State} {m : MethodId} {args : Array Value} {below : List Frame} {meth : Method} {c : Code} {A : Nat → Prop} (E : zE Z p s m args meth c RX2 cX2_takeTunnels 6 none A) {Ag : Nat → Nat} {An : Nat → Nat} {v2 : Int32} {g_nodes : Int32} {g_remaining : (Nat → Int32)} {n_nodes : Int32} {n_links : Int32} {n_tunnels : Int32} {n_messages : Int32} {n_areas : (Nat → Int32)} {n_firsts : (Nat → Int32)} {n_seconds : (Nat → Int32)} {n_privates : (Nat → Int32)} {n_entries : (Nat → Int32)} {n_exits : (Nat → Int32)} {n_truth : (Nat → Int32)} {n_facts : (Nat → Int32)} {n_news : (Nat → Int64)} {res : Int32 × (Nat → Int32) × (Nat → Int32) × (Nat → Int32) × (Nat → Int32)}  : ∀ (n : Nat) (v3 : Int32) (g_edges : Int32) (g_starts : (Nat → Int32)) (g_ends : (Nat → Int32)) (g_lengths : (Nat → Int32)) (g_items : (Nat → Int32)) (H : Heap) (locs : List Loc) (ls : Array Slot), iter (fun b : Int32 × Int32 × (Nat → Int32) × (Nat → Int32) × (Nat → Int32) × (Nat → Int32) => sX2_takeTunnels_2 v2 n_tunnels n_entries n_exits n_facts b.1 b.2.1 b.2.2.1 b.2.2.2.1 b.2.2.2.2.1 b.2.2.2.2.2) n (v3, g_edges, g_starts, g_ends, g_lengths, g_items) = some res → zW Z A ((wX2 Z Ag g_nodes g_edges g_starts g_ends g_lengths g_items g_remaining ++ wX3 Z An n_nodes n_links n_tunnels n_messages n_areas n_firsts n_seconds n_privates n_entries n_exits n_truth n_facts n_news)) s.heap H locs → lv_has ls 6 [(0, .ref (Ag 0)), (1, .ref (An 0)), (2, .int v2), (3, .int v3)] → W p l e rmX2_takeTunnels s m args below meth c H locs 0 0 (MQ below (zQv Z ((wX2 Z Ag g_nodes res.1 res.2.1 res.2.2.1 res.2.2.2.1 res.2.2.2.2 g_remaining ++ wX3 Z An n_nodes n_links n_tunnels n_messages n_areas n_firsts n_seconds n_privates n_entries n_exits n_truth n_facts n_news)) A) args s 0 0 A) (F0 m 2 ls []) := by
  intro n
  induction n with
  | zero => intro v3 g_edges g_starts g_ends g_lengths g_items H locs ls h; cases h
  | succ n ih =>
    intro v3 g_edges g_starts g_ends g_lengths g_items H locs ls h hw hl
    obtain ⟨q1, h, hn1, hr1⟩ := iter_out h
    have hb1 : ∀ b : Int32 × Int32 × (Nat → Int32) × (Nat → Int32) × (Nat → Int32) × (Nat → Int32), q1 = .inl b → ∀ (H : Heap) (locs : List Loc) (ls : Array Slot), zW Z A ((wX2 Z Ag g_nodes b.2.1 b.2.2.1 b.2.2.2.1 b.2.2.2.2.1 b.2.2.2.2.2 g_remaining ++ wX3 Z An n_nodes n_links n_tunnels n_messages n_areas n_firsts n_seconds n_privates n_entries n_exits n_truth n_facts n_news)) s.heap H locs → lv_has ls 6 [(0, .ref (Ag 0)), (1, .ref (An 0)), (2, .int v2), (3, .int b.1)] → W p l e rmX2_takeTunnels s m args below meth c H locs 0 0 (MQ below (zQv Z ((wX2 Z Ag g_nodes res.1 res.2.1 res.2.2.1 res.2.2.2.1 res.2.2.2.2 g_remaining ++ wX3 Z An n_nodes n_links n_tunnels n_messages n_areas n_firsts n_seconds n_privates n_entries n_exits n_truth n_facts n_news)) A) args s 0 0 A) (F0 m 2 ls []) := fun b eb H locs ls hw hl => ih b.1 b.2.1 b.2.2.1 b.2.2.2.1 b.2.2.2.2.1 b.2.2.2.2.2 H locs ls (hn1 b eb) hw hl
    replace h : sX2_takeTunnels_2 v2 n_tunnels n_entries n_exits n_facts v3 g_edges g_starts g_ends g_lengths g_items = some q1 := h
    unfold sX2_takeTunnels_2 at h
    refine r_iload_n E hl 3 rfl dX2_takeTunnels_2 rfl ?_
    refine r_aload_n E hl 1 rfl dX2_takeTunnels_3 rfl ?_
    refine r_get E kW_X3 hw 6 rfl rfl 2 (by decide) kF_X2_91 rfl dX2_takeTunnels_4 ?_
    refine r_icmp_ge E 65 dX2_takeTunnels_7 (by decide) (fun hc => ?_) (fun hc => ?_)
    · replace h := ite_t hc h
      obtain ⟨ro1, h, hro1⟩ := oi_some h
      rw [hr1 _ hro1] at h
      obtain rfl := Option.some.inj h
      exact r_vret E hw dX2_takeTunnels_65
    · replace h := ite_f hc h
      refine r_bipush E 32 dX2_takeTunnels_10 (by decide) ?_
      refine r_iload_n E hl 3 rfl dX2_takeTunnels_12 rfl ?_
      refine r_iadd E dX2_takeTunnels_13 ?_
      obtain ⟨w2, hw2, h⟩ := nm_out h
      refine r_nm hw2 ?_
      refine r_istore E [(4, .int w2), (0, .ref (Ag 0)), (1, .ref (An 0)), (2, .int v2), (3, .int v3)] hl dX2_takeTunnels_14 (by decide) rfl (fun ls hl => ?_)
      refine r_aload_n E hl 2 rfl dX2_takeTunnels_16 rfl ?_
      refine r_get E kW_X3 hw 6 rfl rfl 11 (by decide) kF_X2_38 rfl dX2_takeTunnels_17 ?_
      refine r_iload_n E hl 3 rfl dX2_takeTunnels_20 rfl ?_
      refine r_iload E hl 0 rfl dX2_takeTunnels_21 ?_
      refine r_iadd E dX2_takeTunnels_23 ?_
      obtain ⟨hg3, h⟩ := gd_some h
      refine r_iald E hw 14 rfl hg3 dX2_takeTunnels_24 ?_
      obtain ⟨w4, hw4, h⟩ := nm_out h
      refine r_nm hw4 ?_
      refine r_istore E [(5, .int w4), (4, .int w2), (0, .ref (Ag 0)), (1, .ref (An 0)), (2, .int v2), (3, .int v3)] hl dX2_takeTunnels_25 (by decide) rfl (fun ls hl => ?_)
      refine r_iload E hl 0 rfl dX2_takeTunnels_27 ?_
      obtain ⟨y5, hy5, h⟩ := bd_some h
      refine r_callS0i E hw (mX0_state l Z _ w4 hy5) kL_X2_73 kT_X0_state kN_X0 kC_X0_state rfl rfl hdX0_state ⟨Nat.le_of_ble_eq_true rfl, Nat.le_of_ble_eq_true rfl⟩ rfl hl [] rfl (Nat.le_of_ble_eq_true rfl) dX2_takeTunnels_29 ⟨Nat.zero_le _, Nat.zero_le _⟩ (fun H locs hw => ?_)
      refine r_iconst E 1 dX2_takeTunnels_32 (by decide) ?_
      refine r_icmp_ne E 59 dX2_takeTunnels_33 (by decide) (fun hc => ?_) (fun hc => ?_)
      · replace h := ite_f hc h
        exact vX2_takeTunnels_59 E hb1 hr1 hw (lv_sub hl [2, 3, 4, 5] rfl) h
      · replace h := ite_t hc h
        refine r_aload_n E hl 2 rfl dX2_takeTunnels_36 rfl ?_
        refine r_aload_n E hl 3 rfl dX2_takeTunnels_37 rfl ?_
        refine r_get E kW_X3 hw 6 rfl rfl 8 (by decide) kF_X2_94 rfl dX2_takeTunnels_38 ?_
        refine r_iload_n E hl 5 rfl dX2_takeTunnels_41 rfl ?_
        obtain ⟨hg7, h⟩ := gd_some h
        refine r_iald E hw 11 rfl hg7 dX2_takeTunnels_42 ?_
        refine r_aload_n E hl 3 rfl dX2_takeTunnels_43 rfl ?_
        refine r_get E kW_X3 hw 6 rfl rfl 9 (by decide) kF_X2_97 rfl dX2_takeTunnels_44 ?_
        refine r_iload_n E hl 5 rfl dX2_takeTunnels_47 rfl ?_
        obtain ⟨hg8, h⟩ := gd_some h
        refine r_iald E hw 12 rfl hg8 dX2_takeTunnels_48 ?_
        refine r_iload E hl 1 rfl dX2_takeTunnels_49 ?_
        refine r_iload E hl 0 rfl dX2_takeTunnels_51 ?_
        obtain ⟨y9, hy9, h⟩ := bd_some h
        refine r_callS0i E hw (mX0_price l Z _ w4 hy9) kL_X2_84 kT_X0_price kN_X0 kC_X0_price rfl rfl hdX0_price ⟨Nat.le_of_ble_eq_true rfl, Nat.le_of_ble_eq_true rfl⟩ rfl hl [.int w2, .int (n_exits (v3).toNatClampNeg), .int (n_entries (v3).toNatClampNeg), .ref (Ag 0)] rfl (Nat.le_of_ble_eq_true rfl) dX2_takeTunnels_53 ⟨Nat.zero_le _, Nat.zero_le _⟩ (fun H locs hw => ?_)
        obtain ⟨y10, hy10, h⟩ := bd_some h
        refine r_callVQv E ((wX2 Z Ag g_nodes y10.1 y10.2.1 y10.2.2.1 y10.2.2.2.1 y10.2.2.2.2 g_remaining ++ wX3 Z An n_nodes n_links n_tunnels n_messages n_areas n_firsts n_seconds n_privates n_entries n_exits n_truth n_facts n_news)) (wX3 Z An n_nodes n_links n_tunnels n_messages n_areas n_firsts n_seconds n_privates n_entries n_exits n_truth n_facts n_news) hw (mX2_addEdge l Z _ Ag g_nodes g_edges g_starts g_ends g_lengths g_items g_remaining (n_entries (v3).toNatClampNeg) (n_exits (v3).toNatClampNeg) w2 y9 hy10) kL_X2_87 kI_X2_addEdge kS_X2_addEdge kN_X2 kC_X2_addEdge rfl rfl hdX2_addEdge ⟨Nat.le_of_ble_eq_true rfl, Nat.le_of_ble_eq_true rfl⟩ (fun f => by simp only [sf_app] <;> omega) (fun f => by simp only [sf_app] <;> omega) 0 rfl rfl rfl rfl hl [] rfl (Nat.le_of_ble_eq_true rfl) dX2_takeTunnels_56 ⟨Nat.zero_le _, Nat.zero_le _⟩ (fun H locs hw => ?_)
        exact vX2_takeTunnels_59 E hb1 hr1 hw (lv_sub hl [2, 3, 4, 5] rfl) h
set_option maxRecDepth 100000 in
set_option maxHeartbeats 4000000 in
theorem mX2_takeTunnels (l : Launch) (Z : zT) (sz : Nat) (Ag : Nat → Nat) (An : Nat → Nat) (g_nodes : Int32) (g_edges : Int32) (g_starts : (Nat → Int32)) (g_ends : (Nat → Int32)) (g_lengths : (Nat → Int32)) (g_items : (Nat → Int32)) (g_remaining : (Nat → Int32)) (n_nodes : Int32) (n_links : Int32) (n_tunnels : Int32) (n_messages : Int32) (n_areas : (Nat → Int32)) (n_firsts : (Nat → Int32)) (n_seconds : (Nat → Int32)) (n_privates : (Nat → Int32)) (n_entries : (Nat → Int32)) (n_exits : (Nat → Int32)) (n_truth : (Nat → Int32)) (n_facts : (Nat → Int32)) (n_news : (Nat → Int64)) (v2 : Int32) {res : Int32 × (Nat → Int32) × (Nat → Int32) × (Nat → Int32) × (Nat → Int32)} (h : fX2_takeTunnels v2 g_edges g_starts g_ends g_lengths g_items n_tunnels n_entries n_exits n_facts = some res) : Met l yX2_takeTunnels (Cond.code yX2_takeTunnels cX2_takeTunnels 6 none :: zWs) rmX2_takeTunnels (zP Z ((wX2 Z Ag g_nodes g_edges g_starts g_ends g_lengths g_items g_remaining ++ wX3 Z An n_nodes n_links n_tunnels n_messages n_areas n_firsts n_seconds n_privates n_entries n_exits n_truth n_facts n_news)) sz [.ref (Ag 0), .ref (An 0), .int v2]) (zQv Z ((wX2 Z Ag g_nodes res.1 res.2.1 res.2.2.1 res.2.2.2.1 res.2.2.2.2 g_remaining ++ wX3 Z An n_nodes n_links n_tunnels n_messages n_areas n_firsts n_seconds n_privates n_entries n_exits n_truth n_facts n_news)) (va_A ((wX2 Z Ag g_nodes g_edges g_starts g_ends g_lengths g_items g_remaining ++ wX3 Z An n_nodes n_links n_tunnels n_messages n_areas n_firsts n_seconds n_privates n_entries n_exits n_truth n_facts n_news)) sz)) 0 0 (va_A ((wX2 Z Ag g_nodes g_edges g_starts g_ends g_lengths g_items g_remaining ++ wX3 Z An n_nodes n_links n_tunnels n_messages n_areas n_firsts n_seconds n_privates n_entries n_exits n_truth n_facts n_news)) sz) := by
  refine zMet (own := RX2) (fun A => zQv Z ((wX2 Z Ag g_nodes res.1 res.2.1 res.2.2.1 res.2.2.2.1 res.2.2.2.2 g_remaining ++ wX3 Z An n_nodes n_links n_tunnels n_messages n_areas n_firsts n_seconds n_privates n_entries n_exits n_truth n_facts n_news)) A) (by decide) rfl (Nat.le_of_ble_eq_true rfl) ?_
  intro p e s m args below meth c ls A E hw hl
  unfold fX2_takeTunnels at h
  refine r_iconst E 0 dX2_takeTunnels_0 (by decide) ?_
  refine r_istore_n E [(3, .int (0 : Int32)), (0, .ref (Ag 0)), (1, .ref (An 0)), (2, .int v2)] hl dX2_takeTunnels_1 rfl (by decide) rfl (fun ls hl => ?_)
  obtain ⟨n11, h⟩ := wh_some h
  exact tX2_takeTunnels_2 E  n11 _ _ _ _ _ _ _ _ _ h hw (lv_sub hl [1, 2, 3, 0] rfl)
abbrev rmX2_takeView : Room := { frames := 3, cells := 0, slots := 0, locals := 67 }

set_option maxRecDepth 100000 in
set_option maxHeartbeats 4000000 in
theorem mX2_takeView (l : Launch) (Z : zT) (sz : Nat) (Ag : Nat → Nat) (An : Nat → Nat) (g_nodes : Int32) (g_edges : Int32) (g_starts : (Nat → Int32)) (g_ends : (Nat → Int32)) (g_lengths : (Nat → Int32)) (g_items : (Nat → Int32)) (g_remaining : (Nat → Int32)) (n_nodes : Int32) (n_links : Int32) (n_tunnels : Int32) (n_messages : Int32) (n_areas : (Nat → Int32)) (n_firsts : (Nat → Int32)) (n_seconds : (Nat → Int32)) (n_privates : (Nat → Int32)) (n_entries : (Nat → Int32)) (n_exits : (Nat → Int32)) (n_truth : (Nat → Int32)) (n_facts : (Nat → Int32)) (n_news : (Nat → Int64)) (v2 : Int32) (v3 : Int32) (v4 : Int32) {res : Int32 × Int32 × (Nat → Int32) × (Nat → Int32) × (Nat → Int32) × (Nat → Int32)} (h : fX2_takeView v2 v3 v4 g_starts g_ends g_lengths g_items n_nodes n_links n_tunnels n_areas n_firsts n_seconds n_privates n_entries n_exits n_facts = some res) : Met l yX2_takeView (Cond.code yX2_takeView cX2_takeView 6 none :: zWs) rmX2_takeView (zP Z ((wX2 Z Ag g_nodes g_edges g_starts g_ends g_lengths g_items g_remaining ++ wX3 Z An n_nodes n_links n_tunnels n_messages n_areas n_firsts n_seconds n_privates n_entries n_exits n_truth n_facts n_news)) sz [.ref (Ag 0), .ref (An 0), .int v2, .int v3, .int v4]) (zQv Z ((wX2 Z Ag res.1 res.2.1 res.2.2.1 res.2.2.2.1 res.2.2.2.2.1 res.2.2.2.2.2 g_remaining ++ wX3 Z An n_nodes n_links n_tunnels n_messages n_areas n_firsts n_seconds n_privates n_entries n_exits n_truth n_facts n_news)) (va_A ((wX2 Z Ag g_nodes g_edges g_starts g_ends g_lengths g_items g_remaining ++ wX3 Z An n_nodes n_links n_tunnels n_messages n_areas n_firsts n_seconds n_privates n_entries n_exits n_truth n_facts n_news)) sz)) 0 0 (va_A ((wX2 Z Ag g_nodes g_edges g_starts g_ends g_lengths g_items g_remaining ++ wX3 Z An n_nodes n_links n_tunnels n_messages n_areas n_firsts n_seconds n_privates n_entries n_exits n_truth n_facts n_news)) sz) := by
  refine zMet (own := RX2) (fun A => zQv Z ((wX2 Z Ag res.1 res.2.1 res.2.2.1 res.2.2.2.1 res.2.2.2.2.1 res.2.2.2.2.2 g_remaining ++ wX3 Z An n_nodes n_links n_tunnels n_messages n_areas n_firsts n_seconds n_privates n_entries n_exits n_truth n_facts n_news)) A) (by decide) rfl (Nat.le_of_ble_eq_true rfl) ?_
  intro p e s m args below meth c ls A E hw hl
  unfold fX2_takeView at h
  refine r_iload_n E hl 2 rfl dX2_takeView_0 rfl ?_
  refine r_iconst E 0 dX2_takeView_1 (by decide) ?_
  obtain ⟨y1, hy1, h⟩ := bd_some h
  refine r_callSN0i E hw (mX6_place l Z _ v2 (0 : Int32) hy1) E.2.2.2.2.1.2.2.2.2.2.2.1 kT_X6_place kN_X6 kC_X6_place rfl rfl hdX6_place ⟨Nat.le_of_ble_eq_true rfl, Nat.le_of_ble_eq_true rfl⟩ rfl hl [] rfl (Nat.le_of_ble_eq_true rfl) dX2_takeView_2 ⟨Nat.zero_le _, Nat.zero_le _⟩ (fun H locs hw => ?_)
  refine r_istore E [(5, .int y1), (0, .ref (Ag 0)), (1, .ref (An 0)), (2, .int v2), (3, .int v3), (4, .int v4)] hl dX2_takeView_5 (by decide) rfl (fun ls hl => ?_)
  refine r_aload_n E hl 1 rfl dX2_takeView_7 rfl ?_
  refine r_aload_n E hl 2 rfl dX2_takeView_8 rfl ?_
  refine r_aload_n E hl 2 rfl dX2_takeView_9 rfl ?_
  refine r_get E kW_X3 hw 6 rfl rfl 11 (by decide) kF_X2_38 rfl dX2_takeView_10 ?_
  refine r_iload E hl 0 rfl dX2_takeView_13 ?_
  refine r_aload_n E hl 2 rfl dX2_takeView_15 rfl ?_
  refine r_iload_n E hl 3 rfl dX2_takeView_16 rfl ?_
  refine r_iload_n E hl 4 rfl dX2_takeView_17 rfl ?_
  obtain ⟨y2, hy2, h⟩ := bd_some h
  refine r_callVQi E ((wX2 Z Ag g_nodes g_edges g_starts g_ends g_lengths g_items g_remaining ++ wX3 Z An n_nodes n_links n_tunnels n_messages n_areas n_firsts n_seconds n_privates n_entries n_exits n_truth n_facts n_news)) (wX2 Z Ag g_nodes g_edges g_starts g_ends g_lengths g_items g_remaining) hw (mX3_disclosures l Z _ An n_nodes n_links n_tunnels n_messages n_areas n_firsts n_seconds n_privates n_entries n_exits n_truth n_facts n_news v2 v3 hy2) kL_X2_43 kI_X3_disclosures kS_X3_disclosures kN_X3 kC_X3_disclosures rfl rfl hdX3_disclosures ⟨Nat.le_of_ble_eq_true rfl, Nat.le_of_ble_eq_true rfl⟩ (fun f => by simp only [sf_app] <;> omega) (fun f => by simp only [sf_app] <;> omega) 6 rfl rfl rfl rfl hl [.int y1, .ref (An 8), .ref (An 0), .ref (Ag 0)] rfl (Nat.le_of_ble_eq_true rfl) dX2_takeView_18 ⟨Nat.zero_le _, Nat.zero_le _⟩ (fun H locs hw => ?_)
  obtain ⟨y3, hy3, h⟩ := bd_some h
  refine r_callVAv E hw (mX2_takeLinks_facts l Z _ Ag An g_nodes g_edges g_starts g_ends g_lengths g_items g_remaining n_nodes n_links n_tunnels n_messages n_areas n_firsts n_seconds n_privates n_entries n_exits n_truth n_facts n_news y1 y2 hy3) kL_X2_46 kI_X2_takeLinks kS_X2_takeLinks kN_X2 kC_X2_takeLinks rfl rfl hdX2_takeLinks ⟨Nat.le_of_ble_eq_true rfl, Nat.le_of_ble_eq_true rfl⟩ 0 rfl rfl rfl rfl hl [] rfl (Nat.le_of_ble_eq_true rfl) dX2_takeView_21 ⟨Nat.zero_le _, Nat.zero_le _⟩ (fun H locs hw => ?_)
  refine r_iload E hl 5 rfl dX2_takeView_24 ?_
  refine r_if_eq E 36 dX2_takeView_26 (by decide) (fun hc => ?_) (fun hc => ?_)
  · replace h := ite_t hc h
    obtain rfl := Option.some.inj h
    exact r_vret E hw dX2_takeView_36
  · replace h := ite_f hc h
    refine r_aload_n E hl 1 rfl dX2_takeView_29 rfl ?_
    refine r_aload_n E hl 2 rfl dX2_takeView_30 rfl ?_
    refine r_iload E hl 0 rfl dX2_takeView_31 ?_
    obtain ⟨y4, hy4, h⟩ := bd_some h
    refine r_callVAv E hw (mX2_takeTunnels l Z _ Ag An y3.1 y3.2.1 y3.2.2.1 y3.2.2.2.1 y3.2.2.2.2.1 y3.2.2.2.2.2 g_remaining n_nodes n_links n_tunnels n_messages n_areas n_firsts n_seconds n_privates n_entries n_exits n_truth n_facts n_news y1 hy4) kL_X2_50 kI_X2_takeTunnels kS_X2_takeTunnels kN_X2 kC_X2_takeTunnels rfl rfl hdX2_takeTunnels ⟨Nat.le_of_ble_eq_true rfl, Nat.le_of_ble_eq_true rfl⟩ 0 rfl rfl rfl rfl hl [] rfl (Nat.le_of_ble_eq_true rfl) dX2_takeView_33 ⟨Nat.zero_le _, Nat.zero_le _⟩ (fun H locs hw => ?_)
    obtain rfl := Option.some.inj h
    exact r_vret E hw dX2_takeView_36
abbrev rmX2_takeTrueLinks : Room := { frames := 2, cells := 0, slots := 0, locals := 52 }

set_option maxRecDepth 100000 in
set_option maxHeartbeats 4000000 in
theorem mX2_takeTrueLinks (l : Launch) (Z : zT) (sz : Nat) (Ag : Nat → Nat) (An : Nat → Nat) (g_nodes : Int32) (g_edges : Int32) (g_starts : (Nat → Int32)) (g_ends : (Nat → Int32)) (g_lengths : (Nat → Int32)) (g_items : (Nat → Int32)) (g_remaining : (Nat → Int32)) (n_nodes : Int32) (n_links : Int32) (n_tunnels : Int32) (n_messages : Int32) (n_areas : (Nat → Int32)) (n_firsts : (Nat → Int32)) (n_seconds : (Nat → Int32)) (n_privates : (Nat → Int32)) (n_entries : (Nat → Int32)) (n_exits : (Nat → Int32)) (n_truth : (Nat → Int32)) (n_facts : (Nat → Int32)) (n_news : (Nat → Int64)) (v2 : Int32) {res : Int32 × Int32 × (Nat → Int32) × (Nat → Int32) × (Nat → Int32) × (Nat → Int32)} (h : fX2_takeTrueLinks v2 g_starts g_ends g_lengths g_items n_nodes n_links n_areas n_firsts n_seconds n_privates n_truth = some res) : Met l yX2_takeTrueLinks (Cond.code yX2_takeTrueLinks cX2_takeTrueLinks 3 none :: zWs) rmX2_takeTrueLinks (zP Z ((wX2 Z Ag g_nodes g_edges g_starts g_ends g_lengths g_items g_remaining ++ wX3 Z An n_nodes n_links n_tunnels n_messages n_areas n_firsts n_seconds n_privates n_entries n_exits n_truth n_facts n_news)) sz [.ref (Ag 0), .ref (An 0), .int v2]) (zQv Z ((wX2 Z Ag res.1 res.2.1 res.2.2.1 res.2.2.2.1 res.2.2.2.2.1 res.2.2.2.2.2 g_remaining ++ wX3 Z An n_nodes n_links n_tunnels n_messages n_areas n_firsts n_seconds n_privates n_entries n_exits n_truth n_facts n_news)) (va_A ((wX2 Z Ag g_nodes g_edges g_starts g_ends g_lengths g_items g_remaining ++ wX3 Z An n_nodes n_links n_tunnels n_messages n_areas n_firsts n_seconds n_privates n_entries n_exits n_truth n_facts n_news)) sz)) 0 0 (va_A ((wX2 Z Ag g_nodes g_edges g_starts g_ends g_lengths g_items g_remaining ++ wX3 Z An n_nodes n_links n_tunnels n_messages n_areas n_firsts n_seconds n_privates n_entries n_exits n_truth n_facts n_news)) sz) := by
  refine zMet (own := RX2) (fun A => zQv Z ((wX2 Z Ag res.1 res.2.1 res.2.2.1 res.2.2.2.1 res.2.2.2.2.1 res.2.2.2.2.2 g_remaining ++ wX3 Z An n_nodes n_links n_tunnels n_messages n_areas n_firsts n_seconds n_privates n_entries n_exits n_truth n_facts n_news)) A) (by decide) rfl (Nat.le_of_ble_eq_true rfl) ?_
  intro p e s m args below meth c ls A E hw hl
  unfold fX2_takeTrueLinks at h
  refine r_aload_n E hl 0 rfl dX2_takeTrueLinks_0 rfl ?_
  refine r_aload_n E hl 1 rfl dX2_takeTrueLinks_1 rfl ?_
  refine r_aload_n E hl 1 rfl dX2_takeTrueLinks_2 rfl ?_
  refine r_get E kW_X3 hw 6 rfl rfl 10 (by decide) kF_X2_54 rfl dX2_takeTrueLinks_3 ?_
  refine r_iconst E 0 dX2_takeTrueLinks_6 (by decide) ?_
  refine r_iload_n E hl 2 rfl dX2_takeTrueLinks_7 rfl ?_
  obtain ⟨y1, hy1, h⟩ := bd_some h
  refine r_callVAv E hw (mX2_takeLinks_truth l Z _ Ag An g_nodes g_edges g_starts g_ends g_lengths g_items g_remaining n_nodes n_links n_tunnels n_messages n_areas n_firsts n_seconds n_privates n_entries n_exits n_truth n_facts n_news (0 : Int32) v2 hy1) kL_X2_46 kI_X2_takeLinks kS_X2_takeLinks kN_X2 kC_X2_takeLinks rfl rfl hdX2_takeLinks ⟨Nat.le_of_ble_eq_true rfl, Nat.le_of_ble_eq_true rfl⟩ 0 rfl rfl rfl rfl hl [] rfl (Nat.le_of_ble_eq_true rfl) dX2_takeTrueLinks_8 ⟨Nat.zero_le _, Nat.zero_le _⟩ (fun H locs hw => ?_)
  obtain rfl := Option.some.inj h
  exact r_vret E hw dX2_takeTrueLinks_11
abbrev rmX2_measureTo : Room := { frames := 1, cells := 0, slots := 0, locals := 23 }

set_option maxRecDepth 100000 in
set_option maxHeartbeats 4000000 in
theorem vX2_measureTo_93 {Z : zT} {p : Program} {l : Launch} {e : Env} {s : State} {m : MethodId} {args : Array Value} {below : List Frame} {meth : Method} {c : Code} {A : Nat → Prop} (E : zE Z p s m args meth c RX2 cX2_measureTo 5 none A) {Ag : Nat → Nat} {v2 : Int32} {v3 : Int32} {g_nodes : Int32} {g_edges : Int32} {g_starts : (Nat → Int32)} {g_ends : (Nat → Int32)} {g_lengths : (Nat → Int32)} {g_items : (Nat → Int32)} {g_remaining : (Nat → Int32)} {res : (Nat → Int32)} {q1 : (Int32 × Int32 × (Nat → Int32)) ⊕ ((Nat → Int32))} (hb1 : ∀ b : Int32 × Int32 × (Nat → Int32), q1 = .inl b → ∀ (H : Heap) (locs : List Loc) (ls : Array Slot), zW Z A (wX2 Z Ag g_nodes g_edges g_starts g_ends g_lengths g_items b.2.2) s.heap H locs → lv_has ls 5 [(0, .ref (Ag 0)), (2, .int b.1), (3, .int b.2.1)] → W p l e rmX2_measureTo s m args below meth c H locs 0 0 (MQ below (zQv Z (wX2 Z Ag g_nodes g_edges g_starts g_ends g_lengths g_items res) A) args s 0 0 A) (F0 m 20 ls [])) (hr1 : ∀ r' , q1 = .inr r' → r' = res) {H : Heap} {locs : List Loc} {ls : Array Slot} (hw : zW Z A (wX2 Z Ag g_nodes g_edges g_starts g_ends g_lengths g_items g_remaining) s.heap H locs) (hl : lv_has ls 5 [(0, .ref (Ag 0)), (2, .int v2), (3, .int v3)]) (h : uX2_measureTo_93 v2 v3 g_remaining = some q1) : W p l e rmX2_measureTo s m args below meth c H locs 0 0 (MQ below (zQv Z (wX2 Z Ag g_nodes g_edges g_starts g_ends g_lengths g_items res) A) args s 0 0 A) (F0 m 93 ls []) := by
  unfold uX2_measureTo_93 at h
  obtain ⟨w5, hw5, h⟩ := nm_out h
  refine r_iinc E w5 [(3, .int w5), (0, .ref (Ag 0)), (2, .int v2)] hl (k := 2) rfl dX2_measureTo_93 hw5.symm (by decide) rfl (fun ls hl => ?_)
  refine r_goto E 20 dX2_measureTo_96 (by decide) ?_
  exact hb1 _ (Option.some.inj h).symm _ _ _ hw (lv_sub hl [1, 2, 0] rfl)
set_option maxRecDepth 100000 in
set_option maxHeartbeats 4000000 in
theorem vX2_measureTo_87 {Z : zT} {p : Program} {l : Launch} {e : Env} {s : State} {m : MethodId} {args : Array Value} {below : List Frame} {meth : Method} {c : Code} {A : Nat → Prop} (E : zE Z p s m args meth c RX2 cX2_measureTo 5 none A) {Ag : Nat → Nat} {v2 : Int32} {v3 : Int32} {v4 : Int32} {g_nodes : Int32} {g_edges : Int32} {g_starts : (Nat → Int32)} {g_ends : (Nat → Int32)} {g_lengths : (Nat → Int32)} {g_items : (Nat → Int32)} {g_remaining : (Nat → Int32)} {res : (Nat → Int32)} {q1 : (Int32 × Int32 × (Nat → Int32)) ⊕ ((Nat → Int32))} (hb1 : ∀ b : Int32 × Int32 × (Nat → Int32), q1 = .inl b → ∀ (H : Heap) (locs : List Loc) (ls : Array Slot), zW Z A (wX2 Z Ag g_nodes g_edges g_starts g_ends g_lengths g_items b.2.2) s.heap H locs → lv_has ls 5 [(0, .ref (Ag 0)), (2, .int b.1), (3, .int b.2.1)] → W p l e rmX2_measureTo s m args below meth c H locs 0 0 (MQ below (zQv Z (wX2 Z Ag g_nodes g_edges g_starts g_ends g_lengths g_items res) A) args s 0 0 A) (F0 m 20 ls [])) (hr1 : ∀ r' , q1 = .inr r' → r' = res) {q2 : (Int32 × Int32 × (Nat → Int32)) ⊕ ((Int32 × Int32 × (Nat → Int32)) ⊕ ((Nat → Int32)))} (hb2 : ∀ b : Int32 × Int32 × (Nat → Int32), q2 = .inl b → ∀ (H : Heap) (locs : List Loc) (ls : Array Slot), zW Z A (wX2 Z Ag g_nodes g_edges g_starts g_ends g_lengths g_items b.2.2) s.heap H locs → lv_has ls 5 [(0, .ref (Ag 0)), (2, .int b.1), (3, .int v3), (4, .int b.2.1)] → W p l e rmX2_measureTo s m args below meth c H locs 0 0 (MQ below (zQv Z (wX2 Z Ag g_nodes g_edges g_starts g_ends g_lengths g_items res) A) args s 0 0 A) (F0 m 37 ls [])) (hr2 : ∀ r' , q2 = .inr r' → r' = q1) {H : Heap} {locs : List Loc} {ls : Array Slot} (hw : zW Z A (wX2 Z Ag g_nodes g_edges g_starts g_ends g_lengths g_items g_remaining) s.heap H locs) (hl : lv_has ls 5 [(0, .ref (Ag 0)), (2, .int v2), (3, .int v3), (4, .int v4)]) (h : uX2_measureTo_87 v2 v4 g_remaining = some q2) : W p l e rmX2_measureTo s m args below meth c H locs 0 0 (MQ below (zQv Z (wX2 Z Ag g_nodes g_edges g_starts g_ends g_lengths g_items res) A) args s 0 0 A) (F0 m 87 ls []) := by
  unfold uX2_measureTo_87 at h
  obtain ⟨w10, hw10, h⟩ := nm_out h
  refine r_iinc E w10 [(4, .int w10), (0, .ref (Ag 0)), (2, .int v2), (3, .int v3)] hl (k := 3) rfl dX2_measureTo_87 hw10.symm (by decide) rfl (fun ls hl => ?_)
  refine r_goto E 37 dX2_measureTo_90 (by decide) ?_
  exact hb2 _ (Option.some.inj h).symm _ _ _ hw (lv_sub hl [1, 2, 3, 0] rfl)
set_option maxRecDepth 100000 in
set_option maxHeartbeats 4000000 in
theorem tX2_measureTo_37 {Z : zT} {p : Program} {l : Launch} {e : Env} {s : State} {m : MethodId} {args : Array Value} {below : List Frame} {meth : Method} {c : Code} {A : Nat → Prop} (E : zE Z p s m args meth c RX2 cX2_measureTo 5 none A) {Ag : Nat → Nat} {v3 : Int32} {g_nodes : Int32} {g_edges : Int32} {g_starts : (Nat → Int32)} {g_ends : (Nat → Int32)} {g_lengths : (Nat → Int32)} {g_items : (Nat → Int32)} {res : (Nat → Int32)} {q1 : (Int32 × Int32 × (Nat → Int32)) ⊕ ((Nat → Int32))} (hb1 : ∀ b : Int32 × Int32 × (Nat → Int32), q1 = .inl b → ∀ (H : Heap) (locs : List Loc) (ls : Array Slot), zW Z A (wX2 Z Ag g_nodes g_edges g_starts g_ends g_lengths g_items b.2.2) s.heap H locs → lv_has ls 5 [(0, .ref (Ag 0)), (2, .int b.1), (3, .int b.2.1)] → W p l e rmX2_measureTo s m args below meth c H locs 0 0 (MQ below (zQv Z (wX2 Z Ag g_nodes g_edges g_starts g_ends g_lengths g_items res) A) args s 0 0 A) (F0 m 20 ls [])) (hr1 : ∀ r' , q1 = .inr r' → r' = res) : ∀ (n : Nat) (v2 : Int32) (v4 : Int32) (g_remaining : (Nat → Int32)) (H : Heap) (locs : List Loc) (ls : Array Slot), iter (fun b : Int32 × Int32 × (Nat → Int32) => sX2_measureTo_37 v3 g_edges g_starts g_ends g_lengths b.1 b.2.1 b.2.2) n (v2, v4, g_remaining) = some q1 → zW Z A (wX2 Z Ag g_nodes g_edges g_starts g_ends g_lengths g_items g_remaining) s.heap H locs → lv_has ls 5 [(0, .ref (Ag 0)), (2, .int v2), (3, .int v3), (4, .int v4)] → W p l e rmX2_measureTo s m args below meth c H locs 0 0 (MQ below (zQv Z (wX2 Z Ag g_nodes g_edges g_starts g_ends g_lengths g_items res) A) args s 0 0 A) (F0 m 37 ls []) := by
  intro n
  induction n with
  | zero => intro v2 v4 g_remaining H locs ls h; cases h
  | succ n ih =>
    intro v2 v4 g_remaining H locs ls h hw hl
    obtain ⟨q2, h, hn2, hr2⟩ := iter_out h
    have hb2 : ∀ b : Int32 × Int32 × (Nat → Int32), q2 = .inl b → ∀ (H : Heap) (locs : List Loc) (ls : Array Slot), zW Z A (wX2 Z Ag g_nodes g_edges g_starts g_ends g_lengths g_items b.2.2) s.heap H locs → lv_has ls 5 [(0, .ref (Ag 0)), (2, .int b.1), (3, .int v3), (4, .int b.2.1)] → W p l e rmX2_measureTo s m args below meth c H locs 0 0 (MQ below (zQv Z (wX2 Z Ag g_nodes g_edges g_starts g_ends g_lengths g_items res) A) args s 0 0 A) (F0 m 37 ls []) := fun b eb H locs ls hw hl => ih b.1 b.2.1 b.2.2 H locs ls (hn2 b eb) hw hl
    replace h : sX2_measureTo_37 v3 g_edges g_starts g_ends g_lengths v2 v4 g_remaining = some q2 := h
    unfold sX2_measureTo_37 at h
    refine r_iload E hl 3 rfl dX2_measureTo_37 ?_
    refine r_aload_n E hl 0 rfl dX2_measureTo_39 rfl ?_
    refine r_get E kW_X2 hw 0 rfl rfl 1 (by decide) kF_X2_15 rfl dX2_measureTo_40 ?_
    refine r_icmp_ge E 93 dX2_measureTo_43 (by decide) (fun hc => ?_) (fun hc => ?_)
    · replace h := ite_t hc h
      obtain ⟨ro6, h, hro6⟩ := oi_some h
      rw [hr2 _ hro6] at h
      exact vX2_measureTo_93 E hb1 hr1 hw (lv_sub hl [0, 1, 2] rfl) h
    · replace h := ite_f hc h
      refine r_aload_n E hl 0 rfl dX2_measureTo_46 rfl ?_
      refine r_iload E hl 3 rfl dX2_measureTo_47 ?_
      obtain ⟨y7, hy7, h⟩ := bd_some h
      refine r_callVAi E hw (mX2_lengthOver l Z _ Ag g_nodes g_edges g_starts g_ends g_lengths g_items g_remaining v4 hy7) kL_X2_107 kI_X2_lengthOver kS_X2_lengthOver kN_X2 kC_X2_lengthOver rfl rfl hdX2_lengthOver ⟨Nat.le_of_ble_eq_true rfl, Nat.le_of_ble_eq_true rfl⟩ 0 rfl rfl rfl rfl hl [] rfl (Nat.le_of_ble_eq_true rfl) dX2_measureTo_49 ⟨Nat.zero_le _, Nat.zero_le _⟩ (fun H locs hw => ?_)
      refine r_aload_n E hl 0 rfl dX2_measureTo_52 rfl ?_
      refine r_get E kW_X2 hw 0 rfl rfl 6 (by decide) kF_X2_31 rfl dX2_measureTo_53 ?_
      refine r_aload_n E hl 0 rfl dX2_measureTo_56 rfl ?_
      refine r_get E kW_X2 hw 0 rfl rfl 2 (by decide) kF_X2_18 rfl dX2_measureTo_57 ?_
      refine r_iload E hl 3 rfl dX2_measureTo_60 ?_
      obtain ⟨hg8, h⟩ := gd_some h
      refine r_iald E hw 1 rfl hg8 dX2_measureTo_62 ?_
      obtain ⟨hg9, h⟩ := gd_some h
      refine r_iald E hw 5 rfl hg9 dX2_measureTo_63 ?_
      refine r_icmp_ge E 87 dX2_measureTo_64 (by decide) (fun hc => ?_) (fun hc => ?_)
      · replace h := ite_t hc h
        exact vX2_measureTo_87 E hb1 hr1 hb2 hr2 hw hl h
      · replace h := ite_f hc h
        refine r_aload_n E hl 0 rfl dX2_measureTo_67 rfl ?_
        refine r_get E kW_X2 hw 0 rfl rfl 6 (by decide) kF_X2_31 rfl dX2_measureTo_68 ?_
        refine r_aload_n E hl 0 rfl dX2_measureTo_71 rfl ?_
        refine r_get E kW_X2 hw 0 rfl rfl 2 (by decide) kF_X2_18 rfl dX2_measureTo_72 ?_
        refine r_iload E hl 3 rfl dX2_measureTo_75 ?_
        obtain ⟨hg11, h⟩ := gd_some h
        refine r_iald E hw 1 rfl hg11 dX2_measureTo_77 ?_
        refine r_aload_n E hl 0 rfl dX2_measureTo_78 rfl ?_
        refine r_iload E hl 3 rfl dX2_measureTo_79 ?_
        obtain ⟨y12, hy12, h⟩ := bd_some h
        refine r_callVAi E hw (mX2_lengthOver l Z _ Ag g_nodes g_edges g_starts g_ends g_lengths g_items g_remaining v4 hy12) kL_X2_107 kI_X2_lengthOver kS_X2_lengthOver kN_X2 kC_X2_lengthOver rfl rfl hdX2_lengthOver ⟨Nat.le_of_ble_eq_true rfl, Nat.le_of_ble_eq_true rfl⟩ 0 rfl rfl rfl rfl hl [.int (g_starts (v4).toNatClampNeg), .ref (Ag 5)] rfl (Nat.le_of_ble_eq_true rfl) dX2_measureTo_81 ⟨Nat.zero_le _, Nat.zero_le _⟩ (fun H locs hw => ?_)
        obtain ⟨hg13, h⟩ := gd_some h
        refine r_iast E (wX2 Z Ag g_nodes g_edges g_starts g_ends g_lengths g_items (upd g_remaining (g_starts (v4).toNatClampNeg).toNatClampNeg y12)) hw 5 rfl hg13 rfl dX2_measureTo_84 (fun H locs hw => ?_)
        refine r_iconst E 1 dX2_measureTo_85 (by decide) ?_
        refine r_istore_n E [(2, .int (1 : Int32)), (0, .ref (Ag 0)), (3, .int v3), (4, .int v4)] hl dX2_measureTo_86 rfl (by decide) rfl (fun ls hl => ?_)
        exact vX2_measureTo_87 E hb1 hr1 hb2 hr2 hw (lv_sub hl [1, 0, 2, 3] rfl) h
set_option maxRecDepth 100000 in
set_option maxHeartbeats 4000000 in
theorem tX2_measureTo_20 {Z : zT} {p : Program} {l : Launch} {e : Env} {s : State} {m : MethodId} {args : Array Value} {below : List Frame} {meth : Method} {c : Code} {A : Nat → Prop} (E : zE Z p s m args meth c RX2 cX2_measureTo 5 none A) {Ag : Nat → Nat} {g_nodes : Int32} {g_edges : Int32} {g_starts : (Nat → Int32)} {g_ends : (Nat → Int32)} {g_lengths : (Nat → Int32)} {g_items : (Nat → Int32)} {res : (Nat → Int32)}  : ∀ (n : Nat) (v2 : Int32) (v3 : Int32) (g_remaining : (Nat → Int32)) (H : Heap) (locs : List Loc) (ls : Array Slot), iter (fun b : Int32 × Int32 × (Nat → Int32) => sX2_measureTo_20 g_nodes g_edges g_starts g_ends g_lengths b.1 b.2.1 b.2.2) n (v2, v3, g_remaining) = some res → zW Z A (wX2 Z Ag g_nodes g_edges g_starts g_ends g_lengths g_items g_remaining) s.heap H locs → lv_has ls 5 [(0, .ref (Ag 0)), (2, .int v2), (3, .int v3)] → W p l e rmX2_measureTo s m args below meth c H locs 0 0 (MQ below (zQv Z (wX2 Z Ag g_nodes g_edges g_starts g_ends g_lengths g_items res) A) args s 0 0 A) (F0 m 20 ls []) := by
  intro n
  induction n with
  | zero => intro v2 v3 g_remaining H locs ls h; cases h
  | succ n ih =>
    intro v2 v3 g_remaining H locs ls h hw hl
    obtain ⟨q1, h, hn1, hr1⟩ := iter_out h
    have hb1 : ∀ b : Int32 × Int32 × (Nat → Int32), q1 = .inl b → ∀ (H : Heap) (locs : List Loc) (ls : Array Slot), zW Z A (wX2 Z Ag g_nodes g_edges g_starts g_ends g_lengths g_items b.2.2) s.heap H locs → lv_has ls 5 [(0, .ref (Ag 0)), (2, .int b.1), (3, .int b.2.1)] → W p l e rmX2_measureTo s m args below meth c H locs 0 0 (MQ below (zQv Z (wX2 Z Ag g_nodes g_edges g_starts g_ends g_lengths g_items res) A) args s 0 0 A) (F0 m 20 ls []) := fun b eb H locs ls hw hl => ih b.1 b.2.1 b.2.2 H locs ls (hn1 b eb) hw hl
    replace h : sX2_measureTo_20 g_nodes g_edges g_starts g_ends g_lengths v2 v3 g_remaining = some q1 := h
    unfold sX2_measureTo_20 at h
    refine r_iload_n E hl 2 rfl dX2_measureTo_20 rfl ?_
    refine r_aload_n E hl 0 rfl dX2_measureTo_21 rfl ?_
    refine r_get E kW_X2 hw 0 rfl rfl 0 (by decide) kF_X2_9 rfl dX2_measureTo_22 ?_
    refine r_icmp_ge E 99 dX2_measureTo_25 (by decide) (fun hc => ?_) (fun hc => ?_)
    · replace h := ite_t hc h
      obtain ⟨ro3, h, hro3⟩ := oi_some h
      rw [hr1 _ hro3] at h
      obtain rfl := Option.some.inj h
      exact r_vret E hw dX2_measureTo_99
    · replace h := ite_f hc h
      refine r_iload_n E hl 1 rfl dX2_measureTo_28 rfl ?_
      refine r_if_eq E 99 dX2_measureTo_29 (by decide) (fun hc => ?_) (fun hc => ?_)
      · replace h := ite_t hc h
        obtain ⟨ro4, h, hro4⟩ := oi_some h
        rw [hr1 _ hro4] at h
        obtain rfl := Option.some.inj h
        exact r_vret E hw dX2_measureTo_99
      · replace h := ite_f hc h
        refine r_iconst E 0 dX2_measureTo_32 (by decide) ?_
        refine r_istore_n E [(2, .int (0 : Int32)), (0, .ref (Ag 0)), (3, .int v3)] hl dX2_measureTo_33 rfl (by decide) rfl (fun ls hl => ?_)
        refine r_iconst E 0 dX2_measureTo_34 (by decide) ?_
        refine r_istore E [(4, .int (0 : Int32)), (2, .int (0 : Int32)), (0, .ref (Ag 0)), (3, .int v3)] hl dX2_measureTo_35 (by decide) rfl (fun ls hl => ?_)
        obtain ⟨n14, h⟩ := wh_some h
        exact tX2_measureTo_37 E hb1 hr1 n14 _ _ _ _ _ _ h hw (lv_sub hl [2, 1, 3, 0] rfl)
set_option maxRecDepth 100000 in
set_option maxHeartbeats 4000000 in
theorem mX2_measureTo (l : Launch) (Z : zT) (sz : Nat) (Ag : Nat → Nat) (g_nodes : Int32) (g_edges : Int32) (g_starts : (Nat → Int32)) (g_ends : (Nat → Int32)) (g_lengths : (Nat → Int32)) (g_items : (Nat → Int32)) (g_remaining : (Nat → Int32)) (v1 : Int32) {res : (Nat → Int32)} (h : fX2_measureTo v1 g_nodes g_edges g_starts g_ends g_lengths g_remaining = some res) : Met l yX2_measureTo (Cond.code yX2_measureTo cX2_measureTo 5 none :: zWs) rmX2_measureTo (zP Z (wX2 Z Ag g_nodes g_edges g_starts g_ends g_lengths g_items g_remaining) sz [.ref (Ag 0), .int v1]) (zQv Z (wX2 Z Ag g_nodes g_edges g_starts g_ends g_lengths g_items res) (va_A (wX2 Z Ag g_nodes g_edges g_starts g_ends g_lengths g_items g_remaining) sz)) 0 0 (va_A (wX2 Z Ag g_nodes g_edges g_starts g_ends g_lengths g_items g_remaining) sz) := by
  refine zMet (own := RX2) (fun A => zQv Z (wX2 Z Ag g_nodes g_edges g_starts g_ends g_lengths g_items res) A) (by decide) rfl (Nat.le_of_ble_eq_true rfl) ?_
  intro p e s m args below meth c ls A E hw hl
  unfold fX2_measureTo at h
  refine r_aload_n E hl 0 rfl dX2_measureTo_0 rfl ?_
  refine r_get E kW_X2 hw 0 rfl rfl 6 (by decide) kF_X2_31 rfl dX2_measureTo_1 ?_
  refine r_ldc E (1000000) kQ_X2_100 dX2_measureTo_4 ?_
  obtain ⟨y1, hy1, h⟩ := bd_some h
  refine r_callSv E (wX2 Z Ag g_nodes g_edges g_starts g_ends g_lengths g_items y1) hw (mJ7_fill_53178 l Z _ (fun _ => (Ag 5)) 10 g_remaining (1000000 : Int32) hy1) kL_X2_101 kT_J7_fill_53178 kN_J7 kC_J7_fill_53178 rfl rfl hdJ7_fill_53178 ⟨Nat.le_of_ble_eq_true rfl, Nat.le_of_ble_eq_true rfl⟩ [5] [0, 1, 2, 3, 4] [0, 1, 2, 3, 4, 5] (by decide) rfl rfl (by decide) (by decide) (by decide) rfl rfl hl [] rfl (Nat.le_of_ble_eq_true rfl) dX2_measureTo_6 ⟨Nat.zero_le _, Nat.zero_le _⟩ (fun H locs hw => ?_)
  refine r_aload_n E hl 0 rfl dX2_measureTo_9 rfl ?_
  refine r_get E kW_X2 hw 0 rfl rfl 6 (by decide) kF_X2_31 rfl dX2_measureTo_10 ?_
  refine r_iload_n E hl 1 rfl dX2_measureTo_13 rfl ?_
  refine r_iconst E 0 dX2_measureTo_14 (by decide) ?_
  obtain ⟨hg2, h⟩ := gd_some h
  refine r_iast E (wX2 Z Ag g_nodes g_edges g_starts g_ends g_lengths g_items (upd y1 (v1).toNatClampNeg (0 : Int32))) hw 5 rfl hg2 rfl dX2_measureTo_15 (fun H locs hw => ?_)
  refine r_iconst E 1 dX2_measureTo_16 (by decide) ?_
  refine r_istore_n E [(2, .int (1 : Int32)), (0, .ref (Ag 0)), (1, .int v1)] hl dX2_measureTo_17 rfl (by decide) rfl (fun ls hl => ?_)
  refine r_iconst E 0 dX2_measureTo_18 (by decide) ?_
  refine r_istore_n E [(3, .int (0 : Int32)), (2, .int (1 : Int32)), (0, .ref (Ag 0)), (1, .int v1)] hl dX2_measureTo_19 rfl (by decide) rfl (fun ls hl => ?_)
  obtain ⟨n15, h⟩ := wh_some h
  exact tX2_measureTo_20 E  n15 _ _ _ _ _ _ h hw (lv_sub hl [2, 1, 0] rfl)
abbrev rmX2_costFrom : Room := { frames := 0, cells := 0, slots := 0, locals := 0 }

set_option maxRecDepth 100000 in
set_option maxHeartbeats 4000000 in
theorem mX2_costFrom (l : Launch) (Z : zT) (sz : Nat) (Ag : Nat → Nat) (g_nodes : Int32) (g_edges : Int32) (g_starts : (Nat → Int32)) (g_ends : (Nat → Int32)) (g_lengths : (Nat → Int32)) (g_items : (Nat → Int32)) (g_remaining : (Nat → Int32)) (v1 : Int32) {res : Int32} (h : fX2_costFrom v1 g_remaining = some res) : Met l yX2_costFrom (Cond.code yX2_costFrom cX2_costFrom 2 (some .int) :: zWs) rmX2_costFrom (zP Z (wX2 Z Ag g_nodes g_edges g_starts g_ends g_lengths g_items g_remaining) sz [.ref (Ag 0), .int v1]) (zQi Z res (wX2 Z Ag g_nodes g_edges g_starts g_ends g_lengths g_items g_remaining) (va_A (wX2 Z Ag g_nodes g_edges g_starts g_ends g_lengths g_items g_remaining) sz)) 0 0 (va_A (wX2 Z Ag g_nodes g_edges g_starts g_ends g_lengths g_items g_remaining) sz) := by
  refine zMet (own := RX2) (fun A => zQi Z res (wX2 Z Ag g_nodes g_edges g_starts g_ends g_lengths g_items g_remaining) A) (by decide) rfl (Nat.le_of_ble_eq_true rfl) ?_
  intro p e s m args below meth c ls A E hw hl
  unfold fX2_costFrom at h
  refine r_aload_n E hl 0 rfl dX2_costFrom_0 rfl ?_
  refine r_get E kW_X2 hw 0 rfl rfl 6 (by decide) kF_X2_31 rfl dX2_costFrom_1 ?_
  refine r_iload_n E hl 1 rfl dX2_costFrom_4 rfl ?_
  obtain ⟨hg1, h⟩ := gd_some h
  refine r_iald E hw 5 rfl hg1 dX2_costFrom_5 ?_
  refine r_ldc E (1000000) kQ_X2_100 dX2_costFrom_6 ?_
  refine r_icmp_lt E 16 dX2_costFrom_8 (by decide) (fun hc => ?_) (fun hc => ?_)
  · replace h := ite_t hc h
    refine r_aload_n E hl 0 rfl dX2_costFrom_16 rfl ?_
    refine r_get E kW_X2 hw 0 rfl rfl 6 (by decide) kF_X2_31 rfl dX2_costFrom_17 ?_
    refine r_iload_n E hl 1 rfl dX2_costFrom_20 rfl ?_
    obtain ⟨hg2, h⟩ := gd_some h
    refine r_iald E hw 5 rfl hg2 dX2_costFrom_21 ?_
    refine r_bipush E 100 dX2_costFrom_22 (by decide) ?_
    refine r_idiv E dX2_costFrom_24 (by decide) ?_
    obtain rfl := Option.some.inj h
    exact r_iret E hw dX2_costFrom_25
  · replace h := ite_f hc h
    refine r_bipush E (-9) dX2_costFrom_11 (by decide) ?_
    refine r_goto E 25 dX2_costFrom_13 (by decide) ?_
    obtain rfl := Option.some.inj h
    exact r_iret E hw dX2_costFrom_25
abbrev rmX2_firstEdge : Room := { frames := 1, cells := 0, slots := 0, locals := 21 }

set_option maxRecDepth 100000 in
set_option maxHeartbeats 4000000 in
theorem vX2_firstEdge_82 {Z : zT} {p : Program} {l : Launch} {e : Env} {s : State} {m : MethodId} {args : Array Value} {below : List Frame} {meth : Method} {c : Code} {A : Nat → Prop} (E : zE Z p s m args meth c RX2 cX2_firstEdge 5 (some .int) A) {Ag : Nat → Nat} {v1 : Int32} {v2 : Int32} {v3 : Int32} {g_nodes : Int32} {g_edges : Int32} {g_starts : (Nat → Int32)} {g_ends : (Nat → Int32)} {g_lengths : (Nat → Int32)} {g_items : (Nat → Int32)} {g_remaining : (Nat → Int32)} {res : Int32} {q1 : (Int32 × Int32) ⊕ (Int32)} (hb1 : ∀ b : Int32 × Int32, q1 = .inl b → ∀ (H : Heap) (locs : List Loc) (ls : Array Slot), zW Z A (wX2 Z Ag g_nodes g_edges g_starts g_ends g_lengths g_items g_remaining) s.heap H locs → lv_has ls 5 [(0, .ref (Ag 0)), (1, .int v1), (2, .int b.1), (3, .int b.2)] → W p l e rmX2_firstEdge s m args below meth c H locs 0 0 (MQ below (zQi Z res (wX2 Z Ag g_nodes g_edges g_starts g_ends g_lengths g_items g_remaining) A) args s 0 0 A) (F0 m 17 ls [])) (hr1 : ∀ r' , q1 = .inr r' → r' = res) {H : Heap} {locs : List Loc} {ls : Array Slot} (hw : zW Z A (wX2 Z Ag g_nodes g_edges g_starts g_ends g_lengths g_items g_remaining) s.heap H locs) (hl : lv_has ls 5 [(0, .ref (Ag 0)), (1, .int v1), (2, .int v2), (3, .int v3)]) (h : uX2_firstEdge_82 v2 v3 = some q1) : W p l e rmX2_firstEdge s m args below meth c H locs 0 0 (MQ below (zQi Z res (wX2 Z Ag g_nodes g_edges g_starts g_ends g_lengths g_items g_remaining) A) args s 0 0 A) (F0 m 82 ls []) := by
  unfold uX2_firstEdge_82 at h
  obtain ⟨w4, hw4, h⟩ := nm_out h
  refine r_iinc E w4 [(3, .int w4), (0, .ref (Ag 0)), (1, .int v1), (2, .int v2)] hl (k := 3) rfl dX2_firstEdge_82 hw4.symm (by decide) rfl (fun ls hl => ?_)
  refine r_goto E 17 dX2_firstEdge_85 (by decide) ?_
  exact hb1 _ (Option.some.inj h).symm _ _ _ hw (lv_sub hl [1, 2, 3, 0] rfl)
set_option maxRecDepth 100000 in
set_option maxHeartbeats 4000000 in
theorem vX2_firstEdge_80 {Z : zT} {p : Program} {l : Launch} {e : Env} {s : State} {m : MethodId} {args : Array Value} {below : List Frame} {meth : Method} {c : Code} {A : Nat → Prop} (E : zE Z p s m args meth c RX2 cX2_firstEdge 5 (some .int) A) {Ag : Nat → Nat} {v1 : Int32} {v3 : Int32} {g_nodes : Int32} {g_edges : Int32} {g_starts : (Nat → Int32)} {g_ends : (Nat → Int32)} {g_lengths : (Nat → Int32)} {g_items : (Nat → Int32)} {g_remaining : (Nat → Int32)} {res : Int32} {q1 : (Int32 × Int32) ⊕ (Int32)} (hb1 : ∀ b : Int32 × Int32, q1 = .inl b → ∀ (H : Heap) (locs : List Loc) (ls : Array Slot), zW Z A (wX2 Z Ag g_nodes g_edges g_starts g_ends g_lengths g_items g_remaining) s.heap H locs → lv_has ls 5 [(0, .ref (Ag 0)), (1, .int v1), (2, .int b.1), (3, .int b.2)] → W p l e rmX2_firstEdge s m args below meth c H locs 0 0 (MQ below (zQi Z res (wX2 Z Ag g_nodes g_edges g_starts g_ends g_lengths g_items g_remaining) A) args s 0 0 A) (F0 m 17 ls [])) (hr1 : ∀ r' , q1 = .inr r' → r' = res) {H : Heap} {locs : List Loc} {ls : Array Slot} (hw : zW Z A (wX2 Z Ag g_nodes g_edges g_starts g_ends g_lengths g_items g_remaining) s.heap H locs) (hl : lv_has ls 5 [(0, .ref (Ag 0)), (1, .int v1), (3, .int v3)]) (h : uX2_firstEdge_80 v3 = some q1) : W p l e rmX2_firstEdge s m args below meth c H locs 0 0 (MQ below (zQi Z res (wX2 Z Ag g_nodes g_edges g_starts g_ends g_lengths g_items g_remaining) A) args s 0 0 A) (F0 m 80 ls []) := by
  unfold uX2_firstEdge_80 at h
  refine r_iload_n E hl 2 rfl dX2_firstEdge_80 rfl ?_
  refine r_istore_n E [(2, .int v3), (0, .ref (Ag 0)), (1, .int v1), (3, .int v3)] hl dX2_firstEdge_81 rfl (by decide) rfl (fun ls hl => ?_)
  exact vX2_firstEdge_82 E hb1 hr1 hw (lv_sub hl [1, 2, 0, 3] rfl) h
set_option maxRecDepth 100000 in
set_option maxHeartbeats 4000000 in
theorem vX2_firstEdge_54 {Z : zT} {p : Program} {l : Launch} {e : Env} {s : State} {m : MethodId} {args : Array Value} {below : List Frame} {meth : Method} {c : Code} {A : Nat → Prop} (E : zE Z p s m args meth c RX2 cX2_firstEdge 5 (some .int) A) {Ag : Nat → Nat} {v1 : Int32} {v2 : Int32} {v3 : Int32} {k0 : Int32} {g_nodes : Int32} {g_edges : Int32} {g_starts : (Nat → Int32)} {g_ends : (Nat → Int32)} {g_lengths : (Nat → Int32)} {g_items : (Nat → Int32)} {g_remaining : (Nat → Int32)} {res : Int32} {q1 : (Int32 × Int32) ⊕ (Int32)} (hb1 : ∀ b : Int32 × Int32, q1 = .inl b → ∀ (H : Heap) (locs : List Loc) (ls : Array Slot), zW Z A (wX2 Z Ag g_nodes g_edges g_starts g_ends g_lengths g_items g_remaining) s.heap H locs → lv_has ls 5 [(0, .ref (Ag 0)), (1, .int v1), (2, .int b.1), (3, .int b.2)] → W p l e rmX2_firstEdge s m args below meth c H locs 0 0 (MQ below (zQi Z res (wX2 Z Ag g_nodes g_edges g_starts g_ends g_lengths g_items g_remaining) A) args s 0 0 A) (F0 m 17 ls [])) (hr1 : ∀ r' , q1 = .inr r' → r' = res) {H : Heap} {locs : List Loc} {ls : Array Slot} (hw : zW Z A (wX2 Z Ag g_nodes g_edges g_starts g_ends g_lengths g_items g_remaining) s.heap H locs) (hl : lv_has ls 5 [(0, .ref (Ag 0)), (1, .int v1), (2, .int v2), (3, .int v3)]) (h : uX2_firstEdge_54 v2 v3 k0 g_ends = some q1) : W p l e rmX2_firstEdge s m args below meth c H locs 0 0 (MQ below (zQi Z res (wX2 Z Ag g_nodes g_edges g_starts g_ends g_lengths g_items g_remaining) A) args s 0 0 A) (F0 m 54 ls [.int k0]) := by
  unfold uX2_firstEdge_54 at h
  refine r_istore E [(4, .int k0), (0, .ref (Ag 0)), (1, .int v1), (2, .int v2), (3, .int v3)] hl dX2_firstEdge_54 (by decide) rfl (fun ls hl => ?_)
  refine r_iload E hl 0 rfl dX2_firstEdge_56 ?_
  refine r_if_eq E 82 dX2_firstEdge_58 (by decide) (fun hc => ?_) (fun hc => ?_)
  · replace h := ite_t hc h
    exact vX2_firstEdge_82 E hb1 hr1 hw (lv_sub hl [1, 2, 3, 4] rfl) h
  · replace h := ite_f hc h
    refine r_iload_n E hl 3 rfl dX2_firstEdge_61 rfl ?_
    refine r_if_lt E 80 dX2_firstEdge_62 (by decide) (fun hc => ?_) (fun hc => ?_)
    · replace h := ite_t hc h
      exact vX2_firstEdge_80 E hb1 hr1 hw (lv_sub hl [1, 2, 4] rfl) h
    · replace h := ite_f hc h
      refine r_aload_n E hl 1 rfl dX2_firstEdge_65 rfl ?_
      refine r_get E kW_X2 hw 0 rfl rfl 3 (by decide) kF_X2_22 rfl dX2_firstEdge_66 ?_
      refine r_iload_n E hl 4 rfl dX2_firstEdge_69 rfl ?_
      obtain ⟨hg5, h⟩ := gd_some h
      refine r_iald E hw 2 rfl hg5 dX2_firstEdge_70 ?_
      refine r_aload_n E hl 1 rfl dX2_firstEdge_71 rfl ?_
      refine r_get E kW_X2 hw 0 rfl rfl 3 (by decide) kF_X2_22 rfl dX2_firstEdge_72 ?_
      refine r_iload_n E hl 3 rfl dX2_firstEdge_75 rfl ?_
      obtain ⟨hg6, h⟩ := gd_some h
      refine r_iald E hw 2 rfl hg6 dX2_firstEdge_76 ?_
      refine r_icmp_ge E 82 dX2_firstEdge_77 (by decide) (fun hc => ?_) (fun hc => ?_)
      · replace h := ite_t hc h
        exact vX2_firstEdge_82 E hb1 hr1 hw (lv_sub hl [1, 2, 3, 4] rfl) h
      · replace h := ite_f hc h
        exact vX2_firstEdge_80 E hb1 hr1 hw (lv_sub hl [1, 2, 4] rfl) h
set_option maxRecDepth 100000 in
set_option maxHeartbeats 4000000 in
theorem vX2_firstEdge_53 {Z : zT} {p : Program} {l : Launch} {e : Env} {s : State} {m : MethodId} {args : Array Value} {below : List Frame} {meth : Method} {c : Code} {A : Nat → Prop} (E : zE Z p s m args meth c RX2 cX2_firstEdge 5 (some .int) A) {Ag : Nat → Nat} {v1 : Int32} {v2 : Int32} {v3 : Int32} {g_nodes : Int32} {g_edges : Int32} {g_starts : (Nat → Int32)} {g_ends : (Nat → Int32)} {g_lengths : (Nat → Int32)} {g_items : (Nat → Int32)} {g_remaining : (Nat → Int32)} {res : Int32} {q1 : (Int32 × Int32) ⊕ (Int32)} (hb1 : ∀ b : Int32 × Int32, q1 = .inl b → ∀ (H : Heap) (locs : List Loc) (ls : Array Slot), zW Z A (wX2 Z Ag g_nodes g_edges g_starts g_ends g_lengths g_items g_remaining) s.heap H locs → lv_has ls 5 [(0, .ref (Ag 0)), (1, .int v1), (2, .int b.1), (3, .int b.2)] → W p l e rmX2_firstEdge s m args below meth c H locs 0 0 (MQ below (zQi Z res (wX2 Z Ag g_nodes g_edges g_starts g_ends g_lengths g_items g_remaining) A) args s 0 0 A) (F0 m 17 ls [])) (hr1 : ∀ r' , q1 = .inr r' → r' = res) {H : Heap} {locs : List Loc} {ls : Array Slot} (hw : zW Z A (wX2 Z Ag g_nodes g_edges g_starts g_ends g_lengths g_items g_remaining) s.heap H locs) (hl : lv_has ls 5 [(0, .ref (Ag 0)), (1, .int v1), (2, .int v2), (3, .int v3)]) (h : uX2_firstEdge_53 v2 v3 g_ends = some q1) : W p l e rmX2_firstEdge s m args below meth c H locs 0 0 (MQ below (zQi Z res (wX2 Z Ag g_nodes g_edges g_starts g_ends g_lengths g_items g_remaining) A) args s 0 0 A) (F0 m 53 ls []) := by
  unfold uX2_firstEdge_53 at h
  refine r_iconst E 0 dX2_firstEdge_53 (by decide) ?_
  exact vX2_firstEdge_54 E hb1 hr1 hw hl h
set_option maxRecDepth 100000 in
set_option maxHeartbeats 4000000 in
theorem tX2_firstEdge_17 {Z : zT} {p : Program} {l : Launch} {e : Env} {s : State} {m : MethodId} {args : Array Value} {below : List Frame} {meth : Method} {c : Code} {A : Nat → Prop} (E : zE Z p s m args meth c RX2 cX2_firstEdge 5 (some .int) A) {Ag : Nat → Nat} {v1 : Int32} {g_nodes : Int32} {g_edges : Int32} {g_starts : (Nat → Int32)} {g_ends : (Nat → Int32)} {g_lengths : (Nat → Int32)} {g_items : (Nat → Int32)} {g_remaining : (Nat → Int32)} {res : Int32}  : ∀ (n : Nat) (v2 : Int32) (v3 : Int32) (H : Heap) (locs : List Loc) (ls : Array Slot), iter (fun b : Int32 × Int32 => sX2_firstEdge_17 v1 g_edges g_starts g_ends g_lengths g_remaining b.1 b.2) n (v2, v3) = some res → zW Z A (wX2 Z Ag g_nodes g_edges g_starts g_ends g_lengths g_items g_remaining) s.heap H locs → lv_has ls 5 [(0, .ref (Ag 0)), (1, .int v1), (2, .int v2), (3, .int v3)] → W p l e rmX2_firstEdge s m args below meth c H locs 0 0 (MQ below (zQi Z res (wX2 Z Ag g_nodes g_edges g_starts g_ends g_lengths g_items g_remaining) A) args s 0 0 A) (F0 m 17 ls []) := by
  intro n
  induction n with
  | zero => intro v2 v3 H locs ls h; cases h
  | succ n ih =>
    intro v2 v3 H locs ls h hw hl
    obtain ⟨q1, h, hn1, hr1⟩ := iter_out h
    have hb1 : ∀ b : Int32 × Int32, q1 = .inl b → ∀ (H : Heap) (locs : List Loc) (ls : Array Slot), zW Z A (wX2 Z Ag g_nodes g_edges g_starts g_ends g_lengths g_items g_remaining) s.heap H locs → lv_has ls 5 [(0, .ref (Ag 0)), (1, .int v1), (2, .int b.1), (3, .int b.2)] → W p l e rmX2_firstEdge s m args below meth c H locs 0 0 (MQ below (zQi Z res (wX2 Z Ag g_nodes g_edges g_starts g_ends g_lengths g_items g_remaining) A) args s 0 0 A) (F0 m 17 ls []) := fun b eb H locs ls hw hl => ih b.1 b.2 H locs ls (hn1 b eb) hw hl
    replace h : sX2_firstEdge_17 v1 g_edges g_starts g_ends g_lengths g_remaining v2 v3 = some q1 := h
    unfold sX2_firstEdge_17 at h
    refine r_iload_n E hl 3 rfl dX2_firstEdge_17 rfl ?_
    refine r_aload_n E hl 0 rfl dX2_firstEdge_18 rfl ?_
    refine r_get E kW_X2 hw 0 rfl rfl 1 (by decide) kF_X2_15 rfl dX2_firstEdge_19 ?_
    refine r_icmp_ge E 88 dX2_firstEdge_22 (by decide) (fun hc => ?_) (fun hc => ?_)
    · replace h := ite_t hc h
      obtain ⟨ro2, h, hro2⟩ := oi_some h
      rw [hr1 _ hro2] at h
      refine r_iload_n E hl 2 rfl dX2_firstEdge_88 rfl ?_
      obtain rfl := Option.some.inj h
      exact r_iret E hw dX2_firstEdge_89
    · replace h := ite_f hc h
      refine r_aload_n E hl 0 rfl dX2_firstEdge_25 rfl ?_
      refine r_get E kW_X2 hw 0 rfl rfl 2 (by decide) kF_X2_18 rfl dX2_firstEdge_26 ?_
      refine r_iload_n E hl 3 rfl dX2_firstEdge_29 rfl ?_
      obtain ⟨hg3, h⟩ := gd_some h
      refine r_iald E hw 1 rfl hg3 dX2_firstEdge_30 ?_
      refine r_iload_n E hl 1 rfl dX2_firstEdge_31 rfl ?_
      refine r_icmp_ne E 53 dX2_firstEdge_32 (by decide) (fun hc => ?_) (fun hc => ?_)
      · replace h := ite_f hc h
        exact vX2_firstEdge_53 E hb1 hr1 hw hl h
      · replace h := ite_t hc h
        refine r_aload_n E hl 0 rfl dX2_firstEdge_35 rfl ?_
        refine r_iload_n E hl 3 rfl dX2_firstEdge_36 rfl ?_
        obtain ⟨y7, hy7, h⟩ := bd_some h
        refine r_callVAi E hw (mX2_lengthOver l Z _ Ag g_nodes g_edges g_starts g_ends g_lengths g_items g_remaining v3 hy7) kL_X2_107 kI_X2_lengthOver kS_X2_lengthOver kN_X2 kC_X2_lengthOver rfl rfl hdX2_lengthOver ⟨Nat.le_of_ble_eq_true rfl, Nat.le_of_ble_eq_true rfl⟩ 0 rfl rfl rfl rfl hl [] rfl (Nat.le_of_ble_eq_true rfl) dX2_firstEdge_37 ⟨Nat.zero_le _, Nat.zero_le _⟩ (fun H locs hw => ?_)
        refine r_aload_n E hl 0 rfl dX2_firstEdge_40 rfl ?_
        refine r_get E kW_X2 hw 0 rfl rfl 6 (by decide) kF_X2_31 rfl dX2_firstEdge_41 ?_
        refine r_iload_n E hl 1 rfl dX2_firstEdge_44 rfl ?_
        obtain ⟨hg8, h⟩ := gd_some h
        refine r_iald E hw 5 rfl hg8 dX2_firstEdge_45 ?_
        refine r_icmp_ne E 53 dX2_firstEdge_46 (by decide) (fun hc => ?_) (fun hc => ?_)
        · replace h := ite_f hc h
          exact vX2_firstEdge_53 E hb1 hr1 hw hl h
        · replace h := ite_t hc h
          refine r_iconst E 1 dX2_firstEdge_49 (by decide) ?_
          refine r_goto E 54 dX2_firstEdge_50 (by decide) ?_
          exact vX2_firstEdge_54 E hb1 hr1 hw hl h
set_option maxRecDepth 100000 in
set_option maxHeartbeats 4000000 in
theorem mX2_firstEdge (l : Launch) (Z : zT) (sz : Nat) (Ag : Nat → Nat) (g_nodes : Int32) (g_edges : Int32) (g_starts : (Nat → Int32)) (g_ends : (Nat → Int32)) (g_lengths : (Nat → Int32)) (g_items : (Nat → Int32)) (g_remaining : (Nat → Int32)) (v1 : Int32) {res : Int32} (h : fX2_firstEdge v1 g_edges g_starts g_ends g_lengths g_remaining = some res) : Met l yX2_firstEdge (Cond.code yX2_firstEdge cX2_firstEdge 5 (some .int) :: zWs) rmX2_firstEdge (zP Z (wX2 Z Ag g_nodes g_edges g_starts g_ends g_lengths g_items g_remaining) sz [.ref (Ag 0), .int v1]) (zQi Z res (wX2 Z Ag g_nodes g_edges g_starts g_ends g_lengths g_items g_remaining) (va_A (wX2 Z Ag g_nodes g_edges g_starts g_ends g_lengths g_items g_remaining) sz)) 0 0 (va_A (wX2 Z Ag g_nodes g_edges g_starts g_ends g_lengths g_items g_remaining) sz) := by
  refine zMet (own := RX2) (fun A => zQi Z res (wX2 Z Ag g_nodes g_edges g_starts g_ends g_lengths g_items g_remaining) A) (by decide) rfl (Nat.le_of_ble_eq_true rfl) ?_
  intro p e s m args below meth c ls A E hw hl
  unfold fX2_firstEdge at h
  refine r_iconst E (-1) dX2_firstEdge_0 (by decide) ?_
  refine r_istore_n E [(2, .int (-1 : Int32)), (0, .ref (Ag 0)), (1, .int v1)] hl dX2_firstEdge_1 rfl (by decide) rfl (fun ls hl => ?_)
  refine r_aload_n E hl 1 rfl dX2_firstEdge_2 rfl ?_
  refine r_get E kW_X2 hw 0 rfl rfl 6 (by decide) kF_X2_31 rfl dX2_firstEdge_3 ?_
  refine r_iload_n E hl 2 rfl dX2_firstEdge_6 rfl ?_
  obtain ⟨hg1, h⟩ := gd_some h
  refine r_iald E hw 5 rfl hg1 dX2_firstEdge_7 ?_
  refine r_ldc E (1000000) kQ_X2_100 dX2_firstEdge_8 ?_
  refine r_icmp_lt E 15 dX2_firstEdge_10 (by decide) (fun hc => ?_) (fun hc => ?_)
  · replace h := ite_t hc h
    refine r_iconst E 0 dX2_firstEdge_15 (by decide) ?_
    refine r_istore_n E [(3, .int (0 : Int32)), (2, .int (-1 : Int32)), (0, .ref (Ag 0)), (1, .int v1)] hl dX2_firstEdge_16 rfl (by decide) rfl (fun ls hl => ?_)
    obtain ⟨n9, h⟩ := wh_some h
    exact tX2_firstEdge_17 E  n9 _ _ _ _ _ h hw (lv_sub hl [2, 3, 1, 0] rfl)
  · replace h := ite_f hc h
    refine r_iload_n E hl 0 rfl dX2_firstEdge_13 rfl ?_
    obtain rfl := Option.some.inj h
    exact r_iret E hw dX2_firstEdge_14
