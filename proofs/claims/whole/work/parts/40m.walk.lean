abbrev rmX6_dropOldest : Room := { frames := 0, cells := 0, slots := 0, locals := 0 }

set_option maxRecDepth 100000 in
set_option maxHeartbeats 4000000 in
theorem mX6_dropOldest (l : Launch) (Z : zT) (sz : Nat) (Ao : Nat) (Ah : Nat) (An : Nat → Nat) (Ac : Nat → Nat) (Ar : Nat → Nat) (Af : Nat → Nat) (Ag : Nat → Nat) (Ap : Nat → Nat) (At : Nat → Nat) (o_historySize : Int32) (o_wayIsKept : Int32) (h_F : (Nat → Option Nat)) (h_G : (Nat → Nat → Nat)) (h_N : (Nat → zNet))  {res : Int32 × (Nat → Option Nat) × (Nat → Nat → Nat) × (Nat → zNet)} (h : fX6_dropOldest o_historySize h_F h_G h_N = some res) : Met l yX6_dropOldest (Cond.code yX6_dropOldest cX6_dropOldest 3 none :: zWs) rmX6_dropOldest (zP Z ((wX6 Z Ao Ah An Ac Ar Af Ag Ap At o_historySize o_wayIsKept ++ wH Z Ah h_F h_G h_N)) sz [.ref Ao]) (zQv Z ((wX6 Z Ao Ah An Ac Ar Af Ag Ap At res.1 o_wayIsKept ++ wH Z Ah res.2.1 res.2.2.1 res.2.2.2)) (va_A ((wX6 Z Ao Ah An Ac Ar Af Ag Ap At o_historySize o_wayIsKept ++ wH Z Ah h_F h_G h_N)) sz)) 0 0 (va_A ((wX6 Z Ao Ah An Ac Ar Af Ag Ap At o_historySize o_wayIsKept ++ wH Z Ah h_F h_G h_N)) sz) := by
  refine zMet (own := RX6) (fun A => zQv Z ((wX6 Z Ao Ah An Ac Ar Af Ag Ap At res.1 o_wayIsKept ++ wH Z Ah res.2.1 res.2.2.1 res.2.2.2)) A) (by decide) rfl (Nat.le_of_ble_eq_true rfl) ?_
  intro p e s m args below meth c ls A E hw hl
  unfold fX6_dropOldest at h
  refine r_aload_n E hl 0 rfl dX6_dropOldest_0 rfl ?_
  refine r_get E kW_X6 hw 0 rfl rfl 2 (by decide) kF_X6_19 rfl dX6_dropOldest_1 ?_
  refine r_iconst E 0 dX6_dropOldest_4 (by decide) ?_
  obtain ⟨hF1, h⟩ := gd_some h
  refine r_aald E hw 1 rfl (by unfold vp_in; decide) hF1 dX6_dropOldest_5 ?_
  refine r_astore_n E [(1, .ref (h_G 0 0)), (0, .ref Ao)] hl dX6_dropOldest_6 rfl (by decide) rfl (fun ls hl => ?_)
  refine r_iconst E 1 dX6_dropOldest_7 (by decide) ?_
  refine r_istore_n E [(2, .int (1 : Int32)), (1, .ref (h_G 0 0)), (0, .ref Ao)] hl dX6_dropOldest_8 rfl (by decide) rfl (fun ls hl => ?_)
  refine r_iload_n E hl 0 rfl dX6_dropOldest_9 rfl ?_
  refine r_iconst E 5 dX6_dropOldest_10 (by decide) ?_
  refine r_icmp_ge E 34 dX6_dropOldest_11 (by decide) (fun hx => absurd hx (by decide)) (fun _ => ?_)
  refine r_aload_n E hl 2 rfl dX6_dropOldest_14 rfl ?_
  refine r_get E kW_X6 hw 0 rfl rfl 2 (by decide) kF_X6_19 rfl dX6_dropOldest_15 ?_
  refine r_iload_n E hl 0 rfl dX6_dropOldest_18 rfl ?_
  refine r_iconst E 1 dX6_dropOldest_19 (by decide) ?_
  refine r_isub E dX6_dropOldest_20 ?_
  refine r_nm (show (0 : Int32) = (1 : Int32) - (1 : Int32) by decide) ?_
  refine r_aload_n E hl 2 rfl dX6_dropOldest_21 rfl ?_
  refine r_get E kW_X6 hw 0 rfl rfl 2 (by decide) kF_X6_19 rfl dX6_dropOldest_22 ?_
  refine r_iload_n E hl 0 rfl dX6_dropOldest_25 rfl ?_
  obtain ⟨hF2, h⟩ := gd_some h
  refine r_aald E hw 1 rfl (by unfold vp_in; decide) hF2 dX6_dropOldest_26 ?_
  refine r_aast E ((wX6 Z Ao Ah An Ac Ar Af Ag Ap At o_historySize o_wayIsKept ++ wH Z Ah (va_up h_F 0 (some (h_G 1 0))) h_G h_N)) hw 1 12 rfl rfl (by unfold vp_in; decide) 0 (by decide) rfl dX6_dropOldest_27 (fun H locs hw => ?_)
  refine r_iinc E 2 [(2, .int (2 : Int32)), (1, .ref (h_G 0 0)), (0, .ref Ao)] hl (k := 0) rfl dX6_dropOldest_28 (by decide) (by decide) rfl (fun ls hl => ?_)
  refine r_goto E 9 dX6_dropOldest_31 (by decide) ?_
  refine r_iload_n E hl 0 rfl dX6_dropOldest_9 rfl ?_
  refine r_iconst E 5 dX6_dropOldest_10 (by decide) ?_
  refine r_icmp_ge E 34 dX6_dropOldest_11 (by decide) (fun hx => absurd hx (by decide)) (fun _ => ?_)
  refine r_aload_n E hl 2 rfl dX6_dropOldest_14 rfl ?_
  refine r_get E kW_X6 hw 0 rfl rfl 2 (by decide) kF_X6_19 rfl dX6_dropOldest_15 ?_
  refine r_iload_n E hl 0 rfl dX6_dropOldest_18 rfl ?_
  refine r_iconst E 1 dX6_dropOldest_19 (by decide) ?_
  refine r_isub E dX6_dropOldest_20 ?_
  refine r_nm (show (1 : Int32) = (2 : Int32) - (1 : Int32) by decide) ?_
  refine r_aload_n E hl 2 rfl dX6_dropOldest_21 rfl ?_
  refine r_get E kW_X6 hw 0 rfl rfl 2 (by decide) kF_X6_19 rfl dX6_dropOldest_22 ?_
  refine r_iload_n E hl 0 rfl dX6_dropOldest_25 rfl ?_
  obtain ⟨hF3, h⟩ := gd_some h
  refine r_aald E hw 1 rfl (by unfold vp_in; decide) hF3 dX6_dropOldest_26 ?_
  refine r_aast E ((wX6 Z Ao Ah An Ac Ar Af Ag Ap At o_historySize o_wayIsKept ++ wH Z Ah (va_up (va_up h_F 0 (some (h_G 1 0))) 1 (some (h_G 2 0))) h_G h_N)) hw 1 22 rfl rfl (by unfold vp_in; decide) 1 (by decide) rfl dX6_dropOldest_27 (fun H locs hw => ?_)
  refine r_iinc E 3 [(2, .int (3 : Int32)), (1, .ref (h_G 0 0)), (0, .ref Ao)] hl (k := 0) rfl dX6_dropOldest_28 (by decide) (by decide) rfl (fun ls hl => ?_)
  refine r_goto E 9 dX6_dropOldest_31 (by decide) ?_
  refine r_iload_n E hl 0 rfl dX6_dropOldest_9 rfl ?_
  refine r_iconst E 5 dX6_dropOldest_10 (by decide) ?_
  refine r_icmp_ge E 34 dX6_dropOldest_11 (by decide) (fun hx => absurd hx (by decide)) (fun _ => ?_)
  refine r_aload_n E hl 2 rfl dX6_dropOldest_14 rfl ?_
  refine r_get E kW_X6 hw 0 rfl rfl 2 (by decide) kF_X6_19 rfl dX6_dropOldest_15 ?_
  refine r_iload_n E hl 0 rfl dX6_dropOldest_18 rfl ?_
  refine r_iconst E 1 dX6_dropOldest_19 (by decide) ?_
  refine r_isub E dX6_dropOldest_20 ?_
  refine r_nm (show (2 : Int32) = (3 : Int32) - (1 : Int32) by decide) ?_
  refine r_aload_n E hl 2 rfl dX6_dropOldest_21 rfl ?_
  refine r_get E kW_X6 hw 0 rfl rfl 2 (by decide) kF_X6_19 rfl dX6_dropOldest_22 ?_
  refine r_iload_n E hl 0 rfl dX6_dropOldest_25 rfl ?_
  obtain ⟨hF4, h⟩ := gd_some h
  refine r_aald E hw 1 rfl (by unfold vp_in; decide) hF4 dX6_dropOldest_26 ?_
  refine r_aast E ((wX6 Z Ao Ah An Ac Ar Af Ag Ap At o_historySize o_wayIsKept ++ wH Z Ah (va_up (va_up (va_up h_F 0 (some (h_G 1 0))) 1 (some (h_G 2 0))) 2 (some (h_G 3 0))) h_G h_N)) hw 1 32 rfl rfl (by unfold vp_in; decide) 2 (by decide) rfl dX6_dropOldest_27 (fun H locs hw => ?_)
  refine r_iinc E 4 [(2, .int (4 : Int32)), (1, .ref (h_G 0 0)), (0, .ref Ao)] hl (k := 0) rfl dX6_dropOldest_28 (by decide) (by decide) rfl (fun ls hl => ?_)
  refine r_goto E 9 dX6_dropOldest_31 (by decide) ?_
  refine r_iload_n E hl 0 rfl dX6_dropOldest_9 rfl ?_
  refine r_iconst E 5 dX6_dropOldest_10 (by decide) ?_
  refine r_icmp_ge E 34 dX6_dropOldest_11 (by decide) (fun hx => absurd hx (by decide)) (fun _ => ?_)
  refine r_aload_n E hl 2 rfl dX6_dropOldest_14 rfl ?_
  refine r_get E kW_X6 hw 0 rfl rfl 2 (by decide) kF_X6_19 rfl dX6_dropOldest_15 ?_
  refine r_iload_n E hl 0 rfl dX6_dropOldest_18 rfl ?_
  refine r_iconst E 1 dX6_dropOldest_19 (by decide) ?_
  refine r_isub E dX6_dropOldest_20 ?_
  refine r_nm (show (3 : Int32) = (4 : Int32) - (1 : Int32) by decide) ?_
  refine r_aload_n E hl 2 rfl dX6_dropOldest_21 rfl ?_
  refine r_get E kW_X6 hw 0 rfl rfl 2 (by decide) kF_X6_19 rfl dX6_dropOldest_22 ?_
  refine r_iload_n E hl 0 rfl dX6_dropOldest_25 rfl ?_
  obtain ⟨hF5, h⟩ := gd_some h
  refine r_aald E hw 1 rfl (by unfold vp_in; decide) hF5 dX6_dropOldest_26 ?_
  refine r_aast E ((wX6 Z Ao Ah An Ac Ar Af Ag Ap At o_historySize o_wayIsKept ++ wH Z Ah (va_up (va_up (va_up (va_up h_F 0 (some (h_G 1 0))) 1 (some (h_G 2 0))) 2 (some (h_G 3 0))) 3 (some (h_G 4 0))) h_G h_N)) hw 1 42 rfl rfl (by unfold vp_in; decide) 3 (by decide) rfl dX6_dropOldest_27 (fun H locs hw => ?_)
  refine r_iinc E 5 [(2, .int (5 : Int32)), (1, .ref (h_G 0 0)), (0, .ref Ao)] hl (k := 0) rfl dX6_dropOldest_28 (by decide) (by decide) rfl (fun ls hl => ?_)
  refine r_goto E 9 dX6_dropOldest_31 (by decide) ?_
  refine r_iload_n E hl 0 rfl dX6_dropOldest_9 rfl ?_
  refine r_iconst E 5 dX6_dropOldest_10 (by decide) ?_
  refine r_icmp_ge E 34 dX6_dropOldest_11 (by decide) (fun _ => ?_) (fun hx => absurd hx (by decide))
  refine r_aload_n E hl 2 rfl dX6_dropOldest_34 rfl ?_
  refine r_get E kW_X6 hw 0 rfl rfl 2 (by decide) kF_X6_19 rfl dX6_dropOldest_35 ?_
  refine r_iconst E 4 dX6_dropOldest_38 (by decide) ?_
  refine r_aload_n E hl 1 rfl dX6_dropOldest_39 rfl ?_
  refine r_aast E ((wX6 Z Ao Ah An Ac Ar Af Ag Ap At o_historySize o_wayIsKept ++ wH Z Ah (va_up (va_up (va_up (va_up (va_up h_F 0 (some (h_G 1 0))) 1 (some (h_G 2 0))) 2 (some (h_G 3 0))) 3 (some (h_G 4 0))) 4 (some (h_G 0 0))) h_G h_N)) hw 1 2 rfl rfl (by unfold vp_in; decide) 4 (by decide) rfl dX6_dropOldest_40 (fun H locs hw => ?_)
  refine r_aload_n E hl 2 rfl dX6_dropOldest_41 rfl ?_
  refine r_dup E dX6_dropOldest_42 rfl ?_
  refine r_get E kW_X6 hw 0 rfl rfl 3 (by decide) kF_X6_23 rfl dX6_dropOldest_43 ?_
  refine r_iconst E 1 dX6_dropOldest_46 (by decide) ?_
  refine r_isub E dX6_dropOldest_47 ?_
  refine r_put E ((wX6 Z Ao Ah An Ac Ar Af Ag Ap At (o_historySize - (1 : Int32)) o_wayIsKept ++ wH Z Ah (va_up (va_up (va_up (va_up (va_up h_F 0 (some (h_G 1 0))) 1 (some (h_G 2 0))) 2 (some (h_G 3 0))) 3 (some (h_G 4 0))) 4 (some (h_G 0 0))) h_G h_N)) kW_X6 tyX6_ok nmX6 hw 0 rfl rfl 3 (by decide) kF_X6_23 rfl rfl rfl (Nat.le_of_ble_eq_true rfl) rfl dX6_dropOldest_48 (fun H locs hw => ?_)
  replace hw := zW.sums (ws' := wX6 Z Ao Ah An Ac Ar Af Ag Ap At (o_historySize - (1 : Int32)) o_wayIsKept ++ (wHa Z Ah (va_up (va_up (va_up (va_up (va_up h_F 0 (some (h_G 1 0))) 1 (some (h_G 2 0))) 2 (some (h_G 3 0))) 3 (some (h_G 4 0))) 4 (some (h_G 0 0))) ++ wN Z (h_G 1) (h_N 1) ++ wN Z (h_G 2) (h_N 2) ++ wN Z (h_G 3) (h_N 3) ++ wN Z (h_G 4) (h_N 4) ++ wN Z (h_G 0) (h_N 0))) hw (fun f => by simp only [sf_app] <;> omega)
  replace hw : zW Z A ((wX6 Z Ao Ah An Ac Ar Af Ag Ap At (o_historySize - (1 : Int32)) o_wayIsKept ++ wH Z Ah (va_up (va_up (va_up (va_up (va_up h_F 0 (some (h_G 1 0))) 1 (some (h_G 2 0))) 2 (some (h_G 3 0))) 3 (some (h_G 4 0))) 4 (some (h_G 0 0))) (zRot h_G) (zRot h_N))) s.heap H locs := hw
  obtain rfl := Option.some.inj h
  exact r_vret E hw dX6_dropOldest_51
abbrev rmX6_beginAction : Room := { frames := 2, cells := 0, slots := 0, locals := 61 }

set_option maxRecDepth 100000 in
set_option maxHeartbeats 4000000 in
theorem vX6_beginAction_12 {Z : zT} {p : Program} {l : Launch} {e : Env} {s : State} {m : MethodId} {args : Array Value} {below : List Frame} {meth : Method} {c : Code} {A : Nat → Prop} (E : zE Z p s m args meth c RX6 cX6_beginAction 1 none A) {Ao Ah : Nat} {An Ac Ar Af Ag Ap At : Nat → Nat} {o_historySize : Int32} {o_wayIsKept : Int32} {n_nodes : Int32} {n_links : Int32} {n_tunnels : Int32} {n_messages : Int32} {n_areas : (Nat → Int32)} {n_firsts : (Nat → Int32)} {n_seconds : (Nat → Int32)} {n_privates : (Nat → Int32)} {n_entries : (Nat → Int32)} {n_exits : (Nat → Int32)} {n_truth : (Nat → Int32)} {n_facts : (Nat → Int32)} {n_news : (Nat → Int64)} {h_F : (Nat → Option Nat)} {h_G : (Nat → Nat → Nat)} {h_N : (Nat → zNet)} {res : Int32 × Int32 × (Nat → Option Nat) × (Nat → Nat → Nat) × (Nat → zNet)}  {H : Heap} {locs : List Loc} {ls : Array Slot} (hw : zW Z A ((wX6 Z Ao Ah An Ac Ar Af Ag Ap At o_historySize o_wayIsKept ++ wX3 Z An n_nodes n_links n_tunnels n_messages n_areas n_firsts n_seconds n_privates n_entries n_exits n_truth n_facts n_news ++ wH Z Ah h_F h_G h_N)) s.heap H locs) (hl : lv_has ls 1 [(0, .ref Ao)]) (h : uX6_beginAction_12 o_historySize n_nodes n_links n_tunnels n_messages n_areas n_firsts n_seconds n_privates n_entries n_exits n_truth n_facts n_news h_F h_G h_N = some res) : W p l e rmX6_beginAction s m args below meth c H locs 0 0 (MQ below (zQv Z ((wX6 Z Ao Ah An Ac Ar Af Ag Ap At res.1 res.2.1 ++ wX3 Z An n_nodes n_links n_tunnels n_messages n_areas n_firsts n_seconds n_privates n_entries n_exits n_truth n_facts n_news ++ wH Z Ah res.2.2.1 res.2.2.2.1 res.2.2.2.2)) A) args s 0 0 A) (F0 m 12 ls []) := by
  unfold uX6_beginAction_12 at h
  refine r_aload_n E hl 0 rfl dX6_beginAction_12 rfl ?_
  refine r_get E kW_X6 hw 0 rfl rfl 2 (by decide) kF_X6_19 rfl dX6_beginAction_13 ?_
  refine r_aload_n E hl 0 rfl dX6_beginAction_16 rfl ?_
  refine r_get E kW_X6 hw 0 rfl rfl 3 (by decide) kF_X6_23 rfl dX6_beginAction_17 ?_
  obtain ⟨hg2, h⟩ := gd_some h
  obtain ⟨i1, hi1, h⟩ := nm_out h
  obtain ⟨h5i1, h⟩ := gd_some h
  obtain ⟨hF3, h⟩ := gd_some h
  refine r_aald E hw 11 rfl hg2 (by rw [← hi1]; exact hF3) dX6_beginAction_20 ?_
  refine r_aload_n E hl 0 rfl dX6_beginAction_21 rfl ?_
  refine r_get E kW_X6 hw 0 rfl rfl 0 (by decide) kF_X6_12 rfl dX6_beginAction_22 ?_
  obtain ⟨y4, hy4, h⟩ := bd_some h
  revert hy4 h
  obtain rfl | rfl | rfl | rfl | rfl : i1 = 0 ∨ i1 = 1 ∨ i1 = 2 ∨ i1 = 3 ∨ i1 = 4 := by omega
  · intro hy4 h
    refine r_callVQv E (wX6 Z Ao Ah An Ac Ar Af Ag Ap At o_historySize o_wayIsKept ++ wX3 Z An n_nodes n_links n_tunnels n_messages n_areas n_firsts n_seconds n_privates n_entries n_exits n_truth n_facts n_news ++ (wHa Z Ah h_F ++ wN Z (h_G 0) y4 ++ wN Z (h_G 1) (h_N 1) ++ wN Z (h_G 2) (h_N 2) ++ wN Z (h_G 3) (h_N 3) ++ wN Z (h_G 4) (h_N 4))) (wX6 Z Ao Ah An Ac Ar Af Ag Ap At o_historySize o_wayIsKept ++ wHa Z Ah h_F ++ wN Z (h_G 1) (h_N 1) ++ wN Z (h_G 2) (h_N 2) ++ wN Z (h_G 3) (h_N 3) ++ wN Z (h_G 4) (h_N 4)) hw (mX3_copyFrom l Z _ (h_G 0) An ((h_N 0).1) ((h_N 0).2.1) ((h_N 0).2.2.1) ((h_N 0).2.2.2.1) ((h_N 0).2.2.2.2.1) ((h_N 0).2.2.2.2.2.1) ((h_N 0).2.2.2.2.2.2.1) ((h_N 0).2.2.2.2.2.2.2.1) ((h_N 0).2.2.2.2.2.2.2.2.1) ((h_N 0).2.2.2.2.2.2.2.2.2.1) ((h_N 0).2.2.2.2.2.2.2.2.2.2.1) ((h_N 0).2.2.2.2.2.2.2.2.2.2.2.1) ((h_N 0).2.2.2.2.2.2.2.2.2.2.2.2) n_nodes n_links n_tunnels n_messages n_areas n_firsts n_seconds n_privates n_entries n_exits n_truth n_facts n_news hy4) kL_X6_145 kI_X3_copyFrom kS_X3_copyFrom kN_X3 kC_X3_copyFrom rfl rfl hdX3_copyFrom ⟨Nat.le_of_ble_eq_true rfl, Nat.le_of_ble_eq_true rfl⟩ (fun f => by simp only [sf_app, wN] <;> omega) (fun f => by simp only [sf_app, wN] <;> omega) 12 rfl rfl rfl rfl hl [] rfl (Nat.le_of_ble_eq_true rfl) dX6_beginAction_25 ⟨Nat.zero_le _, Nat.zero_le _⟩ (fun H locs hw => ?_)
    replace hw : zW Z A ((wX6 Z Ao Ah An Ac Ar Af Ag Ap At o_historySize o_wayIsKept ++ wX3 Z An n_nodes n_links n_tunnels n_messages n_areas n_firsts n_seconds n_privates n_entries n_exits n_truth n_facts n_news ++ wH Z Ah h_F h_G (va_up h_N 0 y4))) s.heap H locs := hw
    refine r_aload_n E hl 0 rfl dX6_beginAction_28 rfl ?_
    refine r_dup E dX6_beginAction_29 rfl ?_
    refine r_get E kW_X6 hw 0 rfl rfl 3 (by decide) kF_X6_23 rfl dX6_beginAction_30 ?_
    refine r_iconst E 1 dX6_beginAction_33 (by decide) ?_
    refine r_iadd E dX6_beginAction_34 ?_
    refine r_put E ((wX6 Z Ao Ah An Ac Ar Af Ag Ap At (o_historySize + (1 : Int32)) o_wayIsKept ++ wX3 Z An n_nodes n_links n_tunnels n_messages n_areas n_firsts n_seconds n_privates n_entries n_exits n_truth n_facts n_news ++ wH Z Ah h_F h_G (va_up h_N 0 y4))) kW_X6 tyX6_ok nmX6 hw 0 rfl rfl 3 (by decide) kF_X6_23 rfl rfl rfl (Nat.le_of_ble_eq_true rfl) rfl dX6_beginAction_35 (fun H locs hw => ?_)
    refine r_aload_n E hl 0 rfl dX6_beginAction_38 rfl ?_
    refine r_iconst E 0 dX6_beginAction_39 (by decide) ?_
    refine r_put E ((wX6 Z Ao Ah An Ac Ar Af Ag Ap At (o_historySize + (1 : Int32)) (0 : Int32) ++ wX3 Z An n_nodes n_links n_tunnels n_messages n_areas n_firsts n_seconds n_privates n_entries n_exits n_truth n_facts n_news ++ wH Z Ah h_F h_G (va_up h_N 0 y4))) kW_X6 tyX6_ok nmX6 hw 0 rfl rfl 9 (by decide) kF_X6_58 rfl rfl rfl (Nat.le_of_ble_eq_true rfl) rfl dX6_beginAction_40 (fun H locs hw => ?_)
    obtain rfl := Option.some.inj h
    exact r_vret E hw dX6_beginAction_43
  · intro hy4 h
    refine r_callVQv E (wX6 Z Ao Ah An Ac Ar Af Ag Ap At o_historySize o_wayIsKept ++ wX3 Z An n_nodes n_links n_tunnels n_messages n_areas n_firsts n_seconds n_privates n_entries n_exits n_truth n_facts n_news ++ (wHa Z Ah h_F ++ wN Z (h_G 0) (h_N 0) ++ wN Z (h_G 1) y4 ++ wN Z (h_G 2) (h_N 2) ++ wN Z (h_G 3) (h_N 3) ++ wN Z (h_G 4) (h_N 4))) (wX6 Z Ao Ah An Ac Ar Af Ag Ap At o_historySize o_wayIsKept ++ wHa Z Ah h_F ++ wN Z (h_G 0) (h_N 0) ++ wN Z (h_G 2) (h_N 2) ++ wN Z (h_G 3) (h_N 3) ++ wN Z (h_G 4) (h_N 4)) hw (mX3_copyFrom l Z _ (h_G 1) An ((h_N 1).1) ((h_N 1).2.1) ((h_N 1).2.2.1) ((h_N 1).2.2.2.1) ((h_N 1).2.2.2.2.1) ((h_N 1).2.2.2.2.2.1) ((h_N 1).2.2.2.2.2.2.1) ((h_N 1).2.2.2.2.2.2.2.1) ((h_N 1).2.2.2.2.2.2.2.2.1) ((h_N 1).2.2.2.2.2.2.2.2.2.1) ((h_N 1).2.2.2.2.2.2.2.2.2.2.1) ((h_N 1).2.2.2.2.2.2.2.2.2.2.2.1) ((h_N 1).2.2.2.2.2.2.2.2.2.2.2.2) n_nodes n_links n_tunnels n_messages n_areas n_firsts n_seconds n_privates n_entries n_exits n_truth n_facts n_news hy4) kL_X6_145 kI_X3_copyFrom kS_X3_copyFrom kN_X3 kC_X3_copyFrom rfl rfl hdX3_copyFrom ⟨Nat.le_of_ble_eq_true rfl, Nat.le_of_ble_eq_true rfl⟩ (fun f => by simp only [sf_app, wN] <;> omega) (fun f => by simp only [sf_app, wN] <;> omega) 22 rfl rfl rfl rfl hl [] rfl (Nat.le_of_ble_eq_true rfl) dX6_beginAction_25 ⟨Nat.zero_le _, Nat.zero_le _⟩ (fun H locs hw => ?_)
    replace hw : zW Z A ((wX6 Z Ao Ah An Ac Ar Af Ag Ap At o_historySize o_wayIsKept ++ wX3 Z An n_nodes n_links n_tunnels n_messages n_areas n_firsts n_seconds n_privates n_entries n_exits n_truth n_facts n_news ++ wH Z Ah h_F h_G (va_up h_N 1 y4))) s.heap H locs := hw
    refine r_aload_n E hl 0 rfl dX6_beginAction_28 rfl ?_
    refine r_dup E dX6_beginAction_29 rfl ?_
    refine r_get E kW_X6 hw 0 rfl rfl 3 (by decide) kF_X6_23 rfl dX6_beginAction_30 ?_
    refine r_iconst E 1 dX6_beginAction_33 (by decide) ?_
    refine r_iadd E dX6_beginAction_34 ?_
    refine r_put E ((wX6 Z Ao Ah An Ac Ar Af Ag Ap At (o_historySize + (1 : Int32)) o_wayIsKept ++ wX3 Z An n_nodes n_links n_tunnels n_messages n_areas n_firsts n_seconds n_privates n_entries n_exits n_truth n_facts n_news ++ wH Z Ah h_F h_G (va_up h_N 1 y4))) kW_X6 tyX6_ok nmX6 hw 0 rfl rfl 3 (by decide) kF_X6_23 rfl rfl rfl (Nat.le_of_ble_eq_true rfl) rfl dX6_beginAction_35 (fun H locs hw => ?_)
    refine r_aload_n E hl 0 rfl dX6_beginAction_38 rfl ?_
    refine r_iconst E 0 dX6_beginAction_39 (by decide) ?_
    refine r_put E ((wX6 Z Ao Ah An Ac Ar Af Ag Ap At (o_historySize + (1 : Int32)) (0 : Int32) ++ wX3 Z An n_nodes n_links n_tunnels n_messages n_areas n_firsts n_seconds n_privates n_entries n_exits n_truth n_facts n_news ++ wH Z Ah h_F h_G (va_up h_N 1 y4))) kW_X6 tyX6_ok nmX6 hw 0 rfl rfl 9 (by decide) kF_X6_58 rfl rfl rfl (Nat.le_of_ble_eq_true rfl) rfl dX6_beginAction_40 (fun H locs hw => ?_)
    obtain rfl := Option.some.inj h
    exact r_vret E hw dX6_beginAction_43
  · intro hy4 h
    refine r_callVQv E (wX6 Z Ao Ah An Ac Ar Af Ag Ap At o_historySize o_wayIsKept ++ wX3 Z An n_nodes n_links n_tunnels n_messages n_areas n_firsts n_seconds n_privates n_entries n_exits n_truth n_facts n_news ++ (wHa Z Ah h_F ++ wN Z (h_G 0) (h_N 0) ++ wN Z (h_G 1) (h_N 1) ++ wN Z (h_G 2) y4 ++ wN Z (h_G 3) (h_N 3) ++ wN Z (h_G 4) (h_N 4))) (wX6 Z Ao Ah An Ac Ar Af Ag Ap At o_historySize o_wayIsKept ++ wHa Z Ah h_F ++ wN Z (h_G 0) (h_N 0) ++ wN Z (h_G 1) (h_N 1) ++ wN Z (h_G 3) (h_N 3) ++ wN Z (h_G 4) (h_N 4)) hw (mX3_copyFrom l Z _ (h_G 2) An ((h_N 2).1) ((h_N 2).2.1) ((h_N 2).2.2.1) ((h_N 2).2.2.2.1) ((h_N 2).2.2.2.2.1) ((h_N 2).2.2.2.2.2.1) ((h_N 2).2.2.2.2.2.2.1) ((h_N 2).2.2.2.2.2.2.2.1) ((h_N 2).2.2.2.2.2.2.2.2.1) ((h_N 2).2.2.2.2.2.2.2.2.2.1) ((h_N 2).2.2.2.2.2.2.2.2.2.2.1) ((h_N 2).2.2.2.2.2.2.2.2.2.2.2.1) ((h_N 2).2.2.2.2.2.2.2.2.2.2.2.2) n_nodes n_links n_tunnels n_messages n_areas n_firsts n_seconds n_privates n_entries n_exits n_truth n_facts n_news hy4) kL_X6_145 kI_X3_copyFrom kS_X3_copyFrom kN_X3 kC_X3_copyFrom rfl rfl hdX3_copyFrom ⟨Nat.le_of_ble_eq_true rfl, Nat.le_of_ble_eq_true rfl⟩ (fun f => by simp only [sf_app, wN] <;> omega) (fun f => by simp only [sf_app, wN] <;> omega) 32 rfl rfl rfl rfl hl [] rfl (Nat.le_of_ble_eq_true rfl) dX6_beginAction_25 ⟨Nat.zero_le _, Nat.zero_le _⟩ (fun H locs hw => ?_)
    replace hw : zW Z A ((wX6 Z Ao Ah An Ac Ar Af Ag Ap At o_historySize o_wayIsKept ++ wX3 Z An n_nodes n_links n_tunnels n_messages n_areas n_firsts n_seconds n_privates n_entries n_exits n_truth n_facts n_news ++ wH Z Ah h_F h_G (va_up h_N 2 y4))) s.heap H locs := hw
    refine r_aload_n E hl 0 rfl dX6_beginAction_28 rfl ?_
    refine r_dup E dX6_beginAction_29 rfl ?_
    refine r_get E kW_X6 hw 0 rfl rfl 3 (by decide) kF_X6_23 rfl dX6_beginAction_30 ?_
    refine r_iconst E 1 dX6_beginAction_33 (by decide) ?_
    refine r_iadd E dX6_beginAction_34 ?_
    refine r_put E ((wX6 Z Ao Ah An Ac Ar Af Ag Ap At (o_historySize + (1 : Int32)) o_wayIsKept ++ wX3 Z An n_nodes n_links n_tunnels n_messages n_areas n_firsts n_seconds n_privates n_entries n_exits n_truth n_facts n_news ++ wH Z Ah h_F h_G (va_up h_N 2 y4))) kW_X6 tyX6_ok nmX6 hw 0 rfl rfl 3 (by decide) kF_X6_23 rfl rfl rfl (Nat.le_of_ble_eq_true rfl) rfl dX6_beginAction_35 (fun H locs hw => ?_)
    refine r_aload_n E hl 0 rfl dX6_beginAction_38 rfl ?_
    refine r_iconst E 0 dX6_beginAction_39 (by decide) ?_
    refine r_put E ((wX6 Z Ao Ah An Ac Ar Af Ag Ap At (o_historySize + (1 : Int32)) (0 : Int32) ++ wX3 Z An n_nodes n_links n_tunnels n_messages n_areas n_firsts n_seconds n_privates n_entries n_exits n_truth n_facts n_news ++ wH Z Ah h_F h_G (va_up h_N 2 y4))) kW_X6 tyX6_ok nmX6 hw 0 rfl rfl 9 (by decide) kF_X6_58 rfl rfl rfl (Nat.le_of_ble_eq_true rfl) rfl dX6_beginAction_40 (fun H locs hw => ?_)
    obtain rfl := Option.some.inj h
    exact r_vret E hw dX6_beginAction_43
  · intro hy4 h
    refine r_callVQv E (wX6 Z Ao Ah An Ac Ar Af Ag Ap At o_historySize o_wayIsKept ++ wX3 Z An n_nodes n_links n_tunnels n_messages n_areas n_firsts n_seconds n_privates n_entries n_exits n_truth n_facts n_news ++ (wHa Z Ah h_F ++ wN Z (h_G 0) (h_N 0) ++ wN Z (h_G 1) (h_N 1) ++ wN Z (h_G 2) (h_N 2) ++ wN Z (h_G 3) y4 ++ wN Z (h_G 4) (h_N 4))) (wX6 Z Ao Ah An Ac Ar Af Ag Ap At o_historySize o_wayIsKept ++ wHa Z Ah h_F ++ wN Z (h_G 0) (h_N 0) ++ wN Z (h_G 1) (h_N 1) ++ wN Z (h_G 2) (h_N 2) ++ wN Z (h_G 4) (h_N 4)) hw (mX3_copyFrom l Z _ (h_G 3) An ((h_N 3).1) ((h_N 3).2.1) ((h_N 3).2.2.1) ((h_N 3).2.2.2.1) ((h_N 3).2.2.2.2.1) ((h_N 3).2.2.2.2.2.1) ((h_N 3).2.2.2.2.2.2.1) ((h_N 3).2.2.2.2.2.2.2.1) ((h_N 3).2.2.2.2.2.2.2.2.1) ((h_N 3).2.2.2.2.2.2.2.2.2.1) ((h_N 3).2.2.2.2.2.2.2.2.2.2.1) ((h_N 3).2.2.2.2.2.2.2.2.2.2.2.1) ((h_N 3).2.2.2.2.2.2.2.2.2.2.2.2) n_nodes n_links n_tunnels n_messages n_areas n_firsts n_seconds n_privates n_entries n_exits n_truth n_facts n_news hy4) kL_X6_145 kI_X3_copyFrom kS_X3_copyFrom kN_X3 kC_X3_copyFrom rfl rfl hdX3_copyFrom ⟨Nat.le_of_ble_eq_true rfl, Nat.le_of_ble_eq_true rfl⟩ (fun f => by simp only [sf_app, wN] <;> omega) (fun f => by simp only [sf_app, wN] <;> omega) 42 rfl rfl rfl rfl hl [] rfl (Nat.le_of_ble_eq_true rfl) dX6_beginAction_25 ⟨Nat.zero_le _, Nat.zero_le _⟩ (fun H locs hw => ?_)
    replace hw : zW Z A ((wX6 Z Ao Ah An Ac Ar Af Ag Ap At o_historySize o_wayIsKept ++ wX3 Z An n_nodes n_links n_tunnels n_messages n_areas n_firsts n_seconds n_privates n_entries n_exits n_truth n_facts n_news ++ wH Z Ah h_F h_G (va_up h_N 3 y4))) s.heap H locs := hw
    refine r_aload_n E hl 0 rfl dX6_beginAction_28 rfl ?_
    refine r_dup E dX6_beginAction_29 rfl ?_
    refine r_get E kW_X6 hw 0 rfl rfl 3 (by decide) kF_X6_23 rfl dX6_beginAction_30 ?_
    refine r_iconst E 1 dX6_beginAction_33 (by decide) ?_
    refine r_iadd E dX6_beginAction_34 ?_
    refine r_put E ((wX6 Z Ao Ah An Ac Ar Af Ag Ap At (o_historySize + (1 : Int32)) o_wayIsKept ++ wX3 Z An n_nodes n_links n_tunnels n_messages n_areas n_firsts n_seconds n_privates n_entries n_exits n_truth n_facts n_news ++ wH Z Ah h_F h_G (va_up h_N 3 y4))) kW_X6 tyX6_ok nmX6 hw 0 rfl rfl 3 (by decide) kF_X6_23 rfl rfl rfl (Nat.le_of_ble_eq_true rfl) rfl dX6_beginAction_35 (fun H locs hw => ?_)
    refine r_aload_n E hl 0 rfl dX6_beginAction_38 rfl ?_
    refine r_iconst E 0 dX6_beginAction_39 (by decide) ?_
    refine r_put E ((wX6 Z Ao Ah An Ac Ar Af Ag Ap At (o_historySize + (1 : Int32)) (0 : Int32) ++ wX3 Z An n_nodes n_links n_tunnels n_messages n_areas n_firsts n_seconds n_privates n_entries n_exits n_truth n_facts n_news ++ wH Z Ah h_F h_G (va_up h_N 3 y4))) kW_X6 tyX6_ok nmX6 hw 0 rfl rfl 9 (by decide) kF_X6_58 rfl rfl rfl (Nat.le_of_ble_eq_true rfl) rfl dX6_beginAction_40 (fun H locs hw => ?_)
    obtain rfl := Option.some.inj h
    exact r_vret E hw dX6_beginAction_43
  · intro hy4 h
    refine r_callVQv E (wX6 Z Ao Ah An Ac Ar Af Ag Ap At o_historySize o_wayIsKept ++ wX3 Z An n_nodes n_links n_tunnels n_messages n_areas n_firsts n_seconds n_privates n_entries n_exits n_truth n_facts n_news ++ (wHa Z Ah h_F ++ wN Z (h_G 0) (h_N 0) ++ wN Z (h_G 1) (h_N 1) ++ wN Z (h_G 2) (h_N 2) ++ wN Z (h_G 3) (h_N 3) ++ wN Z (h_G 4) y4)) (wX6 Z Ao Ah An Ac Ar Af Ag Ap At o_historySize o_wayIsKept ++ wHa Z Ah h_F ++ wN Z (h_G 0) (h_N 0) ++ wN Z (h_G 1) (h_N 1) ++ wN Z (h_G 2) (h_N 2) ++ wN Z (h_G 3) (h_N 3)) hw (mX3_copyFrom l Z _ (h_G 4) An ((h_N 4).1) ((h_N 4).2.1) ((h_N 4).2.2.1) ((h_N 4).2.2.2.1) ((h_N 4).2.2.2.2.1) ((h_N 4).2.2.2.2.2.1) ((h_N 4).2.2.2.2.2.2.1) ((h_N 4).2.2.2.2.2.2.2.1) ((h_N 4).2.2.2.2.2.2.2.2.1) ((h_N 4).2.2.2.2.2.2.2.2.2.1) ((h_N 4).2.2.2.2.2.2.2.2.2.2.1) ((h_N 4).2.2.2.2.2.2.2.2.2.2.2.1) ((h_N 4).2.2.2.2.2.2.2.2.2.2.2.2) n_nodes n_links n_tunnels n_messages n_areas n_firsts n_seconds n_privates n_entries n_exits n_truth n_facts n_news hy4) kL_X6_145 kI_X3_copyFrom kS_X3_copyFrom kN_X3 kC_X3_copyFrom rfl rfl hdX3_copyFrom ⟨Nat.le_of_ble_eq_true rfl, Nat.le_of_ble_eq_true rfl⟩ (fun f => by simp only [sf_app, wN] <;> omega) (fun f => by simp only [sf_app, wN] <;> omega) 52 rfl rfl rfl rfl hl [] rfl (Nat.le_of_ble_eq_true rfl) dX6_beginAction_25 ⟨Nat.zero_le _, Nat.zero_le _⟩ (fun H locs hw => ?_)
    replace hw : zW Z A ((wX6 Z Ao Ah An Ac Ar Af Ag Ap At o_historySize o_wayIsKept ++ wX3 Z An n_nodes n_links n_tunnels n_messages n_areas n_firsts n_seconds n_privates n_entries n_exits n_truth n_facts n_news ++ wH Z Ah h_F h_G (va_up h_N 4 y4))) s.heap H locs := hw
    refine r_aload_n E hl 0 rfl dX6_beginAction_28 rfl ?_
    refine r_dup E dX6_beginAction_29 rfl ?_
    refine r_get E kW_X6 hw 0 rfl rfl 3 (by decide) kF_X6_23 rfl dX6_beginAction_30 ?_
    refine r_iconst E 1 dX6_beginAction_33 (by decide) ?_
    refine r_iadd E dX6_beginAction_34 ?_
    refine r_put E ((wX6 Z Ao Ah An Ac Ar Af Ag Ap At (o_historySize + (1 : Int32)) o_wayIsKept ++ wX3 Z An n_nodes n_links n_tunnels n_messages n_areas n_firsts n_seconds n_privates n_entries n_exits n_truth n_facts n_news ++ wH Z Ah h_F h_G (va_up h_N 4 y4))) kW_X6 tyX6_ok nmX6 hw 0 rfl rfl 3 (by decide) kF_X6_23 rfl rfl rfl (Nat.le_of_ble_eq_true rfl) rfl dX6_beginAction_35 (fun H locs hw => ?_)
    refine r_aload_n E hl 0 rfl dX6_beginAction_38 rfl ?_
    refine r_iconst E 0 dX6_beginAction_39 (by decide) ?_
    refine r_put E ((wX6 Z Ao Ah An Ac Ar Af Ag Ap At (o_historySize + (1 : Int32)) (0 : Int32) ++ wX3 Z An n_nodes n_links n_tunnels n_messages n_areas n_firsts n_seconds n_privates n_entries n_exits n_truth n_facts n_news ++ wH Z Ah h_F h_G (va_up h_N 4 y4))) kW_X6 tyX6_ok nmX6 hw 0 rfl rfl 9 (by decide) kF_X6_58 rfl rfl rfl (Nat.le_of_ble_eq_true rfl) rfl dX6_beginAction_40 (fun H locs hw => ?_)
    obtain rfl := Option.some.inj h
    exact r_vret E hw dX6_beginAction_43
set_option maxRecDepth 100000 in
set_option maxHeartbeats 4000000 in
theorem mX6_beginAction (l : Launch) (Z : zT) (sz : Nat) (Ao : Nat) (Ah : Nat) (An : Nat → Nat) (Ac : Nat → Nat) (Ar : Nat → Nat) (Af : Nat → Nat) (Ag : Nat → Nat) (Ap : Nat → Nat) (At : Nat → Nat) (o_historySize : Int32) (o_wayIsKept : Int32) (n_nodes : Int32) (n_links : Int32) (n_tunnels : Int32) (n_messages : Int32) (n_areas : (Nat → Int32)) (n_firsts : (Nat → Int32)) (n_seconds : (Nat → Int32)) (n_privates : (Nat → Int32)) (n_entries : (Nat → Int32)) (n_exits : (Nat → Int32)) (n_truth : (Nat → Int32)) (n_facts : (Nat → Int32)) (n_news : (Nat → Int64)) (h_F : (Nat → Option Nat)) (h_G : (Nat → Nat → Nat)) (h_N : (Nat → zNet))  {res : Int32 × Int32 × (Nat → Option Nat) × (Nat → Nat → Nat) × (Nat → zNet)} (h : fX6_beginAction o_historySize n_nodes n_links n_tunnels n_messages n_areas n_firsts n_seconds n_privates n_entries n_exits n_truth n_facts n_news h_F h_G h_N = some res) : Met l yX6_beginAction (Cond.code yX6_beginAction cX6_beginAction 1 none :: zWs) rmX6_beginAction (zP Z ((wX6 Z Ao Ah An Ac Ar Af Ag Ap At o_historySize o_wayIsKept ++ wX3 Z An n_nodes n_links n_tunnels n_messages n_areas n_firsts n_seconds n_privates n_entries n_exits n_truth n_facts n_news ++ wH Z Ah h_F h_G h_N)) sz [.ref Ao]) (zQv Z ((wX6 Z Ao Ah An Ac Ar Af Ag Ap At res.1 res.2.1 ++ wX3 Z An n_nodes n_links n_tunnels n_messages n_areas n_firsts n_seconds n_privates n_entries n_exits n_truth n_facts n_news ++ wH Z Ah res.2.2.1 res.2.2.2.1 res.2.2.2.2)) (va_A ((wX6 Z Ao Ah An Ac Ar Af Ag Ap At o_historySize o_wayIsKept ++ wX3 Z An n_nodes n_links n_tunnels n_messages n_areas n_firsts n_seconds n_privates n_entries n_exits n_truth n_facts n_news ++ wH Z Ah h_F h_G h_N)) sz)) 0 0 (va_A ((wX6 Z Ao Ah An Ac Ar Af Ag Ap At o_historySize o_wayIsKept ++ wX3 Z An n_nodes n_links n_tunnels n_messages n_areas n_firsts n_seconds n_privates n_entries n_exits n_truth n_facts n_news ++ wH Z Ah h_F h_G h_N)) sz) := by
  refine zMet (own := RX6) (fun A => zQv Z ((wX6 Z Ao Ah An Ac Ar Af Ag Ap At res.1 res.2.1 ++ wX3 Z An n_nodes n_links n_tunnels n_messages n_areas n_firsts n_seconds n_privates n_entries n_exits n_truth n_facts n_news ++ wH Z Ah res.2.2.1 res.2.2.2.1 res.2.2.2.2)) A) (by decide) rfl (Nat.le_of_ble_eq_true rfl) ?_
  intro p e s m args below meth c ls A E hw hl
  unfold fX6_beginAction at h
  refine r_aload_n E hl 0 rfl dX6_beginAction_0 rfl ?_
  refine r_get E kW_X6 hw 0 rfl rfl 3 (by decide) kF_X6_23 rfl dX6_beginAction_1 ?_
  refine r_iconst E 5 dX6_beginAction_4 (by decide) ?_
  refine r_icmp_ne E 12 dX6_beginAction_5 (by decide) (fun hc => ?_) (fun hc => ?_)
  · replace h := ite_f hc h
    exact vX6_beginAction_12 E  hw hl h
  · replace h := ite_t hc h
    refine r_aload_n E hl 0 rfl dX6_beginAction_8 rfl ?_
    obtain ⟨y5, hy5, h⟩ := bd_some h
    refine r_callVQv E ((wX6 Z Ao Ah An Ac Ar Af Ag Ap At y5.1 o_wayIsKept ++ wX3 Z An n_nodes n_links n_tunnels n_messages n_areas n_firsts n_seconds n_privates n_entries n_exits n_truth n_facts n_news ++ wH Z Ah y5.2.1 y5.2.2.1 y5.2.2.2)) (wX3 Z An n_nodes n_links n_tunnels n_messages n_areas n_firsts n_seconds n_privates n_entries n_exits n_truth n_facts n_news) hw (mX6_dropOldest l Z _ Ao Ah An Ac Ar Af Ag Ap At o_historySize o_wayIsKept h_F h_G h_N hy5) kL_X6_263 kI_X6_dropOldest kS_X6_dropOldest kN_X6 kC_X6_dropOldest rfl rfl hdX6_dropOldest ⟨Nat.le_of_ble_eq_true rfl, Nat.le_of_ble_eq_true rfl⟩ (fun f => by simp only [sf_app] <;> omega) (fun f => by simp only [sf_app] <;> omega) 0 rfl rfl rfl rfl hl [] rfl (Nat.le_of_ble_eq_true rfl) dX6_beginAction_9 ⟨Nat.zero_le _, Nat.zero_le _⟩ (fun H locs hw => ?_)
    exact vX6_beginAction_12 E  hw hl h
abbrev rmX6_undo : Room := { frames := 2, cells := 0, slots := 0, locals := 61 }

set_option maxRecDepth 100000 in
set_option maxHeartbeats 4000000 in
theorem mX6_undo (l : Launch) (Z : zT) (sz : Nat) (Ao : Nat) (Ah : Nat) (An : Nat → Nat) (Ac : Nat → Nat) (Ar : Nat → Nat) (Af : Nat → Nat) (Ag : Nat → Nat) (Ap : Nat → Nat) (At : Nat → Nat) (o_historySize : Int32) (o_wayIsKept : Int32) (n_nodes : Int32) (n_links : Int32) (n_tunnels : Int32) (n_messages : Int32) (n_areas : (Nat → Int32)) (n_firsts : (Nat → Int32)) (n_seconds : (Nat → Int32)) (n_privates : (Nat → Int32)) (n_entries : (Nat → Int32)) (n_exits : (Nat → Int32)) (n_truth : (Nat → Int32)) (n_facts : (Nat → Int32)) (n_news : (Nat → Int64)) (h_F : (Nat → Option Nat)) (h_G : (Nat → Nat → Nat)) (h_N : (Nat → zNet))  {res : Int32 × Int32 × Int32 × Int32 × Int32 × Int32 × Int32 × (Nat → Int32) × (Nat → Int32) × (Nat → Int32) × (Nat → Int32) × (Nat → Int32) × (Nat → Int32) × (Nat → Int32) × (Nat → Int32) × (Nat → Int64)} (h : fX6_undo o_historySize o_wayIsKept n_nodes n_links n_tunnels n_messages n_areas n_firsts n_seconds n_privates n_entries n_exits n_truth n_facts n_news h_F h_G h_N = some res) : Met l yX6_undo (Cond.code yX6_undo cX6_undo 1 (some .int) :: zWs) rmX6_undo (zP Z ((wX6 Z Ao Ah An Ac Ar Af Ag Ap At o_historySize o_wayIsKept ++ wX3 Z An n_nodes n_links n_tunnels n_messages n_areas n_firsts n_seconds n_privates n_entries n_exits n_truth n_facts n_news ++ wH Z Ah h_F h_G h_N)) sz [.ref Ao]) (zQi Z res.1 ((wX6 Z Ao Ah An Ac Ar Af Ag Ap At res.2.1 res.2.2.1 ++ wX3 Z An res.2.2.2.1 res.2.2.2.2.1 res.2.2.2.2.2.1 res.2.2.2.2.2.2.1 res.2.2.2.2.2.2.2.1 res.2.2.2.2.2.2.2.2.1 res.2.2.2.2.2.2.2.2.2.1 res.2.2.2.2.2.2.2.2.2.2.1 res.2.2.2.2.2.2.2.2.2.2.2.1 res.2.2.2.2.2.2.2.2.2.2.2.2.1 res.2.2.2.2.2.2.2.2.2.2.2.2.2.1 res.2.2.2.2.2.2.2.2.2.2.2.2.2.2.1 res.2.2.2.2.2.2.2.2.2.2.2.2.2.2.2 ++ wH Z Ah h_F h_G h_N)) (va_A ((wX6 Z Ao Ah An Ac Ar Af Ag Ap At o_historySize o_wayIsKept ++ wX3 Z An n_nodes n_links n_tunnels n_messages n_areas n_firsts n_seconds n_privates n_entries n_exits n_truth n_facts n_news ++ wH Z Ah h_F h_G h_N)) sz)) 0 0 (va_A ((wX6 Z Ao Ah An Ac Ar Af Ag Ap At o_historySize o_wayIsKept ++ wX3 Z An n_nodes n_links n_tunnels n_messages n_areas n_firsts n_seconds n_privates n_entries n_exits n_truth n_facts n_news ++ wH Z Ah h_F h_G h_N)) sz) := by
  refine zMet (own := RX6) (fun A => zQi Z res.1 ((wX6 Z Ao Ah An Ac Ar Af Ag Ap At res.2.1 res.2.2.1 ++ wX3 Z An res.2.2.2.1 res.2.2.2.2.1 res.2.2.2.2.2.1 res.2.2.2.2.2.2.1 res.2.2.2.2.2.2.2.1 res.2.2.2.2.2.2.2.2.1 res.2.2.2.2.2.2.2.2.2.1 res.2.2.2.2.2.2.2.2.2.2.1 res.2.2.2.2.2.2.2.2.2.2.2.1 res.2.2.2.2.2.2.2.2.2.2.2.2.1 res.2.2.2.2.2.2.2.2.2.2.2.2.2.1 res.2.2.2.2.2.2.2.2.2.2.2.2.2.2.1 res.2.2.2.2.2.2.2.2.2.2.2.2.2.2.2 ++ wH Z Ah h_F h_G h_N)) A) (by decide) rfl (Nat.le_of_ble_eq_true rfl) ?_
  intro p e s m args below meth c ls A E hw hl
  unfold fX6_undo at h
  refine r_aload_n E hl 0 rfl dX6_undo_0 rfl ?_
  refine r_get E kW_X6 hw 0 rfl rfl 3 (by decide) kF_X6_23 rfl dX6_undo_1 ?_
  refine r_if_ne E 10 dX6_undo_4 (by decide) (fun hc => ?_) (fun hc => ?_)
  · replace h := ite_f hc h
    refine r_aload_n E hl 0 rfl dX6_undo_10 rfl ?_
    refine r_dup E dX6_undo_11 rfl ?_
    refine r_get E kW_X6 hw 0 rfl rfl 3 (by decide) kF_X6_23 rfl dX6_undo_12 ?_
    refine r_iconst E 1 dX6_undo_15 (by decide) ?_
    refine r_isub E dX6_undo_16 ?_
    refine r_put E ((wX6 Z Ao Ah An Ac Ar Af Ag Ap At (o_historySize - (1 : Int32)) o_wayIsKept ++ wX3 Z An n_nodes n_links n_tunnels n_messages n_areas n_firsts n_seconds n_privates n_entries n_exits n_truth n_facts n_news ++ wH Z Ah h_F h_G h_N)) kW_X6 tyX6_ok nmX6 hw 0 rfl rfl 3 (by decide) kF_X6_23 rfl rfl rfl (Nat.le_of_ble_eq_true rfl) rfl dX6_undo_17 (fun H locs hw => ?_)
    refine r_aload_n E hl 0 rfl dX6_undo_20 rfl ?_
    refine r_get E kW_X6 hw 0 rfl rfl 0 (by decide) kF_X6_12 rfl dX6_undo_21 ?_
    refine r_aload_n E hl 0 rfl dX6_undo_24 rfl ?_
    refine r_get E kW_X6 hw 0 rfl rfl 2 (by decide) kF_X6_19 rfl dX6_undo_25 ?_
    refine r_aload_n E hl 0 rfl dX6_undo_28 rfl ?_
    refine r_get E kW_X6 hw 0 rfl rfl 3 (by decide) kF_X6_23 rfl dX6_undo_29 ?_
    obtain ⟨hg2, h⟩ := gd_some h
    obtain ⟨i1, hi1, h⟩ := nm_out h
    obtain ⟨h5i1, h⟩ := gd_some h
    obtain ⟨hF3, h⟩ := gd_some h
    refine r_aald E hw 11 rfl hg2 (by rw [← hi1]; exact hF3) dX6_undo_32 ?_
    obtain ⟨y4, hy4, h⟩ := bd_some h
    revert hy4 h
    obtain rfl | rfl | rfl | rfl | rfl : i1 = 0 ∨ i1 = 1 ∨ i1 = 2 ∨ i1 = 3 ∨ i1 = 4 := by omega
    · intro hy4 h
      refine r_callVQv E (wX6 Z Ao Ah An Ac Ar Af Ag Ap At (o_historySize - (1 : Int32)) o_wayIsKept ++ wX3 Z An y4.1 y4.2.1 y4.2.2.1 y4.2.2.2.1 y4.2.2.2.2.1 y4.2.2.2.2.2.1 y4.2.2.2.2.2.2.1 y4.2.2.2.2.2.2.2.1 y4.2.2.2.2.2.2.2.2.1 y4.2.2.2.2.2.2.2.2.2.1 y4.2.2.2.2.2.2.2.2.2.2.1 y4.2.2.2.2.2.2.2.2.2.2.2.1 y4.2.2.2.2.2.2.2.2.2.2.2.2 ++ (wHa Z Ah h_F ++ wN Z (h_G 0) (h_N 0) ++ wN Z (h_G 1) (h_N 1) ++ wN Z (h_G 2) (h_N 2) ++ wN Z (h_G 3) (h_N 3) ++ wN Z (h_G 4) (h_N 4))) (wX6 Z Ao Ah An Ac Ar Af Ag Ap At (o_historySize - (1 : Int32)) o_wayIsKept ++ wHa Z Ah h_F ++ wN Z (h_G 1) (h_N 1) ++ wN Z (h_G 2) (h_N 2) ++ wN Z (h_G 3) (h_N 3) ++ wN Z (h_G 4) (h_N 4)) hw (mX3_copyFrom l Z _ An (h_G 0) n_nodes n_links n_tunnels n_messages n_areas n_firsts n_seconds n_privates n_entries n_exits n_truth n_facts n_news ((h_N 0).1) ((h_N 0).2.1) ((h_N 0).2.2.1) ((h_N 0).2.2.2.1) ((h_N 0).2.2.2.2.1) ((h_N 0).2.2.2.2.2.1) ((h_N 0).2.2.2.2.2.2.1) ((h_N 0).2.2.2.2.2.2.2.1) ((h_N 0).2.2.2.2.2.2.2.2.1) ((h_N 0).2.2.2.2.2.2.2.2.2.1) ((h_N 0).2.2.2.2.2.2.2.2.2.2.1) ((h_N 0).2.2.2.2.2.2.2.2.2.2.2.1) ((h_N 0).2.2.2.2.2.2.2.2.2.2.2.2) hy4) kL_X6_145 kI_X3_copyFrom kS_X3_copyFrom kN_X3 kC_X3_copyFrom rfl rfl hdX3_copyFrom ⟨Nat.le_of_ble_eq_true rfl, Nat.le_of_ble_eq_true rfl⟩ (fun f => by simp only [sf_app, wN] <;> omega) (fun f => by simp only [sf_app, wN] <;> omega) 1 rfl rfl rfl rfl hl [] rfl (Nat.le_of_ble_eq_true rfl) dX6_undo_33 ⟨Nat.zero_le _, Nat.zero_le _⟩ (fun H locs hw => ?_)
      replace hw : zW Z A ((wX6 Z Ao Ah An Ac Ar Af Ag Ap At (o_historySize - (1 : Int32)) o_wayIsKept ++ wX3 Z An y4.1 y4.2.1 y4.2.2.1 y4.2.2.2.1 y4.2.2.2.2.1 y4.2.2.2.2.2.1 y4.2.2.2.2.2.2.1 y4.2.2.2.2.2.2.2.1 y4.2.2.2.2.2.2.2.2.1 y4.2.2.2.2.2.2.2.2.2.1 y4.2.2.2.2.2.2.2.2.2.2.1 y4.2.2.2.2.2.2.2.2.2.2.2.1 y4.2.2.2.2.2.2.2.2.2.2.2.2 ++ wH Z Ah h_F h_G h_N)) s.heap H locs := hw
      refine r_aload_n E hl 0 rfl dX6_undo_36 rfl ?_
      refine r_iconst E 0 dX6_undo_37 (by decide) ?_
      refine r_put E ((wX6 Z Ao Ah An Ac Ar Af Ag Ap At (o_historySize - (1 : Int32)) (0 : Int32) ++ wX3 Z An y4.1 y4.2.1 y4.2.2.1 y4.2.2.2.1 y4.2.2.2.2.1 y4.2.2.2.2.2.1 y4.2.2.2.2.2.2.1 y4.2.2.2.2.2.2.2.1 y4.2.2.2.2.2.2.2.2.1 y4.2.2.2.2.2.2.2.2.2.1 y4.2.2.2.2.2.2.2.2.2.2.1 y4.2.2.2.2.2.2.2.2.2.2.2.1 y4.2.2.2.2.2.2.2.2.2.2.2.2 ++ wH Z Ah h_F h_G h_N)) kW_X6 tyX6_ok nmX6 hw 0 rfl rfl 9 (by decide) kF_X6_58 rfl rfl rfl (Nat.le_of_ble_eq_true rfl) rfl dX6_undo_38 (fun H locs hw => ?_)
      refine r_aload_n E hl 0 rfl dX6_undo_41 rfl ?_
      refine r_get E kW_X6 hw 0 rfl rfl 3 (by decide) kF_X6_23 rfl dX6_undo_42 ?_
      obtain rfl := Option.some.inj h
      exact r_iret E hw dX6_undo_45
    · intro hy4 h
      refine r_callVQv E (wX6 Z Ao Ah An Ac Ar Af Ag Ap At (o_historySize - (1 : Int32)) o_wayIsKept ++ wX3 Z An y4.1 y4.2.1 y4.2.2.1 y4.2.2.2.1 y4.2.2.2.2.1 y4.2.2.2.2.2.1 y4.2.2.2.2.2.2.1 y4.2.2.2.2.2.2.2.1 y4.2.2.2.2.2.2.2.2.1 y4.2.2.2.2.2.2.2.2.2.1 y4.2.2.2.2.2.2.2.2.2.2.1 y4.2.2.2.2.2.2.2.2.2.2.2.1 y4.2.2.2.2.2.2.2.2.2.2.2.2 ++ (wHa Z Ah h_F ++ wN Z (h_G 0) (h_N 0) ++ wN Z (h_G 1) (h_N 1) ++ wN Z (h_G 2) (h_N 2) ++ wN Z (h_G 3) (h_N 3) ++ wN Z (h_G 4) (h_N 4))) (wX6 Z Ao Ah An Ac Ar Af Ag Ap At (o_historySize - (1 : Int32)) o_wayIsKept ++ wHa Z Ah h_F ++ wN Z (h_G 0) (h_N 0) ++ wN Z (h_G 2) (h_N 2) ++ wN Z (h_G 3) (h_N 3) ++ wN Z (h_G 4) (h_N 4)) hw (mX3_copyFrom l Z _ An (h_G 1) n_nodes n_links n_tunnels n_messages n_areas n_firsts n_seconds n_privates n_entries n_exits n_truth n_facts n_news ((h_N 1).1) ((h_N 1).2.1) ((h_N 1).2.2.1) ((h_N 1).2.2.2.1) ((h_N 1).2.2.2.2.1) ((h_N 1).2.2.2.2.2.1) ((h_N 1).2.2.2.2.2.2.1) ((h_N 1).2.2.2.2.2.2.2.1) ((h_N 1).2.2.2.2.2.2.2.2.1) ((h_N 1).2.2.2.2.2.2.2.2.2.1) ((h_N 1).2.2.2.2.2.2.2.2.2.2.1) ((h_N 1).2.2.2.2.2.2.2.2.2.2.2.1) ((h_N 1).2.2.2.2.2.2.2.2.2.2.2.2) hy4) kL_X6_145 kI_X3_copyFrom kS_X3_copyFrom kN_X3 kC_X3_copyFrom rfl rfl hdX3_copyFrom ⟨Nat.le_of_ble_eq_true rfl, Nat.le_of_ble_eq_true rfl⟩ (fun f => by simp only [sf_app, wN] <;> omega) (fun f => by simp only [sf_app, wN] <;> omega) 1 rfl rfl rfl rfl hl [] rfl (Nat.le_of_ble_eq_true rfl) dX6_undo_33 ⟨Nat.zero_le _, Nat.zero_le _⟩ (fun H locs hw => ?_)
      replace hw : zW Z A ((wX6 Z Ao Ah An Ac Ar Af Ag Ap At (o_historySize - (1 : Int32)) o_wayIsKept ++ wX3 Z An y4.1 y4.2.1 y4.2.2.1 y4.2.2.2.1 y4.2.2.2.2.1 y4.2.2.2.2.2.1 y4.2.2.2.2.2.2.1 y4.2.2.2.2.2.2.2.1 y4.2.2.2.2.2.2.2.2.1 y4.2.2.2.2.2.2.2.2.2.1 y4.2.2.2.2.2.2.2.2.2.2.1 y4.2.2.2.2.2.2.2.2.2.2.2.1 y4.2.2.2.2.2.2.2.2.2.2.2.2 ++ wH Z Ah h_F h_G h_N)) s.heap H locs := hw
      refine r_aload_n E hl 0 rfl dX6_undo_36 rfl ?_
      refine r_iconst E 0 dX6_undo_37 (by decide) ?_
      refine r_put E ((wX6 Z Ao Ah An Ac Ar Af Ag Ap At (o_historySize - (1 : Int32)) (0 : Int32) ++ wX3 Z An y4.1 y4.2.1 y4.2.2.1 y4.2.2.2.1 y4.2.2.2.2.1 y4.2.2.2.2.2.1 y4.2.2.2.2.2.2.1 y4.2.2.2.2.2.2.2.1 y4.2.2.2.2.2.2.2.2.1 y4.2.2.2.2.2.2.2.2.2.1 y4.2.2.2.2.2.2.2.2.2.2.1 y4.2.2.2.2.2.2.2.2.2.2.2.1 y4.2.2.2.2.2.2.2.2.2.2.2.2 ++ wH Z Ah h_F h_G h_N)) kW_X6 tyX6_ok nmX6 hw 0 rfl rfl 9 (by decide) kF_X6_58 rfl rfl rfl (Nat.le_of_ble_eq_true rfl) rfl dX6_undo_38 (fun H locs hw => ?_)
      refine r_aload_n E hl 0 rfl dX6_undo_41 rfl ?_
      refine r_get E kW_X6 hw 0 rfl rfl 3 (by decide) kF_X6_23 rfl dX6_undo_42 ?_
      obtain rfl := Option.some.inj h
      exact r_iret E hw dX6_undo_45
    · intro hy4 h
      refine r_callVQv E (wX6 Z Ao Ah An Ac Ar Af Ag Ap At (o_historySize - (1 : Int32)) o_wayIsKept ++ wX3 Z An y4.1 y4.2.1 y4.2.2.1 y4.2.2.2.1 y4.2.2.2.2.1 y4.2.2.2.2.2.1 y4.2.2.2.2.2.2.1 y4.2.2.2.2.2.2.2.1 y4.2.2.2.2.2.2.2.2.1 y4.2.2.2.2.2.2.2.2.2.1 y4.2.2.2.2.2.2.2.2.2.2.1 y4.2.2.2.2.2.2.2.2.2.2.2.1 y4.2.2.2.2.2.2.2.2.2.2.2.2 ++ (wHa Z Ah h_F ++ wN Z (h_G 0) (h_N 0) ++ wN Z (h_G 1) (h_N 1) ++ wN Z (h_G 2) (h_N 2) ++ wN Z (h_G 3) (h_N 3) ++ wN Z (h_G 4) (h_N 4))) (wX6 Z Ao Ah An Ac Ar Af Ag Ap At (o_historySize - (1 : Int32)) o_wayIsKept ++ wHa Z Ah h_F ++ wN Z (h_G 0) (h_N 0) ++ wN Z (h_G 1) (h_N 1) ++ wN Z (h_G 3) (h_N 3) ++ wN Z (h_G 4) (h_N 4)) hw (mX3_copyFrom l Z _ An (h_G 2) n_nodes n_links n_tunnels n_messages n_areas n_firsts n_seconds n_privates n_entries n_exits n_truth n_facts n_news ((h_N 2).1) ((h_N 2).2.1) ((h_N 2).2.2.1) ((h_N 2).2.2.2.1) ((h_N 2).2.2.2.2.1) ((h_N 2).2.2.2.2.2.1) ((h_N 2).2.2.2.2.2.2.1) ((h_N 2).2.2.2.2.2.2.2.1) ((h_N 2).2.2.2.2.2.2.2.2.1) ((h_N 2).2.2.2.2.2.2.2.2.2.1) ((h_N 2).2.2.2.2.2.2.2.2.2.2.1) ((h_N 2).2.2.2.2.2.2.2.2.2.2.2.1) ((h_N 2).2.2.2.2.2.2.2.2.2.2.2.2) hy4) kL_X6_145 kI_X3_copyFrom kS_X3_copyFrom kN_X3 kC_X3_copyFrom rfl rfl hdX3_copyFrom ⟨Nat.le_of_ble_eq_true rfl, Nat.le_of_ble_eq_true rfl⟩ (fun f => by simp only [sf_app, wN] <;> omega) (fun f => by simp only [sf_app, wN] <;> omega) 1 rfl rfl rfl rfl hl [] rfl (Nat.le_of_ble_eq_true rfl) dX6_undo_33 ⟨Nat.zero_le _, Nat.zero_le _⟩ (fun H locs hw => ?_)
      replace hw : zW Z A ((wX6 Z Ao Ah An Ac Ar Af Ag Ap At (o_historySize - (1 : Int32)) o_wayIsKept ++ wX3 Z An y4.1 y4.2.1 y4.2.2.1 y4.2.2.2.1 y4.2.2.2.2.1 y4.2.2.2.2.2.1 y4.2.2.2.2.2.2.1 y4.2.2.2.2.2.2.2.1 y4.2.2.2.2.2.2.2.2.1 y4.2.2.2.2.2.2.2.2.2.1 y4.2.2.2.2.2.2.2.2.2.2.1 y4.2.2.2.2.2.2.2.2.2.2.2.1 y4.2.2.2.2.2.2.2.2.2.2.2.2 ++ wH Z Ah h_F h_G h_N)) s.heap H locs := hw
      refine r_aload_n E hl 0 rfl dX6_undo_36 rfl ?_
      refine r_iconst E 0 dX6_undo_37 (by decide) ?_
      refine r_put E ((wX6 Z Ao Ah An Ac Ar Af Ag Ap At (o_historySize - (1 : Int32)) (0 : Int32) ++ wX3 Z An y4.1 y4.2.1 y4.2.2.1 y4.2.2.2.1 y4.2.2.2.2.1 y4.2.2.2.2.2.1 y4.2.2.2.2.2.2.1 y4.2.2.2.2.2.2.2.1 y4.2.2.2.2.2.2.2.2.1 y4.2.2.2.2.2.2.2.2.2.1 y4.2.2.2.2.2.2.2.2.2.2.1 y4.2.2.2.2.2.2.2.2.2.2.2.1 y4.2.2.2.2.2.2.2.2.2.2.2.2 ++ wH Z Ah h_F h_G h_N)) kW_X6 tyX6_ok nmX6 hw 0 rfl rfl 9 (by decide) kF_X6_58 rfl rfl rfl (Nat.le_of_ble_eq_true rfl) rfl dX6_undo_38 (fun H locs hw => ?_)
      refine r_aload_n E hl 0 rfl dX6_undo_41 rfl ?_
      refine r_get E kW_X6 hw 0 rfl rfl 3 (by decide) kF_X6_23 rfl dX6_undo_42 ?_
      obtain rfl := Option.some.inj h
      exact r_iret E hw dX6_undo_45
    · intro hy4 h
      refine r_callVQv E (wX6 Z Ao Ah An Ac Ar Af Ag Ap At (o_historySize - (1 : Int32)) o_wayIsKept ++ wX3 Z An y4.1 y4.2.1 y4.2.2.1 y4.2.2.2.1 y4.2.2.2.2.1 y4.2.2.2.2.2.1 y4.2.2.2.2.2.2.1 y4.2.2.2.2.2.2.2.1 y4.2.2.2.2.2.2.2.2.1 y4.2.2.2.2.2.2.2.2.2.1 y4.2.2.2.2.2.2.2.2.2.2.1 y4.2.2.2.2.2.2.2.2.2.2.2.1 y4.2.2.2.2.2.2.2.2.2.2.2.2 ++ (wHa Z Ah h_F ++ wN Z (h_G 0) (h_N 0) ++ wN Z (h_G 1) (h_N 1) ++ wN Z (h_G 2) (h_N 2) ++ wN Z (h_G 3) (h_N 3) ++ wN Z (h_G 4) (h_N 4))) (wX6 Z Ao Ah An Ac Ar Af Ag Ap At (o_historySize - (1 : Int32)) o_wayIsKept ++ wHa Z Ah h_F ++ wN Z (h_G 0) (h_N 0) ++ wN Z (h_G 1) (h_N 1) ++ wN Z (h_G 2) (h_N 2) ++ wN Z (h_G 4) (h_N 4)) hw (mX3_copyFrom l Z _ An (h_G 3) n_nodes n_links n_tunnels n_messages n_areas n_firsts n_seconds n_privates n_entries n_exits n_truth n_facts n_news ((h_N 3).1) ((h_N 3).2.1) ((h_N 3).2.2.1) ((h_N 3).2.2.2.1) ((h_N 3).2.2.2.2.1) ((h_N 3).2.2.2.2.2.1) ((h_N 3).2.2.2.2.2.2.1) ((h_N 3).2.2.2.2.2.2.2.1) ((h_N 3).2.2.2.2.2.2.2.2.1) ((h_N 3).2.2.2.2.2.2.2.2.2.1) ((h_N 3).2.2.2.2.2.2.2.2.2.2.1) ((h_N 3).2.2.2.2.2.2.2.2.2.2.2.1) ((h_N 3).2.2.2.2.2.2.2.2.2.2.2.2) hy4) kL_X6_145 kI_X3_copyFrom kS_X3_copyFrom kN_X3 kC_X3_copyFrom rfl rfl hdX3_copyFrom ⟨Nat.le_of_ble_eq_true rfl, Nat.le_of_ble_eq_true rfl⟩ (fun f => by simp only [sf_app, wN] <;> omega) (fun f => by simp only [sf_app, wN] <;> omega) 1 rfl rfl rfl rfl hl [] rfl (Nat.le_of_ble_eq_true rfl) dX6_undo_33 ⟨Nat.zero_le _, Nat.zero_le _⟩ (fun H locs hw => ?_)
      replace hw : zW Z A ((wX6 Z Ao Ah An Ac Ar Af Ag Ap At (o_historySize - (1 : Int32)) o_wayIsKept ++ wX3 Z An y4.1 y4.2.1 y4.2.2.1 y4.2.2.2.1 y4.2.2.2.2.1 y4.2.2.2.2.2.1 y4.2.2.2.2.2.2.1 y4.2.2.2.2.2.2.2.1 y4.2.2.2.2.2.2.2.2.1 y4.2.2.2.2.2.2.2.2.2.1 y4.2.2.2.2.2.2.2.2.2.2.1 y4.2.2.2.2.2.2.2.2.2.2.2.1 y4.2.2.2.2.2.2.2.2.2.2.2.2 ++ wH Z Ah h_F h_G h_N)) s.heap H locs := hw
      refine r_aload_n E hl 0 rfl dX6_undo_36 rfl ?_
      refine r_iconst E 0 dX6_undo_37 (by decide) ?_
      refine r_put E ((wX6 Z Ao Ah An Ac Ar Af Ag Ap At (o_historySize - (1 : Int32)) (0 : Int32) ++ wX3 Z An y4.1 y4.2.1 y4.2.2.1 y4.2.2.2.1 y4.2.2.2.2.1 y4.2.2.2.2.2.1 y4.2.2.2.2.2.2.1 y4.2.2.2.2.2.2.2.1 y4.2.2.2.2.2.2.2.2.1 y4.2.2.2.2.2.2.2.2.2.1 y4.2.2.2.2.2.2.2.2.2.2.1 y4.2.2.2.2.2.2.2.2.2.2.2.1 y4.2.2.2.2.2.2.2.2.2.2.2.2 ++ wH Z Ah h_F h_G h_N)) kW_X6 tyX6_ok nmX6 hw 0 rfl rfl 9 (by decide) kF_X6_58 rfl rfl rfl (Nat.le_of_ble_eq_true rfl) rfl dX6_undo_38 (fun H locs hw => ?_)
      refine r_aload_n E hl 0 rfl dX6_undo_41 rfl ?_
      refine r_get E kW_X6 hw 0 rfl rfl 3 (by decide) kF_X6_23 rfl dX6_undo_42 ?_
      obtain rfl := Option.some.inj h
      exact r_iret E hw dX6_undo_45
    · intro hy4 h
      refine r_callVQv E (wX6 Z Ao Ah An Ac Ar Af Ag Ap At (o_historySize - (1 : Int32)) o_wayIsKept ++ wX3 Z An y4.1 y4.2.1 y4.2.2.1 y4.2.2.2.1 y4.2.2.2.2.1 y4.2.2.2.2.2.1 y4.2.2.2.2.2.2.1 y4.2.2.2.2.2.2.2.1 y4.2.2.2.2.2.2.2.2.1 y4.2.2.2.2.2.2.2.2.2.1 y4.2.2.2.2.2.2.2.2.2.2.1 y4.2.2.2.2.2.2.2.2.2.2.2.1 y4.2.2.2.2.2.2.2.2.2.2.2.2 ++ (wHa Z Ah h_F ++ wN Z (h_G 0) (h_N 0) ++ wN Z (h_G 1) (h_N 1) ++ wN Z (h_G 2) (h_N 2) ++ wN Z (h_G 3) (h_N 3) ++ wN Z (h_G 4) (h_N 4))) (wX6 Z Ao Ah An Ac Ar Af Ag Ap At (o_historySize - (1 : Int32)) o_wayIsKept ++ wHa Z Ah h_F ++ wN Z (h_G 0) (h_N 0) ++ wN Z (h_G 1) (h_N 1) ++ wN Z (h_G 2) (h_N 2) ++ wN Z (h_G 3) (h_N 3)) hw (mX3_copyFrom l Z _ An (h_G 4) n_nodes n_links n_tunnels n_messages n_areas n_firsts n_seconds n_privates n_entries n_exits n_truth n_facts n_news ((h_N 4).1) ((h_N 4).2.1) ((h_N 4).2.2.1) ((h_N 4).2.2.2.1) ((h_N 4).2.2.2.2.1) ((h_N 4).2.2.2.2.2.1) ((h_N 4).2.2.2.2.2.2.1) ((h_N 4).2.2.2.2.2.2.2.1) ((h_N 4).2.2.2.2.2.2.2.2.1) ((h_N 4).2.2.2.2.2.2.2.2.2.1) ((h_N 4).2.2.2.2.2.2.2.2.2.2.1) ((h_N 4).2.2.2.2.2.2.2.2.2.2.2.1) ((h_N 4).2.2.2.2.2.2.2.2.2.2.2.2) hy4) kL_X6_145 kI_X3_copyFrom kS_X3_copyFrom kN_X3 kC_X3_copyFrom rfl rfl hdX3_copyFrom ⟨Nat.le_of_ble_eq_true rfl, Nat.le_of_ble_eq_true rfl⟩ (fun f => by simp only [sf_app, wN] <;> omega) (fun f => by simp only [sf_app, wN] <;> omega) 1 rfl rfl rfl rfl hl [] rfl (Nat.le_of_ble_eq_true rfl) dX6_undo_33 ⟨Nat.zero_le _, Nat.zero_le _⟩ (fun H locs hw => ?_)
      replace hw : zW Z A ((wX6 Z Ao Ah An Ac Ar Af Ag Ap At (o_historySize - (1 : Int32)) o_wayIsKept ++ wX3 Z An y4.1 y4.2.1 y4.2.2.1 y4.2.2.2.1 y4.2.2.2.2.1 y4.2.2.2.2.2.1 y4.2.2.2.2.2.2.1 y4.2.2.2.2.2.2.2.1 y4.2.2.2.2.2.2.2.2.1 y4.2.2.2.2.2.2.2.2.2.1 y4.2.2.2.2.2.2.2.2.2.2.1 y4.2.2.2.2.2.2.2.2.2.2.2.1 y4.2.2.2.2.2.2.2.2.2.2.2.2 ++ wH Z Ah h_F h_G h_N)) s.heap H locs := hw
      refine r_aload_n E hl 0 rfl dX6_undo_36 rfl ?_
      refine r_iconst E 0 dX6_undo_37 (by decide) ?_
      refine r_put E ((wX6 Z Ao Ah An Ac Ar Af Ag Ap At (o_historySize - (1 : Int32)) (0 : Int32) ++ wX3 Z An y4.1 y4.2.1 y4.2.2.1 y4.2.2.2.1 y4.2.2.2.2.1 y4.2.2.2.2.2.1 y4.2.2.2.2.2.2.1 y4.2.2.2.2.2.2.2.1 y4.2.2.2.2.2.2.2.2.1 y4.2.2.2.2.2.2.2.2.2.1 y4.2.2.2.2.2.2.2.2.2.2.1 y4.2.2.2.2.2.2.2.2.2.2.2.1 y4.2.2.2.2.2.2.2.2.2.2.2.2 ++ wH Z Ah h_F h_G h_N)) kW_X6 tyX6_ok nmX6 hw 0 rfl rfl 9 (by decide) kF_X6_58 rfl rfl rfl (Nat.le_of_ble_eq_true rfl) rfl dX6_undo_38 (fun H locs hw => ?_)
      refine r_aload_n E hl 0 rfl dX6_undo_41 rfl ?_
      refine r_get E kW_X6 hw 0 rfl rfl 3 (by decide) kF_X6_23 rfl dX6_undo_42 ?_
      obtain rfl := Option.some.inj h
      exact r_iret E hw dX6_undo_45
  · replace h := ite_t hc h
    refine r_bipush E (-2) dX6_undo_7 (by decide) ?_
    obtain rfl := Option.some.inj h
    exact r_iret E hw dX6_undo_9
abbrev rmX6_addNode : Room := { frames := 3, cells := 0, slots := 0, locals := 81 }

set_option maxRecDepth 100000 in
set_option maxHeartbeats 4000000 in
theorem mX6_addNode (l : Launch) (Z : zT) (sz : Nat) (Ao : Nat) (Ah : Nat) (An : Nat → Nat) (Ac : Nat → Nat) (Ar : Nat → Nat) (Af : Nat → Nat) (Ag : Nat → Nat) (Ap : Nat → Nat) (At : Nat → Nat) (o_historySize : Int32) (o_wayIsKept : Int32) (n_nodes : Int32) (n_links : Int32) (n_tunnels : Int32) (n_messages : Int32) (n_areas : (Nat → Int32)) (n_firsts : (Nat → Int32)) (n_seconds : (Nat → Int32)) (n_privates : (Nat → Int32)) (n_entries : (Nat → Int32)) (n_exits : (Nat → Int32)) (n_truth : (Nat → Int32)) (n_facts : (Nat → Int32)) (n_news : (Nat → Int64)) (h_F : (Nat → Option Nat)) (h_G : (Nat → Nat → Nat)) (h_N : (Nat → zNet)) (v1 : Int32) {res : Int32 × Int32 × Int32 × Int32 × (Nat → Int32) × (Nat → Option Nat) × (Nat → Nat → Nat) × (Nat → zNet)} (h : fX6_addNode v1 o_historySize o_wayIsKept n_nodes n_links n_tunnels n_messages n_areas n_firsts n_seconds n_privates n_entries n_exits n_truth n_facts n_news h_F h_G h_N = some res) : Met l yX6_addNode (Cond.code yX6_addNode cX6_addNode 2 (some .int) :: zWs) rmX6_addNode (zP Z ((wX6 Z Ao Ah An Ac Ar Af Ag Ap At o_historySize o_wayIsKept ++ wX3 Z An n_nodes n_links n_tunnels n_messages n_areas n_firsts n_seconds n_privates n_entries n_exits n_truth n_facts n_news ++ wH Z Ah h_F h_G h_N)) sz [.ref Ao, .int v1]) (zQi Z res.1 ((wX6 Z Ao Ah An Ac Ar Af Ag Ap At res.2.1 res.2.2.1 ++ wX3 Z An res.2.2.2.1 n_links n_tunnels n_messages res.2.2.2.2.1 n_firsts n_seconds n_privates n_entries n_exits n_truth n_facts n_news ++ wH Z Ah res.2.2.2.2.2.1 res.2.2.2.2.2.2.1 res.2.2.2.2.2.2.2)) (va_A ((wX6 Z Ao Ah An Ac Ar Af Ag Ap At o_historySize o_wayIsKept ++ wX3 Z An n_nodes n_links n_tunnels n_messages n_areas n_firsts n_seconds n_privates n_entries n_exits n_truth n_facts n_news ++ wH Z Ah h_F h_G h_N)) sz)) 0 0 (va_A ((wX6 Z Ao Ah An Ac Ar Af Ag Ap At o_historySize o_wayIsKept ++ wX3 Z An n_nodes n_links n_tunnels n_messages n_areas n_firsts n_seconds n_privates n_entries n_exits n_truth n_facts n_news ++ wH Z Ah h_F h_G h_N)) sz) := by
  refine zMet (own := RX6) (fun A => zQi Z res.1 ((wX6 Z Ao Ah An Ac Ar Af Ag Ap At res.2.1 res.2.2.1 ++ wX3 Z An res.2.2.2.1 n_links n_tunnels n_messages res.2.2.2.2.1 n_firsts n_seconds n_privates n_entries n_exits n_truth n_facts n_news ++ wH Z Ah res.2.2.2.2.2.1 res.2.2.2.2.2.2.1 res.2.2.2.2.2.2.2)) A) (by decide) rfl (Nat.le_of_ble_eq_true rfl) ?_
  intro p e s m args below meth c ls A E hw hl
  unfold fX6_addNode at h
  refine r_iload_n E hl 1 rfl dX6_addNode_0 rfl ?_
  obtain ⟨y1, hy1, h⟩ := bd_some h
  refine r_callS0i E hw (mX6_isArea l Z _ v1 hy1) kL_X6_62 kT_X6_isArea kN_X6 kC_X6_isArea rfl rfl hdX6_isArea ⟨Nat.le_of_ble_eq_true rfl, Nat.le_of_ble_eq_true rfl⟩ rfl hl [] rfl (Nat.le_of_ble_eq_true rfl) dX6_addNode_1 ⟨Nat.zero_le _, Nat.zero_le _⟩ (fun H locs hw => ?_)
  refine r_if_ne E 9 dX6_addNode_4 (by decide) (fun hc => ?_) (fun hc => ?_)
  · replace h := ite_f hc h
    refine r_aload_n E hl 0 rfl dX6_addNode_9 rfl ?_
    refine r_get E kW_X6 hw 0 rfl rfl 0 (by decide) kF_X6_12 rfl dX6_addNode_10 ?_
    refine r_get E kW_X3 hw 1 rfl rfl 0 (by decide) kF_X6_66 rfl dX6_addNode_13 ?_
    refine r_bipush E 10 dX6_addNode_16 (by decide) ?_
    refine r_icmp_lt E 24 dX6_addNode_18 (by decide) (fun hc => ?_) (fun hc => ?_)
    · replace h := ite_t hc h
      refine r_aload_n E hl 0 rfl dX6_addNode_24 rfl ?_
      obtain ⟨y2, hy2, h⟩ := bd_some h
      refine r_callVAv E hw (mX6_beginAction l Z _ Ao Ah An Ac Ar Af Ag Ap At o_historySize o_wayIsKept n_nodes n_links n_tunnels n_messages n_areas n_firsts n_seconds n_privates n_entries n_exits n_truth n_facts n_news h_F h_G h_N hy2) kL_X6_69 kI_X6_beginAction kS_X6_beginAction kN_X6 kC_X6_beginAction rfl rfl hdX6_beginAction ⟨Nat.le_of_ble_eq_true rfl, Nat.le_of_ble_eq_true rfl⟩ 0 rfl rfl rfl rfl hl [] rfl (Nat.le_of_ble_eq_true rfl) dX6_addNode_25 ⟨Nat.zero_le _, Nat.zero_le _⟩ (fun H locs hw => ?_)
      refine r_aload_n E hl 0 rfl dX6_addNode_28 rfl ?_
      refine r_get E kW_X6 hw 0 rfl rfl 0 (by decide) kF_X6_12 rfl dX6_addNode_29 ?_
      refine r_iload_n E hl 1 rfl dX6_addNode_32 rfl ?_
      obtain ⟨y3, hy3, h⟩ := bd_some h
      refine r_callVQi E ((wX6 Z Ao Ah An Ac Ar Af Ag Ap At y2.1 y2.2.1 ++ wX3 Z An y3.2.1 n_links n_tunnels n_messages y3.2.2 n_firsts n_seconds n_privates n_entries n_exits n_truth n_facts n_news ++ wH Z Ah y2.2.2.1 y2.2.2.2.1 y2.2.2.2.2)) (wX6 Z Ao Ah An Ac Ar Af Ag Ap At y2.1 y2.2.1 ++ wH Z Ah y2.2.2.1 y2.2.2.2.1 y2.2.2.2.2) hw (mX3_createNode l Z _ An n_nodes n_links n_tunnels n_messages n_areas n_firsts n_seconds n_privates n_entries n_exits n_truth n_facts n_news v1 hy3) kL_X6_72 kI_X3_createNode kS_X3_createNode kN_X3 kC_X3_createNode rfl rfl hdX3_createNode ⟨Nat.le_of_ble_eq_true rfl, Nat.le_of_ble_eq_true rfl⟩ (fun f => by simp only [sf_app] <;> omega) (fun f => by simp only [sf_app] <;> omega) 1 rfl rfl rfl rfl hl [] rfl (Nat.le_of_ble_eq_true rfl) dX6_addNode_33 ⟨Nat.zero_le _, Nat.zero_le _⟩ (fun H locs hw => ?_)
      obtain rfl := Option.some.inj h
      exact r_iret E hw dX6_addNode_36
    · replace h := ite_f hc h
      refine r_bipush E (-3) dX6_addNode_21 (by decide) ?_
      obtain rfl := Option.some.inj h
      exact r_iret E hw dX6_addNode_23
  · replace h := ite_t hc h
    refine r_iconst E (-1) dX6_addNode_7 (by decide) ?_
    obtain rfl := Option.some.inj h
    exact r_iret E hw dX6_addNode_8
abbrev rmX6_addLink : Room := { frames := 5, cells := 0, slots := 0, locals := 122 }

set_option maxRecDepth 100000 in
set_option maxHeartbeats 4000000 in
theorem mX6_addLink (l : Launch) (Z : zT) (sz : Nat) (Ao : Nat) (Ah : Nat) (An : Nat → Nat) (Ac : Nat → Nat) (Ar : Nat → Nat) (Af : Nat → Nat) (Ag : Nat → Nat) (Ap : Nat → Nat) (At : Nat → Nat) (o_historySize : Int32) (o_wayIsKept : Int32) (n_nodes : Int32) (n_links : Int32) (n_tunnels : Int32) (n_messages : Int32) (n_areas : (Nat → Int32)) (n_firsts : (Nat → Int32)) (n_seconds : (Nat → Int32)) (n_privates : (Nat → Int32)) (n_entries : (Nat → Int32)) (n_exits : (Nat → Int32)) (n_truth : (Nat → Int32)) (n_facts : (Nat → Int32)) (n_news : (Nat → Int64)) (h_F : (Nat → Option Nat)) (h_G : (Nat → Nat → Nat)) (h_N : (Nat → zNet)) (v1 : Int32) (v2 : Int32) (v3 : Int32) (v4 : Int32) {res : Int32 × Int32 × Int32 × Int32 × (Nat → Int32) × (Nat → Int32) × (Nat → Int32) × (Nat → Int32) × (Nat → Int32) × (Nat → Int64) × (Nat → Option Nat) × (Nat → Nat → Nat) × (Nat → zNet)} (h : fX6_addLink v1 v2 v3 v4 o_historySize o_wayIsKept n_nodes n_links n_tunnels n_messages n_areas n_firsts n_seconds n_privates n_entries n_exits n_truth n_facts n_news h_F h_G h_N = some res) : Met l yX6_addLink (Cond.code yX6_addLink cX6_addLink 5 (some .int) :: zWs) rmX6_addLink (zP Z ((wX6 Z Ao Ah An Ac Ar Af Ag Ap At o_historySize o_wayIsKept ++ wX3 Z An n_nodes n_links n_tunnels n_messages n_areas n_firsts n_seconds n_privates n_entries n_exits n_truth n_facts n_news ++ wH Z Ah h_F h_G h_N)) sz [.ref Ao, .int v1, .int v2, .int v3, .int v4]) (zQi Z res.1 ((wX6 Z Ao Ah An Ac Ar Af Ag Ap At res.2.1 res.2.2.1 ++ wX3 Z An n_nodes res.2.2.2.1 n_tunnels n_messages n_areas res.2.2.2.2.1 res.2.2.2.2.2.1 res.2.2.2.2.2.2.1 n_entries n_exits res.2.2.2.2.2.2.2.1 res.2.2.2.2.2.2.2.2.1 res.2.2.2.2.2.2.2.2.2.1 ++ wH Z Ah res.2.2.2.2.2.2.2.2.2.2.1 res.2.2.2.2.2.2.2.2.2.2.2.1 res.2.2.2.2.2.2.2.2.2.2.2.2)) (va_A ((wX6 Z Ao Ah An Ac Ar Af Ag Ap At o_historySize o_wayIsKept ++ wX3 Z An n_nodes n_links n_tunnels n_messages n_areas n_firsts n_seconds n_privates n_entries n_exits n_truth n_facts n_news ++ wH Z Ah h_F h_G h_N)) sz)) 0 0 (va_A ((wX6 Z Ao Ah An Ac Ar Af Ag Ap At o_historySize o_wayIsKept ++ wX3 Z An n_nodes n_links n_tunnels n_messages n_areas n_firsts n_seconds n_privates n_entries n_exits n_truth n_facts n_news ++ wH Z Ah h_F h_G h_N)) sz) := by
  refine zMet (own := RX6) (fun A => zQi Z res.1 ((wX6 Z Ao Ah An Ac Ar Af Ag Ap At res.2.1 res.2.2.1 ++ wX3 Z An n_nodes res.2.2.2.1 n_tunnels n_messages n_areas res.2.2.2.2.1 res.2.2.2.2.2.1 res.2.2.2.2.2.2.1 n_entries n_exits res.2.2.2.2.2.2.2.1 res.2.2.2.2.2.2.2.2.1 res.2.2.2.2.2.2.2.2.2.1 ++ wH Z Ah res.2.2.2.2.2.2.2.2.2.2.1 res.2.2.2.2.2.2.2.2.2.2.2.1 res.2.2.2.2.2.2.2.2.2.2.2.2)) A) (by decide) rfl (Nat.le_of_ble_eq_true rfl) ?_
  intro p e s m args below meth c ls A E hw hl
  unfold fX6_addLink at h
  refine r_aload_n E hl 0 rfl dX6_addLink_0 rfl ?_
  refine r_iload_n E hl 1 rfl dX6_addLink_1 rfl ?_
  refine r_iload_n E hl 2 rfl dX6_addLink_2 rfl ?_
  obtain ⟨y1, hy1, h⟩ := bd_some h
  refine r_callVQi E ((wX6 Z Ao Ah An Ac Ar Af Ag Ap At o_historySize o_wayIsKept ++ wX3 Z An n_nodes n_links n_tunnels n_messages n_areas n_firsts n_seconds n_privates n_entries n_exits n_truth n_facts n_news ++ wH Z Ah h_F h_G h_N)) (wH Z Ah h_F h_G h_N) hw (mX6_isPair l Z _ Ao Ah An Ac Ar Af Ag Ap At o_historySize o_wayIsKept n_nodes n_links n_tunnels n_messages n_areas n_firsts n_seconds n_privates n_entries n_exits n_truth n_facts n_news v1 v2 hy1) kL_X6_76 kI_X6_isPair kS_X6_isPair kN_X6 kC_X6_isPair rfl rfl hdX6_isPair ⟨Nat.le_of_ble_eq_true rfl, Nat.le_of_ble_eq_true rfl⟩ (fun f => by simp only [sf_app] <;> omega) (fun f => by simp only [sf_app] <;> omega) 0 rfl rfl rfl rfl hl [] rfl (Nat.le_of_ble_eq_true rfl) dX6_addLink_3 ⟨Nat.zero_le _, Nat.zero_le _⟩ (fun H locs hw => ?_)
  refine r_if_eq E 26 dX6_addLink_6 (by decide) (fun hc => ?_) (fun hc => ?_)
  · replace h := ite_t hc h
    refine r_iconst E (-1) dX6_addLink_26 (by decide) ?_
    obtain rfl := Option.some.inj h
    exact r_iret E hw dX6_addLink_27
  · replace h := ite_f hc h
    refine r_iload_n E hl 3 rfl dX6_addLink_9 rfl ?_
    refine r_bipush E 20 dX6_addLink_10 (by decide) ?_
    obtain ⟨y2, hy2, h⟩ := bd_some h
    refine r_callS0i E hw (mX6_isCost l Z _ v3 (20 : Int32) hy2) kL_X6_80 kT_X6_isCost kN_X6 kC_X6_isCost rfl rfl hdX6_isCost ⟨Nat.le_of_ble_eq_true rfl, Nat.le_of_ble_eq_true rfl⟩ rfl hl [] rfl (Nat.le_of_ble_eq_true rfl) dX6_addLink_12 ⟨Nat.zero_le _, Nat.zero_le _⟩ (fun H locs hw => ?_)
    refine r_if_eq E 26 dX6_addLink_15 (by decide) (fun hc => ?_) (fun hc => ?_)
    · replace h := ite_t hc h
      refine r_iconst E (-1) dX6_addLink_26 (by decide) ?_
      obtain rfl := Option.some.inj h
      exact r_iret E hw dX6_addLink_27
    · replace h := ite_f hc h
      refine r_iload E hl 4 rfl dX6_addLink_18 ?_
      obtain ⟨y3, hy3, h⟩ := bd_some h
      refine r_callS0i E hw (mX6_isFlag l Z _ v4 hy3) kL_X6_83 kT_X6_isFlag kN_X6 kC_X6_isFlag rfl rfl hdX6_isFlag ⟨Nat.le_of_ble_eq_true rfl, Nat.le_of_ble_eq_true rfl⟩ rfl hl [] rfl (Nat.le_of_ble_eq_true rfl) dX6_addLink_20 ⟨Nat.zero_le _, Nat.zero_le _⟩ (fun H locs hw => ?_)
      refine r_if_ne E 28 dX6_addLink_23 (by decide) (fun hc => ?_) (fun hc => ?_)
      · replace h := ite_f hc h
        refine r_aload_n E hl 0 rfl dX6_addLink_28 rfl ?_
        refine r_get E kW_X6 hw 0 rfl rfl 0 (by decide) kF_X6_12 rfl dX6_addLink_29 ?_
        refine r_get E kW_X3 hw 1 rfl rfl 1 (by decide) kF_X6_86 rfl dX6_addLink_32 ?_
        refine r_bipush E 16 dX6_addLink_35 (by decide) ?_
        refine r_icmp_lt E 43 dX6_addLink_37 (by decide) (fun hc => ?_) (fun hc => ?_)
        · replace h := ite_t hc h
          refine r_aload_n E hl 0 rfl dX6_addLink_43 rfl ?_
          obtain ⟨y4, hy4, h⟩ := bd_some h
          refine r_callVAv E hw (mX6_beginAction l Z _ Ao Ah An Ac Ar Af Ag Ap At o_historySize o_wayIsKept n_nodes n_links n_tunnels n_messages n_areas n_firsts n_seconds n_privates n_entries n_exits n_truth n_facts n_news h_F h_G h_N hy4) kL_X6_69 kI_X6_beginAction kS_X6_beginAction kN_X6 kC_X6_beginAction rfl rfl hdX6_beginAction ⟨Nat.le_of_ble_eq_true rfl, Nat.le_of_ble_eq_true rfl⟩ 0 rfl rfl rfl rfl hl [] rfl (Nat.le_of_ble_eq_true rfl) dX6_addLink_44 ⟨Nat.zero_le _, Nat.zero_le _⟩ (fun H locs hw => ?_)
          refine r_aload_n E hl 0 rfl dX6_addLink_47 rfl ?_
          refine r_get E kW_X6 hw 0 rfl rfl 0 (by decide) kF_X6_12 rfl dX6_addLink_48 ?_
          refine r_iload_n E hl 1 rfl dX6_addLink_51 rfl ?_
          refine r_iload_n E hl 2 rfl dX6_addLink_52 rfl ?_
          refine r_iload_n E hl 3 rfl dX6_addLink_53 rfl ?_
          refine r_iload E hl 4 rfl dX6_addLink_54 ?_
          obtain ⟨y5, hy5, h⟩ := bd_some h
          refine r_callVQi E ((wX6 Z Ao Ah An Ac Ar Af Ag Ap At y4.1 y4.2.1 ++ wX3 Z An n_nodes y5.2.1 n_tunnels n_messages n_areas y5.2.2.1 y5.2.2.2.1 y5.2.2.2.2.1 n_entries n_exits y5.2.2.2.2.2.1 y5.2.2.2.2.2.2.1 y5.2.2.2.2.2.2.2 ++ wH Z Ah y4.2.2.1 y4.2.2.2.1 y4.2.2.2.2)) (wX6 Z Ao Ah An Ac Ar Af Ag Ap At y4.1 y4.2.1 ++ wH Z Ah y4.2.2.1 y4.2.2.2.1 y4.2.2.2.2) hw (mX3_createLink l Z _ An n_nodes n_links n_tunnels n_messages n_areas n_firsts n_seconds n_privates n_entries n_exits n_truth n_facts n_news v1 v2 v3 v4 hy5) kL_X6_89 kI_X3_createLink kS_X3_createLink kN_X3 kC_X3_createLink rfl rfl hdX3_createLink ⟨Nat.le_of_ble_eq_true rfl, Nat.le_of_ble_eq_true rfl⟩ (fun f => by simp only [sf_app] <;> omega) (fun f => by simp only [sf_app] <;> omega) 1 rfl rfl rfl rfl hl [] rfl (Nat.le_of_ble_eq_true rfl) dX6_addLink_56 ⟨Nat.zero_le _, Nat.zero_le _⟩ (fun H locs hw => ?_)
          obtain rfl := Option.some.inj h
          exact r_iret E hw dX6_addLink_59
        · replace h := ite_f hc h
          refine r_bipush E (-3) dX6_addLink_40 (by decide) ?_
          obtain rfl := Option.some.inj h
          exact r_iret E hw dX6_addLink_42
      · replace h := ite_t hc h
        refine r_iconst E (-1) dX6_addLink_26 (by decide) ?_
        obtain rfl := Option.some.inj h
        exact r_iret E hw dX6_addLink_27
abbrev rmX6_setLink : Room := { frames := 4, cells := 0, slots := 0, locals := 97 }

set_option maxRecDepth 100000 in
set_option maxHeartbeats 4000000 in
theorem vX6_setLink_61 {Z : zT} {p : Program} {l : Launch} {e : Env} {s : State} {m : MethodId} {args : Array Value} {below : List Frame} {meth : Method} {c : Code} {A : Nat → Prop} (E : zE Z p s m args meth c RX6 cX6_setLink 5 (some .int) A) {Ao Ah : Nat} {An Ac Ar Af Ag Ap At : Nat → Nat} {v1 : Int32} {v2 : Int32} {v3 : Int32} {o_historySize : Int32} {o_wayIsKept : Int32} {n_nodes : Int32} {n_links : Int32} {n_tunnels : Int32} {n_messages : Int32} {n_areas : (Nat → Int32)} {n_firsts : (Nat → Int32)} {n_seconds : (Nat → Int32)} {n_privates : (Nat → Int32)} {n_entries : (Nat → Int32)} {n_exits : (Nat → Int32)} {n_truth : (Nat → Int32)} {n_facts : (Nat → Int32)} {n_news : (Nat → Int64)} {h_F : (Nat → Option Nat)} {h_G : (Nat → Nat → Nat)} {h_N : (Nat → zNet)} {res : Int32 × Int32 × Int32 × (Nat → Int32) × (Nat → Int32) × (Nat → Int64) × (Nat → Option Nat) × (Nat → Nat → Nat) × (Nat → zNet)}  {H : Heap} {locs : List Loc} {ls : Array Slot} (hw : zW Z A ((wX6 Z Ao Ah An Ac Ar Af Ag Ap At o_historySize o_wayIsKept ++ wX3 Z An n_nodes n_links n_tunnels n_messages n_areas n_firsts n_seconds n_privates n_entries n_exits n_truth n_facts n_news ++ wH Z Ah h_F h_G h_N)) s.heap H locs) (hl : lv_has ls 5 [(0, .ref Ao), (1, .int v1), (2, .int v2), (3, .int v3)]) (h : uX6_setLink_61 v1 v2 v3 o_historySize n_nodes n_links n_tunnels n_messages n_areas n_firsts n_seconds n_privates n_entries n_exits n_truth n_facts n_news h_F h_G h_N = some res) : W p l e rmX6_setLink s m args below meth c H locs 0 0 (MQ below (zQi Z res.1 ((wX6 Z Ao Ah An Ac Ar Af Ag Ap At res.2.1 res.2.2.1 ++ wX3 Z An n_nodes n_links n_tunnels n_messages n_areas n_firsts n_seconds n_privates n_entries n_exits res.2.2.2.1 res.2.2.2.2.1 res.2.2.2.2.2.1 ++ wH Z Ah res.2.2.2.2.2.2.1 res.2.2.2.2.2.2.2.1 res.2.2.2.2.2.2.2.2)) A) args s 0 0 A) (F0 m 61 ls []) := by
  unfold uX6_setLink_61 at h
  refine r_aload_n E hl 0 rfl dX6_setLink_61 rfl ?_
  obtain ⟨y7, hy7, h⟩ := bd_some h
  refine r_callVAv E hw (mX6_beginAction l Z _ Ao Ah An Ac Ar Af Ag Ap At o_historySize o_wayIsKept n_nodes n_links n_tunnels n_messages n_areas n_firsts n_seconds n_privates n_entries n_exits n_truth n_facts n_news h_F h_G h_N hy7) kL_X6_69 kI_X6_beginAction kS_X6_beginAction kN_X6 kC_X6_beginAction rfl rfl hdX6_beginAction ⟨Nat.le_of_ble_eq_true rfl, Nat.le_of_ble_eq_true rfl⟩ 0 rfl rfl rfl rfl hl [] rfl (Nat.le_of_ble_eq_true rfl) dX6_setLink_62 ⟨Nat.zero_le _, Nat.zero_le _⟩ (fun H locs hw => ?_)
  refine r_aload_n E hl 0 rfl dX6_setLink_65 rfl ?_
  refine r_get E kW_X6 hw 0 rfl rfl 0 (by decide) kF_X6_12 rfl dX6_setLink_66 ?_
  refine r_iload_n E hl 1 rfl dX6_setLink_69 rfl ?_
  refine r_iload_n E hl 2 rfl dX6_setLink_70 rfl ?_
  refine r_iload_n E hl 3 rfl dX6_setLink_71 rfl ?_
  obtain ⟨y8, hy8, h⟩ := bd_some h
  refine r_callVQi E ((wX6 Z Ao Ah An Ac Ar Af Ag Ap At y7.1 y7.2.1 ++ wX3 Z An n_nodes n_links n_tunnels n_messages n_areas n_firsts n_seconds n_privates n_entries n_exits y8.2.1 y8.2.2.1 y8.2.2.2 ++ wH Z Ah y7.2.2.1 y7.2.2.2.1 y7.2.2.2.2)) (wX6 Z Ao Ah An Ac Ar Af Ag Ap At y7.1 y7.2.1 ++ wH Z Ah y7.2.2.1 y7.2.2.2.1 y7.2.2.2.2) hw (mX3_changeLink l Z _ An n_nodes n_links n_tunnels n_messages n_areas n_firsts n_seconds n_privates n_entries n_exits n_truth n_facts n_news v1 v2 v3 hy8) kL_X6_108 kI_X3_changeLink kS_X3_changeLink kN_X3 kC_X3_changeLink rfl rfl hdX3_changeLink ⟨Nat.le_of_ble_eq_true rfl, Nat.le_of_ble_eq_true rfl⟩ (fun f => by simp only [sf_app] <;> omega) (fun f => by simp only [sf_app] <;> omega) 1 rfl rfl rfl rfl hl [] rfl (Nat.le_of_ble_eq_true rfl) dX6_setLink_72 ⟨Nat.zero_le _, Nat.zero_le _⟩ (fun H locs hw => ?_)
  obtain rfl := Option.some.inj h
  exact r_iret E hw dX6_setLink_75
set_option maxRecDepth 100000 in
set_option maxHeartbeats 4000000 in
theorem mX6_setLink (l : Launch) (Z : zT) (sz : Nat) (Ao : Nat) (Ah : Nat) (An : Nat → Nat) (Ac : Nat → Nat) (Ar : Nat → Nat) (Af : Nat → Nat) (Ag : Nat → Nat) (Ap : Nat → Nat) (At : Nat → Nat) (o_historySize : Int32) (o_wayIsKept : Int32) (n_nodes : Int32) (n_links : Int32) (n_tunnels : Int32) (n_messages : Int32) (n_areas : (Nat → Int32)) (n_firsts : (Nat → Int32)) (n_seconds : (Nat → Int32)) (n_privates : (Nat → Int32)) (n_entries : (Nat → Int32)) (n_exits : (Nat → Int32)) (n_truth : (Nat → Int32)) (n_facts : (Nat → Int32)) (n_news : (Nat → Int64)) (h_F : (Nat → Option Nat)) (h_G : (Nat → Nat → Nat)) (h_N : (Nat → zNet)) (v1 : Int32) (v2 : Int32) (v3 : Int32) {res : Int32 × Int32 × Int32 × (Nat → Int32) × (Nat → Int32) × (Nat → Int64) × (Nat → Option Nat) × (Nat → Nat → Nat) × (Nat → zNet)} (h : fX6_setLink v1 v2 v3 o_historySize o_wayIsKept n_nodes n_links n_tunnels n_messages n_areas n_firsts n_seconds n_privates n_entries n_exits n_truth n_facts n_news h_F h_G h_N = some res) : Met l yX6_setLink (Cond.code yX6_setLink cX6_setLink 5 (some .int) :: zWs) rmX6_setLink (zP Z ((wX6 Z Ao Ah An Ac Ar Af Ag Ap At o_historySize o_wayIsKept ++ wX3 Z An n_nodes n_links n_tunnels n_messages n_areas n_firsts n_seconds n_privates n_entries n_exits n_truth n_facts n_news ++ wH Z Ah h_F h_G h_N)) sz [.ref Ao, .int v1, .int v2, .int v3]) (zQi Z res.1 ((wX6 Z Ao Ah An Ac Ar Af Ag Ap At res.2.1 res.2.2.1 ++ wX3 Z An n_nodes n_links n_tunnels n_messages n_areas n_firsts n_seconds n_privates n_entries n_exits res.2.2.2.1 res.2.2.2.2.1 res.2.2.2.2.2.1 ++ wH Z Ah res.2.2.2.2.2.2.1 res.2.2.2.2.2.2.2.1 res.2.2.2.2.2.2.2.2)) (va_A ((wX6 Z Ao Ah An Ac Ar Af Ag Ap At o_historySize o_wayIsKept ++ wX3 Z An n_nodes n_links n_tunnels n_messages n_areas n_firsts n_seconds n_privates n_entries n_exits n_truth n_facts n_news ++ wH Z Ah h_F h_G h_N)) sz)) 0 0 (va_A ((wX6 Z Ao Ah An Ac Ar Af Ag Ap At o_historySize o_wayIsKept ++ wX3 Z An n_nodes n_links n_tunnels n_messages n_areas n_firsts n_seconds n_privates n_entries n_exits n_truth n_facts n_news ++ wH Z Ah h_F h_G h_N)) sz) := by
  refine zMet (own := RX6) (fun A => zQi Z res.1 ((wX6 Z Ao Ah An Ac Ar Af Ag Ap At res.2.1 res.2.2.1 ++ wX3 Z An n_nodes n_links n_tunnels n_messages n_areas n_firsts n_seconds n_privates n_entries n_exits res.2.2.2.1 res.2.2.2.2.1 res.2.2.2.2.2.1 ++ wH Z Ah res.2.2.2.2.2.2.1 res.2.2.2.2.2.2.2.1 res.2.2.2.2.2.2.2.2)) A) (by decide) rfl (Nat.le_of_ble_eq_true rfl) ?_
  intro p e s m args below meth c ls A E hw hl
  unfold fX6_setLink at h
  refine r_aload_n E hl 0 rfl dX6_setLink_0 rfl ?_
  refine r_iload_n E hl 1 rfl dX6_setLink_1 rfl ?_
  obtain ⟨y1, hy1, h⟩ := bd_some h
  refine r_callVQi E ((wX6 Z Ao Ah An Ac Ar Af Ag Ap At o_historySize o_wayIsKept ++ wX3 Z An n_nodes n_links n_tunnels n_messages n_areas n_firsts n_seconds n_privates n_entries n_exits n_truth n_facts n_news ++ wH Z Ah h_F h_G h_N)) (wH Z Ah h_F h_G h_N) hw (mX6_isLink l Z _ Ao Ah An Ac Ar Af Ag Ap At o_historySize o_wayIsKept n_nodes n_links n_tunnels n_messages n_areas n_firsts n_seconds n_privates n_entries n_exits n_truth n_facts n_news v1 hy1) kL_X6_93 kI_X6_isLink kS_X6_isLink kN_X6 kC_X6_isLink rfl rfl hdX6_isLink ⟨Nat.le_of_ble_eq_true rfl, Nat.le_of_ble_eq_true rfl⟩ (fun f => by simp only [sf_app] <;> omega) (fun f => by simp only [sf_app] <;> omega) 0 rfl rfl rfl rfl hl [] rfl (Nat.le_of_ble_eq_true rfl) dX6_setLink_2 ⟨Nat.zero_le _, Nat.zero_le _⟩ (fun H locs hw => ?_)
  refine r_if_eq E 24 dX6_setLink_5 (by decide) (fun hc => ?_) (fun hc => ?_)
  · replace h := ite_t hc h
    refine r_iconst E (-1) dX6_setLink_24 (by decide) ?_
    obtain rfl := Option.some.inj h
    exact r_iret E hw dX6_setLink_25
  · replace h := ite_f hc h
    refine r_iload_n E hl 2 rfl dX6_setLink_8 rfl ?_
    obtain ⟨y2, hy2, h⟩ := bd_some h
    refine r_callS0i E hw (mX6_isFlag l Z _ v2 hy2) kL_X6_83 kT_X6_isFlag kN_X6 kC_X6_isFlag rfl rfl hdX6_isFlag ⟨Nat.le_of_ble_eq_true rfl, Nat.le_of_ble_eq_true rfl⟩ rfl hl [] rfl (Nat.le_of_ble_eq_true rfl) dX6_setLink_9 ⟨Nat.zero_le _, Nat.zero_le _⟩ (fun H locs hw => ?_)
    refine r_if_eq E 24 dX6_setLink_12 (by decide) (fun hc => ?_) (fun hc => ?_)
    · replace h := ite_t hc h
      refine r_iconst E (-1) dX6_setLink_24 (by decide) ?_
      obtain rfl := Option.some.inj h
      exact r_iret E hw dX6_setLink_25
    · replace h := ite_f hc h
      refine r_iload_n E hl 3 rfl dX6_setLink_15 rfl ?_
      refine r_bipush E 20 dX6_setLink_16 (by decide) ?_
      obtain ⟨y3, hy3, h⟩ := bd_some h
      refine r_callS0i E hw (mX6_isCost l Z _ v3 (20 : Int32) hy3) kL_X6_80 kT_X6_isCost kN_X6 kC_X6_isCost rfl rfl hdX6_isCost ⟨Nat.le_of_ble_eq_true rfl, Nat.le_of_ble_eq_true rfl⟩ rfl hl [] rfl (Nat.le_of_ble_eq_true rfl) dX6_setLink_18 ⟨Nat.zero_le _, Nat.zero_le _⟩ (fun H locs hw => ?_)
      refine r_if_ne E 26 dX6_setLink_21 (by decide) (fun hc => ?_) (fun hc => ?_)
      · replace h := ite_f hc h
        refine r_aload_n E hl 0 rfl dX6_setLink_26 rfl ?_
        refine r_get E kW_X6 hw 0 rfl rfl 0 (by decide) kF_X6_12 rfl dX6_setLink_27 ?_
        refine r_get E kW_X3 hw 1 rfl rfl 10 (by decide) kF_X6_96 rfl dX6_setLink_30 ?_
        refine r_bipush E 16 dX6_setLink_33 (by decide) ?_
        refine r_iload_n E hl 1 rfl dX6_setLink_35 rfl ?_
        refine r_iadd E dX6_setLink_36 ?_
        obtain ⟨hg4, h⟩ := gd_some h
        refine r_iald E hw 8 rfl hg4 dX6_setLink_37 ?_
        obtain ⟨w5, hw5, h⟩ := nm_out h
        refine r_nm hw5 ?_
        refine r_istore E [(4, .int w5), (0, .ref Ao), (1, .int v1), (2, .int v2), (3, .int v3)] hl dX6_setLink_38 (by decide) rfl (fun ls hl => ?_)
        refine r_iload E hl 0 rfl dX6_setLink_40 ?_
        obtain ⟨y6, hy6, h⟩ := bd_some h
        refine r_callS0i E hw (mX0_state l Z _ w5 hy6) kL_X6_100 kT_X0_state kN_X0 kC_X0_state rfl rfl hdX0_state ⟨Nat.le_of_ble_eq_true rfl, Nat.le_of_ble_eq_true rfl⟩ rfl hl [] rfl (Nat.le_of_ble_eq_true rfl) dX6_setLink_42 ⟨Nat.zero_le _, Nat.zero_le _⟩ (fun H locs hw => ?_)
        refine r_iload_n E hl 3 rfl dX6_setLink_45 rfl ?_
        refine r_icmp_ne E 61 dX6_setLink_46 (by decide) (fun hc => ?_) (fun hc => ?_)
        · replace h := ite_f hc h
          exact vX6_setLink_61 E  hw (lv_sub hl [1, 2, 3, 4] rfl) h
        · replace h := ite_t hc h
          refine r_iload E hl 0 rfl dX6_setLink_49 ?_
          obtain ⟨y9, hy9, h⟩ := bd_some h
          refine r_callS0i E hw (mX0_price l Z _ w5 hy9) kL_X6_105 kT_X0_price kN_X0 kC_X0_price rfl rfl hdX0_price ⟨Nat.le_of_ble_eq_true rfl, Nat.le_of_ble_eq_true rfl⟩ rfl hl [] rfl (Nat.le_of_ble_eq_true rfl) dX6_setLink_51 ⟨Nat.zero_le _, Nat.zero_le _⟩ (fun H locs hw => ?_)
          refine r_iload_n E hl 4 rfl dX6_setLink_54 rfl ?_
          refine r_icmp_ne E 61 dX6_setLink_55 (by decide) (fun hc => ?_) (fun hc => ?_)
          · replace h := ite_f hc h
            exact vX6_setLink_61 E  hw (lv_sub hl [1, 2, 3, 4] rfl) h
          · replace h := ite_t hc h
            refine r_bipush E (-2) dX6_setLink_58 (by decide) ?_
            obtain rfl := Option.some.inj h
            exact r_iret E hw dX6_setLink_60
      · replace h := ite_t hc h
        refine r_iconst E (-1) dX6_setLink_24 (by decide) ?_
        obtain rfl := Option.some.inj h
        exact r_iret E hw dX6_setLink_25
abbrev rmX6_setGrant : Room := { frames := 4, cells := 0, slots := 0, locals := 97 }

set_option maxRecDepth 100000 in
set_option maxHeartbeats 4000000 in
theorem mX6_setGrant (l : Launch) (Z : zT) (sz : Nat) (Ao : Nat) (Ah : Nat) (An : Nat → Nat) (Ac : Nat → Nat) (Ar : Nat → Nat) (Af : Nat → Nat) (Ag : Nat → Nat) (Ap : Nat → Nat) (At : Nat → Nat) (o_historySize : Int32) (o_wayIsKept : Int32) (n_nodes : Int32) (n_links : Int32) (n_tunnels : Int32) (n_messages : Int32) (n_areas : (Nat → Int32)) (n_firsts : (Nat → Int32)) (n_seconds : (Nat → Int32)) (n_privates : (Nat → Int32)) (n_entries : (Nat → Int32)) (n_exits : (Nat → Int32)) (n_truth : (Nat → Int32)) (n_facts : (Nat → Int32)) (n_news : (Nat → Int64)) (h_F : (Nat → Option Nat)) (h_G : (Nat → Nat → Nat)) (h_N : (Nat → zNet)) (v1 : Int32) (v2 : Int32) (v3 : Int32) {res : Int32 × Int32 × Int32 × (Nat → Int32) × (Nat → Int32) × (Nat → Int64) × (Nat → Option Nat) × (Nat → Nat → Nat) × (Nat → zNet)} (h : fX6_setGrant v1 v2 v3 o_historySize o_wayIsKept n_nodes n_links n_tunnels n_messages n_areas n_firsts n_seconds n_privates n_entries n_exits n_truth n_facts n_news h_F h_G h_N = some res) : Met l yX6_setGrant (Cond.code yX6_setGrant cX6_setGrant 4 (some .int) :: zWs) rmX6_setGrant (zP Z ((wX6 Z Ao Ah An Ac Ar Af Ag Ap At o_historySize o_wayIsKept ++ wX3 Z An n_nodes n_links n_tunnels n_messages n_areas n_firsts n_seconds n_privates n_entries n_exits n_truth n_facts n_news ++ wH Z Ah h_F h_G h_N)) sz [.ref Ao, .int v1, .int v2, .int v3]) (zQi Z res.1 ((wX6 Z Ao Ah An Ac Ar Af Ag Ap At res.2.1 res.2.2.1 ++ wX3 Z An n_nodes n_links n_tunnels n_messages n_areas n_firsts n_seconds n_privates n_entries n_exits res.2.2.2.1 res.2.2.2.2.1 res.2.2.2.2.2.1 ++ wH Z Ah res.2.2.2.2.2.2.1 res.2.2.2.2.2.2.2.1 res.2.2.2.2.2.2.2.2)) (va_A ((wX6 Z Ao Ah An Ac Ar Af Ag Ap At o_historySize o_wayIsKept ++ wX3 Z An n_nodes n_links n_tunnels n_messages n_areas n_firsts n_seconds n_privates n_entries n_exits n_truth n_facts n_news ++ wH Z Ah h_F h_G h_N)) sz)) 0 0 (va_A ((wX6 Z Ao Ah An Ac Ar Af Ag Ap At o_historySize o_wayIsKept ++ wX3 Z An n_nodes n_links n_tunnels n_messages n_areas n_firsts n_seconds n_privates n_entries n_exits n_truth n_facts n_news ++ wH Z Ah h_F h_G h_N)) sz) := by
  refine zMet (own := RX6) (fun A => zQi Z res.1 ((wX6 Z Ao Ah An Ac Ar Af Ag Ap At res.2.1 res.2.2.1 ++ wX3 Z An n_nodes n_links n_tunnels n_messages n_areas n_firsts n_seconds n_privates n_entries n_exits res.2.2.2.1 res.2.2.2.2.1 res.2.2.2.2.2.1 ++ wH Z Ah res.2.2.2.2.2.2.1 res.2.2.2.2.2.2.2.1 res.2.2.2.2.2.2.2.2)) A) (by decide) rfl (Nat.le_of_ble_eq_true rfl) ?_
  intro p e s m args below meth c ls A E hw hl
  unfold fX6_setGrant at h
  refine r_iload_n E hl 1 rfl dX6_setGrant_0 rfl ?_
  refine r_iload_n E hl 2 rfl dX6_setGrant_1 rfl ?_
  obtain ⟨y1, hy1, h⟩ := bd_some h
  refine r_callS0i E hw (mX6_areTwoAreas l Z _ v1 v2 hy1) kL_X6_112 kT_X6_areTwoAreas kN_X6 kC_X6_areTwoAreas rfl rfl hdX6_areTwoAreas ⟨Nat.le_of_ble_eq_true rfl, Nat.le_of_ble_eq_true rfl⟩ rfl hl [] rfl (Nat.le_of_ble_eq_true rfl) dX6_setGrant_2 ⟨Nat.zero_le _, Nat.zero_le _⟩ (fun H locs hw => ?_)
  refine r_if_eq E 15 dX6_setGrant_5 (by decide) (fun hc => ?_) (fun hc => ?_)
  · replace h := ite_t hc h
    refine r_iconst E (-1) dX6_setGrant_15 (by decide) ?_
    obtain rfl := Option.some.inj h
    exact r_iret E hw dX6_setGrant_16
  · replace h := ite_f hc h
    refine r_iload_n E hl 3 rfl dX6_setGrant_8 rfl ?_
    obtain ⟨y2, hy2, h⟩ := bd_some h
    refine r_callS0i E hw (mX6_isFlag l Z _ v3 hy2) kL_X6_83 kT_X6_isFlag kN_X6 kC_X6_isFlag rfl rfl hdX6_isFlag ⟨Nat.le_of_ble_eq_true rfl, Nat.le_of_ble_eq_true rfl⟩ rfl hl [] rfl (Nat.le_of_ble_eq_true rfl) dX6_setGrant_9 ⟨Nat.zero_le _, Nat.zero_le _⟩ (fun H locs hw => ?_)
    refine r_if_ne E 17 dX6_setGrant_12 (by decide) (fun hc => ?_) (fun hc => ?_)
    · replace h := ite_f hc h
      refine r_aload_n E hl 0 rfl dX6_setGrant_17 rfl ?_
      refine r_get E kW_X6 hw 0 rfl rfl 0 (by decide) kF_X6_12 rfl dX6_setGrant_18 ?_
      refine r_get E kW_X3 hw 1 rfl rfl 10 (by decide) kF_X6_96 rfl dX6_setGrant_21 ?_
      refine r_iload_n E hl 1 rfl dX6_setGrant_24 rfl ?_
      refine r_iload_n E hl 2 rfl dX6_setGrant_25 rfl ?_
      obtain ⟨y3, hy3, h⟩ := bd_some h
      refine r_callS0i E hw (mX6_grantItem l Z _ v1 v2 hy3) kL_X6_115 kT_X6_grantItem kN_X6 kC_X6_grantItem rfl rfl hdX6_grantItem ⟨Nat.le_of_ble_eq_true rfl, Nat.le_of_ble_eq_true rfl⟩ rfl hl [.ref (An 7)] rfl (Nat.le_of_ble_eq_true rfl) dX6_setGrant_26 ⟨Nat.zero_le _, Nat.zero_le _⟩ (fun H locs hw => ?_)
      obtain ⟨hg4, h⟩ := gd_some h
      refine r_iald E hw 8 rfl hg4 dX6_setGrant_29 ?_
      obtain ⟨y5, hy5, h⟩ := bd_some h
      refine r_callS0i E hw (mX0_state l Z _ (n_truth (y3).toNatClampNeg) hy5) kL_X6_100 kT_X0_state kN_X0 kC_X0_state rfl rfl hdX0_state ⟨Nat.le_of_ble_eq_true rfl, Nat.le_of_ble_eq_true rfl⟩ rfl hl [] rfl (Nat.le_of_ble_eq_true rfl) dX6_setGrant_30 ⟨Nat.zero_le _, Nat.zero_le _⟩ (fun H locs hw => ?_)
      refine r_iload_n E hl 3 rfl dX6_setGrant_33 rfl ?_
      refine r_icmp_ne E 40 dX6_setGrant_34 (by decide) (fun hc => ?_) (fun hc => ?_)
      · replace h := ite_f hc h
        refine r_aload_n E hl 0 rfl dX6_setGrant_40 rfl ?_
        obtain ⟨y6, hy6, h⟩ := bd_some h
        refine r_callVAv E hw (mX6_beginAction l Z _ Ao Ah An Ac Ar Af Ag Ap At o_historySize o_wayIsKept n_nodes n_links n_tunnels n_messages n_areas n_firsts n_seconds n_privates n_entries n_exits n_truth n_facts n_news h_F h_G h_N hy6) kL_X6_69 kI_X6_beginAction kS_X6_beginAction kN_X6 kC_X6_beginAction rfl rfl hdX6_beginAction ⟨Nat.le_of_ble_eq_true rfl, Nat.le_of_ble_eq_true rfl⟩ 0 rfl rfl rfl rfl hl [] rfl (Nat.le_of_ble_eq_true rfl) dX6_setGrant_41 ⟨Nat.zero_le _, Nat.zero_le _⟩ (fun H locs hw => ?_)
        refine r_aload_n E hl 0 rfl dX6_setGrant_44 rfl ?_
        refine r_get E kW_X6 hw 0 rfl rfl 0 (by decide) kF_X6_12 rfl dX6_setGrant_45 ?_
        refine r_iload_n E hl 1 rfl dX6_setGrant_48 rfl ?_
        refine r_iload_n E hl 2 rfl dX6_setGrant_49 rfl ?_
        refine r_iload_n E hl 3 rfl dX6_setGrant_50 rfl ?_
        obtain ⟨y7, hy7, h⟩ := bd_some h
        refine r_callVQi E ((wX6 Z Ao Ah An Ac Ar Af Ag Ap At y6.1 y6.2.1 ++ wX3 Z An n_nodes n_links n_tunnels n_messages n_areas n_firsts n_seconds n_privates n_entries n_exits y7.2.1 y7.2.2.1 y7.2.2.2 ++ wH Z Ah y6.2.2.1 y6.2.2.2.1 y6.2.2.2.2)) (wX6 Z Ao Ah An Ac Ar Af Ag Ap At y6.1 y6.2.1 ++ wH Z Ah y6.2.2.1 y6.2.2.2.1 y6.2.2.2.2) hw (mX3_changeGrant l Z _ An n_nodes n_links n_tunnels n_messages n_areas n_firsts n_seconds n_privates n_entries n_exits n_truth n_facts n_news v1 v2 v3 hy7) kL_X6_119 kI_X3_changeGrant kS_X3_changeGrant kN_X3 kC_X3_changeGrant rfl rfl hdX3_changeGrant ⟨Nat.le_of_ble_eq_true rfl, Nat.le_of_ble_eq_true rfl⟩ (fun f => by simp only [sf_app] <;> omega) (fun f => by simp only [sf_app] <;> omega) 1 rfl rfl rfl rfl hl [] rfl (Nat.le_of_ble_eq_true rfl) dX6_setGrant_51 ⟨Nat.zero_le _, Nat.zero_le _⟩ (fun H locs hw => ?_)
        obtain rfl := Option.some.inj h
        exact r_iret E hw dX6_setGrant_54
      · replace h := ite_t hc h
        refine r_bipush E (-2) dX6_setGrant_37 (by decide) ?_
        obtain rfl := Option.some.inj h
        exact r_iret E hw dX6_setGrant_39
    · replace h := ite_t hc h
      refine r_iconst E (-1) dX6_setGrant_15 (by decide) ?_
      obtain rfl := Option.some.inj h
      exact r_iret E hw dX6_setGrant_16
abbrev rmX6_addTunnel : Room := { frames := 5, cells := 0, slots := 0, locals := 120 }

set_option maxRecDepth 100000 in
set_option maxHeartbeats 4000000 in
theorem mX6_addTunnel (l : Launch) (Z : zT) (sz : Nat) (Ao : Nat) (Ah : Nat) (An : Nat → Nat) (Ac : Nat → Nat) (Ar : Nat → Nat) (Af : Nat → Nat) (Ag : Nat → Nat) (Ap : Nat → Nat) (At : Nat → Nat) (o_historySize : Int32) (o_wayIsKept : Int32) (n_nodes : Int32) (n_links : Int32) (n_tunnels : Int32) (n_messages : Int32) (n_areas : (Nat → Int32)) (n_firsts : (Nat → Int32)) (n_seconds : (Nat → Int32)) (n_privates : (Nat → Int32)) (n_entries : (Nat → Int32)) (n_exits : (Nat → Int32)) (n_truth : (Nat → Int32)) (n_facts : (Nat → Int32)) (n_news : (Nat → Int64)) (h_F : (Nat → Option Nat)) (h_G : (Nat → Nat → Nat)) (h_N : (Nat → zNet)) (v1 : Int32) (v2 : Int32) (v3 : Int32) {res : Int32 × Int32 × Int32 × Int32 × (Nat → Int32) × (Nat → Int32) × (Nat → Int32) × (Nat → Int32) × (Nat → Int64) × (Nat → Option Nat) × (Nat → Nat → Nat) × (Nat → zNet)} (h : fX6_addTunnel v1 v2 v3 o_historySize o_wayIsKept n_nodes n_links n_tunnels n_messages n_areas n_firsts n_seconds n_privates n_entries n_exits n_truth n_facts n_news h_F h_G h_N = some res) : Met l yX6_addTunnel (Cond.code yX6_addTunnel cX6_addTunnel 4 (some .int) :: zWs) rmX6_addTunnel (zP Z ((wX6 Z Ao Ah An Ac Ar Af Ag Ap At o_historySize o_wayIsKept ++ wX3 Z An n_nodes n_links n_tunnels n_messages n_areas n_firsts n_seconds n_privates n_entries n_exits n_truth n_facts n_news ++ wH Z Ah h_F h_G h_N)) sz [.ref Ao, .int v1, .int v2, .int v3]) (zQi Z res.1 ((wX6 Z Ao Ah An Ac Ar Af Ag Ap At res.2.1 res.2.2.1 ++ wX3 Z An n_nodes n_links res.2.2.2.1 n_messages n_areas n_firsts n_seconds n_privates res.2.2.2.2.1 res.2.2.2.2.2.1 res.2.2.2.2.2.2.1 res.2.2.2.2.2.2.2.1 res.2.2.2.2.2.2.2.2.1 ++ wH Z Ah res.2.2.2.2.2.2.2.2.2.1 res.2.2.2.2.2.2.2.2.2.2.1 res.2.2.2.2.2.2.2.2.2.2.2)) (va_A ((wX6 Z Ao Ah An Ac Ar Af Ag Ap At o_historySize o_wayIsKept ++ wX3 Z An n_nodes n_links n_tunnels n_messages n_areas n_firsts n_seconds n_privates n_entries n_exits n_truth n_facts n_news ++ wH Z Ah h_F h_G h_N)) sz)) 0 0 (va_A ((wX6 Z Ao Ah An Ac Ar Af Ag Ap At o_historySize o_wayIsKept ++ wX3 Z An n_nodes n_links n_tunnels n_messages n_areas n_firsts n_seconds n_privates n_entries n_exits n_truth n_facts n_news ++ wH Z Ah h_F h_G h_N)) sz) := by
  refine zMet (own := RX6) (fun A => zQi Z res.1 ((wX6 Z Ao Ah An Ac Ar Af Ag Ap At res.2.1 res.2.2.1 ++ wX3 Z An n_nodes n_links res.2.2.2.1 n_messages n_areas n_firsts n_seconds n_privates res.2.2.2.2.1 res.2.2.2.2.2.1 res.2.2.2.2.2.2.1 res.2.2.2.2.2.2.2.1 res.2.2.2.2.2.2.2.2.1 ++ wH Z Ah res.2.2.2.2.2.2.2.2.2.1 res.2.2.2.2.2.2.2.2.2.2.1 res.2.2.2.2.2.2.2.2.2.2.2)) A) (by decide) rfl (Nat.le_of_ble_eq_true rfl) ?_
  intro p e s m args below meth c ls A E hw hl
  unfold fX6_addTunnel at h
  refine r_aload_n E hl 0 rfl dX6_addTunnel_0 rfl ?_
  refine r_iload_n E hl 1 rfl dX6_addTunnel_1 rfl ?_
  refine r_iload_n E hl 2 rfl dX6_addTunnel_2 rfl ?_
  obtain ⟨y1, hy1, h⟩ := bd_some h
  refine r_callVQi E ((wX6 Z Ao Ah An Ac Ar Af Ag Ap At o_historySize o_wayIsKept ++ wX3 Z An n_nodes n_links n_tunnels n_messages n_areas n_firsts n_seconds n_privates n_entries n_exits n_truth n_facts n_news ++ wH Z Ah h_F h_G h_N)) (wH Z Ah h_F h_G h_N) hw (mX6_isPair l Z _ Ao Ah An Ac Ar Af Ag Ap At o_historySize o_wayIsKept n_nodes n_links n_tunnels n_messages n_areas n_firsts n_seconds n_privates n_entries n_exits n_truth n_facts n_news v1 v2 hy1) kL_X6_76 kI_X6_isPair kS_X6_isPair kN_X6 kC_X6_isPair rfl rfl hdX6_isPair ⟨Nat.le_of_ble_eq_true rfl, Nat.le_of_ble_eq_true rfl⟩ (fun f => by simp only [sf_app] <;> omega) (fun f => by simp only [sf_app] <;> omega) 0 rfl rfl rfl rfl hl [] rfl (Nat.le_of_ble_eq_true rfl) dX6_addTunnel_3 ⟨Nat.zero_le _, Nat.zero_le _⟩ (fun H locs hw => ?_)
  refine r_if_eq E 18 dX6_addTunnel_6 (by decide) (fun hc => ?_) (fun hc => ?_)
  · replace h := ite_t hc h
    refine r_iconst E (-1) dX6_addTunnel_18 (by decide) ?_
    obtain rfl := Option.some.inj h
    exact r_iret E hw dX6_addTunnel_19
  · replace h := ite_f hc h
    refine r_iload_n E hl 3 rfl dX6_addTunnel_9 rfl ?_
    refine r_bipush E 40 dX6_addTunnel_10 (by decide) ?_
    obtain ⟨y2, hy2, h⟩ := bd_some h
    refine r_callS0i E hw (mX6_isCost l Z _ v3 (40 : Int32) hy2) kL_X6_80 kT_X6_isCost kN_X6 kC_X6_isCost rfl rfl hdX6_isCost ⟨Nat.le_of_ble_eq_true rfl, Nat.le_of_ble_eq_true rfl⟩ rfl hl [] rfl (Nat.le_of_ble_eq_true rfl) dX6_addTunnel_12 ⟨Nat.zero_le _, Nat.zero_le _⟩ (fun H locs hw => ?_)
    refine r_if_ne E 20 dX6_addTunnel_15 (by decide) (fun hc => ?_) (fun hc => ?_)
    · replace h := ite_f hc h
      refine r_aload_n E hl 0 rfl dX6_addTunnel_20 rfl ?_
      refine r_get E kW_X6 hw 0 rfl rfl 0 (by decide) kF_X6_12 rfl dX6_addTunnel_21 ?_
      refine r_get E kW_X3 hw 1 rfl rfl 2 (by decide) kF_X6_122 rfl dX6_addTunnel_24 ?_
      refine r_iconst E 3 dX6_addTunnel_27 (by decide) ?_
      refine r_icmp_lt E 34 dX6_addTunnel_28 (by decide) (fun hc => ?_) (fun hc => ?_)
      · replace h := ite_t hc h
        refine r_aload_n E hl 0 rfl dX6_addTunnel_34 rfl ?_
        obtain ⟨y3, hy3, h⟩ := bd_some h
        refine r_callVAv E hw (mX6_beginAction l Z _ Ao Ah An Ac Ar Af Ag Ap At o_historySize o_wayIsKept n_nodes n_links n_tunnels n_messages n_areas n_firsts n_seconds n_privates n_entries n_exits n_truth n_facts n_news h_F h_G h_N hy3) kL_X6_69 kI_X6_beginAction kS_X6_beginAction kN_X6 kC_X6_beginAction rfl rfl hdX6_beginAction ⟨Nat.le_of_ble_eq_true rfl, Nat.le_of_ble_eq_true rfl⟩ 0 rfl rfl rfl rfl hl [] rfl (Nat.le_of_ble_eq_true rfl) dX6_addTunnel_35 ⟨Nat.zero_le _, Nat.zero_le _⟩ (fun H locs hw => ?_)
        refine r_aload_n E hl 0 rfl dX6_addTunnel_38 rfl ?_
        refine r_get E kW_X6 hw 0 rfl rfl 0 (by decide) kF_X6_12 rfl dX6_addTunnel_39 ?_
        refine r_iload_n E hl 1 rfl dX6_addTunnel_42 rfl ?_
        refine r_iload_n E hl 2 rfl dX6_addTunnel_43 rfl ?_
        refine r_iload_n E hl 3 rfl dX6_addTunnel_44 rfl ?_
        obtain ⟨y4, hy4, h⟩ := bd_some h
        refine r_callVQi E ((wX6 Z Ao Ah An Ac Ar Af Ag Ap At y3.1 y3.2.1 ++ wX3 Z An n_nodes n_links y4.2.1 n_messages n_areas n_firsts n_seconds n_privates y4.2.2.1 y4.2.2.2.1 y4.2.2.2.2.1 y4.2.2.2.2.2.1 y4.2.2.2.2.2.2 ++ wH Z Ah y3.2.2.1 y3.2.2.2.1 y3.2.2.2.2)) (wX6 Z Ao Ah An Ac Ar Af Ag Ap At y3.1 y3.2.1 ++ wH Z Ah y3.2.2.1 y3.2.2.2.1 y3.2.2.2.2) hw (mX3_createTunnel l Z _ An n_nodes n_links n_tunnels n_messages n_areas n_firsts n_seconds n_privates n_entries n_exits n_truth n_facts n_news v1 v2 v3 hy4) kL_X6_125 kI_X3_createTunnel kS_X3_createTunnel kN_X3 kC_X3_createTunnel rfl rfl hdX3_createTunnel ⟨Nat.le_of_ble_eq_true rfl, Nat.le_of_ble_eq_true rfl⟩ (fun f => by simp only [sf_app] <;> omega) (fun f => by simp only [sf_app] <;> omega) 1 rfl rfl rfl rfl hl [] rfl (Nat.le_of_ble_eq_true rfl) dX6_addTunnel_45 ⟨Nat.zero_le _, Nat.zero_le _⟩ (fun H locs hw => ?_)
        obtain rfl := Option.some.inj h
        exact r_iret E hw dX6_addTunnel_48
      · replace h := ite_f hc h
        refine r_bipush E (-3) dX6_addTunnel_31 (by decide) ?_
        obtain rfl := Option.some.inj h
        exact r_iret E hw dX6_addTunnel_33
    · replace h := ite_t hc h
      refine r_iconst E (-1) dX6_addTunnel_18 (by decide) ?_
      obtain rfl := Option.some.inj h
      exact r_iret E hw dX6_addTunnel_19
abbrev rmX6_setTunnel : Room := { frames := 4, cells := 0, slots := 0, locals := 96 }

set_option maxRecDepth 100000 in
set_option maxHeartbeats 4000000 in
theorem vX6_setTunnel_61 {Z : zT} {p : Program} {l : Launch} {e : Env} {s : State} {m : MethodId} {args : Array Value} {below : List Frame} {meth : Method} {c : Code} {A : Nat → Prop} (E : zE Z p s m args meth c RX6 cX6_setTunnel 5 (some .int) A) {Ao Ah : Nat} {An Ac Ar Af Ag Ap At : Nat → Nat} {v1 : Int32} {v2 : Int32} {v3 : Int32} {o_historySize : Int32} {o_wayIsKept : Int32} {n_nodes : Int32} {n_links : Int32} {n_tunnels : Int32} {n_messages : Int32} {n_areas : (Nat → Int32)} {n_firsts : (Nat → Int32)} {n_seconds : (Nat → Int32)} {n_privates : (Nat → Int32)} {n_entries : (Nat → Int32)} {n_exits : (Nat → Int32)} {n_truth : (Nat → Int32)} {n_facts : (Nat → Int32)} {n_news : (Nat → Int64)} {h_F : (Nat → Option Nat)} {h_G : (Nat → Nat → Nat)} {h_N : (Nat → zNet)} {res : Int32 × Int32 × Int32 × (Nat → Int32) × (Nat → Int32) × (Nat → Int64) × (Nat → Option Nat) × (Nat → Nat → Nat) × (Nat → zNet)}  {H : Heap} {locs : List Loc} {ls : Array Slot} (hw : zW Z A ((wX6 Z Ao Ah An Ac Ar Af Ag Ap At o_historySize o_wayIsKept ++ wX3 Z An n_nodes n_links n_tunnels n_messages n_areas n_firsts n_seconds n_privates n_entries n_exits n_truth n_facts n_news ++ wH Z Ah h_F h_G h_N)) s.heap H locs) (hl : lv_has ls 5 [(0, .ref Ao), (1, .int v1), (2, .int v2), (3, .int v3)]) (h : uX6_setTunnel_61 v1 v2 v3 o_historySize n_nodes n_links n_tunnels n_messages n_areas n_firsts n_seconds n_privates n_entries n_exits n_truth n_facts n_news h_F h_G h_N = some res) : W p l e rmX6_setTunnel s m args below meth c H locs 0 0 (MQ below (zQi Z res.1 ((wX6 Z Ao Ah An Ac Ar Af Ag Ap At res.2.1 res.2.2.1 ++ wX3 Z An n_nodes n_links n_tunnels n_messages n_areas n_firsts n_seconds n_privates n_entries n_exits res.2.2.2.1 res.2.2.2.2.1 res.2.2.2.2.2.1 ++ wH Z Ah res.2.2.2.2.2.2.1 res.2.2.2.2.2.2.2.1 res.2.2.2.2.2.2.2.2)) A) args s 0 0 A) (F0 m 61 ls []) := by
  unfold uX6_setTunnel_61 at h
  refine r_aload_n E hl 0 rfl dX6_setTunnel_61 rfl ?_
  obtain ⟨y7, hy7, h⟩ := bd_some h
  refine r_callVAv E hw (mX6_beginAction l Z _ Ao Ah An Ac Ar Af Ag Ap At o_historySize o_wayIsKept n_nodes n_links n_tunnels n_messages n_areas n_firsts n_seconds n_privates n_entries n_exits n_truth n_facts n_news h_F h_G h_N hy7) kL_X6_69 kI_X6_beginAction kS_X6_beginAction kN_X6 kC_X6_beginAction rfl rfl hdX6_beginAction ⟨Nat.le_of_ble_eq_true rfl, Nat.le_of_ble_eq_true rfl⟩ 0 rfl rfl rfl rfl hl [] rfl (Nat.le_of_ble_eq_true rfl) dX6_setTunnel_62 ⟨Nat.zero_le _, Nat.zero_le _⟩ (fun H locs hw => ?_)
  refine r_aload_n E hl 0 rfl dX6_setTunnel_65 rfl ?_
  refine r_get E kW_X6 hw 0 rfl rfl 0 (by decide) kF_X6_12 rfl dX6_setTunnel_66 ?_
  refine r_iload_n E hl 1 rfl dX6_setTunnel_69 rfl ?_
  refine r_iload_n E hl 2 rfl dX6_setTunnel_70 rfl ?_
  refine r_iload_n E hl 3 rfl dX6_setTunnel_71 rfl ?_
  obtain ⟨y8, hy8, h⟩ := bd_some h
  refine r_callVQi E ((wX6 Z Ao Ah An Ac Ar Af Ag Ap At y7.1 y7.2.1 ++ wX3 Z An n_nodes n_links n_tunnels n_messages n_areas n_firsts n_seconds n_privates n_entries n_exits y8.2.1 y8.2.2.1 y8.2.2.2 ++ wH Z Ah y7.2.2.1 y7.2.2.2.1 y7.2.2.2.2)) (wX6 Z Ao Ah An Ac Ar Af Ag Ap At y7.1 y7.2.1 ++ wH Z Ah y7.2.2.1 y7.2.2.2.1 y7.2.2.2.2) hw (mX3_changeTunnel l Z _ An n_nodes n_links n_tunnels n_messages n_areas n_firsts n_seconds n_privates n_entries n_exits n_truth n_facts n_news v1 v2 v3 hy8) kL_X6_131 kI_X3_changeTunnel kS_X3_changeTunnel kN_X3 kC_X3_changeTunnel rfl rfl hdX3_changeTunnel ⟨Nat.le_of_ble_eq_true rfl, Nat.le_of_ble_eq_true rfl⟩ (fun f => by simp only [sf_app] <;> omega) (fun f => by simp only [sf_app] <;> omega) 1 rfl rfl rfl rfl hl [] rfl (Nat.le_of_ble_eq_true rfl) dX6_setTunnel_72 ⟨Nat.zero_le _, Nat.zero_le _⟩ (fun H locs hw => ?_)
  obtain rfl := Option.some.inj h
  exact r_iret E hw dX6_setTunnel_75
set_option maxRecDepth 100000 in
set_option maxHeartbeats 4000000 in
theorem mX6_setTunnel (l : Launch) (Z : zT) (sz : Nat) (Ao : Nat) (Ah : Nat) (An : Nat → Nat) (Ac : Nat → Nat) (Ar : Nat → Nat) (Af : Nat → Nat) (Ag : Nat → Nat) (Ap : Nat → Nat) (At : Nat → Nat) (o_historySize : Int32) (o_wayIsKept : Int32) (n_nodes : Int32) (n_links : Int32) (n_tunnels : Int32) (n_messages : Int32) (n_areas : (Nat → Int32)) (n_firsts : (Nat → Int32)) (n_seconds : (Nat → Int32)) (n_privates : (Nat → Int32)) (n_entries : (Nat → Int32)) (n_exits : (Nat → Int32)) (n_truth : (Nat → Int32)) (n_facts : (Nat → Int32)) (n_news : (Nat → Int64)) (h_F : (Nat → Option Nat)) (h_G : (Nat → Nat → Nat)) (h_N : (Nat → zNet)) (v1 : Int32) (v2 : Int32) (v3 : Int32) {res : Int32 × Int32 × Int32 × (Nat → Int32) × (Nat → Int32) × (Nat → Int64) × (Nat → Option Nat) × (Nat → Nat → Nat) × (Nat → zNet)} (h : fX6_setTunnel v1 v2 v3 o_historySize o_wayIsKept n_nodes n_links n_tunnels n_messages n_areas n_firsts n_seconds n_privates n_entries n_exits n_truth n_facts n_news h_F h_G h_N = some res) : Met l yX6_setTunnel (Cond.code yX6_setTunnel cX6_setTunnel 5 (some .int) :: zWs) rmX6_setTunnel (zP Z ((wX6 Z Ao Ah An Ac Ar Af Ag Ap At o_historySize o_wayIsKept ++ wX3 Z An n_nodes n_links n_tunnels n_messages n_areas n_firsts n_seconds n_privates n_entries n_exits n_truth n_facts n_news ++ wH Z Ah h_F h_G h_N)) sz [.ref Ao, .int v1, .int v2, .int v3]) (zQi Z res.1 ((wX6 Z Ao Ah An Ac Ar Af Ag Ap At res.2.1 res.2.2.1 ++ wX3 Z An n_nodes n_links n_tunnels n_messages n_areas n_firsts n_seconds n_privates n_entries n_exits res.2.2.2.1 res.2.2.2.2.1 res.2.2.2.2.2.1 ++ wH Z Ah res.2.2.2.2.2.2.1 res.2.2.2.2.2.2.2.1 res.2.2.2.2.2.2.2.2)) (va_A ((wX6 Z Ao Ah An Ac Ar Af Ag Ap At o_historySize o_wayIsKept ++ wX3 Z An n_nodes n_links n_tunnels n_messages n_areas n_firsts n_seconds n_privates n_entries n_exits n_truth n_facts n_news ++ wH Z Ah h_F h_G h_N)) sz)) 0 0 (va_A ((wX6 Z Ao Ah An Ac Ar Af Ag Ap At o_historySize o_wayIsKept ++ wX3 Z An n_nodes n_links n_tunnels n_messages n_areas n_firsts n_seconds n_privates n_entries n_exits n_truth n_facts n_news ++ wH Z Ah h_F h_G h_N)) sz) := by
  refine zMet (own := RX6) (fun A => zQi Z res.1 ((wX6 Z Ao Ah An Ac Ar Af Ag Ap At res.2.1 res.2.2.1 ++ wX3 Z An n_nodes n_links n_tunnels n_messages n_areas n_firsts n_seconds n_privates n_entries n_exits res.2.2.2.1 res.2.2.2.2.1 res.2.2.2.2.2.1 ++ wH Z Ah res.2.2.2.2.2.2.1 res.2.2.2.2.2.2.2.1 res.2.2.2.2.2.2.2.2)) A) (by decide) rfl (Nat.le_of_ble_eq_true rfl) ?_
  intro p e s m args below meth c ls A E hw hl
  unfold fX6_setTunnel at h
  refine r_aload_n E hl 0 rfl dX6_setTunnel_0 rfl ?_
  refine r_iload_n E hl 1 rfl dX6_setTunnel_1 rfl ?_
  obtain ⟨y1, hy1, h⟩ := bd_some h
  refine r_callVQi E ((wX6 Z Ao Ah An Ac Ar Af Ag Ap At o_historySize o_wayIsKept ++ wX3 Z An n_nodes n_links n_tunnels n_messages n_areas n_firsts n_seconds n_privates n_entries n_exits n_truth n_facts n_news ++ wH Z Ah h_F h_G h_N)) (wH Z Ah h_F h_G h_N) hw (mX6_isTunnel l Z _ Ao Ah An Ac Ar Af Ag Ap At o_historySize o_wayIsKept n_nodes n_links n_tunnels n_messages n_areas n_firsts n_seconds n_privates n_entries n_exits n_truth n_facts n_news v1 hy1) kL_X6_128 kI_X6_isTunnel kS_X6_isTunnel kN_X6 kC_X6_isTunnel rfl rfl hdX6_isTunnel ⟨Nat.le_of_ble_eq_true rfl, Nat.le_of_ble_eq_true rfl⟩ (fun f => by simp only [sf_app] <;> omega) (fun f => by simp only [sf_app] <;> omega) 0 rfl rfl rfl rfl hl [] rfl (Nat.le_of_ble_eq_true rfl) dX6_setTunnel_2 ⟨Nat.zero_le _, Nat.zero_le _⟩ (fun H locs hw => ?_)
  refine r_if_eq E 24 dX6_setTunnel_5 (by decide) (fun hc => ?_) (fun hc => ?_)
  · replace h := ite_t hc h
    refine r_iconst E (-1) dX6_setTunnel_24 (by decide) ?_
    obtain rfl := Option.some.inj h
    exact r_iret E hw dX6_setTunnel_25
  · replace h := ite_f hc h
    refine r_iload_n E hl 2 rfl dX6_setTunnel_8 rfl ?_
    obtain ⟨y2, hy2, h⟩ := bd_some h
    refine r_callS0i E hw (mX6_isFlag l Z _ v2 hy2) kL_X6_83 kT_X6_isFlag kN_X6 kC_X6_isFlag rfl rfl hdX6_isFlag ⟨Nat.le_of_ble_eq_true rfl, Nat.le_of_ble_eq_true rfl⟩ rfl hl [] rfl (Nat.le_of_ble_eq_true rfl) dX6_setTunnel_9 ⟨Nat.zero_le _, Nat.zero_le _⟩ (fun H locs hw => ?_)
    refine r_if_eq E 24 dX6_setTunnel_12 (by decide) (fun hc => ?_) (fun hc => ?_)
    · replace h := ite_t hc h
      refine r_iconst E (-1) dX6_setTunnel_24 (by decide) ?_
      obtain rfl := Option.some.inj h
      exact r_iret E hw dX6_setTunnel_25
    · replace h := ite_f hc h
      refine r_iload_n E hl 3 rfl dX6_setTunnel_15 rfl ?_
      refine r_bipush E 40 dX6_setTunnel_16 (by decide) ?_
      obtain ⟨y3, hy3, h⟩ := bd_some h
      refine r_callS0i E hw (mX6_isCost l Z _ v3 (40 : Int32) hy3) kL_X6_80 kT_X6_isCost kN_X6 kC_X6_isCost rfl rfl hdX6_isCost ⟨Nat.le_of_ble_eq_true rfl, Nat.le_of_ble_eq_true rfl⟩ rfl hl [] rfl (Nat.le_of_ble_eq_true rfl) dX6_setTunnel_18 ⟨Nat.zero_le _, Nat.zero_le _⟩ (fun H locs hw => ?_)
      refine r_if_ne E 26 dX6_setTunnel_21 (by decide) (fun hc => ?_) (fun hc => ?_)
      · replace h := ite_f hc h
        refine r_aload_n E hl 0 rfl dX6_setTunnel_26 rfl ?_
        refine r_get E kW_X6 hw 0 rfl rfl 0 (by decide) kF_X6_12 rfl dX6_setTunnel_27 ?_
        refine r_get E kW_X3 hw 1 rfl rfl 10 (by decide) kF_X6_96 rfl dX6_setTunnel_30 ?_
        refine r_bipush E 32 dX6_setTunnel_33 (by decide) ?_
        refine r_iload_n E hl 1 rfl dX6_setTunnel_35 rfl ?_
        refine r_iadd E dX6_setTunnel_36 ?_
        obtain ⟨hg4, h⟩ := gd_some h
        refine r_iald E hw 8 rfl hg4 dX6_setTunnel_37 ?_
        obtain ⟨w5, hw5, h⟩ := nm_out h
        refine r_nm hw5 ?_
        refine r_istore E [(4, .int w5), (0, .ref Ao), (1, .int v1), (2, .int v2), (3, .int v3)] hl dX6_setTunnel_38 (by decide) rfl (fun ls hl => ?_)
        refine r_iload E hl 0 rfl dX6_setTunnel_40 ?_
        obtain ⟨y6, hy6, h⟩ := bd_some h
        refine r_callS0i E hw (mX0_state l Z _ w5 hy6) kL_X6_100 kT_X0_state kN_X0 kC_X0_state rfl rfl hdX0_state ⟨Nat.le_of_ble_eq_true rfl, Nat.le_of_ble_eq_true rfl⟩ rfl hl [] rfl (Nat.le_of_ble_eq_true rfl) dX6_setTunnel_42 ⟨Nat.zero_le _, Nat.zero_le _⟩ (fun H locs hw => ?_)
        refine r_iload_n E hl 3 rfl dX6_setTunnel_45 rfl ?_
        refine r_icmp_ne E 61 dX6_setTunnel_46 (by decide) (fun hc => ?_) (fun hc => ?_)
        · replace h := ite_f hc h
          exact vX6_setTunnel_61 E  hw (lv_sub hl [1, 2, 3, 4] rfl) h
        · replace h := ite_t hc h
          refine r_iload E hl 0 rfl dX6_setTunnel_49 ?_
          obtain ⟨y9, hy9, h⟩ := bd_some h
          refine r_callS0i E hw (mX0_price l Z _ w5 hy9) kL_X6_105 kT_X0_price kN_X0 kC_X0_price rfl rfl hdX0_price ⟨Nat.le_of_ble_eq_true rfl, Nat.le_of_ble_eq_true rfl⟩ rfl hl [] rfl (Nat.le_of_ble_eq_true rfl) dX6_setTunnel_51 ⟨Nat.zero_le _, Nat.zero_le _⟩ (fun H locs hw => ?_)
          refine r_iload_n E hl 4 rfl dX6_setTunnel_54 rfl ?_
          refine r_icmp_ne E 61 dX6_setTunnel_55 (by decide) (fun hc => ?_) (fun hc => ?_)
          · replace h := ite_f hc h
            exact vX6_setTunnel_61 E  hw (lv_sub hl [1, 2, 3, 4] rfl) h
          · replace h := ite_t hc h
            refine r_bipush E (-2) dX6_setTunnel_58 (by decide) ?_
            obtain rfl := Option.some.inj h
            exact r_iret E hw dX6_setTunnel_60
      · replace h := ite_t hc h
        refine r_iconst E (-1) dX6_setTunnel_24 (by decide) ?_
        obtain rfl := Option.some.inj h
        exact r_iret E hw dX6_setTunnel_25
abbrev rmX6_load : Room := { frames := 8, cells := 0, slots := 0, locals := 170 }

set_option maxRecDepth 100000 in
set_option maxHeartbeats 4000000 in
theorem mX6_load (l : Launch) (Z : zT) (sz : Nat) (Ao : Nat) (Ah : Nat) (An : Nat → Nat) (Ac : Nat → Nat) (Ar : Nat → Nat) (Af : Nat → Nat) (Ag : Nat → Nat) (Ap : Nat → Nat) (At : Nat → Nat) (o_historySize : Int32) (o_wayIsKept : Int32) (n_nodes : Int32) (n_links : Int32) (n_tunnels : Int32) (n_messages : Int32) (n_areas : (Nat → Int32)) (n_firsts : (Nat → Int32)) (n_seconds : (Nat → Int32)) (n_privates : (Nat → Int32)) (n_entries : (Nat → Int32)) (n_exits : (Nat → Int32)) (n_truth : (Nat → Int32)) (n_facts : (Nat → Int32)) (n_news : (Nat → Int64)) (c_nodes : Int32) (c_links : Int32) (c_tunnels : Int32) (c_messages : Int32) (c_areas : (Nat → Int32)) (c_firsts : (Nat → Int32)) (c_seconds : (Nat → Int32)) (c_privates : (Nat → Int32)) (c_entries : (Nat → Int32)) (c_exits : (Nat → Int32)) (c_truth : (Nat → Int32)) (c_facts : (Nat → Int32)) (c_news : (Nat → Int64)) (r_text : (Nat → Int32)) (r_length : Int32) (r_start : Int32) (r_end : Int32) (r_kind : Int32) (r_error : Int32) (r_thing : Int32) (r_first : Int32) (r_second : Int32) (r_cost : Int32) (h_F : (Nat → Option Nat)) (h_G : (Nat → Nat → Nat)) (h_N : (Nat → zNet))  {res : Int32 × Int32 × Int32 × Int32 × Int32 × Int32 × Int32 × (Nat → Int32) × (Nat → Int32) × (Nat → Int32) × (Nat → Int32) × (Nat → Int32) × (Nat → Int32) × (Nat → Int32) × (Nat → Int32) × (Nat → Int64) × Int32 × Int32 × Int32 × Int32 × (Nat → Int32) × (Nat → Int32) × (Nat → Int32) × (Nat → Int32) × (Nat → Int32) × (Nat → Int32) × (Nat → Int32) × (Nat → Int32) × (Nat → Int64) × Int32 × Int32 × Int32 × Int32 × Int32 × Int32 × Int32 × Int32 × Int32 × (Nat → Option Nat) × (Nat → Nat → Nat) × (Nat → zNet)} (h : fX6_load o_historySize o_wayIsKept n_nodes n_links n_tunnels n_messages n_areas n_firsts n_seconds n_privates n_entries n_exits n_truth n_facts n_news c_areas c_firsts c_seconds c_privates c_entries c_exits c_truth c_facts c_news r_text r_length r_thing r_first r_second r_cost h_F h_G h_N = some res) : Met l yX6_load (Cond.code yX6_load cX6_load 2 (some .int) :: zWs) rmX6_load (zP Z ((wX6 Z Ao Ah An Ac Ar Af Ag Ap At o_historySize o_wayIsKept ++ wX3 Z An n_nodes n_links n_tunnels n_messages n_areas n_firsts n_seconds n_privates n_entries n_exits n_truth n_facts n_news ++ wX3 Z Ac c_nodes c_links c_tunnels c_messages c_areas c_firsts c_seconds c_privates c_entries c_exits c_truth c_facts c_news ++ wX5 Z Ar r_text r_length r_start r_end r_kind r_error r_thing r_first r_second r_cost ++ wH Z Ah h_F h_G h_N)) sz [.ref Ao]) (zQi Z res.1 ((wX6 Z Ao Ah An Ac Ar Af Ag Ap At res.2.1 res.2.2.1 ++ wX3 Z An res.2.2.2.1 res.2.2.2.2.1 res.2.2.2.2.2.1 res.2.2.2.2.2.2.1 res.2.2.2.2.2.2.2.1 res.2.2.2.2.2.2.2.2.1 res.2.2.2.2.2.2.2.2.2.1 res.2.2.2.2.2.2.2.2.2.2.1 res.2.2.2.2.2.2.2.2.2.2.2.1 res.2.2.2.2.2.2.2.2.2.2.2.2.1 res.2.2.2.2.2.2.2.2.2.2.2.2.2.1 res.2.2.2.2.2.2.2.2.2.2.2.2.2.2.1 res.2.2.2.2.2.2.2.2.2.2.2.2.2.2.2.1 ++ wX3 Z Ac res.2.2.2.2.2.2.2.2.2.2.2.2.2.2.2.2.1 res.2.2.2.2.2.2.2.2.2.2.2.2.2.2.2.2.2.1 res.2.2.2.2.2.2.2.2.2.2.2.2.2.2.2.2.2.2.1 res.2.2.2.2.2.2.2.2.2.2.2.2.2.2.2.2.2.2.2.1 res.2.2.2.2.2.2.2.2.2.2.2.2.2.2.2.2.2.2.2.2.1 res.2.2.2.2.2.2.2.2.2.2.2.2.2.2.2.2.2.2.2.2.2.1 res.2.2.2.2.2.2.2.2.2.2.2.2.2.2.2.2.2.2.2.2.2.2.1 res.2.2.2.2.2.2.2.2.2.2.2.2.2.2.2.2.2.2.2.2.2.2.2.1 res.2.2.2.2.2.2.2.2.2.2.2.2.2.2.2.2.2.2.2.2.2.2.2.2.1 res.2.2.2.2.2.2.2.2.2.2.2.2.2.2.2.2.2.2.2.2.2.2.2.2.2.1 res.2.2.2.2.2.2.2.2.2.2.2.2.2.2.2.2.2.2.2.2.2.2.2.2.2.2.1 res.2.2.2.2.2.2.2.2.2.2.2.2.2.2.2.2.2.2.2.2.2.2.2.2.2.2.2.1 res.2.2.2.2.2.2.2.2.2.2.2.2.2.2.2.2.2.2.2.2.2.2.2.2.2.2.2.2.1 ++ wX5 Z Ar r_text res.2.2.2.2.2.2.2.2.2.2.2.2.2.2.2.2.2.2.2.2.2.2.2.2.2.2.2.2.2.1 res.2.2.2.2.2.2.2.2.2.2.2.2.2.2.2.2.2.2.2.2.2.2.2.2.2.2.2.2.2.2.1 res.2.2.2.2.2.2.2.2.2.2.2.2.2.2.2.2.2.2.2.2.2.2.2.2.2.2.2.2.2.2.2.1 res.2.2.2.2.2.2.2.2.2.2.2.2.2.2.2.2.2.2.2.2.2.2.2.2.2.2.2.2.2.2.2.2.1 res.2.2.2.2.2.2.2.2.2.2.2.2.2.2.2.2.2.2.2.2.2.2.2.2.2.2.2.2.2.2.2.2.2.1 res.2.2.2.2.2.2.2.2.2.2.2.2.2.2.2.2.2.2.2.2.2.2.2.2.2.2.2.2.2.2.2.2.2.2.1 res.2.2.2.2.2.2.2.2.2.2.2.2.2.2.2.2.2.2.2.2.2.2.2.2.2.2.2.2.2.2.2.2.2.2.2.1 res.2.2.2.2.2.2.2.2.2.2.2.2.2.2.2.2.2.2.2.2.2.2.2.2.2.2.2.2.2.2.2.2.2.2.2.2.1 res.2.2.2.2.2.2.2.2.2.2.2.2.2.2.2.2.2.2.2.2.2.2.2.2.2.2.2.2.2.2.2.2.2.2.2.2.2.1 ++ wH Z Ah res.2.2.2.2.2.2.2.2.2.2.2.2.2.2.2.2.2.2.2.2.2.2.2.2.2.2.2.2.2.2.2.2.2.2.2.2.2.2.1 res.2.2.2.2.2.2.2.2.2.2.2.2.2.2.2.2.2.2.2.2.2.2.2.2.2.2.2.2.2.2.2.2.2.2.2.2.2.2.2.1 res.2.2.2.2.2.2.2.2.2.2.2.2.2.2.2.2.2.2.2.2.2.2.2.2.2.2.2.2.2.2.2.2.2.2.2.2.2.2.2.2)) (va_A ((wX6 Z Ao Ah An Ac Ar Af Ag Ap At o_historySize o_wayIsKept ++ wX3 Z An n_nodes n_links n_tunnels n_messages n_areas n_firsts n_seconds n_privates n_entries n_exits n_truth n_facts n_news ++ wX3 Z Ac c_nodes c_links c_tunnels c_messages c_areas c_firsts c_seconds c_privates c_entries c_exits c_truth c_facts c_news ++ wX5 Z Ar r_text r_length r_start r_end r_kind r_error r_thing r_first r_second r_cost ++ wH Z Ah h_F h_G h_N)) sz)) 0 0 (va_A ((wX6 Z Ao Ah An Ac Ar Af Ag Ap At o_historySize o_wayIsKept ++ wX3 Z An n_nodes n_links n_tunnels n_messages n_areas n_firsts n_seconds n_privates n_entries n_exits n_truth n_facts n_news ++ wX3 Z Ac c_nodes c_links c_tunnels c_messages c_areas c_firsts c_seconds c_privates c_entries c_exits c_truth c_facts c_news ++ wX5 Z Ar r_text r_length r_start r_end r_kind r_error r_thing r_first r_second r_cost ++ wH Z Ah h_F h_G h_N)) sz) := by
  refine zMet (own := RX6) (fun A => zQi Z res.1 ((wX6 Z Ao Ah An Ac Ar Af Ag Ap At res.2.1 res.2.2.1 ++ wX3 Z An res.2.2.2.1 res.2.2.2.2.1 res.2.2.2.2.2.1 res.2.2.2.2.2.2.1 res.2.2.2.2.2.2.2.1 res.2.2.2.2.2.2.2.2.1 res.2.2.2.2.2.2.2.2.2.1 res.2.2.2.2.2.2.2.2.2.2.1 res.2.2.2.2.2.2.2.2.2.2.2.1 res.2.2.2.2.2.2.2.2.2.2.2.2.1 res.2.2.2.2.2.2.2.2.2.2.2.2.2.1 res.2.2.2.2.2.2.2.2.2.2.2.2.2.2.1 res.2.2.2.2.2.2.2.2.2.2.2.2.2.2.2.1 ++ wX3 Z Ac res.2.2.2.2.2.2.2.2.2.2.2.2.2.2.2.2.1 res.2.2.2.2.2.2.2.2.2.2.2.2.2.2.2.2.2.1 res.2.2.2.2.2.2.2.2.2.2.2.2.2.2.2.2.2.2.1 res.2.2.2.2.2.2.2.2.2.2.2.2.2.2.2.2.2.2.2.1 res.2.2.2.2.2.2.2.2.2.2.2.2.2.2.2.2.2.2.2.2.1 res.2.2.2.2.2.2.2.2.2.2.2.2.2.2.2.2.2.2.2.2.2.1 res.2.2.2.2.2.2.2.2.2.2.2.2.2.2.2.2.2.2.2.2.2.2.1 res.2.2.2.2.2.2.2.2.2.2.2.2.2.2.2.2.2.2.2.2.2.2.2.1 res.2.2.2.2.2.2.2.2.2.2.2.2.2.2.2.2.2.2.2.2.2.2.2.2.1 res.2.2.2.2.2.2.2.2.2.2.2.2.2.2.2.2.2.2.2.2.2.2.2.2.2.1 res.2.2.2.2.2.2.2.2.2.2.2.2.2.2.2.2.2.2.2.2.2.2.2.2.2.2.1 res.2.2.2.2.2.2.2.2.2.2.2.2.2.2.2.2.2.2.2.2.2.2.2.2.2.2.2.1 res.2.2.2.2.2.2.2.2.2.2.2.2.2.2.2.2.2.2.2.2.2.2.2.2.2.2.2.2.1 ++ wX5 Z Ar r_text res.2.2.2.2.2.2.2.2.2.2.2.2.2.2.2.2.2.2.2.2.2.2.2.2.2.2.2.2.2.1 res.2.2.2.2.2.2.2.2.2.2.2.2.2.2.2.2.2.2.2.2.2.2.2.2.2.2.2.2.2.2.1 res.2.2.2.2.2.2.2.2.2.2.2.2.2.2.2.2.2.2.2.2.2.2.2.2.2.2.2.2.2.2.2.1 res.2.2.2.2.2.2.2.2.2.2.2.2.2.2.2.2.2.2.2.2.2.2.2.2.2.2.2.2.2.2.2.2.1 res.2.2.2.2.2.2.2.2.2.2.2.2.2.2.2.2.2.2.2.2.2.2.2.2.2.2.2.2.2.2.2.2.2.1 res.2.2.2.2.2.2.2.2.2.2.2.2.2.2.2.2.2.2.2.2.2.2.2.2.2.2.2.2.2.2.2.2.2.2.1 res.2.2.2.2.2.2.2.2.2.2.2.2.2.2.2.2.2.2.2.2.2.2.2.2.2.2.2.2.2.2.2.2.2.2.2.1 res.2.2.2.2.2.2.2.2.2.2.2.2.2.2.2.2.2.2.2.2.2.2.2.2.2.2.2.2.2.2.2.2.2.2.2.2.1 res.2.2.2.2.2.2.2.2.2.2.2.2.2.2.2.2.2.2.2.2.2.2.2.2.2.2.2.2.2.2.2.2.2.2.2.2.2.1 ++ wH Z Ah res.2.2.2.2.2.2.2.2.2.2.2.2.2.2.2.2.2.2.2.2.2.2.2.2.2.2.2.2.2.2.2.2.2.2.2.2.2.2.1 res.2.2.2.2.2.2.2.2.2.2.2.2.2.2.2.2.2.2.2.2.2.2.2.2.2.2.2.2.2.2.2.2.2.2.2.2.2.2.2.1 res.2.2.2.2.2.2.2.2.2.2.2.2.2.2.2.2.2.2.2.2.2.2.2.2.2.2.2.2.2.2.2.2.2.2.2.2.2.2.2.2)) A) (by decide) rfl (Nat.le_of_ble_eq_true rfl) ?_
  intro p e s m args below meth c ls A E hw hl
  unfold fX6_load at h
  refine r_aload_n E hl 0 rfl dX6_load_0 rfl ?_
  refine r_get E kW_X6 hw 0 rfl rfl 4 (by decide) kF_X6_30 rfl dX6_load_1 ?_
  refine r_aload_n E hl 0 rfl dX6_load_4 rfl ?_
  refine r_get E kW_X6 hw 0 rfl rfl 1 (by decide) kF_X6_16 rfl dX6_load_5 ?_
  obtain ⟨y1, hy1, h⟩ := bd_some h
  refine r_callVQi E ((wX6 Z Ao Ah An Ac Ar Af Ag Ap At o_historySize o_wayIsKept ++ wX3 Z An n_nodes n_links n_tunnels n_messages n_areas n_firsts n_seconds n_privates n_entries n_exits n_truth n_facts n_news ++ wX3 Z Ac y1.2.2.2.2.2.2.2.2.2.1 y1.2.2.2.2.2.2.2.2.2.2.1 y1.2.2.2.2.2.2.2.2.2.2.2.1 y1.2.2.2.2.2.2.2.2.2.2.2.2.1 y1.2.2.2.2.2.2.2.2.2.2.2.2.2.1 y1.2.2.2.2.2.2.2.2.2.2.2.2.2.2.1 y1.2.2.2.2.2.2.2.2.2.2.2.2.2.2.2.1 y1.2.2.2.2.2.2.2.2.2.2.2.2.2.2.2.2.1 y1.2.2.2.2.2.2.2.2.2.2.2.2.2.2.2.2.2.1 y1.2.2.2.2.2.2.2.2.2.2.2.2.2.2.2.2.2.2.1 y1.2.2.2.2.2.2.2.2.2.2.2.2.2.2.2.2.2.2.2.1 y1.2.2.2.2.2.2.2.2.2.2.2.2.2.2.2.2.2.2.2.2.1 y1.2.2.2.2.2.2.2.2.2.2.2.2.2.2.2.2.2.2.2.2.2 ++ wX5 Z Ar r_text r_length y1.2.1 y1.2.2.1 y1.2.2.2.1 y1.2.2.2.2.1 y1.2.2.2.2.2.1 y1.2.2.2.2.2.2.1 y1.2.2.2.2.2.2.2.1 y1.2.2.2.2.2.2.2.2.1 ++ wH Z Ah h_F h_G h_N)) (wX6 Z Ao Ah An Ac Ar Af Ag Ap At o_historySize o_wayIsKept ++ wX3 Z An n_nodes n_links n_tunnels n_messages n_areas n_firsts n_seconds n_privates n_entries n_exits n_truth n_facts n_news ++ wH Z Ah h_F h_G h_N) hw (mX5_readNetwork l Z _ Ar Ac r_text r_length r_start r_end r_kind r_error r_thing r_first r_second r_cost c_nodes c_links c_tunnels c_messages c_areas c_firsts c_seconds c_privates c_entries c_exits c_truth c_facts c_news hy1) kL_X6_141 kI_X5_readNetwork kS_X5_readNetwork kN_X5 kC_X5_readNetwork rfl rfl hdX5_readNetwork ⟨Nat.le_of_ble_eq_true rfl, Nat.le_of_ble_eq_true rfl⟩ (fun f => by simp only [sf_app] <;> omega) (fun f => by simp only [sf_app] <;> omega) 21 rfl rfl rfl rfl hl [] rfl (Nat.le_of_ble_eq_true rfl) dX6_load_8 ⟨Nat.zero_le _, Nat.zero_le _⟩ (fun H locs hw => ?_)
  refine r_istore_n E [(1, .int y1.1), (0, .ref Ao)] hl dX6_load_11 rfl (by decide) rfl (fun ls hl => ?_)
  refine r_iload_n E hl 0 rfl dX6_load_12 rfl ?_
  refine r_if_ge E 18 dX6_load_13 (by decide) (fun hc => ?_) (fun hc => ?_)
  · replace h := ite_t hc h
    refine r_aload_n E hl 1 rfl dX6_load_18 rfl ?_
    obtain ⟨y2, hy2, h⟩ := bd_some h
    refine r_callVQv E ((wX6 Z Ao Ah An Ac Ar Af Ag Ap At y2.1 y2.2.1 ++ wX3 Z An n_nodes n_links n_tunnels n_messages n_areas n_firsts n_seconds n_privates n_entries n_exits n_truth n_facts n_news ++ wX3 Z Ac y1.2.2.2.2.2.2.2.2.2.1 y1.2.2.2.2.2.2.2.2.2.2.1 y1.2.2.2.2.2.2.2.2.2.2.2.1 y1.2.2.2.2.2.2.2.2.2.2.2.2.1 y1.2.2.2.2.2.2.2.2.2.2.2.2.2.1 y1.2.2.2.2.2.2.2.2.2.2.2.2.2.2.1 y1.2.2.2.2.2.2.2.2.2.2.2.2.2.2.2.1 y1.2.2.2.2.2.2.2.2.2.2.2.2.2.2.2.2.1 y1.2.2.2.2.2.2.2.2.2.2.2.2.2.2.2.2.2.1 y1.2.2.2.2.2.2.2.2.2.2.2.2.2.2.2.2.2.2.1 y1.2.2.2.2.2.2.2.2.2.2.2.2.2.2.2.2.2.2.2.1 y1.2.2.2.2.2.2.2.2.2.2.2.2.2.2.2.2.2.2.2.2.1 y1.2.2.2.2.2.2.2.2.2.2.2.2.2.2.2.2.2.2.2.2.2 ++ wX5 Z Ar r_text r_length y1.2.1 y1.2.2.1 y1.2.2.2.1 y1.2.2.2.2.1 y1.2.2.2.2.2.1 y1.2.2.2.2.2.2.1 y1.2.2.2.2.2.2.2.1 y1.2.2.2.2.2.2.2.2.1 ++ wH Z Ah y2.2.2.1 y2.2.2.2.1 y2.2.2.2.2)) (wX3 Z Ac y1.2.2.2.2.2.2.2.2.2.1 y1.2.2.2.2.2.2.2.2.2.2.1 y1.2.2.2.2.2.2.2.2.2.2.2.1 y1.2.2.2.2.2.2.2.2.2.2.2.2.1 y1.2.2.2.2.2.2.2.2.2.2.2.2.2.1 y1.2.2.2.2.2.2.2.2.2.2.2.2.2.2.1 y1.2.2.2.2.2.2.2.2.2.2.2.2.2.2.2.1 y1.2.2.2.2.2.2.2.2.2.2.2.2.2.2.2.2.1 y1.2.2.2.2.2.2.2.2.2.2.2.2.2.2.2.2.2.1 y1.2.2.2.2.2.2.2.2.2.2.2.2.2.2.2.2.2.2.1 y1.2.2.2.2.2.2.2.2.2.2.2.2.2.2.2.2.2.2.2.1 y1.2.2.2.2.2.2.2.2.2.2.2.2.2.2.2.2.2.2.2.2.1 y1.2.2.2.2.2.2.2.2.2.2.2.2.2.2.2.2.2.2.2.2.2 ++ wX5 Z Ar r_text r_length y1.2.1 y1.2.2.1 y1.2.2.2.1 y1.2.2.2.2.1 y1.2.2.2.2.2.1 y1.2.2.2.2.2.2.1 y1.2.2.2.2.2.2.2.1 y1.2.2.2.2.2.2.2.2.1) hw (mX6_beginAction l Z _ Ao Ah An Ac Ar Af Ag Ap At o_historySize o_wayIsKept n_nodes n_links n_tunnels n_messages n_areas n_firsts n_seconds n_privates n_entries n_exits n_truth n_facts n_news h_F h_G h_N hy2) kL_X6_69 kI_X6_beginAction kS_X6_beginAction kN_X6 kC_X6_beginAction rfl rfl hdX6_beginAction ⟨Nat.le_of_ble_eq_true rfl, Nat.le_of_ble_eq_true rfl⟩ (fun f => by simp only [sf_app] <;> omega) (fun f => by simp only [sf_app] <;> omega) 0 rfl rfl rfl rfl hl [] rfl (Nat.le_of_ble_eq_true rfl) dX6_load_19 ⟨Nat.zero_le _, Nat.zero_le _⟩ (fun H locs hw => ?_)
    refine r_aload_n E hl 1 rfl dX6_load_22 rfl ?_
    refine r_get E kW_X6 hw 0 rfl rfl 0 (by decide) kF_X6_12 rfl dX6_load_23 ?_
    refine r_aload_n E hl 1 rfl dX6_load_26 rfl ?_
    refine r_get E kW_X6 hw 0 rfl rfl 1 (by decide) kF_X6_16 rfl dX6_load_27 ?_
    obtain ⟨y3, hy3, h⟩ := bd_some h
    refine r_callVQv E ((wX6 Z Ao Ah An Ac Ar Af Ag Ap At y2.1 y2.2.1 ++ wX3 Z An y3.1 y3.2.1 y3.2.2.1 y3.2.2.2.1 y3.2.2.2.2.1 y3.2.2.2.2.2.1 y3.2.2.2.2.2.2.1 y3.2.2.2.2.2.2.2.1 y3.2.2.2.2.2.2.2.2.1 y3.2.2.2.2.2.2.2.2.2.1 y3.2.2.2.2.2.2.2.2.2.2.1 y3.2.2.2.2.2.2.2.2.2.2.2.1 y3.2.2.2.2.2.2.2.2.2.2.2.2 ++ wX3 Z Ac y1.2.2.2.2.2.2.2.2.2.1 y1.2.2.2.2.2.2.2.2.2.2.1 y1.2.2.2.2.2.2.2.2.2.2.2.1 y1.2.2.2.2.2.2.2.2.2.2.2.2.1 y1.2.2.2.2.2.2.2.2.2.2.2.2.2.1 y1.2.2.2.2.2.2.2.2.2.2.2.2.2.2.1 y1.2.2.2.2.2.2.2.2.2.2.2.2.2.2.2.1 y1.2.2.2.2.2.2.2.2.2.2.2.2.2.2.2.2.1 y1.2.2.2.2.2.2.2.2.2.2.2.2.2.2.2.2.2.1 y1.2.2.2.2.2.2.2.2.2.2.2.2.2.2.2.2.2.2.1 y1.2.2.2.2.2.2.2.2.2.2.2.2.2.2.2.2.2.2.2.1 y1.2.2.2.2.2.2.2.2.2.2.2.2.2.2.2.2.2.2.2.2.1 y1.2.2.2.2.2.2.2.2.2.2.2.2.2.2.2.2.2.2.2.2.2 ++ wX5 Z Ar r_text r_length y1.2.1 y1.2.2.1 y1.2.2.2.1 y1.2.2.2.2.1 y1.2.2.2.2.2.1 y1.2.2.2.2.2.2.1 y1.2.2.2.2.2.2.2.1 y1.2.2.2.2.2.2.2.2.1 ++ wH Z Ah y2.2.2.1 y2.2.2.2.1 y2.2.2.2.2)) (wX6 Z Ao Ah An Ac Ar Af Ag Ap At y2.1 y2.2.1 ++ wX5 Z Ar r_text r_length y1.2.1 y1.2.2.1 y1.2.2.2.1 y1.2.2.2.2.1 y1.2.2.2.2.2.1 y1.2.2.2.2.2.2.1 y1.2.2.2.2.2.2.2.1 y1.2.2.2.2.2.2.2.2.1 ++ wH Z Ah y2.2.2.1 y2.2.2.2.1 y2.2.2.2.2) hw (mX3_copyFrom l Z _ An Ac n_nodes n_links n_tunnels n_messages n_areas n_firsts n_seconds n_privates n_entries n_exits n_truth n_facts n_news y1.2.2.2.2.2.2.2.2.2.1 y1.2.2.2.2.2.2.2.2.2.2.1 y1.2.2.2.2.2.2.2.2.2.2.2.1 y1.2.2.2.2.2.2.2.2.2.2.2.2.1 y1.2.2.2.2.2.2.2.2.2.2.2.2.2.1 y1.2.2.2.2.2.2.2.2.2.2.2.2.2.2.1 y1.2.2.2.2.2.2.2.2.2.2.2.2.2.2.2.1 y1.2.2.2.2.2.2.2.2.2.2.2.2.2.2.2.2.1 y1.2.2.2.2.2.2.2.2.2.2.2.2.2.2.2.2.2.1 y1.2.2.2.2.2.2.2.2.2.2.2.2.2.2.2.2.2.2.1 y1.2.2.2.2.2.2.2.2.2.2.2.2.2.2.2.2.2.2.2.1 y1.2.2.2.2.2.2.2.2.2.2.2.2.2.2.2.2.2.2.2.2.1 y1.2.2.2.2.2.2.2.2.2.2.2.2.2.2.2.2.2.2.2.2.2 hy3) kL_X6_145 kI_X3_copyFrom kS_X3_copyFrom kN_X3 kC_X3_copyFrom rfl rfl hdX3_copyFrom ⟨Nat.le_of_ble_eq_true rfl, Nat.le_of_ble_eq_true rfl⟩ (fun f => by simp only [sf_app] <;> omega) (fun f => by simp only [sf_app] <;> omega) 1 rfl rfl rfl rfl hl [] rfl (Nat.le_of_ble_eq_true rfl) dX6_load_30 ⟨Nat.zero_le _, Nat.zero_le _⟩ (fun H locs hw => ?_)
    refine r_aload_n E hl 1 rfl dX6_load_33 rfl ?_
    refine r_get E kW_X6 hw 0 rfl rfl 4 (by decide) kF_X6_30 rfl dX6_load_34 ?_
    refine r_iconst E 0 dX6_load_37 (by decide) ?_
    refine r_put E ((wX6 Z Ao Ah An Ac Ar Af Ag Ap At y2.1 y2.2.1 ++ wX3 Z An y3.1 y3.2.1 y3.2.2.1 y3.2.2.2.1 y3.2.2.2.2.1 y3.2.2.2.2.2.1 y3.2.2.2.2.2.2.1 y3.2.2.2.2.2.2.2.1 y3.2.2.2.2.2.2.2.2.1 y3.2.2.2.2.2.2.2.2.2.1 y3.2.2.2.2.2.2.2.2.2.2.1 y3.2.2.2.2.2.2.2.2.2.2.2.1 y3.2.2.2.2.2.2.2.2.2.2.2.2 ++ wX3 Z Ac y1.2.2.2.2.2.2.2.2.2.1 y1.2.2.2.2.2.2.2.2.2.2.1 y1.2.2.2.2.2.2.2.2.2.2.2.1 y1.2.2.2.2.2.2.2.2.2.2.2.2.1 y1.2.2.2.2.2.2.2.2.2.2.2.2.2.1 y1.2.2.2.2.2.2.2.2.2.2.2.2.2.2.1 y1.2.2.2.2.2.2.2.2.2.2.2.2.2.2.2.1 y1.2.2.2.2.2.2.2.2.2.2.2.2.2.2.2.2.1 y1.2.2.2.2.2.2.2.2.2.2.2.2.2.2.2.2.2.1 y1.2.2.2.2.2.2.2.2.2.2.2.2.2.2.2.2.2.2.1 y1.2.2.2.2.2.2.2.2.2.2.2.2.2.2.2.2.2.2.2.1 y1.2.2.2.2.2.2.2.2.2.2.2.2.2.2.2.2.2.2.2.2.1 y1.2.2.2.2.2.2.2.2.2.2.2.2.2.2.2.2.2.2.2.2.2 ++ wX5 Z Ar r_text (0 : Int32) y1.2.1 y1.2.2.1 y1.2.2.2.1 y1.2.2.2.2.1 y1.2.2.2.2.2.1 y1.2.2.2.2.2.2.1 y1.2.2.2.2.2.2.2.1 y1.2.2.2.2.2.2.2.2.1 ++ wH Z Ah y2.2.2.1 y2.2.2.2.1 y2.2.2.2.2)) kW_X5 tyX5_ok nmX5 hw 21 rfl rfl 1 (by decide) kF_X6_134 rfl rfl rfl (Nat.le_of_ble_eq_true rfl) rfl dX6_load_38 (fun H locs hw => ?_)
    refine r_iload_n E hl 0 rfl dX6_load_41 rfl ?_
    obtain rfl := Option.some.inj h
    exact r_iret E hw dX6_load_42
  · replace h := ite_f hc h
    refine r_iload_n E hl 0 rfl dX6_load_16 rfl ?_
    obtain rfl := Option.some.inj h
    exact r_iret E hw dX6_load_17
abbrev rmX6_step : Room := { frames := 6, cells := 0, slots := 0, locals := 141 }

set_option maxRecDepth 100000 in
set_option maxHeartbeats 4000000 in
theorem mX6_step (l : Launch) (Z : zT) (sz : Nat) (Ao : Nat) (Ah : Nat) (An : Nat → Nat) (Ac : Nat → Nat) (Ar : Nat → Nat) (Af : Nat → Nat) (Ag : Nat → Nat) (Ap : Nat → Nat) (At : Nat → Nat) (o_historySize : Int32) (o_wayIsKept : Int32) (n_nodes : Int32) (n_links : Int32) (n_tunnels : Int32) (n_messages : Int32) (n_areas : (Nat → Int32)) (n_firsts : (Nat → Int32)) (n_seconds : (Nat → Int32)) (n_privates : (Nat → Int32)) (n_entries : (Nat → Int32)) (n_exits : (Nat → Int32)) (n_truth : (Nat → Int32)) (n_facts : (Nat → Int32)) (n_news : (Nat → Int64)) (f_sentFacts : (Nat → Int32)) (f_sentNews : (Nat → Int64)) (h_F : (Nat → Option Nat)) (h_G : (Nat → Nat → Nat)) (h_N : (Nat → zNet)) (v1 : Int32) {res : Int32 × Int32 × Int32 × Int32 × (Nat → Int32) × (Nat → Int64) × (Nat → Int32) × (Nat → Int64) × (Nat → Option Nat) × (Nat → Nat → Nat) × (Nat → zNet)} (h : fX6_step v1 o_historySize o_wayIsKept n_nodes n_links n_tunnels n_messages n_areas n_firsts n_seconds n_privates n_entries n_exits n_truth n_facts n_news f_sentFacts f_sentNews h_F h_G h_N = some res) : Met l yX6_step (Cond.code yX6_step cX6_step 3 (some .int) :: zWs) rmX6_step (zP Z ((wX6 Z Ao Ah An Ac Ar Af Ag Ap At o_historySize o_wayIsKept ++ wX3 Z An n_nodes n_links n_tunnels n_messages n_areas n_firsts n_seconds n_privates n_entries n_exits n_truth n_facts n_news ++ wX1 Z Af f_sentFacts f_sentNews ++ wH Z Ah h_F h_G h_N)) sz [.ref Ao, .int v1]) (zQi Z res.1 ((wX6 Z Ao Ah An Ac Ar Af Ag Ap At res.2.1 res.2.2.1 ++ wX3 Z An n_nodes n_links n_tunnels res.2.2.2.1 n_areas n_firsts n_seconds n_privates n_entries n_exits n_truth res.2.2.2.2.1 res.2.2.2.2.2.1 ++ wX1 Z Af res.2.2.2.2.2.2.1 res.2.2.2.2.2.2.2.1 ++ wH Z Ah res.2.2.2.2.2.2.2.2.1 res.2.2.2.2.2.2.2.2.2.1 res.2.2.2.2.2.2.2.2.2.2)) (va_A ((wX6 Z Ao Ah An Ac Ar Af Ag Ap At o_historySize o_wayIsKept ++ wX3 Z An n_nodes n_links n_tunnels n_messages n_areas n_firsts n_seconds n_privates n_entries n_exits n_truth n_facts n_news ++ wX1 Z Af f_sentFacts f_sentNews ++ wH Z Ah h_F h_G h_N)) sz)) 0 0 (va_A ((wX6 Z Ao Ah An Ac Ar Af Ag Ap At o_historySize o_wayIsKept ++ wX3 Z An n_nodes n_links n_tunnels n_messages n_areas n_firsts n_seconds n_privates n_entries n_exits n_truth n_facts n_news ++ wX1 Z Af f_sentFacts f_sentNews ++ wH Z Ah h_F h_G h_N)) sz) := by
  refine zMet (own := RX6) (fun A => zQi Z res.1 ((wX6 Z Ao Ah An Ac Ar Af Ag Ap At res.2.1 res.2.2.1 ++ wX3 Z An n_nodes n_links n_tunnels res.2.2.2.1 n_areas n_firsts n_seconds n_privates n_entries n_exits n_truth res.2.2.2.2.1 res.2.2.2.2.2.1 ++ wX1 Z Af res.2.2.2.2.2.2.1 res.2.2.2.2.2.2.2.1 ++ wH Z Ah res.2.2.2.2.2.2.2.2.1 res.2.2.2.2.2.2.2.2.2.1 res.2.2.2.2.2.2.2.2.2.2)) A) (by decide) rfl (Nat.le_of_ble_eq_true rfl) ?_
  intro p e s m args below meth c ls A E hw hl
  unfold fX6_step at h
  refine r_iload_n E hl 1 rfl dX6_step_0 rfl ?_
  refine r_iconst E 1 dX6_step_1 (by decide) ?_
  refine r_icmp_lt E 11 dX6_step_2 (by decide) (fun hc => ?_) (fun hc => ?_)
  · replace h := ite_t hc h
    refine r_iconst E (-1) dX6_step_11 (by decide) ?_
    obtain rfl := Option.some.inj h
    exact r_iret E hw dX6_step_12
  · replace h := ite_f hc h
    refine r_iload_n E hl 1 rfl dX6_step_5 rfl ?_
    refine r_bipush E 40 dX6_step_6 (by decide) ?_
    refine r_icmp_le E 13 dX6_step_8 (by decide) (fun hc => ?_) (fun hc => ?_)
    · replace h := ite_t hc h
      refine r_aload_n E hl 0 rfl dX6_step_13 rfl ?_
      refine r_get E kW_X6 hw 0 rfl rfl 0 (by decide) kF_X6_12 rfl dX6_step_14 ?_
      obtain ⟨y1, hy1, h⟩ := bd_some h
      refine r_callVQi E ((wX6 Z Ao Ah An Ac Ar Af Ag Ap At o_historySize o_wayIsKept ++ wX3 Z An n_nodes n_links n_tunnels n_messages n_areas n_firsts n_seconds n_privates n_entries n_exits n_truth n_facts n_news ++ wX1 Z Af f_sentFacts f_sentNews ++ wH Z Ah h_F h_G h_N)) (wX6 Z Ao Ah An Ac Ar Af Ag Ap At o_historySize o_wayIsKept ++ wX1 Z Af f_sentFacts f_sentNews ++ wH Z Ah h_F h_G h_N) hw (mX3_isQuiet l Z _ An n_nodes n_links n_tunnels n_messages n_areas n_firsts n_seconds n_privates n_entries n_exits n_truth n_facts n_news hy1) kL_X6_149 kI_X3_isQuiet kS_X3_isQuiet kN_X3 kC_X3_isQuiet rfl rfl hdX3_isQuiet ⟨Nat.le_of_ble_eq_true rfl, Nat.le_of_ble_eq_true rfl⟩ (fun f => by simp only [sf_app] <;> omega) (fun f => by simp only [sf_app] <;> omega) 1 rfl rfl rfl rfl hl [] rfl (Nat.le_of_ble_eq_true rfl) dX6_step_17 ⟨Nat.zero_le _, Nat.zero_le _⟩ (fun H locs hw => ?_)
      refine r_if_eq E 26 dX6_step_20 (by decide) (fun hc => ?_) (fun hc => ?_)
      · replace h := ite_t hc h
        refine r_aload_n E hl 0 rfl dX6_step_26 rfl ?_
        obtain ⟨y2, hy2, h⟩ := bd_some h
        refine r_callVQv E ((wX6 Z Ao Ah An Ac Ar Af Ag Ap At y2.1 y2.2.1 ++ wX3 Z An n_nodes n_links n_tunnels n_messages n_areas n_firsts n_seconds n_privates n_entries n_exits n_truth n_facts n_news ++ wX1 Z Af f_sentFacts f_sentNews ++ wH Z Ah y2.2.2.1 y2.2.2.2.1 y2.2.2.2.2)) (wX1 Z Af f_sentFacts f_sentNews) hw (mX6_beginAction l Z _ Ao Ah An Ac Ar Af Ag Ap At o_historySize o_wayIsKept n_nodes n_links n_tunnels n_messages n_areas n_firsts n_seconds n_privates n_entries n_exits n_truth n_facts n_news h_F h_G h_N hy2) kL_X6_69 kI_X6_beginAction kS_X6_beginAction kN_X6 kC_X6_beginAction rfl rfl hdX6_beginAction ⟨Nat.le_of_ble_eq_true rfl, Nat.le_of_ble_eq_true rfl⟩ (fun f => by simp only [sf_app] <;> omega) (fun f => by simp only [sf_app] <;> omega) 0 rfl rfl rfl rfl hl [] rfl (Nat.le_of_ble_eq_true rfl) dX6_step_27 ⟨Nat.zero_le _, Nat.zero_le _⟩ (fun H locs hw => ?_)
        refine r_aload_n E hl 0 rfl dX6_step_30 rfl ?_
        refine r_get E kW_X6 hw 0 rfl rfl 0 (by decide) kF_X6_12 rfl dX6_step_31 ?_
        refine r_get E kW_X3 hw 1 rfl rfl 3 (by decide) kF_X6_153 rfl dX6_step_34 ?_
        refine r_istore_n E [(2, .int n_messages), (0, .ref Ao), (1, .int v1)] hl dX6_step_37 rfl (by decide) rfl (fun ls hl => ?_)
        refine r_aload_n E hl 1 rfl dX6_step_38 rfl ?_
        refine r_get E kW_X6 hw 0 rfl rfl 5 (by decide) kF_X6_37 rfl dX6_step_39 ?_
        refine r_aload_n E hl 1 rfl dX6_step_42 rfl ?_
        refine r_get E kW_X6 hw 0 rfl rfl 0 (by decide) kF_X6_12 rfl dX6_step_43 ?_
        refine r_iload_n E hl 2 rfl dX6_step_46 rfl ?_
        obtain ⟨y3, hy3, h⟩ := bd_some h
        refine r_callVQi E ((wX6 Z Ao Ah An Ac Ar Af Ag Ap At y2.1 y2.2.1 ++ wX3 Z An n_nodes n_links n_tunnels y3.2.2.2.1 n_areas n_firsts n_seconds n_privates n_entries n_exits n_truth y3.2.2.2.2.1 y3.2.2.2.2.2 ++ wX1 Z Af y3.2.1 y3.2.2.1 ++ wH Z Ah y2.2.2.1 y2.2.2.2.1 y2.2.2.2.2)) (wX6 Z Ao Ah An Ac Ar Af Ag Ap At y2.1 y2.2.1 ++ wH Z Ah y2.2.2.1 y2.2.2.2.1 y2.2.2.2.2) hw (mX1_passRounds l Z _ Af An f_sentFacts f_sentNews n_nodes n_links n_tunnels n_messages n_areas n_firsts n_seconds n_privates n_entries n_exits n_truth n_facts n_news v1 hy3) kL_X6_156 kI_X1_passRounds kS_X1_passRounds kN_X1 kC_X1_passRounds rfl rfl hdX1_passRounds ⟨Nat.le_of_ble_eq_true rfl, Nat.le_of_ble_eq_true rfl⟩ (fun f => by simp only [sf_app] <;> omega) (fun f => by simp only [sf_app] <;> omega) 11 rfl rfl rfl rfl hl [] rfl (Nat.le_of_ble_eq_true rfl) dX6_step_47 ⟨Nat.zero_le _, Nat.zero_le _⟩ (fun H locs hw => ?_)
        refine r_pop E dX6_step_50 rfl ?_
        refine r_aload_n E hl 1 rfl dX6_step_51 rfl ?_
        refine r_get E kW_X6 hw 0 rfl rfl 0 (by decide) kF_X6_12 rfl dX6_step_52 ?_
        refine r_get E kW_X3 hw 1 rfl rfl 3 (by decide) kF_X6_153 rfl dX6_step_55 ?_
        refine r_iload_n E hl 0 rfl dX6_step_58 rfl ?_
        refine r_isub E dX6_step_59 ?_
        obtain rfl := Option.some.inj h
        exact r_iret E hw dX6_step_60
      · replace h := ite_f hc h
        refine r_bipush E (-2) dX6_step_23 (by decide) ?_
        obtain rfl := Option.some.inj h
        exact r_iret E hw dX6_step_25
    · replace h := ite_f hc h
      refine r_iconst E (-1) dX6_step_11 (by decide) ?_
      obtain rfl := Option.some.inj h
      exact r_iret E hw dX6_step_12
abbrev rmX6_settle : Room := { frames := 6, cells := 0, slots := 0, locals := 141 }

set_option maxRecDepth 100000 in
set_option maxHeartbeats 4000000 in
theorem mX6_settle (l : Launch) (Z : zT) (sz : Nat) (Ao : Nat) (Ah : Nat) (An : Nat → Nat) (Ac : Nat → Nat) (Ar : Nat → Nat) (Af : Nat → Nat) (Ag : Nat → Nat) (Ap : Nat → Nat) (At : Nat → Nat) (o_historySize : Int32) (o_wayIsKept : Int32) (n_nodes : Int32) (n_links : Int32) (n_tunnels : Int32) (n_messages : Int32) (n_areas : (Nat → Int32)) (n_firsts : (Nat → Int32)) (n_seconds : (Nat → Int32)) (n_privates : (Nat → Int32)) (n_entries : (Nat → Int32)) (n_exits : (Nat → Int32)) (n_truth : (Nat → Int32)) (n_facts : (Nat → Int32)) (n_news : (Nat → Int64)) (f_sentFacts : (Nat → Int32)) (f_sentNews : (Nat → Int64)) (h_F : (Nat → Option Nat)) (h_G : (Nat → Nat → Nat)) (h_N : (Nat → zNet))  {res : Int32 × Int32 × Int32 × Int32 × (Nat → Int32) × (Nat → Int64) × (Nat → Int32) × (Nat → Int64) × (Nat → Option Nat) × (Nat → Nat → Nat) × (Nat → zNet)} (h : fX6_settle o_historySize o_wayIsKept n_nodes n_links n_tunnels n_messages n_areas n_firsts n_seconds n_privates n_entries n_exits n_truth n_facts n_news f_sentFacts f_sentNews h_F h_G h_N = some res) : Met l yX6_settle (Cond.code yX6_settle cX6_settle 1 (some .int) :: zWs) rmX6_settle (zP Z ((wX6 Z Ao Ah An Ac Ar Af Ag Ap At o_historySize o_wayIsKept ++ wX3 Z An n_nodes n_links n_tunnels n_messages n_areas n_firsts n_seconds n_privates n_entries n_exits n_truth n_facts n_news ++ wX1 Z Af f_sentFacts f_sentNews ++ wH Z Ah h_F h_G h_N)) sz [.ref Ao]) (zQi Z res.1 ((wX6 Z Ao Ah An Ac Ar Af Ag Ap At res.2.1 res.2.2.1 ++ wX3 Z An n_nodes n_links n_tunnels res.2.2.2.1 n_areas n_firsts n_seconds n_privates n_entries n_exits n_truth res.2.2.2.2.1 res.2.2.2.2.2.1 ++ wX1 Z Af res.2.2.2.2.2.2.1 res.2.2.2.2.2.2.2.1 ++ wH Z Ah res.2.2.2.2.2.2.2.2.1 res.2.2.2.2.2.2.2.2.2.1 res.2.2.2.2.2.2.2.2.2.2)) (va_A ((wX6 Z Ao Ah An Ac Ar Af Ag Ap At o_historySize o_wayIsKept ++ wX3 Z An n_nodes n_links n_tunnels n_messages n_areas n_firsts n_seconds n_privates n_entries n_exits n_truth n_facts n_news ++ wX1 Z Af f_sentFacts f_sentNews ++ wH Z Ah h_F h_G h_N)) sz)) 0 0 (va_A ((wX6 Z Ao Ah An Ac Ar Af Ag Ap At o_historySize o_wayIsKept ++ wX3 Z An n_nodes n_links n_tunnels n_messages n_areas n_firsts n_seconds n_privates n_entries n_exits n_truth n_facts n_news ++ wX1 Z Af f_sentFacts f_sentNews ++ wH Z Ah h_F h_G h_N)) sz) := by
  refine zMet (own := RX6) (fun A => zQi Z res.1 ((wX6 Z Ao Ah An Ac Ar Af Ag Ap At res.2.1 res.2.2.1 ++ wX3 Z An n_nodes n_links n_tunnels res.2.2.2.1 n_areas n_firsts n_seconds n_privates n_entries n_exits n_truth res.2.2.2.2.1 res.2.2.2.2.2.1 ++ wX1 Z Af res.2.2.2.2.2.2.1 res.2.2.2.2.2.2.2.1 ++ wH Z Ah res.2.2.2.2.2.2.2.2.1 res.2.2.2.2.2.2.2.2.2.1 res.2.2.2.2.2.2.2.2.2.2)) A) (by decide) rfl (Nat.le_of_ble_eq_true rfl) ?_
  intro p e s m args below meth c ls A E hw hl
  unfold fX6_settle at h
  refine r_aload_n E hl 0 rfl dX6_settle_0 rfl ?_
  refine r_get E kW_X6 hw 0 rfl rfl 0 (by decide) kF_X6_12 rfl dX6_settle_1 ?_
  obtain ⟨y1, hy1, h⟩ := bd_some h
  refine r_callVQi E ((wX6 Z Ao Ah An Ac Ar Af Ag Ap At o_historySize o_wayIsKept ++ wX3 Z An n_nodes n_links n_tunnels n_messages n_areas n_firsts n_seconds n_privates n_entries n_exits n_truth n_facts n_news ++ wX1 Z Af f_sentFacts f_sentNews ++ wH Z Ah h_F h_G h_N)) (wX6 Z Ao Ah An Ac Ar Af Ag Ap At o_historySize o_wayIsKept ++ wX1 Z Af f_sentFacts f_sentNews ++ wH Z Ah h_F h_G h_N) hw (mX3_isQuiet l Z _ An n_nodes n_links n_tunnels n_messages n_areas n_firsts n_seconds n_privates n_entries n_exits n_truth n_facts n_news hy1) kL_X6_149 kI_X3_isQuiet kS_X3_isQuiet kN_X3 kC_X3_isQuiet rfl rfl hdX3_isQuiet ⟨Nat.le_of_ble_eq_true rfl, Nat.le_of_ble_eq_true rfl⟩ (fun f => by simp only [sf_app] <;> omega) (fun f => by simp only [sf_app] <;> omega) 1 rfl rfl rfl rfl hl [] rfl (Nat.le_of_ble_eq_true rfl) dX6_settle_4 ⟨Nat.zero_le _, Nat.zero_le _⟩ (fun H locs hw => ?_)
  refine r_if_eq E 13 dX6_settle_7 (by decide) (fun hc => ?_) (fun hc => ?_)
  · replace h := ite_t hc h
    refine r_aload_n E hl 0 rfl dX6_settle_13 rfl ?_
    obtain ⟨y2, hy2, h⟩ := bd_some h
    refine r_callVQv E ((wX6 Z Ao Ah An Ac Ar Af Ag Ap At y2.1 y2.2.1 ++ wX3 Z An n_nodes n_links n_tunnels n_messages n_areas n_firsts n_seconds n_privates n_entries n_exits n_truth n_facts n_news ++ wX1 Z Af f_sentFacts f_sentNews ++ wH Z Ah y2.2.2.1 y2.2.2.2.1 y2.2.2.2.2)) (wX1 Z Af f_sentFacts f_sentNews) hw (mX6_beginAction l Z _ Ao Ah An Ac Ar Af Ag Ap At o_historySize o_wayIsKept n_nodes n_links n_tunnels n_messages n_areas n_firsts n_seconds n_privates n_entries n_exits n_truth n_facts n_news h_F h_G h_N hy2) kL_X6_69 kI_X6_beginAction kS_X6_beginAction kN_X6 kC_X6_beginAction rfl rfl hdX6_beginAction ⟨Nat.le_of_ble_eq_true rfl, Nat.le_of_ble_eq_true rfl⟩ (fun f => by simp only [sf_app] <;> omega) (fun f => by simp only [sf_app] <;> omega) 0 rfl rfl rfl rfl hl [] rfl (Nat.le_of_ble_eq_true rfl) dX6_settle_14 ⟨Nat.zero_le _, Nat.zero_le _⟩ (fun H locs hw => ?_)
    refine r_aload_n E hl 0 rfl dX6_settle_17 rfl ?_
    refine r_get E kW_X6 hw 0 rfl rfl 5 (by decide) kF_X6_37 rfl dX6_settle_18 ?_
    refine r_aload_n E hl 0 rfl dX6_settle_21 rfl ?_
    refine r_get E kW_X6 hw 0 rfl rfl 0 (by decide) kF_X6_12 rfl dX6_settle_22 ?_
    refine r_ldc E (1000000) kQ_X6_160 dX6_settle_25 ?_
    obtain ⟨y3, hy3, h⟩ := bd_some h
    refine r_callVQi E ((wX6 Z Ao Ah An Ac Ar Af Ag Ap At y2.1 y2.2.1 ++ wX3 Z An n_nodes n_links n_tunnels y3.2.2.2.1 n_areas n_firsts n_seconds n_privates n_entries n_exits n_truth y3.2.2.2.2.1 y3.2.2.2.2.2 ++ wX1 Z Af y3.2.1 y3.2.2.1 ++ wH Z Ah y2.2.2.1 y2.2.2.2.1 y2.2.2.2.2)) (wX6 Z Ao Ah An Ac Ar Af Ag Ap At y2.1 y2.2.1 ++ wH Z Ah y2.2.2.1 y2.2.2.2.1 y2.2.2.2.2) hw (mX1_passRounds l Z _ Af An f_sentFacts f_sentNews n_nodes n_links n_tunnels n_messages n_areas n_firsts n_seconds n_privates n_entries n_exits n_truth n_facts n_news (1000000 : Int32) hy3) kL_X6_156 kI_X1_passRounds kS_X1_passRounds kN_X1 kC_X1_passRounds rfl rfl hdX1_passRounds ⟨Nat.le_of_ble_eq_true rfl, Nat.le_of_ble_eq_true rfl⟩ (fun f => by simp only [sf_app] <;> omega) (fun f => by simp only [sf_app] <;> omega) 11 rfl rfl rfl rfl hl [] rfl (Nat.le_of_ble_eq_true rfl) dX6_settle_27 ⟨Nat.zero_le _, Nat.zero_le _⟩ (fun H locs hw => ?_)
    obtain rfl := Option.some.inj h
    exact r_iret E hw dX6_settle_30
  · replace h := ite_f hc h
    refine r_bipush E (-2) dX6_settle_10 (by decide) ?_
    obtain rfl := Option.some.inj h
    exact r_iret E hw dX6_settle_12
