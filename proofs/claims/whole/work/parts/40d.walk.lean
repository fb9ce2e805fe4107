abbrev rmX3_makeEmpty : Room := { frames := 1, cells := 0, slots := 0, locals := 24 }

set_option maxRecDepth 100000 in
set_option maxHeartbeats 4000000 in
theorem mX3_makeEmpty (l : Launch) (Z : zT) (sz : Nat) (An : Nat → Nat) (n_nodes : Int32) (n_links : Int32) (n_tunnels : Int32) (n_messages : Int32) (n_areas : (Nat → Int32)) (n_firsts : (Nat → Int32)) (n_seconds : (Nat → Int32)) (n_privates : (Nat → Int32)) (n_entries : (Nat → Int32)) (n_exits : (Nat → Int32)) (n_truth : (Nat → Int32)) (n_facts : (Nat → Int32)) (n_news : (Nat → Int64))  {res : Int32 × Int32 × Int32 × Int32 × (Nat → Int32) × (Nat → Int32) × (Nat → Int64)} (h : fX3_makeEmpty n_truth n_facts n_news = some res) : Met l yX3_makeEmpty (Cond.code yX3_makeEmpty cX3_makeEmpty 1 none :: zWs) rmX3_makeEmpty (zP Z (wX3 Z An n_nodes n_links n_tunnels n_messages n_areas n_firsts n_seconds n_privates n_entries n_exits n_truth n_facts n_news) sz [.ref (An 0)]) (zQv Z (wX3 Z An res.1 res.2.1 res.2.2.1 res.2.2.2.1 n_areas n_firsts n_seconds n_privates n_entries n_exits res.2.2.2.2.1 res.2.2.2.2.2.1 res.2.2.2.2.2.2) (va_A (wX3 Z An n_nodes n_links n_tunnels n_messages n_areas n_firsts n_seconds n_privates n_entries n_exits n_truth n_facts n_news) sz)) 0 0 (va_A (wX3 Z An n_nodes n_links n_tunnels n_messages n_areas n_firsts n_seconds n_privates n_entries n_exits n_truth n_facts n_news) sz) := by
  refine zMet (own := RX3) (fun A => zQv Z (wX3 Z An res.1 res.2.1 res.2.2.1 res.2.2.2.1 n_areas n_firsts n_seconds n_privates n_entries n_exits res.2.2.2.2.1 res.2.2.2.2.2.1 res.2.2.2.2.2.2) A) (by decide) rfl (Nat.le_of_ble_eq_true rfl) ?_
  intro p e s m args below meth c ls A E hw hl
  unfold fX3_makeEmpty at h
  refine r_aload_n E hl 0 rfl dX3_makeEmpty_0 rfl ?_
  refine r_iconst E 0 dX3_makeEmpty_1 (by decide) ?_
  refine r_put E (wX3 Z An (0 : Int32) n_links n_tunnels n_messages n_areas n_firsts n_seconds n_privates n_entries n_exits n_truth n_facts n_news) kW_X3 tyX3_ok nmX3 hw 0 rfl rfl 0 (by decide) kF_X3_40 rfl rfl rfl (Nat.le_of_ble_eq_true rfl) rfl dX3_makeEmpty_2 (fun H locs hw => ?_)
  refine r_aload_n E hl 0 rfl dX3_makeEmpty_5 rfl ?_
  refine r_iconst E 0 dX3_makeEmpty_6 (by decide) ?_
  refine r_put E (wX3 Z An (0 : Int32) (0 : Int32) n_tunnels n_messages n_areas n_firsts n_seconds n_privates n_entries n_exits n_truth n_facts n_news) kW_X3 tyX3_ok nmX3 hw 0 rfl rfl 1 (by decide) kF_X3_44 rfl rfl rfl (Nat.le_of_ble_eq_true rfl) rfl dX3_makeEmpty_7 (fun H locs hw => ?_)
  refine r_aload_n E hl 0 rfl dX3_makeEmpty_10 rfl ?_
  refine r_iconst E 0 dX3_makeEmpty_11 (by decide) ?_
  refine r_put E (wX3 Z An (0 : Int32) (0 : Int32) (0 : Int32) n_messages n_areas n_firsts n_seconds n_privates n_entries n_exits n_truth n_facts n_news) kW_X3 tyX3_ok nmX3 hw 0 rfl rfl 2 (by decide) kF_X3_47 rfl rfl rfl (Nat.le_of_ble_eq_true rfl) rfl dX3_makeEmpty_12 (fun H locs hw => ?_)
  refine r_aload_n E hl 0 rfl dX3_makeEmpty_15 rfl ?_
  refine r_iconst E 0 dX3_makeEmpty_16 (by decide) ?_
  refine r_put E (wX3 Z An (0 : Int32) (0 : Int32) (0 : Int32) (0 : Int32) n_areas n_firsts n_seconds n_privates n_entries n_exits n_truth n_facts n_news) kW_X3 tyX3_ok nmX3 hw 0 rfl rfl 3 (by decide) kF_X3_50 rfl rfl rfl (Nat.le_of_ble_eq_true rfl) rfl dX3_makeEmpty_17 (fun H locs hw => ?_)
  refine r_aload_n E hl 0 rfl dX3_makeEmpty_20 rfl ?_
  refine r_get E kW_X3 hw 0 rfl rfl 10 (by decide) kF_X3_30 rfl dX3_makeEmpty_21 ?_
  refine r_iconst E 0 dX3_makeEmpty_24 (by decide) ?_
  obtain ⟨y1, hy1, h⟩ := bd_some h
  refine r_callSv E (wX3 Z An (0 : Int32) (0 : Int32) (0 : Int32) (0 : Int32) n_areas n_firsts n_seconds n_privates n_entries n_exits y1 n_facts n_news) hw (mJ7_fill_53178 l Z _ (fun _ => (An 7)) 35 n_truth (0 : Int32) hy1) kL_X3_55 kT_J7_fill_53178 kN_J7 kC_J7_fill_53178 rfl rfl hdJ7_fill_53178 ⟨Nat.le_of_ble_eq_true rfl, Nat.le_of_ble_eq_true rfl⟩ [7] [0, 1, 2, 3, 4, 5, 6, 8, 9] [0, 1, 2, 3, 4, 5, 6, 9, 7, 8] (by decide) rfl rfl (by decide) (by decide) (by decide) rfl rfl hl [] rfl (Nat.le_of_ble_eq_true rfl) dX3_makeEmpty_25 ⟨Nat.zero_le _, Nat.zero_le _⟩ (fun H locs hw => ?_)
  refine r_aload_n E hl 0 rfl dX3_makeEmpty_28 rfl ?_
  refine r_get E kW_X3 hw 0 rfl rfl 11 (by decide) kF_X3_33 rfl dX3_makeEmpty_29 ?_
  refine r_iconst E 0 dX3_makeEmpty_32 (by decide) ?_
  obtain ⟨y2, hy2, h⟩ := bd_some h
  refine r_callSv E (wX3 Z An (0 : Int32) (0 : Int32) (0 : Int32) (0 : Int32) n_areas n_firsts n_seconds n_privates n_entries n_exits y1 y2 n_news) hw (mJ7_fill_53178 l Z _ (fun _ => (An 8)) 350 n_facts (0 : Int32) hy2) kL_X3_55 kT_J7_fill_53178 kN_J7 kC_J7_fill_53178 rfl rfl hdJ7_fill_53178 ⟨Nat.le_of_ble_eq_true rfl, Nat.le_of_ble_eq_true rfl⟩ [8] [0, 1, 2, 3, 4, 5, 6, 7, 9] [0, 1, 2, 3, 4, 5, 6, 7, 9, 8] (by decide) rfl rfl (by decide) (by decide) (by decide) rfl rfl hl [] rfl (Nat.le_of_ble_eq_true rfl) dX3_makeEmpty_33 ⟨Nat.zero_le _, Nat.zero_le _⟩ (fun H locs hw => ?_)
  refine r_aload_n E hl 0 rfl dX3_makeEmpty_36 rfl ?_
  refine r_get E kW_X3 hw 0 rfl rfl 12 (by decide) kF_X3_36 rfl dX3_makeEmpty_37 ?_
  refine r_lconst E 0 dX3_makeEmpty_40 (by decide) ?_
  obtain ⟨y3, hy3, h⟩ := bd_some h
  refine r_callSv E (wX3 Z An (0 : Int32) (0 : Int32) (0 : Int32) (0 : Int32) n_areas n_firsts n_seconds n_privates n_entries n_exits y1 y2 y3) hw (mJ7_fill_d0a16 l Z _ (fun _ => (An 9)) 10 n_news (0 : Int64) hy3) kL_X3_61 kT_J7_fill_d0a16 kN_J7 kC_J7_fill_d0a16 rfl rfl hdJ7_fill_d0a16 ⟨Nat.le_of_ble_eq_true rfl, Nat.le_of_ble_eq_true rfl⟩ [9] [0, 1, 2, 3, 4, 5, 6, 7, 8] [0, 1, 2, 3, 4, 5, 6, 7, 8, 9] (by decide) rfl rfl (by decide) (by decide) (by decide) rfl rfl hl [] rfl (Nat.le_of_ble_eq_true rfl) dX3_makeEmpty_41 ⟨Nat.zero_le _, Nat.zero_le _⟩ (fun H locs hw => ?_)
  obtain rfl := Option.some.inj h
  exact r_vret E hw dX3_makeEmpty_44
abbrev rmX1_sendersTo : Room := { frames := 2, cells := 0, slots := 0, locals := 41 }

set_option maxRecDepth 100000 in
set_option maxHeartbeats 4000000 in
theorem vX1_sendersTo_60 {Z : zT} {p : Program} {l : Launch} {e : Env} {s : State} {m : MethodId} {args : Array Value} {below : List Frame} {meth : Method} {c : Code} {A : Nat → Prop} (E : zE Z p s m args meth c RX1 cX1_sendersTo 4 (some .int) A) {An : Nat → Nat} {v1 : Int32} {v2 : Int32} {n_nodes : Int32} {n_links : Int32} {n_tunnels : Int32} {n_messages : Int32} {n_areas : (Nat → Int32)} {n_firsts : (Nat → Int32)} {n_seconds : (Nat → Int32)} {n_privates : (Nat → Int32)} {n_entries : (Nat → Int32)} {n_exits : (Nat → Int32)} {n_truth : (Nat → Int32)} {n_facts : (Nat → Int32)} {n_news : (Nat → Int64)} {res : Int32}  {H : Heap} {locs : List Loc} {ls : Array Slot} (hw : zW Z A (wX3 Z An n_nodes n_links n_tunnels n_messages n_areas n_firsts n_seconds n_privates n_entries n_exits n_truth n_facts n_news) s.heap H locs) (hl : lv_has ls 4 [(1, .int v1), (2, .int v2)]) (h : uX1_sendersTo_60 v1 v2 = some res) : W p l e rmX1_sendersTo s m args below meth c H locs 0 0 (MQ below (zQi Z res (wX3 Z An n_nodes n_links n_tunnels n_messages n_areas n_firsts n_seconds n_privates n_entries n_exits n_truth n_facts n_news) A) args s 0 0 A) (F0 m 60 ls []) := by
  unfold uX1_sendersTo_60 at h
  refine r_iload_n E hl 1 rfl dX1_sendersTo_60 rfl ?_
  refine r_iconst E 1 dX1_sendersTo_61 (by decide) ?_
  refine r_iload_n E hl 0 rfl dX1_sendersTo_62 rfl ?_
  refine r_ishl E dX1_sendersTo_63 ?_
  refine r_iconst E (-1) dX1_sendersTo_64 (by decide) ?_
  refine r_ixor E dX1_sendersTo_65 ?_
  refine r_iand E dX1_sendersTo_66 ?_
  obtain rfl := Option.some.inj h
  exact r_iret E hw dX1_sendersTo_67
set_option maxRecDepth 100000 in
set_option maxHeartbeats 4000000 in
theorem vX1_sendersTo_54 {Z : zT} {p : Program} {l : Launch} {e : Env} {s : State} {m : MethodId} {args : Array Value} {below : List Frame} {meth : Method} {c : Code} {A : Nat → Prop} (E : zE Z p s m args meth c RX1 cX1_sendersTo 4 (some .int) A) {An : Nat → Nat} {v1 : Int32} {v2 : Int32} {v3 : Int32} {n_nodes : Int32} {n_links : Int32} {n_tunnels : Int32} {n_messages : Int32} {n_areas : (Nat → Int32)} {n_firsts : (Nat → Int32)} {n_seconds : (Nat → Int32)} {n_privates : (Nat → Int32)} {n_entries : (Nat → Int32)} {n_exits : (Nat → Int32)} {n_truth : (Nat → Int32)} {n_facts : (Nat → Int32)} {n_news : (Nat → Int64)} {res : Int32} {q1 : (Int32 × Int32) ⊕ (Int32)} (hb1 : ∀ b : Int32 × Int32, q1 = .inl b → ∀ (H : Heap) (locs : List Loc) (ls : Array Slot), zW Z A (wX3 Z An n_nodes n_links n_tunnels n_messages n_areas n_firsts n_seconds n_privates n_entries n_exits n_truth n_facts n_news) s.heap H locs → lv_has ls 4 [(0, .ref (An 0)), (1, .int v1), (2, .int b.1), (3, .int b.2)] → W p l e rmX1_sendersTo s m args below meth c H locs 0 0 (MQ below (zQi Z res (wX3 Z An n_nodes n_links n_tunnels n_messages n_areas n_firsts n_seconds n_privates n_entries n_exits n_truth n_facts n_news) A) args s 0 0 A) (F0 m 4 ls [])) (hr1 : ∀ r' , q1 = .inr r' → r' = res) {H : Heap} {locs : List Loc} {ls : Array Slot} (hw : zW Z A (wX3 Z An n_nodes n_links n_tunnels n_messages n_areas n_firsts n_seconds n_privates n_entries n_exits n_truth n_facts n_news) s.heap H locs) (hl : lv_has ls 4 [(0, .ref (An 0)), (1, .int v1), (2, .int v2), (3, .int v3)]) (h : uX1_sendersTo_54 v2 v3 = some q1) : W p l e rmX1_sendersTo s m args below meth c H locs 0 0 (MQ below (zQi Z res (wX3 Z An n_nodes n_links n_tunnels n_messages n_areas n_firsts n_seconds n_privates n_entries n_exits n_truth n_facts n_news) A) args s 0 0 A) (F0 m 54 ls []) := by
  unfold uX1_sendersTo_54 at h
  obtain ⟨w3, hw3, h⟩ := nm_out h
  refine r_iinc E w3 [(3, .int w3), (0, .ref (An 0)), (1, .int v1), (2, .int v2)] hl (k := 3) rfl dX1_sendersTo_54 hw3.symm (by decide) rfl (fun ls hl => ?_)
  refine r_goto E 4 dX1_sendersTo_57 (by decide) ?_
  exact hb1 _ (Option.some.inj h).symm _ _ _ hw (lv_sub hl [1, 2, 3, 0] rfl)
set_option maxRecDepth 100000 in
set_option maxHeartbeats 4000000 in
theorem tX1_sendersTo_4 {Z : zT} {p : Program} {l : Launch} {e : Env} {s : State} {m : MethodId} {args : Array Value} {below : List Frame} {meth : Method} {c : Code} {A : Nat → Prop} (E : zE Z p s m args meth c RX1 cX1_sendersTo 4 (some .int) A) {An : Nat → Nat} {v1 : Int32} {n_nodes : Int32} {n_links : Int32} {n_tunnels : Int32} {n_messages : Int32} {n_areas : (Nat → Int32)} {n_firsts : (Nat → Int32)} {n_seconds : (Nat → Int32)} {n_privates : (Nat → Int32)} {n_entries : (Nat → Int32)} {n_exits : (Nat → Int32)} {n_truth : (Nat → Int32)} {n_facts : (Nat → Int32)} {n_news : (Nat → Int64)} {res : Int32}  : ∀ (n : Nat) (v2 : Int32) (v3 : Int32) (H : Heap) (locs : List Loc) (ls : Array Slot), iter (fun b : Int32 × Int32 => sX1_sendersTo_4 v1 n_links n_firsts n_seconds n_truth b.1 b.2) n (v2, v3) = some res → zW Z A (wX3 Z An n_nodes n_links n_tunnels n_messages n_areas n_firsts n_seconds n_privates n_entries n_exits n_truth n_facts n_news) s.heap H locs → lv_has ls 4 [(0, .ref (An 0)), (1, .int v1), (2, .int v2), (3, .int v3)] → W p l e rmX1_sendersTo s m args below meth c H locs 0 0 (MQ below (zQi Z res (wX3 Z An n_nodes n_links n_tunnels n_messages n_areas n_firsts n_seconds n_privates n_entries n_exits n_truth n_facts n_news) A) args s 0 0 A) (F0 m 4 ls []) := by
  intro n
  induction n with
  | zero => intro v2 v3 H locs ls h; cases h
  | succ n ih =>
    intro v2 v3 H locs ls h hw hl
    obtain ⟨q1, h, hn1, hr1⟩ := iter_out h
    have hb1 : ∀ b : Int32 × Int32, q1 = .inl b → ∀ (H : Heap) (locs : List Loc) (ls : Array Slot), zW Z A (wX3 Z An n_nodes n_links n_tunnels n_messages n_areas n_firsts n_seconds n_privates n_entries n_exits n_truth n_facts n_news) s.heap H locs → lv_has ls 4 [(0, .ref (An 0)), (1, .int v1), (2, .int b.1), (3, .int b.2)] → W p l e rmX1_sendersTo s m args below meth c H locs 0 0 (MQ below (zQi Z res (wX3 Z An n_nodes n_links n_tunnels n_messages n_areas n_firsts n_seconds n_privates n_entries n_exits n_truth n_facts n_news) A) args s 0 0 A) (F0 m 4 ls []) := fun b eb H locs ls hw hl => ih b.1 b.2 H locs ls (hn1 b eb) hw hl
    replace h : sX1_sendersTo_4 v1 n_links n_firsts n_seconds n_truth v2 v3 = some q1 := h
    unfold sX1_sendersTo_4 at h
    refine r_iload_n E hl 3 rfl dX1_sendersTo_4 rfl ?_
    refine r_aload_n E hl 0 rfl dX1_sendersTo_5 rfl ?_
    refine r_get E kW_X3 hw 0 rfl rfl 1 (by decide) kF_X1_62 rfl dX1_sendersTo_6 ?_
    refine r_icmp_ge E 60 dX1_sendersTo_9 (by decide) (fun hc => ?_) (fun hc => ?_)
    · replace h := ite_t hc h
      obtain ⟨ro1, h, hro1⟩ := oi_some h
      rw [hr1 _ hro1] at h
      exact vX1_sendersTo_60 E  hw (lv_sub hl [1, 2] rfl) h
    · replace h := ite_f hc h
      refine r_aload_n E hl 0 rfl dX1_sendersTo_12 rfl ?_
      refine r_bipush E 16 dX1_sendersTo_13 (by decide) ?_
      refine r_iload_n E hl 3 rfl dX1_sendersTo_15 rfl ?_
      refine r_iadd E dX1_sendersTo_16 ?_
      obtain ⟨y2, hy2, h⟩ := bd_some h
      refine r_callVAi E hw (mX3_isUp l Z _ An n_nodes n_links n_tunnels n_messages n_areas n_firsts n_seconds n_privates n_entries n_exits n_truth n_facts n_news ((16 : Int32) + v3) hy2) kL_X1_65 kI_X3_isUp kS_X3_isUp kN_X3 kC_X3_isUp rfl rfl hdX3_isUp ⟨Nat.le_of_ble_eq_true rfl, Nat.le_of_ble_eq_true rfl⟩ 0 rfl rfl rfl rfl hl [] rfl (Nat.le_of_ble_eq_true rfl) dX1_sendersTo_17 ⟨Nat.zero_le _, Nat.zero_le _⟩ (fun H locs hw => ?_)
      refine r_if_eq E 54 dX1_sendersTo_20 (by decide) (fun hc => ?_) (fun hc => ?_)
      · replace h := ite_t hc h
        exact vX1_sendersTo_54 E hb1 hr1 hw hl h
      · replace h := ite_f hc h
        refine r_aload_n E hl 0 rfl dX1_sendersTo_23 rfl ?_
        refine r_iload_n E hl 1 rfl dX1_sendersTo_24 rfl ?_
        refine r_iload_n E hl 3 rfl dX1_sendersTo_25 rfl ?_
        obtain ⟨y4, hy4, h⟩ := bd_some h
        refine r_callVAi E hw (mX3_isEnd l Z _ An n_nodes n_links n_tunnels n_messages n_areas n_firsts n_seconds n_privates n_entries n_exits n_truth n_facts n_news v1 v3 hy4) kL_X1_93 kI_X3_isEnd kS_X3_isEnd kN_X3 kC_X3_isEnd rfl rfl hdX3_isEnd ⟨Nat.le_of_ble_eq_true rfl, Nat.le_of_ble_eq_true rfl⟩ 0 rfl rfl rfl rfl hl [] rfl (Nat.le_of_ble_eq_true rfl) dX1_sendersTo_26 ⟨Nat.zero_le _, Nat.zero_le _⟩ (fun H locs hw => ?_)
        refine r_if_eq E 54 dX1_sendersTo_29 (by decide) (fun hc => ?_) (fun hc => ?_)
        · replace h := ite_t hc h
          exact vX1_sendersTo_54 E hb1 hr1 hw hl h
        · replace h := ite_f hc h
          refine r_iload_n E hl 2 rfl dX1_sendersTo_32 rfl ?_
          refine r_iconst E 1 dX1_sendersTo_33 (by decide) ?_
          refine r_aload_n E hl 0 rfl dX1_sendersTo_34 rfl ?_
          refine r_get E kW_X3 hw 0 rfl rfl 5 (by decide) kF_X1_69 rfl dX1_sendersTo_35 ?_
          refine r_iload_n E hl 3 rfl dX1_sendersTo_38 rfl ?_
          obtain ⟨hg5, h⟩ := gd_some h
          refine r_iald E hw 2 rfl hg5 dX1_sendersTo_39 ?_
          refine r_ishl E dX1_sendersTo_40 ?_
          refine r_ior E dX1_sendersTo_41 ?_
          obtain ⟨w6, hw6, h⟩ := nm_out h
          refine r_nm hw6 ?_
          refine r_istore_n E [(2, .int w6), (0, .ref (An 0)), (1, .int v1), (3, .int v3)] hl dX1_sendersTo_42 rfl (by decide) rfl (fun ls hl => ?_)
          refine r_iload_n E hl 0 rfl dX1_sendersTo_43 rfl ?_
          refine r_iconst E 1 dX1_sendersTo_44 (by decide) ?_
          refine r_aload_n E hl 1 rfl dX1_sendersTo_45 rfl ?_
          refine r_get E kW_X3 hw 0 rfl rfl 6 (by decide) kF_X1_78 rfl dX1_sendersTo_46 ?_
          refine r_iload_n E hl 3 rfl dX1_sendersTo_49 rfl ?_
          obtain ⟨hg7, h⟩ := gd_some h
          refine r_iald E hw 3 rfl hg7 dX1_sendersTo_50 ?_
          refine r_ishl E dX1_sendersTo_51 ?_
          refine r_ior E dX1_sendersTo_52 ?_
          obtain ⟨w8, hw8, h⟩ := nm_out h
          refine r_nm hw8 ?_
          refine r_istore_n E [(2, .int w8), (0, .ref (An 0)), (1, .int v1), (3, .int v3)] hl dX1_sendersTo_53 rfl (by decide) rfl (fun ls hl => ?_)
          exact vX1_sendersTo_54 E hb1 hr1 hw (lv_sub hl [1, 2, 0, 3] rfl) h
set_option maxRecDepth 100000 in
set_option maxHeartbeats 4000000 in
theorem mX1_sendersTo (l : Launch) (Z : zT) (sz : Nat) (An : Nat → Nat) (n_nodes : Int32) (n_links : Int32) (n_tunnels : Int32) (n_messages : Int32) (n_areas : (Nat → Int32)) (n_firsts : (Nat → Int32)) (n_seconds : (Nat → Int32)) (n_privates : (Nat → Int32)) (n_entries : (Nat → Int32)) (n_exits : (Nat → Int32)) (n_truth : (Nat → Int32)) (n_facts : (Nat → Int32)) (n_news : (Nat → Int64)) (v1 : Int32) {res : Int32} (h : fX1_sendersTo v1 n_links n_firsts n_seconds n_truth = some res) : Met l yX1_sendersTo (Cond.code yX1_sendersTo cX1_sendersTo 4 (some .int) :: zWs) rmX1_sendersTo (zP Z (wX3 Z An n_nodes n_links n_tunnels n_messages n_areas n_firsts n_seconds n_privates n_entries n_exits n_truth n_facts n_news) sz [.ref (An 0), .int v1]) (zQi Z res (wX3 Z An n_nodes n_links n_tunnels n_messages n_areas n_firsts n_seconds n_privates n_entries n_exits n_truth n_facts n_news) (va_A (wX3 Z An n_nodes n_links n_tunnels n_messages n_areas n_firsts n_seconds n_privates n_entries n_exits n_truth n_facts n_news) sz)) 0 0 (va_A (wX3 Z An n_nodes n_links n_tunnels n_messages n_areas n_firsts n_seconds n_privates n_entries n_exits n_truth n_facts n_news) sz) := by
  refine zMet (own := RX1) (fun A => zQi Z res (wX3 Z An n_nodes n_links n_tunnels n_messages n_areas n_firsts n_seconds n_privates n_entries n_exits n_truth n_facts n_news) A) (by decide) rfl (Nat.le_of_ble_eq_true rfl) ?_
  intro p e s m args below meth c ls A E hw hl
  unfold fX1_sendersTo at h
  refine r_iconst E 0 dX1_sendersTo_0 (by decide) ?_
  refine r_istore_n E [(2, .int (0 : Int32)), (0, .ref (An 0)), (1, .int v1)] hl dX1_sendersTo_1 rfl (by decide) rfl (fun ls hl => ?_)
  refine r_iconst E 0 dX1_sendersTo_2 (by decide) ?_
  refine r_istore_n E [(3, .int (0 : Int32)), (2, .int (0 : Int32)), (0, .ref (An 0)), (1, .int v1)] hl dX1_sendersTo_3 rfl (by decide) rfl (fun ls hl => ?_)
  obtain ⟨n9, h⟩ := wh_some h
  exact tX1_sendersTo_4 E  n9 _ _ _ _ _ h hw (lv_sub hl [2, 3, 1, 0] rfl)
abbrev rmX1_receive : Room := { frames := 3, cells := 0, slots := 0, locals := 71 }

set_option maxRecDepth 100000 in
set_option maxHeartbeats 4000000 in
theorem vX1_receive_80 {Z : zT} {p : Program} {l : Launch} {e : Env} {s : State} {m : MethodId} {args : Array Value} {below : List Frame} {meth : Method} {c : Code} {A : Nat → Prop} (E : zE Z p s m args meth c RX1 cX1_receive 6 none A) {Af : Nat → Nat} {An : Nat → Nat} {v2 : Int32} {v3 : Int32} {v4 : Int32} {f_sentFacts : (Nat → Int32)} {f_sentNews : (Nat → Int64)} {n_nodes : Int32} {n_links : Int32} {n_tunnels : Int32} {n_messages : Int32} {n_areas : (Nat → Int32)} {n_firsts : (Nat → Int32)} {n_seconds : (Nat → Int32)} {n_privates : (Nat → Int32)} {n_entries : (Nat → Int32)} {n_exits : (Nat → Int32)} {n_truth : (Nat → Int32)} {n_facts : (Nat → Int32)} {n_news : (Nat → Int64)} {res : (Nat → Int32) × (Nat → Int64)} {q1 : (Int32 × (Nat → Int32) × (Nat → Int64)) ⊕ ((Nat → Int32) × (Nat → Int64))} (hb1 : ∀ b : Int32 × (Nat → Int32) × (Nat → Int64), q1 = .inl b → ∀ (H : Heap) (locs : List Loc) (ls : Array Slot), zW Z A ((wX1 Z Af f_sentFacts f_sentNews ++ wX3 Z An n_nodes n_links n_tunnels n_messages n_areas n_firsts n_seconds n_privates n_entries n_exits n_truth b.2.1 b.2.2)) s.heap H locs → lv_has ls 6 [(0, .ref (Af 0)), (1, .ref (An 0)), (2, .int v2), (3, .int v3), (4, .int b.1)] → W p l e rmX1_receive s m args below meth c H locs 0 0 (MQ below (zQv Z ((wX1 Z Af f_sentFacts f_sentNews ++ wX3 Z An n_nodes n_links n_tunnels n_messages n_areas n_firsts n_seconds n_privates n_entries n_exits n_truth res.1 res.2)) A) args s 0 0 A) (F0 m 9 ls [])) (hr1 : ∀ r' , q1 = .inr r' → r' = res) {H : Heap} {locs : List Loc} {ls : Array Slot} (hw : zW Z A ((wX1 Z Af f_sentFacts f_sentNews ++ wX3 Z An n_nodes n_links n_tunnels n_messages n_areas n_firsts n_seconds n_privates n_entries n_exits n_truth n_facts n_news)) s.heap H locs) (hl : lv_has ls 6 [(0, .ref (Af 0)), (1, .ref (An 0)), (2, .int v2), (3, .int v3), (4, .int v4)]) (h : uX1_receive_80 v4 n_facts n_news = some q1) : W p l e rmX1_receive s m args below meth c H locs 0 0 (MQ below (zQv Z ((wX1 Z Af f_sentFacts f_sentNews ++ wX3 Z An n_nodes n_links n_tunnels n_messages n_areas n_firsts n_seconds n_privates n_entries n_exits n_truth res.1 res.2)) A) args s 0 0 A) (F0 m 80 ls []) := by
  unfold uX1_receive_80 at h
  obtain ⟨w3, hw3, h⟩ := nm_out h
  refine r_iinc E w3 [(4, .int w3), (0, .ref (Af 0)), (1, .ref (An 0)), (2, .int v2), (3, .int v3)] hl (k := 4) rfl dX1_receive_80 hw3.symm (by decide) rfl (fun ls hl => ?_)
  refine r_goto E 9 dX1_receive_83 (by decide) ?_
  exact hb1 _ (Option.some.inj h).symm _ _ _ hw (lv_sub hl [1, 2, 3, 4, 0] rfl)
set_option maxRecDepth 100000 in
set_option maxHeartbeats 4000000 in
theorem vX1_receive_74 {Z : zT} {p : Program} {l : Launch} {e : Env} {s : State} {m : MethodId} {args : Array Value} {below : List Frame} {meth : Method} {c : Code} {A : Nat → Prop} (E : zE Z p s m args meth c RX1 cX1_receive 6 none A) {Af : Nat → Nat} {An : Nat → Nat} {v2 : Int32} {v3 : Int32} {v4 : Int32} {v5 : Int32} {f_sentFacts : (Nat → Int32)} {f_sentNews : (Nat → Int64)} {n_nodes : Int32} {n_links : Int32} {n_tunnels : Int32} {n_messages : Int32} {n_areas : (Nat → Int32)} {n_firsts : (Nat → Int32)} {n_seconds : (Nat → Int32)} {n_privates : (Nat → Int32)} {n_entries : (Nat → Int32)} {n_exits : (Nat → Int32)} {n_truth : (Nat → Int32)} {n_facts : (Nat → Int32)} {n_news : (Nat → Int64)} {res : (Nat → Int32) × (Nat → Int64)} {q1 : (Int32 × (Nat → Int32) × (Nat → Int64)) ⊕ ((Nat → Int32) × (Nat → Int64))} (hb1 : ∀ b : Int32 × (Nat → Int32) × (Nat → Int64), q1 = .inl b → ∀ (H : Heap) (locs : List Loc) (ls : Array Slot), zW Z A ((wX1 Z Af f_sentFacts f_sentNews ++ wX3 Z An n_nodes n_links n_tunnels n_messages n_areas n_firsts n_seconds n_privates n_entries n_exits n_truth b.2.1 b.2.2)) s.heap H locs → lv_has ls 6 [(0, .ref (Af 0)), (1, .ref (An 0)), (2, .int v2), (3, .int v3), (4, .int b.1)] → W p l e rmX1_receive s m args below meth c H locs 0 0 (MQ below (zQv Z ((wX1 Z Af f_sentFacts f_sentNews ++ wX3 Z An n_nodes n_links n_tunnels n_messages n_areas n_firsts n_seconds n_privates n_entries n_exits n_truth res.1 res.2)) A) args s 0 0 A) (F0 m 9 ls [])) (hr1 : ∀ r' , q1 = .inr r' → r' = res) {q2 : (Int32 × (Nat → Int32) × (Nat → Int64)) ⊕ ((Int32 × (Nat → Int32) × (Nat → Int64)) ⊕ ((Nat → Int32) × (Nat → Int64)))} (hb2 : ∀ b : Int32 × (Nat → Int32) × (Nat → Int64), q2 = .inl b → ∀ (H : Heap) (locs : List Loc) (ls : Array Slot), zW Z A ((wX1 Z Af f_sentFacts f_sentNews ++ wX3 Z An n_nodes n_links n_tunnels n_messages n_areas n_firsts n_seconds n_privates n_entries n_exits n_truth b.2.1 b.2.2)) s.heap H locs → lv_has ls 6 [(0, .ref (Af 0)), (1, .ref (An 0)), (2, .int v2), (3, .int v3), (4, .int v4), (5, .int b.1)] → W p l e rmX1_receive s m args below meth c H locs 0 0 (MQ below (zQv Z ((wX1 Z Af f_sentFacts f_sentNews ++ wX3 Z An n_nodes n_links n_tunnels n_messages n_areas n_firsts n_seconds n_privates n_entries n_exits n_truth res.1 res.2)) A) args s 0 0 A) (F0 m 19 ls [])) (hr2 : ∀ r' , q2 = .inr r' → r' = q1) {H : Heap} {locs : List Loc} {ls : Array Slot} (hw : zW Z A ((wX1 Z Af f_sentFacts f_sentNews ++ wX3 Z An n_nodes n_links n_tunnels n_messages n_areas n_firsts n_seconds n_privates n_entries n_exits n_truth n_facts n_news)) s.heap H locs) (hl : lv_has ls 6 [(0, .ref (Af 0)), (1, .ref (An 0)), (2, .int v2), (3, .int v3), (4, .int v4), (5, .int v5)]) (h : uX1_receive_74 v5 n_facts n_news = some q2) : W p l e rmX1_receive s m args below meth c H locs 0 0 (MQ below (zQv Z ((wX1 Z Af f_sentFacts f_sentNews ++ wX3 Z An n_nodes n_links n_tunnels n_messages n_areas n_firsts n_seconds n_privates n_entries n_exits n_truth res.1 res.2)) A) args s 0 0 A) (F0 m 74 ls []) := by
  unfold uX1_receive_74 at h
  obtain ⟨w5, hw5, h⟩ := nm_out h
  refine r_iinc E w5 [(5, .int w5), (0, .ref (Af 0)), (1, .ref (An 0)), (2, .int v2), (3, .int v3), (4, .int v4)] hl (k := 5) rfl dX1_receive_74 hw5.symm (by decide) rfl (fun ls hl => ?_)
  refine r_goto E 19 dX1_receive_77 (by decide) ?_
  exact hb2 _ (Option.some.inj h).symm _ _ _ hw (lv_sub hl [1, 2, 3, 4, 5, 0] rfl)
set_option maxRecDepth 100000 in
set_option maxHeartbeats 4000000 in
theorem tX1_receive_19 {Z : zT} {p : Program} {l : Launch} {e : Env} {s : State} {m : MethodId} {args : Array Value} {below : List Frame} {meth : Method} {c : Code} {A : Nat → Prop} (E : zE Z p s m args meth c RX1 cX1_receive 6 none A) {Af : Nat → Nat} {An : Nat → Nat} {v2 : Int32} {v3 : Int32} {v4 : Int32} {f_sentFacts : (Nat → Int32)} {f_sentNews : (Nat → Int64)} {n_nodes : Int32} {n_links : Int32} {n_tunnels : Int32} {n_messages : Int32} {n_areas : (Nat → Int32)} {n_firsts : (Nat → Int32)} {n_seconds : (Nat → Int32)} {n_privates : (Nat → Int32)} {n_entries : (Nat → Int32)} {n_exits : (Nat → Int32)} {n_truth : (Nat → Int32)} {res : (Nat → Int32) × (Nat → Int64)} {q1 : (Int32 × (Nat → Int32) × (Nat → Int64)) ⊕ ((Nat → Int32) × (Nat → Int64))} (hb1 : ∀ b : Int32 × (Nat → Int32) × (Nat → Int64), q1 = .inl b → ∀ (H : Heap) (locs : List Loc) (ls : Array Slot), zW Z A ((wX1 Z Af f_sentFacts f_sentNews ++ wX3 Z An n_nodes n_links n_tunnels n_messages n_areas n_firsts n_seconds n_privates n_entries n_exits n_truth b.2.1 b.2.2)) s.heap H locs → lv_has ls 6 [(0, .ref (Af 0)), (1, .ref (An 0)), (2, .int v2), (3, .int v3), (4, .int b.1)] → W p l e rmX1_receive s m args below meth c H locs 0 0 (MQ below (zQv Z ((wX1 Z Af f_sentFacts f_sentNews ++ wX3 Z An n_nodes n_links n_tunnels n_messages n_areas n_firsts n_seconds n_privates n_entries n_exits n_truth res.1 res.2)) A) args s 0 0 A) (F0 m 9 ls [])) (hr1 : ∀ r' , q1 = .inr r' → r' = res) : ∀ (n : Nat) (v5 : Int32) (n_facts : (Nat → Int32)) (n_news : (Nat → Int64)) (H : Heap) (locs : List Loc) (ls : Array Slot), iter (fun b : Int32 × (Nat → Int32) × (Nat → Int64) => sX1_receive_19 v2 v3 v4 f_sentFacts f_sentNews n_nodes n_links n_areas n_firsts n_seconds n_privates b.1 b.2.1 b.2.2) n (v5, n_facts, n_news) = some q1 → zW Z A ((wX1 Z Af f_sentFacts f_sentNews ++ wX3 Z An n_nodes n_links n_tunnels n_messages n_areas n_firsts n_seconds n_privates n_entries n_exits n_truth n_facts n_news)) s.heap H locs → lv_has ls 6 [(0, .ref (Af 0)), (1, .ref (An 0)), (2, .int v2), (3, .int v3), (4, .int v4), (5, .int v5)] → W p l e rmX1_receive s m args below meth c H locs 0 0 (MQ below (zQv Z ((wX1 Z Af f_sentFacts f_sentNews ++ wX3 Z An n_nodes n_links n_tunnels n_messages n_areas n_firsts n_seconds n_privates n_entries n_exits n_truth res.1 res.2)) A) args s 0 0 A) (F0 m 19 ls []) := by
  intro n
  induction n with
  | zero => intro v5 n_facts n_news H locs ls h; cases h
  | succ n ih =>
    intro v5 n_facts n_news H locs ls h hw hl
    obtain ⟨q2, h, hn2, hr2⟩ := iter_out h
    have hb2 : ∀ b : Int32 × (Nat → Int32) × (Nat → Int64), q2 = .inl b → ∀ (H : Heap) (locs : List Loc) (ls : Array Slot), zW Z A ((wX1 Z Af f_sentFacts f_sentNews ++ wX3 Z An n_nodes n_links n_tunnels n_messages n_areas n_firsts n_seconds n_privates n_entries n_exits n_truth b.2.1 b.2.2)) s.heap H locs → lv_has ls 6 [(0, .ref (Af 0)), (1, .ref (An 0)), (2, .int v2), (3, .int v3), (4, .int v4), (5, .int b.1)] → W p l e rmX1_receive s m args below meth c H locs 0 0 (MQ below (zQv Z ((wX1 Z Af f_sentFacts f_sentNews ++ wX3 Z An n_nodes n_links n_tunnels n_messages n_areas n_firsts n_seconds n_privates n_entries n_exits n_truth res.1 res.2)) A) args s 0 0 A) (F0 m 19 ls []) := fun b eb H locs ls hw hl => ih b.1 b.2.1 b.2.2 H locs ls (hn2 b eb) hw hl
    replace h : sX1_receive_19 v2 v3 v4 f_sentFacts f_sentNews n_nodes n_links n_areas n_firsts n_seconds n_privates v5 n_facts n_news = some q2 := h
    unfold sX1_receive_19 at h
    refine r_iload E hl 5 rfl dX1_receive_19 ?_
    refine r_aload_n E hl 1 rfl dX1_receive_21 rfl ?_
    refine r_get E kW_X3 hw 3 rfl rfl 0 (by decide) kF_X1_55 rfl dX1_receive_22 ?_
    refine r_icmp_ge E 80 dX1_receive_25 (by decide) (fun hc => ?_) (fun hc => ?_)
    · replace h := ite_t hc h
      obtain ⟨ro4, h, hro4⟩ := oi_some h
      rw [hr2 _ hro4] at h
      exact vX1_receive_80 E hb1 hr1 hw (lv_sub hl [0, 1, 2, 3, 4] rfl) h
    · replace h := ite_f hc h
      refine r_iload_n E hl 3 rfl dX1_receive_28 rfl ?_
      refine r_iload E hl 5 rfl dX1_receive_29 ?_
      refine r_ishr E dX1_receive_31 ?_
      refine r_iconst E 1 dX1_receive_32 (by decide) ?_
      refine r_iand E dX1_receive_33 ?_
      refine r_iconst E 1 dX1_receive_34 (by decide) ?_
      refine r_icmp_ne E 74 dX1_receive_35 (by decide) (fun hc => ?_) (fun hc => ?_)
      · replace h := ite_f hc h
        exact vX1_receive_74 E hb1 hr1 hb2 hr2 hw hl h
      · replace h := ite_t hc h
        refine r_aload_n E hl 0 rfl dX1_receive_38 rfl ?_
        refine r_get E kW_X1 hw 0 rfl rfl 1 (by decide) kF_X1_15 rfl dX1_receive_39 ?_
        refine r_iload E hl 5 rfl dX1_receive_42 ?_
        obtain ⟨hg6, h⟩ := gd_some h
        refine r_lald E hw 2 rfl hg6 dX1_receive_44 ?_
        refine r_iload E hl 4 rfl dX1_receive_45 ?_
        refine r_lshr E dX1_receive_47 ?_
        refine r_lconst E 1 dX1_receive_48 (by decide) ?_
        refine r_land E dX1_receive_49 ?_
        refine r_lconst E 1 dX1_receive_50 (by decide) ?_
        refine r_lcmp E dX1_receive_51 ?_
        refine r_if_ne E 74 dX1_receive_52 (by decide) (fun hc => ?_) (fun hc => ?_)
        · replace h := ite_f hc h
          exact vX1_receive_74 E hb1 hr1 hb2 hr2 hw hl h
        · replace h := ite_t hc h
          refine r_aload_n E hl 1 rfl dX1_receive_55 rfl ?_
          refine r_iload_n E hl 2 rfl dX1_receive_56 rfl ?_
          refine r_iload E hl 4 rfl dX1_receive_57 ?_
          refine r_aload_n E hl 0 rfl dX1_receive_59 rfl ?_
          refine r_get E kW_X1 hw 0 rfl rfl 0 (by decide) kF_X1_9 rfl dX1_receive_60 ?_
          refine r_iload E hl 5 rfl dX1_receive_63 ?_
          refine r_iload E hl 4 rfl dX1_receive_65 ?_
          obtain ⟨y7, hy7, h⟩ := bd_some h
          refine r_callSN0i E hw (mX6_place l Z _ v5 v4 hy7) E.2.2.2.2.1.2.2.2.2.2.1 kT_X6_place kN_X6 kC_X6_place rfl rfl hdX6_place ⟨Nat.le_of_ble_eq_true rfl, Nat.le_of_ble_eq_true rfl⟩ rfl hl [.ref (Af 1), .int v4, .int v2, .ref (An 0)] rfl (Nat.le_of_ble_eq_true rfl) dX1_receive_67 ⟨Nat.zero_le _, Nat.zero_le _⟩ (fun H locs hw => ?_)
          obtain ⟨hg8, h⟩ := gd_some h
          refine r_iald E hw 1 rfl hg8 dX1_receive_70 ?_
          obtain ⟨y9, hy9, h⟩ := bd_some h
          refine r_callVQv E ((wX1 Z Af f_sentFacts f_sentNews ++ wX3 Z An n_nodes n_links n_tunnels n_messages n_areas n_firsts n_seconds n_privates n_entries n_exits n_truth y9.1 y9.2)) (wX1 Z Af f_sentFacts f_sentNews) hw (mX3_learn l Z _ An n_nodes n_links n_tunnels n_messages n_areas n_firsts n_seconds n_privates n_entries n_exits n_truth n_facts n_news v2 v4 (f_sentFacts (y7).toNatClampNeg) hy9) kL_X1_89 kI_X3_learn kS_X3_learn kN_X3 kC_X3_learn rfl rfl hdX3_learn ⟨Nat.le_of_ble_eq_true rfl, Nat.le_of_ble_eq_true rfl⟩ (fun f => by simp only [sf_app] <;> omega) (fun f => by simp only [sf_app] <;> omega) 3 rfl rfl rfl rfl hl [] rfl (Nat.le_of_ble_eq_true rfl) dX1_receive_71 ⟨Nat.zero_le _, Nat.zero_le _⟩ (fun H locs hw => ?_)
          exact vX1_receive_74 E hb1 hr1 hb2 hr2 hw hl h
set_option maxRecDepth 100000 in
set_option maxHeartbeats 4000000 in
theorem tX1_receive_9 {Z : zT} {p : Program} {l : Launch} {e : Env} {s : State} {m : MethodId} {args : Array Value} {below : List Frame} {meth : Method} {c : Code} {A : Nat → Prop} (E : zE Z p s m args meth c RX1 cX1_receive 6 none A) {Af : Nat → Nat} {An : Nat → Nat} {v2 : Int32} {v3 : Int32} {f_sentFacts : (Nat → Int32)} {f_sentNews : (Nat → Int64)} {n_nodes : Int32} {n_links : Int32} {n_tunnels : Int32} {n_messages : Int32} {n_areas : (Nat → Int32)} {n_firsts : (Nat → Int32)} {n_seconds : (Nat → Int32)} {n_privates : (Nat → Int32)} {n_entries : (Nat → Int32)} {n_exits : (Nat → Int32)} {n_truth : (Nat → Int32)} {res : (Nat → Int32) × (Nat → Int64)}  : ∀ (n : Nat) (v4 : Int32) (n_facts : (Nat → Int32)) (n_news : (Nat → Int64)) (H : Heap) (locs : List Loc) (ls : Array Slot), iter (fun b : Int32 × (Nat → Int32) × (Nat → Int64) => sX1_receive_9 v2 v3 f_sentFacts f_sentNews n_nodes n_links n_areas n_firsts n_seconds n_privates b.1 b.2.1 b.2.2) n (v4, n_facts, n_news) = some res → zW Z A ((wX1 Z Af f_sentFacts f_sentNews ++ wX3 Z An n_nodes n_links n_tunnels n_messages n_areas n_firsts n_seconds n_privates n_entries n_exits n_truth n_facts n_news)) s.heap H locs → lv_has ls 6 [(0, .ref (Af 0)), (1, .ref (An 0)), (2, .int v2), (3, .int v3), (4, .int v4)] → W p l e rmX1_receive s m args below meth c H locs 0 0 (MQ below (zQv Z ((wX1 Z Af f_sentFacts f_sentNews ++ wX3 Z An n_nodes n_links n_tunnels n_messages n_areas n_firsts n_seconds n_privates n_entries n_exits n_truth res.1 res.2)) A) args s 0 0 A) (F0 m 9 ls []) := by
  intro n
  induction n with
  | zero => intro v4 n_facts n_news H locs ls h; cases h
  | succ n ih =>
    intro v4 n_facts n_news H locs ls h hw hl
    obtain ⟨q1, h, hn1, hr1⟩ := iter_out h
    have hb1 : ∀ b : Int32 × (Nat → Int32) × (Nat → Int64), q1 = .inl b → ∀ (H : Heap) (locs : List Loc) (ls : Array Slot), zW Z A ((wX1 Z Af f_sentFacts f_sentNews ++ wX3 Z An n_nodes n_links n_tunnels n_messages n_areas n_firsts n_seconds n_privates n_entries n_exits n_truth b.2.1 b.2.2)) s.heap H locs → lv_has ls 6 [(0, .ref (Af 0)), (1, .ref (An 0)), (2, .int v2), (3, .int v3), (4, .int b.1)] → W p l e rmX1_receive s m args below meth c H locs 0 0 (MQ below (zQv Z ((wX1 Z Af f_sentFacts f_sentNews ++ wX3 Z An n_nodes n_links n_tunnels n_messages n_areas n_firsts n_seconds n_privates n_entries n_exits n_truth res.1 res.2)) A) args s 0 0 A) (F0 m 9 ls []) := fun b eb H locs ls hw hl => ih b.1 b.2.1 b.2.2 H locs ls (hn1 b eb) hw hl
    replace h : sX1_receive_9 v2 v3 f_sentFacts f_sentNews n_nodes n_links n_areas n_firsts n_seconds n_privates v4 n_facts n_news = some q1 := h
    unfold sX1_receive_9 at h
    refine r_iload E hl 4 rfl dX1_receive_9 ?_
    refine r_bipush E 35 dX1_receive_11 (by decide) ?_
    refine r_icmp_ge E 86 dX1_receive_13 (by decide) (fun hc => ?_) (fun hc => ?_)
    · replace h := ite_t hc h
      obtain ⟨ro2, h, hro2⟩ := oi_some h
      rw [hr1 _ hro2] at h
      obtain rfl := Option.some.inj h
      exact r_vret E hw dX1_receive_86
    · replace h := ite_f hc h
      refine r_iconst E 0 dX1_receive_16 (by decide) ?_
      refine r_istore E [(5, .int (0 : Int32)), (0, .ref (Af 0)), (1, .ref (An 0)), (2, .int v2), (3, .int v3), (4, .int v4)] hl dX1_receive_17 (by decide) rfl (fun ls hl => ?_)
      obtain ⟨n10, h⟩ := wh_some h
      exact tX1_receive_19 E hb1 hr1 n10 _ _ _ _ _ _ h hw (lv_sub hl [1, 2, 3, 4, 5, 0] rfl)
set_option maxRecDepth 100000 in
set_option maxHeartbeats 4000000 in
theorem mX1_receive (l : Launch) (Z : zT) (sz : Nat) (Af : Nat → Nat) (An : Nat → Nat) (f_sentFacts : (Nat → Int32)) (f_sentNews : (Nat → Int64)) (n_nodes : Int32) (n_links : Int32) (n_tunnels : Int32) (n_messages : Int32) (n_areas : (Nat → Int32)) (n_firsts : (Nat → Int32)) (n_seconds : (Nat → Int32)) (n_privates : (Nat → Int32)) (n_entries : (Nat → Int32)) (n_exits : (Nat → Int32)) (n_truth : (Nat → Int32)) (n_facts : (Nat → Int32)) (n_news : (Nat → Int64)) (v2 : Int32) {res : (Nat → Int32) × (Nat → Int64)} (h : fX1_receive v2 f_sentFacts f_sentNews n_nodes n_links n_areas n_firsts n_seconds n_privates n_truth n_facts n_news = some res) : Met l yX1_receive (Cond.code yX1_receive cX1_receive 6 none :: zWs) rmX1_receive (zP Z ((wX1 Z Af f_sentFacts f_sentNews ++ wX3 Z An n_nodes n_links n_tunnels n_messages n_areas n_firsts n_seconds n_privates n_entries n_exits n_truth n_facts n_news)) sz [.ref (Af 0), .ref (An 0), .int v2]) (zQv Z ((wX1 Z Af f_sentFacts f_sentNews ++ wX3 Z An n_nodes n_links n_tunnels n_messages n_areas n_firsts n_seconds n_privates n_entries n_exits n_truth res.1 res.2)) (va_A ((wX1 Z Af f_sentFacts f_sentNews ++ wX3 Z An n_nodes n_links n_tunnels n_messages n_areas n_firsts n_seconds n_privates n_entries n_exits n_truth n_facts n_news)) sz)) 0 0 (va_A ((wX1 Z Af f_sentFacts f_sentNews ++ wX3 Z An n_nodes n_links n_tunnels n_messages n_areas n_firsts n_seconds n_privates n_entries n_exits n_truth n_facts n_news)) sz) := by
  refine zMet (own := RX1) (fun A => zQv Z ((wX1 Z Af f_sentFacts f_sentNews ++ wX3 Z An n_nodes n_links n_tunnels n_messages n_areas n_firsts n_seconds n_privates n_entries n_exits n_truth res.1 res.2)) A) (by decide) rfl (Nat.le_of_ble_eq_true rfl) ?_
  intro p e s m args below meth c ls A E hw hl
  unfold fX1_receive at h
  refine r_aload_n E hl 1 rfl dX1_receive_0 rfl ?_
  refine r_iload_n E hl 2 rfl dX1_receive_1 rfl ?_
  obtain ⟨y1, hy1, h⟩ := bd_some h
  refine r_callSQi E ((wX1 Z Af f_sentFacts f_sentNews ++ wX3 Z An n_nodes n_links n_tunnels n_messages n_areas n_firsts n_seconds n_privates n_entries n_exits n_truth n_facts n_news)) (wX1 Z Af f_sentFacts f_sentNews) hw (mX1_sendersTo l Z _ An n_nodes n_links n_tunnels n_messages n_areas n_firsts n_seconds n_privates n_entries n_exits n_truth n_facts n_news v2 hy1) kL_X1_81 kT_X1_sendersTo kN_X1 kC_X1_sendersTo rfl rfl hdX1_sendersTo ⟨Nat.le_of_ble_eq_true rfl, Nat.le_of_ble_eq_true rfl⟩ (fun f => by simp only [sf_app] <;> omega) (fun f => by simp only [sf_app] <;> omega) rfl hl [] rfl (Nat.le_of_ble_eq_true rfl) dX1_receive_2 ⟨Nat.zero_le _, Nat.zero_le _⟩ (fun H locs hw => ?_)
  refine r_istore_n E [(3, .int y1), (0, .ref (Af 0)), (1, .ref (An 0)), (2, .int v2)] hl dX1_receive_5 rfl (by decide) rfl (fun ls hl => ?_)
  refine r_iconst E 0 dX1_receive_6 (by decide) ?_
  refine r_istore E [(4, .int (0 : Int32)), (3, .int y1), (0, .ref (Af 0)), (1, .ref (An 0)), (2, .int v2)] hl dX1_receive_7 (by decide) rfl (fun ls hl => ?_)
  obtain ⟨n11, h⟩ := wh_some h
  exact tX1_receive_9 E  n11 _ _ _ _ _ _ h hw (lv_sub hl [2, 3, 4, 1, 0] rfl)
abbrev rmX1_countMessages : Room := { frames := 2, cells := 0, slots := 0, locals := 41 }

set_option maxRecDepth 100000 in
set_option maxHeartbeats 4000000 in
theorem vX1_countMessages_57 {Z : zT} {p : Program} {l : Launch} {e : Env} {s : State} {m : MethodId} {args : Array Value} {below : List Frame} {meth : Method} {c : Code} {A : Nat → Prop} (E : zE Z p s m args meth c RX1 cX1_countMessages 4 (some .int) A) {Af : Nat → Nat} {An : Nat → Nat} {v2 : Int32} {v3 : Int32} {f_sentFacts : (Nat → Int32)} {f_sentNews : (Nat → Int64)} {n_nodes : Int32} {n_links : Int32} {n_tunnels : Int32} {n_messages : Int32} {n_areas : (Nat → Int32)} {n_firsts : (Nat → Int32)} {n_seconds : (Nat → Int32)} {n_privates : (Nat → Int32)} {n_entries : (Nat → Int32)} {n_exits : (Nat → Int32)} {n_truth : (Nat → Int32)} {n_facts : (Nat → Int32)} {n_news : (Nat → Int64)} {res : Int32} {q1 : (Int32 × Int32) ⊕ (Int32)} (hb1 : ∀ b : Int32 × Int32, q1 = .inl b → ∀ (H : Heap) (locs : List Loc) (ls : Array Slot), zW Z A ((wX1 Z Af f_sentFacts f_sentNews ++ wX3 Z An n_nodes n_links n_tunnels n_messages n_areas n_firsts n_seconds n_privates n_entries n_exits n_truth n_facts n_news)) s.heap H locs → lv_has ls 4 [(0, .ref (Af 0)), (1, .ref (An 0)), (2, .int b.1), (3, .int b.2)] → W p l e rmX1_countMessages s m args below meth c H locs 0 0 (MQ below (zQi Z res ((wX1 Z Af f_sentFacts f_sentNews ++ wX3 Z An n_nodes n_links n_tunnels n_messages n_areas n_firsts n_seconds n_privates n_entries n_exits n_truth n_facts n_news)) A) args s 0 0 A) (F0 m 4 ls [])) (hr1 : ∀ r' , q1 = .inr r' → r' = res) {H : Heap} {locs : List Loc} {ls : Array Slot} (hw : zW Z A ((wX1 Z Af f_sentFacts f_sentNews ++ wX3 Z An n_nodes n_links n_tunnels n_messages n_areas n_firsts n_seconds n_privates n_entries n_exits n_truth n_facts n_news)) s.heap H locs) (hl : lv_has ls 4 [(0, .ref (Af 0)), (1, .ref (An 0)), (2, .int v2), (3, .int v3)]) (h : uX1_countMessages_57 v2 v3 = some q1) : W p l e rmX1_countMessages s m args below meth c H locs 0 0 (MQ below (zQi Z res ((wX1 Z Af f_sentFacts f_sentNews ++ wX3 Z An n_nodes n_links n_tunnels n_messages n_areas n_firsts n_seconds n_privates n_entries n_exits n_truth n_facts n_news)) A) args s 0 0 A) (F0 m 57 ls []) := by
  unfold uX1_countMessages_57 at h
  obtain ⟨w3, hw3, h⟩ := nm_out h
  refine r_iinc E w3 [(3, .int w3), (0, .ref (Af 0)), (1, .ref (An 0)), (2, .int v2)] hl (k := 3) rfl dX1_countMessages_57 hw3.symm (by decide) rfl (fun ls hl => ?_)
  refine r_goto E 4 dX1_countMessages_60 (by decide) ?_
  exact hb1 _ (Option.some.inj h).symm _ _ _ hw (lv_sub hl [1, 2, 3, 0] rfl)
set_option maxRecDepth 100000 in
set_option maxHeartbeats 4000000 in
theorem tX1_countMessages_4 {Z : zT} {p : Program} {l : Launch} {e : Env} {s : State} {m : MethodId} {args : Array Value} {below : List Frame} {meth : Method} {c : Code} {A : Nat → Prop} (E : zE Z p s m args meth c RX1 cX1_countMessages 4 (some .int) A) {Af : Nat → Nat} {An : Nat → Nat} {f_sentFacts : (Nat → Int32)} {f_sentNews : (Nat → Int64)} {n_nodes : Int32} {n_links : Int32} {n_tunnels : Int32} {n_messages : Int32} {n_areas : (Nat → Int32)} {n_firsts : (Nat → Int32)} {n_seconds : (Nat → Int32)} {n_privates : (Nat → Int32)} {n_entries : (Nat → Int32)} {n_exits : (Nat → Int32)} {n_truth : (Nat → Int32)} {n_facts : (Nat → Int32)} {n_news : (Nat → Int64)} {res : Int32}  : ∀ (n : Nat) (v2 : Int32) (v3 : Int32) (H : Heap) (locs : List Loc) (ls : Array Slot), iter (fun b : Int32 × Int32 => sX1_countMessages_4 f_sentNews n_links n_firsts n_seconds n_truth b.1 b.2) n (v2, v3) = some res → zW Z A ((wX1 Z Af f_sentFacts f_sentNews ++ wX3 Z An n_nodes n_links n_tunnels n_messages n_areas n_firsts n_seconds n_privates n_entries n_exits n_truth n_facts n_news)) s.heap H locs → lv_has ls 4 [(0, .ref (Af 0)), (1, .ref (An 0)), (2, .int v2), (3, .int v3)] → W p l e rmX1_countMessages s m args below meth c H locs 0 0 (MQ below (zQi Z res ((wX1 Z Af f_sentFacts f_sentNews ++ wX3 Z An n_nodes n_links n_tunnels n_messages n_areas n_firsts n_seconds n_privates n_entries n_exits n_truth n_facts n_news)) A) args s 0 0 A) (F0 m 4 ls []) := by
  intro n
  induction n with
  | zero => intro v2 v3 H locs ls h; cases h
  | succ n ih =>
    intro v2 v3 H locs ls h hw hl
    obtain ⟨q1, h, hn1, hr1⟩ := iter_out h
    have hb1 : ∀ b : Int32 × Int32, q1 = .inl b → ∀ (H : Heap) (locs : List Loc) (ls : Array Slot), zW Z A ((wX1 Z Af f_sentFacts f_sentNews ++ wX3 Z An n_nodes n_links n_tunnels n_messages n_areas n_firsts n_seconds n_privates n_entries n_exits n_truth n_facts n_news)) s.heap H locs → lv_has ls 4 [(0, .ref (Af 0)), (1, .ref (An 0)), (2, .int b.1), (3, .int b.2)] → W p l e rmX1_countMessages s m args below meth c H locs 0 0 (MQ below (zQi Z res ((wX1 Z Af f_sentFacts f_sentNews ++ wX3 Z An n_nodes n_links n_tunnels n_messages n_areas n_firsts n_seconds n_privates n_entries n_exits n_truth n_facts n_news)) A) args s 0 0 A) (F0 m 4 ls []) := fun b eb H locs ls hw hl => ih b.1 b.2 H locs ls (hn1 b eb) hw hl
    replace h : sX1_countMessages_4 f_sentNews n_links n_firsts n_seconds n_truth v2 v3 = some q1 := h
    unfold sX1_countMessages_4 at h
    refine r_iload_n E hl 3 rfl dX1_countMessages_4 rfl ?_
    refine r_aload_n E hl 1 rfl dX1_countMessages_5 rfl ?_
    refine r_get E kW_X3 hw 3 rfl rfl 1 (by decide) kF_X1_62 rfl dX1_countMessages_6 ?_
    refine r_icmp_ge E 63 dX1_countMessages_9 (by decide) (fun hc => ?_) (fun hc => ?_)
    · replace h := ite_t hc h
      obtain ⟨ro1, h, hro1⟩ := oi_some h
      rw [hr1 _ hro1] at h
      refine r_iload_n E hl 2 rfl dX1_countMessages_63 rfl ?_
      obtain rfl := Option.some.inj h
      exact r_iret E hw dX1_countMessages_64
    · replace h := ite_f hc h
      refine r_aload_n E hl 1 rfl dX1_countMessages_12 rfl ?_
      refine r_bipush E 16 dX1_countMessages_13 (by decide) ?_
      refine r_iload_n E hl 3 rfl dX1_countMessages_15 rfl ?_
      refine r_iadd E dX1_countMessages_16 ?_
      obtain ⟨y2, hy2, h⟩ := bd_some h
      refine r_callVQi E ((wX1 Z Af f_sentFacts f_sentNews ++ wX3 Z An n_nodes n_links n_tunnels n_messages n_areas n_firsts n_seconds n_privates n_entries n_exits n_truth n_facts n_news)) (wX1 Z Af f_sentFacts f_sentNews) hw (mX3_isUp l Z _ An n_nodes n_links n_tunnels n_messages n_areas n_firsts n_seconds n_privates n_entries n_exits n_truth n_facts n_news ((16 : Int32) + v3) hy2) kL_X1_65 kI_X3_isUp kS_X3_isUp kN_X3 kC_X3_isUp rfl rfl hdX3_isUp ⟨Nat.le_of_ble_eq_true rfl, Nat.le_of_ble_eq_true rfl⟩ (fun f => by simp only [sf_app] <;> omega) (fun f => by simp only [sf_app] <;> omega) 3 rfl rfl rfl rfl hl [] rfl (Nat.le_of_ble_eq_true rfl) dX1_countMessages_17 ⟨Nat.zero_le _, Nat.zero_le _⟩ (fun H locs hw => ?_)
      refine r_if_eq E 57 dX1_countMessages_20 (by decide) (fun hc => ?_) (fun hc => ?_)
      · replace h := ite_t hc h
        exact vX1_countMessages_57 E hb1 hr1 hw hl h
      · replace h := ite_f hc h
        refine r_iload_n E hl 2 rfl dX1_countMessages_23 rfl ?_
        refine r_aload_n E hl 0 rfl dX1_countMessages_24 rfl ?_
        refine r_get E kW_X1 hw 0 rfl rfl 1 (by decide) kF_X1_15 rfl dX1_countMessages_25 ?_
        refine r_aload_n E hl 1 rfl dX1_countMessages_28 rfl ?_
        refine r_get E kW_X3 hw 3 rfl rfl 5 (by decide) kF_X1_69 rfl dX1_countMessages_29 ?_
        refine r_iload_n E hl 3 rfl dX1_countMessages_32 rfl ?_
        obtain ⟨hg4, h⟩ := gd_some h
        refine r_iald E hw 5 rfl hg4 dX1_countMessages_33 ?_
        obtain ⟨hg5, h⟩ := gd_some h
        refine r_lald E hw 2 rfl hg5 dX1_countMessages_34 ?_
        obtain ⟨y6, hy6, h⟩ := bd_some h
        refine r_callS0i E hw (mJ13_bitCount_95d88 l Z _ (f_sentNews (n_firsts (v3).toNatClampNeg).toNatClampNeg) hy6) kL_X1_72 kT_J13_bitCount_95d88 kN_J13 kC_J13_bitCount_95d88 rfl rfl hdJ13_bitCount_95d88 ⟨Nat.le_of_ble_eq_true rfl, Nat.le_of_ble_eq_true rfl⟩ rfl hl [.int v2] rfl (Nat.le_of_ble_eq_true rfl) dX1_countMessages_35 ⟨Nat.zero_le _, Nat.zero_le _⟩ (fun H locs hw => ?_)
        refine r_iadd E dX1_countMessages_38 ?_
        obtain ⟨w7, hw7, h⟩ := nm_out h
        refine r_nm hw7 ?_
        refine r_istore_n E [(2, .int w7), (0, .ref (Af 0)), (1, .ref (An 0)), (3, .int v3)] hl dX1_countMessages_39 rfl (by decide) rfl (fun ls hl => ?_)
        refine r_iload_n E hl 0 rfl dX1_countMessages_40 rfl ?_
        refine r_aload_n E hl 1 rfl dX1_countMessages_41 rfl ?_
        refine r_get E kW_X1 hw 0 rfl rfl 1 (by decide) kF_X1_15 rfl dX1_countMessages_42 ?_
        refine r_aload_n E hl 2 rfl dX1_countMessages_45 rfl ?_
        refine r_get E kW_X3 hw 3 rfl rfl 6 (by decide) kF_X1_78 rfl dX1_countMessages_46 ?_
        refine r_iload_n E hl 3 rfl dX1_countMessages_49 rfl ?_
        obtain ⟨hg8, h⟩ := gd_some h
        refine r_iald E hw 6 rfl hg8 dX1_countMessages_50 ?_
        obtain ⟨hg9, h⟩ := gd_some h
        refine r_lald E hw 2 rfl hg9 dX1_countMessages_51 ?_
        obtain ⟨y10, hy10, h⟩ := bd_some h
        refine r_callS0i E hw (mJ13_bitCount_95d88 l Z _ (f_sentNews (n_seconds (v3).toNatClampNeg).toNatClampNeg) hy10) kL_X1_72 kT_J13_bitCount_95d88 kN_J13 kC_J13_bitCount_95d88 rfl rfl hdJ13_bitCount_95d88 ⟨Nat.le_of_ble_eq_true rfl, Nat.le_of_ble_eq_true rfl⟩ rfl hl [.int w7] rfl (Nat.le_of_ble_eq_true rfl) dX1_countMessages_52 ⟨Nat.zero_le _, Nat.zero_le _⟩ (fun H locs hw => ?_)
        refine r_iadd E dX1_countMessages_55 ?_
        obtain ⟨w11, hw11, h⟩ := nm_out h
        refine r_nm hw11 ?_
        refine r_istore_n E [(2, .int w11), (0, .ref (Af 0)), (1, .ref (An 0)), (3, .int v3)] hl dX1_countMessages_56 rfl (by decide) rfl (fun ls hl => ?_)
        exact vX1_countMessages_57 E hb1 hr1 hw (lv_sub hl [1, 2, 0, 3] rfl) h
set_option maxRecDepth 100000 in
set_option maxHeartbeats 4000000 in
theorem mX1_countMessages (l : Launch) (Z : zT) (sz : Nat) (Af : Nat → Nat) (An : Nat → Nat) (f_sentFacts : (Nat → Int32)) (f_sentNews : (Nat → Int64)) (n_nodes : Int32) (n_links : Int32) (n_tunnels : Int32) (n_messages : Int32) (n_areas : (Nat → Int32)) (n_firsts : (Nat → Int32)) (n_seconds : (Nat → Int32)) (n_privates : (Nat → Int32)) (n_entries : (Nat → Int32)) (n_exits : (Nat → Int32)) (n_truth : (Nat → Int32)) (n_facts : (Nat → Int32)) (n_news : (Nat → Int64))  {res : Int32} (h : fX1_countMessages f_sentNews n_links n_firsts n_seconds n_truth = some res) : Met l yX1_countMessages (Cond.code yX1_countMessages cX1_countMessages 4 (some .int) :: zWs) rmX1_countMessages (zP Z ((wX1 Z Af f_sentFacts f_sentNews ++ wX3 Z An n_nodes n_links n_tunnels n_messages n_areas n_firsts n_seconds n_privates n_entries n_exits n_truth n_facts n_news)) sz [.ref (Af 0), .ref (An 0)]) (zQi Z res ((wX1 Z Af f_sentFacts f_sentNews ++ wX3 Z An n_nodes n_links n_tunnels n_messages n_areas n_firsts n_seconds n_privates n_entries n_exits n_truth n_facts n_news)) (va_A ((wX1 Z Af f_sentFacts f_sentNews ++ wX3 Z An n_nodes n_links n_tunnels n_messages n_areas n_firsts n_seconds n_privates n_entries n_exits n_truth n_facts n_news)) sz)) 0 0 (va_A ((wX1 Z Af f_sentFacts f_sentNews ++ wX3 Z An n_nodes n_links n_tunnels n_messages n_areas n_firsts n_seconds n_privates n_entries n_exits n_truth n_facts n_news)) sz) := by
  refine zMet (own := RX1) (fun A => zQi Z res ((wX1 Z Af f_sentFacts f_sentNews ++ wX3 Z An n_nodes n_links n_tunnels n_messages n_areas n_firsts n_seconds n_privates n_entries n_exits n_truth n_facts n_news)) A) (by decide) rfl (Nat.le_of_ble_eq_true rfl) ?_
  intro p e s m args below meth c ls A E hw hl
  unfold fX1_countMessages at h
  refine r_iconst E 0 dX1_countMessages_0 (by decide) ?_
  refine r_istore_n E [(2, .int (0 : Int32)), (0, .ref (Af 0)), (1, .ref (An 0))] hl dX1_countMessages_1 rfl (by decide) rfl (fun ls hl => ?_)
  refine r_iconst E 0 dX1_countMessages_2 (by decide) ?_
  refine r_istore_n E [(3, .int (0 : Int32)), (2, .int (0 : Int32)), (0, .ref (Af 0)), (1, .ref (An 0))] hl dX1_countMessages_3 rfl (by decide) rfl (fun ls hl => ?_)
  obtain ⟨n12, h⟩ := wh_some h
  exact tX1_countMessages_4 E  n12 _ _ _ _ _ h hw (lv_sub hl [2, 3, 1, 0] rfl)
abbrev rmX1_passRound : Room := { frames := 4, cells := 0, slots := 0, locals := 96 }

set_option maxRecDepth 100000 in
set_option maxHeartbeats 4000000 in
theorem tX1_passRound_55 {Z : zT} {p : Program} {l : Launch} {e : Env} {s : State} {m : MethodId} {args : Array Value} {below : List Frame} {meth : Method} {c : Code} {A : Nat → Prop} (E : zE Z p s m args meth c RX1 cX1_passRound 3 none A) {Af : Nat → Nat} {An : Nat → Nat} {f_sentFacts : (Nat → Int32)} {f_sentNews : (Nat → Int64)} {n_nodes : Int32} {n_links : Int32} {n_tunnels : Int32} {n_messages : Int32} {n_areas : (Nat → Int32)} {n_firsts : (Nat → Int32)} {n_seconds : (Nat → Int32)} {n_privates : (Nat → Int32)} {n_entries : (Nat → Int32)} {n_exits : (Nat → Int32)} {n_truth : (Nat → Int32)} {res : (Nat → Int32) × (Nat → Int64) × Int32 × (Nat → Int32) × (Nat → Int64)}  : ∀ (n : Nat) (v2 : Int32) (n_facts : (Nat → Int32)) (n_news : (Nat → Int64)) (H : Heap) (locs : List Loc) (ls : Array Slot), iter (fun b : Int32 × (Nat → Int32) × (Nat → Int64) => sX1_passRound_55 f_sentFacts f_sentNews n_nodes n_links n_messages n_areas n_firsts n_seconds n_privates n_truth b.1 b.2.1 b.2.2) n (v2, n_facts, n_news) = some res → zW Z A ((wX1 Z Af f_sentFacts f_sentNews ++ wX3 Z An n_nodes n_links n_tunnels n_messages n_areas n_firsts n_seconds n_privates n_entries n_exits n_truth n_facts n_news)) s.heap H locs → lv_has ls 3 [(0, .ref (Af 0)), (1, .ref (An 0)), (2, .int v2)] → W p l e rmX1_passRound s m args below meth c H locs 0 0 (MQ below (zQv Z ((wX1 Z Af res.1 res.2.1 ++ wX3 Z An n_nodes n_links n_tunnels res.2.2.1 n_areas n_firsts n_seconds n_privates n_entries n_exits n_truth res.2.2.2.1 res.2.2.2.2)) A) args s 0 0 A) (F0 m 55 ls []) := by
  intro n
  induction n with
  | zero => intro v2 n_facts n_news H locs ls h; cases h
  | succ n ih =>
    intro v2 n_facts n_news H locs ls h hw hl
    obtain ⟨q1, h, hn1, hr1⟩ := iter_out h
    have hb1 : ∀ b : Int32 × (Nat → Int32) × (Nat → Int64), q1 = .inl b → ∀ (H : Heap) (locs : List Loc) (ls : Array Slot), zW Z A ((wX1 Z Af f_sentFacts f_sentNews ++ wX3 Z An n_nodes n_links n_tunnels n_messages n_areas n_firsts n_seconds n_privates n_entries n_exits n_truth b.2.1 b.2.2)) s.heap H locs → lv_has ls 3 [(0, .ref (Af 0)), (1, .ref (An 0)), (2, .int b.1)] → W p l e rmX1_passRound s m args below meth c H locs 0 0 (MQ below (zQv Z ((wX1 Z Af res.1 res.2.1 ++ wX3 Z An n_nodes n_links n_tunnels res.2.2.1 n_areas n_firsts n_seconds n_privates n_entries n_exits n_truth res.2.2.2.1 res.2.2.2.2)) A) args s 0 0 A) (F0 m 55 ls []) := fun b eb H locs ls hw hl => ih b.1 b.2.1 b.2.2 H locs ls (hn1 b eb) hw hl
    replace h : sX1_passRound_55 f_sentFacts f_sentNews n_nodes n_links n_messages n_areas n_firsts n_seconds n_privates n_truth v2 n_facts n_news = some q1 := h
    unfold sX1_passRound_55 at h
    refine r_iload_n E hl 2 rfl dX1_passRound_55 rfl ?_
    refine r_aload_n E hl 1 rfl dX1_passRound_56 rfl ?_
    refine r_get E kW_X3 hw 3 rfl rfl 0 (by decide) kF_X1_55 rfl dX1_passRound_57 ?_
    refine r_icmp_ge E 75 dX1_passRound_60 (by decide) (fun hc => ?_) (fun hc => ?_)
    · replace h := ite_t hc h
      obtain ⟨ro3, h, hro3⟩ := oi_some h
      rw [hr1 _ hro3] at h
      obtain rfl := Option.some.inj h
      exact r_vret E hw dX1_passRound_75
    · replace h := ite_f hc h
      refine r_aload_n E hl 0 rfl dX1_passRound_63 rfl ?_
      refine r_aload_n E hl 1 rfl dX1_passRound_64 rfl ?_
      refine r_iload_n E hl 2 rfl dX1_passRound_65 rfl ?_
      obtain ⟨y4, hy4, h⟩ := bd_some h
      refine r_callVAv E hw (mX1_receive l Z _ Af An f_sentFacts f_sentNews n_nodes n_links n_tunnels n_messages n_areas n_firsts n_seconds n_privates n_entries n_exits n_truth n_facts n_news v2 hy4) kL_X1_58 kI_X1_receive kS_X1_receive kN_X1 kC_X1_receive rfl rfl hdX1_receive ⟨Nat.le_of_ble_eq_true rfl, Nat.le_of_ble_eq_true rfl⟩ 0 rfl rfl rfl rfl hl [] rfl (Nat.le_of_ble_eq_true rfl) dX1_passRound_66 ⟨Nat.zero_le _, Nat.zero_le _⟩ (fun H locs hw => ?_)
      obtain ⟨w5, hw5, h⟩ := nm_out h
      refine r_iinc E w5 [(2, .int w5), (0, .ref (Af 0)), (1, .ref (An 0))] hl (k := 2) rfl dX1_passRound_69 hw5.symm (by decide) rfl (fun ls hl => ?_)
      refine r_goto E 55 dX1_passRound_72 (by decide) ?_
      exact hb1 _ (Option.some.inj h).symm _ _ _ hw (lv_sub hl [1, 2, 0] rfl)
set_option maxRecDepth 100000 in
set_option maxHeartbeats 4000000 in
theorem mX1_passRound (l : Launch) (Z : zT) (sz : Nat) (Af : Nat → Nat) (An : Nat → Nat) (f_sentFacts : (Nat → Int32)) (f_sentNews : (Nat → Int64)) (n_nodes : Int32) (n_links : Int32) (n_tunnels : Int32) (n_messages : Int32) (n_areas : (Nat → Int32)) (n_firsts : (Nat → Int32)) (n_seconds : (Nat → Int32)) (n_privates : (Nat → Int32)) (n_entries : (Nat → Int32)) (n_exits : (Nat → Int32)) (n_truth : (Nat → Int32)) (n_facts : (Nat → Int32)) (n_news : (Nat → Int64))  {res : (Nat → Int32) × (Nat → Int64) × Int32 × (Nat → Int32) × (Nat → Int64)} (h : fX1_passRound f_sentFacts f_sentNews n_nodes n_links n_messages n_areas n_firsts n_seconds n_privates n_truth n_facts n_news = some res) : Met l yX1_passRound (Cond.code yX1_passRound cX1_passRound 3 none :: zWs) rmX1_passRound (zP Z ((wX1 Z Af f_sentFacts f_sentNews ++ wX3 Z An n_nodes n_links n_tunnels n_messages n_areas n_firsts n_seconds n_privates n_entries n_exits n_truth n_facts n_news)) sz [.ref (Af 0), .ref (An 0)]) (zQv Z ((wX1 Z Af res.1 res.2.1 ++ wX3 Z An n_nodes n_links n_tunnels res.2.2.1 n_areas n_firsts n_seconds n_privates n_entries n_exits n_truth res.2.2.2.1 res.2.2.2.2)) (va_A ((wX1 Z Af f_sentFacts f_sentNews ++ wX3 Z An n_nodes n_links n_tunnels n_messages n_areas n_firsts n_seconds n_privates n_entries n_exits n_truth n_facts n_news)) sz)) 0 0 (va_A ((wX1 Z Af f_sentFacts f_sentNews ++ wX3 Z An n_nodes n_links n_tunnels n_messages n_areas n_firsts n_seconds n_privates n_entries n_exits n_truth n_facts n_news)) sz) := by
  refine zMet (own := RX1) (fun A => zQv Z ((wX1 Z Af res.1 res.2.1 ++ wX3 Z An n_nodes n_links n_tunnels res.2.2.1 n_areas n_firsts n_seconds n_privates n_entries n_exits n_truth res.2.2.2.1 res.2.2.2.2)) A) (by decide) rfl (Nat.le_of_ble_eq_true rfl) ?_
  intro p e s m args below meth c ls A E hw hl
  unfold fX1_passRound at h
  refine r_aload_n E hl 1 rfl dX1_passRound_0 rfl ?_
  refine r_get E kW_X3 hw 3 rfl rfl 11 (by decide) kF_X1_29 rfl dX1_passRound_1 ?_
  refine r_iconst E 0 dX1_passRound_4 (by decide) ?_
  refine r_aload_n E hl 0 rfl dX1_passRound_5 rfl ?_
  refine r_get E kW_X1 hw 0 rfl rfl 0 (by decide) kF_X1_9 rfl dX1_passRound_6 ?_
  refine r_iconst E 0 dX1_passRound_9 (by decide) ?_
  refine r_sipush E 350 dX1_passRound_10 (by decide) ?_
  refine r_copyi E ((wX1 Z Af (va_cpy n_facts f_sentFacts 0 0 350) f_sentNews ++ wX3 Z An n_nodes n_links n_tunnels n_messages n_areas n_firsts n_seconds n_privates n_entries n_exits n_truth n_facts n_news)) hw hl 11 1 rfl rfl kL_X1_32 350 (by decide) (by decide) (by decide) (by decide) (by decide) rfl dX1_passRound_13 (fun H locs hw => ?_)
  refine r_aload_n E hl 1 rfl dX1_passRound_16 rfl ?_
  refine r_get E kW_X3 hw 3 rfl rfl 12 (by decide) kF_X1_38 rfl dX1_passRound_17 ?_
  refine r_iconst E 0 dX1_passRound_20 (by decide) ?_
  refine r_aload_n E hl 0 rfl dX1_passRound_21 rfl ?_
  refine r_get E kW_X1 hw 0 rfl rfl 1 (by decide) kF_X1_15 rfl dX1_passRound_22 ?_
  refine r_iconst E 0 dX1_passRound_25 (by decide) ?_
  refine r_bipush E 10 dX1_passRound_26 (by decide) ?_
  refine r_copyl E ((wX1 Z Af (va_cpy n_facts f_sentFacts 0 0 350) (va_cpy n_news f_sentNews 0 0 10) ++ wX3 Z An n_nodes n_links n_tunnels n_messages n_areas n_firsts n_seconds n_privates n_entries n_exits n_truth n_facts n_news)) hw hl 12 2 rfl rfl kL_X1_32 10 (by decide) (by decide) (by decide) (by decide) (by decide) rfl dX1_passRound_28 (fun H locs hw => ?_)
  refine r_aload_n E hl 1 rfl dX1_passRound_31 rfl ?_
  refine r_get E kW_X3 hw 3 rfl rfl 12 (by decide) kF_X1_38 rfl dX1_passRound_32 ?_
  refine r_lconst E 0 dX1_passRound_35 (by decide) ?_
  obtain ⟨y1, hy1, h⟩ := bd_some h
  refine r_callSv E ((wX1 Z Af (va_cpy n_facts f_sentFacts 0 0 350) (va_cpy n_news f_sentNews 0 0 10) ++ wX3 Z An n_nodes n_links n_tunnels n_messages n_areas n_firsts n_seconds n_privates n_entries n_exits n_truth n_facts y1)) hw (mJ7_fill_d0a16 l Z _ (fun _ => (An 9)) 10 n_news (0 : Int64) hy1) kL_X1_41 kT_J7_fill_d0a16 kN_J7 kC_J7_fill_d0a16 rfl rfl hdJ7_fill_d0a16 ⟨Nat.le_of_ble_eq_true rfl, Nat.le_of_ble_eq_true rfl⟩ [12] [0, 1, 2, 3, 4, 5, 6, 7, 8, 9, 10, 11] [0, 1, 2, 3, 4, 5, 6, 7, 8, 9, 10, 11, 12] (by decide) rfl rfl (by decide) (by decide) (by decide) rfl rfl hl [] rfl (Nat.le_of_ble_eq_true rfl) dX1_passRound_36 ⟨Nat.zero_le _, Nat.zero_le _⟩ (fun H locs hw => ?_)
  refine r_aload_n E hl 1 rfl dX1_passRound_39 rfl ?_
  refine r_dup E dX1_passRound_40 rfl ?_
  refine r_get E kW_X3 hw 3 rfl rfl 3 (by decide) kF_X1_47 rfl dX1_passRound_41 ?_
  refine r_aload_n E hl 0 rfl dX1_passRound_44 rfl ?_
  refine r_aload_n E hl 1 rfl dX1_passRound_45 rfl ?_
  obtain ⟨y2, hy2, h⟩ := bd_some h
  refine r_callVAi E hw (mX1_countMessages l Z _ Af An (va_cpy n_facts f_sentFacts 0 0 350) (va_cpy n_news f_sentNews 0 0 10) n_nodes n_links n_tunnels n_messages n_areas n_firsts n_seconds n_privates n_entries n_exits n_truth n_facts y1 hy2) kL_X1_51 kI_X1_countMessages kS_X1_countMessages kN_X1 kC_X1_countMessages rfl rfl hdX1_countMessages ⟨Nat.le_of_ble_eq_true rfl, Nat.le_of_ble_eq_true rfl⟩ 0 rfl rfl rfl rfl hl [.int n_messages, .ref (An 0)] rfl (Nat.le_of_ble_eq_true rfl) dX1_passRound_46 ⟨Nat.zero_le _, Nat.zero_le _⟩ (fun H locs hw => ?_)
  refine r_iadd E dX1_passRound_49 ?_
  refine r_put E ((wX1 Z Af (va_cpy n_facts f_sentFacts 0 0 350) (va_cpy n_news f_sentNews 0 0 10) ++ wX3 Z An n_nodes n_links n_tunnels (n_messages + y2) n_areas n_firsts n_seconds n_privates n_entries n_exits n_truth n_facts y1)) kW_X3 tyX3_ok nmX3 hw 3 rfl rfl 3 (by decide) kF_X1_47 rfl rfl rfl (Nat.le_of_ble_eq_true rfl) rfl dX1_passRound_50 (fun H locs hw => ?_)
  refine r_iconst E 0 dX1_passRound_53 (by decide) ?_
  refine r_istore_n E [(2, .int (0 : Int32)), (0, .ref (Af 0)), (1, .ref (An 0))] hl dX1_passRound_54 rfl (by decide) rfl (fun ls hl => ?_)
  obtain ⟨n6, h⟩ := wh_some h
  exact tX1_passRound_55 E  n6 _ _ _ _ _ _ h hw (lv_sub hl [1, 2, 0] rfl)
abbrev rmX1_passRounds : Room := { frames := 5, cells := 0, slots := 0, locals := 118 }

set_option maxRecDepth 100000 in
set_option maxHeartbeats 4000000 in
theorem tX1_passRounds_2 {Z : zT} {p : Program} {l : Launch} {e : Env} {s : State} {m : MethodId} {args : Array Value} {below : List Frame} {meth : Method} {c : Code} {A : Nat → Prop} (E : zE Z p s m args meth c RX1 cX1_passRounds 4 (some .int) A) {Af : Nat → Nat} {An : Nat → Nat} {v2 : Int32} {n_nodes : Int32} {n_links : Int32} {n_tunnels : Int32} {n_areas : (Nat → Int32)} {n_firsts : (Nat → Int32)} {n_seconds : (Nat → Int32)} {n_privates : (Nat → Int32)} {n_entries : (Nat → Int32)} {n_exits : (Nat → Int32)} {n_truth : (Nat → Int32)} {res : Int32 × (Nat → Int32) × (Nat → Int64) × Int32 × (Nat → Int32) × (Nat → Int64)}  : ∀ (n : Nat) (v3 : Int32) (f_sentFacts : (Nat → Int32)) (f_sentNews : (Nat → Int64)) (n_messages : Int32) (n_facts : (Nat → Int32)) (n_news : (Nat → Int64)) (H : Heap) (locs : List Loc) (ls : Array Slot), iter (fun b : Int32 × (Nat → Int32) × (Nat → Int64) × Int32 × (Nat → Int32) × (Nat → Int64) => sX1_passRounds_2 v2 n_nodes n_links n_areas n_firsts n_seconds n_privates n_truth b.1 b.2.1 b.2.2.1 b.2.2.2.1 b.2.2.2.2.1 b.2.2.2.2.2) n (v3, f_sentFacts, f_sentNews, n_messages, n_facts, n_news) = some res → zW Z A ((wX1 Z Af f_sentFacts f_sentNews ++ wX3 Z An n_nodes n_links n_tunnels n_messages n_areas n_firsts n_seconds n_privates n_entries n_exits n_truth n_facts n_news)) s.heap H locs → lv_has ls 4 [(0, .ref (Af 0)), (1, .ref (An 0)), (2, .int v2), (3, .int v3)] → W p l e rmX1_passRounds s m args below meth c H locs 0 0 (MQ below (zQi Z res.1 ((wX1 Z Af res.2.1 res.2.2.1 ++ wX3 Z An n_nodes n_links n_tunnels res.2.2.2.1 n_areas n_firsts n_seconds n_privates n_entries n_exits n_truth res.2.2.2.2.1 res.2.2.2.2.2)) A) args s 0 0 A) (F0 m 2 ls []) := by
  intro n
  induction n with
  | zero => intro v3 f_sentFacts f_sentNews n_messages n_facts n_news H locs ls h; cases h
  | succ n ih =>
    intro v3 f_sentFacts f_sentNews n_messages n_facts n_news H locs ls h hw hl
    obtain ⟨q1, h, hn1, hr1⟩ := iter_out h
    have hb1 : ∀ b : Int32 × (Nat → Int32) × (Nat → Int64) × Int32 × (Nat → Int32) × (Nat → Int64), q1 = .inl b → ∀ (H : Heap) (locs : List Loc) (ls : Array Slot), zW Z A ((wX1 Z Af b.2.1 b.2.2.1 ++ wX3 Z An n_nodes n_links n_tunnels b.2.2.2.1 n_areas n_firsts n_seconds n_privates n_entries n_exits n_truth b.2.2.2.2.1 b.2.2.2.2.2)) s.heap H locs → lv_has ls 4 [(0, .ref (Af 0)), (1, .ref (An 0)), (2, .int v2), (3, .int b.1)] → W p l e rmX1_passRounds s m args below meth c H locs 0 0 (MQ below (zQi Z res.1 ((wX1 Z Af res.2.1 res.2.2.1 ++ wX3 Z An n_nodes n_links n_tunnels res.2.2.2.1 n_areas n_firsts n_seconds n_privates n_entries n_exits n_truth res.2.2.2.2.1 res.2.2.2.2.2)) A) args s 0 0 A) (F0 m 2 ls []) := fun b eb H locs ls hw hl => ih b.1 b.2.1 b.2.2.1 b.2.2.2.1 b.2.2.2.2.1 b.2.2.2.2.2 H locs ls (hn1 b eb) hw hl
    replace h : sX1_passRounds_2 v2 n_nodes n_links n_areas n_firsts n_seconds n_privates n_truth v3 f_sentFacts f_sentNews n_messages n_facts n_news = some q1 := h
    unfold sX1_passRounds_2 at h
    refine r_iload_n E hl 3 rfl dX1_passRounds_2 rfl ?_
    refine r_iload_n E hl 2 rfl dX1_passRounds_3 rfl ?_
    refine r_icmp_ge E 25 dX1_passRounds_4 (by decide) (fun hc => ?_) (fun hc => ?_)
    · replace h := ite_t hc h
      obtain ⟨ro1, h, hro1⟩ := oi_some h
      rw [hr1 _ hro1] at h
      refine r_iload_n E hl 3 rfl dX1_passRounds_25 rfl ?_
      obtain rfl := Option.some.inj h
      exact r_iret E hw dX1_passRounds_26
    · replace h := ite_f hc h
      refine r_aload_n E hl 1 rfl dX1_passRounds_7 rfl ?_
      obtain ⟨y2, hy2, h⟩ := bd_some h
      refine r_callVQi E ((wX1 Z Af f_sentFacts f_sentNews ++ wX3 Z An n_nodes n_links n_tunnels n_messages n_areas n_firsts n_seconds n_privates n_entries n_exits n_truth n_facts n_news)) (wX1 Z Af f_sentFacts f_sentNews) hw (mX3_isQuiet l Z _ An n_nodes n_links n_tunnels n_messages n_areas n_firsts n_seconds n_privates n_entries n_exits n_truth n_facts n_news hy2) kL_X1_19 kI_X3_isQuiet kS_X3_isQuiet kN_X3 kC_X3_isQuiet rfl rfl hdX3_isQuiet ⟨Nat.le_of_ble_eq_true rfl, Nat.le_of_ble_eq_true rfl⟩ (fun f => by simp only [sf_app] <;> omega) (fun f => by simp only [sf_app] <;> omega) 3 rfl rfl rfl rfl hl [] rfl (Nat.le_of_ble_eq_true rfl) dX1_passRounds_8 ⟨Nat.zero_le _, Nat.zero_le _⟩ (fun H locs hw => ?_)
      refine r_if_ne E 25 dX1_passRounds_11 (by decide) (fun hc => ?_) (fun hc => ?_)
      · replace h := ite_f hc h
        obtain ⟨ro3, h, hro3⟩ := oi_some h
        rw [hr1 _ hro3] at h
        refine r_iload_n E hl 3 rfl dX1_passRounds_25 rfl ?_
        obtain rfl := Option.some.inj h
        exact r_iret E hw dX1_passRounds_26
      · replace h := ite_t hc h
        refine r_aload_n E hl 0 rfl dX1_passRounds_14 rfl ?_
        refine r_aload_n E hl 1 rfl dX1_passRounds_15 rfl ?_
        obtain ⟨y4, hy4, h⟩ := bd_some h
        refine r_callVAv E hw (mX1_passRound l Z _ Af An f_sentFacts f_sentNews n_nodes n_links n_tunnels n_messages n_areas n_firsts n_seconds n_privates n_entries n_exits n_truth n_facts n_news hy4) kL_X1_25 kI_X1_passRound kS_X1_passRound kN_X1 kC_X1_passRound rfl rfl hdX1_passRound ⟨Nat.le_of_ble_eq_true rfl, Nat.le_of_ble_eq_true rfl⟩ 0 rfl rfl rfl rfl hl [] rfl (Nat.le_of_ble_eq_true rfl) dX1_passRounds_16 ⟨Nat.zero_le _, Nat.zero_le _⟩ (fun H locs hw => ?_)
        obtain ⟨w5, hw5, h⟩ := nm_out h
        refine r_iinc E w5 [(3, .int w5), (0, .ref (Af 0)), (1, .ref (An 0)), (2, .int v2)] hl (k := 3) rfl dX1_passRounds_19 hw5.symm (by decide) rfl (fun ls hl => ?_)
        refine r_goto E 2 dX1_passRounds_22 (by decide) ?_
        exact hb1 _ (Option.some.inj h).symm _ _ _ hw (lv_sub hl [1, 2, 3, 0] rfl)
set_option maxRecDepth 100000 in
set_option maxHeartbeats 4000000 in
theorem mX1_passRounds (l : Launch) (Z : zT) (sz : Nat) (Af : Nat → Nat) (An : Nat → Nat) (f_sentFacts : (Nat → Int32)) (f_sentNews : (Nat → Int64)) (n_nodes : Int32) (n_links : Int32) (n_tunnels : Int32) (n_messages : Int32) (n_areas : (Nat → Int32)) (n_firsts : (Nat → Int32)) (n_seconds : (Nat → Int32)) (n_privates : (Nat → Int32)) (n_entries : (Nat → Int32)) (n_exits : (Nat → Int32)) (n_truth : (Nat → Int32)) (n_facts : (Nat → Int32)) (n_news : (Nat → Int64)) (v2 : Int32) {res : Int32 × (Nat → Int32) × (Nat → Int64) × Int32 × (Nat → Int32) × (Nat → Int64)} (h : fX1_passRounds v2 f_sentFacts f_sentNews n_nodes n_links n_messages n_areas n_firsts n_seconds n_privates n_truth n_facts n_news = some res) : Met l yX1_passRounds (Cond.code yX1_passRounds cX1_passRounds 4 (some .int) :: zWs) rmX1_passRounds (zP Z ((wX1 Z Af f_sentFacts f_sentNews ++ wX3 Z An n_nodes n_links n_tunnels n_messages n_areas n_firsts n_seconds n_privates n_entries n_exits n_truth n_facts n_news)) sz [.ref (Af 0), .ref (An 0), .int v2]) (zQi Z res.1 ((wX1 Z Af res.2.1 res.2.2.1 ++ wX3 Z An n_nodes n_links n_tunnels res.2.2.2.1 n_areas n_firsts n_seconds n_privates n_entries n_exits n_truth res.2.2.2.2.1 res.2.2.2.2.2)) (va_A ((wX1 Z Af f_sentFacts f_sentNews ++ wX3 Z An n_nodes n_links n_tunnels n_messages n_areas n_firsts n_seconds n_privates n_entries n_exits n_truth n_facts n_news)) sz)) 0 0 (va_A ((wX1 Z Af f_sentFacts f_sentNews ++ wX3 Z An n_nodes n_links n_tunnels n_messages n_areas n_firsts n_seconds n_privates n_entries n_exits n_truth n_facts n_news)) sz) := by
  refine zMet (own := RX1) (fun A => zQi Z res.1 ((wX1 Z Af res.2.1 res.2.2.1 ++ wX3 Z An n_nodes n_links n_tunnels res.2.2.2.1 n_areas n_firsts n_seconds n_privates n_entries n_exits n_truth res.2.2.2.2.1 res.2.2.2.2.2)) A) (by decide) rfl (Nat.le_of_ble_eq_true rfl) ?_
  intro p e s m args below meth c ls A E hw hl
  unfold fX1_passRounds at h
  refine r_iconst E 0 dX1_passRounds_0 (by decide) ?_
  refine r_istore_n E [(3, .int (0 : Int32)), (0, .ref (Af 0)), (1, .ref (An 0)), (2, .int v2)] hl dX1_passRounds_1 rfl (by decide) rfl (fun ls hl => ?_)
  obtain ⟨n6, h⟩ := wh_some h
  exact tX1_passRounds_2 E  n6 _ _ _ _ _ _ _ _ _ h hw (lv_sub hl [1, 2, 3, 0] rfl)
