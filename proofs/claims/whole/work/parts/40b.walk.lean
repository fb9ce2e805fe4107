abbrev rmX3_isPrivateLink : Room := { frames := 0, cells := 0, slots := 0, locals := 0 }

set_option maxRecDepth 100000 in
set_option maxHeartbeats 4000000 in
theorem mX3_isPrivateLink (l : Launch) (Z : zT) (sz : Nat) (An : Nat → Nat) (n_nodes : Int32) (n_links : Int32) (n_tunnels : Int32) (n_messages : Int32) (n_areas : (Nat → Int32)) (n_firsts : (Nat → Int32)) (n_seconds : (Nat → Int32)) (n_privates : (Nat → Int32)) (n_entries : (Nat → Int32)) (n_exits : (Nat → Int32)) (n_truth : (Nat → Int32)) (n_facts : (Nat → Int32)) (n_news : (Nat → Int64)) (v1 : Int32) {res : Int32} (h : fX3_isPrivateLink v1 n_privates = some res) : Met l yX3_isPrivateLink (Cond.code yX3_isPrivateLink cX3_isPrivateLink 2 (some .boolean) :: zWs) rmX3_isPrivateLink (zP Z (wX3 Z An n_nodes n_links n_tunnels n_messages n_areas n_firsts n_seconds n_privates n_entries n_exits n_truth n_facts n_news) sz [.ref (An 0), .int v1]) (zQi Z res (wX3 Z An n_nodes n_links n_tunnels n_messages n_areas n_firsts n_seconds n_privates n_entries n_exits n_truth n_facts n_news) (va_A (wX3 Z An n_nodes n_links n_tunnels n_messages n_areas n_firsts n_seconds n_privates n_entries n_exits n_truth n_facts n_news) sz)) 0 0 (va_A (wX3 Z An n_nodes n_links n_tunnels n_messages n_areas n_firsts n_seconds n_privates n_entries n_exits n_truth n_facts n_news) sz) := by
  refine zMet (own := RX3) (fun A => zQi Z res (wX3 Z An n_nodes n_links n_tunnels n_messages n_areas n_firsts n_seconds n_privates n_entries n_exits n_truth n_facts n_news) A) (by decide) rfl (Nat.le_of_ble_eq_true rfl) ?_
  intro p e s m args below meth c ls A E hw hl
  unfold fX3_isPrivateLink at h
  refine r_iload_n E hl 1 rfl dX3_isPrivateLink_0 rfl ?_
  refine r_bipush E 16 dX3_isPrivateLink_1 (by decide) ?_
  refine r_icmp_lt E 29 dX3_isPrivateLink_3 (by decide) (fun hc => ?_) (fun hc => ?_)
  · replace h := ite_t hc h
    refine r_iconst E 0 dX3_isPrivateLink_29 (by decide) ?_
    obtain rfl := Option.some.inj h
    exact r_zret E bz_0 hw dX3_isPrivateLink_30
  · replace h := ite_f hc h
    refine r_iload_n E hl 1 rfl dX3_isPrivateLink_6 rfl ?_
    refine r_bipush E 32 dX3_isPrivateLink_7 (by decide) ?_
    refine r_icmp_ge E 29 dX3_isPrivateLink_9 (by decide) (fun hc => ?_) (fun hc => ?_)
    · replace h := ite_t hc h
      refine r_iconst E 0 dX3_isPrivateLink_29 (by decide) ?_
      obtain rfl := Option.some.inj h
      exact r_zret E bz_0 hw dX3_isPrivateLink_30
    · replace h := ite_f hc h
      refine r_aload_n E hl 0 rfl dX3_isPrivateLink_12 rfl ?_
      refine r_get E kW_X3 hw 0 rfl rfl 7 (by decide) kF_X3_21 rfl dX3_isPrivateLink_13 ?_
      refine r_iload_n E hl 1 rfl dX3_isPrivateLink_16 rfl ?_
      refine r_bipush E 16 dX3_isPrivateLink_17 (by decide) ?_
      refine r_isub E dX3_isPrivateLink_19 ?_
      obtain ⟨hg1, h⟩ := gd_some h
      refine r_iald E hw 4 rfl hg1 dX3_isPrivateLink_20 ?_
      refine r_iconst E 1 dX3_isPrivateLink_21 (by decide) ?_
      refine r_icmp_ne E 29 dX3_isPrivateLink_22 (by decide) (fun hc => ?_) (fun hc => ?_)
      · replace h := ite_f hc h
        refine r_iconst E 0 dX3_isPrivateLink_29 (by decide) ?_
        obtain rfl := Option.some.inj h
        exact r_zret E bz_0 hw dX3_isPrivateLink_30
      · replace h := ite_t hc h
        refine r_iconst E 1 dX3_isPrivateLink_25 (by decide) ?_
        refine r_goto E 30 dX3_isPrivateLink_26 (by decide) ?_
        obtain rfl := Option.some.inj h
        exact r_zret E bz_1 hw dX3_isPrivateLink_30
abbrev rmX3_isPrivateOf : Room := { frames := 0, cells := 0, slots := 0, locals := 0 }

set_option maxRecDepth 100000 in
set_option maxHeartbeats 4000000 in
theorem mX3_isPrivateOf (l : Launch) (Z : zT) (sz : Nat) (An : Nat → Nat) (n_nodes : Int32) (n_links : Int32) (n_tunnels : Int32) (n_messages : Int32) (n_areas : (Nat → Int32)) (n_firsts : (Nat → Int32)) (n_seconds : (Nat → Int32)) (n_privates : (Nat → Int32)) (n_entries : (Nat → Int32)) (n_exits : (Nat → Int32)) (n_truth : (Nat → Int32)) (n_facts : (Nat → Int32)) (n_news : (Nat → Int64)) (v1 : Int32) (v2 : Int32) {res : Int32} (h : fX3_isPrivateOf v1 v2 n_areas n_firsts n_privates = some res) : Met l yX3_isPrivateOf (Cond.code yX3_isPrivateOf cX3_isPrivateOf 3 (some .boolean) :: zWs) rmX3_isPrivateOf (zP Z (wX3 Z An n_nodes n_links n_tunnels n_messages n_areas n_firsts n_seconds n_privates n_entries n_exits n_truth n_facts n_news) sz [.ref (An 0), .int v1, .int v2]) (zQi Z res (wX3 Z An n_nodes n_links n_tunnels n_messages n_areas n_firsts n_seconds n_privates n_entries n_exits n_truth n_facts n_news) (va_A (wX3 Z An n_nodes n_links n_tunnels n_messages n_areas n_firsts n_seconds n_privates n_entries n_exits n_truth n_facts n_news) sz)) 0 0 (va_A (wX3 Z An n_nodes n_links n_tunnels n_messages n_areas n_firsts n_seconds n_privates n_entries n_exits n_truth n_facts n_news) sz) := by
  refine zMet (own := RX3) (fun A => zQi Z res (wX3 Z An n_nodes n_links n_tunnels n_messages n_areas n_firsts n_seconds n_privates n_entries n_exits n_truth n_facts n_news) A) (by decide) rfl (Nat.le_of_ble_eq_true rfl) ?_
  intro p e s m args below meth c ls A E hw hl
  unfold fX3_isPrivateOf at h
  refine r_aload_n E hl 0 rfl dX3_isPrivateOf_0 rfl ?_
  refine r_get E kW_X3 hw 0 rfl rfl 7 (by decide) kF_X3_21 rfl dX3_isPrivateOf_1 ?_
  refine r_iload_n E hl 1 rfl dX3_isPrivateOf_4 rfl ?_
  obtain ⟨hg1, h⟩ := gd_some h
  refine r_iald E hw 4 rfl hg1 dX3_isPrivateOf_5 ?_
  refine r_iconst E 1 dX3_isPrivateOf_6 (by decide) ?_
  refine r_icmp_ne E 29 dX3_isPrivateOf_7 (by decide) (fun hc => ?_) (fun hc => ?_)
  · replace h := ite_f hc h
    refine r_iconst E 0 dX3_isPrivateOf_29 (by decide) ?_
    obtain rfl := Option.some.inj h
    exact r_zret E bz_0 hw dX3_isPrivateOf_30
  · replace h := ite_t hc h
    refine r_aload_n E hl 0 rfl dX3_isPrivateOf_10 rfl ?_
    refine r_get E kW_X3 hw 0 rfl rfl 4 (by decide) kF_X3_9 rfl dX3_isPrivateOf_11 ?_
    refine r_aload_n E hl 0 rfl dX3_isPrivateOf_14 rfl ?_
    refine r_get E kW_X3 hw 0 rfl rfl 5 (by decide) kF_X3_15 rfl dX3_isPrivateOf_15 ?_
    refine r_iload_n E hl 1 rfl dX3_isPrivateOf_18 rfl ?_
    obtain ⟨hg2, h⟩ := gd_some h
    refine r_iald E hw 2 rfl hg2 dX3_isPrivateOf_19 ?_
    obtain ⟨hg3, h⟩ := gd_some h
    refine r_iald E hw 1 rfl hg3 dX3_isPrivateOf_20 ?_
    refine r_iload_n E hl 2 rfl dX3_isPrivateOf_21 rfl ?_
    refine r_icmp_ne E 29 dX3_isPrivateOf_22 (by decide) (fun hc => ?_) (fun hc => ?_)
    · replace h := ite_f hc h
      refine r_iconst E 0 dX3_isPrivateOf_29 (by decide) ?_
      obtain rfl := Option.some.inj h
      exact r_zret E bz_0 hw dX3_isPrivateOf_30
    · replace h := ite_t hc h
      refine r_iconst E 1 dX3_isPrivateOf_25 (by decide) ?_
      refine r_goto E 30 dX3_isPrivateOf_26 (by decide) ?_
      obtain rfl := Option.some.inj h
      exact r_zret E bz_1 hw dX3_isPrivateOf_30
abbrev rmX3_owner : Room := { frames := 0, cells := 0, slots := 0, locals := 0 }

set_option maxRecDepth 100000 in
set_option maxHeartbeats 4000000 in
theorem mX3_owner (l : Launch) (Z : zT) (sz : Nat) (An : Nat → Nat) (n_nodes : Int32) (n_links : Int32) (n_tunnels : Int32) (n_messages : Int32) (n_areas : (Nat → Int32)) (n_firsts : (Nat → Int32)) (n_seconds : (Nat → Int32)) (n_privates : (Nat → Int32)) (n_entries : (Nat → Int32)) (n_exits : (Nat → Int32)) (n_truth : (Nat → Int32)) (n_facts : (Nat → Int32)) (n_news : (Nat → Int64)) (v1 : Int32) {res : Int32} (h : fX3_owner v1 n_areas n_firsts = some res) : Met l yX3_owner (Cond.code yX3_owner cX3_owner 2 (some .int) :: zWs) rmX3_owner (zP Z (wX3 Z An n_nodes n_links n_tunnels n_messages n_areas n_firsts n_seconds n_privates n_entries n_exits n_truth n_facts n_news) sz [.ref (An 0), .int v1]) (zQi Z res (wX3 Z An n_nodes n_links n_tunnels n_messages n_areas n_firsts n_seconds n_privates n_entries n_exits n_truth n_facts n_news) (va_A (wX3 Z An n_nodes n_links n_tunnels n_messages n_areas n_firsts n_seconds n_privates n_entries n_exits n_truth n_facts n_news) sz)) 0 0 (va_A (wX3 Z An n_nodes n_links n_tunnels n_messages n_areas n_firsts n_seconds n_privates n_entries n_exits n_truth n_facts n_news) sz) := by
  refine zMet (own := RX3) (fun A => zQi Z res (wX3 Z An n_nodes n_links n_tunnels n_messages n_areas n_firsts n_seconds n_privates n_entries n_exits n_truth n_facts n_news) A) (by decide) rfl (Nat.le_of_ble_eq_true rfl) ?_
  intro p e s m args below meth c ls A E hw hl
  unfold fX3_owner at h
  refine r_aload_n E hl 0 rfl dX3_owner_0 rfl ?_
  refine r_get E kW_X3 hw 0 rfl rfl 4 (by decide) kF_X3_9 rfl dX3_owner_1 ?_
  refine r_aload_n E hl 0 rfl dX3_owner_4 rfl ?_
  refine r_get E kW_X3 hw 0 rfl rfl 5 (by decide) kF_X3_15 rfl dX3_owner_5 ?_
  refine r_iload_n E hl 1 rfl dX3_owner_8 rfl ?_
  obtain ⟨hg1, h⟩ := gd_some h
  refine r_iald E hw 2 rfl hg1 dX3_owner_9 ?_
  obtain ⟨hg2, h⟩ := gd_some h
  refine r_iald E hw 1 rfl hg2 dX3_owner_10 ?_
  obtain rfl := Option.some.inj h
  exact r_iret E hw dX3_owner_11
abbrev rmX3_isEnd : Room := { frames := 0, cells := 0, slots := 0, locals := 0 }

set_option maxRecDepth 100000 in
set_option maxHeartbeats 4000000 in
theorem vX3_isEnd_20 {Z : zT} {p : Program} {l : Launch} {e : Env} {s : State} {m : MethodId} {args : Array Value} {below : List Frame} {meth : Method} {c : Code} {A : Nat → Prop} (E : zE Z p s m args meth c RX3 cX3_isEnd 3 (some .boolean) A) {An : Nat → Nat} {n_nodes : Int32} {n_links : Int32} {n_tunnels : Int32} {n_messages : Int32} {n_areas : (Nat → Int32)} {n_firsts : (Nat → Int32)} {n_seconds : (Nat → Int32)} {n_privates : (Nat → Int32)} {n_entries : (Nat → Int32)} {n_exits : (Nat → Int32)} {n_truth : (Nat → Int32)} {n_facts : (Nat → Int32)} {n_news : (Nat → Int64)} {res : Int32}  {H : Heap} {locs : List Loc} {ls : Array Slot} (hw : zW Z A (wX3 Z An n_nodes n_links n_tunnels n_messages n_areas n_firsts n_seconds n_privates n_entries n_exits n_truth n_facts n_news) s.heap H locs) (hl : lv_has ls 3 []) (h : uX3_isEnd_20  = some res) : W p l e rmX3_isEnd s m args below meth c H locs 0 0 (MQ below (zQi Z res (wX3 Z An n_nodes n_links n_tunnels n_messages n_areas n_firsts n_seconds n_privates n_entries n_exits n_truth n_facts n_news) A) args s 0 0 A) (F0 m 20 ls []) := by
  unfold uX3_isEnd_20 at h
  refine r_iconst E 1 dX3_isEnd_20 (by decide) ?_
  refine r_goto E 25 dX3_isEnd_21 (by decide) ?_
  obtain rfl := Option.some.inj h
  exact r_zret E bz_1 hw dX3_isEnd_25
set_option maxRecDepth 100000 in
set_option maxHeartbeats 4000000 in
theorem mX3_isEnd (l : Launch) (Z : zT) (sz : Nat) (An : Nat → Nat) (n_nodes : Int32) (n_links : Int32) (n_tunnels : Int32) (n_messages : Int32) (n_areas : (Nat → Int32)) (n_firsts : (Nat → Int32)) (n_seconds : (Nat → Int32)) (n_privates : (Nat → Int32)) (n_entries : (Nat → Int32)) (n_exits : (Nat → Int32)) (n_truth : (Nat → Int32)) (n_facts : (Nat → Int32)) (n_news : (Nat → Int64)) (v1 : Int32) (v2 : Int32) {res : Int32} (h : fX3_isEnd v1 v2 n_firsts n_seconds = some res) : Met l yX3_isEnd (Cond.code yX3_isEnd cX3_isEnd 3 (some .boolean) :: zWs) rmX3_isEnd (zP Z (wX3 Z An n_nodes n_links n_tunnels n_messages n_areas n_firsts n_seconds n_privates n_entries n_exits n_truth n_facts n_news) sz [.ref (An 0), .int v1, .int v2]) (zQi Z res (wX3 Z An n_nodes n_links n_tunnels n_messages n_areas n_firsts n_seconds n_privates n_entries n_exits n_truth n_facts n_news) (va_A (wX3 Z An n_nodes n_links n_tunnels n_messages n_areas n_firsts n_seconds n_privates n_entries n_exits n_truth n_facts n_news) sz)) 0 0 (va_A (wX3 Z An n_nodes n_links n_tunnels n_messages n_areas n_firsts n_seconds n_privates n_entries n_exits n_truth n_facts n_news) sz) := by
  refine zMet (own := RX3) (fun A => zQi Z res (wX3 Z An n_nodes n_links n_tunnels n_messages n_areas n_firsts n_seconds n_privates n_entries n_exits n_truth n_facts n_news) A) (by decide) rfl (Nat.le_of_ble_eq_true rfl) ?_
  intro p e s m args below meth c ls A E hw hl
  unfold fX3_isEnd at h
  refine r_aload_n E hl 0 rfl dX3_isEnd_0 rfl ?_
  refine r_get E kW_X3 hw 0 rfl rfl 5 (by decide) kF_X3_15 rfl dX3_isEnd_1 ?_
  refine r_iload_n E hl 2 rfl dX3_isEnd_4 rfl ?_
  obtain ⟨hg1, h⟩ := gd_some h
  refine r_iald E hw 2 rfl hg1 dX3_isEnd_5 ?_
  refine r_iload_n E hl 1 rfl dX3_isEnd_6 rfl ?_
  refine r_icmp_eq E 20 dX3_isEnd_7 (by decide) (fun hc => ?_) (fun hc => ?_)
  · replace h := ite_t hc h
    exact vX3_isEnd_20 E  hw (lv_sub hl [] rfl) h
  · replace h := ite_f hc h
    refine r_aload_n E hl 0 rfl dX3_isEnd_10 rfl ?_
    refine r_get E kW_X3 hw 0 rfl rfl 6 (by decide) kF_X3_18 rfl dX3_isEnd_11 ?_
    refine r_iload_n E hl 2 rfl dX3_isEnd_14 rfl ?_
    obtain ⟨hg2, h⟩ := gd_some h
    refine r_iald E hw 3 rfl hg2 dX3_isEnd_15 ?_
    refine r_iload_n E hl 1 rfl dX3_isEnd_16 rfl ?_
    refine r_icmp_ne E 24 dX3_isEnd_17 (by decide) (fun hc => ?_) (fun hc => ?_)
    · replace h := ite_f hc h
      refine r_iconst E 0 dX3_isEnd_24 (by decide) ?_
      obtain rfl := Option.some.inj h
      exact r_zret E bz_0 hw dX3_isEnd_25
    · replace h := ite_t hc h
      exact vX3_isEnd_20 E  hw (lv_sub hl [] rfl) h
abbrev rmX3_isUp : Room := { frames := 1, cells := 0, slots := 0, locals := 20 }

set_option maxRecDepth 100000 in
set_option maxHeartbeats 4000000 in
theorem mX3_isUp (l : Launch) (Z : zT) (sz : Nat) (An : Nat → Nat) (n_nodes : Int32) (n_links : Int32) (n_tunnels : Int32) (n_messages : Int32) (n_areas : (Nat → Int32)) (n_firsts : (Nat → Int32)) (n_seconds : (Nat → Int32)) (n_privates : (Nat → Int32)) (n_entries : (Nat → Int32)) (n_exits : (Nat → Int32)) (n_truth : (Nat → Int32)) (n_facts : (Nat → Int32)) (n_news : (Nat → Int64)) (v1 : Int32) {res : Int32} (h : fX3_isUp v1 n_truth = some res) : Met l yX3_isUp (Cond.code yX3_isUp cX3_isUp 2 (some .boolean) :: zWs) rmX3_isUp (zP Z (wX3 Z An n_nodes n_links n_tunnels n_messages n_areas n_firsts n_seconds n_privates n_entries n_exits n_truth n_facts n_news) sz [.ref (An 0), .int v1]) (zQi Z res (wX3 Z An n_nodes n_links n_tunnels n_messages n_areas n_firsts n_seconds n_privates n_entries n_exits n_truth n_facts n_news) (va_A (wX3 Z An n_nodes n_links n_tunnels n_messages n_areas n_firsts n_seconds n_privates n_entries n_exits n_truth n_facts n_news) sz)) 0 0 (va_A (wX3 Z An n_nodes n_links n_tunnels n_messages n_areas n_firsts n_seconds n_privates n_entries n_exits n_truth n_facts n_news) sz) := by
  refine zMet (own := RX3) (fun A => zQi Z res (wX3 Z An n_nodes n_links n_tunnels n_messages n_areas n_firsts n_seconds n_privates n_entries n_exits n_truth n_facts n_news) A) (by decide) rfl (Nat.le_of_ble_eq_true rfl) ?_
  intro p e s m args below meth c ls A E hw hl
  unfold fX3_isUp at h
  refine r_aload_n E hl 0 rfl dX3_isUp_0 rfl ?_
  refine r_get E kW_X3 hw 0 rfl rfl 10 (by decide) kF_X3_30 rfl dX3_isUp_1 ?_
  refine r_iload_n E hl 1 rfl dX3_isUp_4 rfl ?_
  obtain ⟨hg1, h⟩ := gd_some h
  refine r_iald E hw 7 rfl hg1 dX3_isUp_5 ?_
  obtain ⟨y2, hy2, h⟩ := bd_some h
  refine r_callS0i E hw (mX0_state l Z _ (n_truth (v1).toNatClampNeg) hy2) kL_X3_74 kT_X0_state kN_X0 kC_X0_state rfl rfl hdX0_state ⟨Nat.le_of_ble_eq_true rfl, Nat.le_of_ble_eq_true rfl⟩ rfl hl [] rfl (Nat.le_of_ble_eq_true rfl) dX3_isUp_6 ⟨Nat.zero_le _, Nat.zero_le _⟩ (fun H locs hw => ?_)
  refine r_iconst E 1 dX3_isUp_9 (by decide) ?_
  refine r_icmp_ne E 17 dX3_isUp_10 (by decide) (fun hc => ?_) (fun hc => ?_)
  · replace h := ite_f hc h
    refine r_iconst E 0 dX3_isUp_17 (by decide) ?_
    obtain rfl := Option.some.inj h
    exact r_zret E bz_0 hw dX3_isUp_18
  · replace h := ite_t hc h
    refine r_iconst E 1 dX3_isUp_13 (by decide) ?_
    refine r_goto E 18 dX3_isUp_14 (by decide) ?_
    obtain rfl := Option.some.inj h
    exact r_zret E bz_1 hw dX3_isUp_18
abbrev rmX3_ownersOpenTo : Room := { frames := 1, cells := 0, slots := 0, locals := 21 }

set_option maxRecDepth 100000 in
set_option maxHeartbeats 4000000 in
theorem vX3_ownersOpenTo_37 {Z : zT} {p : Program} {l : Launch} {e : Env} {s : State} {m : MethodId} {args : Array Value} {below : List Frame} {meth : Method} {c : Code} {A : Nat → Prop} (E : zE Z p s m args meth c RX3 cX3_ownersOpenTo 5 (some .int) A) {Aw : Nat → Nat} {nw : Nat} {v0 : Int32} {v2 : Int32} {v3 : Int32} {v4 : Int32} {w_f : (Nat → Int32)} {res : Int32} {q1 : (Int32 × Int32) ⊕ (Int32)} (hb1 : ∀ b : Int32 × Int32, q1 = .inl b → ∀ (H : Heap) (locs : List Loc) (ls : Array Slot), zW Z A (wAI Z Aw nw w_f) s.heap H locs → lv_has ls 5 [(0, .int v0), (1, .ref (Aw 0)), (2, .int v2), (3, .int b.1), (4, .int b.2)] → W p l e rmX3_ownersOpenTo s m args below meth c H locs 0 0 (MQ below (zQi Z res (wAI Z Aw nw w_f) A) args s 0 0 A) (F0 m 7 ls [])) (hr1 : ∀ r' , q1 = .inr r' → r' = res) {H : Heap} {locs : List Loc} {ls : Array Slot} (hw : zW Z A (wAI Z Aw nw w_f) s.heap H locs) (hl : lv_has ls 5 [(0, .int v0), (1, .ref (Aw 0)), (2, .int v2), (3, .int v3), (4, .int v4)]) (h : uX3_ownersOpenTo_37 v3 v4 = some q1) : W p l e rmX3_ownersOpenTo s m args below meth c H locs 0 0 (MQ below (zQi Z res (wAI Z Aw nw w_f) A) args s 0 0 A) (F0 m 37 ls []) := by
  unfold uX3_ownersOpenTo_37 at h
  obtain ⟨w6, hw6, h⟩ := nm_out h
  refine r_iinc E w6 [(4, .int w6), (0, .int v0), (1, .ref (Aw 0)), (2, .int v2), (3, .int v3)] hl (k := 4) rfl dX3_ownersOpenTo_37 hw6.symm (by decide) rfl (fun ls hl => ?_)
  refine r_goto E 7 dX3_ownersOpenTo_40 (by decide) ?_
  exact hb1 _ (Option.some.inj h).symm _ _ _ hw (lv_sub hl [1, 2, 3, 4, 0] rfl)
set_option maxRecDepth 100000 in
set_option maxHeartbeats 4000000 in
theorem tX3_ownersOpenTo_7 {Z : zT} {p : Program} {l : Launch} {e : Env} {s : State} {m : MethodId} {args : Array Value} {below : List Frame} {meth : Method} {c : Code} {A : Nat → Prop} (E : zE Z p s m args meth c RX3 cX3_ownersOpenTo 5 (some .int) A) {Aw : Nat → Nat} {nw : Nat} {v0 : Int32} {v2 : Int32} {w_f : (Nat → Int32)} {res : Int32}  : ∀ (n : Nat) (v3 : Int32) (v4 : Int32) (H : Heap) (locs : List Loc) (ls : Array Slot), iter (fun b : Int32 × Int32 => sX3_ownersOpenTo_7 v0 v2 w_f nw b.1 b.2) n (v3, v4) = some res → zW Z A (wAI Z Aw nw w_f) s.heap H locs → lv_has ls 5 [(0, .int v0), (1, .ref (Aw 0)), (2, .int v2), (3, .int v3), (4, .int v4)] → W p l e rmX3_ownersOpenTo s m args below meth c H locs 0 0 (MQ below (zQi Z res (wAI Z Aw nw w_f) A) args s 0 0 A) (F0 m 7 ls []) := by
  intro n
  induction n with
  | zero => intro v3 v4 H locs ls h; cases h
  | succ n ih =>
    intro v3 v4 H locs ls h hw hl
    obtain ⟨q1, h, hn1, hr1⟩ := iter_out h
    have hb1 : ∀ b : Int32 × Int32, q1 = .inl b → ∀ (H : Heap) (locs : List Loc) (ls : Array Slot), zW Z A (wAI Z Aw nw w_f) s.heap H locs → lv_has ls 5 [(0, .int v0), (1, .ref (Aw 0)), (2, .int v2), (3, .int b.1), (4, .int b.2)] → W p l e rmX3_ownersOpenTo s m args below meth c H locs 0 0 (MQ below (zQi Z res (wAI Z Aw nw w_f) A) args s 0 0 A) (F0 m 7 ls []) := fun b eb H locs ls hw hl => ih b.1 b.2 H locs ls (hn1 b eb) hw hl
    replace h : sX3_ownersOpenTo_7 v0 v2 w_f nw v3 v4 = some q1 := h
    unfold sX3_ownersOpenTo_7 at h
    refine r_iload E hl 4 rfl dX3_ownersOpenTo_7 ?_
    refine r_iconst E 4 dX3_ownersOpenTo_9 (by decide) ?_
    refine r_icmp_ge E 43 dX3_ownersOpenTo_10 (by decide) (fun hc => ?_) (fun hc => ?_)
    · replace h := ite_t hc h
      obtain ⟨ro2, h, hro2⟩ := oi_some h
      rw [hr1 _ hro2] at h
      refine r_iload_n E hl 3 rfl dX3_ownersOpenTo_43 rfl ?_
      obtain rfl := Option.some.inj h
      exact r_iret E hw dX3_ownersOpenTo_44
    · replace h := ite_f hc h
      refine r_aload_n E hl 1 rfl dX3_ownersOpenTo_13 rfl ?_
      refine r_iload_n E hl 2 rfl dX3_ownersOpenTo_14 rfl ?_
      refine r_iload E hl 4 rfl dX3_ownersOpenTo_15 ?_
      refine r_iload_n E hl 0 rfl dX3_ownersOpenTo_17 rfl ?_
      obtain ⟨y3, hy3, h⟩ := bd_some h
      refine r_callSN0i E hw (mX6_grantItem l Z _ v4 v0 hy3) E.2.2.2.2.1.2.1 kT_X6_grantItem kN_X6 kC_X6_grantItem rfl rfl hdX6_grantItem ⟨Nat.le_of_ble_eq_true rfl, Nat.le_of_ble_eq_true rfl⟩ rfl hl [.int v2, .ref (Aw 0)] rfl (Nat.le_of_ble_eq_true rfl) dX3_ownersOpenTo_18 ⟨Nat.zero_le _, Nat.zero_le _⟩ (fun H locs hw => ?_)
      refine r_iadd E dX3_ownersOpenTo_21 ?_
      obtain ⟨hg4, h⟩ := gd_some h
      refine r_iald E hw 0 rfl hg4 dX3_ownersOpenTo_22 ?_
      obtain ⟨y5, hy5, h⟩ := bd_some h
      refine r_callS0i E hw (mX0_state l Z _ (w_f (v2 + y3).toNatClampNeg) hy5) kL_X3_74 kT_X0_state kN_X0 kC_X0_state rfl rfl hdX0_state ⟨Nat.le_of_ble_eq_true rfl, Nat.le_of_ble_eq_true rfl⟩ rfl hl [] rfl (Nat.le_of_ble_eq_true rfl) dX3_ownersOpenTo_23 ⟨Nat.zero_le _, Nat.zero_le _⟩ (fun H locs hw => ?_)
      refine r_iconst E 1 dX3_ownersOpenTo_26 (by decide) ?_
      refine r_icmp_ne E 37 dX3_ownersOpenTo_27 (by decide) (fun hc => ?_) (fun hc => ?_)
      · replace h := ite_f hc h
        exact vX3_ownersOpenTo_37 E hb1 hr1 hw hl h
      · replace h := ite_t hc h
        refine r_iload_n E hl 3 rfl dX3_ownersOpenTo_30 rfl ?_
        refine r_iconst E 1 dX3_ownersOpenTo_31 (by decide) ?_
        refine r_iload E hl 4 rfl dX3_ownersOpenTo_32 ?_
        refine r_ishl E dX3_ownersOpenTo_34 ?_
        refine r_ior E dX3_ownersOpenTo_35 ?_
        obtain ⟨w7, hw7, h⟩ := nm_out h
        refine r_nm hw7 ?_
        refine r_istore_n E [(3, .int w7), (0, .int v0), (1, .ref (Aw 0)), (2, .int v2), (4, .int v4)] hl dX3_ownersOpenTo_36 rfl (by decide) rfl (fun ls hl => ?_)
        exact vX3_ownersOpenTo_37 E hb1 hr1 hw (lv_sub hl [1, 2, 3, 0, 4] rfl) h
set_option maxRecDepth 100000 in
set_option maxHeartbeats 4000000 in
theorem mX3_ownersOpenTo (l : Launch) (Z : zT) (sz : Nat) (Aw : Nat → Nat) (nw : Nat) (w_f : (Nat → Int32)) (v0 : Int32) (v2 : Int32) {res : Int32} (h : fX3_ownersOpenTo v0 v2 w_f nw = some res) : Met l yX3_ownersOpenTo (Cond.code yX3_ownersOpenTo cX3_ownersOpenTo 5 (some .int) :: zWs) rmX3_ownersOpenTo (zP Z (wAI Z Aw nw w_f) sz [.int v0, .ref (Aw 0), .int v2]) (zQi Z res (wAI Z Aw nw w_f) (va_A (wAI Z Aw nw w_f) sz)) 0 0 (va_A (wAI Z Aw nw w_f) sz) := by
  refine zMet (own := RX3) (fun A => zQi Z res (wAI Z Aw nw w_f) A) (by decide) rfl (Nat.le_of_ble_eq_true rfl) ?_
  intro p e s m args below meth c ls A E hw hl
  unfold fX3_ownersOpenTo at h
  refine r_iconst E 1 dX3_ownersOpenTo_0 (by decide) ?_
  refine r_iload_n E hl 0 rfl dX3_ownersOpenTo_1 rfl ?_
  refine r_ishl E dX3_ownersOpenTo_2 ?_
  obtain ⟨w1, hw1, h⟩ := nm_out h
  refine r_nm hw1 ?_
  refine r_istore_n E [(3, .int w1), (0, .int v0), (1, .ref (Aw 0)), (2, .int v2)] hl dX3_ownersOpenTo_3 rfl (by decide) rfl (fun ls hl => ?_)
  refine r_iconst E 0 dX3_ownersOpenTo_4 (by decide) ?_
  refine r_istore E [(4, .int (0 : Int32)), (3, .int w1), (0, .int v0), (1, .ref (Aw 0)), (2, .int v2)] hl dX3_ownersOpenTo_5 (by decide) rfl (fun ls hl => ?_)
  obtain ⟨n8, h⟩ := wh_some h
  exact tX3_ownersOpenTo_7 E  n8 _ _ _ _ _ h hw (lv_sub hl [2, 3, 4, 1, 0] rfl)
abbrev rmX3_entitlements : Room := { frames := 2, cells := 0, slots := 0, locals := 45 }

set_option maxRecDepth 100000 in
set_option maxHeartbeats 4000000 in
theorem mX3_entitlements (l : Launch) (Z : zT) (sz : Nat) (An : Nat → Nat) (n_nodes : Int32) (n_links : Int32) (n_tunnels : Int32) (n_messages : Int32) (n_areas : (Nat → Int32)) (n_firsts : (Nat → Int32)) (n_seconds : (Nat → Int32)) (n_privates : (Nat → Int32)) (n_entries : (Nat → Int32)) (n_exits : (Nat → Int32)) (n_truth : (Nat → Int32)) (n_facts : (Nat → Int32)) (n_news : (Nat → Int64)) (v1 : Int32) {res : Int32} (h : fX3_entitlements v1 n_truth = some res) : Met l yX3_entitlements (Cond.code yX3_entitlements cX3_entitlements 2 (some .int) :: zWs) rmX3_entitlements (zP Z (wX3 Z An n_nodes n_links n_tunnels n_messages n_areas n_firsts n_seconds n_privates n_entries n_exits n_truth n_facts n_news) sz [.ref (An 0), .int v1]) (zQi Z res (wX3 Z An n_nodes n_links n_tunnels n_messages n_areas n_firsts n_seconds n_privates n_entries n_exits n_truth n_facts n_news) (va_A (wX3 Z An n_nodes n_links n_tunnels n_messages n_areas n_firsts n_seconds n_privates n_entries n_exits n_truth n_facts n_news) sz)) 0 0 (va_A (wX3 Z An n_nodes n_links n_tunnels n_messages n_areas n_firsts n_seconds n_privates n_entries n_exits n_truth n_facts n_news) sz) := by
  refine zMet (own := RX3) (fun A => zQi Z res (wX3 Z An n_nodes n_links n_tunnels n_messages n_areas n_firsts n_seconds n_privates n_entries n_exits n_truth n_facts n_news) A) (by decide) rfl (Nat.le_of_ble_eq_true rfl) ?_
  intro p e s m args below meth c ls A E hw hl
  unfold fX3_entitlements at h
  refine r_iload_n E hl 1 rfl dX3_entitlements_0 rfl ?_
  refine r_aload_n E hl 0 rfl dX3_entitlements_1 rfl ?_
  refine r_get E kW_X3 hw 0 rfl rfl 10 (by decide) kF_X3_30 rfl dX3_entitlements_2 ?_
  refine r_iconst E 0 dX3_entitlements_5 (by decide) ?_
  obtain ⟨y1, hy1, h⟩ := bd_some h
  refine r_callSi E (wX3 Z An n_nodes n_links n_tunnels n_messages n_areas n_firsts n_seconds n_privates n_entries n_exits n_truth n_facts n_news) hw (mX3_ownersOpenTo l Z _ (fun _ => (An 7)) 35 n_truth v1 (0 : Int32) hy1) kL_X3_137 kT_X3_ownersOpenTo kN_X3 kC_X3_ownersOpenTo rfl rfl hdX3_ownersOpenTo ⟨Nat.le_of_ble_eq_true rfl, Nat.le_of_ble_eq_true rfl⟩ [7] [0, 1, 2, 3, 4, 5, 6, 8, 9] [0, 1, 2, 3, 4, 5, 6, 9, 7, 8] (by decide) rfl rfl (by decide) (by decide) (by decide) rfl rfl hl [] rfl (Nat.le_of_ble_eq_true rfl) dX3_entitlements_6 ⟨Nat.zero_le _, Nat.zero_le _⟩ (fun H locs hw => ?_)
  obtain rfl := Option.some.inj h
  exact r_iret E hw dX3_entitlements_9
abbrev rmX3_disclosures : Room := { frames := 2, cells := 0, slots := 0, locals := 45 }

set_option maxRecDepth 100000 in
set_option maxHeartbeats 4000000 in
theorem mX3_disclosures (l : Launch) (Z : zT) (sz : Nat) (An : Nat → Nat) (n_nodes : Int32) (n_links : Int32) (n_tunnels : Int32) (n_messages : Int32) (n_areas : (Nat → Int32)) (n_firsts : (Nat → Int32)) (n_seconds : (Nat → Int32)) (n_privates : (Nat → Int32)) (n_entries : (Nat → Int32)) (n_exits : (Nat → Int32)) (n_truth : (Nat → Int32)) (n_facts : (Nat → Int32)) (n_news : (Nat → Int64)) (v1 : Int32) (v2 : Int32) {res : Int32} (h : fX3_disclosures v1 v2 n_facts = some res) : Met l yX3_disclosures (Cond.code yX3_disclosures cX3_disclosures 3 (some .int) :: zWs) rmX3_disclosures (zP Z (wX3 Z An n_nodes n_links n_tunnels n_messages n_areas n_firsts n_seconds n_privates n_entries n_exits n_truth n_facts n_news) sz [.ref (An 0), .int v1, .int v2]) (zQi Z res (wX3 Z An n_nodes n_links n_tunnels n_messages n_areas n_firsts n_seconds n_privates n_entries n_exits n_truth n_facts n_news) (va_A (wX3 Z An n_nodes n_links n_tunnels n_messages n_areas n_firsts n_seconds n_privates n_entries n_exits n_truth n_facts n_news) sz)) 0 0 (va_A (wX3 Z An n_nodes n_links n_tunnels n_messages n_areas n_firsts n_seconds n_privates n_entries n_exits n_truth n_facts n_news) sz) := by
  refine zMet (own := RX3) (fun A => zQi Z res (wX3 Z An n_nodes n_links n_tunnels n_messages n_areas n_firsts n_seconds n_privates n_entries n_exits n_truth n_facts n_news) A) (by decide) rfl (Nat.le_of_ble_eq_true rfl) ?_
  intro p e s m args below meth c ls A E hw hl
  unfold fX3_disclosures at h
  refine r_iload_n E hl 2 rfl dX3_disclosures_0 rfl ?_
  refine r_aload_n E hl 0 rfl dX3_disclosures_1 rfl ?_
  refine r_get E kW_X3 hw 0 rfl rfl 11 (by decide) kF_X3_33 rfl dX3_disclosures_2 ?_
  refine r_iload_n E hl 1 rfl dX3_disclosures_5 rfl ?_
  refine r_iconst E 0 dX3_disclosures_6 (by decide) ?_
  obtain ⟨y1, hy1, h⟩ := bd_some h
  refine r_callSN0i E hw (mX6_place l Z _ v1 (0 : Int32) hy1) E.2.2.2.2.1.1 kT_X6_place kN_X6 kC_X6_place rfl rfl hdX6_place ⟨Nat.le_of_ble_eq_true rfl, Nat.le_of_ble_eq_true rfl⟩ rfl hl [.ref (An 8), .int v2] rfl (Nat.le_of_ble_eq_true rfl) dX3_disclosures_7 ⟨Nat.zero_le _, Nat.zero_le _⟩ (fun H locs hw => ?_)
  obtain ⟨y2, hy2, h⟩ := bd_some h
  refine r_callSi E (wX3 Z An n_nodes n_links n_tunnels n_messages n_areas n_firsts n_seconds n_privates n_entries n_exits n_truth n_facts n_news) hw (mX3_ownersOpenTo l Z _ (fun _ => (An 8)) 350 n_facts v2 y1 hy2) kL_X3_137 kT_X3_ownersOpenTo kN_X3 kC_X3_ownersOpenTo rfl rfl hdX3_ownersOpenTo ⟨Nat.le_of_ble_eq_true rfl, Nat.le_of_ble_eq_true rfl⟩ [8] [0, 1, 2, 3, 4, 5, 6, 7, 9] [0, 1, 2, 3, 4, 5, 6, 7, 9, 8] (by decide) rfl rfl (by decide) (by decide) (by decide) rfl rfl hl [] rfl (Nat.le_of_ble_eq_true rfl) dX3_disclosures_10 ⟨Nat.zero_le _, Nat.zero_le _⟩ (fun H locs hw => ?_)
  obtain rfl := Option.some.inj h
  exact r_iret E hw dX3_disclosures_13
abbrev rmX3_has : Room := { frames := 0, cells := 0, slots := 0, locals := 0 }

set_option maxRecDepth 100000 in
set_option maxHeartbeats 4000000 in
theorem mX3_has (l : Launch) (Z : zT) (sz : Nat)   (v0 : Int32) (v1 : Int32) {res : Int32} (h : fX3_has v0 v1 = some res) : Met l yX3_has (Cond.code yX3_has cX3_has 2 (some .boolean) :: zWs) rmX3_has (zP Z ([]) sz [.int v0, .int v1]) (zQi Z res ([]) (va_A ([]) sz)) 0 0 (va_A ([]) sz) := by
  refine zMet (own := RX3) (fun A => zQi Z res ([]) A) (by decide) rfl (Nat.le_of_ble_eq_true rfl) ?_
  intro p e s m args below meth c ls A E hw hl
  unfold fX3_has at h
  refine r_iload_n E hl 0 rfl dX3_has_0 rfl ?_
  refine r_iload_n E hl 1 rfl dX3_has_1 rfl ?_
  refine r_ishr E dX3_has_2 ?_
  refine r_iconst E 1 dX3_has_3 (by decide) ?_
  refine r_iand E dX3_has_4 ?_
  refine r_iconst E 1 dX3_has_5 (by decide) ?_
  refine r_icmp_ne E 13 dX3_has_6 (by decide) (fun hc => ?_) (fun hc => ?_)
  · replace h := ite_f hc h
    refine r_iconst E 0 dX3_has_13 (by decide) ?_
    obtain rfl := Option.some.inj h
    exact r_zret E bz_0 hw dX3_has_14
  · replace h := ite_t hc h
    refine r_iconst E 1 dX3_has_9 (by decide) ?_
    refine r_goto E 14 dX3_has_10 (by decide) ?_
    obtain rfl := Option.some.inj h
    exact r_zret E bz_1 hw dX3_has_14
abbrev rmX3_isNews : Room := { frames := 0, cells := 0, slots := 0, locals := 0 }

set_option maxRecDepth 100000 in
set_option maxHeartbeats 4000000 in
theorem mX3_isNews (l : Launch) (Z : zT) (sz : Nat) (An : Nat → Nat) (n_nodes : Int32) (n_links : Int32) (n_tunnels : Int32) (n_messages : Int32) (n_areas : (Nat → Int32)) (n_firsts : (Nat → Int32)) (n_seconds : (Nat → Int32)) (n_privates : (Nat → Int32)) (n_entries : (Nat → Int32)) (n_exits : (Nat → Int32)) (n_truth : (Nat → Int32)) (n_facts : (Nat → Int32)) (n_news : (Nat → Int64)) (v1 : Int32) (v2 : Int32) {res : Int32} (h : fX3_isNews v1 v2 n_news = some res) : Met l yX3_isNews (Cond.code yX3_isNews cX3_isNews 3 (some .boolean) :: zWs) rmX3_isNews (zP Z (wX3 Z An n_nodes n_links n_tunnels n_messages n_areas n_firsts n_seconds n_privates n_entries n_exits n_truth n_facts n_news) sz [.ref (An 0), .int v1, .int v2]) (zQi Z res (wX3 Z An n_nodes n_links n_tunnels n_messages n_areas n_firsts n_seconds n_privates n_entries n_exits n_truth n_facts n_news) (va_A (wX3 Z An n_nodes n_links n_tunnels n_messages n_areas n_firsts n_seconds n_privates n_entries n_exits n_truth n_facts n_news) sz)) 0 0 (va_A (wX3 Z An n_nodes n_links n_tunnels n_messages n_areas n_firsts n_seconds n_privates n_entries n_exits n_truth n_facts n_news) sz) := by
  refine zMet (own := RX3) (fun A => zQi Z res (wX3 Z An n_nodes n_links n_tunnels n_messages n_areas n_firsts n_seconds n_privates n_entries n_exits n_truth n_facts n_news) A) (by decide) rfl (Nat.le_of_ble_eq_true rfl) ?_
  intro p e s m args below meth c ls A E hw hl
  unfold fX3_isNews at h
  refine r_aload_n E hl 0 rfl dX3_isNews_0 rfl ?_
  refine r_get E kW_X3 hw 0 rfl rfl 12 (by decide) kF_X3_36 rfl dX3_isNews_1 ?_
  refine r_iload_n E hl 1 rfl dX3_isNews_4 rfl ?_
  obtain ⟨hg1, h⟩ := gd_some h
  refine r_lald E hw 9 rfl hg1 dX3_isNews_5 ?_
  refine r_iload_n E hl 2 rfl dX3_isNews_6 rfl ?_
  refine r_lshr E dX3_isNews_7 ?_
  refine r_lconst E 1 dX3_isNews_8 (by decide) ?_
  refine r_land E dX3_isNews_9 ?_
  refine r_lconst E 1 dX3_isNews_10 (by decide) ?_
  refine r_lcmp E dX3_isNews_11 ?_
  refine r_if_ne E 19 dX3_isNews_12 (by decide) (fun hc => ?_) (fun hc => ?_)
  · replace h := ite_f hc h
    refine r_iconst E 0 dX3_isNews_19 (by decide) ?_
    obtain rfl := Option.some.inj h
    exact r_zret E bz_0 hw dX3_isNews_20
  · replace h := ite_t hc h
    refine r_iconst E 1 dX3_isNews_15 (by decide) ?_
    refine r_goto E 20 dX3_isNews_16 (by decide) ?_
    obtain rfl := Option.some.inj h
    exact r_zret E bz_1 hw dX3_isNews_20
abbrev rmX3_isQuiet : Room := { frames := 0, cells := 0, slots := 0, locals := 0 }

set_option maxRecDepth 100000 in
set_option maxHeartbeats 4000000 in
theorem tX3_isQuiet_2 {Z : zT} {p : Program} {l : Launch} {e : Env} {s : State} {m : MethodId} {args : Array Value} {below : List Frame} {meth : Method} {c : Code} {A : Nat → Prop} (E : zE Z p s m args meth c RX3 cX3_isQuiet 2 (some .boolean) A) {An : Nat → Nat} {n_nodes : Int32} {n_links : Int32} {n_tunnels : Int32} {n_messages : Int32} {n_areas : (Nat → Int32)} {n_firsts : (Nat → Int32)} {n_seconds : (Nat → Int32)} {n_privates : (Nat → Int32)} {n_entries : (Nat → Int32)} {n_exits : (Nat → Int32)} {n_truth : (Nat → Int32)} {n_facts : (Nat → Int32)} {n_news : (Nat → Int64)} {res : Int32}  : ∀ (n : Nat) (v1 : Int32) (H : Heap) (locs : List Loc) (ls : Array Slot), iter (fun b : Int32 => sX3_isQuiet_2 n_nodes n_news b) n v1 = some res → zW Z A (wX3 Z An n_nodes n_links n_tunnels n_messages n_areas n_firsts n_seconds n_privates n_entries n_exits n_truth n_facts n_news) s.heap H locs → lv_has ls 2 [(0, .ref (An 0)), (1, .int v1)] → W p l e rmX3_isQuiet s m args below meth c H locs 0 0 (MQ below (zQi Z res (wX3 Z An n_nodes n_links n_tunnels n_messages n_areas n_firsts n_seconds n_privates n_entries n_exits n_truth n_facts n_news) A) args s 0 0 A) (F0 m 2 ls []) := by
  intro n
  induction n with
  | zero => intro v1 H locs ls h; cases h
  | succ n ih =>
    intro v1 H locs ls h hw hl
    obtain ⟨q1, h, hn1, hr1⟩ := iter_out h
    have hb1 : ∀ b : Int32, q1 = .inl b → ∀ (H : Heap) (locs : List Loc) (ls : Array Slot), zW Z A (wX3 Z An n_nodes n_links n_tunnels n_messages n_areas n_firsts n_seconds n_privates n_entries n_exits n_truth n_facts n_news) s.heap H locs → lv_has ls 2 [(0, .ref (An 0)), (1, .int b)] → W p l e rmX3_isQuiet s m args below meth c H locs 0 0 (MQ below (zQi Z res (wX3 Z An n_nodes n_links n_tunnels n_messages n_areas n_firsts n_seconds n_privates n_entries n_exits n_truth n_facts n_news) A) args s 0 0 A) (F0 m 2 ls []) := fun b eb H locs ls hw hl => ih b H locs ls (hn1 b eb) hw hl
    replace h : sX3_isQuiet_2 n_nodes n_news v1 = some q1 := h
    unfold sX3_isQuiet_2 at h
    refine r_iload_n E hl 1 rfl dX3_isQuiet_2 rfl ?_
    refine r_aload_n E hl 0 rfl dX3_isQuiet_3 rfl ?_
    refine r_get E kW_X3 hw 0 rfl rfl 0 (by decide) kF_X3_40 rfl dX3_isQuiet_4 ?_
    refine r_icmp_ge E 29 dX3_isQuiet_7 (by decide) (fun hc => ?_) (fun hc => ?_)
    · replace h := ite_t hc h
      obtain ⟨ro1, h, hro1⟩ := oi_some h
      rw [hr1 _ hro1] at h
      refine r_iconst E 1 dX3_isQuiet_29 (by decide) ?_
      obtain rfl := Option.some.inj h
      exact r_zret E bz_1 hw dX3_isQuiet_30
    · replace h := ite_f hc h
      refine r_aload_n E hl 0 rfl dX3_isQuiet_10 rfl ?_
      refine r_get E kW_X3 hw 0 rfl rfl 12 (by decide) kF_X3_36 rfl dX3_isQuiet_11 ?_
      refine r_iload_n E hl 1 rfl dX3_isQuiet_14 rfl ?_
      obtain ⟨hg2, h⟩ := gd_some h
      refine r_lald E hw 9 rfl hg2 dX3_isQuiet_15 ?_
      refine r_lconst E 0 dX3_isQuiet_16 (by decide) ?_
      refine r_lcmp E dX3_isQuiet_17 ?_
      refine r_if_eq E 23 dX3_isQuiet_18 (by decide) (fun hc => ?_) (fun hc => ?_)
      · replace h := ite_t hc h
        obtain ⟨w3, hw3, h⟩ := nm_out h
        refine r_iinc E w3 [(1, .int w3), (0, .ref (An 0))] hl (k := 1) rfl dX3_isQuiet_23 hw3.symm (by decide) rfl (fun ls hl => ?_)
        refine r_goto E 2 dX3_isQuiet_26 (by decide) ?_
        exact hb1 _ (Option.some.inj h).symm _ _ _ hw (lv_sub hl [1, 0] rfl)
      · replace h := ite_f hc h
        obtain ⟨ro4, h, hro4⟩ := oi_some h
        rw [hr1 _ hro4] at h
        refine r_iconst E 0 dX3_isQuiet_21 (by decide) ?_
        obtain rfl := Option.some.inj h
        exact r_zret E bz_0 hw dX3_isQuiet_22
set_option maxRecDepth 100000 in
set_option maxHeartbeats 4000000 in
theorem mX3_isQuiet (l : Launch) (Z : zT) (sz : Nat) (An : Nat → Nat) (n_nodes : Int32) (n_links : Int32) (n_tunnels : Int32) (n_messages : Int32) (n_areas : (Nat → Int32)) (n_firsts : (Nat → Int32)) (n_seconds : (Nat → Int32)) (n_privates : (Nat → Int32)) (n_entries : (Nat → Int32)) (n_exits : (Nat → Int32)) (n_truth : (Nat → Int32)) (n_facts : (Nat → Int32)) (n_news : (Nat → Int64))  {res : Int32} (h : fX3_isQuiet n_nodes n_news = some res) : Met l yX3_isQuiet (Cond.code yX3_isQuiet cX3_isQuiet 2 (some .boolean) :: zWs) rmX3_isQuiet (zP Z (wX3 Z An n_nodes n_links n_tunnels n_messages n_areas n_firsts n_seconds n_privates n_entries n_exits n_truth n_facts n_news) sz [.ref (An 0)]) (zQi Z res (wX3 Z An n_nodes n_links n_tunnels n_messages n_areas n_firsts n_seconds n_privates n_entries n_exits n_truth n_facts n_news) (va_A (wX3 Z An n_nodes n_links n_tunnels n_messages n_areas n_firsts n_seconds n_privates n_entries n_exits n_truth n_facts n_news) sz)) 0 0 (va_A (wX3 Z An n_nodes n_links n_tunnels n_messages n_areas n_firsts n_seconds n_privates n_entries n_exits n_truth n_facts n_news) sz) := by
  refine zMet (own := RX3) (fun A => zQi Z res (wX3 Z An n_nodes n_links n_tunnels n_messages n_areas n_firsts n_seconds n_privates n_entries n_exits n_truth n_facts n_news) A) (by decide) rfl (Nat.le_of_ble_eq_true rfl) ?_
  intro p e s m args below meth c ls A E hw hl
  unfold fX3_isQuiet at h
  refine r_iconst E 0 dX3_isQuiet_0 (by decide) ?_
  refine r_istore_n E [(1, .int (0 : Int32)), (0, .ref (An 0))] hl dX3_isQuiet_1 rfl (by decide) rfl (fun ls hl => ?_)
  obtain ⟨n5, h⟩ := wh_some h
  exact tX3_isQuiet_2 E  n5 _ _ _ _ h hw (lv_sub hl [1, 0] rfl)
abbrev rmX3_countGrants : Room := { frames := 1, cells := 0, slots := 0, locals := 20 }

set_option maxRecDepth 100000 in
set_option maxHeartbeats 4000000 in
theorem tX3_countGrants_4 {Z : zT} {p : Program} {l : Launch} {e : Env} {s : State} {m : MethodId} {args : Array Value} {below : List Frame} {meth : Method} {c : Code} {A : Nat → Prop} (E : zE Z p s m args meth c RX3 cX3_countGrants 3 (some .int) A) {An : Nat → Nat} {n_nodes : Int32} {n_links : Int32} {n_tunnels : Int32} {n_messages : Int32} {n_areas : (Nat → Int32)} {n_firsts : (Nat → Int32)} {n_seconds : (Nat → Int32)} {n_privates : (Nat → Int32)} {n_entries : (Nat → Int32)} {n_exits : (Nat → Int32)} {n_truth : (Nat → Int32)} {n_facts : (Nat → Int32)} {n_news : (Nat → Int64)} {res : Int32}  : ∀ (n : Nat) (v1 : Int32) (v2 : Int32) (H : Heap) (locs : List Loc) (ls : Array Slot), iter (fun b : Int32 × Int32 => sX3_countGrants_4 n_truth b.1 b.2) n (v1, v2) = some res → zW Z A (wX3 Z An n_nodes n_links n_tunnels n_messages n_areas n_firsts n_seconds n_privates n_entries n_exits n_truth n_facts n_news) s.heap H locs → lv_has ls 3 [(0, .ref (An 0)), (1, .int v1), (2, .int v2)] → W p l e rmX3_countGrants s m args below meth c H locs 0 0 (MQ below (zQi Z res (wX3 Z An n_nodes n_links n_tunnels n_messages n_areas n_firsts n_seconds n_privates n_entries n_exits n_truth n_facts n_news) A) args s 0 0 A) (F0 m 4 ls []) := by
  intro n
  induction n with
  | zero => intro v1 v2 H locs ls h; cases h
  | succ n ih =>
    intro v1 v2 H locs ls h hw hl
    obtain ⟨q1, h, hn1, hr1⟩ := iter_out h
    have hb1 : ∀ b : Int32 × Int32, q1 = .inl b → ∀ (H : Heap) (locs : List Loc) (ls : Array Slot), zW Z A (wX3 Z An n_nodes n_links n_tunnels n_messages n_areas n_firsts n_seconds n_privates n_entries n_exits n_truth n_facts n_news) s.heap H locs → lv_has ls 3 [(0, .ref (An 0)), (1, .int b.1), (2, .int b.2)] → W p l e rmX3_countGrants s m args below meth c H locs 0 0 (MQ below (zQi Z res (wX3 Z An n_nodes n_links n_tunnels n_messages n_areas n_firsts n_seconds n_privates n_entries n_exits n_truth n_facts n_news) A) args s 0 0 A) (F0 m 4 ls []) := fun b eb H locs ls hw hl => ih b.1 b.2 H locs ls (hn1 b eb) hw hl
    replace h : sX3_countGrants_4 n_truth v1 v2 = some q1 := h
    unfold sX3_countGrants_4 at h
    refine r_iload_n E hl 2 rfl dX3_countGrants_4 rfl ?_
    refine r_bipush E 16 dX3_countGrants_5 (by decide) ?_
    refine r_icmp_ge E 28 dX3_countGrants_7 (by decide) (fun hc => ?_) (fun hc => ?_)
    · replace h := ite_t hc h
      obtain ⟨ro1, h, hro1⟩ := oi_some h
      rw [hr1 _ hro1] at h
      refine r_iload_n E hl 1 rfl dX3_countGrants_28 rfl ?_
      obtain rfl := Option.some.inj h
      exact r_iret E hw dX3_countGrants_29
    · replace h := ite_f hc h
      refine r_iload_n E hl 1 rfl dX3_countGrants_10 rfl ?_
      refine r_aload_n E hl 0 rfl dX3_countGrants_11 rfl ?_
      refine r_get E kW_X3 hw 0 rfl rfl 10 (by decide) kF_X3_30 rfl dX3_countGrants_12 ?_
      refine r_iload_n E hl 2 rfl dX3_countGrants_15 rfl ?_
      obtain ⟨hg2, h⟩ := gd_some h
      refine r_iald E hw 7 rfl hg2 dX3_countGrants_16 ?_
      obtain ⟨y3, hy3, h⟩ := bd_some h
      refine r_callS0i E hw (mX0_state l Z _ (n_truth (v2).toNatClampNeg) hy3) kL_X3_74 kT_X0_state kN_X0 kC_X0_state rfl rfl hdX0_state ⟨Nat.le_of_ble_eq_true rfl, Nat.le_of_ble_eq_true rfl⟩ rfl hl [.int v1] rfl (Nat.le_of_ble_eq_true rfl) dX3_countGrants_17 ⟨Nat.zero_le _, Nat.zero_le _⟩ (fun H locs hw => ?_)
      refine r_iadd E dX3_countGrants_20 ?_
      obtain ⟨w4, hw4, h⟩ := nm_out h
      refine r_nm hw4 ?_
      refine r_istore_n E [(1, .int w4), (0, .ref (An 0)), (2, .int v2)] hl dX3_countGrants_21 rfl (by decide) rfl (fun ls hl => ?_)
      obtain ⟨w5, hw5, h⟩ := nm_out h
      refine r_iinc E w5 [(2, .int w5), (1, .int w4), (0, .ref (An 0))] hl (k := 2) rfl dX3_countGrants_22 hw5.symm (by decide) rfl (fun ls hl => ?_)
      refine r_goto E 4 dX3_countGrants_25 (by decide) ?_
      exact hb1 _ (Option.some.inj h).symm _ _ _ hw (lv_sub hl [2, 1, 0] rfl)
set_option maxRecDepth 100000 in
set_option maxHeartbeats 4000000 in
theorem mX3_countGrants (l : Launch) (Z : zT) (sz : Nat) (An : Nat → Nat) (n_nodes : Int32) (n_links : Int32) (n_tunnels : Int32) (n_messages : Int32) (n_areas : (Nat → Int32)) (n_firsts : (Nat → Int32)) (n_seconds : (Nat → Int32)) (n_privates : (Nat → Int32)) (n_entries : (Nat → Int32)) (n_exits : (Nat → Int32)) (n_truth : (Nat → Int32)) (n_facts : (Nat → Int32)) (n_news : (Nat → Int64))  {res : Int32} (h : fX3_countGrants n_truth = some res) : Met l yX3_countGrants (Cond.code yX3_countGrants cX3_countGrants 3 (some .int) :: zWs) rmX3_countGrants (zP Z (wX3 Z An n_nodes n_links n_tunnels n_messages n_areas n_firsts n_seconds n_privates n_entries n_exits n_truth n_facts n_news) sz [.ref (An 0)]) (zQi Z res (wX3 Z An n_nodes n_links n_tunnels n_messages n_areas n_firsts n_seconds n_privates n_entries n_exits n_truth n_facts n_news) (va_A (wX3 Z An n_nodes n_links n_tunnels n_messages n_areas n_firsts n_seconds n_privates n_entries n_exits n_truth n_facts n_news) sz)) 0 0 (va_A (wX3 Z An n_nodes n_links n_tunnels n_messages n_areas n_firsts n_seconds n_privates n_entries n_exits n_truth n_facts n_news) sz) := by
  refine zMet (own := RX3) (fun A => zQi Z res (wX3 Z An n_nodes n_links n_tunnels n_messages n_areas n_firsts n_seconds n_privates n_entries n_exits n_truth n_facts n_news) A) (by decide) rfl (Nat.le_of_ble_eq_true rfl) ?_
  intro p e s m args below meth c ls A E hw hl
  unfold fX3_countGrants at h
  refine r_iconst E 0 dX3_countGrants_0 (by decide) ?_
  refine r_istore_n E [(1, .int (0 : Int32)), (0, .ref (An 0))] hl dX3_countGrants_1 rfl (by decide) rfl (fun ls hl => ?_)
  refine r_iconst E 0 dX3_countGrants_2 (by decide) ?_
  refine r_istore_n E [(2, .int (0 : Int32)), (1, .int (0 : Int32)), (0, .ref (An 0))] hl dX3_countGrants_3 rfl (by decide) rfl (fun ls hl => ?_)
  obtain ⟨n6, h⟩ := wh_some h
  exact tX3_countGrants_4 E  n6 _ _ _ _ _ h hw (lv_sub hl [2, 1, 0] rfl)
abbrev rmX3_countFacts : Room := { frames := 1, cells := 0, slots := 0, locals := 21 }

set_option maxRecDepth 100000 in
set_option maxHeartbeats 4000000 in
theorem vX3_countFacts_26 {Z : zT} {p : Program} {l : Launch} {e : Env} {s : State} {m : MethodId} {args : Array Value} {below : List Frame} {meth : Method} {c : Code} {A : Nat → Prop} (E : zE Z p s m args meth c RX3 cX3_countFacts 4 (some .int) A) {An : Nat → Nat} {v1 : Int32} {v2 : Int32} {v3 : Int32} {n_nodes : Int32} {n_links : Int32} {n_tunnels : Int32} {n_messages : Int32} {n_areas : (Nat → Int32)} {n_firsts : (Nat → Int32)} {n_seconds : (Nat → Int32)} {n_privates : (Nat → Int32)} {n_entries : (Nat → Int32)} {n_exits : (Nat → Int32)} {n_truth : (Nat → Int32)} {n_facts : (Nat → Int32)} {n_news : (Nat → Int64)} {res : Int32} {q1 : (Int32 × Int32) ⊕ (Int32)} (hb1 : ∀ b : Int32 × Int32, q1 = .inl b → ∀ (H : Heap) (locs : List Loc) (ls : Array Slot), zW Z A (wX3 Z An n_nodes n_links n_tunnels n_messages n_areas n_firsts n_seconds n_privates n_entries n_exits n_truth n_facts n_news) s.heap H locs → lv_has ls 4 [(0, .ref (An 0)), (1, .int v1), (2, .int b.1), (3, .int b.2)] → W p l e rmX3_countFacts s m args below meth c H locs 0 0 (MQ below (zQi Z res (wX3 Z An n_nodes n_links n_tunnels n_messages n_areas n_firsts n_seconds n_privates n_entries n_exits n_truth n_facts n_news) A) args s 0 0 A) (F0 m 4 ls [])) (hr1 : ∀ r' , q1 = .inr r' → r' = res) {H : Heap} {locs : List Loc} {ls : Array Slot} (hw : zW Z A (wX3 Z An n_nodes n_links n_tunnels n_messages n_areas n_firsts n_seconds n_privates n_entries n_exits n_truth n_facts n_news) s.heap H locs) (hl : lv_has ls 4 [(0, .ref (An 0)), (1, .int v1), (2, .int v2), (3, .int v3)]) (h : uX3_countFacts_26 v2 v3 = some q1) : W p l e rmX3_countFacts s m args below meth c H locs 0 0 (MQ below (zQi Z res (wX3 Z An n_nodes n_links n_tunnels n_messages n_areas n_firsts n_seconds n_privates n_entries n_exits n_truth n_facts n_news) A) args s 0 0 A) (F0 m 26 ls []) := by
  unfold uX3_countFacts_26 at h
  obtain ⟨w4, hw4, h⟩ := nm_out h
  refine r_iinc E w4 [(3, .int w4), (0, .ref (An 0)), (1, .int v1), (2, .int v2)] hl (k := 3) rfl dX3_countFacts_26 hw4.symm (by decide) rfl (fun ls hl => ?_)
  refine r_goto E 4 dX3_countFacts_29 (by decide) ?_
  exact hb1 _ (Option.some.inj h).symm _ _ _ hw (lv_sub hl [1, 2, 3, 0] rfl)
set_option maxRecDepth 100000 in
set_option maxHeartbeats 4000000 in
theorem tX3_countFacts_4 {Z : zT} {p : Program} {l : Launch} {e : Env} {s : State} {m : MethodId} {args : Array Value} {below : List Frame} {meth : Method} {c : Code} {A : Nat → Prop} (E : zE Z p s m args meth c RX3 cX3_countFacts 4 (some .int) A) {An : Nat → Nat} {v1 : Int32} {n_nodes : Int32} {n_links : Int32} {n_tunnels : Int32} {n_messages : Int32} {n_areas : (Nat → Int32)} {n_firsts : (Nat → Int32)} {n_seconds : (Nat → Int32)} {n_privates : (Nat → Int32)} {n_entries : (Nat → Int32)} {n_exits : (Nat → Int32)} {n_truth : (Nat → Int32)} {n_facts : (Nat → Int32)} {n_news : (Nat → Int64)} {res : Int32}  : ∀ (n : Nat) (v2 : Int32) (v3 : Int32) (H : Heap) (locs : List Loc) (ls : Array Slot), iter (fun b : Int32 × Int32 => sX3_countFacts_4 v1 n_facts b.1 b.2) n (v2, v3) = some res → zW Z A (wX3 Z An n_nodes n_links n_tunnels n_messages n_areas n_firsts n_seconds n_privates n_entries n_exits n_truth n_facts n_news) s.heap H locs → lv_has ls 4 [(0, .ref (An 0)), (1, .int v1), (2, .int v2), (3, .int v3)] → W p l e rmX3_countFacts s m args below meth c H locs 0 0 (MQ below (zQi Z res (wX3 Z An n_nodes n_links n_tunnels n_messages n_areas n_firsts n_seconds n_privates n_entries n_exits n_truth n_facts n_news) A) args s 0 0 A) (F0 m 4 ls []) := by
  intro n
  induction n with
  | zero => intro v2 v3 H locs ls h; cases h
  | succ n ih =>
    intro v2 v3 H locs ls h hw hl
    obtain ⟨q1, h, hn1, hr1⟩ := iter_out h
    have hb1 : ∀ b : Int32 × Int32, q1 = .inl b → ∀ (H : Heap) (locs : List Loc) (ls : Array Slot), zW Z A (wX3 Z An n_nodes n_links n_tunnels n_messages n_areas n_firsts n_seconds n_privates n_entries n_exits n_truth n_facts n_news) s.heap H locs → lv_has ls 4 [(0, .ref (An 0)), (1, .int v1), (2, .int b.1), (3, .int b.2)] → W p l e rmX3_countFacts s m args below meth c H locs 0 0 (MQ below (zQi Z res (wX3 Z An n_nodes n_links n_tunnels n_messages n_areas n_firsts n_seconds n_privates n_entries n_exits n_truth n_facts n_news) A) args s 0 0 A) (F0 m 4 ls []) := fun b eb H locs ls hw hl => ih b.1 b.2 H locs ls (hn1 b eb) hw hl
    replace h : sX3_countFacts_4 v1 n_facts v2 v3 = some q1 := h
    unfold sX3_countFacts_4 at h
    refine r_iload_n E hl 3 rfl dX3_countFacts_4 rfl ?_
    refine r_bipush E 35 dX3_countFacts_5 (by decide) ?_
    refine r_icmp_ge E 32 dX3_countFacts_7 (by decide) (fun hc => ?_) (fun hc => ?_)
    · replace h := ite_t hc h
      obtain ⟨ro1, h, hro1⟩ := oi_some h
      rw [hr1 _ hro1] at h
      refine r_iload_n E hl 2 rfl dX3_countFacts_32 rfl ?_
      obtain rfl := Option.some.inj h
      exact r_iret E hw dX3_countFacts_33
    · replace h := ite_f hc h
      refine r_aload_n E hl 0 rfl dX3_countFacts_10 rfl ?_
      refine r_get E kW_X3 hw 0 rfl rfl 11 (by decide) kF_X3_33 rfl dX3_countFacts_11 ?_
      refine r_iload_n E hl 1 rfl dX3_countFacts_14 rfl ?_
      refine r_iload_n E hl 3 rfl dX3_countFacts_15 rfl ?_
      obtain ⟨y2, hy2, h⟩ := bd_some h
      refine r_callSN0i E hw (mX6_place l Z _ v1 v3 hy2) E.2.2.2.2.1.1 kT_X6_place kN_X6 kC_X6_place rfl rfl hdX6_place ⟨Nat.le_of_ble_eq_true rfl, Nat.le_of_ble_eq_true rfl⟩ rfl hl [.ref (An 8)] rfl (Nat.le_of_ble_eq_true rfl) dX3_countFacts_16 ⟨Nat.zero_le _, Nat.zero_le _⟩ (fun H locs hw => ?_)
      obtain ⟨hg3, h⟩ := gd_some h
      refine r_iald E hw 8 rfl hg3 dX3_countFacts_19 ?_
      refine r_if_eq E 26 dX3_countFacts_20 (by decide) (fun hc => ?_) (fun hc => ?_)
      · replace h := ite_t hc h
        exact vX3_countFacts_26 E hb1 hr1 hw hl h
      · replace h := ite_f hc h
        obtain ⟨w5, hw5, h⟩ := nm_out h
        refine r_iinc E w5 [(2, .int w5), (0, .ref (An 0)), (1, .int v1), (3, .int v3)] hl (k := 2) rfl dX3_countFacts_23 hw5.symm (by decide) rfl (fun ls hl => ?_)
        exact vX3_countFacts_26 E hb1 hr1 hw (lv_sub hl [1, 2, 0, 3] rfl) h
set_option maxRecDepth 100000 in
set_option maxHeartbeats 4000000 in
theorem mX3_countFacts (l : Launch) (Z : zT) (sz : Nat) (An : Nat → Nat) (n_nodes : Int32) (n_links : Int32) (n_tunnels : Int32) (n_messages : Int32) (n_areas : (Nat → Int32)) (n_firsts : (Nat → Int32)) (n_seconds : (Nat → Int32)) (n_privates : (Nat → Int32)) (n_entries : (Nat → Int32)) (n_exits : (Nat → Int32)) (n_truth : (Nat → Int32)) (n_facts : (Nat → Int32)) (n_news : (Nat → Int64)) (v1 : Int32) {res : Int32} (h : fX3_countFacts v1 n_facts = some res) : Met l yX3_countFacts (Cond.code yX3_countFacts cX3_countFacts 4 (some .int) :: zWs) rmX3_countFacts (zP Z (wX3 Z An n_nodes n_links n_tunnels n_messages n_areas n_firsts n_seconds n_privates n_entries n_exits n_truth n_facts n_news) sz [.ref (An 0), .int v1]) (zQi Z res (wX3 Z An n_nodes n_links n_tunnels n_messages n_areas n_firsts n_seconds n_privates n_entries n_exits n_truth n_facts n_news) (va_A (wX3 Z An n_nodes n_links n_tunnels n_messages n_areas n_firsts n_seconds n_privates n_entries n_exits n_truth n_facts n_news) sz)) 0 0 (va_A (wX3 Z An n_nodes n_links n_tunnels n_messages n_areas n_firsts n_seconds n_privates n_entries n_exits n_truth n_facts n_news) sz) := by
  refine zMet (own := RX3) (fun A => zQi Z res (wX3 Z An n_nodes n_links n_tunnels n_messages n_areas n_firsts n_seconds n_privates n_entries n_exits n_truth n_facts n_news) A) (by decide) rfl (Nat.le_of_ble_eq_true rfl) ?_
  intro p e s m args below meth c ls A E hw hl
  unfold fX3_countFacts at h
  refine r_iconst E 0 dX3_countFacts_0 (by decide) ?_
  refine r_istore_n E [(2, .int (0 : Int32)), (0, .ref (An 0)), (1, .int v1)] hl dX3_countFacts_1 rfl (by decide) rfl (fun ls hl => ?_)
  refine r_iconst E 0 dX3_countFacts_2 (by decide) ?_
  refine r_istore_n E [(3, .int (0 : Int32)), (2, .int (0 : Int32)), (0, .ref (An 0)), (1, .int v1)] hl dX3_countFacts_3 rfl (by decide) rfl (fun ls hl => ?_)
  obtain ⟨n6, h⟩ := wh_some h
  exact tX3_countFacts_4 E  n6 _ _ _ _ _ h hw (lv_sub hl [2, 3, 1, 0] rfl)
abbrev rmX3_isHidden : Room := { frames := 3, cells := 0, slots := 0, locals := 66 }

set_option maxRecDepth 100000 in
set_option maxHeartbeats 4000000 in
theorem mX3_isHidden (l : Launch) (Z : zT) (sz : Nat) (An : Nat → Nat) (n_nodes : Int32) (n_links : Int32) (n_tunnels : Int32) (n_messages : Int32) (n_areas : (Nat → Int32)) (n_firsts : (Nat → Int32)) (n_seconds : (Nat → Int32)) (n_privates : (Nat → Int32)) (n_entries : (Nat → Int32)) (n_exits : (Nat → Int32)) (n_truth : (Nat → Int32)) (n_facts : (Nat → Int32)) (n_news : (Nat → Int64)) (v1 : Int32) (v2 : Int32) {res : Int32} (h : fX3_isHidden v1 v2 n_areas n_firsts n_seconds n_privates n_truth = some res) : Met l yX3_isHidden (Cond.code yX3_isHidden cX3_isHidden 4 (some .boolean) :: zWs) rmX3_isHidden (zP Z (wX3 Z An n_nodes n_links n_tunnels n_messages n_areas n_firsts n_seconds n_privates n_entries n_exits n_truth n_facts n_news) sz [.ref (An 0), .int v1, .int v2]) (zQi Z res (wX3 Z An n_nodes n_links n_tunnels n_messages n_areas n_firsts n_seconds n_privates n_entries n_exits n_truth n_facts n_news) (va_A (wX3 Z An n_nodes n_links n_tunnels n_messages n_areas n_firsts n_seconds n_privates n_entries n_exits n_truth n_facts n_news) sz)) 0 0 (va_A (wX3 Z An n_nodes n_links n_tunnels n_messages n_areas n_firsts n_seconds n_privates n_entries n_exits n_truth n_facts n_news) sz) := by
  refine zMet (own := RX3) (fun A => zQi Z res (wX3 Z An n_nodes n_links n_tunnels n_messages n_areas n_firsts n_seconds n_privates n_entries n_exits n_truth n_facts n_news) A) (by decide) rfl (Nat.le_of_ble_eq_true rfl) ?_
  intro p e s m args below meth c ls A E hw hl
  unfold fX3_isHidden at h
  refine r_aload_n E hl 0 rfl dX3_isHidden_0 rfl ?_
  refine r_iload_n E hl 2 rfl dX3_isHidden_1 rfl ?_
  obtain ⟨y1, hy1, h⟩ := bd_some h
  refine r_callVAi E hw (mX3_isPrivateLink l Z _ An n_nodes n_links n_tunnels n_messages n_areas n_firsts n_seconds n_privates n_entries n_exits n_truth n_facts n_news v2 hy1) kL_X3_122 kI_X3_isPrivateLink kS_X3_isPrivateLink kN_X3 kC_X3_isPrivateLink rfl rfl hdX3_isPrivateLink ⟨Nat.le_of_ble_eq_true rfl, Nat.le_of_ble_eq_true rfl⟩ 0 rfl rfl rfl rfl hl [] rfl (Nat.le_of_ble_eq_true rfl) dX3_isHidden_2 ⟨Nat.zero_le _, Nat.zero_le _⟩ (fun H locs hw => ?_)
  refine r_if_ne E 10 dX3_isHidden_5 (by decide) (fun hc => ?_) (fun hc => ?_)
  · replace h := ite_f hc h
    refine r_iload_n E hl 2 rfl dX3_isHidden_10 rfl ?_
    refine r_bipush E 16 dX3_isHidden_11 (by decide) ?_
    refine r_isub E dX3_isHidden_13 ?_
    obtain ⟨w2, hw2, h⟩ := nm_out h
    refine r_nm hw2 ?_
    refine r_istore_n E [(3, .int w2), (0, .ref (An 0)), (1, .int v1), (2, .int v2)] hl dX3_isHidden_14 rfl (by decide) rfl (fun ls hl => ?_)
    refine r_aload_n E hl 1 rfl dX3_isHidden_15 rfl ?_
    refine r_iload_n E hl 2 rfl dX3_isHidden_16 rfl ?_
    refine r_iload_n E hl 0 rfl dX3_isHidden_17 rfl ?_
    obtain ⟨y3, hy3, h⟩ := bd_some h
    refine r_callVAi E hw (mX3_isEnd l Z _ An n_nodes n_links n_tunnels n_messages n_areas n_firsts n_seconds n_privates n_entries n_exits n_truth n_facts n_news v1 w2 hy3) kL_X3_129 kI_X3_isEnd kS_X3_isEnd kN_X3 kC_X3_isEnd rfl rfl hdX3_isEnd ⟨Nat.le_of_ble_eq_true rfl, Nat.le_of_ble_eq_true rfl⟩ 0 rfl rfl rfl rfl hl [] rfl (Nat.le_of_ble_eq_true rfl) dX3_isHidden_18 ⟨Nat.zero_le _, Nat.zero_le _⟩ (fun H locs hw => ?_)
    refine r_if_ne E 49 dX3_isHidden_21 (by decide) (fun hc => ?_) (fun hc => ?_)
    · replace h := ite_f hc h
      refine r_iconst E 0 dX3_isHidden_49 (by decide) ?_
      obtain rfl := Option.some.inj h
      exact r_zret E bz_0 hw dX3_isHidden_50
    · replace h := ite_t hc h
      refine r_aload_n E hl 1 rfl dX3_isHidden_24 rfl ?_
      refine r_aload_n E hl 1 rfl dX3_isHidden_25 rfl ?_
      refine r_get E kW_X3 hw 0 rfl rfl 4 (by decide) kF_X3_9 rfl dX3_isHidden_26 ?_
      refine r_iload_n E hl 2 rfl dX3_isHidden_29 rfl ?_
      obtain ⟨hg4, h⟩ := gd_some h
      refine r_iald E hw 1 rfl hg4 dX3_isHidden_30 ?_
      obtain ⟨y5, hy5, h⟩ := bd_some h
      refine r_callVAi E hw (mX3_entitlements l Z _ An n_nodes n_links n_tunnels n_messages n_areas n_firsts n_seconds n_privates n_entries n_exits n_truth n_facts n_news (n_areas (v1).toNatClampNeg) hy5) kL_X3_144 kI_X3_entitlements kS_X3_entitlements kN_X3 kC_X3_entitlements rfl rfl hdX3_entitlements ⟨Nat.le_of_ble_eq_true rfl, Nat.le_of_ble_eq_true rfl⟩ 0 rfl rfl rfl rfl hl [] rfl (Nat.le_of_ble_eq_true rfl) dX3_isHidden_31 ⟨Nat.zero_le _, Nat.zero_le _⟩ (fun H locs hw => ?_)
      refine r_aload_n E hl 1 rfl dX3_isHidden_34 rfl ?_
      refine r_iload_n E hl 0 rfl dX3_isHidden_35 rfl ?_
      obtain ⟨y6, hy6, h⟩ := bd_some h
      refine r_callVAi E hw (mX3_owner l Z _ An n_nodes n_links n_tunnels n_messages n_areas n_firsts n_seconds n_privates n_entries n_exits n_truth n_facts n_news w2 hy6) kL_X3_126 kI_X3_owner kS_X3_owner kN_X3 kC_X3_owner rfl rfl hdX3_owner ⟨Nat.le_of_ble_eq_true rfl, Nat.le_of_ble_eq_true rfl⟩ 0 rfl rfl rfl rfl hl [.int y5] rfl (Nat.le_of_ble_eq_true rfl) dX3_isHidden_36 ⟨Nat.zero_le _, Nat.zero_le _⟩ (fun H locs hw => ?_)
      obtain ⟨y7, hy7, h⟩ := bd_some h
      refine r_callS0i E hw (mX3_has l Z _ y5 y6 hy7) kL_X3_147 kT_X3_has kN_X3 kC_X3_has rfl rfl hdX3_has ⟨Nat.le_of_ble_eq_true rfl, Nat.le_of_ble_eq_true rfl⟩ rfl hl [] rfl (Nat.le_of_ble_eq_true rfl) dX3_isHidden_39 ⟨Nat.zero_le _, Nat.zero_le _⟩ (fun H locs hw => ?_)
      refine r_if_ne E 49 dX3_isHidden_42 (by decide) (fun hc => ?_) (fun hc => ?_)
      · replace h := ite_f hc h
        refine r_iconst E 0 dX3_isHidden_49 (by decide) ?_
        obtain rfl := Option.some.inj h
        exact r_zret E bz_0 hw dX3_isHidden_50
      · replace h := ite_t hc h
        refine r_iconst E 1 dX3_isHidden_45 (by decide) ?_
        refine r_goto E 50 dX3_isHidden_46 (by decide) ?_
        obtain rfl := Option.some.inj h
        exact r_zret E bz_1 hw dX3_isHidden_50
  · replace h := ite_t hc h
    refine r_iconst E 0 dX3_isHidden_8 (by decide) ?_
    obtain rfl := Option.some.inj h
    exact r_zret E bz_0 hw dX3_isHidden_9
abbrev rmX3_countBehind : Room := { frames := 4, cells := 0, slots := 0, locals := 89 }

set_option maxRecDepth 100000 in
set_option maxHeartbeats 4000000 in
theorem vX3_countBehind_59 {Z : zT} {p : Program} {l : Launch} {e : Env} {s : State} {m : MethodId} {args : Array Value} {below : List Frame} {meth : Method} {c : Code} {A : Nat → Prop} (E : zE Z p s m args meth c RX3 cX3_countBehind 5 (some .int) A) {An : Nat → Nat} {v1 : Int32} {v2 : Int32} {v3 : Int32} {n_nodes : Int32} {n_links : Int32} {n_tunnels : Int32} {n_messages : Int32} {n_areas : (Nat → Int32)} {n_firsts : (Nat → Int32)} {n_seconds : (Nat → Int32)} {n_privates : (Nat → Int32)} {n_entries : (Nat → Int32)} {n_exits : (Nat → Int32)} {n_truth : (Nat → Int32)} {n_facts : (Nat → Int32)} {n_news : (Nat → Int64)} {res : Int32} {q1 : (Int32 × Int32) ⊕ (Int32)} (hb1 : ∀ b : Int32 × Int32, q1 = .inl b → ∀ (H : Heap) (locs : List Loc) (ls : Array Slot), zW Z A (wX3 Z An n_nodes n_links n_tunnels n_messages n_areas n_firsts n_seconds n_privates n_entries n_exits n_truth n_facts n_news) s.heap H locs → lv_has ls 5 [(0, .ref (An 0)), (1, .int v1), (2, .int b.1), (3, .int b.2)] → W p l e rmX3_countBehind s m args below meth c H locs 0 0 (MQ below (zQi Z res (wX3 Z An n_nodes n_links n_tunnels n_messages n_areas n_firsts n_seconds n_privates n_entries n_exits n_truth n_facts n_news) A) args s 0 0 A) (F0 m 4 ls [])) (hr1 : ∀ r' , q1 = .inr r' → r' = res) {H : Heap} {locs : List Loc} {ls : Array Slot} (hw : zW Z A (wX3 Z An n_nodes n_links n_tunnels n_messages n_areas n_firsts n_seconds n_privates n_entries n_exits n_truth n_facts n_news) s.heap H locs) (hl : lv_has ls 5 [(0, .ref (An 0)), (1, .int v1), (2, .int v2), (3, .int v3)]) (h : uX3_countBehind_59 v2 v3 = some q1) : W p l e rmX3_countBehind s m args below meth c H locs 0 0 (MQ below (zQi Z res (wX3 Z An n_nodes n_links n_tunnels n_messages n_areas n_firsts n_seconds n_privates n_entries n_exits n_truth n_facts n_news) A) args s 0 0 A) (F0 m 59 ls []) := by
  unfold uX3_countBehind_59 at h
  obtain ⟨w7, hw7, h⟩ := nm_out h
  refine r_iinc E w7 [(3, .int w7), (0, .ref (An 0)), (1, .int v1), (2, .int v2)] hl (k := 3) rfl dX3_countBehind_59 hw7.symm (by decide) rfl (fun ls hl => ?_)
  refine r_goto E 4 dX3_countBehind_62 (by decide) ?_
  exact hb1 _ (Option.some.inj h).symm _ _ _ hw (lv_sub hl [1, 2, 3, 0] rfl)
set_option maxRecDepth 100000 in
set_option maxHeartbeats 4000000 in
theorem vX3_countBehind_40 {Z : zT} {p : Program} {l : Launch} {e : Env} {s : State} {m : MethodId} {args : Array Value} {below : List Frame} {meth : Method} {c : Code} {A : Nat → Prop} (E : zE Z p s m args meth c RX3 cX3_countBehind 5 (some .int) A) {An : Nat → Nat} {v1 : Int32} {v2 : Int32} {v3 : Int32} {k0 : Int32} {n_nodes : Int32} {n_links : Int32} {n_tunnels : Int32} {n_messages : Int32} {n_areas : (Nat → Int32)} {n_firsts : (Nat → Int32)} {n_seconds : (Nat → Int32)} {n_privates : (Nat → Int32)} {n_entries : (Nat → Int32)} {n_exits : (Nat → Int32)} {n_truth : (Nat → Int32)} {n_facts : (Nat → Int32)} {n_news : (Nat → Int64)} {res : Int32} {q1 : (Int32 × Int32) ⊕ (Int32)} (hb1 : ∀ b : Int32 × Int32, q1 = .inl b → ∀ (H : Heap) (locs : List Loc) (ls : Array Slot), zW Z A (wX3 Z An n_nodes n_links n_tunnels n_messages n_areas n_firsts n_seconds n_privates n_entries n_exits n_truth n_facts n_news) s.heap H locs → lv_has ls 5 [(0, .ref (An 0)), (1, .int v1), (2, .int b.1), (3, .int b.2)] → W p l e rmX3_countBehind s m args below meth c H locs 0 0 (MQ below (zQi Z res (wX3 Z An n_nodes n_links n_tunnels n_messages n_areas n_firsts n_seconds n_privates n_entries n_exits n_truth n_facts n_news) A) args s 0 0 A) (F0 m 4 ls [])) (hr1 : ∀ r' , q1 = .inr r' → r' = res) {H : Heap} {locs : List Loc} {ls : Array Slot} (hw : zW Z A (wX3 Z An n_nodes n_links n_tunnels n_messages n_areas n_firsts n_seconds n_privates n_entries n_exits n_truth n_facts n_news) s.heap H locs) (hl : lv_has ls 5 [(0, .ref (An 0)), (1, .int v1), (2, .int v2), (3, .int v3)]) (h : uX3_countBehind_40 v1 v2 v3 k0 n_areas n_firsts n_seconds n_privates n_truth = some q1) : W p l e rmX3_countBehind s m args below meth c H locs 0 0 (MQ below (zQi Z res (wX3 Z An n_nodes n_links n_tunnels n_messages n_areas n_firsts n_seconds n_privates n_entries n_exits n_truth n_facts n_news) A) args s 0 0 A) (F0 m 40 ls [.int k0]) := by
  unfold uX3_countBehind_40 at h
  refine r_istore E [(4, .int k0), (0, .ref (An 0)), (1, .int v1), (2, .int v2), (3, .int v3)] hl dX3_countBehind_40 (by decide) rfl (fun ls hl => ?_)
  refine r_iload E hl 0 rfl dX3_countBehind_42 ?_
  refine r_if_eq E 59 dX3_countBehind_44 (by decide) (fun hc => ?_) (fun hc => ?_)
  · replace h := ite_t hc h
    exact vX3_countBehind_59 E hb1 hr1 hw (lv_sub hl [1, 2, 3, 4] rfl) h
  · replace h := ite_f hc h
    refine r_aload_n E hl 1 rfl dX3_countBehind_47 rfl ?_
    refine r_iload_n E hl 2 rfl dX3_countBehind_48 rfl ?_
    refine r_iload_n E hl 4 rfl dX3_countBehind_49 rfl ?_
    obtain ⟨y8, hy8, h⟩ := bd_some h
    refine r_callVAi E hw (mX3_isHidden l Z _ An n_nodes n_links n_tunnels n_messages n_areas n_firsts n_seconds n_privates n_entries n_exits n_truth n_facts n_news v1 v3 hy8) kL_X3_141 kI_X3_isHidden kS_X3_isHidden kN_X3 kC_X3_isHidden rfl rfl hdX3_isHidden ⟨Nat.le_of_ble_eq_true rfl, Nat.le_of_ble_eq_true rfl⟩ 0 rfl rfl rfl rfl hl [] rfl (Nat.le_of_ble_eq_true rfl) dX3_countBehind_50 ⟨Nat.zero_le _, Nat.zero_le _⟩ (fun H locs hw => ?_)
    refine r_if_ne E 59 dX3_countBehind_53 (by decide) (fun hc => ?_) (fun hc => ?_)
    · replace h := ite_f hc h
      exact vX3_countBehind_59 E hb1 hr1 hw (lv_sub hl [1, 2, 3, 4] rfl) h
    · replace h := ite_t hc h
      obtain ⟨w9, hw9, h⟩ := nm_out h
      refine r_iinc E w9 [(2, .int w9), (4, .int k0), (0, .ref (An 0)), (1, .int v1), (3, .int v3)] hl (k := 3) rfl dX3_countBehind_56 hw9.symm (by decide) rfl (fun ls hl => ?_)
      exact vX3_countBehind_59 E hb1 hr1 hw (lv_sub hl [2, 3, 0, 4] rfl) h
set_option maxRecDepth 100000 in
set_option maxHeartbeats 4000000 in
theorem tX3_countBehind_4 {Z : zT} {p : Program} {l : Launch} {e : Env} {s : State} {m : MethodId} {args : Array Value} {below : List Frame} {meth : Method} {c : Code} {A : Nat → Prop} (E : zE Z p s m args meth c RX3 cX3_countBehind 5 (some .int) A) {An : Nat → Nat} {v1 : Int32} {n_nodes : Int32} {n_links : Int32} {n_tunnels : Int32} {n_messages : Int32} {n_areas : (Nat → Int32)} {n_firsts : (Nat → Int32)} {n_seconds : (Nat → Int32)} {n_privates : (Nat → Int32)} {n_entries : (Nat → Int32)} {n_exits : (Nat → Int32)} {n_truth : (Nat → Int32)} {n_facts : (Nat → Int32)} {n_news : (Nat → Int64)} {res : Int32}  : ∀ (n : Nat) (v2 : Int32) (v3 : Int32) (H : Heap) (locs : List Loc) (ls : Array Slot), iter (fun b : Int32 × Int32 => sX3_countBehind_4 v1 n_areas n_firsts n_seconds n_privates n_truth n_facts b.1 b.2) n (v2, v3) = some res → zW Z A (wX3 Z An n_nodes n_links n_tunnels n_messages n_areas n_firsts n_seconds n_privates n_entries n_exits n_truth n_facts n_news) s.heap H locs → lv_has ls 5 [(0, .ref (An 0)), (1, .int v1), (2, .int v2), (3, .int v3)] → W p l e rmX3_countBehind s m args below meth c H locs 0 0 (MQ below (zQi Z res (wX3 Z An n_nodes n_links n_tunnels n_messages n_areas n_firsts n_seconds n_privates n_entries n_exits n_truth n_facts n_news) A) args s 0 0 A) (F0 m 4 ls []) := by
  intro n
  induction n with
  | zero => intro v2 v3 H locs ls h; cases h
  | succ n ih =>
    intro v2 v3 H locs ls h hw hl
    obtain ⟨q1, h, hn1, hr1⟩ := iter_out h
    have hb1 : ∀ b : Int32 × Int32, q1 = .inl b → ∀ (H : Heap) (locs : List Loc) (ls : Array Slot), zW Z A (wX3 Z An n_nodes n_links n_tunnels n_messages n_areas n_firsts n_seconds n_privates n_entries n_exits n_truth n_facts n_news) s.heap H locs → lv_has ls 5 [(0, .ref (An 0)), (1, .int v1), (2, .int b.1), (3, .int b.2)] → W p l e rmX3_countBehind s m args below meth c H locs 0 0 (MQ below (zQi Z res (wX3 Z An n_nodes n_links n_tunnels n_messages n_areas n_firsts n_seconds n_privates n_entries n_exits n_truth n_facts n_news) A) args s 0 0 A) (F0 m 4 ls []) := fun b eb H locs ls hw hl => ih b.1 b.2 H locs ls (hn1 b eb) hw hl
    replace h : sX3_countBehind_4 v1 n_areas n_firsts n_seconds n_privates n_truth n_facts v2 v3 = some q1 := h
    unfold sX3_countBehind_4 at h
    refine r_iload_n E hl 3 rfl dX3_countBehind_4 rfl ?_
    refine r_bipush E 35 dX3_countBehind_5 (by decide) ?_
    refine r_icmp_ge E 65 dX3_countBehind_7 (by decide) (fun hc => ?_) (fun hc => ?_)
    · replace h := ite_t hc h
      obtain ⟨ro1, h, hro1⟩ := oi_some h
      rw [hr1 _ hro1] at h
      refine r_iload_n E hl 2 rfl dX3_countBehind_65 rfl ?_
      obtain rfl := Option.some.inj h
      exact r_iret E hw dX3_countBehind_66
    · replace h := ite_f hc h
      refine r_aload_n E hl 0 rfl dX3_countBehind_10 rfl ?_
      refine r_get E kW_X3 hw 0 rfl rfl 10 (by decide) kF_X3_30 rfl dX3_countBehind_11 ?_
      refine r_iload_n E hl 3 rfl dX3_countBehind_14 rfl ?_
      obtain ⟨hg2, h⟩ := gd_some h
      refine r_iald E hw 7 rfl hg2 dX3_countBehind_15 ?_
      obtain ⟨y3, hy3, h⟩ := bd_some h
      refine r_callS0i E hw (mX0_version l Z _ (n_truth (v3).toNatClampNeg) hy3) kL_X3_96 kT_X0_version kN_X0 kC_X0_version rfl rfl hdX0_version ⟨Nat.le_of_ble_eq_true rfl, Nat.le_of_ble_eq_true rfl⟩ rfl hl [] rfl (Nat.le_of_ble_eq_true rfl) dX3_countBehind_16 ⟨Nat.zero_le _, Nat.zero_le _⟩ (fun H locs hw => ?_)
      refine r_aload_n E hl 0 rfl dX3_countBehind_19 rfl ?_
      refine r_get E kW_X3 hw 0 rfl rfl 11 (by decide) kF_X3_33 rfl dX3_countBehind_20 ?_
      refine r_iload_n E hl 1 rfl dX3_countBehind_23 rfl ?_
      refine r_iload_n E hl 3 rfl dX3_countBehind_24 rfl ?_
      obtain ⟨y4, hy4, h⟩ := bd_some h
      refine r_callSN0i E hw (mX6_place l Z _ v1 v3 hy4) E.2.2.2.2.1.1 kT_X6_place kN_X6 kC_X6_place rfl rfl hdX6_place ⟨Nat.le_of_ble_eq_true rfl, Nat.le_of_ble_eq_true rfl⟩ rfl hl [.ref (An 8), .int y3] rfl (Nat.le_of_ble_eq_true rfl) dX3_countBehind_25 ⟨Nat.zero_le _, Nat.zero_le _⟩ (fun H locs hw => ?_)
      obtain ⟨hg5, h⟩ := gd_some h
      refine r_iald E hw 8 rfl hg5 dX3_countBehind_28 ?_
      obtain ⟨y6, hy6, h⟩ := bd_some h
      refine r_callS0i E hw (mX0_version l Z _ (n_facts (y4).toNatClampNeg) hy6) kL_X3_96 kT_X0_version kN_X0 kC_X0_version rfl rfl hdX0_version ⟨Nat.le_of_ble_eq_true rfl, Nat.le_of_ble_eq_true rfl⟩ rfl hl [.int y3] rfl (Nat.le_of_ble_eq_true rfl) dX3_countBehind_29 ⟨Nat.zero_le _, Nat.zero_le _⟩ (fun H locs hw => ?_)
      refine r_icmp_le E 39 dX3_countBehind_32 (by decide) (fun hc => ?_) (fun hc => ?_)
      · replace h := ite_t hc h
        refine r_iconst E 0 dX3_countBehind_39 (by decide) ?_
        exact vX3_countBehind_40 E hb1 hr1 hw hl h
      · replace h := ite_f hc h
        refine r_iconst E 1 dX3_countBehind_35 (by decide) ?_
        refine r_goto E 40 dX3_countBehind_36 (by decide) ?_
        exact vX3_countBehind_40 E hb1 hr1 hw hl h
set_option maxRecDepth 100000 in
set_option maxHeartbeats 4000000 in
theorem mX3_countBehind (l : Launch) (Z : zT) (sz : Nat) (An : Nat → Nat) (n_nodes : Int32) (n_links : Int32) (n_tunnels : Int32) (n_messages : Int32) (n_areas : (Nat → Int32)) (n_firsts : (Nat → Int32)) (n_seconds : (Nat → Int32)) (n_privates : (Nat → Int32)) (n_entries : (Nat → Int32)) (n_exits : (Nat → Int32)) (n_truth : (Nat → Int32)) (n_facts : (Nat → Int32)) (n_news : (Nat → Int64)) (v1 : Int32) {res : Int32} (h : fX3_countBehind v1 n_areas n_firsts n_seconds n_privates n_truth n_facts = some res) : Met l yX3_countBehind (Cond.code yX3_countBehind cX3_countBehind 5 (some .int) :: zWs) rmX3_countBehind (zP Z (wX3 Z An n_nodes n_links n_tunnels n_messages n_areas n_firsts n_seconds n_privates n_entries n_exits n_truth n_facts n_news) sz [.ref (An 0), .int v1]) (zQi Z res (wX3 Z An n_nodes n_links n_tunnels n_messages n_areas n_firsts n_seconds n_privates n_entries n_exits n_truth n_facts n_news) (va_A (wX3 Z An n_nodes n_links n_tunnels n_messages n_areas n_firsts n_seconds n_privates n_entries n_exits n_truth n_facts n_news) sz)) 0 0 (va_A (wX3 Z An n_nodes n_links n_tunnels n_messages n_areas n_firsts n_seconds n_privates n_entries n_exits n_truth n_facts n_news) sz) := by
  refine zMet (own := RX3) (fun A => zQi Z res (wX3 Z An n_nodes n_links n_tunnels n_messages n_areas n_firsts n_seconds n_privates n_entries n_exits n_truth n_facts n_news) A) (by decide) rfl (Nat.le_of_ble_eq_true rfl) ?_
  intro p e s m args below meth c ls A E hw hl
  unfold fX3_countBehind at h
  refine r_iconst E 0 dX3_countBehind_0 (by decide) ?_
  refine r_istore_n E [(2, .int (0 : Int32)), (0, .ref (An 0)), (1, .int v1)] hl dX3_countBehind_1 rfl (by decide) rfl (fun ls hl => ?_)
  refine r_iconst E 0 dX3_countBehind_2 (by decide) ?_
  refine r_istore_n E [(3, .int (0 : Int32)), (2, .int (0 : Int32)), (0, .ref (An 0)), (1, .int v1)] hl dX3_countBehind_3 rfl (by decide) rfl (fun ls hl => ?_)
  obtain ⟨n10, h⟩ := wh_some h
  exact tX3_countBehind_4 E  n10 _ _ _ _ _ h hw (lv_sub hl [2, 3, 1, 0] rfl)
abbrev rmX3_countSecrets : Room := { frames := 4, cells := 0, slots := 0, locals := 89 }

set_option maxRecDepth 100000 in
set_option maxHeartbeats 4000000 in
theorem vX3_countSecrets_36 {Z : zT} {p : Program} {l : Launch} {e : Env} {s : State} {m : MethodId} {args : Array Value} {below : List Frame} {meth : Method} {c : Code} {A : Nat → Prop} (E : zE Z p s m args meth c RX3 cX3_countSecrets 4 (some .int) A) {An : Nat → Nat} {v1 : Int32} {v2 : Int32} {v3 : Int32} {n_nodes : Int32} {n_links : Int32} {n_tunnels : Int32} {n_messages : Int32} {n_areas : (Nat → Int32)} {n_firsts : (Nat → Int32)} {n_seconds : (Nat → Int32)} {n_privates : (Nat → Int32)} {n_entries : (Nat → Int32)} {n_exits : (Nat → Int32)} {n_truth : (Nat → Int32)} {n_facts : (Nat → Int32)} {n_news : (Nat → Int64)} {res : Int32} {q1 : (Int32 × Int32) ⊕ (Int32)} (hb1 : ∀ b : Int32 × Int32, q1 = .inl b → ∀ (H : Heap) (locs : List Loc) (ls : Array Slot), zW Z A (wX3 Z An n_nodes n_links n_tunnels n_messages n_areas n_firsts n_seconds n_privates n_entries n_exits n_truth n_facts n_news) s.heap H locs → lv_has ls 4 [(0, .ref (An 0)), (1, .int v1), (2, .int b.1), (3, .int b.2)] → W p l e rmX3_countSecrets s m args below meth c H locs 0 0 (MQ below (zQi Z res (wX3 Z An n_nodes n_links n_tunnels n_messages n_areas n_firsts n_seconds n_privates n_entries n_exits n_truth n_facts n_news) A) args s 0 0 A) (F0 m 5 ls [])) (hr1 : ∀ r' , q1 = .inr r' → r' = res) {H : Heap} {locs : List Loc} {ls : Array Slot} (hw : zW Z A (wX3 Z An n_nodes n_links n_tunnels n_messages n_areas n_firsts n_seconds n_privates n_entries n_exits n_truth n_facts n_news) s.heap H locs) (hl : lv_has ls 4 [(0, .ref (An 0)), (1, .int v1), (2, .int v2), (3, .int v3)]) (h : uX3_countSecrets_36 v2 v3 = some q1) : W p l e rmX3_countSecrets s m args below meth c H locs 0 0 (MQ below (zQi Z res (wX3 Z An n_nodes n_links n_tunnels n_messages n_areas n_firsts n_seconds n_privates n_entries n_exits n_truth n_facts n_news) A) args s 0 0 A) (F0 m 36 ls []) := by
  unfold uX3_countSecrets_36 at h
  obtain ⟨w4, hw4, h⟩ := nm_out h
  refine r_iinc E w4 [(3, .int w4), (0, .ref (An 0)), (1, .int v1), (2, .int v2)] hl (k := 3) rfl dX3_countSecrets_36 hw4.symm (by decide) rfl (fun ls hl => ?_)
  refine r_goto E 5 dX3_countSecrets_39 (by decide) ?_
  exact hb1 _ (Option.some.inj h).symm _ _ _ hw (lv_sub hl [1, 2, 3, 0] rfl)
set_option maxRecDepth 100000 in
set_option maxHeartbeats 4000000 in
theorem tX3_countSecrets_5 {Z : zT} {p : Program} {l : Launch} {e : Env} {s : State} {m : MethodId} {args : Array Value} {below : List Frame} {meth : Method} {c : Code} {A : Nat → Prop} (E : zE Z p s m args meth c RX3 cX3_countSecrets 4 (some .int) A) {An : Nat → Nat} {v1 : Int32} {n_nodes : Int32} {n_links : Int32} {n_tunnels : Int32} {n_messages : Int32} {n_areas : (Nat → Int32)} {n_firsts : (Nat → Int32)} {n_seconds : (Nat → Int32)} {n_privates : (Nat → Int32)} {n_entries : (Nat → Int32)} {n_exits : (Nat → Int32)} {n_truth : (Nat → Int32)} {n_facts : (Nat → Int32)} {n_news : (Nat → Int64)} {res : Int32}  : ∀ (n : Nat) (v2 : Int32) (v3 : Int32) (H : Heap) (locs : List Loc) (ls : Array Slot), iter (fun b : Int32 × Int32 => sX3_countSecrets_5 v1 n_areas n_firsts n_seconds n_privates n_truth n_facts b.1 b.2) n (v2, v3) = some res → zW Z A (wX3 Z An n_nodes n_links n_tunnels n_messages n_areas n_firsts n_seconds n_privates n_entries n_exits n_truth n_facts n_news) s.heap H locs → lv_has ls 4 [(0, .ref (An 0)), (1, .int v1), (2, .int v2), (3, .int v3)] → W p l e rmX3_countSecrets s m args below meth c H locs 0 0 (MQ below (zQi Z res (wX3 Z An n_nodes n_links n_tunnels n_messages n_areas n_firsts n_seconds n_privates n_entries n_exits n_truth n_facts n_news) A) args s 0 0 A) (F0 m 5 ls []) := by
  intro n
  induction n with
  | zero => intro v2 v3 H locs ls h; cases h
  | succ n ih =>
    intro v2 v3 H locs ls h hw hl
    obtain ⟨q1, h, hn1, hr1⟩ := iter_out h
    have hb1 : ∀ b : Int32 × Int32, q1 = .inl b → ∀ (H : Heap) (locs : List Loc) (ls : Array Slot), zW Z A (wX3 Z An n_nodes n_links n_tunnels n_messages n_areas n_firsts n_seconds n_privates n_entries n_exits n_truth n_facts n_news) s.heap H locs → lv_has ls 4 [(0, .ref (An 0)), (1, .int v1), (2, .int b.1), (3, .int b.2)] → W p l e rmX3_countSecrets s m args below meth c H locs 0 0 (MQ below (zQi Z res (wX3 Z An n_nodes n_links n_tunnels n_messages n_areas n_firsts n_seconds n_privates n_entries n_exits n_truth n_facts n_news) A) args s 0 0 A) (F0 m 5 ls []) := fun b eb H locs ls hw hl => ih b.1 b.2 H locs ls (hn1 b eb) hw hl
    replace h : sX3_countSecrets_5 v1 n_areas n_firsts n_seconds n_privates n_truth n_facts v2 v3 = some q1 := h
    unfold sX3_countSecrets_5 at h
    refine r_iload_n E hl 3 rfl dX3_countSecrets_5 rfl ?_
    refine r_bipush E 32 dX3_countSecrets_6 (by decide) ?_
    refine r_icmp_ge E 42 dX3_countSecrets_8 (by decide) (fun hc => ?_) (fun hc => ?_)
    · replace h := ite_t hc h
      obtain ⟨ro1, h, hro1⟩ := oi_some h
      rw [hr1 _ hro1] at h
      refine r_iload_n E hl 2 rfl dX3_countSecrets_42 rfl ?_
      obtain rfl := Option.some.inj h
      exact r_iret E hw dX3_countSecrets_43
    · replace h := ite_f hc h
      refine r_aload_n E hl 0 rfl dX3_countSecrets_11 rfl ?_
      refine r_get E kW_X3 hw 0 rfl rfl 11 (by decide) kF_X3_33 rfl dX3_countSecrets_12 ?_
      refine r_iload_n E hl 1 rfl dX3_countSecrets_15 rfl ?_
      refine r_iload_n E hl 3 rfl dX3_countSecrets_16 rfl ?_
      obtain ⟨y2, hy2, h⟩ := bd_some h
      refine r_callSN0i E hw (mX6_place l Z _ v1 v3 hy2) E.2.2.2.2.1.1 kT_X6_place kN_X6 kC_X6_place rfl rfl hdX6_place ⟨Nat.le_of_ble_eq_true rfl, Nat.le_of_ble_eq_true rfl⟩ rfl hl [.ref (An 8)] rfl (Nat.le_of_ble_eq_true rfl) dX3_countSecrets_17 ⟨Nat.zero_le _, Nat.zero_le _⟩ (fun H locs hw => ?_)
      obtain ⟨hg3, h⟩ := gd_some h
      refine r_iald E hw 8 rfl hg3 dX3_countSecrets_20 ?_
      refine r_if_eq E 36 dX3_countSecrets_21 (by decide) (fun hc => ?_) (fun hc => ?_)
      · replace h := ite_t hc h
        exact vX3_countSecrets_36 E hb1 hr1 hw hl h
      · replace h := ite_f hc h
        refine r_aload_n E hl 0 rfl dX3_countSecrets_24 rfl ?_
        refine r_iload_n E hl 1 rfl dX3_countSecrets_25 rfl ?_
        refine r_iload_n E hl 3 rfl dX3_countSecrets_26 rfl ?_
        obtain ⟨y5, hy5, h⟩ := bd_some h
        refine r_callVAi E hw (mX3_isHidden l Z _ An n_nodes n_links n_tunnels n_messages n_areas n_firsts n_seconds n_privates n_entries n_exits n_truth n_facts n_news v1 v3 hy5) kL_X3_141 kI_X3_isHidden kS_X3_isHidden kN_X3 kC_X3_isHidden rfl rfl hdX3_isHidden ⟨Nat.le_of_ble_eq_true rfl, Nat.le_of_ble_eq_true rfl⟩ 0 rfl rfl rfl rfl hl [] rfl (Nat.le_of_ble_eq_true rfl) dX3_countSecrets_27 ⟨Nat.zero_le _, Nat.zero_le _⟩ (fun H locs hw => ?_)
        refine r_if_eq E 36 dX3_countSecrets_30 (by decide) (fun hc => ?_) (fun hc => ?_)
        · replace h := ite_t hc h
          exact vX3_countSecrets_36 E hb1 hr1 hw hl h
        · replace h := ite_f hc h
          obtain ⟨w6, hw6, h⟩ := nm_out h
          refine r_iinc E w6 [(2, .int w6), (0, .ref (An 0)), (1, .int v1), (3, .int v3)] hl (k := 2) rfl dX3_countSecrets_33 hw6.symm (by decide) rfl (fun ls hl => ?_)
          exact vX3_countSecrets_36 E hb1 hr1 hw (lv_sub hl [1, 2, 0, 3] rfl) h
set_option maxRecDepth 100000 in
set_option maxHeartbeats 4000000 in
theorem mX3_countSecrets (l : Launch) (Z : zT) (sz : Nat) (An : Nat → Nat) (n_nodes : Int32) (n_links : Int32) (n_tunnels : Int32) (n_messages : Int32) (n_areas : (Nat → Int32)) (n_firsts : (Nat → Int32)) (n_seconds : (Nat → Int32)) (n_privates : (Nat → Int32)) (n_entries : (Nat → Int32)) (n_exits : (Nat → Int32)) (n_truth : (Nat → Int32)) (n_facts : (Nat → Int32)) (n_news : (Nat → Int64)) (v1 : Int32) {res : Int32} (h : fX3_countSecrets v1 n_areas n_firsts n_seconds n_privates n_truth n_facts = some res) : Met l yX3_countSecrets (Cond.code yX3_countSecrets cX3_countSecrets 4 (some .int) :: zWs) rmX3_countSecrets (zP Z (wX3 Z An n_nodes n_links n_tunnels n_messages n_areas n_firsts n_seconds n_privates n_entries n_exits n_truth n_facts n_news) sz [.ref (An 0), .int v1]) (zQi Z res (wX3 Z An n_nodes n_links n_tunnels n_messages n_areas n_firsts n_seconds n_privates n_entries n_exits n_truth n_facts n_news) (va_A (wX3 Z An n_nodes n_links n_tunnels n_messages n_areas n_firsts n_seconds n_privates n_entries n_exits n_truth n_facts n_news) sz)) 0 0 (va_A (wX3 Z An n_nodes n_links n_tunnels n_messages n_areas n_firsts n_seconds n_privates n_entries n_exits n_truth n_facts n_news) sz) := by
  refine zMet (own := RX3) (fun A => zQi Z res (wX3 Z An n_nodes n_links n_tunnels n_messages n_areas n_firsts n_seconds n_privates n_entries n_exits n_truth n_facts n_news) A) (by decide) rfl (Nat.le_of_ble_eq_true rfl) ?_
  intro p e s m args below meth c ls A E hw hl
  unfold fX3_countSecrets at h
  refine r_iconst E 0 dX3_countSecrets_0 (by decide) ?_
  refine r_istore_n E [(2, .int (0 : Int32)), (0, .ref (An 0)), (1, .int v1)] hl dX3_countSecrets_1 rfl (by decide) rfl (fun ls hl => ?_)
  refine r_bipush E 16 dX3_countSecrets_2 (by decide) ?_
  refine r_istore_n E [(3, .int (16 : Int32)), (2, .int (0 : Int32)), (0, .ref (An 0)), (1, .int v1)] hl dX3_countSecrets_4 rfl (by decide) rfl (fun ls hl => ?_)
  obtain ⟨n7, h⟩ := wh_some h
  exact tX3_countSecrets_5 E  n7 _ _ _ _ _ h hw (lv_sub hl [2, 3, 1, 0] rfl)
abbrev rmX3_mayKnow : Room := { frames := 1, cells := 0, slots := 0, locals := 22 }

set_option maxRecDepth 100000 in
set_option maxHeartbeats 4000000 in
theorem vX3_mayKnow_73 {Z : zT} {p : Program} {l : Launch} {e : Env} {s : State} {m : MethodId} {args : Array Value} {below : List Frame} {meth : Method} {c : Code} {A : Nat → Prop} (E : zE Z p s m args meth c RX3 cX3_mayKnow 6 (some .boolean) A) {An : Nat → Nat} {n_nodes : Int32} {n_links : Int32} {n_tunnels : Int32} {n_messages : Int32} {n_areas : (Nat → Int32)} {n_firsts : (Nat → Int32)} {n_seconds : (Nat → Int32)} {n_privates : (Nat → Int32)} {n_entries : (Nat → Int32)} {n_exits : (Nat → Int32)} {n_truth : (Nat → Int32)} {n_facts : (Nat → Int32)} {n_news : (Nat → Int64)} {res : Int32}  {H : Heap} {locs : List Loc} {ls : Array Slot} (hw : zW Z A (wX3 Z An n_nodes n_links n_tunnels n_messages n_areas n_firsts n_seconds n_privates n_entries n_exits n_truth n_facts n_news) s.heap H locs) (hl : lv_has ls 6 []) (h : uX3_mayKnow_73  = some res) : W p l e rmX3_mayKnow s m args below meth c H locs 0 0 (MQ below (zQi Z res (wX3 Z An n_nodes n_links n_tunnels n_messages n_areas n_firsts n_seconds n_privates n_entries n_exits n_truth n_facts n_news) A) args s 0 0 A) (F0 m 73 ls []) := by
  unfold uX3_mayKnow_73 at h
  refine r_iconst E 1 dX3_mayKnow_73 (by decide) ?_
  refine r_goto E 78 dX3_mayKnow_74 (by decide) ?_
  obtain rfl := Option.some.inj h
  exact r_zret E bz_1 hw dX3_mayKnow_78
set_option maxRecDepth 100000 in
set_option maxHeartbeats 4000000 in
theorem mX3_mayKnow (l : Launch) (Z : zT) (sz : Nat) (An : Nat → Nat) (n_nodes : Int32) (n_links : Int32) (n_tunnels : Int32) (n_messages : Int32) (n_areas : (Nat → Int32)) (n_firsts : (Nat → Int32)) (n_seconds : (Nat → Int32)) (n_privates : (Nat → Int32)) (n_entries : (Nat → Int32)) (n_exits : (Nat → Int32)) (n_truth : (Nat → Int32)) (n_facts : (Nat → Int32)) (n_news : (Nat → Int64)) (v1 : Int32) (v2 : Int32) {res : Int32} (h : fX3_mayKnow v1 v2 n_areas n_firsts n_seconds n_privates n_facts = some res) : Met l yX3_mayKnow (Cond.code yX3_mayKnow cX3_mayKnow 6 (some .boolean) :: zWs) rmX3_mayKnow (zP Z (wX3 Z An n_nodes n_links n_tunnels n_messages n_areas n_firsts n_seconds n_privates n_entries n_exits n_truth n_facts n_news) sz [.ref (An 0), .int v1, .int v2]) (zQi Z res (wX3 Z An n_nodes n_links n_tunnels n_messages n_areas n_firsts n_seconds n_privates n_entries n_exits n_truth n_facts n_news) (va_A (wX3 Z An n_nodes n_links n_tunnels n_messages n_areas n_firsts n_seconds n_privates n_entries n_exits n_truth n_facts n_news) sz)) 0 0 (va_A (wX3 Z An n_nodes n_links n_tunnels n_messages n_areas n_firsts n_seconds n_privates n_entries n_exits n_truth n_facts n_news) sz) := by
  refine zMet (own := RX3) (fun A => zQi Z res (wX3 Z An n_nodes n_links n_tunnels n_messages n_areas n_firsts n_seconds n_privates n_entries n_exits n_truth n_facts n_news) A) (by decide) rfl (Nat.le_of_ble_eq_true rfl) ?_
  intro p e s m args below meth c ls A E hw hl
  unfold fX3_mayKnow at h
  refine r_aload_n E hl 0 rfl dX3_mayKnow_0 rfl ?_
  refine r_iload_n E hl 2 rfl dX3_mayKnow_1 rfl ?_
  obtain ⟨y1, hy1, h⟩ := bd_some h
  refine r_callVAi E hw (mX3_isPrivateLink l Z _ An n_nodes n_links n_tunnels n_messages n_areas n_firsts n_seconds n_privates n_entries n_exits n_truth n_facts n_news v2 hy1) kL_X3_122 kI_X3_isPrivateLink kS_X3_isPrivateLink kN_X3 kC_X3_isPrivateLink rfl rfl hdX3_isPrivateLink ⟨Nat.le_of_ble_eq_true rfl, Nat.le_of_ble_eq_true rfl⟩ 0 rfl rfl rfl rfl hl [] rfl (Nat.le_of_ble_eq_true rfl) dX3_mayKnow_2 ⟨Nat.zero_le _, Nat.zero_le _⟩ (fun H locs hw => ?_)
  refine r_if_ne E 10 dX3_mayKnow_5 (by decide) (fun hc => ?_) (fun hc => ?_)
  · replace h := ite_f hc h
    refine r_iload_n E hl 2 rfl dX3_mayKnow_10 rfl ?_
    refine r_bipush E 16 dX3_mayKnow_11 (by decide) ?_
    refine r_isub E dX3_mayKnow_13 ?_
    obtain ⟨w2, hw2, h⟩ := nm_out h
    refine r_nm hw2 ?_
    refine r_istore_n E [(3, .int w2), (0, .ref (An 0)), (1, .int v1), (2, .int v2)] hl dX3_mayKnow_14 rfl (by decide) rfl (fun ls hl => ?_)
    refine r_aload_n E hl 1 rfl dX3_mayKnow_15 rfl ?_
    refine r_iload_n E hl 0 rfl dX3_mayKnow_16 rfl ?_
    obtain ⟨y3, hy3, h⟩ := bd_some h
    refine r_callVAi E hw (mX3_owner l Z _ An n_nodes n_links n_tunnels n_messages n_areas n_firsts n_seconds n_privates n_entries n_exits n_truth n_facts n_news w2 hy3) kL_X3_126 kI_X3_owner kS_X3_owner kN_X3 kC_X3_owner rfl rfl hdX3_owner ⟨Nat.le_of_ble_eq_true rfl, Nat.le_of_ble_eq_true rfl⟩ 0 rfl rfl rfl rfl hl [] rfl (Nat.le_of_ble_eq_true rfl) dX3_mayKnow_17 ⟨Nat.zero_le _, Nat.zero_le _⟩ (fun H locs hw => ?_)
    refine r_istore E [(4, .int y3), (3, .int w2), (0, .ref (An 0)), (1, .int v1), (2, .int v2)] hl dX3_mayKnow_20 (by decide) rfl (fun ls hl => ?_)
    refine r_iload E hl 0 rfl dX3_mayKnow_22 ?_
    refine r_aload_n E hl 2 rfl dX3_mayKnow_24 rfl ?_
    refine r_get E kW_X3 hw 0 rfl rfl 4 (by decide) kF_X3_9 rfl dX3_mayKnow_25 ?_
    refine r_iload_n E hl 3 rfl dX3_mayKnow_28 rfl ?_
    obtain ⟨hg4, h⟩ := gd_some h
    refine r_iald E hw 1 rfl hg4 dX3_mayKnow_29 ?_
    obtain ⟨y5, hy5, h⟩ := bd_some h
    refine r_callSN0i E hw (mX6_grantItem l Z _ y3 (n_areas (v1).toNatClampNeg) hy5) E.2.2.2.2.1.2.1 kT_X6_grantItem kN_X6 kC_X6_grantItem rfl rfl hdX6_grantItem ⟨Nat.le_of_ble_eq_true rfl, Nat.le_of_ble_eq_true rfl⟩ rfl hl [] rfl (Nat.le_of_ble_eq_true rfl) dX3_mayKnow_30 ⟨Nat.zero_le _, Nat.zero_le _⟩ (fun H locs hw => ?_)
    refine r_istore E [(5, .int y5), (4, .int y3), (3, .int w2), (0, .ref (An 0)), (1, .int v1), (2, .int v2)] hl dX3_mayKnow_33 (by decide) rfl (fun ls hl => ?_)
    refine r_aload_n E hl 3 rfl dX3_mayKnow_35 rfl ?_
    refine r_iload_n E hl 4 rfl dX3_mayKnow_36 rfl ?_
    refine r_iload_n E hl 2 rfl dX3_mayKnow_37 rfl ?_
    obtain ⟨y6, hy6, h⟩ := bd_some h
    refine r_callVAi E hw (mX3_isEnd l Z _ An n_nodes n_links n_tunnels n_messages n_areas n_firsts n_seconds n_privates n_entries n_exits n_truth n_facts n_news v1 w2 hy6) kL_X3_129 kI_X3_isEnd kS_X3_isEnd kN_X3 kC_X3_isEnd rfl rfl hdX3_isEnd ⟨Nat.le_of_ble_eq_true rfl, Nat.le_of_ble_eq_true rfl⟩ 0 rfl rfl rfl rfl hl [] rfl (Nat.le_of_ble_eq_true rfl) dX3_mayKnow_38 ⟨Nat.zero_le _, Nat.zero_le _⟩ (fun H locs hw => ?_)
    refine r_if_ne E 73 dX3_mayKnow_41 (by decide) (fun hc => ?_) (fun hc => ?_)
    · replace h := ite_f hc h
      exact vX3_mayKnow_73 E  hw (lv_sub hl [] rfl) h
    · replace h := ite_t hc h
      refine r_aload_n E hl 3 rfl dX3_mayKnow_44 rfl ?_
      refine r_get E kW_X3 hw 0 rfl rfl 4 (by decide) kF_X3_9 rfl dX3_mayKnow_45 ?_
      refine r_iload_n E hl 4 rfl dX3_mayKnow_48 rfl ?_
      obtain ⟨hg7, h⟩ := gd_some h
      refine r_iald E hw 1 rfl hg7 dX3_mayKnow_49 ?_
      refine r_iload E hl 1 rfl dX3_mayKnow_50 ?_
      refine r_icmp_eq E 73 dX3_mayKnow_52 (by decide) (fun hc => ?_) (fun hc => ?_)
      · replace h := ite_t hc h
        exact vX3_mayKnow_73 E  hw (lv_sub hl [] rfl) h
      · replace h := ite_f hc h
        refine r_aload_n E hl 3 rfl dX3_mayKnow_55 rfl ?_
        refine r_get E kW_X3 hw 0 rfl rfl 11 (by decide) kF_X3_33 rfl dX3_mayKnow_56 ?_
        refine r_iload_n E hl 4 rfl dX3_mayKnow_59 rfl ?_
        refine r_iload E hl 0 rfl dX3_mayKnow_60 ?_
        obtain ⟨y8, hy8, h⟩ := bd_some h
        refine r_callSN0i E hw (mX6_place l Z _ v1 y5 hy8) E.2.2.2.2.1.1 kT_X6_place kN_X6 kC_X6_place rfl rfl hdX6_place ⟨Nat.le_of_ble_eq_true rfl, Nat.le_of_ble_eq_true rfl⟩ rfl hl [.ref (An 8)] rfl (Nat.le_of_ble_eq_true rfl) dX3_mayKnow_62 ⟨Nat.zero_le _, Nat.zero_le _⟩ (fun H locs hw => ?_)
        obtain ⟨hg9, h⟩ := gd_some h
        refine r_iald E hw 8 rfl hg9 dX3_mayKnow_65 ?_
        obtain ⟨y10, hy10, h⟩ := bd_some h
        refine r_callS0i E hw (mX0_state l Z _ (n_facts (y8).toNatClampNeg) hy10) kL_X3_74 kT_X0_state kN_X0 kC_X0_state rfl rfl hdX0_state ⟨Nat.le_of_ble_eq_true rfl, Nat.le_of_ble_eq_true rfl⟩ rfl hl [] rfl (Nat.le_of_ble_eq_true rfl) dX3_mayKnow_66 ⟨Nat.zero_le _, Nat.zero_le _⟩ (fun H locs hw => ?_)
        refine r_iconst E 1 dX3_mayKnow_69 (by decide) ?_
        refine r_icmp_ne E 77 dX3_mayKnow_70 (by decide) (fun hc => ?_) (fun hc => ?_)
        · replace h := ite_f hc h
          refine r_iconst E 0 dX3_mayKnow_77 (by decide) ?_
          obtain rfl := Option.some.inj h
          exact r_zret E bz_0 hw dX3_mayKnow_78
        · replace h := ite_t hc h
          exact vX3_mayKnow_73 E  hw (lv_sub hl [] rfl) h
  · replace h := ite_t hc h
    refine r_iconst E 1 dX3_mayKnow_8 (by decide) ?_
    obtain rfl := Option.some.inj h
    exact r_zret E bz_1 hw dX3_mayKnow_9
abbrev rmX3_makeAllNews : Room := { frames := 1, cells := 0, slots := 0, locals := 21 }

set_option maxRecDepth 100000 in
set_option maxHeartbeats 4000000 in
theorem vX3_makeAllNews_33 {Z : zT} {p : Program} {l : Launch} {e : Env} {s : State} {m : MethodId} {args : Array Value} {below : List Frame} {meth : Method} {c : Code} {A : Nat → Prop} (E : zE Z p s m args meth c RX3 cX3_makeAllNews 3 none A) {An : Nat → Nat} {v1 : Int32} {v2 : Int32} {n_nodes : Int32} {n_links : Int32} {n_tunnels : Int32} {n_messages : Int32} {n_areas : (Nat → Int32)} {n_firsts : (Nat → Int32)} {n_seconds : (Nat → Int32)} {n_privates : (Nat → Int32)} {n_entries : (Nat → Int32)} {n_exits : (Nat → Int32)} {n_truth : (Nat → Int32)} {n_facts : (Nat → Int32)} {n_news : (Nat → Int64)} {res : (Nat → Int64)} {q1 : (Int32 × (Nat → Int64)) ⊕ ((Nat → Int64))} (hb1 : ∀ b : Int32 × (Nat → Int64), q1 = .inl b → ∀ (H : Heap) (locs : List Loc) (ls : Array Slot), zW Z A (wX3 Z An n_nodes n_links n_tunnels n_messages n_areas n_firsts n_seconds n_privates n_entries n_exits n_truth n_facts b.2) s.heap H locs → lv_has ls 3 [(0, .ref (An 0)), (1, .int v1), (2, .int b.1)] → W p l e rmX3_makeAllNews s m args below meth c H locs 0 0 (MQ below (zQv Z (wX3 Z An n_nodes n_links n_tunnels n_messages n_areas n_firsts n_seconds n_privates n_entries n_exits n_truth n_facts res) A) args s 0 0 A) (F0 m 2 ls [])) (hr1 : ∀ r' , q1 = .inr r' → r' = res) {H : Heap} {locs : List Loc} {ls : Array Slot} (hw : zW Z A (wX3 Z An n_nodes n_links n_tunnels n_messages n_areas n_firsts n_seconds n_privates n_entries n_exits n_truth n_facts n_news) s.heap H locs) (hl : lv_has ls 3 [(0, .ref (An 0)), (1, .int v1), (2, .int v2)]) (h : uX3_makeAllNews_33 v2 n_news = some q1) : W p l e rmX3_makeAllNews s m args below meth c H locs 0 0 (MQ below (zQv Z (wX3 Z An n_nodes n_links n_tunnels n_messages n_areas n_firsts n_seconds n_privates n_entries n_exits n_truth n_facts res) A) args s 0 0 A) (F0 m 33 ls []) := by
  unfold uX3_makeAllNews_33 at h
  obtain ⟨w4, hw4, h⟩ := nm_out h
  refine r_iinc E w4 [(2, .int w4), (0, .ref (An 0)), (1, .int v1)] hl (k := 2) rfl dX3_makeAllNews_33 hw4.symm (by decide) rfl (fun ls hl => ?_)
  refine r_goto E 2 dX3_makeAllNews_36 (by decide) ?_
  exact hb1 _ (Option.some.inj h).symm _ _ _ hw (lv_sub hl [1, 2, 0] rfl)
set_option maxRecDepth 100000 in
set_option maxHeartbeats 4000000 in
theorem tX3_makeAllNews_2 {Z : zT} {p : Program} {l : Launch} {e : Env} {s : State} {m : MethodId} {args : Array Value} {below : List Frame} {meth : Method} {c : Code} {A : Nat → Prop} (E : zE Z p s m args meth c RX3 cX3_makeAllNews 3 none A) {An : Nat → Nat} {v1 : Int32} {n_nodes : Int32} {n_links : Int32} {n_tunnels : Int32} {n_messages : Int32} {n_areas : (Nat → Int32)} {n_firsts : (Nat → Int32)} {n_seconds : (Nat → Int32)} {n_privates : (Nat → Int32)} {n_entries : (Nat → Int32)} {n_exits : (Nat → Int32)} {n_truth : (Nat → Int32)} {n_facts : (Nat → Int32)} {res : (Nat → Int64)}  : ∀ (n : Nat) (v2 : Int32) (n_news : (Nat → Int64)) (H : Heap) (locs : List Loc) (ls : Array Slot), iter (fun b : Int32 × (Nat → Int64) => sX3_makeAllNews_2 v1 n_facts b.1 b.2) n (v2, n_news) = some res → zW Z A (wX3 Z An n_nodes n_links n_tunnels n_messages n_areas n_firsts n_seconds n_privates n_entries n_exits n_truth n_facts n_news) s.heap H locs → lv_has ls 3 [(0, .ref (An 0)), (1, .int v1), (2, .int v2)] → W p l e rmX3_makeAllNews s m args below meth c H locs 0 0 (MQ below (zQv Z (wX3 Z An n_nodes n_links n_tunnels n_messages n_areas n_firsts n_seconds n_privates n_entries n_exits n_truth n_facts res) A) args s 0 0 A) (F0 m 2 ls []) := by
  intro n
  induction n with
  | zero => intro v2 n_news H locs ls h; cases h
  | succ n ih =>
    intro v2 n_news H locs ls h hw hl
    obtain ⟨q1, h, hn1, hr1⟩ := iter_out h
    have hb1 : ∀ b : Int32 × (Nat → Int64), q1 = .inl b → ∀ (H : Heap) (locs : List Loc) (ls : Array Slot), zW Z A (wX3 Z An n_nodes n_links n_tunnels n_messages n_areas n_firsts n_seconds n_privates n_entries n_exits n_truth n_facts b.2) s.heap H locs → lv_has ls 3 [(0, .ref (An 0)), (1, .int v1), (2, .int b.1)] → W p l e rmX3_makeAllNews s m args below meth c H locs 0 0 (MQ below (zQv Z (wX3 Z An n_nodes n_links n_tunnels n_messages n_areas n_firsts n_seconds n_privates n_entries n_exits n_truth n_facts res) A) args s 0 0 A) (F0 m 2 ls []) := fun b eb H locs ls hw hl => ih b.1 b.2 H locs ls (hn1 b eb) hw hl
    replace h : sX3_makeAllNews_2 v1 n_facts v2 n_news = some q1 := h
    unfold sX3_makeAllNews_2 at h
    refine r_iload_n E hl 2 rfl dX3_makeAllNews_2 rfl ?_
    refine r_bipush E 35 dX3_makeAllNews_3 (by decide) ?_
    refine r_icmp_ge E 39 dX3_makeAllNews_5 (by decide) (fun hc => ?_) (fun hc => ?_)
    · replace h := ite_t hc h
      obtain ⟨ro1, h, hro1⟩ := oi_some h
      rw [hr1 _ hro1] at h
      obtain rfl := Option.some.inj h
      exact r_vret E hw dX3_makeAllNews_39
    · replace h := ite_f hc h
      refine r_aload_n E hl 0 rfl dX3_makeAllNews_8 rfl ?_
      refine r_get E kW_X3 hw 0 rfl rfl 11 (by decide) kF_X3_33 rfl dX3_makeAllNews_9 ?_
      refine r_iload_n E hl 1 rfl dX3_makeAllNews_12 rfl ?_
      refine r_iload_n E hl 2 rfl dX3_makeAllNews_13 rfl ?_
      obtain ⟨y2, hy2, h⟩ := bd_some h
      refine r_callSN0i E hw (mX6_place l Z _ v1 v2 hy2) E.2.2.2.2.1.1 kT_X6_place kN_X6 kC_X6_place rfl rfl hdX6_place ⟨Nat.le_of_ble_eq_true rfl, Nat.le_of_ble_eq_true rfl⟩ rfl hl [.ref (An 8)] rfl (Nat.le_of_ble_eq_true rfl) dX3_makeAllNews_14 ⟨Nat.zero_le _, Nat.zero_le _⟩ (fun H locs hw => ?_)
      obtain ⟨hg3, h⟩ := gd_some h
      refine r_iald E hw 8 rfl hg3 dX3_makeAllNews_17 ?_
      refine r_if_eq E 33 dX3_makeAllNews_18 (by decide) (fun hc => ?_) (fun hc => ?_)
      · replace h := ite_t hc h
        exact vX3_makeAllNews_33 E hb1 hr1 hw hl h
      · replace h := ite_f hc h
        refine r_aload_n E hl 0 rfl dX3_makeAllNews_21 rfl ?_
        refine r_get E kW_X3 hw 0 rfl rfl 12 (by decide) kF_X3_36 rfl dX3_makeAllNews_22 ?_
        refine r_iload_n E hl 1 rfl dX3_makeAllNews_25 rfl ?_
        refine r_dup2 E dX3_makeAllNews_26 rfl rfl ?_
        obtain ⟨hg5, h⟩ := gd_some h
        refine r_lald E hw 9 rfl hg5 dX3_makeAllNews_27 ?_
        refine r_lconst E 1 dX3_makeAllNews_28 (by decide) ?_
        refine r_iload_n E hl 2 rfl dX3_makeAllNews_29 rfl ?_
        refine r_lshl E dX3_makeAllNews_30 ?_
        refine r_lor E dX3_makeAllNews_31 ?_
        obtain ⟨hg6, h⟩ := gd_some h
        refine r_last E (wX3 Z An n_nodes n_links n_tunnels n_messages n_areas n_firsts n_seconds n_privates n_entries n_exits n_truth n_facts (vp_updL n_news (v1).toNatClampNeg ((n_news (v1).toNatClampNeg) ||| ((1 : Int64) <<< ((v2).toInt64 &&& 63))))) hw 9 rfl hg6 rfl dX3_makeAllNews_32 (fun H locs hw => ?_)
        exact vX3_makeAllNews_33 E hb1 hr1 hw hl h
set_option maxRecDepth 100000 in
set_option maxHeartbeats 4000000 in
theorem mX3_makeAllNews (l : Launch) (Z : zT) (sz : Nat) (An : Nat → Nat) (n_nodes : Int32) (n_links : Int32) (n_tunnels : Int32) (n_messages : Int32) (n_areas : (Nat → Int32)) (n_firsts : (Nat → Int32)) (n_seconds : (Nat → Int32)) (n_privates : (Nat → Int32)) (n_entries : (Nat → Int32)) (n_exits : (Nat → Int32)) (n_truth : (Nat → Int32)) (n_facts : (Nat → Int32)) (n_news : (Nat → Int64)) (v1 : Int32) {res : (Nat → Int64)} (h : fX3_makeAllNews v1 n_facts n_news = some res) : Met l yX3_makeAllNews (Cond.code yX3_makeAllNews cX3_makeAllNews 3 none :: zWs) rmX3_makeAllNews (zP Z (wX3 Z An n_nodes n_links n_tunnels n_messages n_areas n_firsts n_seconds n_privates n_entries n_exits n_truth n_facts n_news) sz [.ref (An 0), .int v1]) (zQv Z (wX3 Z An n_nodes n_links n_tunnels n_messages n_areas n_firsts n_seconds n_privates n_entries n_exits n_truth n_facts res) (va_A (wX3 Z An n_nodes n_links n_tunnels n_messages n_areas n_firsts n_seconds n_privates n_entries n_exits n_truth n_facts n_news) sz)) 0 0 (va_A (wX3 Z An n_nodes n_links n_tunnels n_messages n_areas n_firsts n_seconds n_privates n_entries n_exits n_truth n_facts n_news) sz) := by
  refine zMet (own := RX3) (fun A => zQv Z (wX3 Z An n_nodes n_links n_tunnels n_messages n_areas n_firsts n_seconds n_privates n_entries n_exits n_truth n_facts res) A) (by decide) rfl (Nat.le_of_ble_eq_true rfl) ?_
  intro p e s m args below meth c ls A E hw hl
  unfold fX3_makeAllNews at h
  refine r_iconst E 0 dX3_makeAllNews_0 (by decide) ?_
  refine r_istore_n E [(2, .int (0 : Int32)), (0, .ref (An 0)), (1, .int v1)] hl dX3_makeAllNews_1 rfl (by decide) rfl (fun ls hl => ?_)
  obtain ⟨n7, h⟩ := wh_some h
  exact tX3_makeAllNews_2 E  n7 _ _ _ _ _ h hw (lv_sub hl [1, 2, 0] rfl)
abbrev rmX3_makePrivateLinksNews : Room := { frames := 1, cells := 0, slots := 0, locals := 22 }

set_option maxRecDepth 100000 in
set_option maxHeartbeats 4000000 in
theorem vX3_makePrivateLinksNews_52 {Z : zT} {p : Program} {l : Launch} {e : Env} {s : State} {m : MethodId} {args : Array Value} {below : List Frame} {meth : Method} {c : Code} {A : Nat → Prop} (E : zE Z p s m args meth c RX3 cX3_makePrivateLinksNews 5 none A) {An : Nat → Nat} {v1 : Int32} {v2 : Int32} {v3 : Int32} {n_nodes : Int32} {n_links : Int32} {n_tunnels : Int32} {n_messages : Int32} {n_areas : (Nat → Int32)} {n_firsts : (Nat → Int32)} {n_seconds : (Nat → Int32)} {n_privates : (Nat → Int32)} {n_entries : (Nat → Int32)} {n_exits : (Nat → Int32)} {n_truth : (Nat → Int32)} {n_facts : (Nat → Int32)} {n_news : (Nat → Int64)} {res : (Nat → Int64)} {q1 : (Int32 × (Nat → Int64)) ⊕ ((Nat → Int64))} (hb1 : ∀ b : Int32 × (Nat → Int64), q1 = .inl b → ∀ (H : Heap) (locs : List Loc) (ls : Array Slot), zW Z A (wX3 Z An n_nodes n_links n_tunnels n_messages n_areas n_firsts n_seconds n_privates n_entries n_exits n_truth n_facts b.2) s.heap H locs → lv_has ls 5 [(0, .ref (An 0)), (1, .int v1), (2, .int v2), (3, .int b.1)] → W p l e rmX3_makePrivateLinksNews s m args below meth c H locs 0 0 (MQ below (zQv Z (wX3 Z An n_nodes n_links n_tunnels n_messages n_areas n_firsts n_seconds n_privates n_entries n_exits n_truth n_facts res) A) args s 0 0 A) (F0 m 2 ls [])) (hr1 : ∀ r' , q1 = .inr r' → r' = res) {H : Heap} {locs : List Loc} {ls : Array Slot} (hw : zW Z A (wX3 Z An n_nodes n_links n_tunnels n_messages n_areas n_firsts n_seconds n_privates n_entries n_exits n_truth n_facts n_news) s.heap H locs) (hl : lv_has ls 5 [(0, .ref (An 0)), (1, .int v1), (2, .int v2), (3, .int v3)]) (h : uX3_makePrivateLinksNews_52 v3 n_news = some q1) : W p l e rmX3_makePrivateLinksNews s m args below meth c H locs 0 0 (MQ below (zQv Z (wX3 Z An n_nodes n_links n_tunnels n_messages n_areas n_firsts n_seconds n_privates n_entries n_exits n_truth n_facts res) A) args s 0 0 A) (F0 m 52 ls []) := by
  unfold uX3_makePrivateLinksNews_52 at h
  obtain ⟨w4, hw4, h⟩ := nm_out h
  refine r_iinc E w4 [(3, .int w4), (0, .ref (An 0)), (1, .int v1), (2, .int v2)] hl (k := 3) rfl dX3_makePrivateLinksNews_52 hw4.symm (by decide) rfl (fun ls hl => ?_)
  refine r_goto E 2 dX3_makePrivateLinksNews_55 (by decide) ?_
  exact hb1 _ (Option.some.inj h).symm _ _ _ hw (lv_sub hl [1, 2, 3, 0] rfl)
set_option maxRecDepth 100000 in
set_option maxHeartbeats 4000000 in
theorem tX3_makePrivateLinksNews_2 {Z : zT} {p : Program} {l : Launch} {e : Env} {s : State} {m : MethodId} {args : Array Value} {below : List Frame} {meth : Method} {c : Code} {A : Nat → Prop} (E : zE Z p s m args meth c RX3 cX3_makePrivateLinksNews 5 none A) {An : Nat → Nat} {v1 : Int32} {v2 : Int32} {n_nodes : Int32} {n_links : Int32} {n_tunnels : Int32} {n_messages : Int32} {n_areas : (Nat → Int32)} {n_firsts : (Nat → Int32)} {n_seconds : (Nat → Int32)} {n_privates : (Nat → Int32)} {n_entries : (Nat → Int32)} {n_exits : (Nat → Int32)} {n_truth : (Nat → Int32)} {n_facts : (Nat → Int32)} {res : (Nat → Int64)}  : ∀ (n : Nat) (v3 : Int32) (n_news : (Nat → Int64)) (H : Heap) (locs : List Loc) (ls : Array Slot), iter (fun b : Int32 × (Nat → Int64) => sX3_makePrivateLinksNews_2 v1 v2 n_links n_areas n_firsts n_privates n_facts b.1 b.2) n (v3, n_news) = some res → zW Z A (wX3 Z An n_nodes n_links n_tunnels n_messages n_areas n_firsts n_seconds n_privates n_entries n_exits n_truth n_facts n_news) s.heap H locs → lv_has ls 5 [(0, .ref (An 0)), (1, .int v1), (2, .int v2), (3, .int v3)] → W p l e rmX3_makePrivateLinksNews s m args below meth c H locs 0 0 (MQ below (zQv Z (wX3 Z An n_nodes n_links n_tunnels n_messages n_areas n_firsts n_seconds n_privates n_entries n_exits n_truth n_facts res) A) args s 0 0 A) (F0 m 2 ls []) := by
  intro n
  induction n with
  | zero => intro v3 n_news H locs ls h; cases h
  | succ n ih =>
    intro v3 n_news H locs ls h hw hl
    obtain ⟨q1, h, hn1, hr1⟩ := iter_out h
    have hb1 : ∀ b : Int32 × (Nat → Int64), q1 = .inl b → ∀ (H : Heap) (locs : List Loc) (ls : Array Slot), zW Z A (wX3 Z An n_nodes n_links n_tunnels n_messages n_areas n_firsts n_seconds n_privates n_entries n_exits n_truth n_facts b.2) s.heap H locs → lv_has ls 5 [(0, .ref (An 0)), (1, .int v1), (2, .int v2), (3, .int b.1)] → W p l e rmX3_makePrivateLinksNews s m args below meth c H locs 0 0 (MQ below (zQv Z (wX3 Z An n_nodes n_links n_tunnels n_messages n_areas n_firsts n_seconds n_privates n_entries n_exits n_truth n_facts res) A) args s 0 0 A) (F0 m 2 ls []) := fun b eb H locs ls hw hl => ih b.1 b.2 H locs ls (hn1 b eb) hw hl
    replace h : sX3_makePrivateLinksNews_2 v1 v2 n_links n_areas n_firsts n_privates n_facts v3 n_news = some q1 := h
    unfold sX3_makePrivateLinksNews_2 at h
    refine r_iload_n E hl 3 rfl dX3_makePrivateLinksNews_2 rfl ?_
    refine r_aload_n E hl 0 rfl dX3_makePrivateLinksNews_3 rfl ?_
    refine r_get E kW_X3 hw 0 rfl rfl 1 (by decide) kF_X3_44 rfl dX3_makePrivateLinksNews_4 ?_
    refine r_icmp_ge E 58 dX3_makePrivateLinksNews_7 (by decide) (fun hc => ?_) (fun hc => ?_)
    · replace h := ite_t hc h
      obtain ⟨ro1, h, hro1⟩ := oi_some h
      rw [hr1 _ hro1] at h
      obtain rfl := Option.some.inj h
      exact r_vret E hw dX3_makePrivateLinksNews_58
    · replace h := ite_f hc h
      refine r_bipush E 16 dX3_makePrivateLinksNews_10 (by decide) ?_
      refine r_iload_n E hl 3 rfl dX3_makePrivateLinksNews_12 rfl ?_
      refine r_iadd E dX3_makePrivateLinksNews_13 ?_
      obtain ⟨w2, hw2, h⟩ := nm_out h
      refine r_nm hw2 ?_
      refine r_istore E [(4, .int w2), (0, .ref (An 0)), (1, .int v1), (2, .int v2), (3, .int v3)] hl dX3_makePrivateLinksNews_14 (by decide) rfl (fun ls hl => ?_)
      refine r_aload_n E hl 1 rfl dX3_makePrivateLinksNews_16 rfl ?_
      refine r_iload_n E hl 4 rfl dX3_makePrivateLinksNews_17 rfl ?_
      refine r_iload_n E hl 3 rfl dX3_makePrivateLinksNews_18 rfl ?_
      obtain ⟨y3, hy3, h⟩ := bd_some h
      refine r_callVAi E hw (mX3_isPrivateOf l Z _ An n_nodes n_links n_tunnels n_messages n_areas n_firsts n_seconds n_privates n_entries n_exits n_truth n_facts n_news v3 v2 hy3) kL_X3_132 kI_X3_isPrivateOf kS_X3_isPrivateOf kN_X3 kC_X3_isPrivateOf rfl rfl hdX3_isPrivateOf ⟨Nat.le_of_ble_eq_true rfl, Nat.le_of_ble_eq_true rfl⟩ 0 rfl rfl rfl rfl hl [] rfl (Nat.le_of_ble_eq_true rfl) dX3_makePrivateLinksNews_19 ⟨Nat.zero_le _, Nat.zero_le _⟩ (fun H locs hw => ?_)
      refine r_if_eq E 52 dX3_makePrivateLinksNews_22 (by decide) (fun hc => ?_) (fun hc => ?_)
      · replace h := ite_t hc h
        exact vX3_makePrivateLinksNews_52 E hb1 hr1 hw (lv_sub hl [1, 2, 3, 4] rfl) h
      · replace h := ite_f hc h
        refine r_aload_n E hl 1 rfl dX3_makePrivateLinksNews_25 rfl ?_
        refine r_get E kW_X3 hw 0 rfl rfl 11 (by decide) kF_X3_33 rfl dX3_makePrivateLinksNews_26 ?_
        refine r_iload_n E hl 2 rfl dX3_makePrivateLinksNews_29 rfl ?_
        refine r_iload E hl 0 rfl dX3_makePrivateLinksNews_30 ?_
        obtain ⟨y5, hy5, h⟩ := bd_some h
        refine r_callSN0i E hw (mX6_place l Z _ v1 w2 hy5) E.2.2.2.2.1.1 kT_X6_place kN_X6 kC_X6_place rfl rfl hdX6_place ⟨Nat.le_of_ble_eq_true rfl, Nat.le_of_ble_eq_true rfl⟩ rfl hl [.ref (An 8)] rfl (Nat.le_of_ble_eq_true rfl) dX3_makePrivateLinksNews_32 ⟨Nat.zero_le _, Nat.zero_le _⟩ (fun H locs hw => ?_)
        obtain ⟨hg6, h⟩ := gd_some h
        refine r_iald E hw 8 rfl hg6 dX3_makePrivateLinksNews_35 ?_
        refine r_if_eq E 52 dX3_makePrivateLinksNews_36 (by decide) (fun hc => ?_) (fun hc => ?_)
        · replace h := ite_t hc h
          exact vX3_makePrivateLinksNews_52 E hb1 hr1 hw (lv_sub hl [1, 2, 3, 4] rfl) h
        · replace h := ite_f hc h
          refine r_aload_n E hl 1 rfl dX3_makePrivateLinksNews_39 rfl ?_
          refine r_get E kW_X3 hw 0 rfl rfl 12 (by decide) kF_X3_36 rfl dX3_makePrivateLinksNews_40 ?_
          refine r_iload_n E hl 2 rfl dX3_makePrivateLinksNews_43 rfl ?_
          refine r_dup2 E dX3_makePrivateLinksNews_44 rfl rfl ?_
          obtain ⟨hg7, h⟩ := gd_some h
          refine r_lald E hw 9 rfl hg7 dX3_makePrivateLinksNews_45 ?_
          refine r_lconst E 1 dX3_makePrivateLinksNews_46 (by decide) ?_
          refine r_iload E hl 0 rfl dX3_makePrivateLinksNews_47 ?_
          refine r_lshl E dX3_makePrivateLinksNews_49 ?_
          refine r_lor E dX3_makePrivateLinksNews_50 ?_
          obtain ⟨hg8, h⟩ := gd_some h
          refine r_last E (wX3 Z An n_nodes n_links n_tunnels n_messages n_areas n_firsts n_seconds n_privates n_entries n_exits n_truth n_facts (vp_updL n_news (v1).toNatClampNeg ((n_news (v1).toNatClampNeg) ||| ((1 : Int64) <<< ((w2).toInt64 &&& 63))))) hw 9 rfl hg8 rfl dX3_makePrivateLinksNews_51 (fun H locs hw => ?_)
          exact vX3_makePrivateLinksNews_52 E hb1 hr1 hw (lv_sub hl [1, 2, 3, 4] rfl) h
set_option maxRecDepth 100000 in
set_option maxHeartbeats 4000000 in
theorem mX3_makePrivateLinksNews (l : Launch) (Z : zT) (sz : Nat) (An : Nat → Nat) (n_nodes : Int32) (n_links : Int32) (n_tunnels : Int32) (n_messages : Int32) (n_areas : (Nat → Int32)) (n_firsts : (Nat → Int32)) (n_seconds : (Nat → Int32)) (n_privates : (Nat → Int32)) (n_entries : (Nat → Int32)) (n_exits : (Nat → Int32)) (n_truth : (Nat → Int32)) (n_facts : (Nat → Int32)) (n_news : (Nat → Int64)) (v1 : Int32) (v2 : Int32) {res : (Nat → Int64)} (h : fX3_makePrivateLinksNews v1 v2 n_links n_areas n_firsts n_privates n_facts n_news = some res) : Met l yX3_makePrivateLinksNews (Cond.code yX3_makePrivateLinksNews cX3_makePrivateLinksNews 5 none :: zWs) rmX3_makePrivateLinksNews (zP Z (wX3 Z An n_nodes n_links n_tunnels n_messages n_areas n_firsts n_seconds n_privates n_entries n_exits n_truth n_facts n_news) sz [.ref (An 0), .int v1, .int v2]) (zQv Z (wX3 Z An n_nodes n_links n_tunnels n_messages n_areas n_firsts n_seconds n_privates n_entries n_exits n_truth n_facts res) (va_A (wX3 Z An n_nodes n_links n_tunnels n_messages n_areas n_firsts n_seconds n_privates n_entries n_exits n_truth n_facts n_news) sz)) 0 0 (va_A (wX3 Z An n_nodes n_links n_tunnels n_messages n_areas n_firsts n_seconds n_privates n_entries n_exits n_truth n_facts n_news) sz) := by
  refine zMet (own := RX3) (fun A => zQv Z (wX3 Z An n_nodes n_links n_tunnels n_messages n_areas n_firsts n_seconds n_privates n_entries n_exits n_truth n_facts res) A) (by decide) rfl (Nat.le_of_ble_eq_true rfl) ?_
  intro p e s m args below meth c ls A E hw hl
  unfold fX3_makePrivateLinksNews at h
  refine r_iconst E 0 dX3_makePrivateLinksNews_0 (by decide) ?_
  refine r_istore_n E [(3, .int (0 : Int32)), (0, .ref (An 0)), (1, .int v1), (2, .int v2)] hl dX3_makePrivateLinksNews_1 rfl (by decide) rfl (fun ls hl => ?_)
  obtain ⟨n9, h⟩ := wh_some h
  exact tX3_makePrivateLinksNews_2 E  n9 _ _ _ _ _ h hw (lv_sub hl [1, 2, 3, 0] rfl)
abbrev rmX3_forgetPrivateLinks : Room := { frames := 1, cells := 0, slots := 0, locals := 22 }

set_option maxRecDepth 100000 in
set_option maxHeartbeats 4000000 in
theorem vX3_forgetPrivateLinks_63 {Z : zT} {p : Program} {l : Launch} {e : Env} {s : State} {m : MethodId} {args : Array Value} {below : List Frame} {meth : Method} {c : Code} {A : Nat → Prop} (E : zE Z p s m args meth c RX3 cX3_forgetPrivateLinks 5 none A) {An : Nat → Nat} {v1 : Int32} {v2 : Int32} {v3 : Int32} {n_nodes : Int32} {n_links : Int32} {n_tunnels : Int32} {n_messages : Int32} {n_areas : (Nat → Int32)} {n_firsts : (Nat → Int32)} {n_seconds : (Nat → Int32)} {n_privates : (Nat → Int32)} {n_entries : (Nat → Int32)} {n_exits : (Nat → Int32)} {n_truth : (Nat → Int32)} {n_facts : (Nat → Int32)} {n_news : (Nat → Int64)} {res : (Nat → Int32) × (Nat → Int64)} {q1 : (Int32 × (Nat → Int32) × (Nat → Int64)) ⊕ ((Nat → Int32) × (Nat → Int64))} (hb1 : ∀ b : Int32 × (Nat → Int32) × (Nat → Int64), q1 = .inl b → ∀ (H : Heap) (locs : List Loc) (ls : Array Slot), zW Z A (wX3 Z An n_nodes n_links n_tunnels n_messages n_areas n_firsts n_seconds n_privates n_entries n_exits n_truth b.2.1 b.2.2) s.heap H locs → lv_has ls 5 [(0, .ref (An 0)), (1, .int v1), (2, .int v2), (3, .int b.1)] → W p l e rmX3_forgetPrivateLinks s m args below meth c H locs 0 0 (MQ below (zQv Z (wX3 Z An n_nodes n_links n_tunnels n_messages n_areas n_firsts n_seconds n_privates n_entries n_exits n_truth res.1 res.2) A) args s 0 0 A) (F0 m 2 ls [])) (hr1 : ∀ r' , q1 = .inr r' → r' = res) {H : Heap} {locs : List Loc} {ls : Array Slot} (hw : zW Z A (wX3 Z An n_nodes n_links n_tunnels n_messages n_areas n_firsts n_seconds n_privates n_entries n_exits n_truth n_facts n_news) s.heap H locs) (hl : lv_has ls 5 [(0, .ref (An 0)), (1, .int v1), (2, .int v2), (3, .int v3)]) (h : uX3_forgetPrivateLinks_63 v3 n_facts n_news = some q1) : W p l e rmX3_forgetPrivateLinks s m args below meth c H locs 0 0 (MQ below (zQv Z (wX3 Z An n_nodes n_links n_tunnels n_messages n_areas n_firsts n_seconds n_privates n_entries n_exits n_truth res.1 res.2) A) args s 0 0 A) (F0 m 63 ls []) := by
  unfold uX3_forgetPrivateLinks_63 at h
  obtain ⟨w4, hw4, h⟩ := nm_out h
  refine r_iinc E w4 [(3, .int w4), (0, .ref (An 0)), (1, .int v1), (2, .int v2)] hl (k := 3) rfl dX3_forgetPrivateLinks_63 hw4.symm (by decide) rfl (fun ls hl => ?_)
  refine r_goto E 2 dX3_forgetPrivateLinks_66 (by decide) ?_
  exact hb1 _ (Option.some.inj h).symm _ _ _ hw (lv_sub hl [1, 2, 3, 0] rfl)
set_option maxRecDepth 100000 in
set_option maxHeartbeats 4000000 in
theorem tX3_forgetPrivateLinks_2 {Z : zT} {p : Program} {l : Launch} {e : Env} {s : State} {m : MethodId} {args : Array Value} {below : List Frame} {meth : Method} {c : Code} {A : Nat → Prop} (E : zE Z p s m args meth c RX3 cX3_forgetPrivateLinks 5 none A) {An : Nat → Nat} {v1 : Int32} {v2 : Int32} {n_nodes : Int32} {n_links : Int32} {n_tunnels : Int32} {n_messages : Int32} {n_areas : (Nat → Int32)} {n_firsts : (Nat → Int32)} {n_seconds : (Nat → Int32)} {n_privates : (Nat → Int32)} {n_entries : (Nat → Int32)} {n_exits : (Nat → Int32)} {n_truth : (Nat → Int32)} {res : (Nat → Int32) × (Nat → Int64)}  : ∀ (n : Nat) (v3 : Int32) (n_facts : (Nat → Int32)) (n_news : (Nat → Int64)) (H : Heap) (locs : List Loc) (ls : Array Slot), iter (fun b : Int32 × (Nat → Int32) × (Nat → Int64) => sX3_forgetPrivateLinks_2 v1 v2 n_links n_areas n_firsts n_seconds n_privates b.1 b.2.1 b.2.2) n (v3, n_facts, n_news) = some res → zW Z A (wX3 Z An n_nodes n_links n_tunnels n_messages n_areas n_firsts n_seconds n_privates n_entries n_exits n_truth n_facts n_news) s.heap H locs → lv_has ls 5 [(0, .ref (An 0)), (1, .int v1), (2, .int v2), (3, .int v3)] → W p l e rmX3_forgetPrivateLinks s m args below meth c H locs 0 0 (MQ below (zQv Z (wX3 Z An n_nodes n_links n_tunnels n_messages n_areas n_firsts n_seconds n_privates n_entries n_exits n_truth res.1 res.2) A) args s 0 0 A) (F0 m 2 ls []) := by
  intro n
  induction n with
  | zero => intro v3 n_facts n_news H locs ls h; cases h
  | succ n ih =>
    intro v3 n_facts n_news H locs ls h hw hl
    obtain ⟨q1, h, hn1, hr1⟩ := iter_out h
    have hb1 : ∀ b : Int32 × (Nat → Int32) × (Nat → Int64), q1 = .inl b → ∀ (H : Heap) (locs : List Loc) (ls : Array Slot), zW Z A (wX3 Z An n_nodes n_links n_tunnels n_messages n_areas n_firsts n_seconds n_privates n_entries n_exits n_truth b.2.1 b.2.2) s.heap H locs → lv_has ls 5 [(0, .ref (An 0)), (1, .int v1), (2, .int v2), (3, .int b.1)] → W p l e rmX3_forgetPrivateLinks s m args below meth c H locs 0 0 (MQ below (zQv Z (wX3 Z An n_nodes n_links n_tunnels n_messages n_areas n_firsts n_seconds n_privates n_entries n_exits n_truth res.1 res.2) A) args s 0 0 A) (F0 m 2 ls []) := fun b eb H locs ls hw hl => ih b.1 b.2.1 b.2.2 H locs ls (hn1 b eb) hw hl
    replace h : sX3_forgetPrivateLinks_2 v1 v2 n_links n_areas n_firsts n_seconds n_privates v3 n_facts n_news = some q1 := h
    unfold sX3_forgetPrivateLinks_2 at h
    refine r_iload_n E hl 3 rfl dX3_forgetPrivateLinks_2 rfl ?_
    refine r_aload_n E hl 0 rfl dX3_forgetPrivateLinks_3 rfl ?_
    refine r_get E kW_X3 hw 0 rfl rfl 1 (by decide) kF_X3_44 rfl dX3_forgetPrivateLinks_4 ?_
    refine r_icmp_ge E 69 dX3_forgetPrivateLinks_7 (by decide) (fun hc => ?_) (fun hc => ?_)
    · replace h := ite_t hc h
      obtain ⟨ro1, h, hro1⟩ := oi_some h
      rw [hr1 _ hro1] at h
      obtain rfl := Option.some.inj h
      exact r_vret E hw dX3_forgetPrivateLinks_69
    · replace h := ite_f hc h
      refine r_bipush E 16 dX3_forgetPrivateLinks_10 (by decide) ?_
      refine r_iload_n E hl 3 rfl dX3_forgetPrivateLinks_12 rfl ?_
      refine r_iadd E dX3_forgetPrivateLinks_13 ?_
      obtain ⟨w2, hw2, h⟩ := nm_out h
      refine r_nm hw2 ?_
      refine r_istore E [(4, .int w2), (0, .ref (An 0)), (1, .int v1), (2, .int v2), (3, .int v3)] hl dX3_forgetPrivateLinks_14 (by decide) rfl (fun ls hl => ?_)
      refine r_aload_n E hl 1 rfl dX3_forgetPrivateLinks_16 rfl ?_
      refine r_iload_n E hl 4 rfl dX3_forgetPrivateLinks_17 rfl ?_
      refine r_iload_n E hl 3 rfl dX3_forgetPrivateLinks_18 rfl ?_
      obtain ⟨y3, hy3, h⟩ := bd_some h
      refine r_callVAi E hw (mX3_isPrivateOf l Z _ An n_nodes n_links n_tunnels n_messages n_areas n_firsts n_seconds n_privates n_entries n_exits n_truth n_facts n_news v3 v2 hy3) kL_X3_132 kI_X3_isPrivateOf kS_X3_isPrivateOf kN_X3 kC_X3_isPrivateOf rfl rfl hdX3_isPrivateOf ⟨Nat.le_of_ble_eq_true rfl, Nat.le_of_ble_eq_true rfl⟩ 0 rfl rfl rfl rfl hl [] rfl (Nat.le_of_ble_eq_true rfl) dX3_forgetPrivateLinks_19 ⟨Nat.zero_le _, Nat.zero_le _⟩ (fun H locs hw => ?_)
      refine r_if_eq E 63 dX3_forgetPrivateLinks_22 (by decide) (fun hc => ?_) (fun hc => ?_)
      · replace h := ite_t hc h
        exact vX3_forgetPrivateLinks_63 E hb1 hr1 hw (lv_sub hl [1, 2, 3, 4] rfl) h
      · replace h := ite_f hc h
        refine r_aload_n E hl 1 rfl dX3_forgetPrivateLinks_25 rfl ?_
        refine r_iload_n E hl 2 rfl dX3_forgetPrivateLinks_26 rfl ?_
        refine r_iload_n E hl 4 rfl dX3_forgetPrivateLinks_27 rfl ?_
        obtain ⟨y5, hy5, h⟩ := bd_some h
        refine r_callVAi E hw (mX3_isEnd l Z _ An n_nodes n_links n_tunnels n_messages n_areas n_firsts n_seconds n_privates n_entries n_exits n_truth n_facts n_news v1 v3 hy5) kL_X3_129 kI_X3_isEnd kS_X3_isEnd kN_X3 kC_X3_isEnd rfl rfl hdX3_isEnd ⟨Nat.le_of_ble_eq_true rfl, Nat.le_of_ble_eq_true rfl⟩ 0 rfl rfl rfl rfl hl [] rfl (Nat.le_of_ble_eq_true rfl) dX3_forgetPrivateLinks_28 ⟨Nat.zero_le _, Nat.zero_le _⟩ (fun H locs hw => ?_)
        refine r_if_ne E 63 dX3_forgetPrivateLinks_31 (by decide) (fun hc => ?_) (fun hc => ?_)
        · replace h := ite_f hc h
          exact vX3_forgetPrivateLinks_63 E hb1 hr1 hw (lv_sub hl [1, 2, 3, 4] rfl) h
        · replace h := ite_t hc h
          refine r_aload_n E hl 1 rfl dX3_forgetPrivateLinks_34 rfl ?_
          refine r_get E kW_X3 hw 0 rfl rfl 11 (by decide) kF_X3_33 rfl dX3_forgetPrivateLinks_35 ?_
          refine r_iload_n E hl 2 rfl dX3_forgetPrivateLinks_38 rfl ?_
          refine r_iload E hl 0 rfl dX3_forgetPrivateLinks_39 ?_
          obtain ⟨y6, hy6, h⟩ := bd_some h
          refine r_callSN0i E hw (mX6_place l Z _ v1 w2 hy6) E.2.2.2.2.1.1 kT_X6_place kN_X6 kC_X6_place rfl rfl hdX6_place ⟨Nat.le_of_ble_eq_true rfl, Nat.le_of_ble_eq_true rfl⟩ rfl hl [.ref (An 8)] rfl (Nat.le_of_ble_eq_true rfl) dX3_forgetPrivateLinks_41 ⟨Nat.zero_le _, Nat.zero_le _⟩ (fun H locs hw => ?_)
          refine r_iconst E 0 dX3_forgetPrivateLinks_44 (by decide) ?_
          obtain ⟨hg7, h⟩ := gd_some h
          refine r_iast E (wX3 Z An n_nodes n_links n_tunnels n_messages n_areas n_firsts n_seconds n_privates n_entries n_exits n_truth (upd n_facts (y6).toNatClampNeg (0 : Int32)) n_news) hw 8 rfl hg7 rfl dX3_forgetPrivateLinks_45 (fun H locs hw => ?_)
          refine r_aload_n E hl 1 rfl dX3_forgetPrivateLinks_46 rfl ?_
          refine r_get E kW_X3 hw 0 rfl rfl 12 (by decide) kF_X3_36 rfl dX3_forgetPrivateLinks_47 ?_
          refine r_iload_n E hl 2 rfl dX3_forgetPrivateLinks_50 rfl ?_
          refine r_dup2 E dX3_forgetPrivateLinks_51 rfl rfl ?_
          obtain ⟨hg8, h⟩ := gd_some h
          refine r_lald E hw 9 rfl hg8 dX3_forgetPrivateLinks_52 ?_
          refine r_lconst E 1 dX3_forgetPrivateLinks_53 (by decide) ?_
          refine r_iload E hl 0 rfl dX3_forgetPrivateLinks_54 ?_
          refine r_lshl E dX3_forgetPrivateLinks_56 ?_
          refine r_ldc2 E (-1) kQ_X3_135 dX3_forgetPrivateLinks_57 ?_
          refine r_lxor E dX3_forgetPrivateLinks_60 ?_
          refine r_land E dX3_forgetPrivateLinks_61 ?_
          obtain ⟨hg9, h⟩ := gd_some h
          refine r_last E (wX3 Z An n_nodes n_links n_tunnels n_messages n_areas n_firsts n_seconds n_privates n_entries n_exits n_truth (upd n_facts (y6).toNatClampNeg (0 : Int32)) (vp_updL n_news (v1).toNatClampNeg ((n_news (v1).toNatClampNeg) &&& (((1 : Int64) <<< ((w2).toInt64 &&& 63)) ^^^ (-1 : Int64))))) hw 9 rfl hg9 rfl dX3_forgetPrivateLinks_62 (fun H locs hw => ?_)
          exact vX3_forgetPrivateLinks_63 E hb1 hr1 hw (lv_sub hl [1, 2, 3, 4] rfl) h
set_option maxRecDepth 100000 in
set_option maxHeartbeats 4000000 in
theorem mX3_forgetPrivateLinks (l : Launch) (Z : zT) (sz : Nat) (An : Nat → Nat) (n_nodes : Int32) (n_links : Int32) (n_tunnels : Int32) (n_messages : Int32) (n_areas : (Nat → Int32)) (n_firsts : (Nat → Int32)) (n_seconds : (Nat → Int32)) (n_privates : (Nat → Int32)) (n_entries : (Nat → Int32)) (n_exits : (Nat → Int32)) (n_truth : (Nat → Int32)) (n_facts : (Nat → Int32)) (n_news : (Nat → Int64)) (v1 : Int32) (v2 : Int32) {res : (Nat → Int32) × (Nat → Int64)} (h : fX3_forgetPrivateLinks v1 v2 n_links n_areas n_firsts n_seconds n_privates n_facts n_news = some res) : Met l yX3_forgetPrivateLinks (Cond.code yX3_forgetPrivateLinks cX3_forgetPrivateLinks 5 none :: zWs) rmX3_forgetPrivateLinks (zP Z (wX3 Z An n_nodes n_links n_tunnels n_messages n_areas n_firsts n_seconds n_privates n_entries n_exits n_truth n_facts n_news) sz [.ref (An 0), .int v1, .int v2]) (zQv Z (wX3 Z An n_nodes n_links n_tunnels n_messages n_areas n_firsts n_seconds n_privates n_entries n_exits n_truth res.1 res.2) (va_A (wX3 Z An n_nodes n_links n_tunnels n_messages n_areas n_firsts n_seconds n_privates n_entries n_exits n_truth n_facts n_news) sz)) 0 0 (va_A (wX3 Z An n_nodes n_links n_tunnels n_messages n_areas n_firsts n_seconds n_privates n_entries n_exits n_truth n_facts n_news) sz) := by
  refine zMet (own := RX3) (fun A => zQv Z (wX3 Z An n_nodes n_links n_tunnels n_messages n_areas n_firsts n_seconds n_privates n_entries n_exits n_truth res.1 res.2) A) (by decide) rfl (Nat.le_of_ble_eq_true rfl) ?_
  intro p e s m args below meth c ls A E hw hl
  unfold fX3_forgetPrivateLinks at h
  refine r_iconst E 0 dX3_forgetPrivateLinks_0 (by decide) ?_
  refine r_istore_n E [(3, .int (0 : Int32)), (0, .ref (An 0)), (1, .int v1), (2, .int v2)] hl dX3_forgetPrivateLinks_1 rfl (by decide) rfl (fun ls hl => ?_)
  obtain ⟨n10, h⟩ := wh_some h
  exact tX3_forgetPrivateLinks_2 E  n10 _ _ _ _ _ _ h hw (lv_sub hl [1, 2, 3, 0] rfl)
abbrev rmX3_learn : Room := { frames := 2, cells := 0, slots := 0, locals := 47 }

set_option maxRecDepth 100000 in
set_option maxHeartbeats 4000000 in
theorem mX3_learn (l : Launch) (Z : zT) (sz : Nat) (An : Nat → Nat) (n_nodes : Int32) (n_links : Int32) (n_tunnels : Int32) (n_messages : Int32) (n_areas : (Nat → Int32)) (n_firsts : (Nat → Int32)) (n_seconds : (Nat → Int32)) (n_privates : (Nat → Int32)) (n_entries : (Nat → Int32)) (n_exits : (Nat → Int32)) (n_truth : (Nat → Int32)) (n_facts : (Nat → Int32)) (n_news : (Nat → Int64)) (v1 : Int32) (v2 : Int32) (v3 : Int32) {res : (Nat → Int32) × (Nat → Int64)} (h : fX3_learn v1 v2 v3 n_links n_areas n_firsts n_seconds n_privates n_facts n_news = some res) : Met l yX3_learn (Cond.code yX3_learn cX3_learn 5 none :: zWs) rmX3_learn (zP Z (wX3 Z An n_nodes n_links n_tunnels n_messages n_areas n_firsts n_seconds n_privates n_entries n_exits n_truth n_facts n_news) sz [.ref (An 0), .int v1, .int v2, .int v3]) (zQv Z (wX3 Z An n_nodes n_links n_tunnels n_messages n_areas n_firsts n_seconds n_privates n_entries n_exits n_truth res.1 res.2) (va_A (wX3 Z An n_nodes n_links n_tunnels n_messages n_areas n_firsts n_seconds n_privates n_entries n_exits n_truth n_facts n_news) sz)) 0 0 (va_A (wX3 Z An n_nodes n_links n_tunnels n_messages n_areas n_firsts n_seconds n_privates n_entries n_exits n_truth n_facts n_news) sz) := by
  refine zMet (own := RX3) (fun A => zQv Z (wX3 Z An n_nodes n_links n_tunnels n_messages n_areas n_firsts n_seconds n_privates n_entries n_exits n_truth res.1 res.2) A) (by decide) rfl (Nat.le_of_ble_eq_true rfl) ?_
  intro p e s m args below meth c ls A E hw hl
  unfold fX3_learn at h
  refine r_iload_n E hl 1 rfl dX3_learn_0 rfl ?_
  refine r_iload_n E hl 2 rfl dX3_learn_1 rfl ?_
  obtain ⟨y1, hy1, h⟩ := bd_some h
  refine r_callSN0i E hw (mX6_place l Z _ v1 v2 hy1) E.2.2.2.2.1.1 kT_X6_place kN_X6 kC_X6_place rfl rfl hdX6_place ⟨Nat.le_of_ble_eq_true rfl, Nat.le_of_ble_eq_true rfl⟩ rfl hl [] rfl (Nat.le_of_ble_eq_true rfl) dX3_learn_2 ⟨Nat.zero_le _, Nat.zero_le _⟩ (fun H locs hw => ?_)
  refine r_istore E [(4, .int y1), (0, .ref (An 0)), (1, .int v1), (2, .int v2), (3, .int v3)] hl dX3_learn_5 (by decide) rfl (fun ls hl => ?_)
  refine r_aload_n E hl 1 rfl dX3_learn_7 rfl ?_
  refine r_iload_n E hl 2 rfl dX3_learn_8 rfl ?_
  refine r_iload_n E hl 3 rfl dX3_learn_9 rfl ?_
  obtain ⟨y2, hy2, h⟩ := bd_some h
  refine r_callVAi E hw (mX3_mayKnow l Z _ An n_nodes n_links n_tunnels n_messages n_areas n_firsts n_seconds n_privates n_entries n_exits n_truth n_facts n_news v1 v2 hy2) kL_X3_105 kI_X3_mayKnow kS_X3_mayKnow kN_X3 kC_X3_mayKnow rfl rfl hdX3_mayKnow ⟨Nat.le_of_ble_eq_true rfl, Nat.le_of_ble_eq_true rfl⟩ 0 rfl rfl rfl rfl hl [] rfl (Nat.le_of_ble_eq_true rfl) dX3_learn_10 ⟨Nat.zero_le _, Nat.zero_le _⟩ (fun H locs hw => ?_)
  refine r_if_eq E 33 dX3_learn_13 (by decide) (fun hc => ?_) (fun hc => ?_)
  · replace h := ite_t hc h
    obtain rfl := Option.some.inj h
    exact r_vret E hw dX3_learn_33
  · replace h := ite_f hc h
    refine r_aload_n E hl 1 rfl dX3_learn_16 rfl ?_
    refine r_get E kW_X3 hw 0 rfl rfl 11 (by decide) kF_X3_33 rfl dX3_learn_17 ?_
    refine r_iload E hl 0 rfl dX3_learn_20 ?_
    obtain ⟨hg3, h⟩ := gd_some h
    refine r_iald E hw 8 rfl hg3 dX3_learn_22 ?_
    obtain ⟨y4, hy4, h⟩ := bd_some h
    refine r_callS0i E hw (mX0_version l Z _ (n_facts (y1).toNatClampNeg) hy4) kL_X3_96 kT_X0_version kN_X0 kC_X0_version rfl rfl hdX0_version ⟨Nat.le_of_ble_eq_true rfl, Nat.le_of_ble_eq_true rfl⟩ rfl hl [] rfl (Nat.le_of_ble_eq_true rfl) dX3_learn_23 ⟨Nat.zero_le _, Nat.zero_le _⟩ (fun H locs hw => ?_)
    refine r_iload_n E hl 4 rfl dX3_learn_26 rfl ?_
    obtain ⟨y5, hy5, h⟩ := bd_some h
    refine r_callS0i E hw (mX0_version l Z _ v3 hy5) kL_X3_96 kT_X0_version kN_X0 kC_X0_version rfl rfl hdX0_version ⟨Nat.le_of_ble_eq_true rfl, Nat.le_of_ble_eq_true rfl⟩ rfl hl [.int y4] rfl (Nat.le_of_ble_eq_true rfl) dX3_learn_27 ⟨Nat.zero_le _, Nat.zero_le _⟩ (fun H locs hw => ?_)
    refine r_icmp_lt E 34 dX3_learn_30 (by decide) (fun hc => ?_) (fun hc => ?_)
    · replace h := ite_t hc h
      refine r_aload_n E hl 1 rfl dX3_learn_34 rfl ?_
      refine r_get E kW_X3 hw 0 rfl rfl 11 (by decide) kF_X3_33 rfl dX3_learn_35 ?_
      refine r_iload E hl 0 rfl dX3_learn_38 ?_
      refine r_iload_n E hl 4 rfl dX3_learn_40 rfl ?_
      obtain ⟨hg6, h⟩ := gd_some h
      refine r_iast E (wX3 Z An n_nodes n_links n_tunnels n_messages n_areas n_firsts n_seconds n_privates n_entries n_exits n_truth (upd n_facts (y1).toNatClampNeg v3) n_news) hw 8 rfl hg6 rfl dX3_learn_41 (fun H locs hw => ?_)
      refine r_aload_n E hl 1 rfl dX3_learn_42 rfl ?_
      refine r_get E kW_X3 hw 0 rfl rfl 12 (by decide) kF_X3_36 rfl dX3_learn_43 ?_
      refine r_iload_n E hl 2 rfl dX3_learn_46 rfl ?_
      refine r_dup2 E dX3_learn_47 rfl rfl ?_
      obtain ⟨hg7, h⟩ := gd_some h
      refine r_lald E hw 9 rfl hg7 dX3_learn_48 ?_
      refine r_lconst E 1 dX3_learn_49 (by decide) ?_
      refine r_iload_n E hl 3 rfl dX3_learn_50 rfl ?_
      refine r_lshl E dX3_learn_51 ?_
      refine r_lor E dX3_learn_52 ?_
      obtain ⟨hg8, h⟩ := gd_some h
      refine r_last E (wX3 Z An n_nodes n_links n_tunnels n_messages n_areas n_firsts n_seconds n_privates n_entries n_exits n_truth (upd n_facts (y1).toNatClampNeg v3) (vp_updL n_news (v1).toNatClampNeg ((n_news (v1).toNatClampNeg) ||| ((1 : Int64) <<< ((v2).toInt64 &&& 63))))) hw 9 rfl hg8 rfl dX3_learn_53 (fun H locs hw => ?_)
      refine r_iload_n E hl 3 rfl dX3_learn_54 rfl ?_
      refine r_bipush E 16 dX3_learn_55 (by decide) ?_
      refine r_icmp_ge E 102 dX3_learn_57 (by decide) (fun hc => ?_) (fun hc => ?_)
      · replace h := ite_t hc h
        obtain rfl := Option.some.inj h
        exact r_vret E hw dX3_learn_102
      · replace h := ite_f hc h
        refine r_iload_n E hl 4 rfl dX3_learn_60 rfl ?_
        obtain ⟨y9, hy9, h⟩ := bd_some h
        refine r_callS0i E hw (mX0_state l Z _ v3 hy9) kL_X3_74 kT_X0_state kN_X0 kC_X0_state rfl rfl hdX0_state ⟨Nat.le_of_ble_eq_true rfl, Nat.le_of_ble_eq_true rfl⟩ rfl hl [] rfl (Nat.le_of_ble_eq_true rfl) dX3_learn_61 ⟨Nat.zero_le _, Nat.zero_le _⟩ (fun H locs hw => ?_)
        refine r_iconst E 1 dX3_learn_64 (by decide) ?_
        refine r_icmp_ne E 80 dX3_learn_65 (by decide) (fun hc => ?_) (fun hc => ?_)
        · replace h := ite_f hc h
          refine r_iload_n E hl 3 rfl dX3_learn_80 rfl ?_
          obtain ⟨y10, hy10, h⟩ := bd_some h
          refine r_callSN0i E hw (mX6_grantArea l Z _ v2 hy10) E.2.2.2.2.1.2.2.2.1 kT_X6_grantArea kN_X6 kC_X6_grantArea rfl rfl hdX6_grantArea ⟨Nat.le_of_ble_eq_true rfl, Nat.le_of_ble_eq_true rfl⟩ rfl hl [] rfl (Nat.le_of_ble_eq_true rfl) dX3_learn_81 ⟨Nat.zero_le _, Nat.zero_le _⟩ (fun H locs hw => ?_)
          refine r_aload_n E hl 1 rfl dX3_learn_84 rfl ?_
          refine r_get E kW_X3 hw 0 rfl rfl 4 (by decide) kF_X3_9 rfl dX3_learn_85 ?_
          refine r_iload_n E hl 2 rfl dX3_learn_88 rfl ?_
          obtain ⟨hg11, h⟩ := gd_some h
          refine r_iald E hw 1 rfl hg11 dX3_learn_89 ?_
          refine r_icmp_ne E 102 dX3_learn_90 (by decide) (fun hc => ?_) (fun hc => ?_)
          · replace h := ite_f hc h
            obtain rfl := Option.some.inj h
            exact r_vret E hw dX3_learn_102
          · replace h := ite_t hc h
            refine r_aload_n E hl 1 rfl dX3_learn_93 rfl ?_
            refine r_iload_n E hl 2 rfl dX3_learn_94 rfl ?_
            refine r_iload_n E hl 3 rfl dX3_learn_95 rfl ?_
            obtain ⟨y12, hy12, h⟩ := bd_some h
            refine r_callSN0i E hw (mX6_grantOwner l Z _ v2 hy12) E.2.2.2.2.1.2.2.1 kT_X6_grantOwner kN_X6 kC_X6_grantOwner rfl rfl hdX6_grantOwner ⟨Nat.le_of_ble_eq_true rfl, Nat.le_of_ble_eq_true rfl⟩ rfl hl [.int v1, .ref (An 0)] rfl (Nat.le_of_ble_eq_true rfl) dX3_learn_96 ⟨Nat.zero_le _, Nat.zero_le _⟩ (fun H locs hw => ?_)
            obtain ⟨y13, hy13, h⟩ := bd_some h
            refine r_callVAv E hw (mX3_forgetPrivateLinks l Z _ An n_nodes n_links n_tunnels n_messages n_areas n_firsts n_seconds n_privates n_entries n_exits n_truth (upd n_facts (y1).toNatClampNeg v3) (vp_updL n_news (v1).toNatClampNeg ((n_news (v1).toNatClampNeg) ||| ((1 : Int64) <<< ((v2).toInt64 &&& 63)))) v1 y12 hy13) kL_X3_119 kI_X3_forgetPrivateLinks kS_X3_forgetPrivateLinks kN_X3 kC_X3_forgetPrivateLinks rfl rfl hdX3_forgetPrivateLinks ⟨Nat.le_of_ble_eq_true rfl, Nat.le_of_ble_eq_true rfl⟩ 0 rfl rfl rfl rfl hl [] rfl (Nat.le_of_ble_eq_true rfl) dX3_learn_99 ⟨Nat.zero_le _, Nat.zero_le _⟩ (fun H locs hw => ?_)
            obtain rfl := Option.some.inj h
            exact r_vret E hw dX3_learn_102
        · replace h := ite_t hc h
          refine r_aload_n E hl 1 rfl dX3_learn_68 rfl ?_
          refine r_iload_n E hl 2 rfl dX3_learn_69 rfl ?_
          refine r_iload_n E hl 3 rfl dX3_learn_70 rfl ?_
          obtain ⟨y14, hy14, h⟩ := bd_some h
          refine r_callSN0i E hw (mX6_grantOwner l Z _ v2 hy14) E.2.2.2.2.1.2.2.1 kT_X6_grantOwner kN_X6 kC_X6_grantOwner rfl rfl hdX6_grantOwner ⟨Nat.le_of_ble_eq_true rfl, Nat.le_of_ble_eq_true rfl⟩ rfl hl [.int v1, .ref (An 0)] rfl (Nat.le_of_ble_eq_true rfl) dX3_learn_71 ⟨Nat.zero_le _, Nat.zero_le _⟩ (fun H locs hw => ?_)
          obtain ⟨y15, hy15, h⟩ := bd_some h
          refine r_callVAv E hw (mX3_makePrivateLinksNews l Z _ An n_nodes n_links n_tunnels n_messages n_areas n_firsts n_seconds n_privates n_entries n_exits n_truth (upd n_facts (y1).toNatClampNeg v3) (vp_updL n_news (v1).toNatClampNeg ((n_news (v1).toNatClampNeg) ||| ((1 : Int64) <<< ((v2).toInt64 &&& 63)))) v1 y14 hy15) kL_X3_112 kI_X3_makePrivateLinksNews kS_X3_makePrivateLinksNews kN_X3 kC_X3_makePrivateLinksNews rfl rfl hdX3_makePrivateLinksNews ⟨Nat.le_of_ble_eq_true rfl, Nat.le_of_ble_eq_true rfl⟩ 0 rfl rfl rfl rfl hl [] rfl (Nat.le_of_ble_eq_true rfl) dX3_learn_74 ⟨Nat.zero_le _, Nat.zero_le _⟩ (fun H locs hw => ?_)
          refine r_goto E 102 dX3_learn_77 (by decide) ?_
          obtain rfl := Option.some.inj h
          exact r_vret E hw dX3_learn_102
    · replace h := ite_f hc h
      obtain rfl := Option.some.inj h
      exact r_vret E hw dX3_learn_33
abbrev rmX3_change : Room := { frames := 1, cells := 0, slots := 0, locals := 22 }

set_option maxRecDepth 100000 in
set_option maxHeartbeats 4000000 in
theorem mX3_change (l : Launch) (Z : zT) (sz : Nat) (An : Nat → Nat) (n_nodes : Int32) (n_links : Int32) (n_tunnels : Int32) (n_messages : Int32) (n_areas : (Nat → Int32)) (n_firsts : (Nat → Int32)) (n_seconds : (Nat → Int32)) (n_privates : (Nat → Int32)) (n_entries : (Nat → Int32)) (n_exits : (Nat → Int32)) (n_truth : (Nat → Int32)) (n_facts : (Nat → Int32)) (n_news : (Nat → Int64)) (v1 : Int32) (v2 : Int32) (v3 : Int32) {res : Int32 × (Nat → Int32)} (h : fX3_change v1 v2 v3 n_truth = some res) : Met l yX3_change (Cond.code yX3_change cX3_change 5 (some .int) :: zWs) rmX3_change (zP Z (wX3 Z An n_nodes n_links n_tunnels n_messages n_areas n_firsts n_seconds n_privates n_entries n_exits n_truth n_facts n_news) sz [.ref (An 0), .int v1, .int v2, .int v3]) (zQi Z res.1 (wX3 Z An n_nodes n_links n_tunnels n_messages n_areas n_firsts n_seconds n_privates n_entries n_exits res.2 n_facts n_news) (va_A (wX3 Z An n_nodes n_links n_tunnels n_messages n_areas n_firsts n_seconds n_privates n_entries n_exits n_truth n_facts n_news) sz)) 0 0 (va_A (wX3 Z An n_nodes n_links n_tunnels n_messages n_areas n_firsts n_seconds n_privates n_entries n_exits n_truth n_facts n_news) sz) := by
  refine zMet (own := RX3) (fun A => zQi Z res.1 (wX3 Z An n_nodes n_links n_tunnels n_messages n_areas n_firsts n_seconds n_privates n_entries n_exits res.2 n_facts n_news) A) (by decide) rfl (Nat.le_of_ble_eq_true rfl) ?_
  intro p e s m args below meth c ls A E hw hl
  unfold fX3_change at h
  refine r_aload_n E hl 0 rfl dX3_change_0 rfl ?_
  refine r_get E kW_X3 hw 0 rfl rfl 10 (by decide) kF_X3_30 rfl dX3_change_1 ?_
  refine r_iload_n E hl 1 rfl dX3_change_4 rfl ?_
  obtain ⟨hg1, h⟩ := gd_some h
  refine r_iald E hw 7 rfl hg1 dX3_change_5 ?_
  obtain ⟨y2, hy2, h⟩ := bd_some h
  refine r_callS0i E hw (mX0_version l Z _ (n_truth (v1).toNatClampNeg) hy2) kL_X3_96 kT_X0_version kN_X0 kC_X0_version rfl rfl hdX0_version ⟨Nat.le_of_ble_eq_true rfl, Nat.le_of_ble_eq_true rfl⟩ rfl hl [] rfl (Nat.le_of_ble_eq_true rfl) dX3_change_6 ⟨Nat.zero_le _, Nat.zero_le _⟩ (fun H locs hw => ?_)
  refine r_iconst E 1 dX3_change_9 (by decide) ?_
  refine r_iadd E dX3_change_10 ?_
  obtain ⟨w3, hw3, h⟩ := nm_out h
  refine r_nm hw3 ?_
  refine r_istore E [(4, .int w3), (0, .ref (An 0)), (1, .int v1), (2, .int v2), (3, .int v3)] hl dX3_change_11 (by decide) rfl (fun ls hl => ?_)
  refine r_aload_n E hl 1 rfl dX3_change_13 rfl ?_
  refine r_get E kW_X3 hw 0 rfl rfl 10 (by decide) kF_X3_30 rfl dX3_change_14 ?_
  refine r_iload_n E hl 2 rfl dX3_change_17 rfl ?_
  refine r_iload E hl 0 rfl dX3_change_18 ?_
  refine r_iload_n E hl 3 rfl dX3_change_20 rfl ?_
  refine r_iload_n E hl 4 rfl dX3_change_21 rfl ?_
  obtain ⟨y4, hy4, h⟩ := bd_some h
  refine r_callS0i E hw (mX0_make l Z _ w3 v2 v3 hy4) kL_X3_99 kT_X0_make kN_X0 kC_X0_make rfl rfl hdX0_make ⟨Nat.le_of_ble_eq_true rfl, Nat.le_of_ble_eq_true rfl⟩ rfl hl [.int v1, .ref (An 7)] rfl (Nat.le_of_ble_eq_true rfl) dX3_change_22 ⟨Nat.zero_le _, Nat.zero_le _⟩ (fun H locs hw => ?_)
  obtain ⟨hg5, h⟩ := gd_some h
  refine r_iast E (wX3 Z An n_nodes n_links n_tunnels n_messages n_areas n_firsts n_seconds n_privates n_entries n_exits (upd n_truth (v1).toNatClampNeg y4) n_facts n_news) hw 7 rfl hg5 rfl dX3_change_25 (fun H locs hw => ?_)
  refine r_iload E hl 0 rfl dX3_change_26 ?_
  obtain rfl := Option.some.inj h
  exact r_iret E hw dX3_change_28
abbrev rmX3_changeLink : Room := { frames := 3, cells := 0, slots := 0, locals := 71 }

set_option maxRecDepth 100000 in
set_option maxHeartbeats 4000000 in
theorem vX3_changeLink_29 {Z : zT} {p : Program} {l : Launch} {e : Env} {s : State} {m : MethodId} {args : Array Value} {below : List Frame} {meth : Method} {c : Code} {A : Nat → Prop} (E : zE Z p s m args meth c RX3 cX3_changeLink 7 (some .int) A) {An : Nat → Nat} {v1 : Int32} {v2 : Int32} {v3 : Int32} {v4 : Int32} {k0 : Int32} {n_nodes : Int32} {n_links : Int32} {n_tunnels : Int32} {n_messages : Int32} {n_areas : (Nat → Int32)} {n_firsts : (Nat → Int32)} {n_seconds : (Nat → Int32)} {n_privates : (Nat → Int32)} {n_entries : (Nat → Int32)} {n_exits : (Nat → Int32)} {n_truth : (Nat → Int32)} {n_facts : (Nat → Int32)} {n_news : (Nat → Int64)} {res : Int32 × (Nat → Int32) × (Nat → Int32) × (Nat → Int64)}  {H : Heap} {locs : List Loc} {ls : Array Slot} (hw : zW Z A (wX3 Z An n_nodes n_links n_tunnels n_messages n_areas n_firsts n_seconds n_privates n_entries n_exits n_truth n_facts n_news) s.heap H locs) (hl : lv_has ls 7 [(0, .ref (An 0)), (1, .int v1), (2, .int v2), (3, .int v3), (4, .int v4)]) (h : uX3_changeLink_29 v1 v2 v3 v4 k0 n_links n_areas n_firsts n_seconds n_privates n_truth n_facts n_news = some res) : W p l e rmX3_changeLink s m args below meth c H locs 0 0 (MQ below (zQi Z res.1 (wX3 Z An n_nodes n_links n_tunnels n_messages n_areas n_firsts n_seconds n_privates n_entries n_exits res.2.1 res.2.2.1 res.2.2.2) A) args s 0 0 A) (F0 m 29 ls [.int k0]) := by
  unfold uX3_changeLink_29 at h
  refine r_istore E [(5, .int k0), (0, .ref (An 0)), (1, .int v1), (2, .int v2), (3, .int v3), (4, .int v4)] hl dX3_changeLink_29 (by decide) rfl (fun ls hl => ?_)
  refine r_aload_n E hl 1 rfl dX3_changeLink_31 rfl ?_
  refine r_iload E hl 5 rfl dX3_changeLink_32 ?_
  refine r_iload_n E hl 3 rfl dX3_changeLink_34 rfl ?_
  refine r_iload_n E hl 4 rfl dX3_changeLink_35 rfl ?_
  obtain ⟨y2, hy2, h⟩ := bd_some h
  refine r_callVAi E hw (mX3_change l Z _ An n_nodes n_links n_tunnels n_messages n_areas n_firsts n_seconds n_privates n_entries n_exits n_truth n_facts n_news v4 v2 v3 hy2) kL_X3_78 kI_X3_change kS_X3_change kN_X3 kC_X3_change rfl rfl hdX3_change ⟨Nat.le_of_ble_eq_true rfl, Nat.le_of_ble_eq_true rfl⟩ 0 rfl rfl rfl rfl hl [] rfl (Nat.le_of_ble_eq_true rfl) dX3_changeLink_36 ⟨Nat.zero_le _, Nat.zero_le _⟩ (fun H locs hw => ?_)
  refine r_istore E [(6, .int y2.1), (5, .int k0), (0, .ref (An 0)), (1, .int v1), (2, .int v2), (3, .int v3), (4, .int v4)] hl dX3_changeLink_39 (by decide) rfl (fun ls hl => ?_)
  refine r_aload_n E hl 2 rfl dX3_changeLink_41 rfl ?_
  refine r_aload_n E hl 2 rfl dX3_changeLink_42 rfl ?_
  refine r_get E kW_X3 hw 0 rfl rfl 5 (by decide) kF_X3_15 rfl dX3_changeLink_43 ?_
  refine r_iload_n E hl 3 rfl dX3_changeLink_46 rfl ?_
  obtain ⟨hg3, h⟩ := gd_some h
  refine r_iald E hw 2 rfl hg3 dX3_changeLink_47 ?_
  refine r_iload E hl 6 rfl dX3_changeLink_48 ?_
  refine r_aload_n E hl 2 rfl dX3_changeLink_50 rfl ?_
  refine r_get E kW_X3 hw 0 rfl rfl 10 (by decide) kF_X3_30 rfl dX3_changeLink_51 ?_
  refine r_iload E hl 6 rfl dX3_changeLink_54 ?_
  obtain ⟨hg4, h⟩ := gd_some h
  refine r_iald E hw 7 rfl hg4 dX3_changeLink_56 ?_
  obtain ⟨y5, hy5, h⟩ := bd_some h
  refine r_callVAv E hw (mX3_learn l Z _ An n_nodes n_links n_tunnels n_messages n_areas n_firsts n_seconds n_privates n_entries n_exits y2.2 n_facts n_news (n_firsts (v1).toNatClampNeg) v4 (y2.2 (v4).toNatClampNeg) hy5) kL_X3_81 kI_X3_learn kS_X3_learn kN_X3 kC_X3_learn rfl rfl hdX3_learn ⟨Nat.le_of_ble_eq_true rfl, Nat.le_of_ble_eq_true rfl⟩ 0 rfl rfl rfl rfl hl [] rfl (Nat.le_of_ble_eq_true rfl) dX3_changeLink_57 ⟨Nat.zero_le _, Nat.zero_le _⟩ (fun H locs hw => ?_)
  refine r_aload_n E hl 2 rfl dX3_changeLink_60 rfl ?_
  refine r_aload_n E hl 2 rfl dX3_changeLink_61 rfl ?_
  refine r_get E kW_X3 hw 0 rfl rfl 6 (by decide) kF_X3_18 rfl dX3_changeLink_62 ?_
  refine r_iload_n E hl 3 rfl dX3_changeLink_65 rfl ?_
  obtain ⟨hg6, h⟩ := gd_some h
  refine r_iald E hw 3 rfl hg6 dX3_changeLink_66 ?_
  refine r_iload E hl 6 rfl dX3_changeLink_67 ?_
  refine r_aload_n E hl 2 rfl dX3_changeLink_69 rfl ?_
  refine r_get E kW_X3 hw 0 rfl rfl 10 (by decide) kF_X3_30 rfl dX3_changeLink_70 ?_
  refine r_iload E hl 6 rfl dX3_changeLink_73 ?_
  obtain ⟨hg7, h⟩ := gd_some h
  refine r_iald E hw 7 rfl hg7 dX3_changeLink_75 ?_
  obtain ⟨y8, hy8, h⟩ := bd_some h
  refine r_callVAv E hw (mX3_learn l Z _ An n_nodes n_links n_tunnels n_messages n_areas n_firsts n_seconds n_privates n_entries n_exits y2.2 y5.1 y5.2 (n_seconds (v1).toNatClampNeg) v4 (y2.2 (v4).toNatClampNeg) hy8) kL_X3_81 kI_X3_learn kS_X3_learn kN_X3 kC_X3_learn rfl rfl hdX3_learn ⟨Nat.le_of_ble_eq_true rfl, Nat.le_of_ble_eq_true rfl⟩ 0 rfl rfl rfl rfl hl [] rfl (Nat.le_of_ble_eq_true rfl) dX3_changeLink_76 ⟨Nat.zero_le _, Nat.zero_le _⟩ (fun H locs hw => ?_)
  refine r_iload E hl 1 rfl dX3_changeLink_79 ?_
  refine r_if_eq E 104 dX3_changeLink_81 (by decide) (fun hc => ?_) (fun hc => ?_)
  · replace h := ite_t hc h
    refine r_iload E hl 0 rfl dX3_changeLink_104 ?_
    obtain rfl := Option.some.inj h
    exact r_iret E hw dX3_changeLink_106
  · replace h := ite_f hc h
    refine r_aload_n E hl 2 rfl dX3_changeLink_84 rfl ?_
    refine r_aload_n E hl 2 rfl dX3_changeLink_85 rfl ?_
    refine r_get E kW_X3 hw 0 rfl rfl 5 (by decide) kF_X3_15 rfl dX3_changeLink_86 ?_
    refine r_iload_n E hl 3 rfl dX3_changeLink_89 rfl ?_
    obtain ⟨hg9, h⟩ := gd_some h
    refine r_iald E hw 2 rfl hg9 dX3_changeLink_90 ?_
    obtain ⟨y10, hy10, h⟩ := bd_some h
    refine r_callVAv E hw (mX3_makeAllNews l Z _ An n_nodes n_links n_tunnels n_messages n_areas n_firsts n_seconds n_privates n_entries n_exits y2.2 y8.1 y8.2 (n_firsts (v1).toNatClampNeg) hy10) kL_X3_85 kI_X3_makeAllNews kS_X3_makeAllNews kN_X3 kC_X3_makeAllNews rfl rfl hdX3_makeAllNews ⟨Nat.le_of_ble_eq_true rfl, Nat.le_of_ble_eq_true rfl⟩ 0 rfl rfl rfl rfl hl [] rfl (Nat.le_of_ble_eq_true rfl) dX3_changeLink_91 ⟨Nat.zero_le _, Nat.zero_le _⟩ (fun H locs hw => ?_)
    refine r_aload_n E hl 2 rfl dX3_changeLink_94 rfl ?_
    refine r_aload_n E hl 2 rfl dX3_changeLink_95 rfl ?_
    refine r_get E kW_X3 hw 0 rfl rfl 6 (by decide) kF_X3_18 rfl dX3_changeLink_96 ?_
    refine r_iload_n E hl 3 rfl dX3_changeLink_99 rfl ?_
    obtain ⟨hg11, h⟩ := gd_some h
    refine r_iald E hw 3 rfl hg11 dX3_changeLink_100 ?_
    obtain ⟨y12, hy12, h⟩ := bd_some h
    refine r_callVAv E hw (mX3_makeAllNews l Z _ An n_nodes n_links n_tunnels n_messages n_areas n_firsts n_seconds n_privates n_entries n_exits y2.2 y8.1 y10 (n_seconds (v1).toNatClampNeg) hy12) kL_X3_85 kI_X3_makeAllNews kS_X3_makeAllNews kN_X3 kC_X3_makeAllNews rfl rfl hdX3_makeAllNews ⟨Nat.le_of_ble_eq_true rfl, Nat.le_of_ble_eq_true rfl⟩ 0 rfl rfl rfl rfl hl [] rfl (Nat.le_of_ble_eq_true rfl) dX3_changeLink_101 ⟨Nat.zero_le _, Nat.zero_le _⟩ (fun H locs hw => ?_)
    refine r_iload E hl 0 rfl dX3_changeLink_104 ?_
    obtain rfl := Option.some.inj h
    exact r_iret E hw dX3_changeLink_106
set_option maxRecDepth 100000 in
set_option maxHeartbeats 4000000 in
theorem vX3_changeLink_28 {Z : zT} {p : Program} {l : Launch} {e : Env} {s : State} {m : MethodId} {args : Array Value} {below : List Frame} {meth : Method} {c : Code} {A : Nat → Prop} (E : zE Z p s m args meth c RX3 cX3_changeLink 7 (some .int) A) {An : Nat → Nat} {v1 : Int32} {v2 : Int32} {v3 : Int32} {v4 : Int32} {n_nodes : Int32} {n_links : Int32} {n_tunnels : Int32} {n_messages : Int32} {n_areas : (Nat → Int32)} {n_firsts : (Nat → Int32)} {n_seconds : (Nat → Int32)} {n_privates : (Nat → Int32)} {n_entries : (Nat → Int32)} {n_exits : (Nat → Int32)} {n_truth : (Nat → Int32)} {n_facts : (Nat → Int32)} {n_news : (Nat → Int64)} {res : Int32 × (Nat → Int32) × (Nat → Int32) × (Nat → Int64)}  {H : Heap} {locs : List Loc} {ls : Array Slot} (hw : zW Z A (wX3 Z An n_nodes n_links n_tunnels n_messages n_areas n_firsts n_seconds n_privates n_entries n_exits n_truth n_facts n_news) s.heap H locs) (hl : lv_has ls 7 [(0, .ref (An 0)), (1, .int v1), (2, .int v2), (3, .int v3), (4, .int v4)]) (h : uX3_changeLink_28 v1 v2 v3 v4 n_links n_areas n_firsts n_seconds n_privates n_truth n_facts n_news = some res) : W p l e rmX3_changeLink s m args below meth c H locs 0 0 (MQ below (zQi Z res.1 (wX3 Z An n_nodes n_links n_tunnels n_messages n_areas n_firsts n_seconds n_privates n_entries n_exits res.2.1 res.2.2.1 res.2.2.2) A) args s 0 0 A) (F0 m 28 ls []) := by
  unfold uX3_changeLink_28 at h
  refine r_iconst E 0 dX3_changeLink_28 (by decide) ?_
  exact vX3_changeLink_29 E  hw hl h
set_option maxRecDepth 100000 in
set_option maxHeartbeats 4000000 in
theorem mX3_changeLink (l : Launch) (Z : zT) (sz : Nat) (An : Nat → Nat) (n_nodes : Int32) (n_links : Int32) (n_tunnels : Int32) (n_messages : Int32) (n_areas : (Nat → Int32)) (n_firsts : (Nat → Int32)) (n_seconds : (Nat → Int32)) (n_privates : (Nat → Int32)) (n_entries : (Nat → Int32)) (n_exits : (Nat → Int32)) (n_truth : (Nat → Int32)) (n_facts : (Nat → Int32)) (n_news : (Nat → Int64)) (v1 : Int32) (v2 : Int32) (v3 : Int32) {res : Int32 × (Nat → Int32) × (Nat → Int32) × (Nat → Int64)} (h : fX3_changeLink v1 v2 v3 n_links n_areas n_firsts n_seconds n_privates n_truth n_facts n_news = some res) : Met l yX3_changeLink (Cond.code yX3_changeLink cX3_changeLink 7 (some .int) :: zWs) rmX3_changeLink (zP Z (wX3 Z An n_nodes n_links n_tunnels n_messages n_areas n_firsts n_seconds n_privates n_entries n_exits n_truth n_facts n_news) sz [.ref (An 0), .int v1, .int v2, .int v3]) (zQi Z res.1 (wX3 Z An n_nodes n_links n_tunnels n_messages n_areas n_firsts n_seconds n_privates n_entries n_exits res.2.1 res.2.2.1 res.2.2.2) (va_A (wX3 Z An n_nodes n_links n_tunnels n_messages n_areas n_firsts n_seconds n_privates n_entries n_exits n_truth n_facts n_news) sz)) 0 0 (va_A (wX3 Z An n_nodes n_links n_tunnels n_messages n_areas n_firsts n_seconds n_privates n_entries n_exits n_truth n_facts n_news) sz) := by
  refine zMet (own := RX3) (fun A => zQi Z res.1 (wX3 Z An n_nodes n_links n_tunnels n_messages n_areas n_firsts n_seconds n_privates n_entries n_exits res.2.1 res.2.2.1 res.2.2.2) A) (by decide) rfl (Nat.le_of_ble_eq_true rfl) ?_
  intro p e s m args below meth c ls A E hw hl
  unfold fX3_changeLink at h
  refine r_bipush E 16 dX3_changeLink_0 (by decide) ?_
  refine r_iload_n E hl 1 rfl dX3_changeLink_2 rfl ?_
  refine r_iadd E dX3_changeLink_3 ?_
  obtain ⟨w1, hw1, h⟩ := nm_out h
  refine r_nm hw1 ?_
  refine r_istore E [(4, .int w1), (0, .ref (An 0)), (1, .int v1), (2, .int v2), (3, .int v3)] hl dX3_changeLink_4 (by decide) rfl (fun ls hl => ?_)
  refine r_iload_n E hl 3 rfl dX3_changeLink_6 rfl ?_
  refine r_iconst E 1 dX3_changeLink_7 (by decide) ?_
  refine r_icmp_ne E 28 dX3_changeLink_8 (by decide) (fun hc => ?_) (fun hc => ?_)
  · replace h := ite_f hc h
    exact vX3_changeLink_28 E  hw (lv_sub hl [1, 2, 3, 4, 0] rfl) h
  · replace h := ite_t hc h
    refine r_aload_n E hl 1 rfl dX3_changeLink_11 rfl ?_
    refine r_get E kW_X3 hw 0 rfl rfl 10 (by decide) kF_X3_30 rfl dX3_changeLink_12 ?_
    refine r_iload E hl 0 rfl dX3_changeLink_15 ?_
    obtain ⟨hg13, h⟩ := gd_some h
    refine r_iald E hw 7 rfl hg13 dX3_changeLink_17 ?_
    obtain ⟨y14, hy14, h⟩ := bd_some h
    refine r_callS0i E hw (mX0_state l Z _ (n_truth (w1).toNatClampNeg) hy14) kL_X3_74 kT_X0_state kN_X0 kC_X0_state rfl rfl hdX0_state ⟨Nat.le_of_ble_eq_true rfl, Nat.le_of_ble_eq_true rfl⟩ rfl hl [] rfl (Nat.le_of_ble_eq_true rfl) dX3_changeLink_18 ⟨Nat.zero_le _, Nat.zero_le _⟩ (fun H locs hw => ?_)
    refine r_if_ne E 28 dX3_changeLink_21 (by decide) (fun hc => ?_) (fun hc => ?_)
    · replace h := ite_f hc h
      exact vX3_changeLink_28 E  hw (lv_sub hl [1, 2, 3, 4, 0] rfl) h
    · replace h := ite_t hc h
      refine r_iconst E 1 dX3_changeLink_24 (by decide) ?_
      refine r_goto E 29 dX3_changeLink_25 (by decide) ?_
      exact vX3_changeLink_29 E  hw (lv_sub hl [1, 2, 3, 4, 0] rfl) h
abbrev rmX3_createLink : Room := { frames := 4, cells := 0, slots := 0, locals := 97 }

set_option maxRecDepth 100000 in
set_option maxHeartbeats 4000000 in
theorem mX3_createLink (l : Launch) (Z : zT) (sz : Nat) (An : Nat → Nat) (n_nodes : Int32) (n_links : Int32) (n_tunnels : Int32) (n_messages : Int32) (n_areas : (Nat → Int32)) (n_firsts : (Nat → Int32)) (n_seconds : (Nat → Int32)) (n_privates : (Nat → Int32)) (n_entries : (Nat → Int32)) (n_exits : (Nat → Int32)) (n_truth : (Nat → Int32)) (n_facts : (Nat → Int32)) (n_news : (Nat → Int64)) (v1 : Int32) (v2 : Int32) (v3 : Int32) (v4 : Int32) {res : Int32 × Int32 × (Nat → Int32) × (Nat → Int32) × (Nat → Int32) × (Nat → Int32) × (Nat → Int32) × (Nat → Int64)} (h : fX3_createLink v1 v2 v3 v4 n_links n_areas n_firsts n_seconds n_privates n_truth n_facts n_news = some res) : Met l yX3_createLink (Cond.code yX3_createLink cX3_createLink 6 (some .int) :: zWs) rmX3_createLink (zP Z (wX3 Z An n_nodes n_links n_tunnels n_messages n_areas n_firsts n_seconds n_privates n_entries n_exits n_truth n_facts n_news) sz [.ref (An 0), .int v1, .int v2, .int v3, .int v4]) (zQi Z res.1 (wX3 Z An n_nodes res.2.1 n_tunnels n_messages n_areas res.2.2.1 res.2.2.2.1 res.2.2.2.2.1 n_entries n_exits res.2.2.2.2.2.1 res.2.2.2.2.2.2.1 res.2.2.2.2.2.2.2) (va_A (wX3 Z An n_nodes n_links n_tunnels n_messages n_areas n_firsts n_seconds n_privates n_entries n_exits n_truth n_facts n_news) sz)) 0 0 (va_A (wX3 Z An n_nodes n_links n_tunnels n_messages n_areas n_firsts n_seconds n_privates n_entries n_exits n_truth n_facts n_news) sz) := by
  refine zMet (own := RX3) (fun A => zQi Z res.1 (wX3 Z An n_nodes res.2.1 n_tunnels n_messages n_areas res.2.2.1 res.2.2.2.1 res.2.2.2.2.1 n_entries n_exits res.2.2.2.2.2.1 res.2.2.2.2.2.2.1 res.2.2.2.2.2.2.2) A) (by decide) rfl (Nat.le_of_ble_eq_true rfl) ?_
  intro p e s m args below meth c ls A E hw hl
  unfold fX3_createLink at h
  refine r_aload_n E hl 0 rfl dX3_createLink_0 rfl ?_
  refine r_get E kW_X3 hw 0 rfl rfl 1 (by decide) kF_X3_44 rfl dX3_createLink_1 ?_
  refine r_istore E [(5, .int n_links), (0, .ref (An 0)), (1, .int v1), (2, .int v2), (3, .int v3), (4, .int v4)] hl dX3_createLink_4 (by decide) rfl (fun ls hl => ?_)
  refine r_aload_n E hl 1 rfl dX3_createLink_6 rfl ?_
  refine r_get E kW_X3 hw 0 rfl rfl 5 (by decide) kF_X3_15 rfl dX3_createLink_7 ?_
  refine r_iload E hl 0 rfl dX3_createLink_10 ?_
  refine r_iload_n E hl 2 rfl dX3_createLink_12 rfl ?_
  obtain ⟨hg1, h⟩ := gd_some h
  refine r_iast E (wX3 Z An n_nodes n_links n_tunnels n_messages n_areas (upd n_firsts (n_links).toNatClampNeg v1) n_seconds n_privates n_entries n_exits n_truth n_facts n_news) hw 2 rfl hg1 rfl dX3_createLink_13 (fun H locs hw => ?_)
  refine r_aload_n E hl 1 rfl dX3_createLink_14 rfl ?_
  refine r_get E kW_X3 hw 0 rfl rfl 6 (by decide) kF_X3_18 rfl dX3_createLink_15 ?_
  refine r_iload E hl 0 rfl dX3_createLink_18 ?_
  refine r_iload_n E hl 3 rfl dX3_createLink_20 rfl ?_
  obtain ⟨hg2, h⟩ := gd_some h
  refine r_iast E (wX3 Z An n_nodes n_links n_tunnels n_messages n_areas (upd n_firsts (n_links).toNatClampNeg v1) (upd n_seconds (n_links).toNatClampNeg v2) n_privates n_entries n_exits n_truth n_facts n_news) hw 3 rfl hg2 rfl dX3_createLink_21 (fun H locs hw => ?_)
  refine r_aload_n E hl 1 rfl dX3_createLink_22 rfl ?_
  refine r_get E kW_X3 hw 0 rfl rfl 7 (by decide) kF_X3_21 rfl dX3_createLink_23 ?_
  refine r_iload E hl 0 rfl dX3_createLink_26 ?_
  refine r_iload E hl 5 rfl dX3_createLink_28 ?_
  obtain ⟨hg3, h⟩ := gd_some h
  refine r_iast E (wX3 Z An n_nodes n_links n_tunnels n_messages n_areas (upd n_firsts (n_links).toNatClampNeg v1) (upd n_seconds (n_links).toNatClampNeg v2) (upd n_privates (n_links).toNatClampNeg v4) n_entries n_exits n_truth n_facts n_news) hw 4 rfl hg3 rfl dX3_createLink_30 (fun H locs hw => ?_)
  refine r_aload_n E hl 1 rfl dX3_createLink_31 rfl ?_
  refine r_dup E dX3_createLink_32 rfl ?_
  refine r_get E kW_X3 hw 0 rfl rfl 1 (by decide) kF_X3_44 rfl dX3_createLink_33 ?_
  refine r_iconst E 1 dX3_createLink_36 (by decide) ?_
  refine r_iadd E dX3_createLink_37 ?_
  refine r_put E (wX3 Z An n_nodes (n_links + (1 : Int32)) n_tunnels n_messages n_areas (upd n_firsts (n_links).toNatClampNeg v1) (upd n_seconds (n_links).toNatClampNeg v2) (upd n_privates (n_links).toNatClampNeg v4) n_entries n_exits n_truth n_facts n_news) kW_X3 tyX3_ok nmX3 hw 0 rfl rfl 1 (by decide) kF_X3_44 rfl rfl rfl (Nat.le_of_ble_eq_true rfl) rfl dX3_createLink_38 (fun H locs hw => ?_)
  refine r_aload_n E hl 1 rfl dX3_createLink_41 rfl ?_
  refine r_iload E hl 0 rfl dX3_createLink_42 ?_
  refine r_iconst E 1 dX3_createLink_44 (by decide) ?_
  refine r_iload_n E hl 4 rfl dX3_createLink_45 rfl ?_
  obtain ⟨y4, hy4, h⟩ := bd_some h
  refine r_callVAi E hw (mX3_changeLink l Z _ An n_nodes (n_links + (1 : Int32)) n_tunnels n_messages n_areas (upd n_firsts (n_links).toNatClampNeg v1) (upd n_seconds (n_links).toNatClampNeg v2) (upd n_privates (n_links).toNatClampNeg v4) n_entries n_exits n_truth n_facts n_news n_links (1 : Int32) v3 hy4) kL_X3_70 kI_X3_changeLink kS_X3_changeLink kN_X3 kC_X3_changeLink rfl rfl hdX3_changeLink ⟨Nat.le_of_ble_eq_true rfl, Nat.le_of_ble_eq_true rfl⟩ 0 rfl rfl rfl rfl hl [] rfl (Nat.le_of_ble_eq_true rfl) dX3_createLink_46 ⟨Nat.zero_le _, Nat.zero_le _⟩ (fun H locs hw => ?_)
  refine r_pop E dX3_createLink_49 rfl ?_
  refine r_iload E hl 0 rfl dX3_createLink_50 ?_
  obtain rfl := Option.some.inj h
  exact r_iret E hw dX3_createLink_52
abbrev rmX3_changeGrant : Room := { frames := 3, cells := 0, slots := 0, locals := 71 }

set_option maxRecDepth 100000 in
set_option maxHeartbeats 4000000 in
theorem vX3_changeGrant_55 {Z : zT} {p : Program} {l : Launch} {e : Env} {s : State} {m : MethodId} {args : Array Value} {below : List Frame} {meth : Method} {c : Code} {A : Nat → Prop} (E : zE Z p s m args meth c RX3 cX3_changeGrant 7 (some .int) A) {An : Nat → Nat} {v1 : Int32} {v4 : Int32} {v5 : Int32} {v6 : Int32} {n_nodes : Int32} {n_links : Int32} {n_tunnels : Int32} {n_messages : Int32} {n_areas : (Nat → Int32)} {n_firsts : (Nat → Int32)} {n_seconds : (Nat → Int32)} {n_privates : (Nat → Int32)} {n_entries : (Nat → Int32)} {n_exits : (Nat → Int32)} {n_truth : (Nat → Int32)} {n_facts : (Nat → Int32)} {n_news : (Nat → Int64)} {res : Int32 × (Nat → Int32) × (Nat → Int32) × (Nat → Int64)} {q1 : (Int32 × (Nat → Int32) × (Nat → Int64)) ⊕ (Int32 × (Nat → Int32) × (Nat → Int32) × (Nat → Int64))} (hb1 : ∀ b : Int32 × (Nat → Int32) × (Nat → Int64), q1 = .inl b → ∀ (H : Heap) (locs : List Loc) (ls : Array Slot), zW Z A (wX3 Z An n_nodes n_links n_tunnels n_messages n_areas n_firsts n_seconds n_privates n_entries n_exits n_truth b.2.1 b.2.2) s.heap H locs → lv_has ls 7 [(0, .ref (An 0)), (1, .int v1), (4, .int v4), (5, .int v5), (6, .int b.1)] → W p l e rmX3_changeGrant s m args below meth c H locs 0 0 (MQ below (zQi Z res.1 (wX3 Z An n_nodes n_links n_tunnels n_messages n_areas n_firsts n_seconds n_privates n_entries n_exits res.2.1 res.2.2.1 res.2.2.2) A) args s 0 0 A) (F0 m 20 ls [])) (hr1 : ∀ r' , q1 = .inr r' → r' = res) {H : Heap} {locs : List Loc} {ls : Array Slot} (hw : zW Z A (wX3 Z An n_nodes n_links n_tunnels n_messages n_areas n_firsts n_seconds n_privates n_entries n_exits n_truth n_facts n_news) s.heap H locs) (hl : lv_has ls 7 [(0, .ref (An 0)), (1, .int v1), (4, .int v4), (5, .int v5), (6, .int v6)]) (h : uX3_changeGrant_55 v6 n_facts n_news = some q1) : W p l e rmX3_changeGrant s m args below meth c H locs 0 0 (MQ below (zQi Z res.1 (wX3 Z An n_nodes n_links n_tunnels n_messages n_areas n_firsts n_seconds n_privates n_entries n_exits res.2.1 res.2.2.1 res.2.2.2) A) args s 0 0 A) (F0 m 55 ls []) := by
  unfold uX3_changeGrant_55 at h
  obtain ⟨w5, hw5, h⟩ := nm_out h
  refine r_iinc E w5 [(6, .int w5), (0, .ref (An 0)), (1, .int v1), (4, .int v4), (5, .int v5)] hl (k := 4) rfl dX3_changeGrant_55 hw5.symm (by decide) rfl (fun ls hl => ?_)
  refine r_goto E 20 dX3_changeGrant_58 (by decide) ?_
  exact hb1 _ (Option.some.inj h).symm _ _ _ hw (lv_sub hl [1, 2, 3, 4, 0] rfl)
set_option maxRecDepth 100000 in
set_option maxHeartbeats 4000000 in
theorem tX3_changeGrant_20 {Z : zT} {p : Program} {l : Launch} {e : Env} {s : State} {m : MethodId} {args : Array Value} {below : List Frame} {meth : Method} {c : Code} {A : Nat → Prop} (E : zE Z p s m args meth c RX3 cX3_changeGrant 7 (some .int) A) {An : Nat → Nat} {v1 : Int32} {v4 : Int32} {v5 : Int32} {n_nodes : Int32} {n_links : Int32} {n_tunnels : Int32} {n_messages : Int32} {n_areas : (Nat → Int32)} {n_firsts : (Nat → Int32)} {n_seconds : (Nat → Int32)} {n_privates : (Nat → Int32)} {n_entries : (Nat → Int32)} {n_exits : (Nat → Int32)} {n_truth : (Nat → Int32)} {res : Int32 × (Nat → Int32) × (Nat → Int32) × (Nat → Int64)}  : ∀ (n : Nat) (v6 : Int32) (n_facts : (Nat → Int32)) (n_news : (Nat → Int64)) (H : Heap) (locs : List Loc) (ls : Array Slot), iter (fun b : Int32 × (Nat → Int32) × (Nat → Int64) => sX3_changeGrant_20 v1 v4 v5 n_nodes n_links n_areas n_firsts n_seconds n_privates n_truth b.1 b.2.1 b.2.2) n (v6, n_facts, n_news) = some res → zW Z A (wX3 Z An n_nodes n_links n_tunnels n_messages n_areas n_firsts n_seconds n_privates n_entries n_exits n_truth n_facts n_news) s.heap H locs → lv_has ls 7 [(0, .ref (An 0)), (1, .int v1), (4, .int v4), (5, .int v5), (6, .int v6)] → W p l e rmX3_changeGrant s m args below meth c H locs 0 0 (MQ below (zQi Z res.1 (wX3 Z An n_nodes n_links n_tunnels n_messages n_areas n_firsts n_seconds n_privates n_entries n_exits res.2.1 res.2.2.1 res.2.2.2) A) args s 0 0 A) (F0 m 20 ls []) := by
  intro n
  induction n with
  | zero => intro v6 n_facts n_news H locs ls h; cases h
  | succ n ih =>
    intro v6 n_facts n_news H locs ls h hw hl
    obtain ⟨q1, h, hn1, hr1⟩ := iter_out h
    have hb1 : ∀ b : Int32 × (Nat → Int32) × (Nat → Int64), q1 = .inl b → ∀ (H : Heap) (locs : List Loc) (ls : Array Slot), zW Z A (wX3 Z An n_nodes n_links n_tunnels n_messages n_areas n_firsts n_seconds n_privates n_entries n_exits n_truth b.2.1 b.2.2) s.heap H locs → lv_has ls 7 [(0, .ref (An 0)), (1, .int v1), (4, .int v4), (5, .int v5), (6, .int b.1)] → W p l e rmX3_changeGrant s m args below meth c H locs 0 0 (MQ below (zQi Z res.1 (wX3 Z An n_nodes n_links n_tunnels n_messages n_areas n_firsts n_seconds n_privates n_entries n_exits res.2.1 res.2.2.1 res.2.2.2) A) args s 0 0 A) (F0 m 20 ls []) := fun b eb H locs ls hw hl => ih b.1 b.2.1 b.2.2 H locs ls (hn1 b eb) hw hl
    replace h : sX3_changeGrant_20 v1 v4 v5 n_nodes n_links n_areas n_firsts n_seconds n_privates n_truth v6 n_facts n_news = some q1 := h
    unfold sX3_changeGrant_20 at h
    refine r_iload E hl 4 rfl dX3_changeGrant_20 ?_
    refine r_aload_n E hl 0 rfl dX3_changeGrant_22 rfl ?_
    refine r_get E kW_X3 hw 0 rfl rfl 0 (by decide) kF_X3_40 rfl dX3_changeGrant_23 ?_
    refine r_icmp_ge E 61 dX3_changeGrant_26 (by decide) (fun hc => ?_) (fun hc => ?_)
    · replace h := ite_t hc h
      obtain ⟨ro3, h, hro3⟩ := oi_some h
      rw [hr1 _ hro3] at h
      refine r_iload E hl 3 rfl dX3_changeGrant_61 ?_
      obtain rfl := Option.some.inj h
      exact r_iret E hw dX3_changeGrant_63
    · replace h := ite_f hc h
      refine r_aload_n E hl 0 rfl dX3_changeGrant_29 rfl ?_
      refine r_get E kW_X3 hw 0 rfl rfl 4 (by decide) kF_X3_9 rfl dX3_changeGrant_30 ?_
      refine r_iload E hl 4 rfl dX3_changeGrant_33 ?_
      obtain ⟨hg4, h⟩ := gd_some h
      refine r_iald E hw 1 rfl hg4 dX3_changeGrant_35 ?_
      refine r_iload_n E hl 1 rfl dX3_changeGrant_36 rfl ?_
      refine r_icmp_ne E 55 dX3_changeGrant_37 (by decide) (fun hc => ?_) (fun hc => ?_)
      · replace h := ite_f hc h
        exact vX3_changeGrant_55 E hb1 hr1 hw hl h
      · replace h := ite_t hc h
        refine r_aload_n E hl 0 rfl dX3_changeGrant_40 rfl ?_
        refine r_iload E hl 4 rfl dX3_changeGrant_41 ?_
        refine r_iload E hl 2 rfl dX3_changeGrant_43 ?_
        refine r_aload_n E hl 0 rfl dX3_changeGrant_45 rfl ?_
        refine r_get E kW_X3 hw 0 rfl rfl 10 (by decide) kF_X3_30 rfl dX3_changeGrant_46 ?_
        refine r_iload E hl 2 rfl dX3_changeGrant_49 ?_
        obtain ⟨hg6, h⟩ := gd_some h
        refine r_iald E hw 7 rfl hg6 dX3_changeGrant_51 ?_
        obtain ⟨y7, hy7, h⟩ := bd_some h
        refine r_callVAv E hw (mX3_learn l Z _ An n_nodes n_links n_tunnels n_messages n_areas n_firsts n_seconds n_privates n_entries n_exits n_truth n_facts n_news v6 v4 (n_truth (v4).toNatClampNeg) hy7) kL_X3_81 kI_X3_learn kS_X3_learn kN_X3 kC_X3_learn rfl rfl hdX3_learn ⟨Nat.le_of_ble_eq_true rfl, Nat.le_of_ble_eq_true rfl⟩ 0 rfl rfl rfl rfl hl [] rfl (Nat.le_of_ble_eq_true rfl) dX3_changeGrant_52 ⟨Nat.zero_le _, Nat.zero_le _⟩ (fun H locs hw => ?_)
        exact vX3_changeGrant_55 E hb1 hr1 hw hl h
set_option maxRecDepth 100000 in
set_option maxHeartbeats 4000000 in
theorem mX3_changeGrant (l : Launch) (Z : zT) (sz : Nat) (An : Nat → Nat) (n_nodes : Int32) (n_links : Int32) (n_tunnels : Int32) (n_messages : Int32) (n_areas : (Nat → Int32)) (n_firsts : (Nat → Int32)) (n_seconds : (Nat → Int32)) (n_privates : (Nat → Int32)) (n_entries : (Nat → Int32)) (n_exits : (Nat → Int32)) (n_truth : (Nat → Int32)) (n_facts : (Nat → Int32)) (n_news : (Nat → Int64)) (v1 : Int32) (v2 : Int32) (v3 : Int32) {res : Int32 × (Nat → Int32) × (Nat → Int32) × (Nat → Int64)} (h : fX3_changeGrant v1 v2 v3 n_nodes n_links n_areas n_firsts n_seconds n_privates n_truth n_facts n_news = some res) : Met l yX3_changeGrant (Cond.code yX3_changeGrant cX3_changeGrant 7 (some .int) :: zWs) rmX3_changeGrant (zP Z (wX3 Z An n_nodes n_links n_tunnels n_messages n_areas n_firsts n_seconds n_privates n_entries n_exits n_truth n_facts n_news) sz [.ref (An 0), .int v1, .int v2, .int v3]) (zQi Z res.1 (wX3 Z An n_nodes n_links n_tunnels n_messages n_areas n_firsts n_seconds n_privates n_entries n_exits res.2.1 res.2.2.1 res.2.2.2) (va_A (wX3 Z An n_nodes n_links n_tunnels n_messages n_areas n_firsts n_seconds n_privates n_entries n_exits n_truth n_facts n_news) sz)) 0 0 (va_A (wX3 Z An n_nodes n_links n_tunnels n_messages n_areas n_firsts n_seconds n_privates n_entries n_exits n_truth n_facts n_news) sz) := by
  refine zMet (own := RX3) (fun A => zQi Z res.1 (wX3 Z An n_nodes n_links n_tunnels n_messages n_areas n_firsts n_seconds n_privates n_entries n_exits res.2.1 res.2.2.1 res.2.2.2) A) (by decide) rfl (Nat.le_of_ble_eq_true rfl) ?_
  intro p e s m args below meth c ls A E hw hl
  unfold fX3_changeGrant at h
  refine r_iload_n E hl 1 rfl dX3_changeGrant_0 rfl ?_
  refine r_iload_n E hl 2 rfl dX3_changeGrant_1 rfl ?_
  obtain ⟨y1, hy1, h⟩ := bd_some h
  refine r_callSN0i E hw (mX6_grantItem l Z _ v1 v2 hy1) E.2.2.2.2.1.2.1 kT_X6_grantItem kN_X6 kC_X6_grantItem rfl rfl hdX6_grantItem ⟨Nat.le_of_ble_eq_true rfl, Nat.le_of_ble_eq_true rfl⟩ rfl hl [] rfl (Nat.le_of_ble_eq_true rfl) dX3_changeGrant_2 ⟨Nat.zero_le _, Nat.zero_le _⟩ (fun H locs hw => ?_)
  refine r_istore E [(4, .int y1), (0, .ref (An 0)), (1, .int v1), (2, .int v2), (3, .int v3)] hl dX3_changeGrant_5 (by decide) rfl (fun ls hl => ?_)
  refine r_aload_n E hl 1 rfl dX3_changeGrant_7 rfl ?_
  refine r_iload E hl 0 rfl dX3_changeGrant_8 ?_
  refine r_iload_n E hl 4 rfl dX3_changeGrant_10 rfl ?_
  refine r_iconst E 0 dX3_changeGrant_11 (by decide) ?_
  obtain ⟨y2, hy2, h⟩ := bd_some h
  refine r_callVAi E hw (mX3_change l Z _ An n_nodes n_links n_tunnels n_messages n_areas n_firsts n_seconds n_privates n_entries n_exits n_truth n_facts n_news y1 v3 (0 : Int32) hy2) kL_X3_78 kI_X3_change kS_X3_change kN_X3 kC_X3_change rfl rfl hdX3_change ⟨Nat.le_of_ble_eq_true rfl, Nat.le_of_ble_eq_true rfl⟩ 0 rfl rfl rfl rfl hl [] rfl (Nat.le_of_ble_eq_true rfl) dX3_changeGrant_12 ⟨Nat.zero_le _, Nat.zero_le _⟩ (fun H locs hw => ?_)
  refine r_istore E [(5, .int y2.1), (4, .int y1), (0, .ref (An 0)), (1, .int v1), (2, .int v2), (3, .int v3)] hl dX3_changeGrant_15 (by decide) rfl (fun ls hl => ?_)
  refine r_iconst E 0 dX3_changeGrant_17 (by decide) ?_
  refine r_istore E [(6, .int (0 : Int32)), (5, .int y2.1), (4, .int y1), (0, .ref (An 0)), (1, .int v1), (2, .int v2), (3, .int v3)] hl dX3_changeGrant_18 (by decide) rfl (fun ls hl => ?_)
  obtain ⟨n8, h⟩ := wh_some h
  exact tX3_changeGrant_20 E  n8 _ _ _ _ _ _ h hw (lv_sub hl [3, 4, 2, 1, 0] rfl)
abbrev rmX3_changeTunnel : Room := { frames := 3, cells := 0, slots := 0, locals := 71 }

set_option maxRecDepth 100000 in
set_option maxHeartbeats 4000000 in
theorem mX3_changeTunnel (l : Launch) (Z : zT) (sz : Nat) (An : Nat → Nat) (n_nodes : Int32) (n_links : Int32) (n_tunnels : Int32) (n_messages : Int32) (n_areas : (Nat → Int32)) (n_firsts : (Nat → Int32)) (n_seconds : (Nat → Int32)) (n_privates : (Nat → Int32)) (n_entries : (Nat → Int32)) (n_exits : (Nat → Int32)) (n_truth : (Nat → Int32)) (n_facts : (Nat → Int32)) (n_news : (Nat → Int64)) (v1 : Int32) (v2 : Int32) (v3 : Int32) {res : Int32 × (Nat → Int32) × (Nat → Int32) × (Nat → Int64)} (h : fX3_changeTunnel v1 v2 v3 n_links n_areas n_firsts n_seconds n_privates n_entries n_truth n_facts n_news = some res) : Met l yX3_changeTunnel (Cond.code yX3_changeTunnel cX3_changeTunnel 6 (some .int) :: zWs) rmX3_changeTunnel (zP Z (wX3 Z An n_nodes n_links n_tunnels n_messages n_areas n_firsts n_seconds n_privates n_entries n_exits n_truth n_facts n_news) sz [.ref (An 0), .int v1, .int v2, .int v3]) (zQi Z res.1 (wX3 Z An n_nodes n_links n_tunnels n_messages n_areas n_firsts n_seconds n_privates n_entries n_exits res.2.1 res.2.2.1 res.2.2.2) (va_A (wX3 Z An n_nodes n_links n_tunnels n_messages n_areas n_firsts n_seconds n_privates n_entries n_exits n_truth n_facts n_news) sz)) 0 0 (va_A (wX3 Z An n_nodes n_links n_tunnels n_messages n_areas n_firsts n_seconds n_privates n_entries n_exits n_truth n_facts n_news) sz) := by
  refine zMet (own := RX3) (fun A => zQi Z res.1 (wX3 Z An n_nodes n_links n_tunnels n_messages n_areas n_firsts n_seconds n_privates n_entries n_exits res.2.1 res.2.2.1 res.2.2.2) A) (by decide) rfl (Nat.le_of_ble_eq_true rfl) ?_
  intro p e s m args below meth c ls A E hw hl
  unfold fX3_changeTunnel at h
  refine r_bipush E 32 dX3_changeTunnel_0 (by decide) ?_
  refine r_iload_n E hl 1 rfl dX3_changeTunnel_2 rfl ?_
  refine r_iadd E dX3_changeTunnel_3 ?_
  obtain ⟨w1, hw1, h⟩ := nm_out h
  refine r_nm hw1 ?_
  refine r_istore E [(4, .int w1), (0, .ref (An 0)), (1, .int v1), (2, .int v2), (3, .int v3)] hl dX3_changeTunnel_4 (by decide) rfl (fun ls hl => ?_)
  refine r_aload_n E hl 1 rfl dX3_changeTunnel_6 rfl ?_
  refine r_iload E hl 0 rfl dX3_changeTunnel_7 ?_
  refine r_iload_n E hl 3 rfl dX3_changeTunnel_9 rfl ?_
  refine r_iload_n E hl 4 rfl dX3_changeTunnel_10 rfl ?_
  obtain ⟨y2, hy2, h⟩ := bd_some h
  refine r_callVAi E hw (mX3_change l Z _ An n_nodes n_links n_tunnels n_messages n_areas n_firsts n_seconds n_privates n_entries n_exits n_truth n_facts n_news w1 v2 v3 hy2) kL_X3_78 kI_X3_change kS_X3_change kN_X3 kC_X3_change rfl rfl hdX3_change ⟨Nat.le_of_ble_eq_true rfl, Nat.le_of_ble_eq_true rfl⟩ 0 rfl rfl rfl rfl hl [] rfl (Nat.le_of_ble_eq_true rfl) dX3_changeTunnel_11 ⟨Nat.zero_le _, Nat.zero_le _⟩ (fun H locs hw => ?_)
  refine r_istore E [(5, .int y2.1), (4, .int w1), (0, .ref (An 0)), (1, .int v1), (2, .int v2), (3, .int v3)] hl dX3_changeTunnel_14 (by decide) rfl (fun ls hl => ?_)
  refine r_aload_n E hl 2 rfl dX3_changeTunnel_16 rfl ?_
  refine r_aload_n E hl 2 rfl dX3_changeTunnel_17 rfl ?_
  refine r_get E kW_X3 hw 0 rfl rfl 8 (by decide) kF_X3_24 rfl dX3_changeTunnel_18 ?_
  refine r_iload_n E hl 3 rfl dX3_changeTunnel_21 rfl ?_
  obtain ⟨hg3, h⟩ := gd_some h
  refine r_iald E hw 5 rfl hg3 dX3_changeTunnel_22 ?_
  refine r_iload E hl 1 rfl dX3_changeTunnel_23 ?_
  refine r_aload_n E hl 2 rfl dX3_changeTunnel_25 rfl ?_
  refine r_get E kW_X3 hw 0 rfl rfl 10 (by decide) kF_X3_30 rfl dX3_changeTunnel_26 ?_
  refine r_iload E hl 1 rfl dX3_changeTunnel_29 ?_
  obtain ⟨hg4, h⟩ := gd_some h
  refine r_iald E hw 7 rfl hg4 dX3_changeTunnel_31 ?_
  obtain ⟨y5, hy5, h⟩ := bd_some h
  refine r_callVAv E hw (mX3_learn l Z _ An n_nodes n_links n_tunnels n_messages n_areas n_firsts n_seconds n_privates n_entries n_exits y2.2 n_facts n_news (n_entries (v1).toNatClampNeg) w1 (y2.2 (w1).toNatClampNeg) hy5) kL_X3_81 kI_X3_learn kS_X3_learn kN_X3 kC_X3_learn rfl rfl hdX3_learn ⟨Nat.le_of_ble_eq_true rfl, Nat.le_of_ble_eq_true rfl⟩ 0 rfl rfl rfl rfl hl [] rfl (Nat.le_of_ble_eq_true rfl) dX3_changeTunnel_32 ⟨Nat.zero_le _, Nat.zero_le _⟩ (fun H locs hw => ?_)
  refine r_iload E hl 0 rfl dX3_changeTunnel_35 ?_
  obtain rfl := Option.some.inj h
  exact r_iret E hw dX3_changeTunnel_37
abbrev rmX3_createTunnel : Room := { frames := 4, cells := 0, slots := 0, locals := 96 }

set_option maxRecDepth 100000 in
set_option maxHeartbeats 4000000 in
theorem mX3_createTunnel (l : Launch) (Z : zT) (sz : Nat) (An : Nat → Nat) (n_nodes : Int32) (n_links : Int32) (n_tunnels : Int32) (n_messages : Int32) (n_areas : (Nat → Int32)) (n_firsts : (Nat → Int32)) (n_seconds : (Nat → Int32)) (n_privates : (Nat → Int32)) (n_entries : (Nat → Int32)) (n_exits : (Nat → Int32)) (n_truth : (Nat → Int32)) (n_facts : (Nat → Int32)) (n_news : (Nat → Int64)) (v1 : Int32) (v2 : Int32) (v3 : Int32) {res : Int32 × Int32 × (Nat → Int32) × (Nat → Int32) × (Nat → Int32) × (Nat → Int32) × (Nat → Int64)} (h : fX3_createTunnel v1 v2 v3 n_links n_tunnels n_areas n_firsts n_seconds n_privates n_entries n_exits n_truth n_facts n_news = some res) : Met l yX3_createTunnel (Cond.code yX3_createTunnel cX3_createTunnel 5 (some .int) :: zWs) rmX3_createTunnel (zP Z (wX3 Z An n_nodes n_links n_tunnels n_messages n_areas n_firsts n_seconds n_privates n_entries n_exits n_truth n_facts n_news) sz [.ref (An 0), .int v1, .int v2, .int v3]) (zQi Z res.1 (wX3 Z An n_nodes n_links res.2.1 n_messages n_areas n_firsts n_seconds n_privates res.2.2.1 res.2.2.2.1 res.2.2.2.2.1 res.2.2.2.2.2.1 res.2.2.2.2.2.2) (va_A (wX3 Z An n_nodes n_links n_tunnels n_messages n_areas n_firsts n_seconds n_privates n_entries n_exits n_truth n_facts n_news) sz)) 0 0 (va_A (wX3 Z An n_nodes n_links n_tunnels n_messages n_areas n_firsts n_seconds n_privates n_entries n_exits n_truth n_facts n_news) sz) := by
  refine zMet (own := RX3) (fun A => zQi Z res.1 (wX3 Z An n_nodes n_links res.2.1 n_messages n_areas n_firsts n_seconds n_privates res.2.2.1 res.2.2.2.1 res.2.2.2.2.1 res.2.2.2.2.2.1 res.2.2.2.2.2.2) A) (by decide) rfl (Nat.le_of_ble_eq_true rfl) ?_
  intro p e s m args below meth c ls A E hw hl
  unfold fX3_createTunnel at h
  refine r_aload_n E hl 0 rfl dX3_createTunnel_0 rfl ?_
  refine r_get E kW_X3 hw 0 rfl rfl 2 (by decide) kF_X3_47 rfl dX3_createTunnel_1 ?_
  refine r_istore E [(4, .int n_tunnels), (0, .ref (An 0)), (1, .int v1), (2, .int v2), (3, .int v3)] hl dX3_createTunnel_4 (by decide) rfl (fun ls hl => ?_)
  refine r_aload_n E hl 1 rfl dX3_createTunnel_6 rfl ?_
  refine r_get E kW_X3 hw 0 rfl rfl 8 (by decide) kF_X3_24 rfl dX3_createTunnel_7 ?_
  refine r_iload E hl 0 rfl dX3_createTunnel_10 ?_
  refine r_iload_n E hl 2 rfl dX3_createTunnel_12 rfl ?_
  obtain ⟨hg1, h⟩ := gd_some h
  refine r_iast E (wX3 Z An n_nodes n_links n_tunnels n_messages n_areas n_firsts n_seconds n_privates (upd n_entries (n_tunnels).toNatClampNeg v1) n_exits n_truth n_facts n_news) hw 5 rfl hg1 rfl dX3_createTunnel_13 (fun H locs hw => ?_)
  refine r_aload_n E hl 1 rfl dX3_createTunnel_14 rfl ?_
  refine r_get E kW_X3 hw 0 rfl rfl 9 (by decide) kF_X3_27 rfl dX3_createTunnel_15 ?_
  refine r_iload E hl 0 rfl dX3_createTunnel_18 ?_
  refine r_iload_n E hl 3 rfl dX3_createTunnel_20 rfl ?_
  obtain ⟨hg2, h⟩ := gd_some h
  refine r_iast E (wX3 Z An n_nodes n_links n_tunnels n_messages n_areas n_firsts n_seconds n_privates (upd n_entries (n_tunnels).toNatClampNeg v1) (upd n_exits (n_tunnels).toNatClampNeg v2) n_truth n_facts n_news) hw 6 rfl hg2 rfl dX3_createTunnel_21 (fun H locs hw => ?_)
  refine r_aload_n E hl 1 rfl dX3_createTunnel_22 rfl ?_
  refine r_dup E dX3_createTunnel_23 rfl ?_
  refine r_get E kW_X3 hw 0 rfl rfl 2 (by decide) kF_X3_47 rfl dX3_createTunnel_24 ?_
  refine r_iconst E 1 dX3_createTunnel_27 (by decide) ?_
  refine r_iadd E dX3_createTunnel_28 ?_
  refine r_put E (wX3 Z An n_nodes n_links (n_tunnels + (1 : Int32)) n_messages n_areas n_firsts n_seconds n_privates (upd n_entries (n_tunnels).toNatClampNeg v1) (upd n_exits (n_tunnels).toNatClampNeg v2) n_truth n_facts n_news) kW_X3 tyX3_ok nmX3 hw 0 rfl rfl 2 (by decide) kF_X3_47 rfl rfl rfl (Nat.le_of_ble_eq_true rfl) rfl dX3_createTunnel_29 (fun H locs hw => ?_)
  refine r_aload_n E hl 1 rfl dX3_createTunnel_32 rfl ?_
  refine r_iload E hl 0 rfl dX3_createTunnel_33 ?_
  refine r_iconst E 1 dX3_createTunnel_35 (by decide) ?_
  refine r_iload_n E hl 4 rfl dX3_createTunnel_36 rfl ?_
  obtain ⟨y3, hy3, h⟩ := bd_some h
  refine r_callVAi E hw (mX3_changeTunnel l Z _ An n_nodes n_links (n_tunnels + (1 : Int32)) n_messages n_areas n_firsts n_seconds n_privates (upd n_entries (n_tunnels).toNatClampNeg v1) (upd n_exits (n_tunnels).toNatClampNeg v2) n_truth n_facts n_news n_tunnels (1 : Int32) v3 hy3) kL_X3_93 kI_X3_changeTunnel kS_X3_changeTunnel kN_X3 kC_X3_changeTunnel rfl rfl hdX3_changeTunnel ⟨Nat.le_of_ble_eq_true rfl, Nat.le_of_ble_eq_true rfl⟩ 0 rfl rfl rfl rfl hl [] rfl (Nat.le_of_ble_eq_true rfl) dX3_createTunnel_37 ⟨Nat.zero_le _, Nat.zero_le _⟩ (fun H locs hw => ?_)
  refine r_pop E dX3_createTunnel_40 rfl ?_
  refine r_iload E hl 0 rfl dX3_createTunnel_41 ?_
  obtain rfl := Option.some.inj h
  exact r_iret E hw dX3_createTunnel_43
abbrev rmX3_createNode : Room := { frames := 0, cells := 0, slots := 0, locals := 0 }

set_option maxRecDepth 100000 in
set_option maxHeartbeats 4000000 in
theorem mX3_createNode (l : Launch) (Z : zT) (sz : Nat) (An : Nat → Nat) (n_nodes : Int32) (n_links : Int32) (n_tunnels : Int32) (n_messages : Int32) (n_areas : (Nat → Int32)) (n_firsts : (Nat → Int32)) (n_seconds : (Nat → Int32)) (n_privates : (Nat → Int32)) (n_entries : (Nat → Int32)) (n_exits : (Nat → Int32)) (n_truth : (Nat → Int32)) (n_facts : (Nat → Int32)) (n_news : (Nat → Int64)) (v1 : Int32) {res : Int32 × Int32 × (Nat → Int32)} (h : fX3_createNode v1 n_nodes n_areas = some res) : Met l yX3_createNode (Cond.code yX3_createNode cX3_createNode 2 (some .int) :: zWs) rmX3_createNode (zP Z (wX3 Z An n_nodes n_links n_tunnels n_messages n_areas n_firsts n_seconds n_privates n_entries n_exits n_truth n_facts n_news) sz [.ref (An 0), .int v1]) (zQi Z res.1 (wX3 Z An res.2.1 n_links n_tunnels n_messages res.2.2 n_firsts n_seconds n_privates n_entries n_exits n_truth n_facts n_news) (va_A (wX3 Z An n_nodes n_links n_tunnels n_messages n_areas n_firsts n_seconds n_privates n_entries n_exits n_truth n_facts n_news) sz)) 0 0 (va_A (wX3 Z An n_nodes n_links n_tunnels n_messages n_areas n_firsts n_seconds n_privates n_entries n_exits n_truth n_facts n_news) sz) := by
  refine zMet (own := RX3) (fun A => zQi Z res.1 (wX3 Z An res.2.1 n_links n_tunnels n_messages res.2.2 n_firsts n_seconds n_privates n_entries n_exits n_truth n_facts n_news) A) (by decide) rfl (Nat.le_of_ble_eq_true rfl) ?_
  intro p e s m args below meth c ls A E hw hl
  unfold fX3_createNode at h
  refine r_aload_n E hl 0 rfl dX3_createNode_0 rfl ?_
  refine r_get E kW_X3 hw 0 rfl rfl 4 (by decide) kF_X3_9 rfl dX3_createNode_1 ?_
  refine r_aload_n E hl 0 rfl dX3_createNode_4 rfl ?_
  refine r_get E kW_X3 hw 0 rfl rfl 0 (by decide) kF_X3_40 rfl dX3_createNode_5 ?_
  refine r_iload_n E hl 1 rfl dX3_createNode_8 rfl ?_
  obtain ⟨hg1, h⟩ := gd_some h
  refine r_iast E (wX3 Z An n_nodes n_links n_tunnels n_messages (upd n_areas (n_nodes).toNatClampNeg v1) n_firsts n_seconds n_privates n_entries n_exits n_truth n_facts n_news) hw 1 rfl hg1 rfl dX3_createNode_9 (fun H locs hw => ?_)
  refine r_aload_n E hl 0 rfl dX3_createNode_10 rfl ?_
  refine r_dup E dX3_createNode_11 rfl ?_
  refine r_get E kW_X3 hw 0 rfl rfl 0 (by decide) kF_X3_40 rfl dX3_createNode_12 ?_
  refine r_iconst E 1 dX3_createNode_15 (by decide) ?_
  refine r_iadd E dX3_createNode_16 ?_
  refine r_put E (wX3 Z An (n_nodes + (1 : Int32)) n_links n_tunnels n_messages (upd n_areas (n_nodes).toNatClampNeg v1) n_firsts n_seconds n_privates n_entries n_exits n_truth n_facts n_news) kW_X3 tyX3_ok nmX3 hw 0 rfl rfl 0 (by decide) kF_X3_40 rfl rfl rfl (Nat.le_of_ble_eq_true rfl) rfl dX3_createNode_17 (fun H locs hw => ?_)
  refine r_aload_n E hl 0 rfl dX3_createNode_20 rfl ?_
  refine r_get E kW_X3 hw 0 rfl rfl 0 (by decide) kF_X3_40 rfl dX3_createNode_21 ?_
  refine r_iconst E 1 dX3_createNode_24 (by decide) ?_
  refine r_isub E dX3_createNode_25 ?_
  obtain rfl := Option.some.inj h
  exact r_iret E hw dX3_createNode_26
abbrev rmX3_copyFrom : Room := { frames := 1, cells := 0, slots := 0, locals := 40 }

set_option maxRecDepth 100000 in
set_option maxHeartbeats 4000000 in
theorem mX3_copyFrom (l : Launch) (Z : zT) (sz : Nat) (An : Nat → Nat) (Ak : Nat → Nat) (n_nodes : Int32) (n_links : Int32) (n_tunnels : Int32) (n_messages : Int32) (n_areas : (Nat → Int32)) (n_firsts : (Nat → Int32)) (n_seconds : (Nat → Int32)) (n_privates : (Nat → Int32)) (n_entries : (Nat → Int32)) (n_exits : (Nat → Int32)) (n_truth : (Nat → Int32)) (n_facts : (Nat → Int32)) (n_news : (Nat → Int64)) (k_nodes : Int32) (k_links : Int32) (k_tunnels : Int32) (k_messages : Int32) (k_areas : (Nat → Int32)) (k_firsts : (Nat → Int32)) (k_seconds : (Nat → Int32)) (k_privates : (Nat → Int32)) (k_entries : (Nat → Int32)) (k_exits : (Nat → Int32)) (k_truth : (Nat → Int32)) (k_facts : (Nat → Int32)) (k_news : (Nat → Int64))  {res : Int32 × Int32 × Int32 × Int32 × (Nat → Int32) × (Nat → Int32) × (Nat → Int32) × (Nat → Int32) × (Nat → Int32) × (Nat → Int32) × (Nat → Int32) × (Nat → Int32) × (Nat → Int64)} (h : fX3_copyFrom n_areas n_firsts n_seconds n_privates n_entries n_exits n_truth n_facts n_news k_nodes k_links k_tunnels k_messages k_areas k_firsts k_seconds k_privates k_entries k_exits k_truth k_facts k_news = some res) : Met l yX3_copyFrom (Cond.code yX3_copyFrom cX3_copyFrom 2 none :: zWs) rmX3_copyFrom (zP Z ((wX3 Z An n_nodes n_links n_tunnels n_messages n_areas n_firsts n_seconds n_privates n_entries n_exits n_truth n_facts n_news ++ wX3 Z Ak k_nodes k_links k_tunnels k_messages k_areas k_firsts k_seconds k_privates k_entries k_exits k_truth k_facts k_news)) sz [.ref (An 0), .ref (Ak 0)]) (zQv Z ((wX3 Z An res.1 res.2.1 res.2.2.1 res.2.2.2.1 res.2.2.2.2.1 res.2.2.2.2.2.1 res.2.2.2.2.2.2.1 res.2.2.2.2.2.2.2.1 res.2.2.2.2.2.2.2.2.1 res.2.2.2.2.2.2.2.2.2.1 res.2.2.2.2.2.2.2.2.2.2.1 res.2.2.2.2.2.2.2.2.2.2.2.1 res.2.2.2.2.2.2.2.2.2.2.2.2 ++ wX3 Z Ak k_nodes k_links k_tunnels k_messages k_areas k_firsts k_seconds k_privates k_entries k_exits k_truth k_facts k_news)) (va_A ((wX3 Z An n_nodes n_links n_tunnels n_messages n_areas n_firsts n_seconds n_privates n_entries n_exits n_truth n_facts n_news ++ wX3 Z Ak k_nodes k_links k_tunnels k_messages k_areas k_firsts k_seconds k_privates k_entries k_exits k_truth k_facts k_news)) sz)) 0 0 (va_A ((wX3 Z An n_nodes n_links n_tunnels n_messages n_areas n_firsts n_seconds n_privates n_entries n_exits n_truth n_facts n_news ++ wX3 Z Ak k_nodes k_links k_tunnels k_messages k_areas k_firsts k_seconds k_privates k_entries k_exits k_truth k_facts k_news)) sz) := by
  refine zMet (own := RX3) (fun A => zQv Z ((wX3 Z An res.1 res.2.1 res.2.2.1 res.2.2.2.1 res.2.2.2.2.1 res.2.2.2.2.2.1 res.2.2.2.2.2.2.1 res.2.2.2.2.2.2.2.1 res.2.2.2.2.2.2.2.2.1 res.2.2.2.2.2.2.2.2.2.1 res.2.2.2.2.2.2.2.2.2.2.1 res.2.2.2.2.2.2.2.2.2.2.2.1 res.2.2.2.2.2.2.2.2.2.2.2.2 ++ wX3 Z Ak k_nodes k_links k_tunnels k_messages k_areas k_firsts k_seconds k_privates k_entries k_exits k_truth k_facts k_news)) A) (by decide) rfl (Nat.le_of_ble_eq_true rfl) ?_
  intro p e s m args below meth c ls A E hw hl
  unfold fX3_copyFrom at h
  refine r_aload_n E hl 0 rfl dX3_copyFrom_0 rfl ?_
  refine r_aload_n E hl 1 rfl dX3_copyFrom_1 rfl ?_
  refine r_get E kW_X3 hw 10 rfl rfl 0 (by decide) kF_X3_40 rfl dX3_copyFrom_2 ?_
  refine r_put E ((wX3 Z An k_nodes n_links n_tunnels n_messages n_areas n_firsts n_seconds n_privates n_entries n_exits n_truth n_facts n_news ++ wX3 Z Ak k_nodes k_links k_tunnels k_messages k_areas k_firsts k_seconds k_privates k_entries k_exits k_truth k_facts k_news)) kW_X3 tyX3_ok nmX3 hw 0 rfl rfl 0 (by decide) kF_X3_40 rfl rfl rfl (Nat.le_of_ble_eq_true rfl) rfl dX3_copyFrom_5 (fun H locs hw => ?_)
  refine r_aload_n E hl 0 rfl dX3_copyFrom_8 rfl ?_
  refine r_aload_n E hl 1 rfl dX3_copyFrom_9 rfl ?_
  refine r_get E kW_X3 hw 10 rfl rfl 1 (by decide) kF_X3_44 rfl dX3_copyFrom_10 ?_
  refine r_put E ((wX3 Z An k_nodes k_links n_tunnels n_messages n_areas n_firsts n_seconds n_privates n_entries n_exits n_truth n_facts n_news ++ wX3 Z Ak k_nodes k_links k_tunnels k_messages k_areas k_firsts k_seconds k_privates k_entries k_exits k_truth k_facts k_news)) kW_X3 tyX3_ok nmX3 hw 0 rfl rfl 1 (by decide) kF_X3_44 rfl rfl rfl (Nat.le_of_ble_eq_true rfl) rfl dX3_copyFrom_13 (fun H locs hw => ?_)
  refine r_aload_n E hl 0 rfl dX3_copyFrom_16 rfl ?_
  refine r_aload_n E hl 1 rfl dX3_copyFrom_17 rfl ?_
  refine r_get E kW_X3 hw 10 rfl rfl 2 (by decide) kF_X3_47 rfl dX3_copyFrom_18 ?_
  refine r_put E ((wX3 Z An k_nodes k_links k_tunnels n_messages n_areas n_firsts n_seconds n_privates n_entries n_exits n_truth n_facts n_news ++ wX3 Z Ak k_nodes k_links k_tunnels k_messages k_areas k_firsts k_seconds k_privates k_entries k_exits k_truth k_facts k_news)) kW_X3 tyX3_ok nmX3 hw 0 rfl rfl 2 (by decide) kF_X3_47 rfl rfl rfl (Nat.le_of_ble_eq_true rfl) rfl dX3_copyFrom_21 (fun H locs hw => ?_)
  refine r_aload_n E hl 0 rfl dX3_copyFrom_24 rfl ?_
  refine r_aload_n E hl 1 rfl dX3_copyFrom_25 rfl ?_
  refine r_get E kW_X3 hw 10 rfl rfl 3 (by decide) kF_X3_50 rfl dX3_copyFrom_26 ?_
  refine r_put E ((wX3 Z An k_nodes k_links k_tunnels k_messages n_areas n_firsts n_seconds n_privates n_entries n_exits n_truth n_facts n_news ++ wX3 Z Ak k_nodes k_links k_tunnels k_messages k_areas k_firsts k_seconds k_privates k_entries k_exits k_truth k_facts k_news)) kW_X3 tyX3_ok nmX3 hw 0 rfl rfl 3 (by decide) kF_X3_50 rfl rfl rfl (Nat.le_of_ble_eq_true rfl) rfl dX3_copyFrom_29 (fun H locs hw => ?_)
  refine r_aload_n E hl 1 rfl dX3_copyFrom_32 rfl ?_
  refine r_get E kW_X3 hw 10 rfl rfl 4 (by decide) kF_X3_9 rfl dX3_copyFrom_33 ?_
  refine r_iconst E 0 dX3_copyFrom_36 (by decide) ?_
  refine r_aload_n E hl 0 rfl dX3_copyFrom_37 rfl ?_
  refine r_get E kW_X3 hw 0 rfl rfl 4 (by decide) kF_X3_9 rfl dX3_copyFrom_38 ?_
  refine r_iconst E 0 dX3_copyFrom_41 (by decide) ?_
  refine r_bipush E 10 dX3_copyFrom_42 (by decide) ?_
  refine r_copyi E ((wX3 Z An k_nodes k_links k_tunnels k_messages (va_cpy k_areas n_areas 0 0 10) n_firsts n_seconds n_privates n_entries n_exits n_truth n_facts n_news ++ wX3 Z Ak k_nodes k_links k_tunnels k_messages k_areas k_firsts k_seconds k_privates k_entries k_exits k_truth k_facts k_news)) hw hl 11 1 rfl rfl kL_X3_64 10 (by decide) (by decide) (by decide) (by decide) (by decide) rfl dX3_copyFrom_44 (fun H locs hw => ?_)
  refine r_aload_n E hl 1 rfl dX3_copyFrom_47 rfl ?_
  refine r_get E kW_X3 hw 10 rfl rfl 5 (by decide) kF_X3_15 rfl dX3_copyFrom_48 ?_
  refine r_iconst E 0 dX3_copyFrom_51 (by decide) ?_
  refine r_aload_n E hl 0 rfl dX3_copyFrom_52 rfl ?_
  refine r_get E kW_X3 hw 0 rfl rfl 5 (by decide) kF_X3_15 rfl dX3_copyFrom_53 ?_
  refine r_iconst E 0 dX3_copyFrom_56 (by decide) ?_
  refine r_bipush E 16 dX3_copyFrom_57 (by decide) ?_
  refine r_copyi E ((wX3 Z An k_nodes k_links k_tunnels k_messages (va_cpy k_areas n_areas 0 0 10) (va_cpy k_firsts n_firsts 0 0 16) n_seconds n_privates n_entries n_exits n_truth n_facts n_news ++ wX3 Z Ak k_nodes k_links k_tunnels k_messages k_areas k_firsts k_seconds k_privates k_entries k_exits k_truth k_facts k_news)) hw hl 12 2 rfl rfl kL_X3_64 16 (by decide) (by decide) (by decide) (by decide) (by decide) rfl dX3_copyFrom_59 (fun H locs hw => ?_)
  refine r_aload_n E hl 1 rfl dX3_copyFrom_62 rfl ?_
  refine r_get E kW_X3 hw 10 rfl rfl 6 (by decide) kF_X3_18 rfl dX3_copyFrom_63 ?_
  refine r_iconst E 0 dX3_copyFrom_66 (by decide) ?_
  refine r_aload_n E hl 0 rfl dX3_copyFrom_67 rfl ?_
  refine r_get E kW_X3 hw 0 rfl rfl 6 (by decide) kF_X3_18 rfl dX3_copyFrom_68 ?_
  refine r_iconst E 0 dX3_copyFrom_71 (by decide) ?_
  refine r_bipush E 16 dX3_copyFrom_72 (by decide) ?_
  refine r_copyi E ((wX3 Z An k_nodes k_links k_tunnels k_messages (va_cpy k_areas n_areas 0 0 10) (va_cpy k_firsts n_firsts 0 0 16) (va_cpy k_seconds n_seconds 0 0 16) n_privates n_entries n_exits n_truth n_facts n_news ++ wX3 Z Ak k_nodes k_links k_tunnels k_messages k_areas k_firsts k_seconds k_privates k_entries k_exits k_truth k_facts k_news)) hw hl 13 3 rfl rfl kL_X3_64 16 (by decide) (by decide) (by decide) (by decide) (by decide) rfl dX3_copyFrom_74 (fun H locs hw => ?_)
  refine r_aload_n E hl 1 rfl dX3_copyFrom_77 rfl ?_
  refine r_get E kW_X3 hw 10 rfl rfl 7 (by decide) kF_X3_21 rfl dX3_copyFrom_78 ?_
  refine r_iconst E 0 dX3_copyFrom_81 (by decide) ?_
  refine r_aload_n E hl 0 rfl dX3_copyFrom_82 rfl ?_
  refine r_get E kW_X3 hw 0 rfl rfl 7 (by decide) kF_X3_21 rfl dX3_copyFrom_83 ?_
  refine r_iconst E 0 dX3_copyFrom_86 (by decide) ?_
  refine r_bipush E 16 dX3_copyFrom_87 (by decide) ?_
  refine r_copyi E ((wX3 Z An k_nodes k_links k_tunnels k_messages (va_cpy k_areas n_areas 0 0 10) (va_cpy k_firsts n_firsts 0 0 16) (va_cpy k_seconds n_seconds 0 0 16) (va_cpy k_privates n_privates 0 0 16) n_entries n_exits n_truth n_facts n_news ++ wX3 Z Ak k_nodes k_links k_tunnels k_messages k_areas k_firsts k_seconds k_privates k_entries k_exits k_truth k_facts k_news)) hw hl 14 4 rfl rfl kL_X3_64 16 (by decide) (by decide) (by decide) (by decide) (by decide) rfl dX3_copyFrom_89 (fun H locs hw => ?_)
  refine r_aload_n E hl 1 rfl dX3_copyFrom_92 rfl ?_
  refine r_get E kW_X3 hw 10 rfl rfl 8 (by decide) kF_X3_24 rfl dX3_copyFrom_93 ?_
  refine r_iconst E 0 dX3_copyFrom_96 (by decide) ?_
  refine r_aload_n E hl 0 rfl dX3_copyFrom_97 rfl ?_
  refine r_get E kW_X3 hw 0 rfl rfl 8 (by decide) kF_X3_24 rfl dX3_copyFrom_98 ?_
  refine r_iconst E 0 dX3_copyFrom_101 (by decide) ?_
  refine r_iconst E 3 dX3_copyFrom_102 (by decide) ?_
  refine r_copyi E ((wX3 Z An k_nodes k_links k_tunnels k_messages (va_cpy k_areas n_areas 0 0 10) (va_cpy k_firsts n_firsts 0 0 16) (va_cpy k_seconds n_seconds 0 0 16) (va_cpy k_privates n_privates 0 0 16) (va_cpy k_entries n_entries 0 0 3) n_exits n_truth n_facts n_news ++ wX3 Z Ak k_nodes k_links k_tunnels k_messages k_areas k_firsts k_seconds k_privates k_entries k_exits k_truth k_facts k_news)) hw hl 15 5 rfl rfl kL_X3_64 3 (by decide) (by decide) (by decide) (by decide) (by decide) rfl dX3_copyFrom_103 (fun H locs hw => ?_)
  refine r_aload_n E hl 1 rfl dX3_copyFrom_106 rfl ?_
  refine r_get E kW_X3 hw 10 rfl rfl 9 (by decide) kF_X3_27 rfl dX3_copyFrom_107 ?_
  refine r_iconst E 0 dX3_copyFrom_110 (by decide) ?_
  refine r_aload_n E hl 0 rfl dX3_copyFrom_111 rfl ?_
  refine r_get E kW_X3 hw 0 rfl rfl 9 (by decide) kF_X3_27 rfl dX3_copyFrom_112 ?_
  refine r_iconst E 0 dX3_copyFrom_115 (by decide) ?_
  refine r_iconst E 3 dX3_copyFrom_116 (by decide) ?_
  refine r_copyi E ((wX3 Z An k_nodes k_links k_tunnels k_messages (va_cpy k_areas n_areas 0 0 10) (va_cpy k_firsts n_firsts 0 0 16) (va_cpy k_seconds n_seconds 0 0 16) (va_cpy k_privates n_privates 0 0 16) (va_cpy k_entries n_entries 0 0 3) (va_cpy k_exits n_exits 0 0 3) n_truth n_facts n_news ++ wX3 Z Ak k_nodes k_links k_tunnels k_messages k_areas k_firsts k_seconds k_privates k_entries k_exits k_truth k_facts k_news)) hw hl 16 6 rfl rfl kL_X3_64 3 (by decide) (by decide) (by decide) (by decide) (by decide) rfl dX3_copyFrom_117 (fun H locs hw => ?_)
  refine r_aload_n E hl 1 rfl dX3_copyFrom_120 rfl ?_
  refine r_get E kW_X3 hw 10 rfl rfl 10 (by decide) kF_X3_30 rfl dX3_copyFrom_121 ?_
  refine r_iconst E 0 dX3_copyFrom_124 (by decide) ?_
  refine r_aload_n E hl 0 rfl dX3_copyFrom_125 rfl ?_
  refine r_get E kW_X3 hw 0 rfl rfl 10 (by decide) kF_X3_30 rfl dX3_copyFrom_126 ?_
  refine r_iconst E 0 dX3_copyFrom_129 (by decide) ?_
  refine r_bipush E 35 dX3_copyFrom_130 (by decide) ?_
  refine r_copyi E ((wX3 Z An k_nodes k_links k_tunnels k_messages (va_cpy k_areas n_areas 0 0 10) (va_cpy k_firsts n_firsts 0 0 16) (va_cpy k_seconds n_seconds 0 0 16) (va_cpy k_privates n_privates 0 0 16) (va_cpy k_entries n_entries 0 0 3) (va_cpy k_exits n_exits 0 0 3) (va_cpy k_truth n_truth 0 0 35) n_facts n_news ++ wX3 Z Ak k_nodes k_links k_tunnels k_messages k_areas k_firsts k_seconds k_privates k_entries k_exits k_truth k_facts k_news)) hw hl 17 7 rfl rfl kL_X3_64 35 (by decide) (by decide) (by decide) (by decide) (by decide) rfl dX3_copyFrom_132 (fun H locs hw => ?_)
  refine r_aload_n E hl 1 rfl dX3_copyFrom_135 rfl ?_
  refine r_get E kW_X3 hw 10 rfl rfl 11 (by decide) kF_X3_33 rfl dX3_copyFrom_136 ?_
  refine r_iconst E 0 dX3_copyFrom_139 (by decide) ?_
  refine r_aload_n E hl 0 rfl dX3_copyFrom_140 rfl ?_
  refine r_get E kW_X3 hw 0 rfl rfl 11 (by decide) kF_X3_33 rfl dX3_copyFrom_141 ?_
  refine r_iconst E 0 dX3_copyFrom_144 (by decide) ?_
  refine r_sipush E 350 dX3_copyFrom_145 (by decide) ?_
  refine r_copyi E ((wX3 Z An k_nodes k_links k_tunnels k_messages (va_cpy k_areas n_areas 0 0 10) (va_cpy k_firsts n_firsts 0 0 16) (va_cpy k_seconds n_seconds 0 0 16) (va_cpy k_privates n_privates 0 0 16) (va_cpy k_entries n_entries 0 0 3) (va_cpy k_exits n_exits 0 0 3) (va_cpy k_truth n_truth 0 0 35) (va_cpy k_facts n_facts 0 0 350) n_news ++ wX3 Z Ak k_nodes k_links k_tunnels k_messages k_areas k_firsts k_seconds k_privates k_entries k_exits k_truth k_facts k_news)) hw hl 18 8 rfl rfl kL_X3_64 350 (by decide) (by decide) (by decide) (by decide) (by decide) rfl dX3_copyFrom_148 (fun H locs hw => ?_)
  refine r_aload_n E hl 1 rfl dX3_copyFrom_151 rfl ?_
  refine r_get E kW_X3 hw 10 rfl rfl 12 (by decide) kF_X3_36 rfl dX3_copyFrom_152 ?_
  refine r_iconst E 0 dX3_copyFrom_155 (by decide) ?_
  refine r_aload_n E hl 0 rfl dX3_copyFrom_156 rfl ?_
  refine r_get E kW_X3 hw 0 rfl rfl 12 (by decide) kF_X3_36 rfl dX3_copyFrom_157 ?_
  refine r_iconst E 0 dX3_copyFrom_160 (by decide) ?_
  refine r_bipush E 10 dX3_copyFrom_161 (by decide) ?_
  refine r_copyl E ((wX3 Z An k_nodes k_links k_tunnels k_messages (va_cpy k_areas n_areas 0 0 10) (va_cpy k_firsts n_firsts 0 0 16) (va_cpy k_seconds n_seconds 0 0 16) (va_cpy k_privates n_privates 0 0 16) (va_cpy k_entries n_entries 0 0 3) (va_cpy k_exits n_exits 0 0 3) (va_cpy k_truth n_truth 0 0 35) (va_cpy k_facts n_facts 0 0 350) (va_cpy k_news n_news 0 0 10) ++ wX3 Z Ak k_nodes k_links k_tunnels k_messages k_areas k_firsts k_seconds k_privates k_entries k_exits k_truth k_facts k_news)) hw hl 19 9 rfl rfl kL_X3_64 10 (by decide) (by decide) (by decide) (by decide) (by decide) rfl dX3_copyFrom_163 (fun H locs hw => ?_)
  obtain rfl := Option.some.inj h
  exact r_vret E hw dX3_copyFrom_166
