abbrev rmX0_make : Room := { frames := 0, cells := 0, slots := 0, locals := 0 }

set_option maxRecDepth 100000 in
set_option maxHeartbeats 4000000 in
theorem mX0_make (l : Launch) (Z : zT) (sz : Nat)   (v0 : Int32) (v1 : Int32) (v2 : Int32) {res : Int32} (h : fX0_make v0 v1 v2 = some res) : Met l yX0_make (Cond.code yX0_make cX0_make 3 (some .int) :: zWs) rmX0_make (zP Z ([]) sz [.int v0, .int v1, .int v2]) (zQi Z res ([]) (va_A ([]) sz)) 0 0 (va_A ([]) sz) := by
  refine zMet (own := RX0) (fun A => zQi Z res ([]) A) (by decide) rfl (Nat.le_of_ble_eq_true rfl) ?_
  intro p e s m args below meth c ls A E hw hl
  unfold fX0_make at h
  refine r_iload_n E hl 0 rfl dX0_make_0 rfl ?_
  refine r_bipush E 7 dX0_make_1 (by decide) ?_
  refine r_ishl E dX0_make_3 ?_
  refine r_iload_n E hl 2 rfl dX0_make_4 rfl ?_
  refine r_iconst E 1 dX0_make_5 (by decide) ?_
  refine r_ishl E dX0_make_6 ?_
  refine r_ior E dX0_make_7 ?_
  refine r_iload_n E hl 1 rfl dX0_make_8 rfl ?_
  refine r_ior E dX0_make_9 ?_
  obtain rfl := Option.some.inj h
  exact r_iret E hw dX0_make_10
abbrev rmX0_version : Room := { frames := 0, cells := 0, slots := 0, locals := 0 }

set_option maxRecDepth 100000 in
set_option maxHeartbeats 4000000 in
theorem mX0_version (l : Launch) (Z : zT) (sz : Nat)   (v0 : Int32) {res : Int32} (h : fX0_version v0 = some res) : Met l yX0_version (Cond.code yX0_version cX0_version 1 (some .int) :: zWs) rmX0_version (zP Z ([]) sz [.int v0]) (zQi Z res ([]) (va_A ([]) sz)) 0 0 (va_A ([]) sz) := by
  refine zMet (own := RX0) (fun A => zQi Z res ([]) A) (by decide) rfl (Nat.le_of_ble_eq_true rfl) ?_
  intro p e s m args below meth c ls A E hw hl
  unfold fX0_version at h
  refine r_iload_n E hl 0 rfl dX0_version_0 rfl ?_
  refine r_bipush E 7 dX0_version_1 (by decide) ?_
  refine r_iushr E dX0_version_3 ?_
  obtain rfl := Option.some.inj h
  exact r_iret E hw dX0_version_4
abbrev rmX0_state : Room := { frames := 0, cells := 0, slots := 0, locals := 0 }

set_option maxRecDepth 100000 in
set_option maxHeartbeats 4000000 in
theorem mX0_state (l : Launch) (Z : zT) (sz : Nat)   (v0 : Int32) {res : Int32} (h : fX0_state v0 = some res) : Met l yX0_state (Cond.code yX0_state cX0_state 1 (some .int) :: zWs) rmX0_state (zP Z ([]) sz [.int v0]) (zQi Z res ([]) (va_A ([]) sz)) 0 0 (va_A ([]) sz) := by
  refine zMet (own := RX0) (fun A => zQi Z res ([]) A) (by decide) rfl (Nat.le_of_ble_eq_true rfl) ?_
  intro p e s m args below meth c ls A E hw hl
  unfold fX0_state at h
  refine r_iload_n E hl 0 rfl dX0_state_0 rfl ?_
  refine r_iconst E 1 dX0_state_1 (by decide) ?_
  refine r_iand E dX0_state_2 ?_
  obtain rfl := Option.some.inj h
  exact r_iret E hw dX0_state_3
abbrev rmX0_price : Room := { frames := 0, cells := 0, slots := 0, locals := 0 }

set_option maxRecDepth 100000 in
set_option maxHeartbeats 4000000 in
theorem mX0_price (l : Launch) (Z : zT) (sz : Nat)   (v0 : Int32) {res : Int32} (h : fX0_price v0 = some res) : Met l yX0_price (Cond.code yX0_price cX0_price 1 (some .int) :: zWs) rmX0_price (zP Z ([]) sz [.int v0]) (zQi Z res ([]) (va_A ([]) sz)) 0 0 (va_A ([]) sz) := by
  refine zMet (own := RX0) (fun A => zQi Z res ([]) A) (by decide) rfl (Nat.le_of_ble_eq_true rfl) ?_
  intro p e s m args below meth c ls A E hw hl
  unfold fX0_price at h
  refine r_iload_n E hl 0 rfl dX0_price_0 rfl ?_
  refine r_iconst E 1 dX0_price_1 (by decide) ?_
  refine r_iushr E dX0_price_2 ?_
  refine r_bipush E 63 dX0_price_3 (by decide) ?_
  refine r_iand E dX0_price_5 ?_
  obtain rfl := Option.some.inj h
  exact r_iret E hw dX0_price_6
abbrev rmX6_isArea : Room := { frames := 0, cells := 0, slots := 0, locals := 0 }

set_option maxRecDepth 100000 in
set_option maxHeartbeats 4000000 in
theorem mX6_isArea (l : Launch) (Z : zT) (sz : Nat)   (v0 : Int32) {res : Int32} (h : fX6_isArea v0 = some res) : Met l yX6_isArea (Cond.code yX6_isArea cX6_isArea 1 (some .boolean) :: zWs) rmX6_isArea (zP Z ([]) sz [.int v0]) (zQi Z res ([]) (va_A ([]) sz)) 0 0 (va_A ([]) sz) := by
  refine zMet (own := RX6) (fun A => zQi Z res ([]) A) (by decide) rfl (Nat.le_of_ble_eq_true rfl) ?_
  intro p e s m args below meth c ls A E hw hl
  unfold fX6_isArea at h
  refine r_iload_n E hl 0 rfl dX6_isArea_0 rfl ?_
  refine r_if_lt E 13 dX6_isArea_1 (by decide) (fun hc => ?_) (fun hc => ?_)
  · replace h := ite_t hc h
    refine r_iconst E 0 dX6_isArea_13 (by decide) ?_
    obtain rfl := Option.some.inj h
    exact r_zret E bz_0 hw dX6_isArea_14
  · replace h := ite_f hc h
    refine r_iload_n E hl 0 rfl dX6_isArea_4 rfl ?_
    refine r_iconst E 4 dX6_isArea_5 (by decide) ?_
    refine r_icmp_ge E 13 dX6_isArea_6 (by decide) (fun hc => ?_) (fun hc => ?_)
    · replace h := ite_t hc h
      refine r_iconst E 0 dX6_isArea_13 (by decide) ?_
      obtain rfl := Option.some.inj h
      exact r_zret E bz_0 hw dX6_isArea_14
    · replace h := ite_f hc h
      refine r_iconst E 1 dX6_isArea_9 (by decide) ?_
      refine r_goto E 14 dX6_isArea_10 (by decide) ?_
      obtain rfl := Option.some.inj h
      exact r_zret E bz_1 hw dX6_isArea_14
abbrev rmX6_areTwoAreas : Room := { frames := 1, cells := 0, slots := 0, locals := 20 }

set_option maxRecDepth 100000 in
set_option maxHeartbeats 4000000 in
theorem mX6_areTwoAreas (l : Launch) (Z : zT) (sz : Nat)   (v0 : Int32) (v1 : Int32) {res : Int32} (h : fX6_areTwoAreas v0 v1 = some res) : Met l yX6_areTwoAreas (Cond.code yX6_areTwoAreas cX6_areTwoAreas 2 (some .boolean) :: zWs) rmX6_areTwoAreas (zP Z ([]) sz [.int v0, .int v1]) (zQi Z res ([]) (va_A ([]) sz)) 0 0 (va_A ([]) sz) := by
  refine zMet (own := RX6) (fun A => zQi Z res ([]) A) (by decide) rfl (Nat.le_of_ble_eq_true rfl) ?_
  intro p e s m args below meth c ls A E hw hl
  unfold fX6_areTwoAreas at h
  refine r_iload_n E hl 0 rfl dX6_areTwoAreas_0 rfl ?_
  obtain ⟨y1, hy1, h⟩ := bd_some h
  refine r_callS0i E hw (mX6_isArea l Z _ v0 hy1) kL_X6_62 kT_X6_isArea kN_X6 kC_X6_isArea rfl rfl hdX6_isArea ⟨Nat.le_of_ble_eq_true rfl, Nat.le_of_ble_eq_true rfl⟩ rfl hl [] rfl (Nat.le_of_ble_eq_true rfl) dX6_areTwoAreas_1 ⟨Nat.zero_le _, Nat.zero_le _⟩ (fun H locs hw => ?_)
  refine r_if_eq E 23 dX6_areTwoAreas_4 (by decide) (fun hc => ?_) (fun hc => ?_)
  · replace h := ite_t hc h
    refine r_iconst E 0 dX6_areTwoAreas_23 (by decide) ?_
    obtain rfl := Option.some.inj h
    exact r_zret E bz_0 hw dX6_areTwoAreas_24
  · replace h := ite_f hc h
    refine r_iload_n E hl 1 rfl dX6_areTwoAreas_7 rfl ?_
    obtain ⟨y2, hy2, h⟩ := bd_some h
    refine r_callS0i E hw (mX6_isArea l Z _ v1 hy2) kL_X6_62 kT_X6_isArea kN_X6 kC_X6_isArea rfl rfl hdX6_isArea ⟨Nat.le_of_ble_eq_true rfl, Nat.le_of_ble_eq_true rfl⟩ rfl hl [] rfl (Nat.le_of_ble_eq_true rfl) dX6_areTwoAreas_8 ⟨Nat.zero_le _, Nat.zero_le _⟩ (fun H locs hw => ?_)
    refine r_if_eq E 23 dX6_areTwoAreas_11 (by decide) (fun hc => ?_) (fun hc => ?_)
    · replace h := ite_t hc h
      refine r_iconst E 0 dX6_areTwoAreas_23 (by decide) ?_
      obtain rfl := Option.some.inj h
      exact r_zret E bz_0 hw dX6_areTwoAreas_24
    · replace h := ite_f hc h
      refine r_iload_n E hl 0 rfl dX6_areTwoAreas_14 rfl ?_
      refine r_iload_n E hl 1 rfl dX6_areTwoAreas_15 rfl ?_
      refine r_icmp_eq E 23 dX6_areTwoAreas_16 (by decide) (fun hc => ?_) (fun hc => ?_)
      · replace h := ite_t hc h
        refine r_iconst E 0 dX6_areTwoAreas_23 (by decide) ?_
        obtain rfl := Option.some.inj h
        exact r_zret E bz_0 hw dX6_areTwoAreas_24
      · replace h := ite_f hc h
        refine r_iconst E 1 dX6_areTwoAreas_19 (by decide) ?_
        refine r_goto E 24 dX6_areTwoAreas_20 (by decide) ?_
        obtain rfl := Option.some.inj h
        exact r_zret E bz_1 hw dX6_areTwoAreas_24
abbrev rmX6_isCost : Room := { frames := 0, cells := 0, slots := 0, locals := 0 }

set_option maxRecDepth 100000 in
set_option maxHeartbeats 4000000 in
theorem mX6_isCost (l : Launch) (Z : zT) (sz : Nat)   (v0 : Int32) (v1 : Int32) {res : Int32} (h : fX6_isCost v0 v1 = some res) : Met l yX6_isCost (Cond.code yX6_isCost cX6_isCost 2 (some .boolean) :: zWs) rmX6_isCost (zP Z ([]) sz [.int v0, .int v1]) (zQi Z res ([]) (va_A ([]) sz)) 0 0 (va_A ([]) sz) := by
  refine zMet (own := RX6) (fun A => zQi Z res ([]) A) (by decide) rfl (Nat.le_of_ble_eq_true rfl) ?_
  intro p e s m args below meth c ls A E hw hl
  unfold fX6_isCost at h
  refine r_iload_n E hl 0 rfl dX6_isCost_0 rfl ?_
  refine r_iconst E 1 dX6_isCost_1 (by decide) ?_
  refine r_icmp_lt E 14 dX6_isCost_2 (by decide) (fun hc => ?_) (fun hc => ?_)
  · replace h := ite_t hc h
    refine r_iconst E 0 dX6_isCost_14 (by decide) ?_
    obtain rfl := Option.some.inj h
    exact r_zret E bz_0 hw dX6_isCost_15
  · replace h := ite_f hc h
    refine r_iload_n E hl 0 rfl dX6_isCost_5 rfl ?_
    refine r_iload_n E hl 1 rfl dX6_isCost_6 rfl ?_
    refine r_icmp_gt E 14 dX6_isCost_7 (by decide) (fun hc => ?_) (fun hc => ?_)
    · replace h := ite_t hc h
      refine r_iconst E 0 dX6_isCost_14 (by decide) ?_
      obtain rfl := Option.some.inj h
      exact r_zret E bz_0 hw dX6_isCost_15
    · replace h := ite_f hc h
      refine r_iconst E 1 dX6_isCost_10 (by decide) ?_
      refine r_goto E 15 dX6_isCost_11 (by decide) ?_
      obtain rfl := Option.some.inj h
      exact r_zret E bz_1 hw dX6_isCost_15
abbrev rmX6_isFlag : Room := { frames := 0, cells := 0, slots := 0, locals := 0 }

set_option maxRecDepth 100000 in
set_option maxHeartbeats 4000000 in
theorem vX6_isFlag_9 {Z : zT} {p : Program} {l : Launch} {e : Env} {s : State} {m : MethodId} {args : Array Value} {below : List Frame} {meth : Method} {c : Code} {A : Nat → Prop} (E : zE Z p s m args meth c RX6 cX6_isFlag 1 (some .boolean) A)   {res : Int32}  {H : Heap} {locs : List Loc} {ls : Array Slot} (hw : zW Z A ([]) s.heap H locs) (hl : lv_has ls 1 []) (h : uX6_isFlag_9  = some res) : W p l e rmX6_isFlag s m args below meth c H locs 0 0 (MQ below (zQi Z res ([]) A) args s 0 0 A) (F0 m 9 ls []) := by
  unfold uX6_isFlag_9 at h
  refine r_iconst E 1 dX6_isFlag_9 (by decide) ?_
  refine r_goto E 14 dX6_isFlag_10 (by decide) ?_
  obtain rfl := Option.some.inj h
  exact r_zret E bz_1 hw dX6_isFlag_14
set_option maxRecDepth 100000 in
set_option maxHeartbeats 4000000 in
theorem mX6_isFlag (l : Launch) (Z : zT) (sz : Nat)   (v0 : Int32) {res : Int32} (h : fX6_isFlag v0 = some res) : Met l yX6_isFlag (Cond.code yX6_isFlag cX6_isFlag 1 (some .boolean) :: zWs) rmX6_isFlag (zP Z ([]) sz [.int v0]) (zQi Z res ([]) (va_A ([]) sz)) 0 0 (va_A ([]) sz) := by
  refine zMet (own := RX6) (fun A => zQi Z res ([]) A) (by decide) rfl (Nat.le_of_ble_eq_true rfl) ?_
  intro p e s m args below meth c ls A E hw hl
  unfold fX6_isFlag at h
  refine r_iload_n E hl 0 rfl dX6_isFlag_0 rfl ?_
  refine r_if_eq E 9 dX6_isFlag_1 (by decide) (fun hc => ?_) (fun hc => ?_)
  · replace h := ite_t hc h
    exact vX6_isFlag_9 E  hw (lv_sub hl [] rfl) h
  · replace h := ite_f hc h
    refine r_iload_n E hl 0 rfl dX6_isFlag_4 rfl ?_
    refine r_iconst E 1 dX6_isFlag_5 (by decide) ?_
    refine r_icmp_ne E 13 dX6_isFlag_6 (by decide) (fun hc => ?_) (fun hc => ?_)
    · replace h := ite_f hc h
      refine r_iconst E 0 dX6_isFlag_13 (by decide) ?_
      obtain rfl := Option.some.inj h
      exact r_zret E bz_0 hw dX6_isFlag_14
    · replace h := ite_t hc h
      exact vX6_isFlag_9 E  hw (lv_sub hl [] rfl) h
abbrev rmX6_grantItem : Room := { frames := 0, cells := 0, slots := 0, locals := 0 }

set_option maxRecDepth 100000 in
set_option maxHeartbeats 4000000 in
theorem mX6_grantItem (l : Launch) (Z : zT) (sz : Nat)   (v0 : Int32) (v1 : Int32) {res : Int32} (h : fX6_grantItem v0 v1 = some res) : Met l yX6_grantItem (Cond.code yX6_grantItem cX6_grantItem 2 (some .int) :: zWs) rmX6_grantItem (zP Z ([]) sz [.int v0, .int v1]) (zQi Z res ([]) (va_A ([]) sz)) 0 0 (va_A ([]) sz) := by
  refine zMet (own := RX6) (fun A => zQi Z res ([]) A) (by decide) rfl (Nat.le_of_ble_eq_true rfl) ?_
  intro p e s m args below meth c ls A E hw hl
  unfold fX6_grantItem at h
  refine r_iconst E 4 dX6_grantItem_0 (by decide) ?_
  refine r_iload_n E hl 0 rfl dX6_grantItem_1 rfl ?_
  refine r_imul E dX6_grantItem_2 ?_
  refine r_iload_n E hl 1 rfl dX6_grantItem_3 rfl ?_
  refine r_iadd E dX6_grantItem_4 ?_
  obtain rfl := Option.some.inj h
  exact r_iret E hw dX6_grantItem_5
abbrev rmX6_grantOwner : Room := { frames := 0, cells := 0, slots := 0, locals := 0 }

set_option maxRecDepth 100000 in
set_option maxHeartbeats 4000000 in
theorem mX6_grantOwner (l : Launch) (Z : zT) (sz : Nat)   (v0 : Int32) {res : Int32} (h : fX6_grantOwner v0 = some res) : Met l yX6_grantOwner (Cond.code yX6_grantOwner cX6_grantOwner 1 (some .int) :: zWs) rmX6_grantOwner (zP Z ([]) sz [.int v0]) (zQi Z res ([]) (va_A ([]) sz)) 0 0 (va_A ([]) sz) := by
  refine zMet (own := RX6) (fun A => zQi Z res ([]) A) (by decide) rfl (Nat.le_of_ble_eq_true rfl) ?_
  intro p e s m args below meth c ls A E hw hl
  unfold fX6_grantOwner at h
  refine r_iload_n E hl 0 rfl dX6_grantOwner_0 rfl ?_
  refine r_iconst E 4 dX6_grantOwner_1 (by decide) ?_
  refine r_idiv E dX6_grantOwner_2 (by decide) ?_
  obtain rfl := Option.some.inj h
  exact r_iret E hw dX6_grantOwner_3
abbrev rmX6_grantArea : Room := { frames := 0, cells := 0, slots := 0, locals := 0 }

set_option maxRecDepth 100000 in
set_option maxHeartbeats 4000000 in
theorem mX6_grantArea (l : Launch) (Z : zT) (sz : Nat)   (v0 : Int32) {res : Int32} (h : fX6_grantArea v0 = some res) : Met l yX6_grantArea (Cond.code yX6_grantArea cX6_grantArea 1 (some .int) :: zWs) rmX6_grantArea (zP Z ([]) sz [.int v0]) (zQi Z res ([]) (va_A ([]) sz)) 0 0 (va_A ([]) sz) := by
  refine zMet (own := RX6) (fun A => zQi Z res ([]) A) (by decide) rfl (Nat.le_of_ble_eq_true rfl) ?_
  intro p e s m args below meth c ls A E hw hl
  unfold fX6_grantArea at h
  refine r_iload_n E hl 0 rfl dX6_grantArea_0 rfl ?_
  refine r_iconst E 4 dX6_grantArea_1 (by decide) ?_
  refine r_irem E dX6_grantArea_2 (by decide) ?_
  obtain rfl := Option.some.inj h
  exact r_iret E hw dX6_grantArea_3
abbrev rmX6_place : Room := { frames := 0, cells := 0, slots := 0, locals := 0 }

set_option maxRecDepth 100000 in
set_option maxHeartbeats 4000000 in
theorem mX6_place (l : Launch) (Z : zT) (sz : Nat)   (v0 : Int32) (v1 : Int32) {res : Int32} (h : fX6_place v0 v1 = some res) : Met l yX6_place (Cond.code yX6_place cX6_place 2 (some .int) :: zWs) rmX6_place (zP Z ([]) sz [.int v0, .int v1]) (zQi Z res ([]) (va_A ([]) sz)) 0 0 (va_A ([]) sz) := by
  refine zMet (own := RX6) (fun A => zQi Z res ([]) A) (by decide) rfl (Nat.le_of_ble_eq_true rfl) ?_
  intro p e s m args below meth c ls A E hw hl
  unfold fX6_place at h
  refine r_iload_n E hl 0 rfl dX6_place_0 rfl ?_
  refine r_bipush E 35 dX6_place_1 (by decide) ?_
  refine r_imul E dX6_place_3 ?_
  refine r_iload_n E hl 1 rfl dX6_place_4 rfl ?_
  refine r_iadd E dX6_place_5 ?_
  obtain rfl := Option.some.inj h
  exact r_iret E hw dX6_place_6
