/-! The library's own methods on the five constant words (by hand). -/
section ZS
variable {Z : zT} {p : Program} {l : Launch} {e : Env} {R : Room} {s : State} {m : MethodId} {args : Array Value} {below : List Frame} {meth : Method} {c : Code} {H : Heap} {locs : List Loc} {cells slots : Nat} {Q : State → Prop}
variable {own : String} {cc : ByteArray} {nL : Nat} {ret : Option FieldType} {A : Nat → Prop} {pc : Nat} {ls : Array Slot} {rest : List Value} {ws : va_W} {lv : List (Nat × Value)}
/-- the length and a character of a constant -/
abbrev zSlen (i : Nat) : Int32 := Int32.ofNat (zLen.getD i 0) >>> ((0 : Int32) &&& 31)
abbrev zSch (i : Nat) (k : Int32) : Int32 := ((((zByt.getD i []).getD k.toNatClampNeg 0) &&& 255).toUInt32 % 65536).toInt32
theorem r_gets (E : zE Z p s m args meth c own cc nL ret A) {C n d : String} {v : Value} {index : Nat} (hw : zW Z A ws s.heap H locs) (hZ : va_Z C n d v A s s.heap) (hm : Cond.fieldLink own index C n d ∈ zWs) (hdg : decode cc pc = .ok (.getstatic index, 3)) (kk : W p l e R s m args below meth c H locs cells slots Q (F0 m (pc + 3) ls (v :: rest))) : W p l e R s m args below meth c H locs cells slots Q (F0 m pc ls rest) := va_gets E.1.1 E.1.2.1 hZ hw.2.2 E.1.2.2.2.1 (E.1.2.2.2.2 _ hm) (fun _ h => h) hdg kk
theorem r_sget (E : zE Z p s m args meth c own cc nL ret A) {o n d : String} {v : Value} {index q : Nat} (hw : zW Z A ws s.heap H locs) (hZ : va_OF o n d v q A s s.heap) (hm : Cond.fieldLink own index o n d ∈ zWs) (hdg : decode cc pc = .ok (.getfield index, 3)) (kk : W p l e R s m args below meth c H locs cells slots Q (F0 m (pc + 3) ls (v :: rest))) : W p l e R s m args below meth c H locs cells slots Q (F0 m pc ls (.ref q :: rest)) := vk_getf E.1.1 E.1.2.1 hZ hw.2.2 E.1.2.2.2.1 (E.1.2.2.2.2 _ hm) (fun _ h => h) hdg kk
theorem r_tlen (E : zE Z p s m args meth c own cc nL ret A) {t N : Nat} {f : Nat → Value} {ty : FieldType} (hw : zW Z A ws s.heap H locs) (hT : va_T ty t N f A s s.heap) (hdg : decode cc pc = .ok (.arraylength, 1)) (kk : W p l e R s m args below meth c H locs cells slots Q (F0 m (pc + 1) ls (.int (Int32.ofNat N) :: rest))) : W p l e R s m args below meth c H locs cells slots Q (F0 m pc ls (.ref t :: rest)) := va_tlen E.1.1 E.1.2.1 hT hw.2.2 rfl hdg kk
theorem r_tb (E : zE Z p s m args meth c own cc nL ret A) {t N : Nat} {f : Nat → Int32} {i : Int32} (hw : zW Z A ws s.heap H locs) (hT : va_T .byte t N (fun j => .int (f j)) A s s.heap) (hin : vp_in i N) (hdg : decode cc pc = .ok (.baload, 1)) (kk : W p l e R s m args below meth c H locs cells slots Q (F0 m (pc + 1) ls (.int (f i.toNatClampNeg) :: rest))) : W p l e R s m args below meth c H locs cells slots Q (F0 m pc ls (.int i :: .ref t :: rest)) := va_tb E.1.1 E.1.2.1 hT hw.2.2 hin rfl hdg kk
theorem r_tret {ty : FieldType} (E : zE Z p s m args meth c own cc nL (some ty) A) {r0 : Int32} (hn : narrow ty (.int r0) = .int r0) (hw : zW Z A ws s.heap H locs) (hdg : decode cc pc = .ok (.ireturn, 1)) : W p l e R s m args below meth c H locs cells slots (MQ below (zQi Z r0 ws A) args s cells slots A) (F0 m pc ls [.int r0]) :=
  W.zret E.1.1 E.1.2.1 E.2.1 hn (fun t ht _ => ⟨⟨r0, (), rfl, rfl, by rw [ht]; exact hw.1, hw.2.1⟩, hw.2.2.F ht⟩) hw.2.2.2.2 hdg E.2.2.1
theorem r_ldcS (E : zE Z p s m args meth c own cc nL ret A) {tx : String} {index q : Nat} (hZ : vk_R own index tx q s) (hdg : decode cc pc = .ok (.ldc index, 2)) (k : W p l e R s m args below meth c H locs cells slots Q (F0 m (pc + 2) ls (.ref q :: rest))) : W p l e R s m args below meth c H locs cells slots Q (F0 m pc ls rest) := va_ldcS E.1.1 E.1.2.1 E.1.2.2.2.1 hZ hdg k
/-- a call of a constant's own method: no cell of the world is the callee's -/
theorem r_callTi (E : zE Z p s m args meth c own cc nL ret A) {y : MethodName} {bytes : ByteArray} {maxL n index : Nat} {ret' : Option FieldType} {rm : Room} {As st0 : List Value} {r0 : Int32} {i : Nat} (hi : i < 5) (hw : zW Z A ws s.heap H locs) (hM : Met l y (Cond.code y bytes maxL ret' :: zWs) rm (zP Z [] H.size (.ref (Z.2.2.2.2.2.1 i) :: As)) (zQi Z r0 [] (va_A [] H.size)) 0 0 (va_A [] H.size)) (k1 : Cond.methodLink own index y ∈ zWs) (k2 : Cond.instanceMethod y ∈ zWs) (k3 : Cond.selects "java/lang/String" y y ∈ zWs) (k4 : Cond.initialized "java/lang/String" ∈ zWs) (k5 : Cond.code y bytes maxL ret' ∈ zWs) (hrc : rm.cells = 0) (hrs : rm.slots = 0) (hd : y.cls = "java/lang/String" ∧ y.cls ≠ "java/lang/invoke/MethodHandle" ∧ y.cls ≠ "java/lang/invoke/VarHandle" ∧ (parseMethodDescriptor y.desc).map (fun d => d.parameters.length) = some n) (hR : rm.frames + 1 ≤ R.frames ∧ 8 + (maxL + 11) + rm.locals ≤ R.locals) (hn : As.length = n) (hl : lv_has ls nL lv) (rest : List Value) (hst : st0 = As.reverse ++ .ref (Z.2.2.2.2.2.1 i) :: rest) (hrm : (rest.map fun v => v.category).sum ≤ 8) (hdg : decode cc pc = .ok (.invokevirtual index, 3)) (hcs : cells ≤ R.cells ∧ slots ≤ R.slots) (kk : ∀ (H1 : Heap) (locs1 : List Loc), zW Z A ws s.heap H1 locs1 → W p l e R s m args below meth c H1 locs1 cells slots Q (F0 m (pc + 3) ls (.int r0 :: rest))) : W p l e R s m args below meth c H locs cells slots Q (F0 m pc ls st0) := by
  have hF := zF_nil E hw
  subst hst
  exact va_calli (va_runV E.1 hM (cwV n E.1.2.2.2.2 (zCV k1 k2 k3 k4 k5) rfl hrc hrs hd hR) ⟨zP.blind, vk_recv E.2.2.2.2.2.2.1 hi hw.2.2, zP_nil E hw⟩ rfl hn hl.1 rfl (lv_room hrm) hdg hcs) hw.2.2 (fun q _ h => hF q h) hF (fun r u t H1 locs1 ht hvm hp hB hz hk hS => by subst hp; exact kk H1 locs1 (hw.none hk hS))
end ZS
theorem hdJ3_checkIndex_8e157 : yJ3_checkIndex_8e157.cls ≠ "java/lang/invoke/MethodHandle" ∧ yJ3_checkIndex_8e157.cls ≠ "java/lang/invoke/VarHandle" ∧ (parseMethodDescriptor yJ3_checkIndex_8e157.desc).map (fun d => d.parameters.length) = some 3 := by decide +kernel
set_option maxRecDepth 100000 in
set_option maxHeartbeats 4000000 in
theorem mJ0_coder (l : Launch) (Z : zT) (sz : Nat) (i : Nat) (hi : i < 5) : Met l yJ0_coder_7d493 (Cond.code yJ0_coder_7d493 cJ0_coder_7d493 1 (some .byte) :: zWs) { frames := 0, cells := 0, slots := 0, locals := 0 } (zP Z [] sz [.ref (Z.2.2.2.2.2.1 i)]) (zQi Z 0 [] (va_A [] sz)) 0 0 (va_A [] sz) := by
  refine zMet (own := RJ0) (fun A => zQi Z 0 [] A) (by decide) rfl (Nat.le_of_ble_eq_true rfl) ?_
  intro p e s m args below meth c ls A E hw hl
  refine r_gets E hw E.2.2.2.2.2.2.2.1 kF_J0_38 dJ0_coder_7d493_0 ?_
  refine r_if_eq E 13 dJ0_coder_7d493_3 (by decide) (fun hc => absurd hc (by decide)) (fun hc => ?_)
  refine r_aload_n E hl 0 rfl dJ0_coder_7d493_6 rfl ?_
  refine r_sget E hw (E.2.2.2.2.2.2.1.1 i hi).2.1 kF_J0_15 dJ0_coder_7d493_7 ?_
  refine r_goto E 14 dJ0_coder_7d493_10 (by decide) ?_
  exact r_tret E rfl hw dJ0_coder_7d493_14
set_option maxRecDepth 100000 in
set_option maxHeartbeats 4000000 in
theorem mJ0_length (l : Launch) (Z : zT) (sz : Nat) (i : Nat) (hi : i < 5) : Met l yJ0_length_8abf5 (Cond.code yJ0_length_8abf5 cJ0_length_8abf5 1 (some .int) :: zWs) { frames := 1, cells := 0, slots := 0, locals := 20 } (zP Z [] sz [.ref (Z.2.2.2.2.2.1 i)]) (zQi Z (zSlen i) [] (va_A [] sz)) 0 0 (va_A [] sz) := by
  refine zMet (own := RJ0) (fun A => zQi Z (zSlen i) [] A) (by decide) rfl (Nat.le_of_ble_eq_true rfl) ?_
  intro p e s m args below meth c ls A E hw hl
  refine r_aload_n E hl 0 rfl dJ0_length_8abf5_0 rfl ?_
  refine r_sget E hw (E.2.2.2.2.2.2.1.1 i hi).2.2.1 kF_J0_9 dJ0_length_8abf5_1 ?_
  refine r_tlen E hw (E.2.2.2.2.2.2.1.1 i hi).2.2.2 dJ0_length_8abf5_4 ?_
  refine r_aload_n E hl 0 rfl dJ0_length_8abf5_5 rfl ?_
  refine r_callTi E hi hw (mJ0_coder l Z _ i hi) kL_J0_335 kI_J0_coder_7d493 kS_J0_coder_7d493 kN_J0 kC_J0_coder_7d493 rfl rfl hdJ0_coder_7d493 ⟨Nat.le_of_ble_eq_true rfl, Nat.le_of_ble_eq_true rfl⟩ rfl hl [.int (Int32.ofNat (zLen.getD i 0))] rfl (Nat.le_of_ble_eq_true rfl) dJ0_length_8abf5_6 ⟨Nat.zero_le _, Nat.zero_le _⟩ (fun H locs hw => ?_)
  refine r_ishr E dJ0_length_8abf5_9 ?_
  exact r_iret E hw dJ0_length_8abf5_10
set_option maxRecDepth 100000 in
set_option maxHeartbeats 4000000 in
theorem mJ0_isLatin1 (l : Launch) (Z : zT) (sz : Nat) (i : Nat) (hi : i < 5) : Met l yJ0_isLatin1_aae02 (Cond.code yJ0_isLatin1_aae02 cJ0_isLatin1_aae02 1 (some .boolean) :: zWs) { frames := 0, cells := 0, slots := 0, locals := 0 } (zP Z [] sz [.ref (Z.2.2.2.2.2.1 i)]) (zQi Z 1 [] (va_A [] sz)) 0 0 (va_A [] sz) := by
  refine zMet (own := RJ0) (fun A => zQi Z 1 [] A) (by decide) rfl (Nat.le_of_ble_eq_true rfl) ?_
  intro p e s m args below meth c ls A E hw hl
  refine r_gets E hw E.2.2.2.2.2.2.2.1 kF_J0_38 dJ0_isLatin1_aae02_0 ?_
  refine r_if_eq E 17 dJ0_isLatin1_aae02_3 (by decide) (fun hc => absurd hc (by decide)) (fun hc => ?_)
  refine r_aload_n E hl 0 rfl dJ0_isLatin1_aae02_6 rfl ?_
  refine r_sget E hw (E.2.2.2.2.2.2.1.1 i hi).2.1 kF_J0_15 dJ0_isLatin1_aae02_7 ?_
  refine r_if_ne E 17 dJ0_isLatin1_aae02_10 (by decide) (fun hc => absurd rfl hc) (fun hc => ?_)
  refine r_iconst E 1 dJ0_isLatin1_aae02_13 (by decide) ?_
  refine r_goto E 18 dJ0_isLatin1_aae02_14 (by decide) ?_
  exact r_zret E bz_1 hw dJ0_isLatin1_aae02_18
set_option maxRecDepth 100000 in
set_option maxHeartbeats 4000000 in
theorem mJ3_checkIndex (l : Launch) (Z : zT) (sz : Nat) (i n : Int32) (v : Value) (hv : v = .null ∨ ∃ t, v = .ref t) (h0 : ¬ i < 0) (h1 : i < n) : Met l yJ3_checkIndex_8e157 (Cond.code yJ3_checkIndex_8e157 cJ3_checkIndex_8e157 3 (some .int) :: zWs) { frames := 0, cells := 0, slots := 0, locals := 0 } (zP Z [] sz [.int i, .int n, v]) (zQi Z i [] (va_A [] sz)) 0 0 (va_A [] sz) := by
  have key : ∀ (p : Program) (e : Env) (s : State) (m : MethodId) (args : Array Value) (below : List Frame) (meth : Method) (c : Code) (ls : Array Slot) (A : Nat → Prop), zE Z p s m args meth c RJ3 cJ3_checkIndex_8e157 3 (some .int) A → zW Z A [] s.heap s.heap [] → lv_has ls 3 [(0, .int i), (1, .int n)] →
      W p l e { frames := 0, cells := 0, slots := 0, locals := 0 } s m args below meth c s.heap [] 0 0 (MQ below (zQi Z i [] A) args s 0 0 A) (F0 m 0 ls []) := by
    intro p e s m args below meth c ls A E hw hl
    refine r_iload_n E hl 0 rfl dJ3_checkIndex_8e157_0 rfl ?_
    refine r_if_lt E 9 dJ3_checkIndex_8e157_1 (by decide) (fun hc => absurd hc h0) (fun hc => ?_)
    refine r_iload_n E hl 0 rfl dJ3_checkIndex_8e157_4 rfl ?_
    refine r_iload_n E hl 1 rfl dJ3_checkIndex_8e157_5 rfl ?_
    refine r_icmp_lt E 16 dJ3_checkIndex_8e157_6 (by decide) (fun hc => ?_) (fun hc => absurd h1 hc)
    refine r_iload_n E hl 0 rfl dJ3_checkIndex_8e157_16 rfl ?_
    exact r_iret E hw dJ3_checkIndex_8e157_17
  rcases hv with rfl | ⟨t, rfl⟩
  · refine zMet (own := RJ3) (fun A => zQi Z i [] A) (by decide) rfl (Nat.le_of_ble_eq_true rfl) ?_
    intro p e s m args below meth c ls A E hw hl
    exact key p e s m args below meth c ls A E hw (lv_sub hl [0, 1] rfl)
  · refine zMet (own := RJ3) (fun A => zQi Z i [] A) (by decide) rfl (Nat.le_of_ble_eq_true rfl) ?_
    intro p e s m args below meth c ls A E hw hl
    exact key p e s m args below meth c ls A E hw (lv_sub hl [0, 1] rfl)
set_option maxRecDepth 100000 in
set_option maxHeartbeats 4000000 in
theorem mJ0_checkIndex (l : Launch) (Z : zT) (sz : Nat) (i n : Int32) (h0 : ¬ i < 0) (h1 : i < n) : Met l yJ0_checkIndex_df160 (Cond.code yJ0_checkIndex_df160 cJ0_checkIndex_df160 2 none :: zWs) { frames := 1, cells := 0, slots := 0, locals := 22 } (zP Z [] sz [.int i, .int n]) (zQv Z [] (va_A [] sz)) 0 0 (va_A [] sz) := by
  refine zMet (own := RJ0) (fun A => zQv Z [] A) (by decide) rfl (Nat.le_of_ble_eq_true rfl) ?_
  intro p e s m args below meth c ls A E hw hl
  refine r_iload_n E hl 0 rfl dJ0_checkIndex_df160_0 rfl ?_
  refine r_iload_n E hl 1 rfl dJ0_checkIndex_df160_1 rfl ?_
  rcases E.2.2.2.2.2.2.2.2.1 with hz | ⟨t, hz⟩
  · refine r_gets E hw hz kF_J0_1053 dJ0_checkIndex_df160_2 ?_
    refine r_callS0i E hw (mJ3_checkIndex l Z _ i n .null (Or.inl rfl) h0 h1) kL_J0_1059 kT_J3_checkIndex_8e157 kN_J3 kC_J3_checkIndex_8e157 rfl rfl hdJ3_checkIndex_8e157 ⟨Nat.le_of_ble_eq_true rfl, Nat.le_of_ble_eq_true rfl⟩ rfl hl [] rfl (Nat.le_of_ble_eq_true rfl) dJ0_checkIndex_df160_5 ⟨Nat.zero_le _, Nat.zero_le _⟩ (fun H locs hw => ?_)
    refine r_pop E dJ0_checkIndex_df160_8 rfl ?_
    exact r_vret E hw dJ0_checkIndex_df160_9
  · refine r_gets E hw hz kF_J0_1053 dJ0_checkIndex_df160_2 ?_
    refine r_callS0i E hw (mJ3_checkIndex l Z _ i n (.ref t) (Or.inr ⟨t, rfl⟩) h0 h1) kL_J0_1059 kT_J3_checkIndex_8e157 kN_J3 kC_J3_checkIndex_8e157 rfl rfl hdJ3_checkIndex_8e157 ⟨Nat.le_of_ble_eq_true rfl, Nat.le_of_ble_eq_true rfl⟩ rfl hl [] rfl (Nat.le_of_ble_eq_true rfl) dJ0_checkIndex_df160_5 ⟨Nat.zero_le _, Nat.zero_le _⟩ (fun H locs hw => ?_)
    refine r_pop E dJ0_checkIndex_df160_8 rfl ?_
    exact r_vret E hw dJ0_checkIndex_df160_9
theorem z_lt_of_in {i : Int32} {n : Nat} (hn : n < 2 ^ 31) (h : vp_in i n) : ¬ i < 0 ∧ i < Int32.ofNat n := by
  obtain ⟨j, hj, rfl⟩ := vp_in_of h hn
  exact ⟨nI_pos (by omega), nI_lt hj hn⟩
set_option maxRecDepth 100000 in
set_option maxHeartbeats 4000000 in
theorem mJ1_charAt (l : Launch) (Z : zT) (sz : Nat) (i : Nat) (k : Int32) (hi : i < 5) (hk : vp_in k (zLen.getD i 0)) : Met l yJ1_charAt_3b067 (Cond.code yJ1_charAt_3b067 cJ1_charAt_3b067 2 (some .char) :: zWs) { frames := 2, cells := 0, slots := 0, locals := 43 } (zP Z [] sz [.ref (Z.2.2.2.2.2.2 i), .int k]) (zQi Z (zSch i k) [] (va_A [] sz)) 0 0 (va_A [] sz) := by
  refine zMet (own := RJ1) (fun A => zQi Z (zSch i k) [] A) (by decide) rfl (Nat.le_of_ble_eq_true rfl) ?_
  intro p e s m args below meth c ls A E hw hl
  have hn : zLen.getD i 0 < 2 ^ 31 := by
    have : ∀ i, i < 5 → zLen.getD i 0 < 2 ^ 31 := by decide
    exact this i hi
  obtain ⟨g0, g1⟩ := z_lt_of_in hn hk
  refine r_iload_n E hl 1 rfl dJ1_charAt_3b067_0 rfl ?_
  refine r_aload_n E hl 0 rfl dJ1_charAt_3b067_1 rfl ?_
  refine r_tlen E hw (E.2.2.2.2.2.2.1.1 i hi).2.2.2 dJ1_charAt_3b067_2 ?_
  refine r_callS0v E hw (mJ0_checkIndex l Z _ k (Int32.ofNat (zLen.getD i 0)) g0 g1) kL_J1_9 kT_J0_checkIndex_df160 kN_J0 kC_J0_checkIndex_df160 rfl rfl hdJ0_checkIndex_df160 ⟨Nat.le_of_ble_eq_true rfl, Nat.le_of_ble_eq_true rfl⟩ rfl hl [] rfl (Nat.le_of_ble_eq_true rfl) dJ1_charAt_3b067_3 ⟨Nat.zero_le _, Nat.zero_le _⟩ (fun H locs hw => ?_)
  refine r_aload_n E hl 0 rfl dJ1_charAt_3b067_6 rfl ?_
  refine r_iload_n E hl 1 rfl dJ1_charAt_3b067_7 rfl ?_
  refine r_tb E hw (E.2.2.2.2.2.2.1.1 i hi).2.2.2 hk dJ1_charAt_3b067_8 ?_
  refine r_sipush E 255 dJ1_charAt_3b067_9 (by decide) ?_
  refine r_iand E dJ1_charAt_3b067_12 ?_
  refine r_i2c E dJ1_charAt_3b067_13 ?_
  exact r_tret E (pk_nc _) hw dJ1_charAt_3b067_14
set_option maxRecDepth 100000 in
set_option maxHeartbeats 4000000 in
theorem mJ0_charAt (l : Launch) (Z : zT) (sz : Nat) (i : Nat) (k : Int32) (hi : i < 5) (hk : vp_in k (zLen.getD i 0)) : Met l yJ0_charAt_5068e (Cond.code yJ0_charAt_5068e cJ0_charAt_5068e 2 (some .char) :: zWs) { frames := 3, cells := 0, slots := 0, locals := 64 } (zP Z [] sz [.ref (Z.2.2.2.2.2.1 i), .int k]) (zQi Z (zSch i k) [] (va_A [] sz)) 0 0 (va_A [] sz) := by
  refine zMet (own := RJ0) (fun A => zQi Z (zSch i k) [] A) (by decide) rfl (Nat.le_of_ble_eq_true rfl) ?_
  intro p e s m args below meth c ls A E hw hl
  refine r_aload_n E hl 0 rfl dJ0_charAt_5068e_0 rfl ?_
  refine r_callTi E hi hw (mJ0_isLatin1 l Z _ i hi) kL_J0_492 kI_J0_isLatin1_aae02 kS_J0_isLatin1_aae02 kN_J0 kC_J0_isLatin1_aae02 rfl rfl hdJ0_isLatin1_aae02 ⟨Nat.le_of_ble_eq_true rfl, Nat.le_of_ble_eq_true rfl⟩ rfl hl [] rfl (Nat.le_of_ble_eq_true rfl) dJ0_charAt_5068e_1 ⟨Nat.zero_le _, Nat.zero_le _⟩ (fun H locs hw => ?_)
  refine r_if_eq E 16 dJ0_charAt_5068e_4 (by decide) (fun hc => absurd hc (by decide)) (fun hc => ?_)
  refine r_aload_n E hl 0 rfl dJ0_charAt_5068e_7 rfl ?_
  refine r_sget E hw (E.2.2.2.2.2.2.1.1 i hi).2.2.1 kF_J0_9 dJ0_charAt_5068e_8 ?_
  refine r_iload_n E hl 1 rfl dJ0_charAt_5068e_11 rfl ?_
  refine r_callS0i E hw (mJ1_charAt l Z _ i k hi hk) kL_J0_495 kT_J1_charAt_3b067 kN_J1 kC_J1_charAt_3b067 rfl rfl hdJ1_charAt_3b067 ⟨Nat.le_of_ble_eq_true rfl, Nat.le_of_ble_eq_true rfl⟩ rfl hl [] rfl (Nat.le_of_ble_eq_true rfl) dJ0_charAt_5068e_12 ⟨Nat.zero_le _, Nat.zero_le _⟩ (fun H locs hw => ?_)
  exact r_tret E (pk_nc _) hw dJ0_charAt_5068e_15
noncomputable def fJ0_length (iw : Nat) : Option Int32 := gd (iw < 5) (some (zSlen iw))
noncomputable def fJ0_charAt (iw : Nat) (k : Int32) : Option Int32 := gd (iw < 5) (gd (vp_in k (zLen.getD iw 0)) (some (zSch iw k)))
