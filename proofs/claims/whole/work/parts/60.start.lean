theorem tmem1 {w : Cond} (i : Nat) (h : tables_1_1[i]? = some w) : w ∈ lw_tbl := List.mem_append_right _ (List.mem_append_left _ (List.mem_of_getElem? h))
theorem tmem2 {w : Cond} (i : Nat) (h : tables_1_2[i]? = some w) : w ∈ lw_tbl := List.mem_append_right _ (List.mem_append_right _ (List.mem_append_left _ (List.mem_of_getElem? h)))
theorem tmem3 {w : Cond} (i : Nat) (h : tables_1_3[i]? = some w) : w ∈ lw_tbl := List.mem_append_right _ (List.mem_append_right _ (List.mem_append_right _ (List.mem_append_left _ (List.mem_of_getElem? h))))
theorem tmem4 {w : Cond} (i : Nat) (h : tables_1_4[i]? = some w) : w ∈ lw_tbl := List.mem_append_right _ (List.mem_append_right _ (List.mem_append_right _ (List.mem_append_right _ (List.mem_append_left _ (List.mem_of_getElem? h)))))
theorem tmem5 {w : Cond} (i : Nat) (h : tables_1_5[i]? = some w) : w ∈ lw_tbl := List.mem_append_right _ (List.mem_append_right _ (List.mem_append_right _ (List.mem_append_right _ (List.mem_append_right _ (List.mem_append_left _ (List.mem_of_getElem? h))))))
theorem tmem6 {w : Cond} (i : Nat) (h : tables_1_6[i]? = some w) : w ∈ lw_tbl := List.mem_append_right _ (List.mem_append_right _ (List.mem_append_right _ (List.mem_append_right _ (List.mem_append_right _ (List.mem_append_right _ ((List.mem_of_getElem? h)))))))
theorem jN_X6_11 : Cond.methodLinkNest RX6 11 yX3_init RX6 ∈ lw_tbl := tmem1 26 (by decide +kernel)
theorem jO : Cond.arrayOver (.object "PrivateLinkRouting$Network") ∈ lw_tbl := tmem1 106 (by decide +kernel)
theorem jN_X6_29 : Cond.methodLinkNest RX6 29 yX5_init RX6 ∈ lw_tbl := tmem1 109 (by decide +kernel)
theorem jN_X6_36 : Cond.methodLinkNest RX6 36 yX1_init RX6 ∈ lw_tbl := tmem1 149 (by decide +kernel)
theorem jN_X6_43 : Cond.methodLinkNest RX6 43 yX2_init RX6 ∈ lw_tbl := tmem1 162 (by decide +kernel)
theorem jN_X6_50 : Cond.methodLinkNest RX6 50 yX4_init RX6 ∈ lw_tbl := tmem1 194 (by decide +kernel)
theorem jN_X3_102 : Cond.methodLinkNest RX3 102 yX6_place RX6 ∈ lw_tbl := tmem2 80 (by decide +kernel)
theorem jN_X3_89 : Cond.methodLinkNest RX3 89 yX6_grantItem RX6 ∈ lw_tbl := tmem2 95 (by decide +kernel)
theorem jN_X3_109 : Cond.methodLinkNest RX3 109 yX6_grantOwner RX6 ∈ lw_tbl := tmem2 102 (by decide +kernel)
theorem jN_X3_116 : Cond.methodLinkNest RX3 116 yX6_grantArea RX6 ∈ lw_tbl := tmem2 113 (by decide +kernel)
theorem jS_119 : Cond.stringRef RX5 119 "node" ∈ lw_tbl := tmem2 213 (by decide +kernel)
theorem jL_COMPACT_STRINGS : Cond.laysStatic "java/lang/String" "COMPACT_STRINGS" "Z" ∈ lw_tbl := tmem2 227 (by decide +kernel)
theorem jL_SIOOBE_FORMATTER : Cond.laysStatic "jdk/internal/util/Preconditions" "SIOOBE_FORMATTER" "Ljava/util/function/BiFunction;" ∈ lw_tbl := tmem3 3 (by decide +kernel)
theorem jS_125 : Cond.stringRef RX5 125 "link" ∈ lw_tbl := tmem3 26 (by decide +kernel)
theorem jS_127 : Cond.stringRef RX5 127 "private" ∈ lw_tbl := tmem3 27 (by decide +kernel)
theorem jS_129 : Cond.stringRef RX5 129 "grant" ∈ lw_tbl := tmem3 28 (by decide +kernel)
theorem jS_131 : Cond.stringRef RX5 131 "tunnel" ∈ lw_tbl := tmem3 29 (by decide +kernel)
theorem jN_X5_105 : Cond.methodLinkNest RX5 105 yX6_grantItem RX6 ∈ lw_tbl := tmem3 54 (by decide +kernel)
theorem jN_X1_85 : Cond.methodLinkNest RX1 85 yX6_place RX6 ∈ lw_tbl := tmem3 110 (by decide +kernel)
theorem jN_X2_34 : Cond.methodLinkNest RX2 34 yX6_place RX6 ∈ lw_tbl := tmem3 200 (by decide +kernel)
def zTm (i : Nat) : Term := .string RX5 (([119, 125, 127, 129, 131] : List Nat).getD i 0)
theorem z_arr {args : Array Value} {s : State} {ty : FieldType} (h : (Cond.arrayClass ty).before args s = true) : ∃ cA, ArrOfT s cA ty ∧ s.vm.findClass ("[" ++ ty.toString) = some cA := by
  obtain ⟨cA, kA, comp, h1, h2, h3⟩ := Cond.arrayClass_spec h
  exact ⟨cA, fun n z => ⟨fun k h => (by cases h), kA, h2, comp, h3⟩, h1⟩
set_option maxRecDepth 100000 in
set_option maxHeartbeats 4000000 in
/-- the constants of the start -/
theorem z_strs {args : Array Value} {s : State} {A : Nat → Prop} (hg : ∀ c ∈ flatC (Jvm.Cond.and given_1 narrow_1), c.before args s = true) (hA : ∀ a : Nat, a < s.heap.size → ¬ A a) : ∃ adK adV : Nat → Nat, vk_S 5 zLen zByt adK adV A s s.heap ∧ ∀ i : Nat, i < 5 → (zTm i).eval args s none [] s = some (.ref (adK i)) := by
  have c5 : ∀ {P : Nat → Prop}, P 0 → P 1 → P 2 → P 3 → P 4 → ∀ i, i < 5 → P i := by
    intro P h0 h1 h2 h3 h4 i hi
    rcases (show i = 0 ∨ i = 1 ∨ i = 2 ∨ i = 3 ∨ i = 4 by omega) with rfl | rfl | rfl | rfl | rfl <;> assumption
  refine vk_Sof (tm := zTm) ?_ ?_ ?_ ?_ ?_ ?_ ?_ hA
  · decide
  · exact c5 (hg _ (by decide +kernel)) (hg _ (by decide +kernel)) (hg _ (by decide +kernel)) (hg _ (by decide +kernel)) (hg _ (by decide +kernel))
  · exact c5 (hg _ (by decide +kernel)) (hg _ (by decide +kernel)) (hg _ (by decide +kernel)) (hg _ (by decide +kernel)) (hg _ (by decide +kernel))
  · exact c5 (hg _ (by decide +kernel)) (hg _ (by decide +kernel)) (hg _ (by decide +kernel)) (hg _ (by decide +kernel)) (hg _ (by decide +kernel))
  · exact c5 (hg _ (by decide +kernel)) (hg _ (by decide +kernel)) (hg _ (by decide +kernel)) (hg _ (by decide +kernel)) (hg _ (by decide +kernel))
  · refine c5 ?_ ?_ ?_ ?_ ?_
    · intro j hj
      rcases (show j = 0 ∨ j = 1 ∨ j = 2 ∨ j = 3 from (by have : j < 4 := hj; omega)) with rfl | rfl | rfl | rfl
      · exact hg _ (by decide +kernel)
      · exact hg _ (by decide +kernel)
      · exact hg _ (by decide +kernel)
      · exact hg _ (by decide +kernel)
    · intro j hj
      rcases (show j = 0 ∨ j = 1 ∨ j = 2 ∨ j = 3 from (by have : j < 4 := hj; omega)) with rfl | rfl | rfl | rfl
      · exact hg _ (by decide +kernel)
      · exact hg _ (by decide +kernel)
      · exact hg _ (by decide +kernel)
      · exact hg _ (by decide +kernel)
    · intro j hj
      rcases (show j = 0 ∨ j = 1 ∨ j = 2 ∨ j = 3 ∨ j = 4 ∨ j = 5 ∨ j = 6 from (by have : j < 7 := hj; omega)) with rfl | rfl | rfl | rfl | rfl | rfl | rfl
      · exact hg _ (by decide +kernel)
      · exact hg _ (by decide +kernel)
      · exact hg _ (by decide +kernel)
      · exact hg _ (by decide +kernel)
      · exact hg _ (by decide +kernel)
      · exact hg _ (by decide +kernel)
      · exact hg _ (by decide +kernel)
    · intro j hj
      rcases (show j = 0 ∨ j = 1 ∨ j = 2 ∨ j = 3 ∨ j = 4 from (by have : j < 5 := hj; omega)) with rfl | rfl | rfl | rfl | rfl
      · exact hg _ (by decide +kernel)
      · exact hg _ (by decide +kernel)
      · exact hg _ (by decide +kernel)
      · exact hg _ (by decide +kernel)
      · exact hg _ (by decide +kernel)
    · intro j hj
      rcases (show j = 0 ∨ j = 1 ∨ j = 2 ∨ j = 3 ∨ j = 4 ∨ j = 5 from (by have : j < 6 := hj; omega)) with rfl | rfl | rfl | rfl | rfl | rfl
      · exact hg _ (by decide +kernel)
      · exact hg _ (by decide +kernel)
      · exact hg _ (by decide +kernel)
      · exact hg _ (by decide +kernel)
      · exact hg _ (by decide +kernel)
      · exact hg _ (by decide +kernel)
  · intro i j hi hj hij
    rcases (show i = 0 ∨ i = 1 ∨ i = 2 ∨ i = 3 ∨ i = 4 by omega) with rfl | rfl | rfl | rfl | rfl <;> rcases (show j = 0 ∨ j = 1 ∨ j = 2 ∨ j = 3 ∨ j = 4 by omega) with rfl | rfl | rfl | rfl | rfl <;> first | exact absurd rfl hij | exact Or.inl (hg _ (by decide +kernel)) | exact Or.inr (hg _ (by decide +kernel))
set_option maxRecDepth 100000 in
set_option maxHeartbeats 8000000 in
/-- the walk's start, over the pure equation -/
theorem whole_start_open {p : Program} {e : Env} {s : State} {m : MethodId} {below : List Frame} {meth : Method} {c : Code} (l : Launch) {b L : Nat} {xs : Nat → Int32} (hpure : ∀ (F : Nat → Option Nat) (G : Nat → Nat → Nat), (∀ k, k < 5 → F k = some (G k 0)) → lL L xs 0 (zX0 F G) zM0 = some 1) (C0 : lw_At p s m meth c b L xs) : W p l e room_1 s m #[Value.ref b] below meth c s.heap [] 0 0 (lw_Z below #[Value.ref b] s) (entryFrame m ([Value.ref b] : List Value).toArray 4) := by
  obtain ⟨hx, hb, hr, hml, hown, hts, hX, hbl, hlocks, hgv⟩ := id C0
  have hg := flat_of_before _ hgv
  have hz : ∀ w ∈ zWs, w.before #[Value.ref b] s = true := fun w h => hts w (List.mem_filter.mp h).1
  have hA0 : ∀ a : Nat, a < s.heap.size → ¬ (fun q : Nat => s.heap.size ≤ q) a := fun a h => Nat.not_le.mpr h
  obtain ⟨c0, iS0, hKn0⟩ := u_known (C := RX1) (T := TX1) (N := 2) (n := 2) hz kW_X1 (hz _ kO_X1)
  obtain ⟨c1, iS1, hKn1⟩ := u_known (C := RX2) (T := TX2) (N := 7) (n := 7) hz kW_X2 (hz _ kO_X2)
  obtain ⟨c2, iS2, hKn2⟩ := u_known (C := RX3) (T := TX3) (N := 13) (n := 13) hz kW_X3 (hz _ kO_X3)
  obtain ⟨c3, iS3, hKn3⟩ := u_known (C := RX4) (T := TX4) (N := 6) (n := 6) hz kW_X4 (hz _ kO_X4)
  obtain ⟨c4, iS4, hKn4⟩ := u_known (C := RX5) (T := TX5) (N := 10) (n := 10) hz kW_X5 (hz _ kO_X5)
  obtain ⟨c5, iS5, hKn5⟩ := u_known (C := RX6) (T := TX6) (N := 10) (n := 10) hz kW_X6 (hz _ kO_X6)
  obtain ⟨c6, iS6, hKn6⟩ := u_known (C := RX7) (T := TX7) (N := 25) (n := 25) hz kW_X7 (hz _ kO_X7)
  obtain ⟨dC, dI, hKc⟩ : ∃ (dC : Nat → ClassId) (dI : Nat → Nat → Nat), ∀ (k : Nat) (q : vw_C), vwCl[k]? = some q → u_Kn s q.1 q.2.1 q.2.2 (dC k) (dI k) := by
    refine ⟨fun k => ([c0, c1, c2, c3, c4, c5, c6] : List ClassId).getD k c0, fun k => ([iS0, iS1, iS2, iS3, iS4, iS5, iS6] : List (Nat → Nat)).getD k iS0, ?_⟩
    intro k q hq
    match k, hq with
    | 0, hq => cases hq; exact hKn0
    | 1, hq => cases hq; exact hKn1
    | 2, hq => cases hq; exact hKn2
    | 3, hq => cases hq; exact hKn3
    | 4, hq => cases hq; exact hKn4
    | 5, hq => cases hq; exact hKn5
    | 6, hq => cases hq; exact hKn6
    | k + 7, hq => simp [vwCl] at hq
  obtain ⟨cI, hI1, hI2⟩ := z_arr (hz _ kA_dTypeint)
  obtain ⟨cJ, hJ1, hJ2⟩ := z_arr (hz _ kA_Typelong)
  obtain ⟨cC, hC1, hC2⟩ := z_arr (hz _ kA_Typechar)
  have hov := hts _ jO
  obtain ⟨comp, cN, kN, o1, -, o3, o4, o5⟩ := Cond.arrayOver_spec hov
  obtain ⟨adK, adV, hS1, hS2⟩ := z_strs hg hA0
  obtain ⟨Z, hZ⟩ : ∃ Z : zT, Z = ((dC, dI), cI, cJ, cC, cN, adK, adV) := ⟨_, rfl⟩
  have hK : va_K Z.1 vwCl (zTys Z) s := by
    subst hZ
    refine ⟨hKc, fun k q h => ?_⟩
    match k, h with
    | 0, h => cases h; exact ⟨hI1, hI2⟩
    | 1, h => cases h; exact ⟨hJ1, hJ2⟩
    | 2, h => cases h; exact ⟨hC1, hC2⟩
    | 3, h => cases h; exact ⟨fun n z => ⟨fun k h => (by cases h), kN, o3, comp, o4⟩, kN, comp, o3, o4, o1, o5⟩
    | k + 4, h => simp [zTys] at h
  have hN : zNz s := ⟨va_Nw.of rfl (hts _ jN_X3_102), va_Nw.of rfl (hts _ jN_X3_89), va_Nw.of rfl (hts _ jN_X3_109), va_Nw.of rfl (hts _ jN_X3_116), va_Nw.of rfl (hts _ jN_X5_105), va_Nw.of rfl (hts _ jN_X1_85), va_Nw.of rfl (hts _ jN_X2_34), va_Nw.of rfl (hts _ jN_X6_11), va_Nw.of rfl (hts _ jN_X6_29), va_Nw.of rfl (hts _ jN_X6_36), va_Nw.of rfl (hts _ jN_X6_43), va_Nw.of rfl (hts _ jN_X6_50), va_AO.of hov⟩
  have hStr : zStr Z (fun q : Nat => s.heap.size ≤ q) s s.heap := by
    subst hZ
    exact ⟨hS1, va_Zof (hts _ jL_COMPACT_STRINGS) (hz _ kN_J0) (va_eqt (hg _ (by decide +kernel))) hA0, va_Zqof (hts _ jL_SIOOBE_FORMATTER) (hz _ kN_J3) (hg _ (by decide +kernel)) hA0, vk_R.of (hts _ jS_119) (hS2 0 (by omega)), vk_R.of (hts _ jS_125) (hS2 1 (by omega)), vk_R.of (hts _ jS_127) (hS2 2 (by omega)), vk_R.of (hts _ jS_129) (hS2 3 (by omega)), vk_R.of (hts _ jS_131) (hS2 4 (by omega))⟩
  have E : zE Z p s m #[Value.ref b] meth c RL cL_law 4 ret (fun q => s.heap.size ≤ q) := ⟨⟨hx, hb, hml, hown, hz⟩, hr, hlocks, hK, hN, fun _ h => h, hStr⟩
  have hw : zW Z (fun q : Nat => s.heap.size ≤ q) [] s.heap s.heap [] := ⟨fun k q h => by simp at h, ⟨fun i j p q h => by simp at h, fun k q h => by simp at h⟩, va_S.rf⟩
  have hl := lv_entry ([.ref b]) (n := 4) (Nat.le_of_ble_eq_true rfl)
  rw [lg_entry_eq]
  generalize (lg_sl ([.ref b]) ++ List.replicate (4 - (lg_sl ([.ref b])).length) Slot.unset).toArray = ls at hl ⊢
  replace hl : lv_has ls 4 [(0, .ref b)] := hl
  refine r_new (ci := 5) E hw [.null, .null, .null, .int 0, .null, .null, .null, .null, .null, .int 0] kW_X6 tyX6_ok kK_L_7 kO_X6 kN_X6 rfl (fun j hj => by rcases (show j = 0 ∨ j = 1 ∨ j = 2 ∨ j = 3 ∨ j = 4 ∨ j = 5 ∨ j = 6 ∨ j = 7 ∨ j = 8 ∨ j = 9 by omega) with rfl | rfl | rfl | rfl | rfl | rfl | rfl | rfl | rfl | rfl <;> rfl) ⟨Nat.le_of_ble_eq_true rfl, Nat.le_of_ble_eq_true rfl⟩ dL_law_0 (fun qx H hw => ?_)
  refine r_dup E dL_law_3 rfl ?_
  refine r_callI E [] hw (nX6_init l Z _ qx) kL_L_9 kI_X6_init kN_X6 kC_X6_init rfl rfl rfl hdX6_init ⟨Nat.le_of_ble_eq_true rfl, Nat.le_of_ble_eq_true rfl⟩ hl (Nat.le_of_ble_eq_true rfl) dL_law_4 ⟨Nat.le_of_ble_eq_true rfl, Nat.le_of_ble_eq_true rfl⟩ (fun u H locs hu hw => ?_)
  replace hw : zW Z (fun q : Nat => s.heap.size ≤ q) (oX6 Z qx u) s.heap H locs := hw
  refine r_astore_n E [(1, .ref qx), (0, .ref b)] hl dL_law_7 rfl (by decide) rfl (fun ls hl => ?_)
  refine r_new (ci := 6) E hw [.int 0, .null, .null, .int 0, .null, .null, .null, .int 0, .null, .int 0, .int 0, .int 0, .int 0, .int 0, .int 0, .int 0, .long 0, .int 0, .null, .null, .int 0, .null, .int 0, .int 0, .null] kW_X7 tyX7_ok kK_L_10 kO_X7 kN_X7 rfl (fun j hj => by rcases (show j = 0 ∨ j = 1 ∨ j = 2 ∨ j = 3 ∨ j = 4 ∨ j = 5 ∨ j = 6 ∨ j = 7 ∨ j = 8 ∨ j = 9 ∨ j = 10 ∨ j = 11 ∨ j = 12 ∨ j = 13 ∨ j = 14 ∨ j = 15 ∨ j = 16 ∨ j = 17 ∨ j = 18 ∨ j = 19 ∨ j = 20 ∨ j = 21 ∨ j = 22 ∨ j = 23 ∨ j = 24 by omega) with rfl | rfl | rfl | rfl | rfl | rfl | rfl | rfl | rfl | rfl | rfl | rfl | rfl | rfl | rfl | rfl | rfl | rfl | rfl | rfl | rfl | rfl | rfl | rfl | rfl <;> rfl) ⟨Nat.le_of_ble_eq_true rfl, Nat.le_of_ble_eq_true rfl⟩ dL_law_8 (fun qm H hw => ?_)
  refine r_dup E dL_law_11 rfl ?_
  refine r_callI E (oX6 Z qx u) hw (nX7_init l Z _ qm) kL_L_12 kI_X7_init kN_X7 kC_X7_init rfl rfl rfl hdX7_init ⟨Nat.le_of_ble_eq_true rfl, Nat.le_of_ble_eq_true rfl⟩ hl (Nat.le_of_ble_eq_true rfl) dL_law_12 ⟨Nat.le_of_ble_eq_true rfl, Nat.le_of_ble_eq_true rfl⟩ (fun v H locs hv hw => ?_)
  revert hw
  subst hv
  intro hw
  refine r_astore_n E [(2, .ref (v 0)), (1, .ref qx), (0, .ref b)] hl dL_law_15 rfl (by decide) rfl (fun ls hl => ?_)
  refine r_iconst E 0 dL_law_16 (by decide) ?_
  refine r_istore_n E [(3, .int 0), (2, .ref (v 0)), (1, .ref qx), (0, .ref b)] hl dL_law_17 rfl (by decide) rfl (fun ls hl => ?_)
  obtain ⟨n, hn⟩ := wh_some (hpure u.2.2.2.2.2.2.2.2.1 u.2.2.2.2.2.2.2.2.2 hu)
  refine W.widen (k := 98) (n := 16695) (Nat.le_of_ble_eq_true rfl) (Nat.le_of_ble_eq_true rfl) ?_
  exact lw_loop C0 E n 0 _ _ _ _ _ hn hw hl
