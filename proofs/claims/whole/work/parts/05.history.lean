/-! Rows for the history: an array of references, its five networks. -/
/-- sums over a world's cells: worlds with the same sums hold the same cells, each as often -/
def sf (f : Nat × va_E → Nat) (l : va_W) : Nat := (l.map f).sum
theorem sf_app (f : Nat × va_E → Nat) (a b : va_W) : sf f (a ++ b) = sf f a + sf f b := by simp [sf]
theorem sf_nil (f : Nat × va_E → Nat) : sf f [] = 0 := rfl
theorem sf_cons1 (f : Nat × va_E → Nat) (q : Nat × va_E) (l : va_W) : sf f (q :: l) = f q + sf f l := by simp [sf]
noncomputable def sfi (P : Nat × va_E → Prop) : Nat × va_E → Nat := fun q => @ite _ (P q) (Classical.propDecidable _) 1 0
theorem sfi_pos {P : Nat × va_E → Prop} : ∀ {l : va_W} {k : Nat} {q : Nat × va_E}, l[k]? = some q → P q → 0 < sf (sfi P) l
  | [], k, q, h, _ => by simp at h
  | x :: l, 0, q, h, hq => by
    rw [List.getElem?_cons_zero] at h
    cases h
    rw [sf_cons1]
    have : sfi P x = 1 := by unfold sfi; rw [if_pos hq]
    omega
  | x :: l, k + 1, q, h, hq => by
    rw [List.getElem?_cons_succ] at h
    rw [sf_cons1]
    have := sfi_pos h hq
    omega
theorem sfi_ex {P : Nat × va_E → Prop} : ∀ {l : va_W}, 0 < sf (sfi P) l → ∃ (k : Nat) (q : Nat × va_E), l[k]? = some q ∧ P q
  | [], h => by simp [sf_nil] at h
  | x :: l, h => by
    by_cases hx : P x
    · exact ⟨0, x, rfl, hx⟩
    · rw [sf_cons1] at h
      have e : sfi P x = 0 := by unfold sfi; rw [if_neg hx]
      rw [e, Nat.zero_add] at h
      obtain ⟨k, q, h1, h2⟩ := sfi_ex (l := l) h
      exact ⟨k + 1, q, h1, h2⟩
theorem sfi_one {P : Nat × va_E → Prop} : ∀ {l : va_W}, sf (sfi P) l ≤ 1 → ∀ {i j : Nat} {x y : Nat × va_E}, l[i]? = some x → l[j]? = some y → P x → P y → i = j
  | [], _, i, j, x, y, h1, _, _, _ => by simp at h1
  | z :: l, h, i, j, x, y, h1, h2, hx, hy => by
    rw [sf_cons1] at h
    cases i with
    | zero =>
      cases j with
      | zero => rfl
      | succ j =>
        rw [List.getElem?_cons_zero] at h1
        rw [List.getElem?_cons_succ] at h2
        cases h1
        have e : sfi P z = 1 := by unfold sfi; rw [if_pos hx]
        have := sfi_pos h2 hy
        omega
    | succ i =>
      rw [List.getElem?_cons_succ] at h1
      cases j with
      | zero =>
        rw [List.getElem?_cons_zero] at h2
        cases h2
        have e : sfi P z = 1 := by unfold sfi; rw [if_pos hy]
        have := sfi_pos h1 hx
        omega
      | succ j =>
        rw [List.getElem?_cons_succ] at h2
        rw [sfi_one (l := l) (by omega) h1 h2 hx hy]
theorem sfi_of {P : Nat × va_E → Prop} : ∀ {l : va_W}, (∀ {i j : Nat} {x y : Nat × va_E}, l[i]? = some x → l[j]? = some y → P x → P y → i = j) → sf (sfi P) l ≤ 1
  | [], _ => by simp [sf_nil]
  | z :: l, h => by
    rw [sf_cons1]
    have ih := sfi_of (P := P) (l := l) (fun {i j x y} h1 h2 hx hy => Nat.succ.inj (h (i := i + 1) (j := j + 1) (by rw [List.getElem?_cons_succ]; exact h1) (by rw [List.getElem?_cons_succ]; exact h2) hx hy))
    by_cases hz : P z
    · have : sf (sfi P) l = 0 := by
        apply Nat.eq_zero_of_not_pos
        intro hp
        obtain ⟨k, q, h1, h2⟩ := sfi_ex hp
        have := h (i := 0) (j := k + 1) (x := z) (y := q) rfl (by rw [List.getElem?_cons_succ]; exact h1) hz h2
        omega
      rw [this]
      unfold sfi
      rw [if_pos hz]
      exact Nat.le_refl 1
    · have e : sfi P z = 0 := by unfold sfi; rw [if_neg hz]
      omega
theorem va_P.sums {D : va_G} {cl : List vw_C} {ws ws' : va_W} {H : Heap} (h : va_P D cl ws H) (hs : ∀ f, sf f ws' = sf f ws) : va_P D cl ws' H := by
  intro k q hk
  have h1 := sfi_pos (P := fun x => x = q) hk rfl
  rw [hs] at h1
  obtain ⟨j, x, h2, h3⟩ := sfi_ex h1
  rw [← h3]
  exact h j x h2
theorem va_D.sums {A : Nat → Prop} {ws ws' : va_W} (h : va_D A ws) (hs : ∀ f, sf f ws' = sf f ws) : va_D A ws' := by
  refine ⟨fun i j x y h1 h2 e => ?_, fun k q hk => ?_⟩
  · have h3 : sf (sfi (fun z => z.1 = x.1)) ws ≤ 1 := sfi_of (fun {i j u v} g1 g2 gu gv => h.1 i j u v g1 g2 (gu.trans gv.symm))
    rw [← hs] at h3
    exact sfi_one h3 h1 h2 rfl e.symm
  · have h1 := sfi_pos (P := fun x => x = q) hk rfl
    rw [hs] at h1
    obtain ⟨j, x, h2, h3⟩ := sfi_ex h1
    rw [← h3]
    exact h.2 j x h2
theorem zW.sums {Z : zT} {A : Nat → Prop} {ws ws' : va_W} {H0 H : Heap} {locs : List Loc} (h : zW Z A ws H0 H locs) (hs : ∀ f, sf f ws' = sf f ws) : zW Z A ws' H0 H locs := ⟨h.1.sums hs, h.2.1.sums hs, h.2.2⟩
section ZH
variable {Z : zT} {p : Program} {l : Launch} {e : Env} {R : Room} {s : State} {m : MethodId} {args : Array Value} {below : List Frame} {meth : Method} {c : Code} {H : Heap} {locs : List Loc} {cells slots : Nat} {Q : State → Prop}
variable {own : String} {cc : ByteArray} {nL : Nat} {ret : Option FieldType} {A : Nat → Prop} {pc : Nat} {ls : Array Slot} {rest : List Value} {ws : va_W} {lv : List (Nat × Value)}
theorem r_aald (E : zE Z p s m args meth c own cc nL ret A) {n a b : Nat} {f : Nat → Option Nat} {i : Int32} (hw : zW Z A ws s.heap H locs) (q0 : Nat) (ha : ws[q0]? = some (a, .inl (Z.2.2.2.2.1, n, .inr (.inr (.inr (.inr f)))))) (hin : vp_in i n) (hf : f i.toNatClampNeg = some b) (hdg : decode cc pc = .ok (.aaload, 1)) (kk : W p l e R s m args below meth c H locs cells slots Q (F0 m (pc + 1) ls (.ref b :: rest))) : W p l e R s m args below meth c H locs cells slots Q (F0 m pc ls (.int i :: .ref a :: rest)) := by
  refine va_aldq E.1.1 E.1.2.1 E.2.2.2.1 hw.1 q0 3 ha rfl hin hdg ?_
  rw [hf]
  exact kk
theorem r_aast (E : zE Z p s m args meth c own cc nL ret A) {n a v : Nat} {vs : List Value} {f : Nat → Option Nat} {i : Int32} (ws' : va_W) (hw : zW Z A ws s.heap H locs) (q0 qk : Nat) (ha : ws[q0]? = some (a, .inl (Z.2.2.2.2.1, n, .inr (.inr (.inr (.inr f)))))) (hv : ws[qk]? = some (v, .inr (2, vs))) (hin : vp_in i n) (N : Nat) (hN : i.toNatClampNeg = N) (hs : ws.set q0 (a, .inl (Z.2.2.2.2.1, n, .inr (.inr (.inr (.inr (va_up f N (some v))))))) = ws') (hdg : decode cc pc = .ok (.aastore, 1)) (kk : ∀ (H1 : Heap) (locs1 : List Loc), zW Z A ws' s.heap H1 locs1 → W p l e R s m args below meth c H1 locs1 cells slots Q (F0 m (pc + 1) ls rest)) : W p l e R s m args below meth c H locs cells slots Q (F0 m pc ls (.ref v :: .int i :: .ref a :: rest)) := by
  subst hN
  exact va_astq (r := (RX3, TX3, 13)) E.1.1 E.1.2.1 E.2.2.2.1 hw.1 hw.2.1 hw.2.2 q0 3 qk 2 ha rfl hv rfl hin hdg (fun H1 locs1 h1 h2 h3 => kk H1 locs1 (hs ▸ ⟨h1, h2, h3⟩))
theorem r_astore_n (E : zE Z p s m args meth c own cc nL ret A) {k : Fin 4} {i : Nat} {x : Nat} (lv' : List (Nat × Value)) (h : lv_has ls nL lv) (hdg : decode cc pc = .ok (.astore_n k, 1)) (hi : (k : Nat) = i) (hn : i < nL) (hl : (i, Value.ref x) :: lv.filter (fun q => !(q.1 == i) && !(q.1 + 1 == i && q.2.category == 2)) = lv')
    (kk : ∀ ls' : Array Slot, lv_has ls' nL lv' → W p l e R s m args below meth c H locs cells slots Q (F0 m (pc + 1) ls' rest)) : W p l e R s m args below meth c H locs cells slots Q (F0 m pc ls (.ref x :: rest)) := lv_astore_n E.1.1 E.1.2.1 hdg hi h hn hl kk
theorem zW.perm {ws' : va_W} {H0 : Heap} (hw : zW Z A ws H0 H locs) (perm : List Nat) (hpn : va_nd perm = true) (hp : perm.map (fun i => ws[i]?) = ws'.map some) : zW Z A ws' H0 H locs := by
  refine ⟨hw.1.sub perm ?_, hw.2.1.sub perm hpn hp, hw.2.2⟩
  have : perm.filterMap (fun i => ws[i]?) = (perm.map (fun i => ws[i]?)).filterMap id := by rw [List.filterMap_map]; rfl
  rw [this, hp, List.filterMap_map]
  exact List.filterMap_some
theorem z_rng_map {α : Type} (a b : List α) : ((List.range b.length).map (fun i => a.length + i)).map (fun i => (a ++ b)[i]?) = b.map some := by
  apply List.ext_getElem?
  intro k
  rw [List.map_map, List.getElem?_map, List.getElem?_map]
  by_cases hk : k < b.length
  · rw [List.getElem?_range hk]
    simp [hk]
  · rw [List.getElem?_eq_none (by simp; omega), List.getElem?_eq_none (by omega)]
    rfl
theorem z_rng_left {α : Type} (a b : List α) : (List.range a.length).map (fun i => (a ++ b)[i]?) = a.map some := by
  apply List.ext_getElem?
  intro k
  rw [List.getElem?_map, List.getElem?_map]
  by_cases hk : k < a.length
  · rw [List.getElem?_range hk]
    simp [hk, List.getElem?_append_left]
  · rw [List.getElem?_eq_none (by simp; omega), List.getElem?_eq_none (by omega)]
    rfl
theorem va_nd_of : ∀ {l : List Nat}, l.Nodup → va_nd l = true
  | [], _ => rfl
  | a :: l, h => by
    rw [List.nodup_cons] at h
    simp only [va_nd, Bool.and_eq_true, decide_eq_true_eq]
    exact ⟨h.1, va_nd_of h.2⟩
theorem zW.pre2 {wc wr : va_W} {av : List Value} (E : zE Z p s m args meth c own cc nL ret A) (hw : zW Z A (wr ++ wc) s.heap H locs) : ∀ U : State, U.heap = H → s.WarmedH U.vm → zP Z wc H.size av av.toArray U :=
  hw.pre E ((List.range wc.length).map (fun i => wr.length + i)) (va_nd_of (by unfold List.Nodup; exact List.Pairwise.map _ (fun a b h => by omega) List.nodup_range)) (z_rng_map wr wc)
theorem zF_2 {wc wr : va_W} (E : zE Z p s m args meth c own cc nL ret A) (hw : zW Z A (wr ++ wc) s.heap H locs) : ∀ q, va_A wc H.size q → A q :=
  va_free (wc := wc) hw.2.1 hw.2.2 E.2.2.2.2.2.1 _ (z_rng_map wr wc)
theorem zW.join2 {wc wr w1 : va_W} {H0 H1 : Heap} {locs1 : List Loc} (hw : zW Z A (wr ++ wc) H0 H locs)
    (hk : ∀ q : Nat, q < H.size → ¬ va_A wc H.size q → H1[q]? = H[q]?) (hF : ∀ q, va_A wc H.size q → A q) (hP1 : va_P Z.1 vwCl w1 H1) (hD1 : va_D (va_A wc H.size) w1) (hS1 : va_S A H0 H1 locs1) : zW Z A (wr ++ w1) H0 H1 locs1 := by
  obtain ⟨h1, h2⟩ := va_join hw.1 hw.2.1 _ _ (z_rng_map wr wc) (z_rng_left wr wc) (va_nd_of List.nodup_range) (fun i hi hc => by
    rw [List.mem_range] at hi
    obtain ⟨j, -, e⟩ := List.mem_map.mp hc
    omega) hk hF hP1 hD1
  exact ⟨h1, h2, hS1⟩
theorem r_callVQi (E : zE Z p s m args meth c own cc nL ret A) {y : MethodName} {bytes : ByteArray} {maxL n index : Nat} {ret' : Option FieldType} {rm : Room} {wc w1 : va_W} {As st0 : List Value} {r0 : Int32} {C : String} {b ci : Nat} {vq : vw_C} {fs : List Value} (ws' wr : va_W) (hw : zW Z A ws s.heap H locs) (hM : Met l y (Cond.code y bytes maxL ret' :: zWs) rm (zP Z wc H.size (.ref b :: As)) (zQi Z r0 w1 (va_A wc H.size)) 0 0 (va_A wc H.size)) (k1 : Cond.methodLink own index y ∈ zWs) (k2 : Cond.instanceMethod y ∈ zWs) (k3 : Cond.selects C y y ∈ zWs) (k4 : Cond.initialized C ∈ zWs) (k5 : Cond.code y bytes maxL ret' ∈ zWs) (hrc : rm.cells = 0) (hrs : rm.slots = 0) (hd : y.cls = C ∧ y.cls ≠ "java/lang/invoke/MethodHandle" ∧ y.cls ≠ "java/lang/invoke/VarHandle" ∧ (parseMethodDescriptor y.desc).map (fun d => d.parameters.length) = some n) (hR : rm.frames + 1 ≤ R.frames ∧ 8 + (maxL + 11) + rm.locals ≤ R.locals) (h1 : ∀ f, sf f ws = sf f wr + sf f wc) (h2 : ∀ f, sf f ws' = sf f wr + sf f w1) (q0 : Nat) (hvc : vwCl[ci]? = some vq) (hvC : vq.1 = C) (hvb : ws[q0]? = some (b, .inr (ci, fs))) (hn : As.length = n) (hl : lv_has ls nL lv) (rest : List Value) (hst : st0 = As.reverse ++ .ref b :: rest) (hrm : (rest.map fun v => v.category).sum ≤ 8) (hdg : decode cc pc = .ok (.invokevirtual index, 3)) (hcs : cells ≤ R.cells ∧ slots ≤ R.slots) (kk : ∀ (H1 : Heap) (locs1 : List Loc), zW Z A ws' s.heap H1 locs1 → W p l e R s m args below meth c H1 locs1 cells slots Q (F0 m (pc + 3) ls (.int r0 :: rest))) : W p l e R s m args below meth c H locs cells slots Q (F0 m pc ls st0) := by
  have hw2 : zW Z A (wr ++ wc) s.heap H locs := hw.sums (fun f => by rw [sf_app, h1 f])
  have hF := zF_2 E hw2
  subst hvC
  subst hst
  exact va_calli (va_runV E.1 hM (cwV n E.1.2.2.2.2 (zCV k1 k2 k3 k4 k5) rfl hrc hrs hd hR) ⟨zP.blind, va_recv E.2.2.2.1 hw.1 hvc hvb, hw2.pre2 E⟩ rfl hn hl.1 rfl (lv_room hrm) hdg hcs) hw.2.2 (fun q _ h => hF q h) hF (fun r u t H1 locs1 ht hvm hp hB hz hk hS => by subst hp; rw [ht] at hB; exact kk H1 locs1 ((hw2.join2 hk hF hB.1 hB.2 hS).sums (fun f => by rw [h2 f, sf_app])))
theorem r_callSQi (E : zE Z p s m args meth c own cc nL ret A) {y : MethodName} {bytes : ByteArray} {maxL n index : Nat} {ret' : Option FieldType} {rm : Room} {wc w1 : va_W} {As st0 : List Value} {r0 : Int32} (ws' wr : va_W) (hw : zW Z A ws s.heap H locs) (hM : Met l y (Cond.code y bytes maxL ret' :: zWs) rm (zP Z wc H.size (As)) (zQi Z r0 w1 (va_A wc H.size)) 0 0 (va_A wc H.size)) (k1 : Cond.methodLink own index y ∈ zWs) (k2 : Cond.static y ∈ zWs) (k4 : Cond.initialized y.cls ∈ zWs) (k5 : Cond.code y bytes maxL ret' ∈ zWs) (hrc : rm.cells = 0) (hrs : rm.slots = 0) (hd : y.cls ≠ "java/lang/invoke/MethodHandle" ∧ y.cls ≠ "java/lang/invoke/VarHandle" ∧ (parseMethodDescriptor y.desc).map (fun d => d.parameters.length) = some n) (hR : rm.frames + 1 ≤ R.frames ∧ 8 + (maxL + 11) + rm.locals ≤ R.locals) (h1 : ∀ f, sf f ws = sf f wr + sf f wc) (h2 : ∀ f, sf f ws' = sf f wr + sf f w1) (hn : As.length = n) (hl : lv_has ls nL lv) (rest : List Value) (hst : st0 = As.reverse ++ rest) (hrm : (rest.map fun v => v.category).sum ≤ 8) (hdg : decode cc pc = .ok (.invokestatic index, 3)) (hcs : cells ≤ R.cells ∧ slots ≤ R.slots) (kk : ∀ (H1 : Heap) (locs1 : List Loc), zW Z A ws' s.heap H1 locs1 → W p l e R s m args below meth c H1 locs1 cells slots Q (F0 m (pc + 3) ls (.int r0 :: rest))) : W p l e R s m args below meth c H locs cells slots Q (F0 m pc ls st0) := by
  have hw2 : zW Z A (wr ++ wc) s.heap H locs := hw.sums (fun f => by rw [sf_app, h1 f])
  have hF := zF_2 E hw2
  skip
  subst hst
  exact va_calli (va_runS E.1 hM (va_cwS n E.1.2.2.2.2 (zCS k1 k2 k4 k5) rfl hrc hrs hd hR) ⟨zP.blind, hw2.pre2 E⟩ rfl hn hl.1 rfl (lv_room hrm) hdg hcs) hw.2.2 (fun q _ h => hF q h) hF (fun r u t H1 locs1 ht hvm hp hB hz hk hS => by subst hp; rw [ht] at hB; exact kk H1 locs1 ((hw2.join2 hk hF hB.1 hB.2 hS).sums (fun f => by rw [h2 f, sf_app])))
theorem r_callVQv (E : zE Z p s m args meth c own cc nL ret A) {y : MethodName} {bytes : ByteArray} {maxL n index : Nat} {ret' : Option FieldType} {rm : Room} {wc w1 : va_W} {As st0 : List Value} {C : String} {b ci : Nat} {vq : vw_C} {fs : List Value} (ws' wr : va_W) (hw : zW Z A ws s.heap H locs) (hM : Met l y (Cond.code y bytes maxL ret' :: zWs) rm (zP Z wc H.size (.ref b :: As)) (zQv Z w1 (va_A wc H.size)) 0 0 (va_A wc H.size)) (k1 : Cond.methodLink own index y ∈ zWs) (k2 : Cond.instanceMethod y ∈ zWs) (k3 : Cond.selects C y y ∈ zWs) (k4 : Cond.initialized C ∈ zWs) (k5 : Cond.code y bytes maxL ret' ∈ zWs) (hrc : rm.cells = 0) (hrs : rm.slots = 0) (hd : y.cls = C ∧ y.cls ≠ "java/lang/invoke/MethodHandle" ∧ y.cls ≠ "java/lang/invoke/VarHandle" ∧ (parseMethodDescriptor y.desc).map (fun d => d.parameters.length) = some n) (hR : rm.frames + 1 ≤ R.frames ∧ 8 + (maxL + 11) + rm.locals ≤ R.locals) (h1 : ∀ f, sf f ws = sf f wr + sf f wc) (h2 : ∀ f, sf f ws' = sf f wr + sf f w1) (q0 : Nat) (hvc : vwCl[ci]? = some vq) (hvC : vq.1 = C) (hvb : ws[q0]? = some (b, .inr (ci, fs))) (hn : As.length = n) (hl : lv_has ls nL lv) (rest : List Value) (hst : st0 = As.reverse ++ .ref b :: rest) (hrm : (rest.map fun v => v.category).sum ≤ 8) (hdg : decode cc pc = .ok (.invokevirtual index, 3)) (hcs : cells ≤ R.cells ∧ slots ≤ R.slots) (kk : ∀ (H1 : Heap) (locs1 : List Loc), zW Z A ws' s.heap H1 locs1 → W p l e R s m args below meth c H1 locs1 cells slots Q (F0 m (pc + 3) ls (rest))) : W p l e R s m args below meth c H locs cells slots Q (F0 m pc ls st0) := by
  have hw2 : zW Z A (wr ++ wc) s.heap H locs := hw.sums (fun f => by rw [sf_app, h1 f])
  have hF := zF_2 E hw2
  subst hvC
  subst hst
  exact va_callv (va_runV E.1 hM (cwV n E.1.2.2.2.2 (zCV k1 k2 k3 k4 k5) rfl hrc hrs hd hR) ⟨zP.blind, va_recv E.2.2.2.1 hw.1 hvc hvb, hw2.pre2 E⟩ rfl hn hl.1 rfl (lv_room hrm) hdg hcs) hw.2.2 (fun q _ h => hF q h) hF (fun u t H1 locs1 ht hvm hp hB hz hk hS => by rw [ht] at hB; exact kk H1 locs1 ((hw2.join2 hk hF hB.1 hB.2 hS).sums (fun f => by rw [h2 f, sf_app])))
theorem r_callSQv (E : zE Z p s m args meth c own cc nL ret A) {y : MethodName} {bytes : ByteArray} {maxL n index : Nat} {ret' : Option FieldType} {rm : Room} {wc w1 : va_W} {As st0 : List Value} (ws' wr : va_W) (hw : zW Z A ws s.heap H locs) (hM : Met l y (Cond.code y bytes maxL ret' :: zWs) rm (zP Z wc H.size (As)) (zQv Z w1 (va_A wc H.size)) 0 0 (va_A wc H.size)) (k1 : Cond.methodLink own index y ∈ zWs) (k2 : Cond.static y ∈ zWs) (k4 : Cond.initialized y.cls ∈ zWs) (k5 : Cond.code y bytes maxL ret' ∈ zWs) (hrc : rm.cells = 0) (hrs : rm.slots = 0) (hd : y.cls ≠ "java/lang/invoke/MethodHandle" ∧ y.cls ≠ "java/lang/invoke/VarHandle" ∧ (parseMethodDescriptor y.desc).map (fun d => d.parameters.length) = some n) (hR : rm.frames + 1 ≤ R.frames ∧ 8 + (maxL + 11) + rm.locals ≤ R.locals) (h1 : ∀ f, sf f ws = sf f wr + sf f wc) (h2 : ∀ f, sf f ws' = sf f wr + sf f w1) (hn : As.length = n) (hl : lv_has ls nL lv) (rest : List Value) (hst : st0 = As.reverse ++ rest) (hrm : (rest.map fun v => v.category).sum ≤ 8) (hdg : decode cc pc = .ok (.invokestatic index, 3)) (hcs : cells ≤ R.cells ∧ slots ≤ R.slots) (kk : ∀ (H1 : Heap) (locs1 : List Loc), zW Z A ws' s.heap H1 locs1 → W p l e R s m args below meth c H1 locs1 cells slots Q (F0 m (pc + 3) ls (rest))) : W p l e R s m args below meth c H locs cells slots Q (F0 m pc ls st0) := by
  have hw2 : zW Z A (wr ++ wc) s.heap H locs := hw.sums (fun f => by rw [sf_app, h1 f])
  have hF := zF_2 E hw2
  skip
  subst hst
  exact va_callv (va_runS E.1 hM (va_cwS n E.1.2.2.2.2 (zCS k1 k2 k4 k5) rfl hrc hrs hd hR) ⟨zP.blind, hw2.pre2 E⟩ rfl hn hl.1 rfl (lv_room hrm) hdg hcs) hw.2.2 (fun q _ h => hF q h) hF (fun u t H1 locs1 ht hvm hp hB hz hk hS => by rw [ht] at hB; exact kk H1 locs1 ((hw2.join2 hk hF hB.1 hB.2 hS).sums (fun f => by rw [h2 f, sf_app])))
end ZH
/-- the places of the history, one further on -/
def zRot {α : Type} (f : Nat → α) : Nat → α := fun k => if k = 4 then f 0 else f (k + 1)
