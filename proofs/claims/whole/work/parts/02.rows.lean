/-! Rows of this proof's own: the words that the walks share (written by hand). -/
/-- the numbers of a launch that every world names: the classes' and the four array classes' -/
abbrev zT : Type := va_G × ClassId × ClassId × ClassId × ClassId × (Nat → Nat) × (Nat → Nat)
abbrev zTys (Z : zT) : List (ClassId × FieldType) := [(Z.2.1, .int), (Z.2.2.1, .long), (Z.2.2.2.1, .char), (Z.2.2.2.2.1, .object "PrivateLinkRouting$Network")]
/-- the links of nest mates -/
def zNz (U : State) : Prop :=
  va_Nw (.methodLinkNest RX3 102 yX6_place RX6) U ∧ va_Nw (.methodLinkNest RX3 89 yX6_grantItem RX6) U ∧ va_Nw (.methodLinkNest RX3 109 yX6_grantOwner RX6) U ∧ va_Nw (.methodLinkNest RX3 116 yX6_grantArea RX6) U ∧
  va_Nw (.methodLinkNest RX5 105 yX6_grantItem RX6) U ∧ va_Nw (.methodLinkNest RX1 85 yX6_place RX6) U ∧ va_Nw (.methodLinkNest RX2 34 yX6_place RX6) U ∧
  va_Nw (.methodLinkNest RX6 11 yX3_init RX6) U ∧ va_Nw (.methodLinkNest RX6 29 yX5_init RX6) U ∧ va_Nw (.methodLinkNest RX6 36 yX1_init RX6) U ∧ va_Nw (.methodLinkNest RX6 43 yX2_init RX6) U ∧ va_Nw (.methodLinkNest RX6 50 yX4_init RX6) U
theorem zNz.warm {s U : State} (hW : s.WarmedH U.vm) (h : zNz s) : zNz U := by
  obtain ⟨h1, h2, h3, h4, h5, h6, h7, h8, h9, h10, h11, h12⟩ := h
  exact ⟨h1.warmM hW, h2.warmM hW, h3.warmM hW, h4.warmM hW, h5.warmM hW, h6.warmM hW, h7.warmM hW, h8.warmM hW, h9.warmM hW, h10.warmM hW, h11.warmM hW, h12.warmM hW⟩
theorem zNz.same {s U : State} (hW : s.vm = U.vm) (h : zNz s) : zNz U := by
  obtain ⟨h1, h2, h3, h4, h5, h6, h7, h8, h9, h10, h11, h12⟩ := h
  exact ⟨h1.same rfl hW, h2.same rfl hW, h3.same rfl hW, h4.same rfl hW, h5.same rfl hW, h6.same rfl hW, h7.same rfl hW, h8.same rfl hW, h9.same rfl hW, h10.same rfl hW, h11.same rfl hW, h12.same rfl hW⟩
/-- the five words of the text, as the class file's constants: lengths and bytes -/
def zLen : List Nat := [4, 4, 7, 5, 6]
def zByt : List (List Int32) := [[110, 111, 100, 101], [108, 105, 110, 107], [112, 114, 105, 118, 97, 116, 101], [103, 114, 97, 110, 116], [116, 117, 110, 110, 101, 108]]
/-- the constants, and the statics of the library: cells that nobody changes -/
def zStr (Z : zT) (A : Nat → Prop) (U : State) (H : Heap) : Prop :=
  vk_S 5 zLen zByt Z.2.2.2.2.2.1 Z.2.2.2.2.2.2 A U H ∧ va_Z "java/lang/String" "COMPACT_STRINGS" "Z" (.int 1) A U H ∧ va_Zq "jdk/internal/util/Preconditions" "SIOOBE_FORMATTER" "Ljava/util/function/BiFunction;" A U H ∧
  vk_R RX5 119 "node" (Z.2.2.2.2.2.1 0) U ∧ vk_R RX5 125 "link" (Z.2.2.2.2.2.1 1) U ∧ vk_R RX5 127 "private" (Z.2.2.2.2.2.1 2) U ∧ vk_R RX5 129 "grant" (Z.2.2.2.2.2.1 3) U ∧ vk_R RX5 131 "tunnel" (Z.2.2.2.2.2.1 4) U
theorem zStr.warm {Z : zT} {A : Nat → Prop} {s U : State} {H : Heap} (hW : s.WarmedH U.vm) (h : zStr Z A s H) : zStr Z A U H :=
  ⟨h.1.moved hW.alike, h.2.1.moved hW.alike, h.2.2.1.moved hW.alike, h.2.2.2.1.warm hW, h.2.2.2.2.1.warm hW, h.2.2.2.2.2.1.warm hW, h.2.2.2.2.2.2.1.warm hW, h.2.2.2.2.2.2.2.warm hW⟩
theorem zStr.same {Z : zT} {A : Nat → Prop} {s U : State} {H : Heap} (hv : U.vm = s.vm) (h : zStr Z A s H) : zStr Z A U H :=
  have ha : s.vm.Alike U.vm := by rw [hv]; exact Vm.Alike.refl s.vm
  ⟨h.1.moved ha, h.2.1.moved ha, h.2.2.1.moved ha, h.2.2.2.1.same hv, h.2.2.2.2.1.same hv, h.2.2.2.2.2.1.same hv, h.2.2.2.2.2.2.1.same hv, h.2.2.2.2.2.2.2.same hv⟩
theorem zStr.kept {Z : zT} {A : Nat → Prop} {U : State} {H H1 : Heap} (h : zStr Z A U H) (hq : ∀ a : Nat, a < H.size → ¬ A a → H1[a]? = H[a]?) : zStr Z A U H1 := ⟨h.1.kept hq, h.2.1.kept hq, h.2.2.1.kept hq, h.2.2.2⟩
theorem zStr.narrow {Z : zT} {A B : Nat → Prop} {U : State} {H : Heap} (h : zStr Z A U H) (hAB : ∀ q, B q → A q) : zStr Z B U H := ⟨h.1.narrow hAB, h.2.1.narrow hAB, h.2.2.1.narrow hAB, h.2.2.2⟩
/-- a method's start over the cells ws -/
def zP (Z : zT) (ws : va_W) (sz : Nat) (av : List Value) : Array Value → State → Prop := va_Pc av (fun U => U.heap.size = sz ∧ va_P Z.1 vwCl ws U.heap ∧ va_K Z.1 vwCl (zTys Z) U ∧ va_D (fun _ => True) ws ∧ zNz U ∧ zStr Z (va_A ws sz) U U.heap)
theorem zP.blind {Z : zT} {ws : va_W} {sz : Nat} {av : List Value} : FrameBlind (zP Z ws sz av) := by
  intro a U g mk q
  obtain ⟨q0, q1, qP, qK, qD, qN, qS⟩ := q
  exact ⟨q0, q1, qP, va_K.moved (u := U) (U := U.calling g mk a) (Vm.Alike.refl U.vm) qK, qD, qN.same rfl, qS.same rfl⟩
/-- a method's end: what it answers, and the cells behind it -/
abbrev zQi (Z : zT) (r0 : Int32) (ws' : va_W) (A : Nat → Prop) : Array Value → State → Outcome → State → Prop := va_Qi (fun (r : Int32) (_ : Unit) => r = r0) (fun _ t => va_P Z.1 vwCl ws' t.heap ∧ va_D A ws') A
abbrev zQl (Z : zT) (r0 : Int64) (ws' : va_W) (A : Nat → Prop) : Array Value → State → Outcome → State → Prop := va_Ql (fun (r : Int64) (_ : Unit) => r = r0) (fun _ t => va_P Z.1 vwCl ws' t.heap ∧ va_D A ws') A
abbrev zQv (Z : zT) (ws' : va_W) (A : Nat → Prop) : Array Value → State → Outcome → State → Prop := va_Qv (fun (_ : Unit) => True) (fun _ t => va_P Z.1 vwCl ws' t.heap ∧ va_D A ws') A
/-- what stays the same over a method's walk -/
def zE (Z : zT) (p : Program) (s : State) (m : MethodId) (args : Array Value) (meth : Method) (c : Code) (own : String) (cc : ByteArray) (nL : Nat) (ret : Option FieldType) (A : Nat → Prop) : Prop :=
  CallFix p m c cc nL s args zWs own ∧ meth.sig.returnType = ret ∧ meth.locks = false ∧ va_K Z.1 vwCl (zTys Z) s ∧ zNz s ∧ (∀ q, s.heap.size ≤ q → A q) ∧ zStr Z A s s.heap
/-- the world now -/
def zW (Z : zT) (A : Nat → Prop) (ws : va_W) (H0 H : Heap) (locs : List Loc) : Prop := va_P Z.1 vwCl ws H ∧ va_D A ws ∧ va_S A H0 H locs
theorem zW.re {Z : zT} {A : Nat → Prop} {ws ws' : va_W} {H0 H : Heap} {locs : List Loc} (h : zW Z A ws H0 H locs) (e : ws = ws') : zW Z A ws' H0 H locs := e ▸ h
theorem zC5 {w : Cond} (hw : w ∈ zWs) : GoodIn zWs (w :: zWs) := fun v hv => (List.mem_cons.mp hv).elim (fun e => e ▸ ⟨hw, good_of_word (zgood hw)⟩) (fun h => ⟨h, good_of_word (zgood h)⟩)
theorem zC1 {w : Cond} {ws : List Cond} (hw : w ∈ zWs) (h : GoodIn zWs ws) : GoodIn zWs (w :: ws) := fun v hv => (List.mem_cons.mp hv).elim (fun e => e ▸ ⟨hw, good_of_word (zgood hw)⟩) (fun h2 => h v h2)
theorem zCV {own C : String} {index : Nat} {y : MethodName} {w : Cond} (k1 : Cond.methodLink own index y ∈ zWs) (k2 : Cond.instanceMethod y ∈ zWs) (k3 : Cond.selects C y y ∈ zWs) (k4 : Cond.initialized C ∈ zWs) (k5 : w ∈ zWs) : GoodIn zWs (wsV own index C y (w :: zWs)) := zC1 k1 (zC1 k2 (zC1 k3 (zC1 k4 (zC5 k5))))
theorem zCS {own : String} {index : Nat} {y : MethodName} {w : Cond} (k1 : Cond.methodLink own index y ∈ zWs) (k2 : Cond.static y ∈ zWs) (k4 : Cond.initialized y.cls ∈ zWs) (k5 : w ∈ zWs) : GoodIn zWs (va_wsS own index y (w :: zWs)) := zC1 k1 (zC1 k2 (zC1 k4 (zC5 k5)))
section ZR
variable {Z : zT} {p : Program} {l : Launch} {e : Env} {R : Room} {s : State} {m : MethodId} {args : Array Value} {below : List Frame} {meth : Method} {c : Code} {H : Heap} {locs : List Loc} {cells slots : Nat} {Q : State → Prop}
variable {own : String} {cc : ByteArray} {nL : Nat} {ret : Option FieldType} {A : Nat → Prop} {pc : Nat} {ls : Array Slot} {rest : List Value} {ws : va_W} {lv : List (Nat × Value)}
theorem r_iconst (E : zE Z p s m args meth c own cc nL ret A) {n : Int} (v : Int32) (hdg : decode cc pc = .ok (.iconst n, 1)) (hv : Int32.ofInt n = v)
    (k : W p l e R s m args below meth c H locs cells slots Q (F0 m (pc + 1) ls (.int v :: rest))) : W p l e R s m args below meth c H locs cells slots Q (F0 m pc ls (rest)) := lv_iconst E.1.1 E.1.2.1 hdg hv k
theorem r_bipush (E : zE Z p s m args meth c own cc nL ret A) {n : Int} (v : Int32) (hdg : decode cc pc = .ok (.bipush n, 2)) (hv : (Int8.ofInt n).toInt32 = v)
    (k : W p l e R s m args below meth c H locs cells slots Q (F0 m (pc + 2) ls (.int v :: rest))) : W p l e R s m args below meth c H locs cells slots Q (F0 m pc ls (rest)) := lv_bipush E.1.1 E.1.2.1 hdg hv k
theorem r_sipush (E : zE Z p s m args meth c own cc nL ret A) {n : Int} (v : Int32) (hdg : decode cc pc = .ok (.sipush n, 3)) (hv : (Int16.ofInt n).toInt32 = v)
    (k : W p l e R s m args below meth c H locs cells slots Q (F0 m (pc + 3) ls (.int v :: rest))) : W p l e R s m args below meth c H locs cells slots Q (F0 m pc ls (rest)) := lv_sipush E.1.1 E.1.2.1 hdg hv k
theorem r_lconst (E : zE Z p s m args meth c own cc nL ret A) {n : Fin 2} (v : Int64) (hdg : decode cc pc = .ok (.lconst n, 1)) (hv : Int64.ofNat (n : Nat) = v)
    (k : W p l e R s m args below meth c H locs cells slots Q (F0 m (pc + 1) ls (.long v :: rest))) : W p l e R s m args below meth c H locs cells slots Q (F0 m pc ls (rest)) := lv_lconst E.1.1 E.1.2.1 hdg hv k
theorem r_ldc (E : zE Z p s m args meth c own cc nL ret A) {index : Nat} (v : Int32) (hm : Jvm.Cond.constant own index v ∈ zWs) (hdg : decode cc pc = .ok (.ldc index, 2)) (k : W p l e R s m args below meth c H locs cells slots Q (F0 m (pc + 2) ls (.int v :: rest))) : W p l e R s m args below meth c H locs cells slots Q (F0 m pc ls rest) := lv_ldc E.1.1 E.1.2.1 E.1.2.2.2.1 (E.1.2.2.2.2 _ hm) hdg k
theorem r_ldc2 (E : zE Z p s m args meth c own cc nL ret A) {index : Nat} (v : Int64) (hm : Jvm.Cond.constantLong own index v ∈ zWs) (hdg : decode cc pc = .ok (.ldc2_w index, 3)) (k : W p l e R s m args below meth c H locs cells slots Q (F0 m (pc + 3) ls (.long v :: rest))) : W p l e R s m args below meth c H locs cells slots Q (F0 m pc ls rest) := lv_ldc2 E.1.1 E.1.2.1 E.1.2.2.2.1 (E.1.2.2.2.2 _ hm) hdg k
theorem r_iload_n (E : zE Z p s m args meth c own cc nL ret A) {k : Fin 4} {i : Nat} {x : Int32} (hl : lv_has ls nL lv) (j : Nat) (hj : lv[j]? = some (i, .int x)) (hdg : decode cc pc = .ok (.iload_n k, 1)) (hi : (k : Nat) = i)
    (kk : W p l e R s m args below meth c H locs cells slots Q (F0 m (pc + 1) ls (.int x :: rest))) : W p l e R s m args below meth c H locs cells slots Q (F0 m pc ls (rest)) := lv_iload_n E.1.1 E.1.2.1 hdg hi (lv_at hl j hj) kk
theorem r_iload (E : zE Z p s m args meth c own cc nL ret A) {i : Nat} {x : Int32} (hl : lv_has ls nL lv) (j : Nat) (hj : lv[j]? = some (i, .int x)) (hdg : decode cc pc = .ok (.iload i, 2))
    (kk : W p l e R s m args below meth c H locs cells slots Q (F0 m (pc + 2) ls (.int x :: rest))) : W p l e R s m args below meth c H locs cells slots Q (F0 m pc ls (rest)) := lv_iload E.1.1 E.1.2.1 hdg (lv_at hl j hj) kk
theorem r_lload_n (E : zE Z p s m args meth c own cc nL ret A) {k : Fin 4} {i : Nat} {x : Int64} (hl : lv_has ls nL lv) (j : Nat) (hj : lv[j]? = some (i, .long x)) (hdg : decode cc pc = .ok (.lload_n k, 1)) (hi : (k : Nat) = i)
    (kk : W p l e R s m args below meth c H locs cells slots Q (F0 m (pc + 1) ls (.long x :: rest))) : W p l e R s m args below meth c H locs cells slots Q (F0 m pc ls (rest)) := lv_lload_n E.1.1 E.1.2.1 hdg hi (lv_at hl j hj) kk
theorem r_aload_n (E : zE Z p s m args meth c own cc nL ret A) {k : Fin 4} {i : Nat} {x : Nat} (hl : lv_has ls nL lv) (j : Nat) (hj : lv[j]? = some (i, .ref x)) (hdg : decode cc pc = .ok (.aload_n k, 1)) (hi : (k : Nat) = i)
    (kk : W p l e R s m args below meth c H locs cells slots Q (F0 m (pc + 1) ls (.ref x :: rest))) : W p l e R s m args below meth c H locs cells slots Q (F0 m pc ls (rest)) := lv_aload_n E.1.1 E.1.2.1 hdg hi (lv_at hl j hj) kk
theorem r_istore_n (E : zE Z p s m args meth c own cc nL ret A) {k : Fin 4} {i : Nat} {x : Int32} (lv' : List (Nat × Value)) (h : lv_has ls nL lv) (hdg : decode cc pc = .ok (.istore_n k, 1)) (hi : (k : Nat) = i) (hn : i < nL) (hl : (i, Value.int x) :: lv.filter (fun q => !(q.1 == i) && !(q.1 + 1 == i && q.2.category == 2)) = lv')
    (kk : ∀ ls' : Array Slot, lv_has ls' nL lv' → W p l e R s m args below meth c H locs cells slots Q (F0 m (pc + 1) ls' rest)) : W p l e R s m args below meth c H locs cells slots Q (F0 m pc ls (.int x :: rest)) := lv_istore_n E.1.1 E.1.2.1 hdg hi h hn hl kk
theorem r_istore (E : zE Z p s m args meth c own cc nL ret A) {i : Nat} {x : Int32} (lv' : List (Nat × Value)) (h : lv_has ls nL lv) (hdg : decode cc pc = .ok (.istore i, 2)) (hn : i < nL) (hl : (i, Value.int x) :: lv.filter (fun q => !(q.1 == i) && !(q.1 + 1 == i && q.2.category == 2)) = lv')
    (kk : ∀ ls' : Array Slot, lv_has ls' nL lv' → W p l e R s m args below meth c H locs cells slots Q (F0 m (pc + 2) ls' rest)) : W p l e R s m args below meth c H locs cells slots Q (F0 m pc ls (.int x :: rest)) := lv_istore E.1.1 E.1.2.1 hdg h hn hl kk
theorem r_lstore_n (E : zE Z p s m args meth c own cc nL ret A) {k : Fin 4} {i : Nat} {x : Int64} (lv' : List (Nat × Value)) (h : lv_has ls nL lv) (hdg : decode cc pc = .ok (.lstore_n k, 1)) (hi : (k : Nat) = i) (hn : i + 1 < nL) (hl : (i, Value.long x) :: lv.filter (fun q => !(q.1 == i) && (!(q.1 == i + 1) && !(q.1 + 1 == i && q.2.category == 2))) = lv')
    (kk : ∀ ls' : Array Slot, lv_has ls' nL lv' → W p l e R s m args below meth c H locs cells slots Q (F0 m (pc + 1) ls' rest)) : W p l e R s m args below meth c H locs cells slots Q (F0 m pc ls (.long x :: rest)) := lv_lstore_n E.1.1 E.1.2.1 hdg hi h hn hl kk
theorem r_iinc (E : zE Z p s m args meth c own cc nL ret A) {i k : Nat} {n : Int} {x : Int32} (v : Int32) (lv' : List (Nat × Value)) (h : lv_has ls nL lv) (hk : lv[k]? = some (i, .int x)) (hdg : decode cc pc = .ok (.iinc i n, 3)) (hv : x + Int32.ofInt n = v) (hn : i < nL) (hl : (i, Value.int v) :: lv.filter (fun q => !(q.1 == i) && !(q.1 + 1 == i && q.2.category == 2)) = lv')
    (kk : ∀ ls' : Array Slot, lv_has ls' nL lv' → W p l e R s m args below meth c H locs cells slots Q (F0 m (pc + 3) ls' rest)) : W p l e R s m args below meth c H locs cells slots Q (F0 m pc ls rest) := lv_iinc E.1.1 E.1.2.1 hdg h hk hv hn hl kk
theorem r_iadd (E : zE Z p s m args meth c own cc nL ret A) {x y : Int32} (hdg : decode cc pc = .ok (.iadd, 1)) (k : W p l e R s m args below meth c H locs cells slots Q (F0 m (pc + 1) ls (.int (x + y) :: rest))) : W p l e R s m args below meth c H locs cells slots Q (F0 m pc ls (.int y :: .int x :: rest)) := lv_iadd E.1.1 E.1.2.1 hdg k
theorem r_isub (E : zE Z p s m args meth c own cc nL ret A) {x y : Int32} (hdg : decode cc pc = .ok (.isub, 1)) (k : W p l e R s m args below meth c H locs cells slots Q (F0 m (pc + 1) ls (.int (x - y) :: rest))) : W p l e R s m args below meth c H locs cells slots Q (F0 m pc ls (.int y :: .int x :: rest)) := lv_isub E.1.1 E.1.2.1 hdg k
theorem r_imul (E : zE Z p s m args meth c own cc nL ret A) {x y : Int32} (hdg : decode cc pc = .ok (.imul, 1)) (k : W p l e R s m args below meth c H locs cells slots Q (F0 m (pc + 1) ls (.int (x * y) :: rest))) : W p l e R s m args below meth c H locs cells slots Q (F0 m pc ls (.int y :: .int x :: rest)) := lv_imul E.1.1 E.1.2.1 hdg k
theorem r_iand (E : zE Z p s m args meth c own cc nL ret A) {x y : Int32} (hdg : decode cc pc = .ok (.iand, 1)) (k : W p l e R s m args below meth c H locs cells slots Q (F0 m (pc + 1) ls (.int (x &&& y) :: rest))) : W p l e R s m args below meth c H locs cells slots Q (F0 m pc ls (.int y :: .int x :: rest)) := lv_iand E.1.1 E.1.2.1 hdg k
theorem r_ior (E : zE Z p s m args meth c own cc nL ret A) {x y : Int32} (hdg : decode cc pc = .ok (.ior, 1)) (k : W p l e R s m args below meth c H locs cells slots Q (F0 m (pc + 1) ls (.int (x ||| y) :: rest))) : W p l e R s m args below meth c H locs cells slots Q (F0 m pc ls (.int y :: .int x :: rest)) := lv_ior E.1.1 E.1.2.1 hdg k
theorem r_ixor (E : zE Z p s m args meth c own cc nL ret A) {x y : Int32} (hdg : decode cc pc = .ok (.ixor, 1)) (k : W p l e R s m args below meth c H locs cells slots Q (F0 m (pc + 1) ls (.int (x ^^^ y) :: rest))) : W p l e R s m args below meth c H locs cells slots Q (F0 m pc ls (.int y :: .int x :: rest)) := lv_ixor E.1.1 E.1.2.1 hdg k
theorem r_ishl (E : zE Z p s m args meth c own cc nL ret A) {x y : Int32} (hdg : decode cc pc = .ok (.ishl, 1)) (k : W p l e R s m args below meth c H locs cells slots Q (F0 m (pc + 1) ls (.int (x <<< (y &&& 31)) :: rest))) : W p l e R s m args below meth c H locs cells slots Q (F0 m pc ls (.int y :: .int x :: rest)) := lv_ishl E.1.1 E.1.2.1 hdg k
theorem r_ishr (E : zE Z p s m args meth c own cc nL ret A) {x y : Int32} (hdg : decode cc pc = .ok (.ishr, 1)) (k : W p l e R s m args below meth c H locs cells slots Q (F0 m (pc + 1) ls (.int (x >>> (y &&& 31)) :: rest))) : W p l e R s m args below meth c H locs cells slots Q (F0 m pc ls (.int y :: .int x :: rest)) := lv_ishr E.1.1 E.1.2.1 hdg k
/-- the shift right without sign -/
abbrev zushr (x y : Int32) : Int32 := (x.toUInt32 >>> (y.toUInt32 &&& Int32.toUInt32 31)).toInt32
theorem r_iushr (E : zE Z p s m args meth c own cc nL ret A) {x y : Int32} (hdg : decode cc pc = .ok (.iushr, 1)) (k : W p l e R s m args below meth c H locs cells slots Q (F0 m (pc + 1) ls (.int (zushr x y) :: rest))) : W p l e R s m args below meth c H locs cells slots Q (F0 m pc ls (.int y :: .int x :: rest)) := lv_iushr E.1.1 E.1.2.1 hdg rfl k
theorem r_idiv (E : zE Z p s m args meth c own cc nL ret A) {x y : Int32} (hdg : decode cc pc = .ok (.idiv, 1)) (hne : ¬ y = 0) (k : W p l e R s m args below meth c H locs cells slots Q (F0 m (pc + 1) ls (.int (x / y) :: rest))) : W p l e R s m args below meth c H locs cells slots Q (F0 m pc ls (.int y :: .int x :: rest)) := lv_idiv E.1.1 E.1.2.1 hdg hne k
theorem r_irem (E : zE Z p s m args meth c own cc nL ret A) {x y : Int32} (hdg : decode cc pc = .ok (.irem, 1)) (hne : ¬ y = 0) (k : W p l e R s m args below meth c H locs cells slots Q (F0 m (pc + 1) ls (.int (x - x / y * y) :: rest))) : W p l e R s m args below meth c H locs cells slots Q (F0 m pc ls (.int y :: .int x :: rest)) := lv_irem E.1.1 E.1.2.1 hdg hne k
theorem r_ladd (E : zE Z p s m args meth c own cc nL ret A) {x y : Int64} (hdg : decode cc pc = .ok (.ladd, 1)) (k : W p l e R s m args below meth c H locs cells slots Q (F0 m (pc + 1) ls (.long (x + y) :: rest))) : W p l e R s m args below meth c H locs cells slots Q (F0 m pc ls (.long y :: .long x :: rest)) := lv_ladd E.1.1 E.1.2.1 hdg k
theorem r_lsub (E : zE Z p s m args meth c own cc nL ret A) {x y : Int64} (hdg : decode cc pc = .ok (.lsub, 1)) (k : W p l e R s m args below meth c H locs cells slots Q (F0 m (pc + 1) ls (.long (x - y) :: rest))) : W p l e R s m args below meth c H locs cells slots Q (F0 m pc ls (.long y :: .long x :: rest)) := lv_lsub E.1.1 E.1.2.1 hdg k
theorem r_lmul (E : zE Z p s m args meth c own cc nL ret A) {x y : Int64} (hdg : decode cc pc = .ok (.lmul, 1)) (k : W p l e R s m args below meth c H locs cells slots Q (F0 m (pc + 1) ls (.long (x * y) :: rest))) : W p l e R s m args below meth c H locs cells slots Q (F0 m pc ls (.long y :: .long x :: rest)) := lv_lmul E.1.1 E.1.2.1 hdg k
theorem r_land (E : zE Z p s m args meth c own cc nL ret A) {x y : Int64} (hdg : decode cc pc = .ok (.land, 1)) (k : W p l e R s m args below meth c H locs cells slots Q (F0 m (pc + 1) ls (.long (x &&& y) :: rest))) : W p l e R s m args below meth c H locs cells slots Q (F0 m pc ls (.long y :: .long x :: rest)) := lv_land E.1.1 E.1.2.1 hdg k
theorem r_lor (E : zE Z p s m args meth c own cc nL ret A) {x y : Int64} (hdg : decode cc pc = .ok (.lor, 1)) (k : W p l e R s m args below meth c H locs cells slots Q (F0 m (pc + 1) ls (.long (x ||| y) :: rest))) : W p l e R s m args below meth c H locs cells slots Q (F0 m pc ls (.long y :: .long x :: rest)) := lv_lor E.1.1 E.1.2.1 hdg k
theorem r_lxor (E : zE Z p s m args meth c own cc nL ret A) {x y : Int64} (hdg : decode cc pc = .ok (.lxor, 1)) (k : W p l e R s m args below meth c H locs cells slots Q (F0 m (pc + 1) ls (.long (x ^^^ y) :: rest))) : W p l e R s m args below meth c H locs cells slots Q (F0 m pc ls (.long y :: .long x :: rest)) := lv_lxor E.1.1 E.1.2.1 hdg k
theorem r_lshl (E : zE Z p s m args meth c own cc nL ret A) {x : Int64} {y : Int32} (hdg : decode cc pc = .ok (.lshl, 1)) (k : W p l e R s m args below meth c H locs cells slots Q (F0 m (pc + 1) ls (.long (x <<< (y.toInt64 &&& 63)) :: rest))) : W p l e R s m args below meth c H locs cells slots Q (F0 m pc ls (.int y :: .long x :: rest)) := lv_lshl E.1.1 E.1.2.1 hdg rfl k
theorem r_lshr (E : zE Z p s m args meth c own cc nL ret A) {x : Int64} {y : Int32} (hdg : decode cc pc = .ok (.lshr, 1)) (k : W p l e R s m args below meth c H locs cells slots Q (F0 m (pc + 1) ls (.long (x >>> (y.toInt64 &&& 63)) :: rest))) : W p l e R s m args below meth c H locs cells slots Q (F0 m pc ls (.int y :: .long x :: rest)) := lv_lshr E.1.1 E.1.2.1 hdg rfl k
/-- the long shift right without sign -/
abbrev zushrL (x : Int64) (y : Int32) : Int64 := (x.toUInt64 >>> (y.toInt64.toUInt64 &&& Int64.toUInt64 63)).toInt64
theorem r_lushr (E : zE Z p s m args meth c own cc nL ret A) {x : Int64} {y : Int32} (hdg : decode cc pc = .ok (.lushr, 1)) (k : W p l e R s m args below meth c H locs cells slots Q (F0 m (pc + 1) ls (.long (zushrL x y) :: rest))) : W p l e R s m args below meth c H locs cells slots Q (F0 m pc ls (.int y :: .long x :: rest)) := lv_lushr E.1.1 E.1.2.1 hdg rfl k
theorem r_i2l (E : zE Z p s m args meth c own cc nL ret A) {x : Int32} (hdg : decode cc pc = .ok (.i2l, 1)) (k : W p l e R s m args below meth c H locs cells slots Q (F0 m (pc + 1) ls (.long x.toInt64 :: rest))) : W p l e R s m args below meth c H locs cells slots Q (F0 m pc ls (.int x :: rest)) := lv_i2l E.1.1 E.1.2.1 hdg rfl k
theorem r_l2i (E : zE Z p s m args meth c own cc nL ret A) {x : Int64} (hdg : decode cc pc = .ok (.l2i, 1)) (k : W p l e R s m args below meth c H locs cells slots Q (F0 m (pc + 1) ls (.int x.toInt32 :: rest))) : W p l e R s m args below meth c H locs cells slots Q (F0 m pc ls (.long x :: rest)) := lv_l2i E.1.1 E.1.2.1 hdg rfl k
theorem r_i2c (E : zE Z p s m args meth c own cc nL ret A) {x : Int32} (hdg : decode cc pc = .ok (.i2c, 1)) (k : W p l e R s m args below meth c H locs cells slots Q (F0 m (pc + 1) ls (.int (x.toUInt32 % 65536).toInt32 :: rest))) : W p l e R s m args below meth c H locs cells slots Q (F0 m pc ls (.int x :: rest)) := lv_i2c E.1.1 E.1.2.1 hdg rfl k
theorem r_lcmp (E : zE Z p s m args meth c own cc nL ret A) {x y : Int64} (hdg : decode cc pc = .ok (.lcmp, 1)) (k : W p l e R s m args below meth c H locs cells slots Q (F0 m (pc + 1) ls (.int (lg_cmp x y) :: rest))) : W p l e R s m args below meth c H locs cells slots Q (F0 m pc ls (.long y :: .long x :: rest)) := W.lcmp E.1.1 E.1.2.1 hdg k
theorem r_dup (E : zE Z p s m args meth c own cc nL ret A) {va : Value} (hdg : decode cc pc = .ok (.dup, 1)) (hva : va.category = 1) (k : W p l e R s m args below meth c H locs cells slots Q (F0 m (pc + 1) ls (va :: va :: rest))) : W p l e R s m args below meth c H locs cells slots Q (F0 m pc ls (va :: rest)) := lv_dup E.1.1 E.1.2.1 hdg hva k
theorem r_pop (E : zE Z p s m args meth c own cc nL ret A) {va : Value} (hdg : decode cc pc = .ok (.pop, 1)) (hva : va.category = 1) (k : W p l e R s m args below meth c H locs cells slots Q (F0 m (pc + 1) ls rest)) : W p l e R s m args below meth c H locs cells slots Q (F0 m pc ls (va :: rest)) := lv_pop E.1.1 E.1.2.1 hdg hva k
theorem r_dup2 (E : zE Z p s m args meth c own cc nL ret A) {va vb : Value} (hdg : decode cc pc = .ok (.dup2, 1)) (hva : va.category = 1) (hvb : vb.category = 1) (k : W p l e R s m args below meth c H locs cells slots Q (F0 m (pc + 1) ls (va :: vb :: va :: vb :: rest))) : W p l e R s m args below meth c H locs cells slots Q (F0 m pc ls (va :: vb :: rest)) := lv_dup2_11 E.1.1 E.1.2.1 hdg hva hvb k
theorem r_goto (E : zE Z p s m args meth c own cc nL ret A) {off : Int} (tgt : Nat) (hdg : decode cc pc = .ok (.goto off, 3)) (ht : (pc : Int) + off = (tgt : Int)) (k : W p l e R s m args below meth c H locs cells slots Q (F0 m tgt ls rest)) : W p l e R s m args below meth c H locs cells slots Q (F0 m pc ls rest) := lv_goto E.1.1 E.1.2.1 hdg ht k
theorem r_if_eq (E : zE Z p s m args meth c own cc nL ret A) {x : Int32} {off : Int} (tgt : Nat) (hdg : decode cc pc = .ok (.ifCond .eq off, 3)) (ht : (pc : Int) + off = (tgt : Int)) (kt : x = 0 → W p l e R s m args below meth c H locs cells slots Q (F0 m tgt ls rest)) (kf : ¬ x = 0 → W p l e R s m args below meth c H locs cells slots Q (F0 m (pc + 3) ls rest)) : W p l e R s m args below meth c H locs cells slots Q (F0 m pc ls (.int x :: rest)) := lv_if_eq E.1.1 E.1.2.1 hdg ht kt kf
theorem r_icmp_eq (E : zE Z p s m args meth c own cc nL ret A) {x y : Int32} {off : Int} (tgt : Nat) (hdg : decode cc pc = .ok (.if_icmp .eq off, 3)) (ht : (pc : Int) + off = (tgt : Int)) (kt : x = y → W p l e R s m args below meth c H locs cells slots Q (F0 m tgt ls rest)) (kf : ¬ x = y → W p l e R s m args below meth c H locs cells slots Q (F0 m (pc + 3) ls rest)) : W p l e R s m args below meth c H locs cells slots Q (F0 m pc ls (.int y :: .int x :: rest)) := lv_icmp_eq E.1.1 E.1.2.1 hdg ht kt kf
theorem r_if_ne (E : zE Z p s m args meth c own cc nL ret A) {x : Int32} {off : Int} (tgt : Nat) (hdg : decode cc pc = .ok (.ifCond .ne off, 3)) (ht : (pc : Int) + off = (tgt : Int)) (kt : ¬ x = 0 → W p l e R s m args below meth c H locs cells slots Q (F0 m tgt ls rest)) (kf : x = 0 → W p l e R s m args below meth c H locs cells slots Q (F0 m (pc + 3) ls rest)) : W p l e R s m args below meth c H locs cells slots Q (F0 m pc ls (.int x :: rest)) := lv_if_ne E.1.1 E.1.2.1 hdg ht kt kf
theorem r_icmp_ne (E : zE Z p s m args meth c own cc nL ret A) {x y : Int32} {off : Int} (tgt : Nat) (hdg : decode cc pc = .ok (.if_icmp .ne off, 3)) (ht : (pc : Int) + off = (tgt : Int)) (kt : ¬ x = y → W p l e R s m args below meth c H locs cells slots Q (F0 m tgt ls rest)) (kf : x = y → W p l e R s m args below meth c H locs cells slots Q (F0 m (pc + 3) ls rest)) : W p l e R s m args below meth c H locs cells slots Q (F0 m pc ls (.int y :: .int x :: rest)) := lv_icmp_ne E.1.1 E.1.2.1 hdg ht kt kf
theorem r_if_lt (E : zE Z p s m args meth c own cc nL ret A) {x : Int32} {off : Int} (tgt : Nat) (hdg : decode cc pc = .ok (.ifCond .lt off, 3)) (ht : (pc : Int) + off = (tgt : Int)) (kt : x < 0 → W p l e R s m args below meth c H locs cells slots Q (F0 m tgt ls rest)) (kf : ¬ x < 0 → W p l e R s m args below meth c H locs cells slots Q (F0 m (pc + 3) ls rest)) : W p l e R s m args below meth c H locs cells slots Q (F0 m pc ls (.int x :: rest)) := lv_if_lt E.1.1 E.1.2.1 hdg ht kt kf
theorem r_icmp_lt (E : zE Z p s m args meth c own cc nL ret A) {x y : Int32} {off : Int} (tgt : Nat) (hdg : decode cc pc = .ok (.if_icmp .lt off, 3)) (ht : (pc : Int) + off = (tgt : Int)) (kt : x < y → W p l e R s m args below meth c H locs cells slots Q (F0 m tgt ls rest)) (kf : ¬ x < y → W p l e R s m args below meth c H locs cells slots Q (F0 m (pc + 3) ls rest)) : W p l e R s m args below meth c H locs cells slots Q (F0 m pc ls (.int y :: .int x :: rest)) := lv_icmp_lt E.1.1 E.1.2.1 hdg ht kt kf
theorem r_if_ge (E : zE Z p s m args meth c own cc nL ret A) {x : Int32} {off : Int} (tgt : Nat) (hdg : decode cc pc = .ok (.ifCond .ge off, 3)) (ht : (pc : Int) + off = (tgt : Int)) (kt : 0 ≤ x → W p l e R s m args below meth c H locs cells slots Q (F0 m tgt ls rest)) (kf : ¬ 0 ≤ x → W p l e R s m args below meth c H locs cells slots Q (F0 m (pc + 3) ls rest)) : W p l e R s m args below meth c H locs cells slots Q (F0 m pc ls (.int x :: rest)) := lv_if_ge E.1.1 E.1.2.1 hdg ht kt kf
theorem r_icmp_ge (E : zE Z p s m args meth c own cc nL ret A) {x y : Int32} {off : Int} (tgt : Nat) (hdg : decode cc pc = .ok (.if_icmp .ge off, 3)) (ht : (pc : Int) + off = (tgt : Int)) (kt : y ≤ x → W p l e R s m args below meth c H locs cells slots Q (F0 m tgt ls rest)) (kf : ¬ y ≤ x → W p l e R s m args below meth c H locs cells slots Q (F0 m (pc + 3) ls rest)) : W p l e R s m args below meth c H locs cells slots Q (F0 m pc ls (.int y :: .int x :: rest)) := lv_icmp_ge E.1.1 E.1.2.1 hdg ht kt kf
theorem r_if_gt (E : zE Z p s m args meth c own cc nL ret A) {x : Int32} {off : Int} (tgt : Nat) (hdg : decode cc pc = .ok (.ifCond .gt off, 3)) (ht : (pc : Int) + off = (tgt : Int)) (kt : 0 < x → W p l e R s m args below meth c H locs cells slots Q (F0 m tgt ls rest)) (kf : ¬ 0 < x → W p l e R s m args below meth c H locs cells slots Q (F0 m (pc + 3) ls rest)) : W p l e R s m args below meth c H locs cells slots Q (F0 m pc ls (.int x :: rest)) := lv_if_gt E.1.1 E.1.2.1 hdg ht kt kf
theorem r_icmp_gt (E : zE Z p s m args meth c own cc nL ret A) {x y : Int32} {off : Int} (tgt : Nat) (hdg : decode cc pc = .ok (.if_icmp .gt off, 3)) (ht : (pc : Int) + off = (tgt : Int)) (kt : y < x → W p l e R s m args below meth c H locs cells slots Q (F0 m tgt ls rest)) (kf : ¬ y < x → W p l e R s m args below meth c H locs cells slots Q (F0 m (pc + 3) ls rest)) : W p l e R s m args below meth c H locs cells slots Q (F0 m pc ls (.int y :: .int x :: rest)) := lv_icmp_gt E.1.1 E.1.2.1 hdg ht kt kf
theorem r_if_le (E : zE Z p s m args meth c own cc nL ret A) {x : Int32} {off : Int} (tgt : Nat) (hdg : decode cc pc = .ok (.ifCond .le off, 3)) (ht : (pc : Int) + off = (tgt : Int)) (kt : x ≤ 0 → W p l e R s m args below meth c H locs cells slots Q (F0 m tgt ls rest)) (kf : ¬ x ≤ 0 → W p l e R s m args below meth c H locs cells slots Q (F0 m (pc + 3) ls rest)) : W p l e R s m args below meth c H locs cells slots Q (F0 m pc ls (.int x :: rest)) := lv_if_le E.1.1 E.1.2.1 hdg ht kt kf
theorem r_icmp_le (E : zE Z p s m args meth c own cc nL ret A) {x y : Int32} {off : Int} (tgt : Nat) (hdg : decode cc pc = .ok (.if_icmp .le off, 3)) (ht : (pc : Int) + off = (tgt : Int)) (kt : x ≤ y → W p l e R s m args below meth c H locs cells slots Q (F0 m tgt ls rest)) (kf : ¬ x ≤ y → W p l e R s m args below meth c H locs cells slots Q (F0 m (pc + 3) ls rest)) : W p l e R s m args below meth c H locs cells slots Q (F0 m pc ls (.int y :: .int x :: rest)) := lv_icmp_le E.1.1 E.1.2.1 hdg ht kt kf
theorem r_get (E : zE Z p s m args meth c own cc nL ret A) {C : String} {T : u_T} {N ci index a : Nat} {fs : List Value} {v : Value} {H0 : Heap} (hin : ∀ w ∈ u_ws C T N, w ∈ zWs) (hw : zW Z A ws H0 H locs) (q0 : Nat) (he : ws[q0]? = some (a, .inr (ci, fs))) (hc : vwCl[ci]? = some (C, T, N)) (k : Nat) (hk : k < N) (hm : Cond.fieldLink own index (T k).1 (T k).2.1 (T k).2.2.1 ∈ zWs) (hv : fs[k]? = some v) (hdg : decode cc pc = .ok (.getfield index, 3)) (kk : W p l e R s m args below meth c H locs cells slots Q (F0 m (pc + 3) ls (v :: rest))) : W p l e R s m args below meth c H locs cells slots Q (F0 m pc ls (.ref a :: rest)) := va_get E.1.1 E.1.2.1 E.1.2.2.2.2 hin E.1.2.2.2.1 E.2.2.2.1 hw.1 q0 he hc k hk (E.1.2.2.2.2 _ hm) (fun _ h => h) hv hdg kk
theorem r_put (E : zE Z p s m args meth c own cc nL ret A) {C : String} {T : u_T} {N ci index a : Nat} {fs : List Value} {v : Value} {ty0 : Nat → FieldType} (ws' : va_W) (hin : ∀ w ∈ u_ws C T N, w ∈ zWs) (hty : ∀ k, k < N → parseFieldDescriptor (T k).2.2.1 = some (ty0 k)) (hnm : ∀ a, a < N → ∀ b, b < N → a ≠ b → (T a).2.1 ≠ (T b).2.1) (hw : zW Z A ws s.heap H locs) (q0 : Nat) (he : ws[q0]? = some (a, .inr (ci, fs))) (hc : vwCl[ci]? = some (C, T, N)) (k : Nat) (hk : k < N) (hm : Cond.fieldLink own index (T k).1 (T k).2.1 (T k).2.2.1 ∈ zWs) (hfin : (T k).2.2.2 = false) (hn : narrow (ty0 k) v = v) (hfit : fits (ty0 k) v = true) (hl : k < fs.length) (hs : ws.set q0 (a, .inr (ci, fs.set k v)) = ws') (hdg : decode cc pc = .ok (.putfield index, 3)) (kk : ∀ (H1 : Heap) (locs1 : List Loc), zW Z A ws' s.heap H1 locs1 → W p l e R s m args below meth c H1 locs1 cells slots Q (F0 m (pc + 3) ls rest)) : W p l e R s m args below meth c H locs cells slots Q (F0 m pc ls (v :: .ref a :: rest)) := va_put E.1.1 E.1.2.1 E.1.2.2.2.2 hin ty0 hty hnm E.1.2.2.2.1 E.2.2.2.1 hw.1 hw.2.1 hw.2.2 q0 he hc k hk (E.1.2.2.2.2 _ hm) (fun _ h => h) hfin (hty k hk) hn hfit hl hdg (fun H1 locs1 h1 h2 h3 => kk H1 locs1 (hs ▸ ⟨h1, h2, h3⟩))
theorem r_iald (E : zE Z p s m args meth c own cc nL ret A) {n a : Nat} {f : Nat → Int32} {i : Int32} {H0 : Heap} (hw : zW Z A ws H0 H locs) (q0 : Nat) (ha : ws[q0]? = some (a, .inl (Z.2.1, n, .inl f))) (hin : vp_in i n) (hdg : decode cc pc = .ok (.iaload, 1)) (kk : W p l e R s m args below meth c H locs cells slots Q (F0 m (pc + 1) ls (.int (f i.toNatClampNeg) :: rest))) : W p l e R s m args below meth c H locs cells slots Q (F0 m pc ls (.int i :: .ref a :: rest)) := va_iald E.1.1 E.1.2.1 E.2.2.2.1 hw.1 q0 0 ha rfl hin hdg kk
theorem r_lald (E : zE Z p s m args meth c own cc nL ret A) {n a : Nat} {f : Nat → Int64} {i : Int32} {H0 : Heap} (hw : zW Z A ws H0 H locs) (q0 : Nat) (ha : ws[q0]? = some (a, .inl (Z.2.2.1, n, .inr (.inl f)))) (hin : vp_in i n) (hdg : decode cc pc = .ok (.laload, 1)) (kk : W p l e R s m args below meth c H locs cells slots Q (F0 m (pc + 1) ls (.long (f i.toNatClampNeg) :: rest))) : W p l e R s m args below meth c H locs cells slots Q (F0 m pc ls (.int i :: .ref a :: rest)) := va_lald E.1.1 E.1.2.1 E.2.2.2.1 hw.1 q0 1 ha rfl hin hdg kk
theorem r_cald (E : zE Z p s m args meth c own cc nL ret A) {n a : Nat} {f : Nat → Int32} {i : Int32} {H0 : Heap} (hw : zW Z A ws H0 H locs) (q0 : Nat) (ha : ws[q0]? = some (a, .inl (Z.2.2.2.1, n, .inl f))) (hin : vp_in i n) (hdg : decode cc pc = .ok (.caload, 1)) (kk : W p l e R s m args below meth c H locs cells slots Q (F0 m (pc + 1) ls (.int (f i.toNatClampNeg) :: rest))) : W p l e R s m args below meth c H locs cells slots Q (F0 m pc ls (.int i :: .ref a :: rest)) := va_cald E.1.1 E.1.2.1 E.2.2.2.1 hw.1 q0 2 ha rfl hin hdg kk
theorem r_iast (E : zE Z p s m args meth c own cc nL ret A) {n a : Nat} {f : Nat → Int32} {i : Int32} {x : Int32} (ws' : va_W) (hw : zW Z A ws s.heap H locs) (q0 : Nat) (ha : ws[q0]? = some (a, .inl (Z.2.1, n, .inl f))) (hin : vp_in i n) (hs : ws.set q0 (a, .inl (Z.2.1, n, .inl (upd f i.toNatClampNeg x))) = ws') (hdg : decode cc pc = .ok (.iastore, 1)) (kk : ∀ (H1 : Heap) (locs1 : List Loc), zW Z A ws' s.heap H1 locs1 → W p l e R s m args below meth c H1 locs1 cells slots Q (F0 m (pc + 1) ls rest)) : W p l e R s m args below meth c H locs cells slots Q (F0 m pc ls (.int x :: .int i :: .ref a :: rest)) := va_iast E.1.1 E.1.2.1 E.2.2.2.1 hw.1 hw.2.1 hw.2.2 q0 0 ha rfl hin hdg (fun H1 locs1 h1 h2 h3 => kk H1 locs1 (hs ▸ ⟨h1, h2, h3⟩))
theorem r_last (E : zE Z p s m args meth c own cc nL ret A) {n a : Nat} {f : Nat → Int64} {i : Int32} {x : Int64} (ws' : va_W) (hw : zW Z A ws s.heap H locs) (q0 : Nat) (ha : ws[q0]? = some (a, .inl (Z.2.2.1, n, .inr (.inl f)))) (hin : vp_in i n) (hs : ws.set q0 (a, .inl (Z.2.2.1, n, .inr (.inl (vp_updL f i.toNatClampNeg x)))) = ws') (hdg : decode cc pc = .ok (.lastore, 1)) (kk : ∀ (H1 : Heap) (locs1 : List Loc), zW Z A ws' s.heap H1 locs1 → W p l e R s m args below meth c H1 locs1 cells slots Q (F0 m (pc + 1) ls rest)) : W p l e R s m args below meth c H locs cells slots Q (F0 m pc ls (.long x :: .int i :: .ref a :: rest)) := va_last E.1.1 E.1.2.1 E.2.2.2.1 hw.1 hw.2.1 hw.2.2 q0 1 ha rfl hin hdg (fun H1 locs1 h1 h2 h3 => kk H1 locs1 (hs ▸ ⟨h1, h2, h3⟩))
theorem r_cast (E : zE Z p s m args meth c own cc nL ret A) {n a : Nat} {f : Nat → Int32} {i : Int32} {x : Int32} (ws' : va_W) (hw : zW Z A ws s.heap H locs) (q0 : Nat) (ha : ws[q0]? = some (a, .inl (Z.2.2.2.1, n, .inl f))) (hin : vp_in i n) (hs : ws.set q0 (a, .inl (Z.2.2.2.1, n, .inl (upd f i.toNatClampNeg (vp_nar .char x)))) = ws') (hdg : decode cc pc = .ok (.castore, 1)) (kk : ∀ (H1 : Heap) (locs1 : List Loc), zW Z A ws' s.heap H1 locs1 → W p l e R s m args below meth c H1 locs1 cells slots Q (F0 m (pc + 1) ls rest)) : W p l e R s m args below meth c H locs cells slots Q (F0 m pc ls (.int x :: .int i :: .ref a :: rest)) := va_cast E.1.1 E.1.2.1 E.2.2.2.1 hw.1 hw.2.1 hw.2.2 q0 2 ha rfl hin hdg (fun H1 locs1 h1 h2 h3 => kk H1 locs1 (hs ▸ ⟨h1, h2, h3⟩))
theorem r_iret (E : zE Z p s m args meth c own cc nL (some .int) A) {r0 : Int32} (hw : zW Z A ws s.heap H locs) (hdg : decode cc pc = .ok (.ireturn, 1)) : W p l e R s m args below meth c H locs cells slots (MQ below (zQi Z r0 ws A) args s cells slots A) (F0 m pc ls [.int r0]) :=
  W.iret E.1.1 E.1.2.1 E.2.1 (fun t ht _ => ⟨⟨r0, (), rfl, rfl, by rw [ht]; exact hw.1, hw.2.1⟩, hw.2.2.F ht⟩) hw.2.2.2.2 hdg E.2.2.1
/-- 0 or 1 -/
def bz (v : Int32) : Prop := v = 0 ∨ v = 1
theorem bz.nar {v : Int32} (h : bz v) : narrow .boolean (.int v) = .int v := by rcases h with rfl | rfl <;> rfl
theorem bz.fit {v : Int32} (h : bz v) : fits .boolean (.int v) = true := by rcases h with rfl | rfl <;> rfl
theorem bz_0 : bz 0 := Or.inl rfl
theorem bz_1 : bz 1 := Or.inr rfl
theorem r_zret (E : zE Z p s m args meth c own cc nL (some .boolean) A) {r0 : Int32} (hz : bz r0) (hw : zW Z A ws s.heap H locs) (hdg : decode cc pc = .ok (.ireturn, 1)) : W p l e R s m args below meth c H locs cells slots (MQ below (zQi Z r0 ws A) args s cells slots A) (F0 m pc ls [.int r0]) :=
  W.zret E.1.1 E.1.2.1 E.2.1 hz.nar (fun t ht _ => ⟨⟨r0, (), rfl, rfl, by rw [ht]; exact hw.1, hw.2.1⟩, hw.2.2.F ht⟩) hw.2.2.2.2 hdg E.2.2.1
theorem r_vret (E : zE Z p s m args meth c own cc nL none A) (hw : zW Z A ws s.heap H locs) (hdg : decode cc pc = .ok (.return_, 1)) : W p l e R s m args below meth c H locs cells slots (MQ below (zQv Z ws A) args s cells slots A) (F0 m pc ls []) :=
  W.vret E.1.1 E.1.2.1 E.2.1 (fun t ht _ => ⟨⟨(), rfl, trivial, by rw [ht]; exact hw.1, hw.2.1⟩, hw.2.2.F ht⟩) hw.2.2.2.2 hdg E.2.2.1
/-- the world behind a call: the callee's cells (at the places isC) as they came back, the others as they were; in the order of ws' -/
theorem zW.join {wc wr w1 ws' : va_W} {H0 H1 : Heap} {locs1 : List Loc} (hw : zW Z A ws H0 H locs) (isC isR : List Nat) (hC : isC.map (fun i => ws[i]?) = wc.map some) (hQ : isR.map (fun i => ws[i]?) = wr.map some) (hn : va_nd isR = true) (hdis : ∀ i ∈ isR, i ∉ isC)
    (hk : ∀ q : Nat, q < H.size → ¬ va_A wc H.size q → H1[q]? = H[q]?) (hF : ∀ q, va_A wc H.size q → A q) (hP1 : va_P Z.1 vwCl w1 H1) (hD1 : va_D (va_A wc H.size) w1) (hS1 : va_S A H0 H1 locs1) (perm : List Nat) (hpn : va_nd perm = true) (hp : perm.map (fun i => (wr ++ w1)[i]?) = ws'.map some) : zW Z A ws' H0 H1 locs1 := by
  obtain ⟨h1, h2⟩ := va_join hw.1 hw.2.1 isC isR hC hQ hn hdis hk hF hP1 hD1
  refine ⟨h1.sub perm ?_, h2.sub perm hpn hp, hS1⟩
  have : perm.filterMap (fun i => (wr ++ w1)[i]?) = (perm.map (fun i => (wr ++ w1)[i]?)).filterMap id := by rw [List.filterMap_map]; rfl
  rw [this, hp, List.filterMap_map]
  exact List.filterMap_some
theorem va_K.id' {D : va_G} {cl : List vw_C} {t : List (ClassId × FieldType)} {s U : State} (h : va_K D cl t s) (hW : s.WarmedH U.vm) : va_K D cl t U := va_K.moved hW.alike h
theorem zW.pre {wc : va_W} {av : List Value} (E : zE Z p s m args meth c own cc nL ret A) (hw : zW Z A ws s.heap H locs) (isC : List Nat) (hcn : va_nd isC = true) (hC : isC.map (fun i => ws[i]?) = wc.map some) : ∀ U : State, U.heap = H → s.WarmedH U.vm → zP Z wc H.size av av.toArray U := by
  intro U hU hW
  have hP1 : va_P Z.1 vwCl wc H := hw.1.sub isC (by
    have : isC.filterMap (fun i => ws[i]?) = (isC.map (fun i => ws[i]?)).filterMap id := by rw [List.filterMap_map]; rfl
    rw [this, hC, List.filterMap_map]
    exact List.filterMap_some)
  refine ⟨rfl, by rw [hU], by rw [hU]; exact hP1, va_K.moved hW.alike E.2.2.2.1, (hw.2.1.sub isC hcn hC).weaken (fun _ _ _ _ => trivial), E.2.2.2.2.1.warm hW, by rw [hU]; exact ((E.2.2.2.2.2.2.kept hw.2.2.2.1).warm hW).narrow (va_free (wc := wc) hw.2.1 hw.2.2 E.2.2.2.2.2.1 isC hC)⟩
theorem zW.all {w1 : va_W} {H0 H1 : Heap} {locs1 : List Loc} (hF : ∀ q, va_A ws H.size q → A q) (hP1 : va_P Z.1 vwCl w1 H1) (hD1 : va_D (va_A ws H.size) w1) (hS1 : va_S A H0 H1 locs1) : zW Z A w1 H0 H1 locs1 := ⟨hP1, hD1.weaken (fun _ q _ h => hF q.1 h), hS1⟩
theorem zW.none {H0 H1 : Heap} {locs1 : List Loc} (hw : zW Z A ws H0 H locs) (hk : ∀ q : Nat, q < H.size → ¬ va_A [] H.size q → H1[q]? = H[q]?) (hS1 : va_S A H0 H1 locs1) : zW Z A ws H0 H1 locs1 := by
  refine ⟨hw.1.kept (fun k q hq => hk q.1 (hw.1 k q hq).lt (fun h => ?_)), hw.2.1, hS1⟩
  rcases h with ⟨j, e, h⟩ | h
  · simp at h
  · exact absurd (hw.1 k q hq).lt (Nat.not_lt.mpr h)
theorem zF_nil (E : zE Z p s m args meth c own cc nL ret A) {H : Heap} (hw : zW Z A ws s.heap H locs) : ∀ q, va_A [] H.size q → A q := by
  intro q h
  rcases h with ⟨j, e, h⟩ | h
  · simp at h
  · exact E.2.2.2.2.2.1 q (Nat.le_trans hw.2.2.1 h)
theorem zF_all (E : zE Z p s m args meth c own cc nL ret A) {H : Heap} (hw : zW Z A ws s.heap H locs) : ∀ q, va_A ws H.size q → A q := by
  intro q h
  rcases h with ⟨j, e, h⟩ | h
  · exact hw.2.1.2 j _ h
  · exact E.2.2.2.2.2.1 q (Nat.le_trans hw.2.2.1 h)
theorem zP_nil (E : zE Z p s m args meth c own cc nL ret A) (hw : zW Z A ws s.heap H locs) {av : List Value} : ∀ U : State, U.heap = H → s.WarmedH U.vm → zP Z [] H.size av av.toArray U := by
  intro U hU hW
  refine ⟨rfl, by rw [hU], fun k q h => by simp at h, va_K.moved hW.alike E.2.2.2.1, ⟨fun i j x y h => by simp at h, fun k q h => by simp at h⟩, E.2.2.2.2.1.warm hW, by rw [hU]; exact ((E.2.2.2.2.2.2.kept hw.2.2.2.1).warm hW).narrow (zF_nil E hw)⟩
theorem zPre_all (E : zE Z p s m args meth c own cc nL ret A) {H : Heap} (hw : zW Z A ws s.heap H locs) {av : List Value} : ∀ U : State, U.heap = H → s.WarmedH U.vm → zP Z ws H.size av av.toArray U := by
  intro U hU hW
  exact ⟨rfl, by rw [hU], by rw [hU]; exact hw.1, va_K.moved hW.alike E.2.2.2.1, hw.2.1.weaken (fun _ _ _ _ => trivial), E.2.2.2.2.1.warm hW, by rw [hU]; exact ((E.2.2.2.2.2.2.kept hw.2.2.2.1).warm hW).narrow (zF_all E hw)⟩
theorem r_callVi (E : zE Z p s m args meth c own cc nL ret A) {y : MethodName} {bytes : ByteArray} {maxL n index : Nat} {ret' : Option FieldType} {rm : Room} {wc w1 : va_W} {As st0 : List Value} {r0 : Int32} {C : String} {b ci : Nat} {vq : vw_C} {fs : List Value} (ws' : va_W) (hw : zW Z A ws s.heap H locs) (hM : Met l y (Cond.code y bytes maxL ret' :: zWs) rm (zP Z wc H.size (.ref b :: As)) (zQi Z r0 w1 (va_A wc H.size)) 0 0 (va_A wc H.size)) (k1 : Cond.methodLink own index y ∈ zWs) (k2 : Cond.instanceMethod y ∈ zWs) (k3 : Cond.selects C y y ∈ zWs) (k4 : Cond.initialized C ∈ zWs) (k5 : Cond.code y bytes maxL ret' ∈ zWs) (hrc : rm.cells = 0) (hrs : rm.slots = 0) (hd : y.cls = C ∧ y.cls ≠ "java/lang/invoke/MethodHandle" ∧ y.cls ≠ "java/lang/invoke/VarHandle" ∧ (parseMethodDescriptor y.desc).map (fun d => d.parameters.length) = some n) (hR : rm.frames + 1 ≤ R.frames ∧ 8 + (maxL + 11) + rm.locals ≤ R.locals) (isC isR perm : List Nat) (hcn : va_nd isC = true) (hC : isC.map (fun i => ws[i]?) = wc.map some) (hQ : isR.map (fun i => ws[i]?) = (isR.filterMap (fun i => ws[i]?)).map some) (hrn : va_nd isR = true) (hdis : ∀ i ∈ isR, i ∉ isC) (hpn : va_nd perm = true) (hp' : perm.map (fun i => (isR.filterMap (fun i => ws[i]?) ++ w1)[i]?) = ws'.map some) (q0 : Nat) (hvc : vwCl[ci]? = some vq) (hvC : vq.1 = C) (hvb : ws[q0]? = some (b, .inr (ci, fs))) (hn : As.length = n) (hl : lv_has ls nL lv) (rest : List Value) (hst : st0 = As.reverse ++ .ref b :: rest) (hrm : (rest.map fun v => v.category).sum ≤ 8) (hdg : decode cc pc = .ok (.invokevirtual index, 3)) (hcs : cells ≤ R.cells ∧ slots ≤ R.slots) (kk : ∀ (H1 : Heap) (locs1 : List Loc), zW Z A ws' s.heap H1 locs1 → W p l e R s m args below meth c H1 locs1 cells slots Q (F0 m (pc + 3) ls (.int r0 :: rest))) : W p l e R s m args below meth c H locs cells slots Q (F0 m pc ls st0) := by
  have hF := va_free (wc := wc) hw.2.1 hw.2.2 E.2.2.2.2.2.1 isC hC
  subst hvC
  subst hst
  exact va_calli (va_runV E.1 hM (cwV n E.1.2.2.2.2 (zCV k1 k2 k3 k4 k5) rfl hrc hrs hd hR) ⟨zP.blind, va_recv E.2.2.2.1 hw.1 hvc hvb, hw.pre E isC hcn hC⟩ rfl hn hl.1 rfl (lv_room hrm) hdg hcs) hw.2.2 (fun q _ h => hF q h) hF (fun r u t H1 locs1 ht hvm hp hB hz hk hS => by subst hp; rw [ht] at hB; exact kk H1 locs1 (hw.join isC isR hC hQ hrn hdis hk hF hB.1 hB.2 hS perm hpn hp'))
theorem r_callVAi (E : zE Z p s m args meth c own cc nL ret A) {y : MethodName} {bytes : ByteArray} {maxL n index : Nat} {ret' : Option FieldType} {rm : Room} {w1 : va_W} {As st0 : List Value} {r0 : Int32} {C : String} {b ci : Nat} {vq : vw_C} {fs : List Value} (hw : zW Z A ws s.heap H locs) (hM : Met l y (Cond.code y bytes maxL ret' :: zWs) rm (zP Z ws H.size (.ref b :: As)) (zQi Z r0 w1 (va_A ws H.size)) 0 0 (va_A ws H.size)) (k1 : Cond.methodLink own index y ∈ zWs) (k2 : Cond.instanceMethod y ∈ zWs) (k3 : Cond.selects C y y ∈ zWs) (k4 : Cond.initialized C ∈ zWs) (k5 : Cond.code y bytes maxL ret' ∈ zWs) (hrc : rm.cells = 0) (hrs : rm.slots = 0) (hd : y.cls = C ∧ y.cls ≠ "java/lang/invoke/MethodHandle" ∧ y.cls ≠ "java/lang/invoke/VarHandle" ∧ (parseMethodDescriptor y.desc).map (fun d => d.parameters.length) = some n) (hR : rm.frames + 1 ≤ R.frames ∧ 8 + (maxL + 11) + rm.locals ≤ R.locals) (q0 : Nat) (hvc : vwCl[ci]? = some vq) (hvC : vq.1 = C) (hvb : ws[q0]? = some (b, .inr (ci, fs))) (hn : As.length = n) (hl : lv_has ls nL lv) (rest : List Value) (hst : st0 = As.reverse ++ .ref b :: rest) (hrm : (rest.map fun v => v.category).sum ≤ 8) (hdg : decode cc pc = .ok (.invokevirtual index, 3)) (hcs : cells ≤ R.cells ∧ slots ≤ R.slots) (kk : ∀ (H1 : Heap) (locs1 : List Loc), zW Z A w1 s.heap H1 locs1 → W p l e R s m args below meth c H1 locs1 cells slots Q (F0 m (pc + 3) ls (.int r0 :: rest))) : W p l e R s m args below meth c H locs cells slots Q (F0 m pc ls st0) := by
  have hF := zF_all E hw
  subst hvC
  subst hst
  exact va_calli (va_runV E.1 hM (cwV n E.1.2.2.2.2 (zCV k1 k2 k3 k4 k5) rfl hrc hrs hd hR) ⟨zP.blind, va_recv E.2.2.2.1 hw.1 hvc hvb, zPre_all E hw⟩ rfl hn hl.1 rfl (lv_room hrm) hdg hcs) hw.2.2 (fun q _ h => hF q h) hF (fun r u t H1 locs1 ht hvm hp hB hz hk hS => by subst hp; rw [ht] at hB; exact kk H1 locs1 (zW.all hF hB.1 hB.2 hS))
theorem r_callSi (E : zE Z p s m args meth c own cc nL ret A) {y : MethodName} {bytes : ByteArray} {maxL n index : Nat} {ret' : Option FieldType} {rm : Room} {wc w1 : va_W} {As st0 : List Value} {r0 : Int32} (ws' : va_W) (hw : zW Z A ws s.heap H locs) (hM : Met l y (Cond.code y bytes maxL ret' :: zWs) rm (zP Z wc H.size (As)) (zQi Z r0 w1 (va_A wc H.size)) 0 0 (va_A wc H.size)) (k1 : Cond.methodLink own index y ∈ zWs) (k2 : Cond.static y ∈ zWs) (k4 : Cond.initialized y.cls ∈ zWs) (k5 : Cond.code y bytes maxL ret' ∈ zWs) (hrc : rm.cells = 0) (hrs : rm.slots = 0) (hd : y.cls ≠ "java/lang/invoke/MethodHandle" ∧ y.cls ≠ "java/lang/invoke/VarHandle" ∧ (parseMethodDescriptor y.desc).map (fun d => d.parameters.length) = some n) (hR : rm.frames + 1 ≤ R.frames ∧ 8 + (maxL + 11) + rm.locals ≤ R.locals) (isC isR perm : List Nat) (hcn : va_nd isC = true) (hC : isC.map (fun i => ws[i]?) = wc.map some) (hQ : isR.map (fun i => ws[i]?) = (isR.filterMap (fun i => ws[i]?)).map some) (hrn : va_nd isR = true) (hdis : ∀ i ∈ isR, i ∉ isC) (hpn : va_nd perm = true) (hp' : perm.map (fun i => (isR.filterMap (fun i => ws[i]?) ++ w1)[i]?) = ws'.map some) (hn : As.length = n) (hl : lv_has ls nL lv) (rest : List Value) (hst : st0 = As.reverse ++ rest) (hrm : (rest.map fun v => v.category).sum ≤ 8) (hdg : decode cc pc = .ok (.invokestatic index, 3)) (hcs : cells ≤ R.cells ∧ slots ≤ R.slots) (kk : ∀ (H1 : Heap) (locs1 : List Loc), zW Z A ws' s.heap H1 locs1 → W p l e R s m args below meth c H1 locs1 cells slots Q (F0 m (pc + 3) ls (.int r0 :: rest))) : W p l e R s m args below meth c H locs cells slots Q (F0 m pc ls st0) := by
  have hF := va_free (wc := wc) hw.2.1 hw.2.2 E.2.2.2.2.2.1 isC hC
  skip
  subst hst
  exact va_calli (va_runS E.1 hM (va_cwS n E.1.2.2.2.2 (zCS k1 k2 k4 k5) rfl hrc hrs hd hR) ⟨zP.blind, hw.pre E isC hcn hC⟩ rfl hn hl.1 rfl (lv_room hrm) hdg hcs) hw.2.2 (fun q _ h => hF q h) hF (fun r u t H1 locs1 ht hvm hp hB hz hk hS => by subst hp; rw [ht] at hB; exact kk H1 locs1 (hw.join isC isR hC hQ hrn hdis hk hF hB.1 hB.2 hS perm hpn hp'))
theorem r_callSAi (E : zE Z p s m args meth c own cc nL ret A) {y : MethodName} {bytes : ByteArray} {maxL n index : Nat} {ret' : Option FieldType} {rm : Room} {w1 : va_W} {As st0 : List Value} {r0 : Int32} (hw : zW Z A ws s.heap H locs) (hM : Met l y (Cond.code y bytes maxL ret' :: zWs) rm (zP Z ws H.size (As)) (zQi Z r0 w1 (va_A ws H.size)) 0 0 (va_A ws H.size)) (k1 : Cond.methodLink own index y ∈ zWs) (k2 : Cond.static y ∈ zWs) (k4 : Cond.initialized y.cls ∈ zWs) (k5 : Cond.code y bytes maxL ret' ∈ zWs) (hrc : rm.cells = 0) (hrs : rm.slots = 0) (hd : y.cls ≠ "java/lang/invoke/MethodHandle" ∧ y.cls ≠ "java/lang/invoke/VarHandle" ∧ (parseMethodDescriptor y.desc).map (fun d => d.parameters.length) = some n) (hR : rm.frames + 1 ≤ R.frames ∧ 8 + (maxL + 11) + rm.locals ≤ R.locals) (hn : As.length = n) (hl : lv_has ls nL lv) (rest : List Value) (hst : st0 = As.reverse ++ rest) (hrm : (rest.map fun v => v.category).sum ≤ 8) (hdg : decode cc pc = .ok (.invokestatic index, 3)) (hcs : cells ≤ R.cells ∧ slots ≤ R.slots) (kk : ∀ (H1 : Heap) (locs1 : List Loc), zW Z A w1 s.heap H1 locs1 → W p l e R s m args below meth c H1 locs1 cells slots Q (F0 m (pc + 3) ls (.int r0 :: rest))) : W p l e R s m args below meth c H locs cells slots Q (F0 m pc ls st0) := by
  have hF := zF_all E hw
  skip
  subst hst
  exact va_calli (va_runS E.1 hM (va_cwS n E.1.2.2.2.2 (zCS k1 k2 k4 k5) rfl hrc hrs hd hR) ⟨zP.blind, zPre_all E hw⟩ rfl hn hl.1 rfl (lv_room hrm) hdg hcs) hw.2.2 (fun q _ h => hF q h) hF (fun r u t H1 locs1 ht hvm hp hB hz hk hS => by subst hp; rw [ht] at hB; exact kk H1 locs1 (zW.all hF hB.1 hB.2 hS))
theorem r_callS0i (E : zE Z p s m args meth c own cc nL ret A) {y : MethodName} {bytes : ByteArray} {maxL n index : Nat} {ret' : Option FieldType} {rm : Room} {As st0 : List Value} {r0 : Int32} (hw : zW Z A ws s.heap H locs) (hM : Met l y (Cond.code y bytes maxL ret' :: zWs) rm (zP Z [] H.size (As)) (zQi Z r0 [] (va_A [] H.size)) 0 0 (va_A [] H.size)) (k1 : Cond.methodLink own index y ∈ zWs) (k2 : Cond.static y ∈ zWs) (k4 : Cond.initialized y.cls ∈ zWs) (k5 : Cond.code y bytes maxL ret' ∈ zWs) (hrc : rm.cells = 0) (hrs : rm.slots = 0) (hd : y.cls ≠ "java/lang/invoke/MethodHandle" ∧ y.cls ≠ "java/lang/invoke/VarHandle" ∧ (parseMethodDescriptor y.desc).map (fun d => d.parameters.length) = some n) (hR : rm.frames + 1 ≤ R.frames ∧ 8 + (maxL + 11) + rm.locals ≤ R.locals) (hn : As.length = n) (hl : lv_has ls nL lv) (rest : List Value) (hst : st0 = As.reverse ++ rest) (hrm : (rest.map fun v => v.category).sum ≤ 8) (hdg : decode cc pc = .ok (.invokestatic index, 3)) (hcs : cells ≤ R.cells ∧ slots ≤ R.slots) (kk : ∀ (H1 : Heap) (locs1 : List Loc), zW Z A ws s.heap H1 locs1 → W p l e R s m args below meth c H1 locs1 cells slots Q (F0 m (pc + 3) ls (.int r0 :: rest))) : W p l e R s m args below meth c H locs cells slots Q (F0 m pc ls st0) := by
  have hF := zF_nil E hw
  skip
  subst hst
  exact va_calli (va_runS E.1 hM (va_cwS n E.1.2.2.2.2 (zCS k1 k2 k4 k5) rfl hrc hrs hd hR) ⟨zP.blind, zP_nil E hw⟩ rfl hn hl.1 rfl (lv_room hrm) hdg hcs) hw.2.2 (fun q _ h => hF q h) hF (fun r u t H1 locs1 ht hvm hp hB hz hk hS => by subst hp; exact kk H1 locs1 (hw.none hk hS))
theorem r_callSN0i (E : zE Z p s m args meth c own cc nL ret A) {y : MethodName} {bytes : ByteArray} {maxL n index : Nat} {ret' : Option FieldType} {rm : Room} {As st0 : List Value} {r0 : Int32} {host : String} (hw : zW Z A ws s.heap H locs) (hM : Met l y (Cond.code y bytes maxL ret' :: zWs) rm (zP Z [] H.size (As)) (zQi Z r0 [] (va_A [] H.size)) 0 0 (va_A [] H.size)) (k1 : va_Nw (.methodLinkNest own index y host) s) (k2 : Cond.static y ∈ zWs) (k4 : Cond.initialized y.cls ∈ zWs) (k5 : Cond.code y bytes maxL ret' ∈ zWs) (hrc : rm.cells = 0) (hrs : rm.slots = 0) (hd : y.cls ≠ "java/lang/invoke/MethodHandle" ∧ y.cls ≠ "java/lang/invoke/VarHandle" ∧ (parseMethodDescriptor y.desc).map (fun d => d.parameters.length) = some n) (hR : rm.frames + 1 ≤ R.frames ∧ 8 + (maxL + 11) + rm.locals ≤ R.locals) (hn : As.length = n) (hl : lv_has ls nL lv) (rest : List Value) (hst : st0 = As.reverse ++ rest) (hrm : (rest.map fun v => v.category).sum ≤ 8) (hdg : decode cc pc = .ok (.invokestatic index, 3)) (hcs : cells ≤ R.cells ∧ slots ≤ R.slots) (kk : ∀ (H1 : Heap) (locs1 : List Loc), zW Z A ws s.heap H1 locs1 → W p l e R s m args below meth c H1 locs1 cells slots Q (F0 m (pc + 3) ls (.int r0 :: rest))) : W p l e R s m args below meth c H locs cells slots Q (F0 m pc ls st0) := by
  have hF := zF_nil E hw
  skip
  subst hst
  exact va_calli (va_runSN E.1 hM ⟨va_cnB n E.1.2.2.2.2 (zC5 k5) rfl hrc hrs k1 (E.1.2.2.2.2 _ k4) hd hR, E.1.2.2.2.2 _ k2, trivial⟩ ⟨zP.blind, zP_nil E hw⟩ rfl hn hl.1 rfl (lv_room hrm) hdg hcs) hw.2.2 (fun q _ h => hF q h) hF (fun r u t H1 locs1 ht hvm hp hB hz hk hS => by subst hp; exact kk H1 locs1 (hw.none hk hS))
theorem r_callVv (E : zE Z p s m args meth c own cc nL ret A) {y : MethodName} {bytes : ByteArray} {maxL n index : Nat} {ret' : Option FieldType} {rm : Room} {wc w1 : va_W} {As st0 : List Value} {C : String} {b ci : Nat} {vq : vw_C} {fs : List Value} (ws' : va_W) (hw : zW Z A ws s.heap H locs) (hM : Met l y (Cond.code y bytes maxL ret' :: zWs) rm (zP Z wc H.size (.ref b :: As)) (zQv Z w1 (va_A wc H.size)) 0 0 (va_A wc H.size)) (k1 : Cond.methodLink own index y ∈ zWs) (k2 : Cond.instanceMethod y ∈ zWs) (k3 : Cond.selects C y y ∈ zWs) (k4 : Cond.initialized C ∈ zWs) (k5 : Cond.code y bytes maxL ret' ∈ zWs) (hrc : rm.cells = 0) (hrs : rm.slots = 0) (hd : y.cls = C ∧ y.cls ≠ "java/lang/invoke/MethodHandle" ∧ y.cls ≠ "java/lang/invoke/VarHandle" ∧ (parseMethodDescriptor y.desc).map (fun d => d.parameters.length) = some n) (hR : rm.frames + 1 ≤ R.frames ∧ 8 + (maxL + 11) + rm.locals ≤ R.locals) (isC isR perm : List Nat) (hcn : va_nd isC = true) (hC : isC.map (fun i => ws[i]?) = wc.map some) (hQ : isR.map (fun i => ws[i]?) = (isR.filterMap (fun i => ws[i]?)).map some) (hrn : va_nd isR = true) (hdis : ∀ i ∈ isR, i ∉ isC) (hpn : va_nd perm = true) (hp' : perm.map (fun i => (isR.filterMap (fun i => ws[i]?) ++ w1)[i]?) = ws'.map some) (q0 : Nat) (hvc : vwCl[ci]? = some vq) (hvC : vq.1 = C) (hvb : ws[q0]? = some (b, .inr (ci, fs))) (hn : As.length = n) (hl : lv_has ls nL lv) (rest : List Value) (hst : st0 = As.reverse ++ .ref b :: rest) (hrm : (rest.map fun v => v.category).sum ≤ 8) (hdg : decode cc pc = .ok (.invokevirtual index, 3)) (hcs : cells ≤ R.cells ∧ slots ≤ R.slots) (kk : ∀ (H1 : Heap) (locs1 : List Loc), zW Z A ws' s.heap H1 locs1 → W p l e R s m args below meth c H1 locs1 cells slots Q (F0 m (pc + 3) ls (rest))) : W p l e R s m args below meth c H locs cells slots Q (F0 m pc ls st0) := by
  have hF := va_free (wc := wc) hw.2.1 hw.2.2 E.2.2.2.2.2.1 isC hC
  subst hvC
  subst hst
  exact va_callv (va_runV E.1 hM (cwV n E.1.2.2.2.2 (zCV k1 k2 k3 k4 k5) rfl hrc hrs hd hR) ⟨zP.blind, va_recv E.2.2.2.1 hw.1 hvc hvb, hw.pre E isC hcn hC⟩ rfl hn hl.1 rfl (lv_room hrm) hdg hcs) hw.2.2 (fun q _ h => hF q h) hF (fun u t H1 locs1 ht hvm hp hB hz hk hS => by rw [ht] at hB; exact kk H1 locs1 (hw.join isC isR hC hQ hrn hdis hk hF hB.1 hB.2 hS perm hpn hp'))
theorem r_callVAv (E : zE Z p s m args meth c own cc nL ret A) {y : MethodName} {bytes : ByteArray} {maxL n index : Nat} {ret' : Option FieldType} {rm : Room} {w1 : va_W} {As st0 : List Value} {C : String} {b ci : Nat} {vq : vw_C} {fs : List Value} (hw : zW Z A ws s.heap H locs) (hM : Met l y (Cond.code y bytes maxL ret' :: zWs) rm (zP Z ws H.size (.ref b :: As)) (zQv Z w1 (va_A ws H.size)) 0 0 (va_A ws H.size)) (k1 : Cond.methodLink own index y ∈ zWs) (k2 : Cond.instanceMethod y ∈ zWs) (k3 : Cond.selects C y y ∈ zWs) (k4 : Cond.initialized C ∈ zWs) (k5 : Cond.code y bytes maxL ret' ∈ zWs) (hrc : rm.cells = 0) (hrs : rm.slots = 0) (hd : y.cls = C ∧ y.cls ≠ "java/lang/invoke/MethodHandle" ∧ y.cls ≠ "java/lang/invoke/VarHandle" ∧ (parseMethodDescriptor y.desc).map (fun d => d.parameters.length) = some n) (hR : rm.frames + 1 ≤ R.frames ∧ 8 + (maxL + 11) + rm.locals ≤ R.locals) (q0 : Nat) (hvc : vwCl[ci]? = some vq) (hvC : vq.1 = C) (hvb : ws[q0]? = some (b, .inr (ci, fs))) (hn : As.length = n) (hl : lv_has ls nL lv) (rest : List Value) (hst : st0 = As.reverse ++ .ref b :: rest) (hrm : (rest.map fun v => v.category).sum ≤ 8) (hdg : decode cc pc = .ok (.invokevirtual index, 3)) (hcs : cells ≤ R.cells ∧ slots ≤ R.slots) (kk : ∀ (H1 : Heap) (locs1 : List Loc), zW Z A w1 s.heap H1 locs1 → W p l e R s m args below meth c H1 locs1 cells slots Q (F0 m (pc + 3) ls (rest))) : W p l e R s m args below meth c H locs cells slots Q (F0 m pc ls st0) := by
  have hF := zF_all E hw
  subst hvC
  subst hst
  exact va_callv (va_runV E.1 hM (cwV n E.1.2.2.2.2 (zCV k1 k2 k3 k4 k5) rfl hrc hrs hd hR) ⟨zP.blind, va_recv E.2.2.2.1 hw.1 hvc hvb, zPre_all E hw⟩ rfl hn hl.1 rfl (lv_room hrm) hdg hcs) hw.2.2 (fun q _ h => hF q h) hF (fun u t H1 locs1 ht hvm hp hB hz hk hS => by rw [ht] at hB; exact kk H1 locs1 (zW.all hF hB.1 hB.2 hS))
theorem r_callSv (E : zE Z p s m args meth c own cc nL ret A) {y : MethodName} {bytes : ByteArray} {maxL n index : Nat} {ret' : Option FieldType} {rm : Room} {wc w1 : va_W} {As st0 : List Value} (ws' : va_W) (hw : zW Z A ws s.heap H locs) (hM : Met l y (Cond.code y bytes maxL ret' :: zWs) rm (zP Z wc H.size (As)) (zQv Z w1 (va_A wc H.size)) 0 0 (va_A wc H.size)) (k1 : Cond.methodLink own index y ∈ zWs) (k2 : Cond.static y ∈ zWs) (k4 : Cond.initialized y.cls ∈ zWs) (k5 : Cond.code y bytes maxL ret' ∈ zWs) (hrc : rm.cells = 0) (hrs : rm.slots = 0) (hd : y.cls ≠ "java/lang/invoke/MethodHandle" ∧ y.cls ≠ "java/lang/invoke/VarHandle" ∧ (parseMethodDescriptor y.desc).map (fun d => d.parameters.length) = some n) (hR : rm.frames + 1 ≤ R.frames ∧ 8 + (maxL + 11) + rm.locals ≤ R.locals) (isC isR perm : List Nat) (hcn : va_nd isC = true) (hC : isC.map (fun i => ws[i]?) = wc.map some) (hQ : isR.map (fun i => ws[i]?) = (isR.filterMap (fun i => ws[i]?)).map some) (hrn : va_nd isR = true) (hdis : ∀ i ∈ isR, i ∉ isC) (hpn : va_nd perm = true) (hp' : perm.map (fun i => (isR.filterMap (fun i => ws[i]?) ++ w1)[i]?) = ws'.map some) (hn : As.length = n) (hl : lv_has ls nL lv) (rest : List Value) (hst : st0 = As.reverse ++ rest) (hrm : (rest.map fun v => v.category).sum ≤ 8) (hdg : decode cc pc = .ok (.invokestatic index, 3)) (hcs : cells ≤ R.cells ∧ slots ≤ R.slots) (kk : ∀ (H1 : Heap) (locs1 : List Loc), zW Z A ws' s.heap H1 locs1 → W p l e R s m args below meth c H1 locs1 cells slots Q (F0 m (pc + 3) ls (rest))) : W p l e R s m args below meth c H locs cells slots Q (F0 m pc ls st0) := by
  have hF := va_free (wc := wc) hw.2.1 hw.2.2 E.2.2.2.2.2.1 isC hC
  skip
  subst hst
  exact va_callv (va_runS E.1 hM (va_cwS n E.1.2.2.2.2 (zCS k1 k2 k4 k5) rfl hrc hrs hd hR) ⟨zP.blind, hw.pre E isC hcn hC⟩ rfl hn hl.1 rfl (lv_room hrm) hdg hcs) hw.2.2 (fun q _ h => hF q h) hF (fun u t H1 locs1 ht hvm hp hB hz hk hS => by rw [ht] at hB; exact kk H1 locs1 (hw.join isC isR hC hQ hrn hdis hk hF hB.1 hB.2 hS perm hpn hp'))
theorem r_callSAv (E : zE Z p s m args meth c own cc nL ret A) {y : MethodName} {bytes : ByteArray} {maxL n index : Nat} {ret' : Option FieldType} {rm : Room} {w1 : va_W} {As st0 : List Value} (hw : zW Z A ws s.heap H locs) (hM : Met l y (Cond.code y bytes maxL ret' :: zWs) rm (zP Z ws H.size (As)) (zQv Z w1 (va_A ws H.size)) 0 0 (va_A ws H.size)) (k1 : Cond.methodLink own index y ∈ zWs) (k2 : Cond.static y ∈ zWs) (k4 : Cond.initialized y.cls ∈ zWs) (k5 : Cond.code y bytes maxL ret' ∈ zWs) (hrc : rm.cells = 0) (hrs : rm.slots = 0) (hd : y.cls ≠ "java/lang/invoke/MethodHandle" ∧ y.cls ≠ "java/lang/invoke/VarHandle" ∧ (parseMethodDescriptor y.desc).map (fun d => d.parameters.length) = some n) (hR : rm.frames + 1 ≤ R.frames ∧ 8 + (maxL + 11) + rm.locals ≤ R.locals) (hn : As.length = n) (hl : lv_has ls nL lv) (rest : List Value) (hst : st0 = As.reverse ++ rest) (hrm : (rest.map fun v => v.category).sum ≤ 8) (hdg : decode cc pc = .ok (.invokestatic index, 3)) (hcs : cells ≤ R.cells ∧ slots ≤ R.slots) (kk : ∀ (H1 : Heap) (locs1 : List Loc), zW Z A w1 s.heap H1 locs1 → W p l e R s m args below meth c H1 locs1 cells slots Q (F0 m (pc + 3) ls (rest))) : W p l e R s m args below meth c H locs cells slots Q (F0 m pc ls st0) := by
  have hF := zF_all E hw
  skip
  subst hst
  exact va_callv (va_runS E.1 hM (va_cwS n E.1.2.2.2.2 (zCS k1 k2 k4 k5) rfl hrc hrs hd hR) ⟨zP.blind, zPre_all E hw⟩ rfl hn hl.1 rfl (lv_room hrm) hdg hcs) hw.2.2 (fun q _ h => hF q h) hF (fun u t H1 locs1 ht hvm hp hB hz hk hS => by rw [ht] at hB; exact kk H1 locs1 (zW.all hF hB.1 hB.2 hS))
theorem r_callS0v (E : zE Z p s m args meth c own cc nL ret A) {y : MethodName} {bytes : ByteArray} {maxL n index : Nat} {ret' : Option FieldType} {rm : Room} {As st0 : List Value} (hw : zW Z A ws s.heap H locs) (hM : Met l y (Cond.code y bytes maxL ret' :: zWs) rm (zP Z [] H.size (As)) (zQv Z [] (va_A [] H.size)) 0 0 (va_A [] H.size)) (k1 : Cond.methodLink own index y ∈ zWs) (k2 : Cond.static y ∈ zWs) (k4 : Cond.initialized y.cls ∈ zWs) (k5 : Cond.code y bytes maxL ret' ∈ zWs) (hrc : rm.cells = 0) (hrs : rm.slots = 0) (hd : y.cls ≠ "java/lang/invoke/MethodHandle" ∧ y.cls ≠ "java/lang/invoke/VarHandle" ∧ (parseMethodDescriptor y.desc).map (fun d => d.parameters.length) = some n) (hR : rm.frames + 1 ≤ R.frames ∧ 8 + (maxL + 11) + rm.locals ≤ R.locals) (hn : As.length = n) (hl : lv_has ls nL lv) (rest : List Value) (hst : st0 = As.reverse ++ rest) (hrm : (rest.map fun v => v.category).sum ≤ 8) (hdg : decode cc pc = .ok (.invokestatic index, 3)) (hcs : cells ≤ R.cells ∧ slots ≤ R.slots) (kk : ∀ (H1 : Heap) (locs1 : List Loc), zW Z A ws s.heap H1 locs1 → W p l e R s m args below meth c H1 locs1 cells slots Q (F0 m (pc + 3) ls (rest))) : W p l e R s m args below meth c H locs cells slots Q (F0 m pc ls st0) := by
  have hF := zF_nil E hw
  skip
  subst hst
  exact va_callv (va_runS E.1 hM (va_cwS n E.1.2.2.2.2 (zCS k1 k2 k4 k5) rfl hrc hrs hd hR) ⟨zP.blind, zP_nil E hw⟩ rfl hn hl.1 rfl (lv_room hrm) hdg hcs) hw.2.2 (fun q _ h => hF q h) hF (fun u t H1 locs1 ht hvm hp hB hz hk hS => by exact kk H1 locs1 (hw.none hk hS))
theorem r_callSN0v (E : zE Z p s m args meth c own cc nL ret A) {y : MethodName} {bytes : ByteArray} {maxL n index : Nat} {ret' : Option FieldType} {rm : Room} {As st0 : List Value} {host : String} (hw : zW Z A ws s.heap H locs) (hM : Met l y (Cond.code y bytes maxL ret' :: zWs) rm (zP Z [] H.size (As)) (zQv Z [] (va_A [] H.size)) 0 0 (va_A [] H.size)) (k1 : va_Nw (.methodLinkNest own index y host) s) (k2 : Cond.static y ∈ zWs) (k4 : Cond.initialized y.cls ∈ zWs) (k5 : Cond.code y bytes maxL ret' ∈ zWs) (hrc : rm.cells = 0) (hrs : rm.slots = 0) (hd : y.cls ≠ "java/lang/invoke/MethodHandle" ∧ y.cls ≠ "java/lang/invoke/VarHandle" ∧ (parseMethodDescriptor y.desc).map (fun d => d.parameters.length) = some n) (hR : rm.frames + 1 ≤ R.frames ∧ 8 + (maxL + 11) + rm.locals ≤ R.locals) (hn : As.length = n) (hl : lv_has ls nL lv) (rest : List Value) (hst : st0 = As.reverse ++ rest) (hrm : (rest.map fun v => v.category).sum ≤ 8) (hdg : decode cc pc = .ok (.invokestatic index, 3)) (hcs : cells ≤ R.cells ∧ slots ≤ R.slots) (kk : ∀ (H1 : Heap) (locs1 : List Loc), zW Z A ws s.heap H1 locs1 → W p l e R s m args below meth c H1 locs1 cells slots Q (F0 m (pc + 3) ls (rest))) : W p l e R s m args below meth c H locs cells slots Q (F0 m pc ls st0) := by
  have hF := zF_nil E hw
  skip
  subst hst
  exact va_callv (va_runSN E.1 hM ⟨va_cnB n E.1.2.2.2.2 (zC5 k5) rfl hrc hrs k1 (E.1.2.2.2.2 _ k4) hd hR, E.1.2.2.2.2 _ k2, trivial⟩ ⟨zP.blind, zP_nil E hw⟩ rfl hn hl.1 rfl (lv_room hrm) hdg hcs) hw.2.2 (fun q _ h => hF q h) hF (fun u t H1 locs1 ht hvm hp hB hz hk hS => by exact kk H1 locs1 (hw.none hk hS))
theorem r_copyi (E : zE Z p s m args meth c own cc nL ret A) {index a a0 n0 n1 : Nat} {f g : Nat → Int32} (ws' : va_W) (hw : zW Z A ws s.heap H locs) (hl : lv_has ls nL lv) (q0 q1 : Nat) (ha0 : ws[q0]? = some (a0, .inl (Z.2.1, n0, .inl f))) (ha1 : ws[q1]? = some (a, .inl (Z.2.1, n1, .inl g))) (kl : Cond.methodLink own index arraycopyName ∈ zWs) (N : Nat) {n : Int32} (hN : n.toNatClampNeg = N) (h3 : ¬ n < 0) (h4 : N ≤ n0) (h5 : N ≤ n1) (hroom : 1 ≤ R.frames ∧ (rest.map fun v => v.category).sum + (nativeFrameWords "java/lang/System" "arraycopy" 5 + 11) ≤ R.locals) (hs : ws.set q1 (a, .inl (Z.2.1, n1, .inl (va_cpy f g 0 0 N))) = ws') (hdg : decode cc pc = .ok (.invokestatic index, 3)) (kk : ∀ (H1 : Heap) (locs1 : List Loc), zW Z A ws' s.heap H1 locs1 → W p l e R s m args below meth c H1 locs1 cells slots Q (F0 m (pc + 3) ls rest)) : W p l e R s m args below meth c H locs cells slots Q (F0 m pc ls (.int n :: .int 0 :: .ref a :: .int 0 :: .ref a0 :: rest)) := by
  have e0 : (0 : Int32).toNatClampNeg = 0 := by decide
  subst hN
  refine va_copyi E.1.1 E.1.2.1 (E.1.2.2.1.trans hl.1.symm) E.1.2.2.2.1 (E.1.2.2.2.2 _ kl) (E.1.2.2.2.2 _ kV_arraycopy) (E.1.2.2.2.2 _ kT_arraycopy) (E.1.2.2.2.2 _ kN_J10) E.2.2.2.1 hw.1 hw.2.1 hw.2.2 q0 q1 0 0 ha0 ha1 rfl rfl rfl (by decide) (by decide) h3 (by rw [e0]; omega) (by rw [e0]; omega) (fun i hi => rfl) hroom.1 hroom.2 hdg (fun H1 locs1 h1 h2 h3 => ?_)
  rw [e0] at h1 h2
  exact kk H1 locs1 (hs ▸ ⟨h1, h2, h3⟩)
theorem r_copyl (E : zE Z p s m args meth c own cc nL ret A) {index a a0 n0 n1 : Nat} {f g : Nat → Int64} (ws' : va_W) (hw : zW Z A ws s.heap H locs) (hl : lv_has ls nL lv) (q0 q1 : Nat) (ha0 : ws[q0]? = some (a0, .inl (Z.2.2.1, n0, .inr (.inl f)))) (ha1 : ws[q1]? = some (a, .inl (Z.2.2.1, n1, .inr (.inl g)))) (kl : Cond.methodLink own index arraycopyName ∈ zWs) (N : Nat) {n : Int32} (hN : n.toNatClampNeg = N) (h3 : ¬ n < 0) (h4 : N ≤ n0) (h5 : N ≤ n1) (hroom : 1 ≤ R.frames ∧ (rest.map fun v => v.category).sum + (nativeFrameWords "java/lang/System" "arraycopy" 5 + 11) ≤ R.locals) (hs : ws.set q1 (a, .inl (Z.2.2.1, n1, .inr (.inl (va_cpy f g 0 0 N)))) = ws') (hdg : decode cc pc = .ok (.invokestatic index, 3)) (kk : ∀ (H1 : Heap) (locs1 : List Loc), zW Z A ws' s.heap H1 locs1 → W p l e R s m args below meth c H1 locs1 cells slots Q (F0 m (pc + 3) ls rest)) : W p l e R s m args below meth c H locs cells slots Q (F0 m pc ls (.int n :: .int 0 :: .ref a :: .int 0 :: .ref a0 :: rest)) := by
  have e0 : (0 : Int32).toNatClampNeg = 0 := by decide
  subst hN
  refine va_copyl E.1.1 E.1.2.1 (E.1.2.2.1.trans hl.1.symm) E.1.2.2.2.1 (E.1.2.2.2.2 _ kl) (E.1.2.2.2.2 _ kV_arraycopy) (E.1.2.2.2.2 _ kT_arraycopy) (E.1.2.2.2.2 _ kN_J10) E.2.2.2.1 hw.1 hw.2.1 hw.2.2 q0 q1 1 1 ha0 ha1 rfl rfl rfl (by decide) (by decide) h3 (by rw [e0]; omega) (by rw [e0]; omega) (fun i hi => rfl) hroom.1 hroom.2 hdg (fun H1 locs1 h1 h2 h3 => ?_)
  rw [e0] at h1 h2
  exact kk H1 locs1 (hs ▸ ⟨h1, h2, h3⟩)
theorem r_alen (E : zE Z p s m args meth c own cc nL ret A) {a : Nat} {cA : ClassId} {x : vp_A} {ty : FieldType} {H0 : Heap} (hw : zW Z A ws H0 H locs) (q0 t0 : Nat) (ha : ws[q0]? = some (a, .inl (cA, x))) (ht : (zTys Z)[t0]? = some (cA, ty)) (hdg : decode cc pc = .ok (.arraylength, 1)) (kk : W p l e R s m args below meth c H locs cells slots Q (F0 m (pc + 1) ls (.int (Int32.ofNat x.1) :: rest))) : W p l e R s m args below meth c H locs cells slots Q (F0 m pc ls (.ref a :: rest)) := va_alen E.1.1 E.1.2.1 E.2.2.2.1 hw.1 q0 t0 ha ht rfl hdg kk
theorem ne_toInt {x n : Int32} {k : Int} (h : ¬ x = n) (hn : n.toInt = k) : x.toInt ≠ k := fun e => h (Int32.toInt_inj.mp (e.trans hn.symm))
theorem r_tabIn (E : zE Z p s m args meth c own cc nL ret A) {dflt lo hi off : Int} {offs : Array Int} {len : Nat} {x : Int32} (tgt : Nat) (hdg : decode cc pc = .ok (.tableswitch dflt lo hi offs, len)) (n : Int32) (hx : x = n) (h1 : ¬ n.toInt < lo) (h2 : ¬ hi < n.toInt) (ho : offs[(n.toInt - lo).toNat]? = some off) (ht : (pc : Int) + off = (tgt : Int)) (k : W p l e R s m args below meth c H locs cells slots Q (F0 m tgt ls rest)) : W p l e R s m args below meth c H locs cells slots Q (F0 m pc ls (.int x :: rest)) := by
  subst hx
  exact lv_tableIn E.1.1 E.1.2.1 hdg h1 h2 ho ht k
theorem r_tabOut (E : zE Z p s m args meth c own cc nL ret A) {dflt lo hi : Int} {offs : Array Int} {len : Nat} {x : Int32} (tgt : Nat) (hdg : decode cc pc = .ok (.tableswitch dflt lo hi offs, len)) (h : x.toInt < lo ∨ hi < x.toInt) (ht : (pc : Int) + dflt = (tgt : Int)) (k : W p l e R s m args below meth c H locs cells slots Q (F0 m tgt ls rest)) : W p l e R s m args below meth c H locs cells slots Q (F0 m pc ls (.int x :: rest)) := lv_tableOut E.1.1 E.1.2.1 hdg h ht k
theorem r_look (E : zE Z p s m args meth c own cc nL ret A) {dflt off : Int} {ps : Array (Int × Int)} {len : Nat} {x : Int32} (tgt : Nat) (hdg : decode cc pc = .ok (.lookupswitch dflt ps, len)) (hp : (ps.toList.zip (ps.toList.drop 1)).all (fun (a, next) => a.1 < next.1) = true) (ho : Op.lookupswitch.offset ps.toList dflt x.toInt = off) (ht : (pc : Int) + off = (tgt : Int)) (k : W p l e R s m args below meth c H locs cells slots Q (F0 m tgt ls rest)) : W p l e R s m args below meth c H locs cells slots Q (F0 m pc ls (.int x :: rest)) := lv_lookup E.1.1 E.1.2.1 hdg hp ho ht k
end ZR
/-- the pure words of the mirrors: a guard, a name, a loop -/
noncomputable def gd {α : Type} (c : Prop) (o : Option α) : Option α := @ite _ c (Classical.propDecidable c) o none
theorem gd_some {α : Type} {c : Prop} {o : Option α} {r : α} (h : gd c o = some r) : c ∧ o = some r := by
  unfold gd at h
  by_cases hc : c
  · rw [if_pos hc] at h; exact ⟨hc, h⟩
  · rw [if_neg hc] at h; cases h
theorem gd_t {α : Type} {c : Prop} {o : Option α} (hc : c) : gd c o = o := by unfold gd; rw [if_pos hc]
def nm {α β : Type} (a : α) (f : α → β) : β := f a
theorem nm_out {α β : Type} {a : α} {f : α → β} {r : β} (h : nm a f = r) : ∃ x, x = a ∧ f x = r := ⟨a, rfl, h⟩
theorem bd_some {α β : Type} {o : Option α} {f : α → Option β} {r : β} (h : o.bind f = some r) : ∃ a, o = some a ∧ f a = some r := by
  cases o with
  | none => cases h
  | some a => exact ⟨a, rfl, h⟩
theorem ite_t {α : Type} {c : Prop} [Decidable c] {a b r : α} (hc : c) (h : (if c then a else b) = r) : a = r := by rwa [if_pos hc] at h
theorem ite_f {α : Type} {c : Prop} [Decidable c] {a b r : α} (hc : ¬ c) (h : (if c then a else b) = r) : b = r := by rwa [if_neg hc] at h
def oi {σ ρ : Type} (o : Option ρ) : Option (σ ⊕ ρ) := o.map Sum.inr
theorem oi_some {σ ρ : Type} {o : Option ρ} {q : σ ⊕ ρ} (h : oi o = some q) : ∃ r, o = some r ∧ q = .inr r := by
  cases o with
  | none => cases h
  | some a => exact ⟨a, rfl, (Option.some.inj h).symm⟩
def iter {σ ρ : Type} (step : σ → Option (σ ⊕ ρ)) : Nat → σ → Option ρ
  | 0, _ => none
  | n + 1, a => match step a with
    | none => none
    | some (.inl b) => iter step n b
    | some (.inr r) => some r
theorem iter_out {σ ρ : Type} {step : σ → Option (σ ⊕ ρ)} {n : Nat} {a : σ} {r : ρ} (h : iter step (n + 1) a = some r) : ∃ q, step a = some q ∧ (∀ b, q = .inl b → iter step n b = some r) ∧ (∀ r', q = .inr r' → r' = r) := by
  unfold iter at h
  cases hs : step a with
  | none => rw [hs] at h; cases h
  | some q =>
    rw [hs] at h
    cases q with
    | inl b => exact ⟨.inl b, rfl, fun b' e => by cases e; exact h, fun r' e => (nomatch e)⟩
    | inr r1 => exact ⟨.inr r1, rfl, fun b' e => (nomatch e), fun r' e => (Sum.inr.inj e).symm.trans (Option.some.inj h)⟩
noncomputable def wh {σ ρ : Type} (step : σ → Option (σ ⊕ ρ)) (a : σ) : Option ρ := @dite _ (∃ n r, iter step n a = some r) (Classical.propDecidable _) (fun h => some (Classical.choose (Classical.choose_spec h))) (fun _ => none)
theorem wh_some {σ ρ : Type} {step : σ → Option (σ ⊕ ρ)} {a : σ} {r : ρ} (h : wh step a = some r) : ∃ n, iter step n a = some r := by
  unfold wh at h
  by_cases hc : ∃ n r, iter step n a = some r
  · rw [dif_pos hc] at h
    exact ⟨Classical.choose hc, (Option.some.inj h) ▸ Classical.choose_spec (Classical.choose_spec hc)⟩
  · rw [dif_neg hc] at h; cases h
theorem iter_more {σ ρ : Type} {step : σ → Option (σ ⊕ ρ)} : ∀ {n : Nat} {a : σ} {r : ρ}, iter step n a = some r → ∀ k, iter step (n + k) a = some r
  | 0, a, r, h, k => by cases h
  | n + 1, a, r, h, k => by
    rw [Nat.add_right_comm]
    unfold iter at h ⊢
    cases hs : step a with
    | none => rw [hs] at h; cases h
    | some q =>
      rw [hs] at h
      cases q with
      | inl b => exact iter_more h k
      | inr r1 => exact h
theorem wh_of {σ ρ : Type} {step : σ → Option (σ ⊕ ρ)} {n : Nat} {a : σ} {r : ρ} (h : iter step n a = some r) : wh step a = some r := by
  have hc : ∃ n r, iter step n a = some r := ⟨n, r, h⟩
  unfold wh
  rw [dif_pos hc]
  have h2 := Classical.choose_spec (Classical.choose_spec hc)
  have h3 := iter_more h2 n
  have h4 := iter_more h (Classical.choose hc)
  rw [Nat.add_comm] at h4
  rw [h3] at h4
  exact h4
/-- a loop's equation -/
theorem wh_eq {σ ρ : Type} (step : σ → Option (σ ⊕ ρ)) (a : σ) : wh step a = match step a with
    | none => none
    | some (.inl b) => wh step b
    | some (.inr r) => some r := by
  cases hs : step a with
  | none =>
    cases hw : wh step a with
    | none => rfl
    | some r =>
      obtain ⟨n, h⟩ := wh_some hw
      cases n with
      | zero => cases h
      | succ n => unfold iter at h; rw [hs] at h; cases h
  | some q =>
    cases q with
    | inr r => exact wh_of (n := 1) (by unfold iter; rw [hs])
    | inl b =>
      show wh step a = wh step b
      cases hw : wh step b with
      | some r =>
        obtain ⟨n, h⟩ := wh_some hw
        exact wh_of (n := n + 1) (by unfold iter; rw [hs]; exact h)
      | none =>
        cases hv : wh step a with
        | none => rfl
        | some r =>
          obtain ⟨n, h⟩ := wh_some hv
          cases n with
          | zero => cases h
          | succ n =>
            unfold iter at h
            rw [hs] at h
            rw [wh_of h] at hw
            cases hw
section ZM
variable {Z : zT} {p : Program} {l : Launch} {e : Env} {R : Room} {s : State} {m : MethodId} {args : Array Value} {below : List Frame} {meth : Method} {c : Code} {H : Heap} {locs : List Loc} {cells slots : Nat} {Q : State → Prop}
theorem r_nm {x y : Int32} {pc : Nat} {ls : Array Slot} {rest : List Value} (hx : x = y) (k : W p l e R s m args below meth c H locs cells slots Q (F0 m pc ls (.int x :: rest))) : W p l e R s m args below meth c H locs cells slots Q (F0 m pc ls (.int y :: rest)) := hx ▸ k
theorem r_nmL {x y : Int64} {pc : Nat} {ls : Array Slot} {rest : List Value} (hx : x = y) (k : W p l e R s m args below meth c H locs cells slots Q (F0 m pc ls (.long x :: rest))) : W p l e R s m args below meth c H locs cells slots Q (F0 m pc ls (.long y :: rest)) := hx ▸ k
theorem zMet {y : MethodName} {rm : Room} (QA : (Nat → Prop) → Array Value → State → Outcome → State → Prop) {mc ms : Nat} {cc : ByteArray} {maxL : Nat} {ret : Option FieldType} {wc : va_W} {sz : Nat} {av : List Value} {own : String}
    (hy : plainName y.cls = true) (ho : y.cls = own) (hlen : (lg_sl av).length ≤ maxL)
    (body : ∀ (p : Program) (e : Env) (s : State) (m : MethodId) (args : Array Value) (below : List Frame) (meth : Method) (c : Code) (ls : Array Slot) (A : Nat → Prop), zE Z p s m args meth c own cc maxL ret A → zW Z A wc s.heap s.heap [] → lv_has ls maxL (lv_args 0 av) →
      W p l e rm s m args below meth c s.heap [] 0 0 (MQ below (QA A) args s mc ms A) (F0 m 0 ls [])) : Met l y (Cond.code y cc maxL ret :: zWs) rm (zP Z wc sz av) (QA (va_A wc sz)) mc ms (va_A wc sz) := by
  subst ho
  refine Met.ofW (ws' := zWs) hy rfl ?_
  intro p e s m args below meth c s₁ B hml hv
  obtain ⟨rfl, hsz, hP, hK, hD0, hN, hStr⟩ := hv
  subst hsz
  rw [lg_entry_eq]
  exact body p e s m _ below meth c _ _ ⟨⟨B.exec, B.bytes, hml, findClass_of_methodNamed B.named, fun w h => atoms_spec (ws := Cond.code y cc maxL ret :: zWs) B.pre w (List.mem_cons_of_mem _ h)⟩, B.returns, B.notSynchronized, hK, hN, fun q h => Or.inr h, hStr⟩ ⟨hP, hD0.self, va_S.rf⟩ (lv_entry av hlen)
end ZM
