/-! Rows for the history: an array of references, its five networks. -/
section ZH
variable {Z : zT} {p : Program} {l : Launch} {e : Env} {R : Room} {s : State} {m : MethodId} {args : Array Value} {below : List Frame} {meth : Method} {c : Code} {H : Heap} {locs : List Loc} {cells slots : Nat} {Q : State → Prop}
variable {own : String} {cc : ByteArray} {nL : Nat} {ret : Option FieldType} {A : Nat → Prop} {pc : Nat} {ls : Array Slot} {rest : List Value} {ws : va_W} {lv : List (Nat × Value)}
theorem r_aald (E : zE Z p s m args meth c own cc nL ret A) {n a b : Nat} {f : Nat → Option Nat} {i : Int32} (hw : zW Z A ws s.heap H locs) (q0 : Nat) (ha : ws[q0]? = some (a, .inl (Z.2.2.2.2.1, n, .inr (.inr (.inr (.inr f)))))) (hin : vp_in i n) (hf : f i.toNatClampNeg = some b) (hdg : decode cc pc = .ok (.aaload, 1)) (kk : W p l e R s m args below meth c H locs cells slots Q (F0 m (pc + 1) ls (.ref b :: rest))) : W p l e R s m args below meth c H locs cells slots Q (F0 m pc ls (.int i :: .ref a :: rest)) := by
  refine va_aldq E.1.1 E.1.2.1 E.2.2.2.1 hw.1 q0 3 ha rfl hin hdg ?_
  rw [hf]
  exact kk
theorem r_aast (E : zE Z p s m args meth c own cc nL ret A) {n a v : Nat} {vs : List Value} {f : Nat → Option Nat} {i : Int32} (ws' : va_W) (hw : zW Z A ws s.heap H locs) (q0 qk : Nat) (ha : ws[q0]? = some (a, .inl (Z.2.2.2.2.1, n, .inr (.inr (.inr (.inr f)))))) (hv : ws[qk]? = some (v, .inr (2, vs))) (hin : vp_in i n) (N : Nat) (hN : i.toNatClampNeg = N) (hs : ws.set q0 (a, .inl (Z.2.2.2.2.1, n, .inr (.inr (.inr (.inr (va_up f N (some v))))))) = ws') (hdg : decode cc pc = .ok (.aastore, 1)) (kk : ∀ (H1 : Heap) (locs1 : List Loc), zW Z A ws' s.heap H1 locs1 → W p l e R s m args below meth c H1 locs1 cells slots Q (F0 m (pc + 1) ls rest)) : W p l e R s m args below meth c H locs cells slots Q (F0 m pc ls (.ref v :: .int i :: .ref a :: rest)) := by
  subst hN
  exact va_astq (r := (RX3, TX3, 13)) E.1.1 E.1.2.1 E.2.2.2.1 hw.1 hw.2.1 hw.2.2 q0 3 qk 2 ha rfl hv rfl hin hdg (fun H1 locs1 h1 h2 h3 => kk H1 locs1 (hs ▸ ⟨h1, h2, h3⟩))
theorem r_astore_n (E : zE Z p s m args meth c own cc nL ret A) {k : Fin 4} {i : Nat} {x : Nat} (lv' : List (Nat × Value)) (h : lv_has ls nL lv) (hdg : decode cc pc = .ok (.astore_n k, 1)) (hi : (k : Nat) = i) (hn : i < nL) (hl : (i, Value.ref x) :: lv.filter (fun q => !(q.1 == i) && !(q.1 + 1 == i && q.2.category == 2)) = lv')
    (kk : ∀ ls' : Array Slot, lv_has ls' nL lv' → W p l e R s m args below meth c H locs cells slots Q (F0 m (pc + 1) ls' rest)) : W p l e R s m args below meth c H locs cells slots Q (F0 m pc ls (.ref x :: rest)) := lv_astore_n E.1.1 E.1.2.1 hdg hi h hn hl kk
theorem zW.perm {ws' : va_W} {H0 : Heap} (hw : zW Z A ws H0 H locs) (perm : List Nat) (hpn : va_nd perm = true) (hp : perm.map (fun i => ws[i]?) = ws'.map some) : zW Z A ws' H0 H locs := by
  refine ⟨hw.1.sub perm ?_, hw.2.1.sub perm hpn hp, hw.2.2⟩
  have : perm.filterMap (fun i => ws[i]?) = (perm.map (fun i => ws[i]?)).filterMap id := by rw [List.filterMap_map]; rfl
  rw [this, hp, List.filterMap_map]
  exact List.filterMap_some
end ZH
/-- the places of the history, one further on -/
def zRot {α : Type} (f : Nat → α) : Nat → α := fun k => if k = 4 then f 0 else f (k + 1)
