/-! Ideal ways and worth: the calls. -/
section P39za
variable {V : Nat} {X : zX} {M : zM} {T : zA}
theorem op_ideal (hV : V < 2 ^ 20) (h : zRel V X M) (x y : Int32) : zOp V (gX_ideal X x y) (gM_ideal M x y) := by
  obtain ⟨T, S, sz, tl, ⟨n1, n2, n3⟩, ⟨s1, s2, s3⟩, ⟨t1, t2, t3, t4⟩, ⟨w1, w2⟩⟩ := h
  have hb := n1.1
  have hp : ∀ x, fX6_isNode x X.2.1.1 = some (bI (iN (aNN T) x)) := by intro x; rw [n2.1]; exact c_isNode
  unfold gX_ideal gM_ideal fX6_ideal fX7_ideal
  rw [n3, hp, hp, e_isNode n1, e_isNode n1]
  simp only [Option.bind_some, ite_bI]
  by_cases h1 : iN (aNN T) x
  · rw [if_pos h1, if_pos h1]
    by_cases h2 : iN (aNN T) y
    · rw [if_pos h2, if_pos h2]
      obtain ⟨f, hf, rfl⟩ := (iN_ex (by omega)).mp h1
      obtain ⟨t, ht, rfl⟩ := (iN_ex (by omega)).mp h2
      have ha : aAr T f < 4 := n1.ar (n := f) (by omega)
      obtain ⟨Q, hQ⟩ := gAll (F := 1000000) (tE_pos n1 (O := aOp T (aAr T f)))
      obtain ⟨r', e1, e2⟩ := e_reach n1 hQ hf (r := M.2.2.2.2.2.2.2.2.2.2.2.2.2.2.2.2.2.2.2.2.2.2.2.2)
      obtain ⟨xx, x1, x2⟩ := c_entitlements n1 hV n2.2.2.2.2.2.2.2.1 ha
      obtain ⟨m, e, q, k1, k2, k3, k4⟩ := c_takeTrueLinks n1 hV n2 (x := xx) (O := aOp T (aAr T f)) x2 (s1 := X.2.2.2.2.2.1.2.2.1) (s2 := X.2.2.2.2.2.1.2.2.2.1) (s3 := X.2.2.2.2.2.1.2.2.2.2.1) (s4 := X.2.2.2.2.2.1.2.2.2.2.2.1)
      obtain ⟨r, d, g0, g1, g2, g3⟩ := c_measureTo (N := aNN T) (t := t) hb.1 ht (tE_ok n1 (O := aOp T (aAr T f))) k2 k3 k4 (r := X.2.2.2.2.2.1.2.2.2.2.2.2)
      rw [gd_in (by omega), nI_cl (show f < 2 ^ 31 by omega), n2.2.2.2.2.1 f hf, x1, e1]
      simp only [Option.bind_some]
      rw [k1]
      simp only [Option.bind_some]
      rw [g0]
      simp only [Option.bind_some]
      rw [c_idealCost n1 hQ g1 g2 g3 (u := f) (by omega)]
      have hle : Q t f ≤ 1000000 := (hQ t).1.2.1 f
      rw [gd_in (show t < 10 by omega), nI_cl (show t < 2 ^ 31 by omega), e2 t (by omega), show (1000000 : Int32) = nI 1000000 from zl1000000, ite_leN (by omega) (by omega)]
      simp only [Option.bind_some]
      by_cases h4 : Q t f < 1000000
      · rw [if_pos h4, if_neg (by omega), gd_in (by omega)]
        exact ⟨_, _, rfl, rfl, rfl, T, S, sz, tl, ⟨n1, n2, rfl⟩, ⟨s1, s2, s3⟩, ⟨t1, t2, t3, t4⟩, w1, w2⟩
      · rw [if_neg h4, if_pos (by omega)]
        exact ⟨_, _, rfl, rfl, rfl, T, S, sz, tl, ⟨n1, n2, rfl⟩, ⟨s1, s2, s3⟩, ⟨t1, t2, t3, t4⟩, w1, w2⟩
    · rw [if_neg h2, if_neg h2]
      exact ⟨_, _, rfl, rfl, rfl, T, S, sz, tl, ⟨n1, n2, rfl⟩, ⟨s1, s2, s3⟩, ⟨t1, t2, t3, t4⟩, w1, w2⟩
  · rw [if_neg h1, if_neg h1]
    exact ⟨_, _, rfl, rfl, rfl, T, S, sz, tl, ⟨n1, n2, rfl⟩, ⟨s1, s2, s3⟩, ⟨t1, t2, t3, t4⟩, w1, w2⟩
/-- a grant set, without a word to anyone -/
abbrev aPg (T : zA) (i on : Nat) : zA := (un T.1 (14 + i) on, T.2)
theorem aPg_ot {i on j : Nat} (h : j ≠ 14 + i) : (aPg T i on).1 j = T.1 j := un_ne h
theorem aPg_inv (hI : aInv V T) {i on : Nat} (hi : i < 16) (hd : ¬ i / 4 = i % 4) (ho : on ≤ 1) : aInv V (aPg T i on) := by
  have h1 := hI.1
  have eN : aNN (aPg T i on) = aNN T := aPg_ot (by omega)
  have eL : aNL (aPg T i on) = aNL T := aPg_ot (by omega)
  have eT : aNT (aPg T i on) = aNT T := aPg_ot (by omega)
  have eLk : ∀ k' p, aL (aPg T i on) k' p = aL T k' p := fun k' p => aPg_ot (by omega)
  have eTk : ∀ k' p, aT (aPg T i on) k' p = aT T k' p := fun k' p => aPg_ot (by omega)
  refine hI.mk2 (Nat.le_refl _) rfl (by omega) (by omega) (by omega) (by omega) ?_ ?_ ?_ ?_ ?_ ?_
  · intro n hn'
    have : aAr (aPg T i on) n = aAr T n := aPg_ot (by omega)
    have := hI.ar hn'
    omega
  · intro k' hk'
    have hh := hI.2.2.1 k' (by omega)
    rw [eLk, eLk, eLk, eLk, eLk, eLk, eN]
    omega
  · intro k' p h2 h3 h4
    rw [eLk k' p]
    exact hI.2.2.2.1 k' p (by omega) h3 h4
  · intro k' hk'
    have hh := hI.2.2.2.2.1 k' (by omega)
    rw [eTk, eTk, eTk, eTk, eTk, eN]
    omega
  · intro k' p h2 h3 h4
    rw [eTk k' p]
    exact hI.2.2.2.2.2.1 k' p (by omega) h3 h4
  · intro j hj
    have hh := hI.2.2.2.2.2.2.1 j hj
    have a2 : aGv (aPg T i on) j = aGv T j := aPg_ot (by omega)
    by_cases h : j = i
    · subst h
      have a1 : aGr (aPg T j on) j = on := un_eq
      rw [a1, a2]
      exact ⟨ho, hh.2.1, fun q => absurd q hd⟩
    · have a1 : aGr (aPg T i on) j = aGr T j := aPg_ot (by omega)
      rw [a1, a2]
      exact hh
theorem tE_sub {T' : zA} {O O' : Nat → Prop} (hI : aInv V T) (hN : aNL T' = aNL T) (hl : ∀ k p, aL T' k p = aL T k p) (ha : ∀ n, n < 10 → aAr T' n = aAr T n) (hO : ∀ o, o < 4 → (O o → O' o)) {u v c i : Nat} (h : tE T O u v c i) : tE T' O' u v c i := by
  obtain ⟨k, hk, rfl, h1, h2, h3, rfl⟩ := tE_link h
  have hb := hI.1
  have hk16 : k < 16 := by omega
  have hlk := hI.2.2.1 k hk
  have e1 : aTs T' (16 + k) = aTs T (16 + k) := by rw [(aTx_l (T := T') hk16).2.1, (aTx_l (T := T) hk16).2.1, hl]
  have e2 : aTc T' (16 + k) = aTc T (16 + k) := by rw [(aTx_l (T := T') hk16).2.2, (aTx_l (T := T) hk16).2.2, hl]
  have e3 : aOw T' k = aOw T k := by
    show aAr T' (aL T' k 0) = aAr T (aL T k 0)
    rw [hl, ha _ (by omega)]
  rw [← e2]
  refine tE_of (by omega) (by rw [e1]; exact h1) (fun q => ?_) (by rw [hl, hl]; exact h3)
  rw [hl] at q
  rw [e3]
  exact hO _ (hI.ar (n := aL T k 0) (by omega)) (h2 q)
theorem tE_same {T' : zA} {O O' : Nat → Prop} (hI : aInv V T) (hI' : aInv V T') (hN : aNL T' = aNL T) (hl : ∀ k p, aL T' k p = aL T k p) (ha : ∀ n, n < 10 → aAr T' n = aAr T n) (hO : ∀ o, o < 4 → (O o ↔ O' o)) : gQ (tE T' O') = gQ (tE T O) := by
  funext u v c
  refine propext ⟨fun ⟨i, h⟩ => ⟨i, tE_sub hI' hN.symm (fun k p => (hl k p).symm) (fun n hn => (ha n hn).symm) (fun o ho => (hO o ho).mpr) h⟩, fun ⟨i, h⟩ => ⟨i, tE_sub hI hN hl ha (fun o ho => (hO o ho).mp) h⟩⟩
theorem x_sum (hI : aInv V T) (hV : V < 2 ^ 20) {N : zNet} (hR : aRel T N) {T' : zA} (hI' : aInv V T') (h1 : ∀ j, j < 14 ∨ 46 ≤ j → T'.1 j = T.1 j) {a : Nat} (ha : a < 4) {x : Int32} (hx : ∀ o, o < 4 → (bi x o = true ↔ aOp T' a o)) {s1 s2 s3 s4 s5 re : Nat → Int32} :
    ∃ w q r', fX6_sumOfIdeals (nI a) x N.1 N.2.1 N.2.2.2.2.1 N.2.2.2.2.2.1 N.2.2.2.2.2.2.1 N.2.2.2.2.2.2.2.1 N.2.2.2.2.2.2.2.2.2.2.1 s1 s2 s3 s4 s5 = some (w, q) ∧ fX7_idealSum (nI a) (zI T') re = some (w, r') := by
  have hb := hI.1
  have hN : aNN T' = aNN T := h1 _ (by omega)
  have har : ∀ n, n < 10 → aAr T' n = aAr T n := fun n hn => h1 _ (by omega)
  have e := tE_same (O := aOp T' a) (O' := aOp T' a) hI hI' (h1 _ (by omega)) (fun k p => h1 _ (by omega)) har (fun o _ => Iff.rfl)
  obtain ⟨Q, hQ⟩ := gAll (F := 1000000) (tE_pos hI (O := aOp T' a))
  obtain ⟨q, k1⟩ := c_sumOfIdeals hI hV hR hx hQ ha (s1 := s1) (s2 := s2) (s3 := s3) (s4 := s4) (s5 := s5)
  have hQ' : ∀ t, gGood (gQ (tE T' (aOp T' a))) t 1000000 (Q t) ∧ gFix (gQ (tE T' (aOp T' a))) (Q t) := by
    rw [e]; exact hQ
  obtain ⟨r', k2⟩ := e_idealSum hI' ha hQ' (r := re)
  refine ⟨_, q, r', k1, ?_⟩
  rw [k2, sum_same, hN]
  have : sm (fun f => if aAr T' f = a then sm (fun t => aWv (Q t f)) (aNN T) else 0) (aNN T) = sm (fun f => if aAr T f = a then sm (fun t => aWv (Q t f)) (aNN T) else 0) (aNN T) := sm_congr _ (fun i hi => by rw [har i (by omega)])
  rw [this]
theorem op_worth (hV : V < 2 ^ 20) (h : zRel V X M) (x y : Int32) : zOp V (gX_worth X x y) (gM_worth M x y) := by
  obtain ⟨T, S, sz, tl, ⟨n1, n2, n3⟩, ⟨s1, s2, s3⟩, ⟨t1, t2, t3, t4⟩, ⟨w1, w2⟩⟩ := h
  have hb := n1.1
  unfold gX_worth gM_worth fX6_worth fX7_worth
  rw [n3, c_areTwoAreas, e_areAreas]
  simp only [Option.bind_some, ite_bI]
  by_cases h1 : iP 4 x y
  · rw [if_pos h1, if_pos h1]
    obtain ⟨ow, a, how, ha, hoa, rfl, rfl⟩ := (iP_ex (by omega)).mp h1
    obtain ⟨xx, x1, x2⟩ := c_entitlements n1 hV n2.2.2.2.2.2.2.2.1 ha
    have i0 := aPg_inv n1 (i := 4 * ow + a) (on := 0) (by omega) (by omega) (by omega)
    have i1 := aPg_inv i0 (i := 4 * ow + a) (on := 1) (by omega) (by omega) (by omega)
    have g0 : ∀ oo, oo < 4 → aGr (aPg T (4 * ow + a) 0) (4 * oo + a) = if oo = ow then 0 else aGr T (4 * oo + a) := by
      intro oo hoo
      by_cases q : oo = ow
      · subst q
        rw [if_pos rfl]; exact un_eq
      · rw [if_neg q]; exact aPg_ot (by omega)
    have g1 : ∀ oo, oo < 4 → aGr (aPg (aPg T (4 * ow + a) 0) (4 * ow + a) 1) (4 * oo + a) = if oo = ow then 1 else aGr T (4 * oo + a) := by
      intro oo hoo
      by_cases q : oo = ow
      · subst q
        rw [if_pos rfl]; exact un_eq
      · rw [if_neg q]
        exact (aPg_ot (T := aPg T (4 * ow + a) 0) (by omega)).trans (aPg_ot (by omega))
    have b0 : ∀ oo, oo < 4 → (bi (xx &&& (((1 : Int32) <<< (nI ow &&& 31)) ^^^ (-1))) oo = true ↔ aOp (aPg T (4 * ow + a) 0) a oo) := by
      intro oo hoo
      rw [bi_clr (by omega) (by omega), Bool.and_eq_true, x2 oo hoo, aOp, g0 oo hoo]
      by_cases q : oo = ow
      · subst q
        simp [hoa]
      · simp [q]
    have b1 : ∀ oo, oo < 4 → (bi (xx ||| ((1 : Int32) <<< (nI ow &&& 31))) oo = true ↔ aOp (aPg (aPg T (4 * ow + a) 0) (4 * ow + a) 1) a oo) := by
      intro oo hoo
      rw [bi_or (by omega) (by omega), Bool.or_eq_true, x2 oo hoo, aOp, g1 oo hoo]
      by_cases q : oo = ow
      · subst q
        simp
      · simp [q]
    obtain ⟨v0, q0, r0, k1, k2⟩ := x_sum n1 hV n2 i0 (fun j hj => aPg_ot (by omega)) ha b0 (s1 := X.2.2.2.2.2.1.2.2.1) (s2 := X.2.2.2.2.2.1.2.2.2.1) (s3 := X.2.2.2.2.2.1.2.2.2.2.1) (s4 := X.2.2.2.2.2.1.2.2.2.2.2.1) (s5 := X.2.2.2.2.2.1.2.2.2.2.2.2) (re := M.2.2.2.2.2.2.2.2.2.2.2.2.2.2.2.2.2.2.2.2.2.2.2.2)
    obtain ⟨v1, q1, r1, k3, k4⟩ := x_sum n1 hV n2 i1 (fun j hj => (aPg_ot (T := aPg T (4 * ow + a) 0) (by omega)).trans (aPg_ot (by omega))) ha b1 (s1 := q0.2.2.1) (s2 := q0.2.2.2.1) (s3 := q0.2.2.2.2.1) (s4 := q0.2.2.2.2.2.1) (s5 := q0.2.2.2.2.2.2) (re := r0)
    have u0 : upd (zI T) (14 + (4 * ow + a)) 0 = zI (aPg T (4 * ow + a) 0) := upd_h (v := 0) (by omega)
    have u1 : upd (zI (aPg T (4 * ow + a) 0)) (14 + (4 * ow + a)) 1 = zI (aPg (aPg T (4 * ow + a) 0) (4 * ow + a) 1) := upd_h (v := 1) (by omega)
    have u2 : upd (zI (aPg (aPg T (4 * ow + a) 0) (4 * ow + a) 1)) (14 + (4 * ow + a)) (zI T (14 + (4 * ow + a))) = zI T := by
      rw [zI_h (by omega), upd_h (by omega)]
      refine congrArg zI (Prod.ext (funext fun j => ?_) rfl)
      show un (un (un T.1 (14 + (4 * ow + a)) 0) (14 + (4 * ow + a)) 1) (14 + (4 * ow + a)) (T.1 (14 + (4 * ow + a))) j = T.1 j
      by_cases q : j = 14 + (4 * ow + a)
      · subst q; rw [un_eq]
      · rw [un_ne q, un_ne q, un_ne q]
    rw [x1, show (14 : Int32) = nI 14 from zl14, show (4 : Int32) = nI 4 from zl4, pk_mul, nI_add, nI_add, Nat.add_assoc, nm_eq, gd_in (by omega), nI_cl (by omega), nm_eq, gd_in (by omega), u0, k2]
    simp only [Option.bind_some]
    rw [k1]
    simp only [Option.bind_some]
    rw [gd_in (by omega), u1, k3, k4]
    simp only [Option.bind_some]
    rw [gd_in (by omega), u2]
    exact ⟨_, _, rfl, rfl, rfl, T, S, sz, tl, ⟨n1, n2, rfl⟩, ⟨s1, s2, s3⟩, ⟨t1, t2, t3, t4⟩, w1, w2⟩
  · rw [if_neg h1, if_neg h1]
    exact ⟨_, _, rfl, rfl, rfl, T, S, sz, tl, ⟨n1, n2, rfl⟩, ⟨s1, s2, s3⟩, ⟨t1, t2, t3, t4⟩, w1, w2⟩
end P39za

