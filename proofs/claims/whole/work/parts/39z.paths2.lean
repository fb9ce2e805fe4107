/-! Paths and packets. -/
section P39z
variable {V : Nat} {X : zX} {M : zM} {T : zA}
theorem ite_k {α : Type} {a : Int32} {n i : Nat} {x y : α} (h : a = nI n) (hn : n < 2 ^ 31) (hi : i < 2 ^ 31) : (if a ≤ nI i then x else y) = if n ≤ i then x else y := by subst h; exact ite_leN hn hi
theorem z_bind {α β : Type} {A : Option α} {B : Option β} {f : α → Option (Int32 × zX)} {g : β → Option (Int32 × zM)} {r1 : α} {r2 : β} (hA : A = some r1) (hB : B = some r2) (h : zOp V (f r1) (g r2)) : zOp V (A.bind f) (B.bind g) := by rw [hA, hB]; exact h
theorem op_distance (hV : V < 2 ^ 20) (h : zRel V X M) (x y z : Int32) : zOp V (gX_distance X x y z) (gM_distance M x y z) := by
  obtain ⟨T, S, sz, tl, ⟨n1, n2, n3⟩, ⟨s1, s2, s3⟩, ⟨t1, t2, t3, t4⟩, ⟨w1, w2⟩⟩ := h
  have hb := n1.1
  have hp : ∀ x, fX6_isNode x X.2.1.1 = some (bI (iN (aNN T) x)) := by intro x; rw [n2.1]; exact c_isNode
  unfold gX_distance gM_distance fX6_distance fX7_distance
  rw [n3, hp, hp, e_isNode n1, e_isNode n1, c_isArea, e_isArea]
  simp only [Option.bind_some, ite_bI]
  by_cases h1 : iN (aNN T) x
  · rw [if_pos h1, if_pos h1]
    by_cases h2 : iN (aNN T) y
    · rw [if_pos h2, if_pos h2]
      by_cases h3 : iN 4 z
      · rw [if_pos h3, if_pos h3]
        obtain ⟨n, hn, rfl⟩ := (iN_ex (by omega)).mp h1
        obtain ⟨t, ht, rfl⟩ := (iN_ex (by omega)).mp h2
        obtain ⟨a, ha, rfl⟩ := (iN_ex (by omega)).mp h3
        obtain ⟨m, e, q, r, d, c1, c2, hm, hg, hL, hd, g1, g2⟩ := c_search n1 hV n2 (n := n) (a := a) (b := 1) (t := t) (by omega) ha (by omega) ht (s1 := X.2.2.2.2.2.1.2.2.1) (s2 := X.2.2.2.2.2.1.2.2.2.1) (s3 := X.2.2.2.2.2.1.2.2.2.2.1) (s4 := X.2.2.2.2.2.1.2.2.2.2.2.1) (s5 := X.2.2.2.2.2.1.2.2.2.2.2.2)
        obtain ⟨q', d', f0, hs, f1, f2, f3⟩ := e_find n1 hV (n := n) (a := a) (b := 1) (t := t) (by omega) ha (by omega) ht (sums := M.2.2.2.2.2.2.2.2.2.2.2.2.2.2.2.2.2.2.1) (steps := M.2.2.2.2.2.2.2.2.2.2.2.2.2.2.2.2.2.2.2.1)
        rw [show (1 : Int32) = nI 1 from zl1, c1, f0]
        simp only [Option.bind_some]
        rw [c2, Option.bind_some, x_cost n1 (by omega) hd g1 g2 hs f1 f2 (u := n) (by omega), Option.bind_some, gd_in (by omega), nI_cl (by omega)]
        by_cases h4 : q'.1 n < 1000000
        · rw [if_pos h4, if_neg (Int32.not_le.mpr h4), gd_in (by omega)]
          exact ⟨_, _, rfl, rfl, rfl, T, S, sz, tl, ⟨n1, n2, rfl⟩, ⟨s1, s2, s3⟩, ⟨t1, t2, t3, t4⟩, w1, w2⟩
        · rw [if_neg h4, if_pos (Int32.not_lt.mp h4)]
          exact ⟨_, _, rfl, rfl, rfl, T, S, sz, tl, ⟨n1, n2, rfl⟩, ⟨s1, s2, s3⟩, ⟨t1, t2, t3, t4⟩, w1, w2⟩
      · rw [if_neg h3, if_neg h3]
        exact ⟨_, _, rfl, rfl, rfl, T, S, sz, tl, ⟨n1, n2, rfl⟩, ⟨s1, s2, s3⟩, ⟨t1, t2, t3, t4⟩, w1, w2⟩
    · rw [if_neg h2, if_neg h2]
      exact ⟨_, _, rfl, rfl, rfl, T, S, sz, tl, ⟨n1, n2, rfl⟩, ⟨s1, s2, s3⟩, ⟨t1, t2, t3, t4⟩, w1, w2⟩
  · rw [if_neg h1, if_neg h1]
    exact ⟨_, _, rfl, rfl, rfl, T, S, sz, tl, ⟨n1, n2, rfl⟩, ⟨s1, s2, s3⟩, ⟨t1, t2, t3, t4⟩, w1, w2⟩

theorem op_next (hV : V < 2 ^ 20) (h : zRel V X M) (x y z u : Int32) : zOp V (gX_next X x y z u) (gM_next M x y z u) := by
  obtain ⟨T, S, sz, tl, ⟨n1, n2, n3⟩, ⟨s1, s2, s3⟩, ⟨t1, t2, t3, t4⟩, ⟨w1, w2⟩⟩ := h
  have hb := n1.1
  have hp : fX6_isPair x y X.2.1.1 = some (bI (iP (aNN T) x y)) := by rw [n2.1]; exact c_isPair
  unfold gX_next gM_next fX6_next fX7_next
  rw [n3, hp, e_areNodes n1, c_isArea, e_isArea, c_isFlag, show fX7_in u (0 : Int32) (1 : Int32) = some (bI (oN u (nI 0) (nI 1))) from e_in3]
  simp only [Option.bind_some, ite_bI]
  by_cases h1 : iP (aNN T) x y
  · rw [if_pos h1, if_pos h1]
    by_cases h2 : iN 4 z
    · rw [if_pos h2, if_pos h2]
      by_cases h3 : oN u (nI 0) (nI 1)
      · rw [if_pos h3, if_pos h3]
        obtain ⟨n, t, hn, ht, hnt, rfl, rfl⟩ := (iP_ex (by omega)).mp h1
        obtain ⟨a, ha, rfl⟩ := (iN_ex (by omega)).mp h2
        obtain ⟨pt, -, hpt, rfl⟩ := (oN_ex (by omega) (by omega)).mp h3
        obtain ⟨m, e, q, r, d, c1, c2, hm, hg, hL, hd, g1, g2⟩ := c_search n1 hV n2 (n := n) (a := a) (b := 1) (t := t) (by omega) ha (by omega) ht (s1 := X.2.2.2.2.2.1.2.2.1) (s2 := X.2.2.2.2.2.1.2.2.2.1) (s3 := X.2.2.2.2.2.1.2.2.2.2.1) (s4 := X.2.2.2.2.2.1.2.2.2.2.2.1) (s5 := X.2.2.2.2.2.1.2.2.2.2.2.2)
        obtain ⟨q', d', f0, hs, f1, f2, f3⟩ := e_find n1 hV (n := n) (a := a) (b := 1) (t := t) (by omega) ha (by omega) ht (sums := M.2.2.2.2.2.2.2.2.2.2.2.2.2.2.2.2.2.2.1) (steps := M.2.2.2.2.2.2.2.2.2.2.2.2.2.2.2.2.2.2.2.1)
        obtain ⟨ed, ch, k1, k2, k3⟩ := x_next n1 hV (n := n) (a := a) (b := 1) (by omega) ha (by omega) hm hg hL hd g1 g2 hs f1 f2 f3 (u := n) (by omega) (ch := M.2.2.2.2.2.2.2.2.2.2.2.2.2.2.2.2.2.2.2.2.1)
        rw [show (1 : Int32) = nI 1 from zl1, c1, f0]
        simp only [Option.bind_some]
        rw [c2, Option.bind_some, k1, k2, Option.bind_some, Option.bind_some]
        rcases k3 with ⟨e1, e2⟩ | ⟨j, v, i, c, hj, e1, e2, e3, e4, hvw⟩
        · rw [e1, e2, if_neg (show ¬ (0 : Int32) ≤ -1 by decide)]
          dsimp only
          rw [if_pos rfl]
          exact ⟨_, _, rfl, rfl, rfl, T, S, sz, tl, ⟨n1, n2, rfl⟩, ⟨s1, s2, s3⟩, ⟨t1, t2, t3, t4⟩, w1, w2⟩
        · have hi := aEx.lt n1 (aVw_ex hvw).1
          rw [e1, e4, if_pos (nI_pos' (by omega)), gd_in (show j < 35 by omega), gd_in (show j < 35 by omega), nI_cl (by omega), e2, e3]
          dsimp only
          rw [if_neg (show ¬ nI i = -9 from nI_neg (by omega) (by decide))]
          by_cases h4 : nI pt = 0
          · rw [if_pos h4, if_pos h4]
            exact ⟨_, _, rfl, rfl, rfl, T, S, sz, tl, ⟨n1, n2, rfl⟩, ⟨s1, s2, s3⟩, ⟨t1, t2, t3, t4⟩, w1, w2⟩
          · rw [if_neg h4, if_neg h4]
            exact ⟨_, _, rfl, rfl, rfl, T, S, sz, tl, ⟨n1, n2, rfl⟩, ⟨s1, s2, s3⟩, ⟨t1, t2, t3, t4⟩, w1, w2⟩
      · rw [if_neg h3, if_neg h3]
        exact ⟨_, _, rfl, rfl, rfl, T, S, sz, tl, ⟨n1, n2, rfl⟩, ⟨s1, s2, s3⟩, ⟨t1, t2, t3, t4⟩, w1, w2⟩
    · rw [if_neg h2, if_neg h2]
      exact ⟨_, _, rfl, rfl, rfl, T, S, sz, tl, ⟨n1, n2, rfl⟩, ⟨s1, s2, s3⟩, ⟨t1, t2, t3, t4⟩, w1, w2⟩
  · rw [if_neg h1, if_neg h1]
    exact ⟨_, _, rfl, rfl, rfl, T, S, sz, tl, ⟨n1, n2, rfl⟩, ⟨s1, s2, s3⟩, ⟨t1, t2, t3, t4⟩, w1, w2⟩

theorem e_send_26 {v t ch co : Int32} {su st pa way : Nat → Int32} {c : Nat} (hc : c ≤ 20) : lX7_send_26 v t su st ch pa (nI c) co 0 way = some (v, t, fun j => if j < c + 1 then pa j else way j, nI c, co, 1, su, st, ch, pa, nI c, co) := by
  have e0 : ((0 : Int32), way) = (nI 0, fun j => if j < 0 then pa j else way j) := by
    refine Prod.ext zl0 (funext fun j => ?_)
    dsimp only
    rw [if_neg (by omega)]
  show wh _ ((0 : Int32), way) = _
  rw [e0]
  refine wh_seq _ (c + 1) (fun i => (nI i, fun j => if j < i then pa j else way j)) _ (fun i hi => ?_) ?_
  · show sX7_send_26 v t su st ch pa (nI c) co (nI i) (fun j => if j < i then pa j else way j) = _
    unfold sX7_send_26
    rw [ite_ltN (by omega) (by omega), if_neg (by omega), gd_in (by omega), gd_in (by omega), nm_eq, nI_1, nI_cl (by omega)]
    refine congrArg (fun z => some (Sum.inl (nI (i + 1), z))) (funext fun j => ?_)
    unfold upd
    by_cases h1 : j = i
    · subst h1
      rw [if_pos rfl, if_pos (by omega)]
    · rw [if_neg h1]
      dsimp only
      by_cases h2 : j < i
      · rw [if_pos h2, if_pos (by omega)]
      · rw [if_neg h2, if_neg (by omega)]
  · show sX7_send_26 v t su st ch pa (nI c) co (nI (c + 1)) (fun j => if j < c + 1 then pa j else way j) = _
    unfold sX7_send_26
    rw [ite_ltN (by omega) (by omega), if_pos (by omega)]
    rfl
theorem op_send (hV : V < 2 ^ 20) (h : zRel V X M) (x y : Int32) : zOp V (gX_send X x y) (gM_send M x y) := by
  obtain ⟨T, S, sz, tl, ⟨n1, n2, n3⟩, ⟨s1, s2, s3⟩, ⟨t1, t2, t3, t4⟩, ⟨w1, w2⟩⟩ := h
  have hb := n1.1
  have hp : fX6_isPair x y X.2.1.1 = some (bI (iP (aNN T) x y)) := by rw [n2.1]; exact c_isPair
  unfold gX_send gM_send fX6_send fX7_send
  rw [n3, hp, e_areNodes n1]
  simp only [Option.bind_some, ite_bI]
  by_cases h1 : iP (aNN T) x y
  · rw [if_pos h1, if_pos h1]
    obtain ⟨f, t, hf, ht, hft, rfl, rfl⟩ := (iP_ex (by omega)).mp h1
    obtain ⟨R1, R2, r1, r2, r3, c, hc, r4, r5, r6, r7⟩ := p_travel n1 hV n2 hf ht (st := X.2.2.2.2.2.2.1.2.2.1) (g1 := X.2.2.2.2.2.1.1) (g2 := X.2.2.2.2.2.1.2.1) (g3 := X.2.2.2.2.2.1.2.2.1) (g4 := X.2.2.2.2.2.1.2.2.2.1) (g5 := X.2.2.2.2.2.1.2.2.2.2.1) (g6 := X.2.2.2.2.2.1.2.2.2.2.2.1) (g7 := X.2.2.2.2.2.1.2.2.2.2.2.2) (sums := M.2.2.2.2.2.2.2.2.2.2.2.2.2.2.2.2.2.2.1) (steps := M.2.2.2.2.2.2.2.2.2.2.2.2.2.2.2.2.2.2.2.1) (ch := M.2.2.2.2.2.2.2.2.2.2.2.2.2.2.2.2.2.2.2.2.1) (pa := M.2.2.2.2.2.2.2.2.2.2.2.2.2.2.2.2.2.2.2.2.2.1)
    rw [r1, r2]
    simp only [Option.bind_some]
    rw [r5, e_send_26 hc]
    exact ⟨_, _, rfl, rfl, r3, T, S, sz, tl, ⟨n1, n2, rfl⟩, ⟨s1, s2, s3⟩, ⟨t1, t2, t3, t4⟩, rfl, Or.inr ⟨rfl, c, hc, r4, rfl, r6, fun j hj => (r7 j hj).trans (if_pos (by omega : j < c + 1)).symm⟩⟩
  · rw [if_neg h1, if_neg h1]
    exact ⟨_, _, rfl, rfl, rfl, T, S, sz, tl, ⟨n1, n2, rfl⟩, ⟨s1, s2, s3⟩, ⟨t1, t2, t3, t4⟩, w1, w2⟩
theorem op_way (h : zRel V X M) (x : Int32) : zOp V (gX_way X x) (gM_way M x) := by
  refine z_look h ?_
  obtain ⟨T, S, sz, tl, ⟨n1, n2, n3⟩, ⟨s1, s2, s3⟩, ⟨t1, t2, t3, t4⟩, ⟨w1, w2⟩⟩ := h
  have hb := n1.1
  unfold fX6_way fX7_way
  by_cases h1 : (-2 : Int32) ≤ x
  · rw [if_pos h1, if_pos h1, ← w1]
    rcases w2 with w2 | ⟨w2, c, hc, w3, w4, w5, w6⟩
    · rw [if_pos w2, if_pos w2]
      exact ⟨_, _, rfl, rfl⟩
    · rw [if_neg (show ¬ X.1.2 = 0 by rw [w2]; decide), if_neg (show ¬ X.1.2 = 0 by rw [w2]; decide), w3, w4, w5]
      by_cases h2 : x = -2
      · subst h2
        rw [if_pos rfl, if_neg (by decide), if_pos rfl]
        exact ⟨_, _, rfl, rfl⟩
      · by_cases h3 : x = -1
        · subst h3
          rw [if_neg h2, if_pos rfl, if_pos rfl]
          exact ⟨_, _, rfl, rfl⟩
        · have h0 : ¬ x < 0 := by
            intro q
            have q1 := Int32.lt_iff_toInt_lt.mp q
            have q2 := Int32.le_iff_toInt_le.mp h1
            have z0 : (0 : Int32).toInt = 0 := rfl
            have z1 : (-2 : Int32).toInt = -2 := rfl
            have z2 : (-1 : Int32).toInt = -1 := rfl
            have q3 : ¬ x.toInt = -2 := fun z => h2 (Int32.toInt_inj.mp (z.trans z1.symm))
            have q4 : ¬ x.toInt = -1 := fun z => h3 (Int32.toInt_inj.mp (z.trans z2.symm))
            omega
          obtain ⟨j, hj, rfl⟩ := nI_of h0
          rw [if_neg h2, if_neg h3, if_neg h3, if_neg h2, ite_ltN (by omega) hj, ite_ltN (by omega) hj]
          by_cases h4 : c < j
          · rw [if_pos h4, if_pos h4]
            exact ⟨_, _, rfl, rfl⟩
          · rw [if_neg h4, if_neg h4, gd_in (by omega), gd_in (by omega), nI_cl hj, w6 j (by omega)]
            exact ⟨_, _, rfl, rfl⟩
  · rw [if_neg h1, if_neg h1]
    exact ⟨_, _, rfl, rfl⟩

abbrev zOa : Type := Int32 × Int32 × Int32 × Int32 × (Nat → Int32) × (Nat → Int32) × (Nat → Int32) × (Nat → Int32) × (Nat → Int32) × Int32 × Int32 × (Nat → Int32) × Int32 × Int32 × Int32
abbrev zOb : Type := Int32 × Int32 × (Nat → Int32) × (Nat → Int32) × Int32 × (Nat → Int32) × Int32 × Int32
def oRel (i : Nat) (a : zOa) (b : zOb) : Prop := a.1 = b.1 ∧ a.2.1 = nI i ∧ b.2.1 = nI i
theorem o_in (hI : aInv V T) (hV : V < 2 ^ 20) {N : zNet} (hR : aRel T N) {f : Nat} (hf : f < aNN T) {x : Int32} {a : zOa} {b : zOb} (h : oRel 0 a b) :
    ∃ a' b', wh (fun b : zOa => sX6_outcomes_29 x (nI f) N.1 N.2.1 N.2.2.1 N.2.2.2.2.1 N.2.2.2.2.2.1 N.2.2.2.2.2.2.1 N.2.2.2.2.2.2.2.1 N.2.2.2.2.2.2.2.2.1 N.2.2.2.2.2.2.2.2.2.1 N.2.2.2.2.2.2.2.2.2.2.1 N.2.2.2.2.2.2.2.2.2.2.2.1 b.1 b.2.1 b.2.2.1 b.2.2.2.1 b.2.2.2.2.1 b.2.2.2.2.2.1 b.2.2.2.2.2.2.1 b.2.2.2.2.2.2.2.1 b.2.2.2.2.2.2.2.2.1 b.2.2.2.2.2.2.2.2.2.1 b.2.2.2.2.2.2.2.2.2.2.1 b.2.2.2.2.2.2.2.2.2.2.2.1 b.2.2.2.2.2.2.2.2.2.2.2.2.1 b.2.2.2.2.2.2.2.2.2.2.2.2.2.1 b.2.2.2.2.2.2.2.2.2.2.2.2.2.2) a = some (.inl a') ∧ wh (fun b : zOb => sX7_outcomes_33 x (nI f) (zI T) b.1 b.2.1 b.2.2.1 b.2.2.2.1 b.2.2.2.2.1 b.2.2.2.2.2.1 b.2.2.2.2.2.2.1 b.2.2.2.2.2.2.2) b = some (.inl b') ∧ oRel (f + 1) a' b' := by
  have hb := hI.1
  have hs : ∀ (i : Nat) (a : zOa) (b : zOb), i < aNN T + 1 → (i ≤ aNN T ∧ oRel i a b) → (∃ a' b', sX6_outcomes_29 x (nI f) N.1 N.2.1 N.2.2.1 N.2.2.2.2.1 N.2.2.2.2.2.1 N.2.2.2.2.2.2.1 N.2.2.2.2.2.2.2.1 N.2.2.2.2.2.2.2.2.1 N.2.2.2.2.2.2.2.2.2.1 N.2.2.2.2.2.2.2.2.2.2.1 N.2.2.2.2.2.2.2.2.2.2.2.1 a.1 a.2.1 a.2.2.1 a.2.2.2.1 a.2.2.2.2.1 a.2.2.2.2.2.1 a.2.2.2.2.2.2.1 a.2.2.2.2.2.2.2.1 a.2.2.2.2.2.2.2.2.1 a.2.2.2.2.2.2.2.2.2.1 a.2.2.2.2.2.2.2.2.2.2.1 a.2.2.2.2.2.2.2.2.2.2.2.1 a.2.2.2.2.2.2.2.2.2.2.2.2.1 a.2.2.2.2.2.2.2.2.2.2.2.2.2.1 a.2.2.2.2.2.2.2.2.2.2.2.2.2.2 = some (.inl a') ∧ sX7_outcomes_33 x (nI f) (zI T) b.1 b.2.1 b.2.2.1 b.2.2.2.1 b.2.2.2.2.1 b.2.2.2.2.2.1 b.2.2.2.2.2.2.1 b.2.2.2.2.2.2.2 = some (.inl b') ∧ (i + 1 ≤ aNN T ∧ oRel (i + 1) a' b')) ∨ (∃ r1 r2, sX6_outcomes_29 x (nI f) N.1 N.2.1 N.2.2.1 N.2.2.2.2.1 N.2.2.2.2.2.1 N.2.2.2.2.2.2.1 N.2.2.2.2.2.2.2.1 N.2.2.2.2.2.2.2.2.1 N.2.2.2.2.2.2.2.2.2.1 N.2.2.2.2.2.2.2.2.2.2.1 N.2.2.2.2.2.2.2.2.2.2.2.1 a.1 a.2.1 a.2.2.1 a.2.2.2.1 a.2.2.2.2.1 a.2.2.2.2.2.1 a.2.2.2.2.2.2.1 a.2.2.2.2.2.2.2.1 a.2.2.2.2.2.2.2.2.1 a.2.2.2.2.2.2.2.2.2.1 a.2.2.2.2.2.2.2.2.2.2.1 a.2.2.2.2.2.2.2.2.2.2.2.1 a.2.2.2.2.2.2.2.2.2.2.2.2.1 a.2.2.2.2.2.2.2.2.2.2.2.2.2.1 a.2.2.2.2.2.2.2.2.2.2.2.2.2.2 = some (.inr r1) ∧ sX7_outcomes_33 x (nI f) (zI T) b.1 b.2.1 b.2.2.1 b.2.2.2.1 b.2.2.2.2.1 b.2.2.2.2.2.1 b.2.2.2.2.2.2.1 b.2.2.2.2.2.2.2 = some (.inr r2) ∧ ∃ a' b', r1 = .inl a' ∧ r2 = .inl b' ∧ oRel (f + 1) a' b') := by
    intro i a b hi hp
    obtain ⟨hi2, p1, p2, p3⟩ := hp
    unfold sX6_outcomes_29 sX7_outcomes_33
    rw [p2, p3, show vp_in (0 : Int32) 1557 = vp_in (nI 0) 1557 from rfl, gd_in (by omega), show (0 : Int32).toNatClampNeg = 0 from rfl, zI_h (by omega), ite_k hR.1 (show aNN T < 2 ^ 31 by omega) (by omega), ite_leN (show aNN T < 2 ^ 31 by omega) (by omega)]
    by_cases hl : aNN T ≤ i
    · rw [if_pos hl, if_pos hl]
      right
      unfold uX6_outcomes_78 uX7_outcomes_75
      rw [nm_eq, nm_eq, nI_1]
      exact ⟨_, _, rfl, rfl, _, _, rfl, rfl, p1, rfl, rfl⟩
    · rw [if_neg hl, if_neg hl]
      left
      by_cases hfi : nI f = nI i
      · rw [if_pos hfi, if_pos hfi]
        unfold uX6_outcomes_72 uX7_outcomes_66 uX7_outcomes_67
        rw [nm_eq, nm_eq, nm_eq, nI_1, show b.1 + (0 : Int32) = b.1 from Int32.add_zero _]
        exact ⟨_, _, rfl, rfl, by omega, p1, rfl, rfl⟩
      · rw [if_neg hfi, if_neg hfi]
        obtain ⟨R1, R2, t1, t2, t3, -⟩ := p_travel hI hV hR hf (t := i) (by omega) (st := a.2.2.2.2.2.2.2.2.2.2.2.1) (g1 := a.2.2.1) (g2 := a.2.2.2.1) (g3 := a.2.2.2.2.1) (g4 := a.2.2.2.2.2.1) (g5 := a.2.2.2.2.2.2.1) (g6 := a.2.2.2.2.2.2.2.1) (g7 := a.2.2.2.2.2.2.2.2.1) (sums := b.2.2.1) (steps := b.2.2.2.1) (ch := b.2.2.2.2.1) (pa := b.2.2.2.2.2.1)
        rw [t1, t2, Option.bind_some, Option.bind_some, t3]
        by_cases hx : R2.1 = x
        · rw [if_pos hx, if_pos hx]
          unfold uX6_outcomes_72 uX7_outcomes_67
          rw [nm_eq, nm_eq, nm_eq, nm_eq, nI_1, p1]
          exact ⟨_, _, rfl, rfl, by omega, rfl, rfl, rfl⟩
        · rw [if_neg hx, if_neg hx]
          unfold uX6_outcomes_72 uX7_outcomes_66 uX7_outcomes_67
          rw [nm_eq, nm_eq, nm_eq, nI_1, show b.1 + (0 : Int32) = b.1 from Int32.add_zero _]
          exact ⟨_, _, rfl, rfl, by omega, p1, rfl, rfl⟩
  obtain ⟨r1, r2, q1, q2, q3⟩ := wh_two (fun b : zOa => sX6_outcomes_29 x (nI f) N.1 N.2.1 N.2.2.1 N.2.2.2.2.1 N.2.2.2.2.2.1 N.2.2.2.2.2.2.1 N.2.2.2.2.2.2.2.1 N.2.2.2.2.2.2.2.2.1 N.2.2.2.2.2.2.2.2.2.1 N.2.2.2.2.2.2.2.2.2.2.1 N.2.2.2.2.2.2.2.2.2.2.2.1 b.1 b.2.1 b.2.2.1 b.2.2.2.1 b.2.2.2.2.1 b.2.2.2.2.2.1 b.2.2.2.2.2.2.1 b.2.2.2.2.2.2.2.1 b.2.2.2.2.2.2.2.2.1 b.2.2.2.2.2.2.2.2.2.1 b.2.2.2.2.2.2.2.2.2.2.1 b.2.2.2.2.2.2.2.2.2.2.2.1 b.2.2.2.2.2.2.2.2.2.2.2.2.1 b.2.2.2.2.2.2.2.2.2.2.2.2.2.1 b.2.2.2.2.2.2.2.2.2.2.2.2.2.2) (fun b : zOb => sX7_outcomes_33 x (nI f) (zI T) b.1 b.2.1 b.2.2.1 b.2.2.2.1 b.2.2.2.2.1 b.2.2.2.2.2.1 b.2.2.2.2.2.2.1 b.2.2.2.2.2.2.2) (aNN T + 1) (fun i a b => i ≤ aNN T ∧ oRel i a b) (fun r1 r2 => ∃ a' b', r1 = .inl a' ∧ r2 = .inl b' ∧ oRel (f + 1) a' b') hs (fun a b hp => by omega) 0 a b (by omega) ⟨by omega, h⟩
  obtain ⟨a', b', e1, e2, e3⟩ := q3
  subst e1 e2
  exact ⟨a', b', q1, q2, e3⟩
theorem op_outcomes (hV : V < 2 ^ 20) (h : zRel V X M) (x : Int32) : zOp V (gX_outcomes X x) (gM_outcomes M x) := by
  obtain ⟨T, S, sz, tl, ⟨n1, n2, n3⟩, ⟨s1, s2, s3⟩, ⟨t1, t2, t3, t4⟩, ⟨w1, w2⟩⟩ := h
  have hb := n1.1
  unfold gX_outcomes gM_outcomes fX6_outcomes fX7_outcomes
  rw [n3, show fX7_in x (0 : Int32) (4 : Int32) = some (bI (oN x 0 4)) from e_in2, Option.bind_some, ite_bI]
  by_cases h1 : oN x 0 4
  · rw [if_pos h1, if_neg h1.1, if_pos (Int32.not_lt.mp h1.2)]
    have hs : ∀ (i : Nat) (a : zOa) (b : zOb), i < aNN T + 1 → (i ≤ aNN T ∧ oRel i a b) → (∃ a' b', sX6_outcomes_15 x X.2.1.1 X.2.1.2.1 X.2.1.2.2.1 X.2.1.2.2.2.2.1 X.2.1.2.2.2.2.2.1 X.2.1.2.2.2.2.2.2.1 X.2.1.2.2.2.2.2.2.2.1 X.2.1.2.2.2.2.2.2.2.2.1 X.2.1.2.2.2.2.2.2.2.2.2.1 X.2.1.2.2.2.2.2.2.2.2.2.2.1 X.2.1.2.2.2.2.2.2.2.2.2.2.2.1 a.1 a.2.1 a.2.2.1 a.2.2.2.1 a.2.2.2.2.1 a.2.2.2.2.2.1 a.2.2.2.2.2.2.1 a.2.2.2.2.2.2.2.1 a.2.2.2.2.2.2.2.2.1 a.2.2.2.2.2.2.2.2.2.1 a.2.2.2.2.2.2.2.2.2.2.1 a.2.2.2.2.2.2.2.2.2.2.2.1 a.2.2.2.2.2.2.2.2.2.2.2.2.1 a.2.2.2.2.2.2.2.2.2.2.2.2.2.1 a.2.2.2.2.2.2.2.2.2.2.2.2.2.2 = some (.inl a') ∧ sX7_outcomes_20 x 0 (zI T) b.1 b.2.1 b.2.2.1 b.2.2.2.1 b.2.2.2.2.1 b.2.2.2.2.2.1 b.2.2.2.2.2.2.1 b.2.2.2.2.2.2.2 = some (.inl b') ∧ (i + 1 ≤ aNN T ∧ oRel (i + 1) a' b')) ∨ (∃ r1 r2, sX6_outcomes_15 x X.2.1.1 X.2.1.2.1 X.2.1.2.2.1 X.2.1.2.2.2.2.1 X.2.1.2.2.2.2.2.1 X.2.1.2.2.2.2.2.2.1 X.2.1.2.2.2.2.2.2.2.1 X.2.1.2.2.2.2.2.2.2.2.1 X.2.1.2.2.2.2.2.2.2.2.2.1 X.2.1.2.2.2.2.2.2.2.2.2.2.1 X.2.1.2.2.2.2.2.2.2.2.2.2.2.1 a.1 a.2.1 a.2.2.1 a.2.2.2.1 a.2.2.2.2.1 a.2.2.2.2.2.1 a.2.2.2.2.2.2.1 a.2.2.2.2.2.2.2.1 a.2.2.2.2.2.2.2.2.1 a.2.2.2.2.2.2.2.2.2.1 a.2.2.2.2.2.2.2.2.2.2.1 a.2.2.2.2.2.2.2.2.2.2.2.1 a.2.2.2.2.2.2.2.2.2.2.2.2.1 a.2.2.2.2.2.2.2.2.2.2.2.2.2.1 a.2.2.2.2.2.2.2.2.2.2.2.2.2.2 = some (.inr r1) ∧ sX7_outcomes_20 x 0 (zI T) b.1 b.2.1 b.2.2.1 b.2.2.2.1 b.2.2.2.2.1 b.2.2.2.2.2.1 b.2.2.2.2.2.2.1 b.2.2.2.2.2.2.2 = some (.inr r2) ∧ r1.1 = r2.1) := by
      intro i a b hi hp
      obtain ⟨hi2, hP⟩ := hp
      obtain ⟨p1, p2, p3⟩ := hP
      unfold sX6_outcomes_15 sX7_outcomes_20
      rw [p2, p3, show vp_in (0 : Int32) 1557 = vp_in (nI 0) 1557 from rfl, gd_in (by omega), show (0 : Int32).toNatClampNeg = 0 from rfl, zI_h (by omega), ite_k n2.1 (show aNN T < 2 ^ 31 by omega) (by omega), ite_leN (show aNN T < 2 ^ 31 by omega) (by omega)]
      by_cases hl : aNN T ≤ i
      · rw [if_pos hl, if_pos hl]
        exact Or.inr ⟨_, _, rfl, rfl, p1⟩
      · rw [if_neg hl, if_neg hl]
        left
        obtain ⟨a', b', e1, e2, e3⟩ := o_in n1 hV n2 (f := i) (by omega) (x := x) (a := (a.1, 0, a.2.2)) (b := (b.1, 0, b.2.2)) ⟨p1, rfl, rfl⟩
        exact ⟨a', b', e1, e2, by omega, e3⟩
    obtain ⟨r1, r2, q1, q2, q3⟩ := wh_two (fun b : zOa => sX6_outcomes_15 x X.2.1.1 X.2.1.2.1 X.2.1.2.2.1 X.2.1.2.2.2.2.1 X.2.1.2.2.2.2.2.1 X.2.1.2.2.2.2.2.2.1 X.2.1.2.2.2.2.2.2.2.1 X.2.1.2.2.2.2.2.2.2.2.1 X.2.1.2.2.2.2.2.2.2.2.2.1 X.2.1.2.2.2.2.2.2.2.2.2.2.1 X.2.1.2.2.2.2.2.2.2.2.2.2.2.1 b.1 b.2.1 b.2.2.1 b.2.2.2.1 b.2.2.2.2.1 b.2.2.2.2.2.1 b.2.2.2.2.2.2.1 b.2.2.2.2.2.2.2.1 b.2.2.2.2.2.2.2.2.1 b.2.2.2.2.2.2.2.2.2.1 b.2.2.2.2.2.2.2.2.2.2.1 b.2.2.2.2.2.2.2.2.2.2.2.1 b.2.2.2.2.2.2.2.2.2.2.2.2.1 b.2.2.2.2.2.2.2.2.2.2.2.2.2.1 b.2.2.2.2.2.2.2.2.2.2.2.2.2.2) (fun b : zOb => sX7_outcomes_20 x 0 (zI T) b.1 b.2.1 b.2.2.1 b.2.2.2.1 b.2.2.2.2.1 b.2.2.2.2.2.1 b.2.2.2.2.2.2.1 b.2.2.2.2.2.2.2) (aNN T + 1) (fun i a b => i ≤ aNN T ∧ oRel i a b) (fun r1 r2 => r1.1 = r2.1) hs (fun a b hp => by omega) 0 (0, 0, X.2.2.2.2.2.1.1, X.2.2.2.2.2.1.2.1, X.2.2.2.2.2.1.2.2.1, X.2.2.2.2.2.1.2.2.2.1, X.2.2.2.2.2.1.2.2.2.2.1, X.2.2.2.2.2.1.2.2.2.2.2.1, X.2.2.2.2.2.1.2.2.2.2.2.2, X.2.2.2.2.2.2.2.1.1, X.2.2.2.2.2.2.2.1.2.1, X.2.2.2.2.2.2.2.1.2.2.1, X.2.2.2.2.2.2.2.1.2.2.2.1, X.2.2.2.2.2.2.2.1.2.2.2.2.1, X.2.2.2.2.2.2.2.1.2.2.2.2.2) (0, 0, M.2.2.2.2.2.2.2.2.2.2.2.2.2.2.2.2.2.2.1, M.2.2.2.2.2.2.2.2.2.2.2.2.2.2.2.2.2.2.2.1, M.2.2.2.2.2.2.2.2.2.2.2.2.2.2.2.2.2.2.2.2.1, M.2.2.2.2.2.2.2.2.2.2.2.2.2.2.2.2.2.2.2.2.2.1, M.2.2.2.2.2.2.2.2.2.2.2.2.2.2.2.2.2.2.2.2.2.2.1, M.2.2.2.2.2.2.2.2.2.2.2.2.2.2.2.2.2.2.2.2.2.2.2.1) (by omega) ⟨by omega, rfl, rfl, rfl⟩
    refine z_bind q1 q2 ?_
    exact ⟨_, _, rfl, rfl, q3, T, S, sz, tl, ⟨n1, n2, rfl⟩, ⟨s1, s2, s3⟩, ⟨t1, t2, t3, t4⟩, w1, w2⟩
  · rw [if_neg h1]
    by_cases h2 : x < 0
    · rw [if_pos h2]
      exact ⟨_, _, rfl, rfl, rfl, T, S, sz, tl, ⟨n1, n2, rfl⟩, ⟨s1, s2, s3⟩, ⟨t1, t2, t3, t4⟩, w1, w2⟩
    · rw [if_neg h2, if_neg (fun q => h1 ⟨h2, Int32.not_lt.mpr q⟩)]
      exact ⟨_, _, rfl, rfl, rfl, T, S, sz, tl, ⟨n1, n2, rfl⟩, ⟨s1, s2, s3⟩, ⟨t1, t2, t3, t4⟩, w1, w2⟩

end P39z
