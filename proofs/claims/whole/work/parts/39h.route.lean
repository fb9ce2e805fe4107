/-! Both ways of finding the way agree. -/
section P39h
variable {T : zA} {V : Nat} {st co vv : Nat → Nat}
theorem c_ownersOpenTo (hV : V < 2 ^ 20) {row : Nat → Int32} {base nw a : Nat} (ha : a < 4) (hb : base + 16 ≤ nw) (hnw : nw < 2 ^ 31) (hrow : ∀ i, i < 16 → row (base + i) = nI (zpk (vv i) (st i) (co i)) ∧ vv i ≤ V ∧ st i ≤ 1 ∧ co i ≤ 40) : ∃ x, fX3_ownersOpenTo (nI a) (nI base) row nw = some x ∧ ∀ o, o < 4 → (bi x o = true ↔ (o = a ∨ st (4 * o + a) = 1)) := by
  unfold fX3_ownersOpenTo
  rw [nm_eq]
  refine wh_ex (fun b : Int32 × Int32 => sX3_ownersOpenTo_7 (nI a) (nI base) row nw b.1 b.2) 4 (fun k s => s.2 = nI k ∧ ∀ o, o < 4 → (bi s.1 o = true ↔ (o = a ∨ (o < k ∧ st (4 * o + a) = 1)))) (fun r => ∃ x, r = some x ∧ ∀ o, o < 4 → (bi x o = true ↔ (o = a ∨ st (4 * o + a) = 1))) ?_ ?_ 0 ((1 : Int32) <<< (nI a &&& 31), (0 : Int32)) (by omega) ⟨zl0, fun o ho => ?_⟩
  · rintro k ⟨x, y⟩ hk ⟨h1, h2⟩
    dsimp only at h1 h2
    subst h1
    left
    obtain ⟨w1, w2, w3, w4⟩ := hrow (4 * k + a) (by omega)
    have e37 : ∀ x, uX3_ownersOpenTo_37 x (nI k) = some (.inl (x, nI (k + 1))) := fun x => by unfold uX3_ownersOpenTo_37; rw [nm_eq, zl1, nI_add]
    dsimp only [sX3_ownersOpenTo_7]
    rw [zl4, ite_leN (by omega) (by omega), if_neg (by omega), c_grantItem]
    simp only [Option.bind_some]
    rw [nI_add, gd_in (by omega) hnw, nI_cl (by omega), w1, c_state w2 hV w3 w4]
    simp only [Option.bind_some]
    show ∃ s', (if nI (st (4 * k + a)) = nI 1 then _ else _) = _ ∧ _
    rw [ite_eqN (by omega) (by omega)]
    by_cases hs : st (4 * k + a) = 1
    · rw [if_pos hs, nm_eq, e37]
      refine ⟨_, rfl, rfl, fun o ho => ?_⟩
      dsimp only
      rw [bi_or (by omega) (by omega), Bool.or_eq_true, h2 o ho, decide_eq_true_iff]
      constructor
      · rintro ((h | ⟨h3, h4⟩) | h)
        · exact Or.inl h
        · exact Or.inr ⟨by omega, h4⟩
        · subst h; exact Or.inr ⟨by omega, hs⟩
      · rintro (h | ⟨h3, h4⟩)
        · exact Or.inl (Or.inl h)
        · by_cases e : o = k
          · exact Or.inr e
          · exact Or.inl (Or.inr ⟨by omega, h4⟩)
    · rw [if_neg hs, e37]
      refine ⟨_, rfl, rfl, fun o ho => ?_⟩
      rw [h2 o ho]
      constructor
      · rintro (h | ⟨h3, h4⟩)
        · exact Or.inl h
        · exact Or.inr ⟨by omega, h4⟩
      · rintro (h | ⟨h3, h4⟩)
        · exact Or.inl h
        · by_cases e : o = k
          · subst e; exact absurd h4 hs
          · exact Or.inr ⟨by omega, h4⟩
  · rintro ⟨x, y⟩ ⟨h1, h2⟩
    dsimp only at h1 h2
    subst h1
    refine ⟨some x, ?_, x, rfl, fun o ho => ?_⟩
    · dsimp only [sX3_ownersOpenTo_7]
      rw [zl4, ite_leN (by omega) (by omega), if_pos (by omega)]
    · rw [h2 o ho]
      constructor
      · rintro (h | ⟨h3, h4⟩)
        · exact Or.inl h
        · exact Or.inr h4
      · rintro (h | h4)
        · exact Or.inl h
        · exact Or.inr ⟨ho, h4⟩
  · dsimp only
    rw [bi_one (by omega) (by omega), decide_eq_true_iff]
    constructor
    · intro h; exact Or.inl h
    · rintro (h | ⟨h, -⟩)
      · exact h
      · omega
theorem c_disclosures (hI : aInv V T) (hV : V < 2 ^ 20) {facts : Nat → Int32} (hF : rF T facts) {n a : Nat} (hn : n < 10) (ha : a < 4) : ∃ x, fX3_disclosures (nI n) (nI a) facts = some x ∧ ∀ o, o < 4 → (bi x o = true ↔ (o = a ∨ T.2 n (4 * o + a) 1 = 1)) := by
  unfold fX3_disclosures
  rw [show (0 : Int32) = nI 0 from rfl, c_place]
  simp only [Option.bind_some]
  obtain ⟨x, h1, h2⟩ := c_ownersOpenTo (V := V) hV (row := facts) (base := n * 35 + 0) (nw := 350) (st := fun i => T.2 n i 1) (co := fun i => T.2 n i 2) (vv := fun i => T.2 n i 0) ha (by omega) (by omega) (fun i hi => by
    have hd := hI.db hn (i := i) (by omega)
    exact ⟨by rw [Nat.add_zero]; exact hF n i hn (by omega), hd.1, hd.2.1, hd.2.2.1⟩)
  rw [h1]
  exact ⟨x, rfl, h2⟩
theorem c_entitlements (hI : aInv V T) (hV : V < 2 ^ 20) {truth : Nat → Int32} (hU : rU T truth) {a : Nat} (ha : a < 4) : ∃ x, fX3_entitlements (nI a) truth = some x ∧ ∀ o, o < 4 → (bi x o = true ↔ (o = a ∨ aGr T (4 * o + a) = 1)) := by
  unfold fX3_entitlements
  rw [show (0 : Int32) = nI 0 from rfl]
  obtain ⟨x, h1, h2⟩ := c_ownersOpenTo (V := V) hV (row := truth) (base := 0) (nw := 35) (st := fun i => aGr T i) (co := fun i => 0) (vv := fun i => aGv T i) ha (by omega) (by omega) (fun i hi => by
    obtain ⟨x1, x2, x3⟩ := aTx_g (T := T) hi
    have := hI.2.2.2.2.2.2.1 i hi
    refine ⟨?_, this.2.1, this.1, by omega⟩
    rw [Nat.zero_add, hU i (by omega), x1, x2, x3])
  rw [h1]
  exact ⟨x, rfl, h2⟩
theorem c_takeView (hI : aInv V T) (hV : V < 2 ^ 20) {N : zNet} (hR : aRel T N) {n a b : Nat} (hn : n < 10) (ha : a < 4) (hb : b ≤ 1) {s1 s2 s3 s4 : Nat → Int32} :
    ∃ m e q, fX2_takeView (nI n) (nI a) (nI b) s1 s2 s3 s4 N.1 N.2.1 N.2.2.1 N.2.2.2.2.1 N.2.2.2.2.2.1 N.2.2.2.2.2.2.1 N.2.2.2.2.2.2.2.1 N.2.2.2.2.2.2.2.2.1 N.2.2.2.2.2.2.2.2.2.1 N.2.2.2.2.2.2.2.2.2.2.2.1 = some (nI (aNN T), nI m, q) ∧ m ≤ 35 ∧ rG m e q.1 q.2.1 q.2.2.1 q.2.2.2 ∧ gL (aVw T n a b) m e := by
  obtain ⟨r1, r2, r3, r4, r5, r6, r7, r8, r9, r10⟩ := hR
  have h1 := hI.1
  unfold fX2_takeView
  obtain ⟨x, x1, x2⟩ := c_disclosures hI hV r9 hn ha
  rw [show (0 : Int32) = nI 0 from rfl, c_place, x1, r1, r2, r3]
  simp only [Option.bind_some]
  have row : ∀ i, i < 35 → N.2.2.2.2.2.2.2.2.2.2.2.1 (n * 35 + 0 + i) = nI (zpk (T.2 n i 0) (T.2 n i 1) (T.2 n i 2)) ∧ T.2 n i 0 ≤ V ∧ T.2 n i 1 ≤ 1 ∧ T.2 n i 2 ≤ 40 := fun i hi => by
    have hd := hI.db hn hi
    exact ⟨by rw [Nat.add_zero]; exact r9 n i hn hi, hd.1, hd.2.1, hd.2.2.1⟩
  obtain ⟨m, e, q, q1, q2, q3, q4⟩ := c_takeLinks_facts (T := T) (V := V) (st := fun i => T.2 n i 1) (co := fun i => T.2 n i 2) (vv := fun i => T.2 n i 0) (O := fun o => o = a ∨ T.2 n (4 * o + a) 1 = 1) (starts := s1) (ends := s2) (lengths := s3) (items := s4) hI hV r5 r6 (base := n * 35 + 0) (by omega) (fun k hk => row (16 + k) (by omega)) x2
  rw [q1]
  simp only [Option.bind_some]
  rw [ite_eqN (by omega) (by omega)]
  by_cases hb0 : b = 0
  · rw [if_pos hb0]
    refine ⟨m, e, q, rfl, by omega, q3, ?_⟩
    unfold aVw
    rw [if_pos hb0]
    exact q4
  · rw [if_neg hb0]
    obtain ⟨m', e', q', p1, p2, p3, p4⟩ := c_takeTunnels (T := T) (V := V) (st := fun i => T.2 n i 1) (co := fun i => T.2 n i 2) (vv := fun i => T.2 n i 0) (O := fun o => o = a ∨ T.2 n (4 * o + a) 1 = 1) hI hV r7 (base := n * 35 + 0) (by omega) (fun k hk => row (32 + k) (by omega)) (by omega) q3 q4
    rw [p1]
    refine ⟨m', e', q', rfl, p2, p3, ?_⟩
    unfold aVw
    rw [if_neg hb0]
    exact p4
/-- the class's search in a view -/
theorem c_search (hI : aInv V T) (hV : V < 2 ^ 20) {N : zNet} (hR : aRel T N) {n a b t : Nat} (hn : n < 10) (ha : a < 4) (hb : b ≤ 1) (ht : t < aNN T) {s1 s2 s3 s4 s5 : Nat → Int32} :
    ∃ m e q r d, fX2_takeView (nI n) (nI a) (nI b) s1 s2 s3 s4 N.1 N.2.1 N.2.2.1 N.2.2.2.2.1 N.2.2.2.2.2.1 N.2.2.2.2.2.2.1 N.2.2.2.2.2.2.2.1 N.2.2.2.2.2.2.2.2.1 N.2.2.2.2.2.2.2.2.2.1 N.2.2.2.2.2.2.2.2.2.2.2.1 = some (nI (aNN T), nI m, q) ∧ fX2_measureTo (nI t) (nI (aNN T)) (nI m) q.1 q.2.1 q.2.2.1 s5 = some r ∧ m ≤ 35 ∧ rG m e q.1 q.2.1 q.2.2.1 q.2.2.2 ∧ gL (aVw T n a b) m e ∧ rD d r ∧ gGood (gP (gQ (aVw T n a b)) 100) t 1000000 d ∧ gFix (gP (gQ (aVw T n a b)) 100) d := by
  obtain ⟨m, e, q, h1, h2, h3, h4⟩ := c_takeView hI hV hR hn ha hb (s1 := s1) (s2 := s2) (s3 := s3) (s4 := s4)
  obtain ⟨r, d, g1, g2, g3, g4⟩ := c_measureTo (r := s5) hI.1.1 ht (aVw_ok hI (a := a) (b := b) hn) h2 h3 h4
  exact ⟨m, e, q, r, d, h1, g1, h2, h3, h4, g2, g3, g4⟩
/-- distances agree -/
theorem x_cost (hI : aInv V T) {n a b t : Nat} (hn : n < 10) {r : Nat → Int32} {d : Nat → Nat} (hd : rD d r) (g1 : gGood (gP (gQ (aVw T n a b)) 100) t 1000000 d) (g2 : gFix (gP (gQ (aVw T n a b)) 100) d) {sums steps : Nat → Int32} {d' : Nat → Nat} (hs : rS d' sums steps) (f1 : gGood (gB T n a b) t 10000000000 d') (f2 : gFix (gB T n a b) d') {u : Nat} (hu : u < 10) : fX2_costFrom (nI u) r = some (if sums u < 1000000 then sums u else -9) := by
  rw [c_costFrom hd hu (g1.2.1 u), (hs u hu).1, zl1000000]
  rcases gLink hI.1.1 (aVw_ok hI hn) g1 g2 f1 f2 u with ⟨e1, e2⟩ | ⟨s, k, e1, e2, e3, e4⟩
  · rw [if_neg (by omega), if_neg (by rw [nI_ltI (by omega) (by omega)]; omega)]
  · rw [if_pos (by omega), if_pos (by rw [nI_ltI (by omega) (by omega)]; omega)]
    congr 2
    omega
/-- the first steps agree -/
theorem x_next (hI : aInv V T) (hV : V < 2 ^ 20) {n a b t : Nat} (hn : n < 10) (ha : a < 4) (hb : b ≤ 1) {m : Nat} {e : Nat → Nat × Nat × Nat × Nat} {q1 q2 q3 q4 : Nat → Int32} (hm : m ≤ 35) (hg : rG m e q1 q2 q3 q4) (hL : gL (aVw T n a b) m e) {r : Nat → Int32} {d : Nat → Nat} (hd : rD d r) (g1 : gGood (gP (gQ (aVw T n a b)) 100) t 1000000 d) (g2 : gFix (gP (gQ (aVw T n a b)) 100) d) {sums steps : Nat → Int32} {d' : Nat → Nat} (hs : rS d' sums steps) (f1 : gGood (gB T n a b) t 10000000000 d') (f2 : gFix (gB T n a b) d') (f3 : ∀ j, d' j % 10000 ≤ 1900) {u : Nat} (hu : u < 10) {ch : Int32} :
    ∃ x q, fX2_firstEdge (nI u) (nI m) q1 q2 q3 r = some x ∧ fX7_choose (nI n) (nI u) (nI a) (nI b) (zI T) sums steps ch = some q ∧ ((x = -1 ∧ q = (-9, ch)) ∨ ∃ j v i c, j < m ∧ x = nI j ∧ q2 j = nI v ∧ q4 j = nI i ∧ q = (nI i, nI v) ∧ aVw T n a b u v c i) := by
  have hN := hI.1.1
  have hQ := aVw_ok hI (a := a) (b := b) hn
  have lk := gLink hN hQ g1 g2 f1 f2
  obtain ⟨x, x1, x2⟩ := c_firstEdge hN hQ hm hg hL hd g1.2.1 hu
  obtain ⟨q, y1, y2⟩ := e_choose hI hV hn ha hb hu hs f1.2.1 f3 (ch := ch)
  refine ⟨x, q, x1, y1, ?_⟩
  -- on the way in one, on the way in the other
  have on : ∀ v c i, aVw T n a b u v c i → d u < 1000000 → (d v + (c * 100 + 1) = d u ↔ d' v + (10000 * c + 1) = d' u) := by
    intro v c i hA hfar
    have hc := (hQ u v c ⟨i, hA⟩).2.2.2
    rcases lk u with ⟨e1, e2⟩ | ⟨s, k, e1, e2, e3, e4⟩
    · omega
    · rcases lk v with ⟨e1', e2'⟩ | ⟨s', k', e1', e2', e3', e4'⟩
      · omega
      · omega
  have far : d u = 1000000 ↔ d' u = 10000000000 := by
    rcases lk u with ⟨e1, e2⟩ | ⟨s, k, e1, e2, e3, e4⟩
    · omega
    · omega
  have hle := g1.2.1 u
  rcases x2 with ⟨rfl, hx⟩ | ⟨hfar, j, j1, rfl, j2, j3⟩
  · left
    refine ⟨rfl, ?_⟩
    rcases y2 with ⟨rfl, -⟩ | ⟨hfar', v, i, rfl, ⟨c, hA, hc⟩, -⟩
    · rfl
    · rcases hx with hx | hx
      · have := far.mp hx; omega
      · have hfar : d u < 1000000 := by
          by_cases h : d u = 1000000
          · have := far.mp h; omega
          · omega
        obtain ⟨j, hj, hje⟩ := hL.2.1 u v c i hA
        refine absurd ?_ (hx j hj)
        unfold gOn
        rw [hje]
        exact ⟨rfl, (on v c i hA hfar).mpr hc⟩
  · right
    have hAj := hL.1 j j1
    have ej1 : (e j).1 = u := j2.1
    rw [ej1] at hAj
    have hcj := (on _ _ _ hAj hfar).mp j2.2
    rcases y2 with ⟨rfl, hy⟩ | ⟨hfar', v, i, rfl, ⟨c, hA, hc⟩, hmin⟩
    · rcases hy with hy | hy
      · have := far.mpr hy; omega
      · exact absurd ⟨_, hAj, hcj⟩ (hy (e j).2.1 (e j).2.2.2)
    · obtain ⟨i', hi', hie⟩ := hL.2.1 u v c i hA
      have hon : gOn d u (e i') := by
        unfold gOn
        rw [hie]
        exact ⟨rfl, (on v c i hA hfar).mpr hc⟩
      have m1 := j3 i' hi' hon
      have m2 := hmin _ _ ⟨_, hAj, hcj⟩
      rw [hie] at m1
      dsimp only at m1
      have ev : (e j).2.1 = v := by omega
      have ei : (e j).2.2.2 = i := by
        have hji : j ≤ i' := by omega
        have hii : i ≤ (e j).2.2.2 := by omega
        by_cases hjj : j = i'
        · rw [hjj, hie]
        · have := hL.2.2 j i' (by omega) hi' (by rw [ej1, hie])
          rw [hie] at this
          dsimp only at this
          omega
      refine ⟨j, v, i, c, j1, rfl, ?_, ?_, rfl, hA⟩
      · rw [(hg j j1).2.1, ev]
      · rw [(hg j j1).2.2.2, ei]
end P39h
