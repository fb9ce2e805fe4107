section P39l
variable {T : zA} {V : Nat} {O : Nat → Prop}
theorem c_takeTrueLinks (hI : aInv V T) (hV : V < 2 ^ 20) {N : zNet} (hR : aRel T N) {x : Int32} (hx : ∀ o, o < 4 → (bi x o = true ↔ O o)) {s1 s2 s3 s4 : Nat → Int32} :
    ∃ m e q, fX2_takeTrueLinks x s1 s2 s3 s4 N.1 N.2.1 N.2.2.2.2.1 N.2.2.2.2.2.1 N.2.2.2.2.2.2.1 N.2.2.2.2.2.2.2.1 N.2.2.2.2.2.2.2.2.2.2.1 = some (nI (aNN T), nI m, q) ∧ m ≤ 35 ∧ rG m e q.1 q.2.1 q.2.2.1 q.2.2.2 ∧ gL (tE T O) m e := by
  obtain ⟨r1, r2, r3, r4, r5, r6, r7, r8, r9, r10⟩ := hR
  have h1 := hI.1
  unfold fX2_takeTrueLinks
  obtain ⟨m, e, q, q1, q2, q3, q4⟩ := c_takeLinks_truth (T := T) (V := V) (st := aTs T) (co := aTc T) (vv := aTv T) (O := O) (starts := s1) (ends := s2) (lengths := s3) (items := s4) hI hV r5 r6 (base := 0) (by omega) (fun k hk => by
    have := aTs_le hI (i := 16 + k) (by omega)
    exact ⟨by rw [Nat.zero_add]; exact r8 (16 + k) (by omega), this⟩) hx
  rw [r1, r2, show (0 : Int32) = nI 0 from rfl, q1]
  exact ⟨m, e, q, rfl, by omega, q3, q4⟩
/-- the class's cost to a target is the least one -/
theorem c_idealCost (hI : aInv V T) {M : Nat → Nat → Nat} (hM : ∀ t, gGood (gQ (tE T O)) t 1000000 (M t) ∧ gFix (gQ (tE T O)) (M t)) {t : Nat} {r : Nat → Int32} {d : Nat → Nat} (hd : rD d r) (g1 : gGood (gP (gQ (tE T O)) 100) t 1000000 d) (g2 : gFix (gP (gQ (tE T O)) 100) d) {u : Nat} (hu : u < 10) : fX2_costFrom (nI u) r = some (if M t u < 1000000 then nI (M t u) else -9) := by
  rw [c_costFrom hd hu (g1.2.1 u)]
  obtain ⟨w1, w2⟩ := gCost (w := fun u => if d u < 1000000 then d u / 100 else 1000000) hI.1.1 (tE_ok hI) g1 g2 (fun u => rfl)
  have e := gUniq (tE_pos hI) (hM t).1 (hM t).2 w1 w2 u
  have hle := g1.2.1 u
  by_cases h : d u < 1000000
  · rw [if_pos h] at e ⊢
    rw [if_pos (by omega), e]
  · rw [if_neg h] at e ⊢
    rw [if_neg (by omega)]
/-- what a way counts in a sum -/
def aWv (x : Nat) : Nat := if x < 1000000 then x else 200
theorem c_sum_41 (hI : aInv V T) {areas : Nat → Int32} (hA : rA T areas) {M : Nat → Nat → Nat} (hM : ∀ t, gGood (gQ (tE T O)) t 1000000 (M t) ∧ gFix (gQ (tE T O)) (M t)) {a t s : Nat} (ha : a < 4) {r : Nat → Int32} {d : Nat → Nat} (hd : rD d r) (g1 : gGood (gP (gQ (tE T O)) 100) t 1000000 d) (g2 : gFix (gP (gQ (tE T O)) 100) d) : lX6_sumOfIdeals_41 (nI a) (nI t) (nI (aNN T)) areas r (nI s) (nI 0) = some (.inl (nI (s + sm (fun u => if aAr T u = a then aWv (M t u) else 0) (aNN T)), nI (t + 1), r)) := by
  have h1 := hI.1
  have e102 : ∀ x, uX6_sumOfIdeals_102 (nI x) (nI t) r = some (.inl (nI x, nI (t + 1), r)) := fun x => by unfold uX6_sumOfIdeals_102; rw [nm_eq, zl1, nI_add]
  rw [← e102]
  refine wh_seq (fun b : Int32 × Int32 => sX6_sumOfIdeals_41 (nI a) (nI t) (nI (aNN T)) areas r b.1 b.2) (aNN T) (fun k => (nI (s + sm (fun u => if aAr T u = a then aWv (M t u) else 0) k), nI k)) _ ?_ ?_
  · intro k hk
    have hk4 : aAr T k < 4 := hI.ar (n := k) (by omega)
    have e96 : ∀ x, uX6_sumOfIdeals_96 x (nI k) = some (.inl (x, nI (k + 1))) := fun x => by unfold uX6_sumOfIdeals_96; rw [nm_eq, zl1, nI_add]
    have e94 : ∀ x y, uX6_sumOfIdeals_94 (nI k) (nI x) (nI y) = some (.inl (nI (x + y), nI (k + 1))) := fun x y => by unfold uX6_sumOfIdeals_94; rw [nm_eq, e96, nI_add]
    have es : sm (fun u => if aAr T u = a then aWv (M t u) else 0) (k + 1) = sm (fun u => if aAr T u = a then aWv (M t u) else 0) k + (if aAr T k = a then aWv (M t k) else 0) := rfl
    have hMk := (hM t).1.2.1 k
    dsimp only [sX6_sumOfIdeals_41]
    rw [ite_leN (by omega) (by omega), if_neg (by omega), gd_in (by omega), nI_cl (by omega), hA k hk, ite_eqN (by omega) (by omega), es]
    by_cases hka : aAr T k = a
    · rw [if_pos hka, if_pos hka, c_idealCost hI hM hd g1 g2 (by omega), Option.bind_some]
      unfold aWv
      by_cases hfar : M t k < 1000000
      · rw [if_pos hfar, if_pos hfar, if_neg (nI_neg (by omega) (by decide)), e94, Nat.add_assoc]
      · rw [if_neg hfar, if_neg hfar, if_pos rfl, zl200, e94, Nat.add_assoc]
    · rw [if_neg hka, if_neg hka, e96]; rfl
  · dsimp only [sX6_sumOfIdeals_41]
    rw [ite_leN (by omega) (by omega), if_pos (by omega)]
theorem c_sumOfIdeals (hI : aInv V T) (hV : V < 2 ^ 20) {N : zNet} (hR : aRel T N) {x : Int32} (hx : ∀ o, o < 4 → (bi x o = true ↔ O o)) {M : Nat → Nat → Nat} (hM : ∀ t, gGood (gQ (tE T O)) t 1000000 (M t) ∧ gFix (gQ (tE T O)) (M t)) {a : Nat} (ha : a < 4) {s1 s2 s3 s4 s5 : Nat → Int32} :
    ∃ q, fX6_sumOfIdeals (nI a) x N.1 N.2.1 N.2.2.2.2.1 N.2.2.2.2.2.1 N.2.2.2.2.2.2.1 N.2.2.2.2.2.2.2.1 N.2.2.2.2.2.2.2.2.2.2.1 s1 s2 s3 s4 s5 = some (nI (sm (fun t => sm (fun u => if aAr T u = a then aWv (M t u) else 0) (aNN T)) (aNN T)), q) := by
  have h1 := hI.1
  obtain ⟨m, e, q, q1, q2, q3, q4⟩ := c_takeTrueLinks hI hV hR hx (s1 := s1) (s2 := s2) (s3 := s3) (s4 := s4)
  unfold fX6_sumOfIdeals
  rw [q1, Option.bind_some]
  dsimp only
  rw [hR.1]
  refine wh_ex (fun b : Int32 × Int32 × (Nat → Int32) => sX6_sumOfIdeals_17 (nI a) (nI (aNN T)) N.2.2.2.2.1 (nI (aNN T)) (nI m) q.1 q.2.1 q.2.2.1 q.2.2.2 b.1 b.2.1 b.2.2) (aNN T) (fun k s => s.2.1 = nI k ∧ s.1 = nI (sm (fun t => sm (fun u => if aAr T u = a then aWv (M t u) else 0) (aNN T)) k)) (fun o => ∃ q', o = some (nI (sm (fun t => sm (fun u => if aAr T u = a then aWv (M t u) else 0) (aNN T)) (aNN T)), q')) ?_ ?_ 0 ((0 : Int32), (0 : Int32), s5) (by omega) ⟨zl0, zl0⟩
  · rintro k ⟨b1, b2, b3⟩ hk ⟨e1, e2⟩
    dsimp only at e1 e2
    subst e1 e2
    left
    obtain ⟨r, d, p1, p2, p3, p4⟩ := c_measureTo (r := b3) hI.1.1 hk (tE_ok hI) q2 q3 q4
    dsimp only [sX6_sumOfIdeals_17]
    rw [ite_leN (by omega) (by omega), if_neg (by omega), p1, Option.bind_some, zl0, c_sum_41 hI hR.2.2.2.2.1 hM ha p2 p3 p4]
    exact ⟨_, rfl, rfl, rfl⟩
  · rintro ⟨b1, b2, b3⟩ ⟨e1, e2⟩
    dsimp only at e1 e2
    subst e1 e2
    refine ⟨some (nI (sm (fun t => sm (fun u => if aAr T u = a then aWv (M t u) else 0) (aNN T)) (aNN T)), nI (aNN T), nI m, q.1, q.2.1, q.2.2.1, q.2.2.2, b3), ?_, _, rfl⟩
    dsimp only [sX6_sumOfIdeals_17]
    rw [ite_leN (by omega) (by omega), if_pos (by omega)]
/-- the reference's reach is the least one, from the other side -/
theorem e_reach (hI : aInv V T) {M : Nat → Nat → Nat} {f : Nat} (hM : ∀ t, gGood (gQ (tE T (aOp T (aAr T f)))) t 1000000 (M t) ∧ gFix (gQ (tE T (aOp T (aAr T f)))) (M t)) (hf : f < aNN T) {r : Nat → Int32} : ∃ r', fX7_findIdeal (nI f) (zI T) r = some r' ∧ ∀ t, t < 10 → r' t = nI (M t f) := by
  obtain ⟨r', d, h1, h2, h3, h4⟩ := e_findIdeal hI hf (r := r)
  refine ⟨r', h1, fun t ht => ?_⟩
  rw [h2 t ht]
  congr 1
  exact gSym (tE_pos hI) tE_sym h3 h4 (hM t).1 (hM t).2
theorem e_sum_31 (hI : aInv V T) {M : Nat → Nat → Nat} {f s : Nat} (hM : ∀ t, gGood (gQ (tE T (aOp T (aAr T f)))) t 1000000 (M t) ∧ gFix (gQ (tE T (aOp T (aAr T f)))) (M t)) (hf : f < aNN T) {r : Nat → Int32} (hr : ∀ t, t < 10 → r t = nI (M t f)) : lX7_idealSum_31 (nI f) (zI T) r (nI s) (nI 0) = some (.inl (nI (s + sm (fun t => aWv (M t f)) (aNN T)), nI (f + 1), r)) := by
  have h1 := hI.1
  have e86 : ∀ x, uX7_idealSum_86 (nI x) (nI f) r = some (.inl (nI x, nI (f + 1), r)) := fun x => by unfold uX7_idealSum_86; rw [nm_eq, zl1, nI_add]
  rw [← e86]
  refine wh_seq (fun b : Int32 × Int32 => sX7_idealSum_31 (nI f) (zI T) r b.1 b.2) (aNN T) (fun k => (nI (s + sm (fun t => aWv (M t f)) k), nI k)) _ ?_ ?_
  · intro k hk
    have e78 : ∀ x y, uX7_idealSum_78 (nI k) (nI x) (nI y) = some (.inl (nI (x + y), nI (k + 1))) := fun x y => by unfold uX7_idealSum_78; rw [nm_eq, nm_eq, zl1, nI_add, nI_add]
    have es : sm (fun t => aWv (M t f)) (k + 1) = sm (fun t => aWv (M t f)) k + aWv (M k f) := rfl
    have hMk := (hM k).1.2.1 f
    dsimp only [sX7_idealSum_31]
    rw [zl0, gd_in (by omega), nI_cl (by omega), zI_h (by omega)]
    show (if nI (aNN T) ≤ nI k then _ else _) = _
    rw [ite_leN (by omega) (by omega), if_neg (by omega), ite_eqN (by omega) (by omega), gd_in (by omega), nI_cl (by omega), hr k (by omega), zl1000000, ite_leN (by omega) (by omega), es]
    by_cases hfk : f = k
    · rw [if_pos hfk, e78]
      have : M k f = 0 := by rw [hfk]; exact (hM k).1.1
      unfold aWv
      rw [this]; rfl
    · rw [if_neg hfk]
      unfold aWv
      by_cases hfar : M k f < 1000000
      · rw [if_neg (by omega), if_pos hfar, gd_in (by omega), e78, Nat.add_assoc]
      · rw [if_pos (by omega), if_neg hfar, zl200, e78, Nat.add_assoc]
  · dsimp only [sX7_idealSum_31]
    rw [zl0, gd_in (by omega), nI_cl (by omega), zI_h (by omega)]
    show (if nI (aNN T) ≤ nI (aNN T) then _ else _) = _
    rw [ite_leN (by omega) (by omega), if_pos (by omega)]
theorem e_idealSum (hI : aInv V T) {M : Nat → Nat → Nat} {a : Nat} (ha : a < 4) (hM : ∀ t, gGood (gQ (tE T (aOp T a))) t 1000000 (M t) ∧ gFix (gQ (tE T (aOp T a))) (M t)) {r : Nat → Int32} : ∃ r', fX7_idealSum (nI a) (zI T) r = some (nI (sm (fun f => if aAr T f = a then sm (fun t => aWv (M t f)) (aNN T) else 0) (aNN T)), r') := by
  have h1 := hI.1
  refine wh_ex (fun b : Int32 × Int32 × (Nat → Int32) => sX7_idealSum_4 (nI a) (zI T) b.1 b.2.1 b.2.2) (aNN T) (fun k s => s.2.1 = nI k ∧ s.1 = nI (sm (fun f => if aAr T f = a then sm (fun t => aWv (M t f)) (aNN T) else 0) k)) (fun o => ∃ r', o = some (nI (sm (fun f => if aAr T f = a then sm (fun t => aWv (M t f)) (aNN T) else 0) (aNN T)), r')) ?_ ?_ 0 ((0 : Int32), (0 : Int32), r) (by omega) ⟨zl0, zl0⟩
  · rintro k ⟨b1, b2, b3⟩ hk ⟨e1, e2⟩
    dsimp only at e1 e2
    subst e1 e2
    left
    have hk4 : aAr T k < 4 := hI.ar (n := k) (by omega)
    have es : sm (fun f => if aAr T f = a then sm (fun t => aWv (M t f)) (aNN T) else 0) (k + 1) = sm (fun f => if aAr T f = a then sm (fun t => aWv (M t f)) (aNN T) else 0) k + (if aAr T k = a then sm (fun t => aWv (M t k)) (aNN T) else 0) := rfl
    dsimp only [sX7_idealSum_4]
    rw [zl0, gd_in (by omega), nI_cl (by omega), zI_h (by omega)]
    show ∃ s', (if nI (aNN T) ≤ nI k then _ else _) = _ ∧ _
    rw [ite_leN (by omega) (by omega), if_neg (by omega), e_area (by omega), Option.bind_some, ite_eqN (by omega) (by omega), es]
    by_cases hka : aAr T k = a
    · rw [if_pos hka, if_pos hka]
      have hM2 : ∀ t, gGood (gQ (tE T (aOp T (aAr T k)))) t 1000000 (M t) ∧ gFix (gQ (tE T (aOp T (aAr T k)))) (M t) := by rw [hka]; exact hM
      obtain ⟨r', p1, p2⟩ := e_reach hI hM2 hk (r := b3)
      rw [p1, Option.bind_some, e_sum_31 hI hM2 hk p2]
      exact ⟨_, rfl, rfl, rfl⟩
    · rw [if_neg hka, if_neg hka]
      unfold uX7_idealSum_86
      rw [nm_eq, zl1, nI_add]
      exact ⟨_, rfl, rfl, rfl⟩
  · rintro ⟨b1, b2, b3⟩ ⟨e1, e2⟩
    dsimp only at e1 e2
    subst e1 e2
    refine ⟨some (nI (sm (fun f => if aAr T f = a then sm (fun t => aWv (M t f)) (aNN T) else 0) (aNN T)), b3), ?_, _, rfl⟩
    dsimp only [sX7_idealSum_4]
    rw [zl0, gd_in (by omega), nI_cl (by omega), zI_h (by omega)]
    show (if nI (aNN T) ≤ nI (aNN T) then _ else _) = _
    rw [ite_leN (by omega) (by omega), if_pos (by omega)]
theorem sum_same {M : Nat → Nat → Nat} {a n : Nat} : sm (fun t => sm (fun u => if aAr T u = a then aWv (M t u) else 0) n) n = sm (fun f => if aAr T f = a then sm (fun t => aWv (M t f)) n else 0) n := by
  rw [sm_swap]
  refine sm_congr n (fun f _ => ?_)
  by_cases h : aAr T f = a
  · simp only [h, if_true]
  · simp only [h, if_false]
    exact (sm_0 n).mpr (fun _ _ => rfl)
end P39l
