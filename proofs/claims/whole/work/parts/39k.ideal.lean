/-! Ideal ways, and the worth of a grant. -/
/-- the true links for a set of owners -/
def tE (T : zA) (O : Nat → Prop) : Nat → Nat → Nat → Nat → Prop := aEd T (aTs T) (aTc T) O (aNL T) 0
/-- the owners that are open to an area -/
abbrev aOp (T : zA) (a o : Nat) : Prop := o = a ∨ aGr T (4 * o + a) = 1
theorem gAll {P : Nat → Nat → Nat → Prop} {N F : Nat} (hP : gOk P N) : ∃ M : Nat → Nat → Nat, ∀ t, gGood P t F (M t) ∧ gFix P (M t) :=
  Classical.axiomOfChoice (fun t => gExists hP (sm (gD0 t F) N) (gD0 t F) gD0_good (Nat.le_refl _))
theorem sm_swap {F : Nat → Nat → Nat} {m : Nat} : ∀ n, sm (fun i => sm (fun j => F i j) m) n = sm (fun j => sm (fun i => F i j) n) m
  | 0 => by
    have : ∀ m, sm (fun _ : Nat => 0) m = 0 := fun m => (sm_0 m).mpr (fun _ _ => rfl)
    exact (this m).symm
  | n + 1 => by
    have add : ∀ (f g : Nat → Nat) m, sm f m + sm g m = sm (fun j => f j + g j) m := by
      intro f g m
      induction m with
      | zero => rfl
      | succ m ih =>
        show sm f m + f m + (sm g m + g m) = sm (fun j => f j + g j) m + (f m + g m)
        omega
    show sm (fun i => sm (fun j => F i j) m) n + sm (fun j => F n j) m = sm (fun j => sm (fun i => F i j) n + F n j) m
    rw [sm_swap n, add]
section P39k
variable {T : zA} {V : Nat} {O : Nat → Prop}
theorem tE_ok (hI : aInv V T) : gQok (gQ (tE T O)) (aNN T) := aEd_ok hI (fun i hi => (aTs_le hI hi).2.2)
theorem tE_link {u v c i : Nat} (h : tE T O u v c i) : ∃ k, k < aNL T ∧ i = 16 + k ∧ aTs T (16 + k) = 1 ∧ (aL T k 4 = 1 → O (aOw T k)) ∧ ((u = aL T k 0 ∧ v = aL T k 1) ∨ (u = aL T k 1 ∧ v = aL T k 0)) ∧ c = aTc T (16 + k) := by
  rcases h with ⟨k, a1, a2, a3⟩ | ⟨k, a1, -⟩
  · exact ⟨k, a2, a3⟩
  · omega
theorem tE_of {u v k : Nat} (hk : k < aNL T) (h1 : aTs T (16 + k) = 1) (h2 : aL T k 4 = 1 → O (aOw T k)) (h3 : (u = aL T k 0 ∧ v = aL T k 1) ∨ (u = aL T k 1 ∧ v = aL T k 0)) : tE T O u v (aTc T (16 + k)) (16 + k) := Or.inl ⟨k, hk, hk, rfl, h1, h2, h3, rfl⟩
theorem tE_pos (hI : aInv V T) : gOk (gQ (tE T O)) (aNN T) := by
  rintro u v c ⟨i, h⟩
  obtain ⟨a1, a2, a3, -⟩ := tE_ok hI u v c ⟨i, h⟩
  obtain ⟨k, hk, -, -, -, -, hc⟩ := tE_link h
  have h16 : aNL T ≤ 16 := hI.1.2.1
  have := hI.2.2.1 k hk
  have e := (aTx_l (T := T) (k := k) (by omega)).2.2
  exact ⟨a1, a2, a3, by omega⟩
theorem tE_sym : ∀ u v c, gQ (tE T O) u v c → gQ (tE T O) v u c := by
  rintro u v c ⟨i, h⟩
  obtain ⟨k, hk, rfl, h1, h2, h3, rfl⟩ := tE_link h
  refine ⟨16 + k, tE_of hk h1 h2 ?_⟩
  rcases h3 with ⟨b1, b2⟩ | ⟨b1, b2⟩
  · exact Or.inr ⟨b2, b1⟩
  · exact Or.inl ⟨b2, b1⟩
/-- one link is tried both ways -/
theorem e_fi_117 {x y k co : Nat} (hx : x < 10) (hy : y < 10) {r : Nat → Int32} {d : Nat → Nat} (hr : rD d r) (hF : ∀ u, d u ≤ 1000000) (hco : co ≤ 1000000) :
    ∃ r', uX7_findIdeal_117 (nI k) (nI x) (nI y) (nI co) r = some (.inl (nI (k + 1), r')) ∧ rD (gRx (gRx d x y co) y x co) r' := by
  have h1 := hF x
  have h2 := hF y
  have upS : ∀ (r : Nat → Int32) (d : Nat → Nat) z v, rD d r → rD (un d z v) (upd r z (nI v)) := by
    intro r d z v hr j hj
    unfold upd un
    by_cases e : j = z
    · rw [if_pos e, if_pos e]
    · rw [if_neg e, if_neg e]; exact hr j hj
  have un_self : ∀ (d : Nat → Nat) z, un d z (d z) = d := by
    intro d z
    funext j
    unfold un
    by_cases e : j = z
    · rw [if_pos e, e]
    · rw [if_neg e]
  have e212 : ∀ v r, uX7_findIdeal_212 (nI k) (nI y) v r = some (.inl (nI (k + 1), upd r y v)) := fun v r => by unfold uX7_findIdeal_212; rw [gd_in hy, nI_cl (by omega), nm_eq, zl1, nI_add]
  have e165 : ∀ v, v ≤ 1000000 → gRx d x y co = un d x v → ∃ r', uX7_findIdeal_165 (nI k) (nI x) (nI y) (nI co) (nI x) (nI v) r = some (.inl (nI (k + 1), r')) ∧ rD (gRx (gRx d x y co) y x co) r' := by
    intro v hv hg
    have hr2 := upS r d x v hr
    have hF2 : ∀ u, un d x v u ≤ 1000000 := by
      intro u
      unfold un
      split
      · exact hv
      · exact hF u
    have g1 := hF2 x
    have g2 := hF2 y
    unfold uX7_findIdeal_165
    rw [gd_in hx, gd_in hx, gd_in hy, nI_cl (by omega), nI_cl (by omega), hr2 x hx, hr2 y hy, nI_add, ite_leN (by omega) (by omega), e212, e212, hg]
    unfold gRx
    by_cases h : un d x v y ≤ un d x v x + co
    · rw [if_pos h, gd_in hy, if_neg (show ¬ un d x v x + co < un d x v y by omega)]
      refine ⟨_, rfl, ?_⟩
      have := upS _ _ y (un d x v y) hr2
      rw [un_self] at this
      exact this
    · rw [if_neg h, gd_in hx, if_pos (show un d x v x + co < un d x v y by omega)]
      exact ⟨_, rfl, upS _ _ y _ hr2⟩
  unfold uX7_findIdeal_117
  rw [gd_in hy, gd_in hx, nI_cl (by omega), nI_cl (by omega), hr x hx, hr y hy, nI_add, ite_leN (by omega) (by omega)]
  by_cases h : d x ≤ d y + co
  · rw [if_pos h, gd_in hx]
    refine e165 (d x) h1 ?_
    unfold gRx
    rw [if_neg (by omega), un_self]
  · rw [if_neg h, gd_in hy]
    refine e165 (d y + co) (by omega) ?_
    unfold gRx
    rw [if_pos (by omega)]
theorem e_findIdeal_45 (hI : aInv V T) {f k0 : Nat} (hf : f < aNN T) {r : Nat → Int32} {d : Nat → Nat} (hr : rD d r) (hG : gGood (gQ (tE T (aOp T (aAr T f)))) f 1000000 d) :
    ∃ r' d', lX7_findIdeal_45 (nI f) (nI k0) (zI T) (nI 0) r = some (.inl (nI (k0 + 1), r')) ∧ rD d' r' ∧ gGood (gQ (tE T (aOp T (aAr T f)))) f 1000000 d' ∧ gStep (gQ (tE T (aOp T (aAr T f)))) d d' := by
  have h1 := hI.1
  have ha : aAr T f < 4 := hI.ar (n := f) (by omega)
  have hP := tE_pos hI (O := aOp T (aAr T f))
  refine wh_ex (fun b : Int32 × (Nat → Int32) => sX7_findIdeal_45 (nI f) (nI k0) (zI T) b.1 b.2) (aNL T) (fun k s => s.1 = nI k ∧ ∃ d', rD d' s.2 ∧ gGood (gQ (tE T (aOp T (aAr T f)))) f 1000000 d' ∧ (∀ u, d' u ≤ d u) ∧ ∀ u v c i, tE T (aOp T (aAr T f)) u v c i → i < 16 + k → d' u ≤ d v + c) (fun q => ∃ r' d', q = some (.inl (nI (k0 + 1), r')) ∧ rD d' r' ∧ gGood (gQ (tE T (aOp T (aAr T f)))) f 1000000 d' ∧ gStep (gQ (tE T (aOp T (aAr T f)))) d d') ?_ ?_ 0 (nI 0, r) (by omega) ⟨rfl, d, hr, hG, fun u => Nat.le_refl _, fun u v c i h hi => by
    obtain ⟨k, hk, rfl, -⟩ := tE_link h
    omega⟩
  · rintro k ⟨x, r'⟩ hk ⟨e1, d', g1, g2, g3, g4⟩
    dsimp only at e1 g1
    subst e1
    left
    have hl := hI.2.2.1 k hk
    have hlx := aTx_l (T := T) (k := k) (by omega)
    dsimp only [sX7_findIdeal_45]
    rw [zl1, gd_in (by omega), nI_cl (by omega), zI_h (by omega)]
    show ∃ s', (if nI (aNL T) ≤ nI k then _ else _) = _ ∧ _
    rw [ite_leN (by omega) (by omega), if_neg (by omega), zl0, zl3, e_linkPart (by omega) (by omega), e_linkPart (by omega) (by omega), e_linkPart (by omega) (by omega), e_area (by omega)]
    simp only [Option.bind_some]
    rw [e_isEntitled hI ha (by omega), ite_eqN (by omega) (by omega)]
    simp only [Option.bind_some]
    rw [ite_bIn]
    -- what is not open
    have no : ¬ (aL T k 3 = 1 ∧ aEnt T (aAr T f) k) → ∃ s', uX7_findIdeal_98 (nI k) (nI (aL T k 0)) (nI (aL T k 1)) (zI T) r' = some (.inl s') ∧ (s'.1 = nI (k + 1) ∧ ∃ d', rD d' s'.2 ∧ gGood (gQ (tE T (aOp T (aAr T f)))) f 1000000 d' ∧ (∀ u, d' u ≤ d u) ∧ ∀ u v c i, tE T (aOp T (aAr T f)) u v c i → i < 16 + (k + 1) → d' u ≤ d v + c) := by
      intro hno
      unfold uX7_findIdeal_98 uX7_findIdeal_99
      rw [if_pos rfl, zl1000000]
      obtain ⟨r2, p1, p2⟩ := e_fi_117 (k := k) (x := aL T k 0) (y := aL T k 1) (co := 1000000) (by omega) (by omega) g1 g2.2.1 (by omega)
      have b1 := g2.2.1 (aL T k 0)
      have b2 := g2.2.1 (aL T k 1)
      have q1 : gRx d' (aL T k 0) (aL T k 1) 1000000 = d' := if_neg (by omega)
      have q2 : gRx d' (aL T k 1) (aL T k 0) 1000000 = d' := if_neg (by omega)
      rw [q1, q2] at p2
      rw [p1]
      refine ⟨_, rfl, rfl, d', p2, g2, g3, fun u v c i h hi => ?_⟩
      obtain ⟨k', hk', rfl, a1, a2, a3, a4⟩ := tE_link h
      by_cases ek : k' = k
      · subst ek
        refine absurd ⟨by rw [← hlx.2.1]; exact a1, ?_⟩ hno
        by_cases h4 : aL T k' 4 = 1
        · rcases a2 h4 with q | q
          · exact Or.inr (Or.inl q)
          · exact Or.inr (Or.inr q)
        · left; omega
      · exact g4 u v c _ h (by omega)
    by_cases hup : aL T k 3 = 1
    · rw [if_pos hup]
      by_cases he : aEnt T (aAr T f) k
      · rw [if_pos he]
        unfold uX7_findIdeal_99
        rw [if_neg (show ¬ (nI 1 : Int32) = 0 by decide), zl2, e_linkPart (by omega) (by omega)]
        simp only [Option.bind_some]
        obtain ⟨r2, p1, p2⟩ := e_fi_117 (k := k) (x := aL T k 0) (y := aL T k 1) (co := aL T k 2) (by omega) (by omega) g1 g2.2.1 (by omega)
        have hO : aL T k 4 = 1 → aOp T (aAr T f) (aOw T k) := by
          intro h4
          rcases he with q | q | q
          · omega
          · exact Or.inl q
          · exact Or.inr q
        have hs1 : aTs T (16 + k) = 1 := by rw [hlx.2.1]; exact hup
        have t1 : gQ (tE T (aOp T (aAr T f))) (aL T k 0) (aL T k 1) (aL T k 2) := ⟨16 + k, by
          have := tE_of (O := aOp T (aAr T f)) (u := aL T k 0) (v := aL T k 1) hk hs1 hO (Or.inl ⟨rfl, rfl⟩)
          rw [hlx.2.2] at this
          exact this⟩
        have t2 := tE_sym _ _ _ t1
        rw [p1]
        have G1 := gRx_good hP g2 t1
        have G2 := gRx_good hP G1 t2
        refine ⟨_, rfl, rfl, _, p2, G2, fun u => Nat.le_trans gRx_le (Nat.le_trans gRx_le (g3 u)), fun u v c i h hi => ?_⟩
        obtain ⟨k', hk', rfl, a1, a2, a3, a4⟩ := tE_link h
        by_cases ek : k' = k
        · subst ek
          rw [hlx.2.2] at a4
          rcases a3 with ⟨rfl, rfl⟩ | ⟨rfl, rfl⟩
          · have q1 := gRx_le (d := gRx d' (aL T k' 0) (aL T k' 1) (aL T k' 2)) (u := aL T k' 1) (v := aL T k' 0) (l := aL T k' 2) (w := aL T k' 0)
            have q2 := gRx_at (d := d') (u := aL T k' 0) (v := aL T k' 1) (l := aL T k' 2)
            have q3 := g3 (aL T k' 1)
            omega
          · have q1 := gRx_at (d := gRx d' (aL T k' 0) (aL T k' 1) (aL T k' 2)) (u := aL T k' 1) (v := aL T k' 0) (l := aL T k' 2)
            have q2 := gRx_le (d := d') (u := aL T k' 0) (v := aL T k' 1) (l := aL T k' 2) (w := aL T k' 0)
            have q3 := g3 (aL T k' 0)
            omega
        · exact Nat.le_trans gRx_le (Nat.le_trans gRx_le (g4 u v c _ h (by omega)))
      · rw [if_neg he]
        exact no (fun q => he q.2)
    · rw [if_neg hup]
      exact no (fun q => hup q.1)
  · rintro ⟨x, r'⟩ ⟨e1, d', g1, g2, g3, g4⟩
    dsimp only at e1 g1
    subst e1
    refine ⟨uX7_findIdeal_219 (nI k0) r', ?_, r', d', ?_, g1, g2, g3, ?_⟩
    · dsimp only [sX7_findIdeal_45]
      rw [zl1, gd_in (by omega), nI_cl (by omega), zI_h (by omega)]
      show (if nI (aNL T) ≤ nI (aNL T) then _ else _) = _
      rw [ite_leN (by omega) (by omega), if_pos (by omega)]
    · unfold uX7_findIdeal_219
      rw [nm_eq, zl1, nI_add]
    · rintro u v c ⟨i, h⟩
      refine g4 u v c i h ?_
      obtain ⟨k', hk', rfl, -⟩ := tE_link h
      omega
theorem e_findIdeal (hI : aInv V T) {f : Nat} (hf : f < aNN T) {r : Nat → Int32} : ∃ r' d, fX7_findIdeal (nI f) (zI T) r = some r' ∧ rD d r' ∧ gGood (gQ (tE T (aOp T (aAr T f)))) f 1000000 d ∧ gFix (gQ (tE T (aOp T (aAr T f)))) d := by
  have h1 := hI.1
  have hP := tE_pos hI (O := aOp T (aAr T f))
  obtain ⟨D, hD, hfx⟩ := gExists hP (sm (gD0 f 1000000) (aNN T)) (gD0 f 1000000) (gD0_good (P := gQ (tE T (aOp T (aAr T f))))) (Nat.le_refl _)
  have e24 : ∀ k x s1, k < 10 → uX7_findIdeal_24 (nI k) (nI k) (nI x) s1 = some (.inl (nI (k + 1), upd s1 k (nI x))) := fun k x s1 hk => by
    unfold uX7_findIdeal_24
    rw [gd_in hk, nI_cl (by omega), nm_eq, zl1, nI_add]
  refine wh_ex (fun s : Int32 × (Nat → Int32) => sX7_findIdeal_2 (nI f) (zI T) s.1 s.2) 10 (fun k s => s.1 = nI k ∧ ∀ j, j < k → s.2 j = nI (gD0 f 1000000 j)) (fun q => ∃ r' d, q = some r' ∧ rD d r' ∧ gGood (gQ (tE T (aOp T (aAr T f)))) f 1000000 d ∧ gFix (gQ (tE T (aOp T (aAr T f)))) d) ?_ ?_ 0 ((0 : Int32), r) (by omega) ⟨zl0, fun j hj => by omega⟩
  · rintro k ⟨x, s1⟩ hk ⟨h2, g1⟩
    dsimp only at h2 g1
    subst h2
    left
    dsimp only [sX7_findIdeal_2]
    rw [zl10, ite_leN (by omega) (by omega), if_neg (by omega), ite_eqN (by omega) (by omega)]
    have fin : ∀ x, gD0 f 1000000 k = x → ∀ j, j < k + 1 → upd s1 k (nI x) j = nI (gD0 f 1000000 j) := by
      intro x hx j hj
      unfold upd
      by_cases ej : j = k
      · rw [if_pos ej, ej, hx]
      · rw [if_neg ej]; exact g1 j (by omega)
    by_cases e : k = f
    · rw [if_pos e, zl0, e24 k 0 s1 hk]
      exact ⟨_, rfl, rfl, fin 0 (if_pos e)⟩
    · rw [if_neg e, zl1000000, e24 k 1000000 s1 hk]
      exact ⟨_, rfl, rfl, fin 1000000 (if_neg e)⟩
  · rintro ⟨x, s1⟩ ⟨h2, g1⟩
    dsimp only at h2 g1
    subst h2
    refine ⟨uX7_findIdeal_31 (nI f) (zI T) s1, ?_, ?_⟩
    · dsimp only [sX7_findIdeal_2]
      rw [zl10, ite_leN (by omega) (by omega), if_pos (by omega)]
    · unfold uX7_findIdeal_31
      refine wh_ex (fun s : Int32 × (Nat → Int32) => sX7_findIdeal_33 (nI f) (zI T) s.1 s.2) (aNN T) (fun k s => s.1 = nI k ∧ ∃ d, rD d s.2 ∧ gGood (gQ (tE T (aOp T (aAr T f)))) f 1000000 d ∧ (gBad D d (aNN T) + k ≤ aNN T ∨ gBad D d (aNN T) = 0)) (fun q => ∃ r' d, q = some r' ∧ rD d r' ∧ gGood (gQ (tE T (aOp T (aAr T f)))) f 1000000 d ∧ gFix (gQ (tE T (aOp T (aAr T f)))) d) ?_ ?_ 0 ((0 : Int32), s1) (by omega) ⟨zl0, gD0 f 1000000, g1, gD0_good, gStart⟩
      · rintro k ⟨x, s1⟩ hk ⟨h2, d, r1, r2, r4⟩
        dsimp only at h2 r1
        subst h2
        left
        obtain ⟨r', d', q1, q2, q3, q5⟩ := e_findIdeal_45 hI (k0 := k) hf r1 r2
        dsimp only [sX7_findIdeal_33]
        rw [zl0, gd_in (by omega), nI_cl (by omega), zI_h (by omega)]
        show ∃ s', (if nI (aNN T) ≤ nI k then _ else _) = _ ∧ _
        rw [ite_leN (by omega) (by omega), if_neg (by omega), q1]
        exact ⟨_, rfl, rfl, d', q2, q3, gNext hP hD hfx r2 q3 q5 r4⟩
      · rintro ⟨x, s1⟩ ⟨h2, d, r1, r2, r4⟩
        dsimp only at h2 r1
        subst h2
        refine ⟨some s1, ?_, s1, d, rfl, r1, r2, gEnd hP hf hD hfx r2 r4⟩
        dsimp only [sX7_findIdeal_33]
        rw [zl0, gd_in (by omega), nI_cl (by omega), zI_h (by omega)]
        show (if nI (aNN T) ≤ nI (aNN T) then _ else _) = _
        rw [ite_leN (by omega) (by omega), if_pos (by omega)]
end P39k
