/-! The class's measuring. -/
section P39e
variable {P : Nat → Nat → Nat → Prop} {N t F : Nat}
theorem gNext (hP : gOk P N) {D d d' : Nat → Nat} (hD : gGood P t F D) (hf : gFix P D) (hd : gGood P t F d) (hd' : gGood P t F d') (hs : gStep P d d') {k : Nat} (h : gBad D d N + k ≤ N ∨ gBad D d N = 0) : gBad D d' N + (k + 1) ≤ N ∨ gBad D d' N = 0 := by
  by_cases h0 : gBad D d N = 0
  · right
    refine (sm_0 N).mpr (fun u hu => ?_)
    have e := gBad_0 h0 u hu
    have h1 := hs.1 u
    have h2 := gBelow hP hD hf hd' (d' u) u (Nat.le_refl _)
    exact if_pos (by omega)
  · have h1 := gPass hP hD hf hd hd' hs.1 hs.2 (by omega)
    rcases h with h2 | h2
    · left; omega
    · omega
theorem gStart {D d : Nat → Nat} : gBad D d N + 0 ≤ N ∨ gBad D d N = 0 := by
  left
  have := sm_le (f := fun u => if d u = D u then 0 else 1) (b := 1) N (fun i _ => by split <;> omega)
  unfold gBad
  omega
theorem gEnd (hP : gOk P N) (ht : t < N) {D d : Nat → Nat} (hD : gGood P t F D) (hf : gFix P D) (hd : gGood P t F d) (h : gBad D d N + N ≤ N ∨ gBad D d N = 0) : gFix P d := by
  have h0 : gBad D d N = 0 := by
    rcases h with h | h
    · omega
    · exact h
  have he : ∀ u, d u = D u := by
    intro u
    by_cases hu : u < N
    · exact gBad_0 h0 u hu
    · rw [gOut hP ht hd (by omega), gOut hP ht hD (by omega)]
  intro u v l hp
  rw [he u, he v]
  exact hf u v l hp
/-- the beginning -/
def gD0 (t F : Nat) : Nat → Nat := fun u => if u = t then 0 else F
theorem gD0_good : gGood P t F (gD0 t F) := by
  refine ⟨if_pos rfl, fun u => ?_, fun u hu hut => ?_⟩
  · unfold gD0; split <;> omega
  · unfold gD0 at hu; rw [if_neg hut] at hu; omega
end P39e
section P39e2
variable {T : zA} {V : Nat} {st co : Nat → Nat} {O : Nat → Prop} {A : Nat → Nat → Nat → Nat → Prop} {N t : Nat}
/-- the costs of a set of edges -/
def gQ (A : Nat → Nat → Nat → Nat → Prop) (u v c : Nat) : Prop := ∃ i, A u v c i
theorem aEd_ok (hI : aInv V T) (hco : ∀ i, i < 35 → co i ≤ 40) {BL BT : Nat} : gQok (gQ (aEd T st co O BL BT)) (aNN T) := by
  rintro u v c ⟨i, ⟨k, a1, a2, a3, a4, a5, a6, a7⟩ | ⟨k, a1, a2, a3, a4, a5, a6, a7⟩⟩
  · have hl := hI.2.2.1 k a2
    have h16 : aNL T ≤ 16 := hI.1.2.1
    have := hco (16 + k) (by omega)
    rcases a6 with ⟨b1, b2⟩ | ⟨b1, b2⟩
    · rw [b1, b2, a7]; exact ⟨hl.1, hl.2.1, hl.2.2.1, this⟩
    · rw [b1, b2, a7]; exact ⟨hl.2.1, hl.1, fun e => hl.2.2.1 e.symm, this⟩
  · have hl := hI.2.2.2.2.1 k a2
    have h3 : aNT T ≤ 3 := hI.1.2.2
    have := hco (32 + k) (by omega)
    rw [a5, a6, a7]; exact ⟨hl.1, hl.2.1, hl.2.2.1, this⟩
def rD (d : Nat → Nat) (r : Nat → Int32) : Prop := ∀ j, j < 10 → r j = nI (d j)
theorem c_lengthOver {n : Nat} {e : Nat → Nat × Nat × Nat × Nat} {starts ends lengths items r : Nat → Int32} {d : Nat → Nat} (hn : n ≤ 35) (hg : rG n e starts ends lengths items) (hr : rD d r) {j : Nat} (hj : j < n) (he : (e j).2.1 < 10) : fX2_lengthOver (nI j) ends lengths r = some (nI (d (e j).2.1 + ((e j).2.2.1 * 100 + 1))) := by
  unfold fX2_lengthOver
  rw [gd_in (by omega), gd_in (by omega), nI_cl (by omega), (hg j hj).2.1, (hg j hj).2.2.1, gd_in (by omega), nI_cl (by omega), hr _ he, nI_add, Nat.add_comm]
theorem c_pass (hN : N ≤ 10) (hQ : gQok (gQ A) N) {n : Nat} {e : Nat → Nat × Nat × Nat × Nat} {starts ends lengths items r : Nat → Int32} {d : Nat → Nat} (hn : n ≤ 35) (hg : rG n e starts ends lengths items) (hL : gL A n e) (hr : rD d r) (hd : gGood (gP (gQ A) 100) t 1000000 d) {v3 : Int32} :
    ∃ f r' d', lX2_measureTo_37 v3 (nI n) starts ends lengths 0 0 r = some (.inl (f, v3 + 1, r')) ∧ rD d' r' ∧ gGood (gP (gQ A) 100) t 1000000 d' ∧ gStep (gP (gQ A) 100) d d' ∧ (f = 0 ∨ f = 1) ∧ (f = 0 → gFix (gP (gQ A) 100) d ∧ ∀ u, d' u = d u) := by
  have hP := gP_ok (b := 100) hQ
  have hE : ∀ j, j < n → gP (gQ A) 100 (e j).1 (e j).2.1 ((e j).2.2.1 * 100 + 1) := fun j hj => ⟨(e j).2.2.1, ⟨(e j).2.2.2, hL.1 j hj⟩, by omega⟩
  have hC : ∀ u v l, gP (gQ A) 100 u v l → ∃ j, j < n ∧ (e j).1 = u ∧ (e j).2.1 = v ∧ (e j).2.2.1 * 100 + 1 = l := by
    rintro u v l ⟨c, ⟨i, ha⟩, rfl⟩
    obtain ⟨j, hj, hje⟩ := hL.2.1 u v c i ha
    refine ⟨j, hj, ?_⟩
    rw [hje]
    exact ⟨rfl, rfl, by show c * 100 + 1 = _; omega⟩
  refine wh_ex (fun b : Int32 × Int32 × (Nat → Int32) => sX2_measureTo_37 v3 (nI n) starts ends lengths b.1 b.2.1 b.2.2) n (fun j s => s.2.1 = nI j ∧ (s.1 = 0 ∨ s.1 = 1) ∧ ∃ d', rD d' s.2.2 ∧ gGood (gP (gQ A) 100) t 1000000 d' ∧ (∀ u, d' u ≤ d u) ∧ (∀ i, i < j → d' (e i).1 ≤ d (e i).2.1 + ((e i).2.2.1 * 100 + 1)) ∧ (s.1 = 0 → ∀ u, d' u = d u)) (fun q => ∃ f r' d', q = some (.inl (f, v3 + 1, r')) ∧ rD d' r' ∧ gGood (gP (gQ A) 100) t 1000000 d' ∧ gStep (gP (gQ A) 100) d d' ∧ (f = 0 ∨ f = 1) ∧ (f = 0 → gFix (gP (gQ A) 100) d ∧ ∀ u, d' u = d u)) ?_ ?_ 0 ((0 : Int32), (0 : Int32), r) (by omega) ⟨zl0, Or.inl rfl, d, hr, hd, fun u => Nat.le_refl _, fun i hi => by omega, fun _ u => rfl⟩
  · rintro j ⟨f, a, r'⟩ hj ⟨h1, hf01, d', h2, h3, h4, h5, h6⟩
    dsimp only at h1 h2 h6 hf01
    subst h1
    left
    have hp := hE j hj
    have hk := hP _ _ _ hp
    have b1 := h3.2.1 (e j).2.1
    have b2 := h3.2.1 (e j).1
    have b3 := (hQ _ _ _ ⟨(e j).2.2.2, hL.1 j hj⟩).2.2.2
    have e87 : ∀ f r, uX2_measureTo_87 f (nI j) r = some (.inl (f, nI (j + 1), r)) := fun f r => by unfold uX2_measureTo_87; rw [nm_eq, zl1, nI_add]
    dsimp only [sX2_measureTo_37]
    rw [ite_leN (by omega) (by omega), if_neg (by omega), c_lengthOver hn hg h2 hj (by omega)]
    simp only [Option.bind_some]
    rw [gd_in (by omega), nI_cl (by omega), (hg j hj).1, gd_in (by omega), nI_cl (by omega), h2 _ (by omega), ite_leN (by omega) (by omega)]
    by_cases hx : d' (e j).1 ≤ d' (e j).2.1 + ((e j).2.2.1 * 100 + 1)
    · rw [if_pos hx, e87]
      refine ⟨_, rfl, rfl, hf01, d', h2, h3, h4, fun i hi => ?_, h6⟩
      by_cases ei : i = j
      · subst ei
        have := h4 (e i).2.1
        omega
      · exact h5 i (by omega)
    · rw [if_neg hx, gd_in (by omega), gd_in (by omega), e87]
      have ex : gRx d' (e j).1 (e j).2.1 ((e j).2.2.1 * 100 + 1) = un d' (e j).1 (d' (e j).2.1 + ((e j).2.2.1 * 100 + 1)) := if_pos (by omega)
      refine ⟨_, rfl, rfl, Or.inr rfl, gRx d' (e j).1 (e j).2.1 ((e j).2.2.1 * 100 + 1), ?_, gRx_good hP h3 hp, fun u => Nat.le_trans gRx_le (h4 u), fun i hi => ?_, fun h => absurd h (show ¬ (1 : Int32) = 0 by decide)⟩
      · intro i hi
        rw [ex]
        show upd r' (e j).1 (nI (d' (e j).2.1 + ((e j).2.2.1 * 100 + 1))) i = _
        unfold upd un
        by_cases ei : i = (e j).1
        · rw [if_pos ei, if_pos ei]
        · rw [if_neg ei, if_neg ei]; exact h2 i hi
      · by_cases ei : i = j
        · subst ei
          have := gRx_at (d := d') (u := (e i).1) (v := (e i).2.1) (l := (e i).2.2.1 * 100 + 1)
          have := h4 (e i).2.1
          omega
        · have := gRx_le (d := d') (u := (e j).1) (v := (e j).2.1) (l := (e j).2.2.1 * 100 + 1) (w := (e i).1)
          have := h5 i (by omega)
          omega
  · rintro ⟨f, a, r'⟩ ⟨h1, hf01, d', h2, h3, h4, h5, h6⟩
    dsimp only at h1 h2 h6 hf01
    subst h1
    have hst : gStep (gP (gQ A) 100) d d' := by
      refine ⟨h4, fun u v l hp => ?_⟩
      obtain ⟨j, hj, rfl, rfl, rfl⟩ := hC u v l hp
      exact h5 j hj
    refine ⟨uX2_measureTo_93 f v3 r', ?_, f, r', d', ?_, h2, h3, hst, hf01, fun h => ⟨fun u v l hp => ?_, h6 h⟩⟩
    · dsimp only [sX2_measureTo_37]
      rw [ite_leN (by omega) (by omega), if_pos (by omega)]
    · unfold uX2_measureTo_93
      rw [nm_eq]
    · have := hst.2 u v l hp
      rw [h6 h u] at this
      exact this
theorem c_fillI {f : Nat → Int32} {v : Int32} {N : Nat} (hN : N < 2 ^ 31) : ∃ g, fJ7_fill_53178 v f N = some g ∧ ∀ j, j < N → g j = v := by
  unfold fJ7_fill_53178
  rw [nm_eq]
  obtain ⟨g, h1, h2⟩ := wh_inv (fun b : Int32 × (Nat → Int32) => sJ7_fill_53178_5 v (Int32.ofNat N) N b.1 b.2) N (fun i s => ∀ j, j < i → s j = v) (fun s => some s) (by
    intro i s hi hp
    refine ⟨upd s i v, ?_, ?_⟩
    · dsimp only [sJ7_fill_53178_5]
      show (if nI N ≤ nI i then _ else _) = _
      rw [ite_leN (by omega) (by omega), if_neg (by omega), gd_in hi hN, nm_eq, nI_cl (by omega), zl1, nI_add]
    · intro j hj
      unfold upd
      by_cases e : j = i
      · rw [if_pos e]
      · rw [if_neg e]; exact hp j (by omega)) (by
    intro s hp
    dsimp only [sJ7_fill_53178_5]
    show (if nI N ≤ nI N then _ else _) = _
    rw [ite_leN (by omega) (by omega), if_pos (by omega)]) 0 f (by omega) (fun j hj => by omega)
  exact ⟨g, h2, h1⟩
theorem c_measureTo (hN : N ≤ 10) (ht : t < N) (hQ : gQok (gQ A) N) {n : Nat} {e : Nat → Nat × Nat × Nat × Nat} {starts ends lengths items r : Nat → Int32} (hn : n ≤ 35) (hg : rG n e starts ends lengths items) (hL : gL A n e) :
    ∃ r' d, fX2_measureTo (nI t) (nI N) (nI n) starts ends lengths r = some r' ∧ rD d r' ∧ gGood (gP (gQ A) 100) t 1000000 d ∧ gFix (gP (gQ A) 100) d := by
  have hP := gP_ok (b := 100) hQ
  obtain ⟨D, hD, hf⟩ := gExists hP (sm (gD0 t 1000000) N) (gD0 t 1000000) (gD0_good (P := gP (gQ A) 100)) (Nat.le_refl _)
  unfold fX2_measureTo
  obtain ⟨g, g1, g2⟩ := c_fillI (f := r) (v := 1000000) (N := 10) (by omega)
  rw [g1]
  simp only [Option.bind_some]
  rw [gd_in (by omega), nI_cl (by omega)]
  refine wh_ex (fun b : Int32 × Int32 × (Nat → Int32) => sX2_measureTo_20 (nI N) (nI n) starts ends lengths b.1 b.2.1 b.2.2) N (fun k s => s.2.1 = nI k ∧ (s.1 = 0 ∨ s.1 = 1) ∧ ∃ d, rD d s.2.2 ∧ gGood (gP (gQ A) 100) t 1000000 d ∧ (gBad D d N + k ≤ N ∨ gBad D d N = 0) ∧ (s.1 = 0 → gFix (gP (gQ A) 100) d)) (fun q => ∃ r' d, q = some r' ∧ rD d r' ∧ gGood (gP (gQ A) 100) t 1000000 d ∧ gFix (gP (gQ A) 100) d) ?_ ?_ 0 ((1 : Int32), (0 : Int32), upd g t 0) (by omega) ⟨zl0, Or.inr rfl, gD0 t 1000000, ?_, gD0_good, gStart, fun h => absurd h (show ¬ (1 : Int32) = 0 by decide)⟩
  · rintro k ⟨f, a, r'⟩ hk ⟨h1, hf01, d, h2, h3, h4, h5⟩
    dsimp only at h1 h2 h5 hf01
    subst h1
    dsimp only [sX2_measureTo_20]
    rw [ite_leN (by omega) (by omega), if_neg (by omega)]
    rcases hf01 with rfl | rfl
    · right
      refine ⟨some r', ?_, r', d, rfl, h2, h3, h5 rfl⟩
      rw [if_pos rfl]
    · left
      obtain ⟨f', r'', d', q1, q2, q3, q4, q5, q6⟩ := c_pass (v3 := nI k) hN hQ hn hg hL h2 h3
      rw [if_neg (by decide), q1]
      refine ⟨_, rfl, ?_, q5, d', q2, q3, gNext hP hD hf h3 q3 q4 h4, fun h => ?_⟩
      · show nI k + 1 = nI (k + 1)
        rw [zl1, nI_add]
      · obtain ⟨p1, p2⟩ := q6 h
        intro u v l hp
        rw [p2 u, p2 v]
        exact p1 u v l hp
  · rintro ⟨f, a, r'⟩ ⟨h1, hf01, d, h2, h3, h4, h5⟩
    dsimp only at h1 h2 h5 hf01
    subst h1
    refine ⟨some r', ?_, r', d, rfl, h2, h3, gEnd hP ht hD hf h3 h4⟩
    dsimp only [sX2_measureTo_20]
    rw [ite_leN (by omega) (by omega), if_pos (by omega)]
  · intro j hj
    show upd g t 0 j = nI (gD0 t 1000000 j)
    unfold upd gD0
    by_cases e : j = t
    · rw [if_pos e, if_pos e]; exact zl0
    · rw [if_neg e, if_neg e, g2 j hj]; exact zl1000000
theorem c_costFrom {d : Nat → Nat} {r : Nat → Int32} (hr : rD d r) {u : Nat} (hu : u < 10) (hF : d u ≤ 1000000) : fX2_costFrom (nI u) r = some (if d u < 1000000 then nI (d u / 100) else -9) := by
  unfold fX2_costFrom
  rw [gd_in hu, nI_cl (by omega), hr u hu, zl1000000, ite_ltN (by omega) (by omega)]
  by_cases h : d u < 1000000
  · rw [if_pos h, if_pos h, gd_in hu, zl100, pk_div (by omega) (by omega) (by omega)]
  · rw [if_neg h, if_neg h]
/-- an edge on a least way -/
def gOn (d : Nat → Nat) (u : Nat) (x : Nat × Nat × Nat × Nat) : Prop := x.1 = u ∧ d x.2.1 + (x.2.2.1 * 100 + 1) = d u
theorem c_firstEdge (hN : N ≤ 10) (hQ : gQok (gQ A) N) {n : Nat} {e : Nat → Nat × Nat × Nat × Nat} {starts ends lengths items r : Nat → Int32} {d : Nat → Nat} (hn : n ≤ 35) (hg : rG n e starts ends lengths items) (hL : gL A n e) (hr : rD d r) (hF : ∀ u, d u ≤ 1000000) {u : Nat} (hu : u < 10) :
    ∃ x, fX2_firstEdge (nI u) (nI n) starts ends lengths r = some x ∧ ((x = -1 ∧ (d u = 1000000 ∨ ∀ j, j < n → ¬ gOn d u (e j))) ∨ (d u < 1000000 ∧ ∃ j, j < n ∧ x = nI j ∧ gOn d u (e j) ∧ ∀ i, i < n → gOn d u (e i) → (e j).2.1 < (e i).2.1 ∨ (e j).2.1 = (e i).2.1 ∧ j ≤ i)) := by
  unfold fX2_firstEdge
  rw [gd_in hu, nI_cl (by omega), hr u hu, zl1000000]
  have hFu := hF u
  rw [ite_ltN (by omega) (by omega)]
  by_cases hfar : d u < 1000000
  · rw [if_pos hfar]
    refine wh_ex (fun b : Int32 × Int32 => sX2_firstEdge_17 (nI u) (nI n) starts ends lengths r b.1 b.2) n (fun k s => s.2 = nI k ∧ ((s.1 = -1 ∧ ∀ j, j < k → ¬ gOn d u (e j)) ∨ ∃ j, j < k ∧ s.1 = nI j ∧ gOn d u (e j) ∧ ∀ i, i < k → gOn d u (e i) → (e j).2.1 < (e i).2.1 ∨ (e j).2.1 = (e i).2.1 ∧ j ≤ i)) (fun q => ∃ x, q = some x ∧ ((x = -1 ∧ (d u = 1000000 ∨ ∀ j, j < n → ¬ gOn d u (e j))) ∨ (d u < 1000000 ∧ ∃ j, j < n ∧ x = nI j ∧ gOn d u (e j) ∧ ∀ i, i < n → gOn d u (e i) → (e j).2.1 < (e i).2.1 ∨ (e j).2.1 = (e i).2.1 ∧ j ≤ i))) ?_ ?_ 0 ((-1 : Int32), (0 : Int32)) (by omega) ⟨zl0, Or.inl ⟨rfl, fun j hj => by omega⟩⟩
    · rintro k ⟨b, a⟩ hk ⟨h1, h2⟩
      dsimp only at h1 h2
      subst h1
      left
      have hq := hQ _ _ _ ⟨(e k).2.2.2, hL.1 k hk⟩
      have hd2 := hF (e k).2.1
      have e82 : ∀ x, uX2_firstEdge_82 x (nI k) = some (.inl (x, nI (k + 1))) := fun x => by unfold uX2_firstEdge_82; rw [nm_eq, zl1, nI_add]
      have no : ¬ gOn d u (e k) → ∃ s', uX2_firstEdge_53 b (nI k) ends = some (.inl s') ∧ (s'.2 = nI (k + 1) ∧ ((s'.1 = -1 ∧ ∀ j, j < k + 1 → ¬ gOn d u (e j)) ∨ ∃ j, j < k + 1 ∧ s'.1 = nI j ∧ gOn d u (e j) ∧ ∀ i, i < k + 1 → gOn d u (e i) → (e j).2.1 < (e i).2.1 ∨ (e j).2.1 = (e i).2.1 ∧ j ≤ i)) := by
        intro hno
        unfold uX2_firstEdge_53 uX2_firstEdge_54
        rw [if_pos rfl, e82]
        refine ⟨_, rfl, rfl, ?_⟩
        rcases h2 with ⟨h2, h3⟩ | ⟨j, j1, j2, j3, j4⟩
        · left
          refine ⟨h2, fun j hj => ?_⟩
          by_cases ej : j = k
          · rw [ej]; exact hno
          · exact h3 j (by omega)
        · right
          refine ⟨j, by omega, j2, j3, fun i hi hon => ?_⟩
          by_cases ei : i = k
          · subst ei; exact absurd hon hno
          · exact j4 i (by omega) hon
      dsimp only [sX2_firstEdge_17]
      rw [ite_leN (by omega) (by omega), if_neg (by omega), gd_in (by omega), nI_cl (by omega), (hg k hk).1, ite_eqN (by omega) (by omega)]
      by_cases hs : (e k).1 = u
      · rw [if_pos hs, c_lengthOver hn hg hr hk (by omega)]
        simp only [Option.bind_some]
        rw [gd_in hu, nI_cl (by omega), hr u hu, ite_eqN (by omega) (by omega)]
        by_cases hl : d (e k).2.1 + ((e k).2.2.1 * 100 + 1) = d u
        · have hon : gOn d u (e k) := ⟨hs, hl⟩
          rw [if_pos hl]
          unfold uX2_firstEdge_54
          rw [if_neg (by decide)]
          rcases h2 with ⟨rfl, h3⟩ | ⟨j, j1, rfl, j3, j4⟩
          · rw [if_pos (by decide)]
            unfold uX2_firstEdge_80
            rw [e82]
            refine ⟨_, rfl, rfl, Or.inr ⟨k, by omega, rfl, hon, fun i hi hoi => ?_⟩⟩
            by_cases ei : i = k
            · subst ei; right; exact ⟨rfl, Nat.le_refl _⟩
            · exact absurd hoi (h3 i (by omega))
          · have hqj := hQ _ _ _ ⟨(e j).2.2.2, hL.1 j (by omega)⟩
            rw [if_neg (show ¬ nI j < 0 by rw [zl0, nI_ltI (by omega) (by omega)]; omega), gd_in (by omega), gd_in (by omega), nI_cl (by omega), nI_cl (by omega), (hg j (by omega)).2.1, (hg k hk).2.1, ite_leN (by omega) (by omega)]
            by_cases hle : (e j).2.1 ≤ (e k).2.1
            · rw [if_pos hle, e82]
              refine ⟨_, rfl, rfl, Or.inr ⟨j, by omega, rfl, j3, fun i hi hoi => ?_⟩⟩
              by_cases ei : i = k
              · subst ei; omega
              · exact j4 i (by omega) hoi
            · rw [if_neg hle]
              unfold uX2_firstEdge_80
              rw [e82]
              refine ⟨_, rfl, rfl, Or.inr ⟨k, by omega, rfl, hon, fun i hi hoi => ?_⟩⟩
              by_cases ei : i = k
              · subst ei; right; exact ⟨rfl, Nat.le_refl _⟩
              · have := j4 i (by omega) hoi
                omega
        · rw [if_neg hl]
          exact no (fun q => hl q.2)
      · rw [if_neg hs]
        exact no (fun q => hs q.1)
    · rintro ⟨b, a⟩ ⟨h1, h2⟩
      dsimp only at h1 h2
      subst h1
      refine ⟨some b, ?_, b, rfl, ?_⟩
      · dsimp only [sX2_firstEdge_17]
        rw [ite_leN (by omega) (by omega), if_pos (by omega)]
      · rcases h2 with ⟨a1, a2⟩ | h2
        · exact Or.inl ⟨a1, Or.inr a2⟩
        · exact Or.inr ⟨hfar, h2⟩
  · rw [if_neg hfar]
    exact ⟨_, rfl, Or.inl ⟨rfl, Or.inl (by omega)⟩⟩
end P39e2
