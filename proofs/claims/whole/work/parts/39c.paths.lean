/-! Least lengths: one function, however it is found. -/
section G
variable {P : Nat → Nat → Nat → Prop} {N t F : Nat}
/-- the edges are sound -/
def gOk (P : Nat → Nat → Nat → Prop) (N : Nat) : Prop := ∀ u v l, P u v l → u < N ∧ v < N ∧ u ≠ v ∧ 1 ≤ l
def gGood (P : Nat → Nat → Nat → Prop) (t F : Nat) (d : Nat → Nat) : Prop := d t = 0 ∧ (∀ u, d u ≤ F) ∧ (∀ u, d u < F → u ≠ t → ∃ v l, P u v l ∧ d v + l ≤ d u)
def gFix (P : Nat → Nat → Nat → Prop) (d : Nat → Nat) : Prop := ∀ u v l, P u v l → d u ≤ d v + l
/-- one edge is tried -/
def gRx (d : Nat → Nat) (u v l : Nat) : Nat → Nat := if d v + l < d u then un d u (d v + l) else d
theorem gRx_le {d : Nat → Nat} {u v l w : Nat} : gRx d u v l w ≤ d w := by
  unfold gRx
  by_cases h : d v + l < d u
  · rw [if_pos h]
    unfold un
    by_cases e : w = u
    · rw [if_pos e, e]; omega
    · rw [if_neg e]; omega
  · rw [if_neg h]; omega
theorem gRx_at {d : Nat → Nat} {u v l : Nat} : gRx d u v l u ≤ d v + l := by
  unfold gRx
  by_cases h : d v + l < d u
  · rw [if_pos h]
    unfold un
    rw [if_pos rfl]; omega
  · rw [if_neg h]; omega
theorem gRx_good (hP : gOk P N) {d : Nat → Nat} (hd : gGood P t F d) {u v l : Nat} (h : P u v l) : gGood P t F (gRx d u v l) := by
  obtain ⟨h1, h2, h3⟩ := hd
  obtain ⟨a, b, c, e⟩ := hP u v l h
  refine ⟨?_, fun w => Nat.le_trans gRx_le (h2 w), fun w hw hwt => ?_⟩
  · have := gRx_le (d := d) (u := u) (v := v) (l := l) (w := t)
    omega
  · by_cases hx : d v + l < d u
    · by_cases e2 : w = u
      · subst e2
        refine ⟨v, l, h, ?_⟩
        have e3 : gRx d w v l w = d v + l := by unfold gRx; rw [if_pos hx]; exact if_pos rfl
        have e4 := gRx_le (d := d) (u := w) (v := v) (l := l) (w := v)
        omega
      · have e3 : gRx d u v l w = d w := by unfold gRx; rw [if_pos hx]; exact if_neg e2
        rw [e3] at hw
        obtain ⟨x, m, hp, hle⟩ := h3 w hw hwt
        refine ⟨x, m, hp, ?_⟩
        have e4 := gRx_le (d := d) (u := u) (v := v) (l := l) (w := x)
        omega
    · have e3 : gRx d u v l = d := by unfold gRx; rw [if_neg hx]
      rw [e3] at hw ⊢
      exact h3 w hw hwt
/-- what is least stands below what is good -/
theorem gBelow (hP : gOk P N) {D d : Nat → Nat} (hD : gGood P t F D) (hf : gFix P D) (hd : gGood P t F d) : ∀ n u, d u ≤ n → D u ≤ d u := by
  intro n
  induction n with
  | zero =>
    intro u hu
    by_cases e : u = t
    · rw [e, hD.1]; omega
    · by_cases hF : d u < F
      · obtain ⟨v, l, hp, hle⟩ := hd.2.2 u hF e
        have := (hP u v l hp).2.2.2
        omega
      · have := hD.2.1 u; omega
  | succ n ih =>
    intro u hu
    by_cases e : u = t
    · rw [e, hD.1]; omega
    · by_cases hF : d u < F
      · obtain ⟨v, l, hp, hle⟩ := hd.2.2 u hF e
        have h1 := (hP u v l hp).2.2.2
        have h2 := ih v (by omega)
        have h3 := hf u v l hp
        omega
      · have := hD.2.1 u; omega
theorem gUniq (hP : gOk P N) {D d : Nat → Nat} (hD : gGood P t F D) (hf : gFix P D) (hd : gGood P t F d) (hg : gFix P d) : ∀ u, d u = D u := by
  intro u
  have h1 := gBelow hP hD hf hd (d u) u (Nat.le_refl _)
  have h2 := gBelow hP hd hg hD (D u) u (Nat.le_refl _)
  omega
/-- there is a least one -/
theorem gExists (hP : gOk P N) : ∀ n d, gGood P t F d → sm d N ≤ n → ∃ D, gGood P t F D ∧ gFix P D := by
  intro n
  induction n with
  | zero =>
    intro d hd hs
    refine ⟨d, hd, fun u v l hp => ?_⟩
    have h0 := (sm_0 (f := d) N).mp (by omega) u (hP u v l hp).1
    omega
  | succ n ih =>
    intro d hd hs
    by_cases h : gFix P d
    · exact ⟨d, hd, h⟩
    · have hx : ∃ u v l, P u v l ∧ d v + l < d u := by
        refine Classical.byContradiction (fun hc => h (fun u v l hp => ?_))
        by_cases hle : d u ≤ d v + l
        · exact hle
        · exact absurd ⟨u, v, l, hp, by omega⟩ hc
      obtain ⟨u, v, l, hp, hlt⟩ := hx
      refine ih (gRx d u v l) (gRx_good hP hd hp) ?_
      have := sm_lt (f := gRx d u v l) (g := d) (j := u) N (hP u v l hp).1 (fun i _ => gRx_le) (by have := gRx_at (d := d) (u := u) (v := v) (l := l); omega)
      omega
def gBad (D d : Nat → Nat) (N : Nat) : Nat := sm (fun u => if d u = D u then 0 else 1) N
theorem gBad_0 {D d : Nat → Nat} (h : gBad D d N = 0) : ∀ u, u < N → d u = D u := by
  intro u hu
  have := (sm_0 N).mp h u hu
  by_cases e : d u = D u
  · exact e
  · rw [if_neg e] at this; omega
/-- a pass mends one at least -/
theorem gPass (hP : gOk P N) {D d d' : Nat → Nat} (hD : gGood P t F D) (hf : gFix P D) (hd : gGood P t F d) (hd' : gGood P t F d') (hle : ∀ u, d' u ≤ d u) (hr : ∀ u v l, P u v l → d' u ≤ d v + l) (hb : 0 < gBad D d N) : gBad D d' N < gBad D d N := by
  have hDd : ∀ u, D u ≤ d u := fun u => gBelow hP hD hf hd (d u) u (Nat.le_refl _)
  have hDd' : ∀ u, D u ≤ d' u := fun u => gBelow hP hD hf hd' (d' u) u (Nat.le_refl _)
  have hx : ∃ n, ∃ u, u < N ∧ d u ≠ D u ∧ D u = n := by
    refine Classical.byContradiction (fun hc => ?_)
    have : gBad D d N = 0 := (sm_0 N).mpr (fun u hu => by
      by_cases e : d u = D u
      · exact if_pos e
      · exact absurd ⟨D u, u, hu, e, rfl⟩ hc)
    omega
  obtain ⟨n, ⟨u, hu, hne, rfl⟩, hmin⟩ := pk_least (fun n => ∃ u, u < N ∧ d u ≠ D u ∧ D u = n) hx
  have h1 := hDd u
  have h2 := hd.2.1 u
  have hut : u ≠ t := fun e => hne (by rw [e, hd.1, hD.1])
  obtain ⟨v, l, hp, hl⟩ := hD.2.2 u (by omega) hut
  have hk := hP u v l hp
  have hv : d v = D v := by
    by_cases e : d v = D v
    · exact e
    · exact absurd ⟨v, hk.2.1, e, rfl⟩ (hmin (D v) (by omega))
  have hu' : d' u = D u := by
    have := hr u v l hp
    have := hDd' u
    omega
  refine sm_lt (j := u) N hu (fun w hw => ?_) ?_
  · by_cases e : d w = D w
    · have := hle w
      have := hDd' w
      rw [if_pos e, if_pos (by omega)]; omega
    · rw [if_neg e]; split <;> omega
  · rw [if_pos hu', if_neg hne]; omega
/-- beyond the nodes all is far -/
theorem gOut (hP : gOk P N) (ht : t < N) {d : Nat → Nat} (hd : gGood P t F d) {u : Nat} (hu : N ≤ u) : d u = F := by
  have h1 := hd.2.1 u
  by_cases e : d u < F
  · obtain ⟨v, l, hp, -⟩ := hd.2.2 u e (by omega)
    have := (hP u v l hp).1
    omega
  · omega
/-- a pass: a state that came from one by trying every edge -/
def gStep (P : Nat → Nat → Nat → Prop) (d d' : Nat → Nat) : Prop := (∀ u, d' u ≤ d u) ∧ (∀ u v l, P u v l → d' u ≤ d v + l)
/-- after as many passes as there are nodes it is least -/
theorem gDone (hP : gOk P N) (ht : t < N) {D : Nat → Nat} (hD : gGood P t F D) (hf : gFix P D) (q : Nat → Nat → Nat) (hq : ∀ k, k ≤ N → gGood P t F (q k)) (hs : ∀ k, k < N → gStep P (q k) (q (k + 1))) : ∀ u, q N u = D u := by
  have hb : ∀ k, k ≤ N → gBad D (q k) N + k ≤ N ∨ gBad D (q k) N = 0 := by
    intro k
    induction k with
    | zero =>
      intro _
      left
      have := sm_le (f := fun u => if q 0 u = D u then 0 else 1) (b := 1) N (fun i _ => by split <;> omega)
      unfold gBad
      omega
    | succ k ih =>
      intro hk
      obtain ⟨s1, s2⟩ := hs k (by omega)
      by_cases h0 : gBad D (q k) N = 0
      · right
        refine (sm_0 N).mpr (fun u hu => ?_)
        have e := gBad_0 h0 u hu
        have h1 := s1 u
        have h2 := gBelow hP hD hf (hq (k + 1) hk) (q (k + 1) u) u (Nat.le_refl _)
        exact if_pos (by omega)
      · have h1 := gPass hP hD hf (hq k (by omega)) (hq (k + 1) hk) s1 s2 (by omega)
        rcases ih (by omega) with h2 | h2
        · left; omega
        · omega
  intro u
  have h0 : gBad D (q N) N = 0 := by
    rcases hb N (Nat.le_refl _) with h | h
    · omega
    · exact h
  by_cases hu : u < N
  · exact gBad_0 h0 u hu
  · rw [gOut hP ht (hq N (Nat.le_refl _)) (by omega), gOut hP ht hD (by omega)]
theorem gDoneFix (hP : gOk P N) (ht : t < N) (q : Nat → Nat → Nat) (hq : ∀ k, k ≤ N → gGood P t F (q k)) (hs : ∀ k, k < N → gStep P (q k) (q (k + 1))) : gFix P (q N) := by
  obtain ⟨D, hD, hf⟩ := gExists hP (sm (q N) N) (q N) (hq N (Nat.le_refl _)) (Nat.le_refl _)
  have := gDone hP ht hD hf q hq hs
  intro u v l hp
  rw [this u, this v]
  exact hf u v l hp
/-- a list of edges that is tried through -/
def gFold (d : Nat → Nat) : List (Nat × Nat × Nat) → Nat → Nat
  | [] => d
  | e :: E => gFold (gRx d e.1 e.2.1 e.2.2) E
/-- edges by their costs; b for each unit of cost, one for each edge -/
def gP (Q : Nat → Nat → Nat → Prop) (b : Nat) (u v l : Nat) : Prop := ∃ c, Q u v c ∧ l = b * c + 1
def gQok (Q : Nat → Nat → Nat → Prop) (N : Nat) : Prop := ∀ u v c, Q u v c → u < N ∧ v < N ∧ u ≠ v ∧ c ≤ 40
theorem gP_ok {Q : Nat → Nat → Nat → Prop} {b : Nat} (h : gQok Q N) : gOk (gP Q b) N := by
  rintro u v l ⟨c, hq, rfl⟩
  obtain ⟨a1, a2, a3, a4⟩ := h u v c hq
  exact ⟨a1, a2, a3, by omega⟩
theorem gRank {Q : Nat → Nat → Nat → Prop} {b : Nat} (hQ : gQok Q N) {d : Nat → Nat} (hd : gGood (gP Q b) t F d) (hf : gFix (gP Q b) d) : ∀ n u, d u ≤ n → d u < F → ∃ s k, d u = b * s + k ∧ k ≤ sm (fun w => if d w < d u then 1 else 0) N ∧ s ≤ 40 * k := by
  intro n
  induction n with
  | zero =>
    intro u hu hF
    exact ⟨0, 0, by omega, by omega, by omega⟩
  | succ n ih =>
    intro u hu hF
    by_cases e : u = t
    · exact ⟨0, 0, by rw [e, hd.1]; omega, by omega, by omega⟩
    · obtain ⟨v, l, hp, hl⟩ := hd.2.2 u hF e
      have h1 := hf u v l hp
      obtain ⟨c, hq, rfl⟩ := hp
      obtain ⟨q1, q2, q3, q4⟩ := hQ u v c hq
      obtain ⟨s, k, e1, e2, e3⟩ := ih v (by omega) (by omega)
      refine ⟨s + c, k + 1, ?_, ?_, by omega⟩
      · rw [Nat.mul_add]; omega
      · have := sm_lt (f := fun w => if d w < d v then 1 else 0) (g := fun w => if d w < d u then 1 else 0) (j := v) N q2 (fun i _ => by
          by_cases h : d i < d v
          · have h2 : d i < d u := by omega
            simp only [h, h2, if_true]; omega
          · simp only [h, if_false]; omega) (by
          have h : ¬ d v < d v := by omega
          have h2 : d v < d u := by omega
          simp only [h, h2, if_true, if_false]; omega)
        omega
theorem gRank' {Q : Nat → Nat → Nat → Prop} {b : Nat} (hN : N ≤ 10) (hQ : gQok Q N) {d : Nat → Nat} (hd : gGood (gP Q b) t F d) (hf : gFix (gP Q b) d) {u : Nat} (hu : d u < F) : ∃ s k, d u = b * s + k ∧ k ≤ 10 ∧ s ≤ 400 := by
  obtain ⟨s, k, e1, e2, e3⟩ := gRank hQ hd hf (d u) u (Nat.le_refl _) hu
  have := sm_le (f := fun w => if d w < d u then 1 else 0) (b := 1) N (fun i _ => by split <;> omega)
  exact ⟨s, k, e1, by omega, by omega⟩
/-- the two ways of adding up lead to one -/
theorem gLink {Q : Nat → Nat → Nat → Prop} (hN : N ≤ 10) (hQ : gQok Q N) {d d' : Nat → Nat} (hd : gGood (gP Q 100) t 1000000 d) (hf : gFix (gP Q 100) d) (hd' : gGood (gP Q 10000) t 10000000000 d') (hf' : gFix (gP Q 10000) d') : ∀ u, (d u = 1000000 ∧ d' u = 10000000000) ∨ ∃ s k, k ≤ 10 ∧ s ≤ 400 ∧ d u = 100 * s + k ∧ d' u = 10000 * s + k := by
  have hr : ∀ u, d' u < 10000000000 → ∃ s k, d' u = 10000 * s + k ∧ k ≤ 10 ∧ s ≤ 400 := fun u hu => gRank' hN hQ hd' hf' hu
  generalize hff : (fun u => if d' u < 10000000000 then 100 * (d' u / 10000) + d' u % 10000 else 1000000) = f
  have f1 : ∀ u s k, d' u = 10000 * s + k → k ≤ 10 → s ≤ 400 → f u = 100 * s + k := by
    intro u s k h1 h2 h3
    rw [← hff]
    dsimp only
    rw [if_pos (by omega)]
    omega
  have f2 : ∀ u, ¬ d' u < 10000000000 → f u = 1000000 := by
    intro u h
    rw [← hff]
    exact if_neg h
  have hle := hd'.2.1
  have gf : gGood (gP Q 100) t 1000000 f := by
    refine ⟨?_, fun u => ?_, fun u hu hut => ?_⟩
    · have := f1 t 0 0 (by rw [hd'.1]) (by omega) (by omega)
      omega
    · by_cases h : d' u < 10000000000
      · obtain ⟨s, k, e1, e2, e3⟩ := hr u h
        rw [f1 u s k e1 e2 e3]; omega
      · rw [f2 u h]; omega
    · by_cases h : d' u < 10000000000
      · obtain ⟨v, l, hp, hl⟩ := hd'.2.2 u h hut
        have h3 := hf' u v l hp
        obtain ⟨c, hq, rfl⟩ := hp
        obtain ⟨s, k, e1, e2, e3⟩ := hr u h
        obtain ⟨s', k', e1', e2', e3'⟩ := hr v (by omega)
        refine ⟨v, 100 * c + 1, ⟨c, hq, rfl⟩, ?_⟩
        rw [f1 u s k e1 e2 e3, f1 v s' k' e1' e2' e3']
        omega
      · rw [f2 u h] at hu; omega
  have ff : gFix (gP Q 100) f := by
    rintro u v l ⟨c, hq, rfl⟩
    have h3 := hf' u v _ ⟨c, hq, rfl⟩
    by_cases hv : d' v < 10000000000
    · obtain ⟨s', k', e1', e2', e3'⟩ := hr v hv
      have hc := (hQ u v c hq).2.2.2
      have hu : d' u < 10000000000 := by omega
      obtain ⟨s, k, e1, e2, e3⟩ := hr u hu
      rw [f1 u s k e1 e2 e3, f1 v s' k' e1' e2' e3']
      omega
    · rw [f2 v hv]
      have := gf.2.1 u
      omega
  have hu := gUniq (gP_ok hQ) gf ff hd hf
  intro u
  by_cases h : d' u < 10000000000
  · right
    obtain ⟨s, k, e1, e2, e3⟩ := hr u h
    exact ⟨s, k, e2, e3, by rw [hu u, f1 u s k e1 e2 e3], e1⟩
  · left
    have := hle u
    exact ⟨by rw [hu u, f2 u h], by omega⟩
/-- the costs alone -/
theorem gCost {Q : Nat → Nat → Nat → Prop} (hN : N ≤ 10) (hQ : gQok Q N) {d : Nat → Nat} (hd : gGood (gP Q 100) t 1000000 d) (hf : gFix (gP Q 100) d) {w : Nat → Nat} (hw : ∀ u, w u = if d u < 1000000 then d u / 100 else 1000000) : gGood Q t 1000000 w ∧ gFix Q w := by
  have hr : ∀ u, d u < 1000000 → ∃ s k, d u = 100 * s + k ∧ k ≤ 10 ∧ s ≤ 400 := fun u hu => gRank' hN hQ hd hf hu
  have f1 : ∀ u s k, d u = 100 * s + k → k ≤ 10 → s ≤ 400 → w u = s := by
    intro u s k h1 h2 h3
    rw [hw u, if_pos (by omega)]
    omega
  have f2 : ∀ u, ¬ d u < 1000000 → w u = 1000000 := fun u h => by rw [hw u, if_neg h]
  have hle : ∀ u, w u ≤ 1000000 := by
    intro u
    by_cases h : d u < 1000000
    · obtain ⟨s, k, e1, e2, e3⟩ := hr u h
      rw [f1 u s k e1 e2 e3]; omega
    · rw [f2 u h]; omega
  refine ⟨⟨?_, hle, fun u hu hut => ?_⟩, ?_⟩
  · exact f1 t 0 0 (by rw [hd.1]) (by omega) (by omega)
  · by_cases h : d u < 1000000
    · obtain ⟨v, l, hp, hl⟩ := hd.2.2 u h hut
      have h3 := hf u v l hp
      obtain ⟨c, hq, rfl⟩ := hp
      obtain ⟨s, k, e1, e2, e3⟩ := hr u h
      obtain ⟨s', k', e1', e2', e3'⟩ := hr v (by omega)
      refine ⟨v, c, hq, ?_⟩
      rw [f1 u s k e1 e2 e3, f1 v s' k' e1' e2' e3']
      omega
    · rw [f2 u h] at hu; omega
  · intro u v c hq
    have h3 := hf u v _ ⟨c, hq, rfl⟩
    by_cases hv : d v < 1000000
    · obtain ⟨s', k', e1', e2', e3'⟩ := hr v hv
      have hc := (hQ u v c hq).2.2.2
      have hu : d u < 1000000 := by omega
      obtain ⟨s, k, e1, e2, e3⟩ := hr u hu
      rw [f1 u s k e1 e2 e3, f1 v s' k' e1' e2' e3']
      omega
    · rw [f2 v hv]
      have := hle u
      omega
/-- where each edge leads both ways, there and back are one -/
theorem gSym1 (hP : gOk P N) (hs : ∀ u v l, P u v l → P v u l) {x y : Nat} {a b : Nat → Nat} (ha : gGood P x F a) (hfa : gFix P a) (hb : gGood P y F b) (hfb : gFix P b) : ∀ n w, b w ≤ n → b w < F → a y ≤ a w + b w := by
  intro n
  induction n with
  | zero =>
    intro w hw hF
    by_cases e : w = y
    · rw [e]; omega
    · obtain ⟨v, l, hp, hl⟩ := hb.2.2 w hF e
      have := (hP w v l hp).2.2.2
      omega
  | succ n ih =>
    intro w hw hF
    by_cases e : w = y
    · rw [e]; omega
    · obtain ⟨v, l, hp, hl⟩ := hb.2.2 w hF e
      have h1 := (hP w v l hp).2.2.2
      have h2 := ih v (by omega) (by omega)
      have h3 := hfa v w l (hs w v l hp)
      omega
theorem gSym (hP : gOk P N) (hs : ∀ u v l, P u v l → P v u l) {x y : Nat} {a b : Nat → Nat} (ha : gGood P x F a) (hfa : gFix P a) (hb : gGood P y F b) (hfb : gFix P b) : a y = b x := by
  have h1 : a y ≤ b x := by
    by_cases h : b x < F
    · have := gSym1 hP hs ha hfa hb hfb (b x) x (Nat.le_refl _) h
      rw [ha.1] at this; omega
    · have := ha.2.1 y; omega
  have h2 : b x ≤ a y := by
    by_cases h : a y < F
    · have := gSym1 hP hs hb hfb ha hfa (a y) y (Nat.le_refl _) h
      rw [hb.1] at this; omega
    · have := hb.2.1 x; omega
  omega
end G
