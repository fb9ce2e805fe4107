/-! The pure part: numbers, loops, the abstract state. -/
theorem zl0 : (0 : Int32) = nI 0 := Eq.trans (b := nI 0) rfl (Eq.symm rfl)
theorem zl1 : (1 : Int32) = nI 1 := Eq.trans (b := nI 1) rfl (Eq.symm rfl)
theorem zl2 : (2 : Int32) = nI 2 := Eq.trans (b := nI 2) rfl (Eq.symm rfl)
theorem zl3 : (3 : Int32) = nI 3 := Eq.trans (b := nI 3) rfl (Eq.symm rfl)
theorem zl4 : (4 : Int32) = nI 4 := Eq.trans (b := nI 4) rfl (Eq.symm rfl)
theorem zl5 : (5 : Int32) = nI 5 := Eq.trans (b := nI 5) rfl (Eq.symm rfl)
theorem zl6 : (6 : Int32) = nI 6 := Eq.trans (b := nI 6) rfl (Eq.symm rfl)
theorem zl7 : (7 : Int32) = nI 7 := Eq.trans (b := nI 7) rfl (Eq.symm rfl)
theorem zl8 : (8 : Int32) = nI 8 := Eq.trans (b := nI 8) rfl (Eq.symm rfl)
theorem zl9 : (9 : Int32) = nI 9 := Eq.trans (b := nI 9) rfl (Eq.symm rfl)
theorem zl10 : (10 : Int32) = nI 10 := Eq.trans (b := nI 10) rfl (Eq.symm rfl)
theorem zl11 : (11 : Int32) = nI 11 := Eq.trans (b := nI 11) rfl (Eq.symm rfl)
theorem zl12 : (12 : Int32) = nI 12 := Eq.trans (b := nI 12) rfl (Eq.symm rfl)
theorem zl13 : (13 : Int32) = nI 13 := Eq.trans (b := nI 13) rfl (Eq.symm rfl)
theorem zl14 : (14 : Int32) = nI 14 := Eq.trans (b := nI 14) rfl (Eq.symm rfl)
theorem zl15 : (15 : Int32) = nI 15 := Eq.trans (b := nI 15) rfl (Eq.symm rfl)
theorem zl16 : (16 : Int32) = nI 16 := Eq.trans (b := nI 16) rfl (Eq.symm rfl)
theorem zl17 : (17 : Int32) = nI 17 := Eq.trans (b := nI 17) rfl (Eq.symm rfl)
theorem zl18 : (18 : Int32) = nI 18 := Eq.trans (b := nI 18) rfl (Eq.symm rfl)
theorem zl19 : (19 : Int32) = nI 19 := Eq.trans (b := nI 19) rfl (Eq.symm rfl)
theorem zl20 : (20 : Int32) = nI 20 := Eq.trans (b := nI 20) rfl (Eq.symm rfl)
theorem zl21 : (21 : Int32) = nI 21 := Eq.trans (b := nI 21) rfl (Eq.symm rfl)
theorem zl22 : (22 : Int32) = nI 22 := Eq.trans (b := nI 22) rfl (Eq.symm rfl)
theorem zl23 : (23 : Int32) = nI 23 := Eq.trans (b := nI 23) rfl (Eq.symm rfl)
theorem zl24 : (24 : Int32) = nI 24 := Eq.trans (b := nI 24) rfl (Eq.symm rfl)
theorem zl25 : (25 : Int32) = nI 25 := Eq.trans (b := nI 25) rfl (Eq.symm rfl)
theorem zl30 : (30 : Int32) = nI 30 := Eq.trans (b := nI 30) rfl (Eq.symm rfl)
theorem zl31 : (31 : Int32) = nI 31 := Eq.trans (b := nI 31) rfl (Eq.symm rfl)
theorem zl32 : (32 : Int32) = nI 32 := Eq.trans (b := nI 32) rfl (Eq.symm rfl)
theorem zl35 : (35 : Int32) = nI 35 := Eq.trans (b := nI 35) rfl (Eq.symm rfl)
theorem zl40 : (40 : Int32) = nI 40 := Eq.trans (b := nI 40) rfl (Eq.symm rfl)
theorem zl42 : (42 : Int32) = nI 42 := Eq.trans (b := nI 42) rfl (Eq.symm rfl)
theorem zl46 : (46 : Int32) = nI 46 := Eq.trans (b := nI 46) rfl (Eq.symm rfl)
theorem zl48 : (48 : Int32) = nI 48 := Eq.trans (b := nI 48) rfl (Eq.symm rfl)
theorem zl57 : (57 : Int32) = nI 57 := Eq.trans (b := nI 57) rfl (Eq.symm rfl)
theorem zl59 : (59 : Int32) = nI 59 := Eq.trans (b := nI 59) rfl (Eq.symm rfl)
theorem zl63 : (63 : Int32) = nI 63 := Eq.trans (b := nI 63) rfl (Eq.symm rfl)
theorem zl97 : (97 : Int32) = nI 97 := Eq.trans (b := nI 97) rfl (Eq.symm rfl)
theorem zl100 : (100 : Int32) = nI 100 := Eq.trans (b := nI 100) rfl (Eq.symm rfl)
theorem zl120 : (120 : Int32) = nI 120 := Eq.trans (b := nI 120) rfl (Eq.symm rfl)
theorem zl122 : (122 : Int32) = nI 122 := Eq.trans (b := nI 122) rfl (Eq.symm rfl)
theorem zl127 : (127 : Int32) = nI 127 := Eq.trans (b := nI 127) rfl (Eq.symm rfl)
theorem zl142 : (142 : Int32) = nI 142 := Eq.trans (b := nI 142) rfl (Eq.symm rfl)
theorem zl157 : (157 : Int32) = nI 157 := Eq.trans (b := nI 157) rfl (Eq.symm rfl)
theorem zl200 : (200 : Int32) = nI 200 := Eq.trans (b := nI 200) rfl (Eq.symm rfl)
theorem zl255 : (255 : Int32) = nI 255 := Eq.trans (b := nI 255) rfl (Eq.symm rfl)
theorem zl1557 : (1557 : Int32) = nI 1557 := Eq.trans (b := nI 1557) rfl (Eq.symm rfl)
theorem zl6228 : (6228 : Int32) = nI 6228 := Eq.trans (b := nI 6228) rfl (Eq.symm rfl)
theorem zl1000000 : (1000000 : Int32) = nI 1000000 := Eq.trans (b := nI 1000000) rfl (Eq.symm rfl)
theorem gd_in {α : Type} {a n : Nat} {o : Option α} (h : a < n) (hn : n < 2 ^ 31 := by omega) : gd (vp_in (nI a) n) o = o := gd_t (vp_in_nI h hn)
theorem gd_f {α : Type} {c : Prop} {o : Option α} (hc : ¬ c) : gd c o = none := by unfold gd; rw [if_neg hc]
theorem nI_cl {n : Nat} (h : n < 2 ^ 31) : (nI n).toNatClampNeg = n := nI_clamp h
theorem nm_eq {α β : Type} (a : α) (f : α → β) : nm a f = f a := rfl
/-- true as 1, false as 0 -/
def bI (p : Prop) [Decidable p] : Int32 := if p then 1 else 0
theorem bI_t {p : Prop} [Decidable p] (h : p) : bI p = 1 := if_pos h
theorem bI_f {p : Prop} [Decidable p] (h : ¬ p) : bI p = 0 := if_neg h
theorem bI_bz (p : Prop) [Decidable p] : bz (bI p) := by
  by_cases h : p
  · exact Or.inr (bI_t h)
  · exact Or.inl (bI_f h)
theorem bI_0 {p : Prop} [Decidable p] : bI p = 0 ↔ ¬ p := by
  by_cases h : p
  · rw [bI_t h]; simp [h]
  · rw [bI_f h]; simp [h]
theorem bI_1 {p : Prop} [Decidable p] : bI p = 1 ↔ p := by
  by_cases h : p
  · rw [bI_t h]; simp [h]
  · rw [bI_f h]; simp [h]
theorem bI_congr {p q : Prop} [Decidable p] [Decidable q] (h : p ↔ q) : bI p = bI q := by
  by_cases hp : p
  · rw [bI_t hp, bI_t (h.mp hp)]
  · rw [bI_f hp, bI_f (fun x => hp (h.mpr x))]
theorem ite_bI {α : Type} {p : Prop} [Decidable p] {a b : α} : (if bI p = 0 then a else b) = if p then b else a := by
  by_cases h : p
  · rw [bI_t h, if_pos h, if_neg (by decide)]
  · rw [bI_f h, if_neg h, if_pos rfl]
theorem ite_bI1 {α : Type} {p : Prop} [Decidable p] {a b : α} : (if bI p = 1 then a else b) = if p then a else b := by
  by_cases h : p
  · rw [bI_t h, if_pos h, if_pos rfl]
  · rw [bI_f h, if_neg h, if_neg (by decide)]
/-- a loop with an invariant: from i on, up to N -/
theorem wh_inv {σ ρ : Type} (step : Int32 × σ → Option ((Int32 × σ) ⊕ ρ)) (N : Nat) (P : Nat → σ → Prop) (K : σ → Option ρ)
    (hs : ∀ i s, i < N → P i s → ∃ s', step (nI i, s) = some (.inl (nI (i + 1), s')) ∧ P (i + 1) s')
    (he : ∀ s, P N s → step (nI N, s) = oi (K s)) : ∀ i s, i ≤ N → P i s → ∃ s', P N s' ∧ wh step (nI i, s) = K s' := by
  intro i
  generalize hd : N - i = d
  induction d generalizing i with
  | zero =>
    intro s hi hp
    have : i = N := by omega
    subst this
    refine ⟨s, hp, ?_⟩
    rw [wh_eq, he s hp]
    cases K s <;> rfl
  | succ d ih =>
    intro s hi hp
    obtain ⟨s', h1, h2⟩ := hs i s (by omega) hp
    obtain ⟨s2, h3, h4⟩ := ih (i + 1) (by omega) s' (by omega) h2
    refine ⟨s2, h3, ?_⟩
    rw [wh_eq, h1]
    exact h4
/-- the same, where what comes is one function -/
theorem wh_fun {σ ρ : Type} (step : Int32 × σ → Option ((Int32 × σ) ⊕ ρ)) (N : Nat) (f : Nat → σ) (K : σ → Option ρ)
    (hs : ∀ i, i < N → step (nI i, f i) = some (.inl (nI (i + 1), f (i + 1)))) (he : step (nI N, f N) = oi (K (f N))) : ∀ i, i ≤ N → wh step (nI i, f i) = K (f N) := by
  intro i hi
  obtain ⟨s', h1, h2⟩ := wh_inv step N (fun j s => s = f j) K (fun j s hj hp => by subst hp; exact ⟨_, hs j hj, rfl⟩) (fun s hp => by subst hp; exact he) i (f i) hi rfl
  rw [h2, h1]
/-- the abstract state: the first 157 places, and the databases by node, item and part -/
abbrev zA : Type := (Nat → Nat) × (Nat → Nat → Nat → Nat)
def flA (T : zA) : Nat → Nat := fun j => if j < 157 then T.1 j else T.2 ((j - 157) / 140) ((j - 157) % 140 / 4) ((j - 157) % 4)
def zI (T : zA) : Nat → Int32 := fun j => nI (flA T j)
def un (f : Nat → Nat) (k v : Nat) : Nat → Nat := fun j => if j = k then v else f j
def ud (d : Nat → Nat → Nat → Nat) (n i p v : Nat) : Nat → Nat → Nat → Nat := fun n' i' p' => if n' = n ∧ i' = i ∧ p' = p then v else d n' i' p'
theorem flA_h {T : zA} {j : Nat} (h : j < 157) : flA T j = T.1 j := if_pos h
theorem flA_d {T : zA} {n i p : Nat} (hi : i < 35) (hp : p < 4) : flA T (157 + 4 * (35 * n + i) + p) = T.2 n i p := by
  unfold flA
  rw [if_neg (by omega)]
  have e1 : (157 + 4 * (35 * n + i) + p - 157) / 140 = n := by omega
  have e2 : (157 + 4 * (35 * n + i) + p - 157) % 140 / 4 = i := by omega
  have e3 : (157 + 4 * (35 * n + i) + p - 157) % 4 = p := by omega
  rw [e1, e2, e3]
theorem zI_h {T : zA} {j : Nat} (h : j < 157) : zI T j = nI (T.1 j) := by unfold zI; rw [flA_h h]
theorem zI_d {T : zA} {n i p : Nat} (hi : i < 35) (hp : p < 4) : zI T (157 + 4 * (35 * n + i) + p) = nI (T.2 n i p) := by unfold zI; rw [flA_d hi hp]
theorem upd_h {T : zA} {j v : Nat} (h : j < 157) : upd (zI T) j (nI v) = zI (un T.1 j v, T.2) := by
  funext k
  unfold upd zI flA un
  by_cases hk : k = j
  · subst hk; simp [h]
  · simp only [hk, if_false]
theorem upd_d {T : zA} {n i p v : Nat} (hi : i < 35) (hp : p < 4) : upd (zI T) (157 + 4 * (35 * n + i) + p) (nI v) = zI (T.1, ud T.2 n i p v) := by
  funext k
  unfold upd zI flA ud
  by_cases hk : k = 157 + 4 * (35 * n + i) + p
  · subst hk
    have e1 : (157 + 4 * (35 * n + i) + p - 157) / 140 = n := by omega
    have e2 : (157 + 4 * (35 * n + i) + p - 157) % 140 / 4 = i := by omega
    have e3 : (157 + 4 * (35 * n + i) + p - 157) % 4 = p := by omega
    rw [if_pos rfl, if_neg (by omega)]
    simp only [e1, e2, e3, and_self, if_true]
  · rw [if_neg hk]
    by_cases h1 : k < 157
    · simp only [h1, if_true]
    · simp only [h1, if_false]
      rw [if_neg]
      intro ⟨a, b, c⟩
      apply hk
      omega
/-- the state's parts, by their names -/
abbrev aNN (T : zA) : Nat := T.1 0
abbrev aNL (T : zA) : Nat := T.1 1
abbrev aNT (T : zA) : Nat := T.1 2
abbrev aMS (T : zA) : Nat := T.1 3
abbrev aAr (T : zA) (n : Nat) : Nat := T.1 (4 + n)
abbrev aGr (T : zA) (i : Nat) : Nat := T.1 (14 + i)
abbrev aGv (T : zA) (i : Nat) : Nat := T.1 (30 + i)
abbrev aL (T : zA) (k p : Nat) : Nat := T.1 (46 + 6 * k + p)
abbrev aT (T : zA) (k p : Nat) : Nat := T.1 (142 + 5 * k + p)
abbrev aEnd (T : zA) (n k : Nat) : Prop := aL T k 0 = n ∨ aL T k 1 = n
abbrev aOw (T : zA) (k : Nat) : Nat := aAr T (aL T k 0)
abbrev aSec (T : zA) (i : Nat) : Prop := 16 ≤ i ∧ i ≤ 31 ∧ aL T (i - 16) 4 = 1
abbrev aHg (T : zA) (n o b : Nat) : Prop := 0 < T.2 n (4 * o + b) 0 ∧ T.2 n (4 * o + b) 1 = 1
abbrev aMk (T : zA) (n i : Nat) : Prop := ¬ aSec T i ∨ aEnd T n (i - 16) ∨ aAr T n = aOw T (i - 16) ∨ aHg T n (aOw T (i - 16)) (aAr T n)
/-- what holds of every state; V bounds the versions -/
def aInv (V : Nat) (T : zA) : Prop :=
  (aNN T ≤ 10 ∧ aNL T ≤ 16 ∧ aNT T ≤ 3) ∧ (∀ n, n < 10 → aAr T n < 4) ∧
  (∀ k, k < aNL T → aL T k 0 < aNN T ∧ aL T k 1 < aNN T ∧ aL T k 0 ≠ aL T k 1 ∧ 1 ≤ aL T k 2 ∧ aL T k 2 ≤ 20 ∧ aL T k 3 ≤ 1 ∧ aL T k 4 ≤ 1 ∧ 1 ≤ aL T k 5 ∧ aL T k 5 ≤ V) ∧
  (∀ k p, aNL T ≤ k → k < 16 → p < 6 → aL T k p = 0) ∧
  (∀ k, k < aNT T → aT T k 0 < aNN T ∧ aT T k 1 < aNN T ∧ aT T k 0 ≠ aT T k 1 ∧ 1 ≤ aT T k 2 ∧ aT T k 2 ≤ 40 ∧ aT T k 3 ≤ 1 ∧ 1 ≤ aT T k 4 ∧ aT T k 4 ≤ V) ∧
  (∀ k p, aNT T ≤ k → k < 3 → p < 5 → aT T k p = 0) ∧
  (∀ i, i < 16 → aGr T i ≤ 1 ∧ aGv T i ≤ V ∧ (i / 4 = i % 4 → aGr T i = 0 ∧ aGv T i = 0)) ∧
  (∀ n i p, n < 10 → i < 35 → p < 4 → aNN T ≤ n ∨ (16 + aNL T ≤ i ∧ i < 32) ∨ 32 + aNT T ≤ i ∨ i / 4 = i % 4 ∧ i < 16 → T.2 n i p = 0) ∧
  (∀ n i, n < 10 → i < 35 → T.2 n i 0 ≤ V ∧ T.2 n i 1 ≤ 1 ∧ T.2 n i 2 ≤ 40 ∧ T.2 n i 3 ≤ 1 ∧ (T.2 n i 0 = 0 → T.2 n i 1 = 0 ∧ T.2 n i 2 = 0 ∧ T.2 n i 3 = 0))
