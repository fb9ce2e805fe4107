/-! Loops in general; the reference's flooding. -/
/-- a loop that may end at any step -/
theorem wh_ex {σ ρ : Type} (step : σ → Option (σ ⊕ ρ)) (N : Nat) (P : Nat → σ → Prop) (Q : Option ρ → Prop)
    (hs : ∀ i s, i < N → P i s → (∃ s', step s = some (.inl s') ∧ P (i + 1) s') ∨ (∃ r, step s = oi r ∧ Q r))
    (he : ∀ s, P N s → ∃ r, step s = oi r ∧ Q r) : ∀ i s, i ≤ N → P i s → Q (wh step s) := by
  intro i
  generalize hd : N - i = d
  have fin : ∀ s r, step s = oi r → wh step s = r := by
    intro s r h
    rw [wh_eq, h]
    cases r <;> rfl
  induction d generalizing i with
  | zero =>
    intro s hi hp
    have : i = N := by omega
    subst this
    obtain ⟨r, h1, h2⟩ := he s hp
    rw [fin s r h1]
    exact h2
  | succ d ih =>
    intro s hi hp
    rcases hs i s (by omega) hp with ⟨s', h1, h2⟩ | ⟨r, h1, h2⟩
    · have := ih (i + 1) (by omega) s' (by omega) h2
      rw [wh_eq, h1]
      exact this
    · rw [fin s r h1]
      exact h2
/-- a loop whose states are one sequence -/
theorem wh_seq {σ ρ : Type} (step : σ → Option (σ ⊕ ρ)) (N : Nat) (f : Nat → σ) (r : Option ρ) (hs : ∀ i, i < N → step (f i) = some (.inl (f (i + 1)))) (he : step (f N) = oi r) : wh step (f 0) = r := by
  refine wh_ex step N (fun i s => s = f i) (fun q => q = r) (fun i s hi hp => ?_) (fun s hp => ?_) 0 (f 0) (by omega) rfl
  · subst hp
    exact Or.inl ⟨_, hs i hi, rfl⟩
  · subst hp
    exact ⟨r, he, rfl⟩
/-- sums -/
def sm (f : Nat → Nat) : Nat → Nat
  | 0 => 0
  | m + 1 => sm f m + f m
theorem sm_le {f : Nat → Nat} {b : Nat} : ∀ m, (∀ i, i < m → f i ≤ b) → sm f m ≤ m * b
  | 0, _ => by simp [sm]
  | m + 1, h => by
    have := sm_le m (fun i hi => h i (by omega))
    have h2 := h m (by omega)
    show sm f m + f m ≤ (m + 1) * b
    rw [Nat.succ_mul]
    omega
theorem sm_0 {f : Nat → Nat} : ∀ m, sm f m = 0 ↔ ∀ i, i < m → f i = 0
  | 0 => by simp [sm]
  | m + 1 => by
    show sm f m + f m = 0 ↔ _
    constructor
    · intro h i hi
      by_cases e : i = m
      · subst e; omega
      · exact (sm_0 m).mp (by omega) i (by omega)
    · intro h
      have := (sm_0 m).mpr (fun i hi => h i (by omega))
      have := h m (by omega)
      omega
theorem sm_congr {f g : Nat → Nat} : ∀ m, (∀ i, i < m → f i = g i) → sm f m = sm g m
  | 0, _ => rfl
  | m + 1, h => by
    show sm f m + f m = sm g m + g m
    rw [sm_congr m (fun i hi => h i (by omega)), h m (by omega)]
theorem sm_mono {f g : Nat → Nat} : ∀ m, (∀ i, i < m → f i ≤ g i) → sm f m ≤ sm g m
  | 0, _ => Nat.le_refl _
  | m + 1, h => by
    have := sm_mono m (fun i hi => h i (by omega))
    have h2 := h m (by omega)
    show sm f m + f m ≤ sm g m + g m
    omega
theorem sm_lt {f g : Nat → Nat} {j : Nat} : ∀ m, j < m → (∀ i, i < m → f i ≤ g i) → f j < g j → sm f m < sm g m
  | 0, hj, _, _ => by omega
  | m + 1, hj, h, hl => by
    show sm f m + f m < sm g m + g m
    have h2 := h m (by omega)
    by_cases e : j = m
    · subst e
      have := sm_mono j (fun i hi => h i (by omega))
      omega
    · have := sm_lt m (by omega) (fun i hi => h i (by omega)) hl
      omega
def aNw (T : zA) (n : Nat) : Nat := sm (fun i => T.2 n i 3) 35
abbrev aQuiet (T : zA) : Prop := ∀ n, n < aNN T → aNw T n = 0
section P33
variable {T : zA} {V : Nat}
theorem e_newsOf {n : Nat} (hn : n < 10) : fX7_newsOf (nI n) (zI T) = some (nI (aNw T n)) := by
  refine wh_seq (fun b : Int32 × Int32 => sX7_newsOf_4 (nI n) (zI T) b.1 b.2) 35 (fun k => (nI (sm (fun i => T.2 n i 3) k), nI k)) _ ?_ ?_
  · intro k hk
    dsimp only [sX7_newsOf_4]
    rw [zl35, ite_leN (by omega) (by omega), if_neg (by omega), zl3, e_fact hn hk (by omega)]
    simp only [Option.bind_some]
    rw [nm_eq, nm_eq, zl1, nI_add, nI_add]
    rfl
  · dsimp only [sX7_newsOf_4]
    rw [zl35, ite_leN (by omega) (by omega), if_pos (by omega)]
    rfl
theorem aNw_le (hI : aInv V T) {n : Nat} (hn : n < 10) : aNw T n ≤ 35 := by
  have := sm_le (f := fun i => T.2 n i 3) (b := 1) 35 (fun i hi => (hI.db hn hi).2.2.2.1)
  unfold aNw
  omega
theorem e_isQuiet (hI : aInv V T) : fX7_isQuiet (zI T) = some (bI (aQuiet T)) := by
  have h10 : aNN T ≤ 10 := hI.1.1
  have hb : ∀ m, m ≤ aNN T → sm (aNw T) m ≤ 350 := fun m hm => by
    have := sm_le (f := aNw T) (b := 35) m (fun i hi => aNw_le hI (by omega))
    omega
  refine wh_seq (fun b : Int32 × Int32 => sX7_isQuiet_4 (zI T) b.1 b.2) (aNN T) (fun k => (nI (sm (aNw T) k), nI k)) _ ?_ ?_
  · intro k hk
    dsimp only [sX7_isQuiet_4]
    rw [zl0, gd_in (by omega), nI_cl (by omega), zI_h (by omega)]
    show (if nI (aNN T) ≤ nI k then _ else _) = _
    rw [ite_leN (by omega) (by omega), if_neg (by omega), e_newsOf (by omega)]
    simp only [Option.bind_some]
    rw [nm_eq, nm_eq, zl1, nI_add, nI_add]
    rfl
  · dsimp only [sX7_isQuiet_4]
    rw [zl0, gd_in (by omega), nI_cl (by omega), zI_h (by omega)]
    show (if nI (aNN T) ≤ nI (aNN T) then _ else _) = _
    rw [ite_leN (by omega) (by omega), if_pos (by omega)]
    unfold uX7_isQuiet_28
    have := hb (aNN T) (by omega)
    rw [zl0, ite_eqN (by omega) (by omega), zl1]
    by_cases h : sm (aNw T) (aNN T) = 0
    · rw [if_pos h, bI_t ((sm_0 _).mp h)]
      rfl
    · rw [if_neg h, bI_f (fun q => h ((sm_0 _).mpr q))]
      rfl
end P33
