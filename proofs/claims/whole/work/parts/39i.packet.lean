/-! Packets. -/
/-- two loops in step -/
theorem wh_two {σ₁ ρ₁ σ₂ ρ₂ : Type} (s₁ : σ₁ → Option (σ₁ ⊕ ρ₁)) (s₂ : σ₂ → Option (σ₂ ⊕ ρ₂)) (N : Nat) (P : Nat → σ₁ → σ₂ → Prop) (Q : ρ₁ → ρ₂ → Prop)
    (hs : ∀ i a b, i < N → P i a b → (∃ a' b', s₁ a = some (.inl a') ∧ s₂ b = some (.inl b') ∧ P (i + 1) a' b') ∨ (∃ r₁ r₂, s₁ a = some (.inr r₁) ∧ s₂ b = some (.inr r₂) ∧ Q r₁ r₂))
    (he : ∀ a b, ¬ P N a b) : ∀ i a b, i ≤ N → P i a b → ∃ r₁ r₂, wh s₁ a = some r₁ ∧ wh s₂ b = some r₂ ∧ Q r₁ r₂ := by
  intro i
  generalize hd : N - i = d
  induction d generalizing i with
  | zero =>
    intro a b hi hp
    have : i = N := by omega
    subst this
    exact absurd hp (he a b)
  | succ d ih =>
    intro a b hi hp
    rcases hs i a b (by omega) hp with ⟨a', b', h1, h2, h3⟩ | ⟨r₁, r₂, h1, h2, h3⟩
    · obtain ⟨r₁, r₂, g1, g2, g3⟩ := ih (i + 1) (by omega) a' b' (by omega) h3
      refine ⟨r₁, r₂, ?_, ?_, g3⟩
      · rw [wh_eq, h1]; exact g1
      · rw [wh_eq, h2]; exact g2
    · refine ⟨r₁, r₂, ?_, ?_, h3⟩
      · rw [wh_eq, h1]
      · rw [wh_eq, h2]
abbrev aEnt (T : zA) (a k : Nat) : Prop := aL T k 4 = 0 ∨ aOw T k = a ∨ aGr T (4 * aOw T k + a) = 1
/-- what stops a packet at an item -/
def aObs (T : zA) (a c i : Nat) : Nat := if aTs T i = 0 then 2 else if 32 ≤ i then 0 else if ¬ aEnt T a (i - 16) then 3 else if c = 20 then 4 else 0
section P39i
variable {T : zA} {V : Nat}
theorem e_isEntitled (hI : aInv V T) {a k : Nat} (ha : a < 4) (hk : k < 16) : fX7_isEntitled (nI a) (nI k) (zI T) = some (bI (aEnt T a k)) := by
  have hl := hI.link hk
  have how : aOw T k < 4 := hI.ar (n := aL T k 0) (by omega)
  have hg := hI.2.2.2.2.2.2.1 (4 * aOw T k + a) (by omega)
  have e39 : uX7_isEntitled_39 = some 1 := rfl
  unfold fX7_isEntitled
  rw [zl4, e_linkPart hk (by omega), e_owner hI hk, e39]
  simp only [Option.bind_some]
  rw [zl0, ite_eqN (by omega) (by omega), ite_eqN (by omega) (by omega), zl14, pk_mul, nI_add, nI_add, gd_in (by omega), nI_cl (by omega), zI_h (by omega), show 14 + 4 * aOw T k + a = 14 + (4 * aOw T k + a) by omega]
  by_cases h1 : aL T k 4 = 0
  · rw [if_pos h1, bI_t (Or.inl h1)]
  · rw [if_neg h1]
    by_cases h2 : aOw T k = a
    · rw [if_pos h2, bI_t (Or.inr (Or.inl h2))]
    · rw [if_neg h2]
      show (if nI (aGr T (4 * aOw T k + a)) = nI 1 then _ else _) = _
      rw [ite_eqN (by omega) (by omega)]
      by_cases h3 : aGr T (4 * aOw T k + a) = 1
      · rw [if_pos h3, bI_t (Or.inr (Or.inr h3))]
      · rw [if_neg h3, bI_f (by
          rintro (q | q | q)
          · exact h1 q
          · exact h2 q
          · exact h3 q)]; rfl
theorem e_refusal (hI : aInv V T) {a c i : Nat} (ha : a < 4) (hc : c ≤ 20) (hx : aEx T i) (h16 : 16 ≤ i) : fX7_refusal (nI i) (nI a) (zI T) (nI c) = some (nI (aObs T a c i)) := by
  have h1 := hI.1
  have hlt := (hx.lt hI).1
  unfold fX7_refusal
  rw [if_neg (show ¬ nI i = (-9 : Int32) by
    intro e
    have h2 : nI i < 0 := by rw [e]; decide
    rw [zl0, nI_ltI (by omega) (by omega)] at h2; omega), zl32, ite_ltN (by omega) (by omega)]
  by_cases h32 : i < 32
  · have hk : i - 16 < 16 := by omega
    have hl := hI.link hk
    rw [if_pos h32]
    unfold uX7_refusal_19
    rw [if_pos rfl, zl16, pk_sub (by omega), zl3, e_linkPart hk (by omega)]
    simp only [Option.bind_some]
    unfold uX7_refusal_45
    rw [if_pos (show (0 : Int32) = 0 from rfl), zl16, pk_sub (by omega), e_isEntitled hI ha hk]
    simp only [Option.bind_some]
    rw [ite_bI, zl20, ite_eqN (by omega) (by omega)]
    have es : aTs T i = aL T (i - 16) 3 := by
      have := (aTx_l (T := T) hk).2.1
      rw [show 16 + (i - 16) = i by omega] at this
      exact this
    unfold aObs
    rw [es]
    show (if nI (aL T (i - 16) 3) = nI 0 then _ else _) = _
    rw [ite_eqN (by omega) (by omega)]
    by_cases g1 : aL T (i - 16) 3 = 0
    · rw [if_pos g1, if_pos g1]; rfl
    · rw [if_neg g1, if_neg g1, if_neg (show ¬ 32 ≤ i by omega)]
      by_cases g2 : aEnt T a (i - 16)
      · rw [if_pos g2, if_neg (show ¬ ¬ aEnt T a (i - 16) from fun q => q g2)]
        by_cases g3 : c = 20
        · rw [if_pos g3, if_pos g3]; rfl
        · rw [if_neg g3, if_neg g3]; rfl
      · rw [if_neg g2, if_pos g2]; rfl
  · have hk : i - 32 < 3 := by omega
    have hl := hI.tun hk
    rw [if_neg h32]
    unfold uX7_refusal_19
    rw [if_neg (by decide), zl32, pk_sub (by omega), zl3, e_tunnelPart hk (by omega)]
    simp only [Option.bind_some]
    unfold uX7_refusal_45
    rw [if_neg (show ¬ (1 : Int32) = 0 by decide)]
    have es : aTs T i = aT T (i - 32) 3 := by
      have := (aTx_t (T := T) (k := i - 32)).2.1
      rw [show 32 + (i - 32) = i by omega] at this
      exact this
    unfold aObs
    rw [es]
    show (if nI (aT T (i - 32) 3) = nI 0 then _ else _) = _
    rw [ite_eqN (by omega) (by omega)]
    by_cases g1 : aT T (i - 32) 3 = 0
    · rw [if_pos g1, if_pos g1]; rfl
    · rw [if_neg g1, if_neg g1, if_pos (show 32 ≤ i by omega)]; rfl
theorem c_obstacleAt (hI : aInv V T) (hV : V < 2 ^ 20) {N : zNet} (hR : aRel T N) {a c i : Nat} (ha : a < 4) (hc : c ≤ 20) (hx : aEx T i) (h16 : 16 ≤ i) : fX4_obstacleAt (nI i) (nI c) (nI a) N.2.2.2.2.1 N.2.2.2.2.2.1 N.2.2.2.2.2.2.2.1 N.2.2.2.2.2.2.2.2.2.2.1 = some (nI (aObs T a c i)) := by
  obtain ⟨r1, r2, r3, r4, r5, r6, r7, r8, r9, r10⟩ := hR
  have h1 := hI.1
  have hlt := hx.lt hI
  have hs := (aTs_le hI hlt.1).2.1
  unfold fX4_obstacleAt
  rw [c_isUp hI hV r8 hlt.1]
  simp only [Option.bind_some]
  rw [ite_bI, zl32, ite_ltN (by omega) (by omega)]
  unfold aObs
  by_cases g1 : aTs T i = 1
  · rw [if_pos g1, if_neg (show ¬ aTs T i = 0 by omega)]
    by_cases h32 : i < 32
    · have hk : i - 16 < aNL T := by unfold aEx at hx; omega
      have hl := hI.link (k := i - 16) (by omega)
      have how : aOw T (i - 16) < 4 := hI.ar (n := aL T (i - 16) 0) (by omega)
      obtain ⟨x, x1, x2⟩ := c_entitlements hI hV r8 ha
      rw [if_pos h32, if_neg (show ¬ 32 ≤ i by omega), x1, zl16, pk_sub (by omega), c_owner hI r5 r6 hk]
      simp only [Option.bind_some]
      rw [c_has (by omega), c_isPrivateLink hI r6 hlt.1 hlt.2]
      simp only [Option.bind_some]
      rw [ite_bI, ite_bI]
      have e52 : uX4_obstacleAt_52 (nI c) = some (nI (if c = 20 then 4 else 0)) := by
        unfold uX4_obstacleAt_52
        rw [zl20, ite_ltN (by omega) (by omega)]
        by_cases g3 : c = 20
        · rw [if_neg (by omega), if_pos g3]; rfl
        · rw [if_pos (by omega), if_neg g3]; rfl
      rw [e52]
      have es : aSec T i ↔ aL T (i - 16) 4 = 1 := by unfold aSec; omega
      by_cases g2 : aSec T i
      · rw [if_pos g2]
        have h4 := es.mp g2
        by_cases g3 : bi x (aOw T (i - 16)) = true
        · have := (x2 _ how).mp g3
          rw [if_pos g3, if_neg (show ¬ ¬ aEnt T a (i - 16) from fun q => q (Or.inr this))]
        · have hne : ¬ aEnt T a (i - 16) := by
            rintro (q | q)
            · omega
            · exact g3 ((x2 _ how).mpr q)
          rw [if_neg g3, if_pos hne]; rfl
      · have hne : aEnt T a (i - 16) := Or.inl (by
          have : ¬ aL T (i - 16) 4 = 1 := fun q => g2 (es.mpr q)
          omega)
        rw [if_neg g2, if_neg (show ¬ ¬ aEnt T a (i - 16) from fun q => q hne)]
    · rw [if_neg h32, if_pos (show 32 ≤ i by omega)]; rfl
  · rw [if_neg g1, if_pos (show aTs T i = 0 by omega)]; rfl
theorem c_isDelivered {u t : Nat} (hu : u < 10) (ht : t < 10) {x : Int32} : fX4_isDelivered (nI t) (nI u) x = some (bI (u = t ∧ x = -1)) := by
  unfold fX4_isDelivered
  rw [ite_eqN (by omega) (by omega)]
  by_cases h1 : u = t
  · rw [if_pos h1]
    by_cases h2 : x = -1
    · rw [if_pos h2, bI_t ⟨h1, h2⟩]
    · rw [if_neg h2, bI_f (fun q => h2 q.2)]
  · rw [if_neg h1, bI_f (fun q => h1 q.1)]
end P39i
