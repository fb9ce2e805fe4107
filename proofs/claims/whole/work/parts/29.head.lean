/-! Headers: what is added and set. -/
def aMkN (T : zA) (a : Nat) : zA := (un (un T.1 (4 + aNN T) a) 0 (aNN T + 1), T.2)
def aMkL0 (T : zA) (f s c pr : Nat) : zA := (un (un (un (un (un (un (un T.1 (46 + 6 * aNL T) f) (46 + 6 * aNL T + 1) s) (46 + 6 * aNL T + 2) c) (46 + 6 * aNL T + 3) 1) (46 + 6 * aNL T + 4) pr) (46 + 6 * aNL T + 5) 1) 1 (aNL T + 1), T.2)
def aMkT0 (T : zA) (en ex c : Nat) : zA := (un (un (un (un (un (un T.1 (142 + 5 * aNT T) en) (142 + 5 * aNT T + 1) ex) (142 + 5 * aNT T + 2) c) (142 + 5 * aNT T + 3) 1) (142 + 5 * aNT T + 4) 1) 2 (aNT T + 1), T.2)
def aSL (T : zA) (k up c : Nat) : zA := (un (un (un T.1 (46 + 6 * k + 3) up) (46 + 6 * k + 2) c) (46 + 6 * k + 5) (aL T k 5 + 1), T.2)
def aST (T : zA) (k up c : Nat) : zA := (un (un (un T.1 (142 + 5 * k + 3) up) (142 + 5 * k + 2) c) (142 + 5 * k + 4) (aT T k 4 + 1), T.2)
def aSG (T : zA) (i on : Nat) : zA := (un (un T.1 (14 + i) on) (30 + i) (aGv T i + 1), T.2)
section P29
variable {T : zA} {V : Nat}
theorem un_ne {f : Nat → Nat} {k v j : Nat} (h : j ≠ k) : un f k v j = f j := if_neg h
theorem un_eq {f : Nat → Nat} {k v : Nat} : un f k v k = v := if_pos rfl
theorem un_if {f : Nat → Nat} {k v j : Nat} : un f k v j = if j = k then v else f j := rfl
theorem aInv.mono {V' : Nat} (hI : aInv V T) (h : V ≤ V') : aInv V' T := by
  obtain ⟨i1, i2, i3, i4, i5, i6, i7, i8, i9⟩ := hI
  refine ⟨i1, i2, fun k hk => ?_, i4, fun k hk => ?_, i6, fun i hi => ?_, i8, fun n i hn hi => ?_⟩
  · have := i3 k hk; omega
  · have := i5 k hk; omega
  · have := i7 i hi
    exact ⟨this.1, by omega, this.2.2⟩
  · have := i9 n i hn hi
    exact ⟨by omega, this.2⟩
theorem aInv.mk2 {T' : zA} {V' : Nat} (hI : aInv V T) (hVV : V ≤ V') (hdb : T'.2 = T.2) (hN : aNN T ≤ aNN T') (hL : aNL T ≤ aNL T') (hT : aNT T ≤ aNT T') (h1 : aNN T' ≤ 10 ∧ aNL T' ≤ 16 ∧ aNT T' ≤ 3) (h2 : ∀ n, n < 10 → aAr T' n < 4)
    (h3 : ∀ k, k < aNL T' → aL T' k 0 < aNN T' ∧ aL T' k 1 < aNN T' ∧ aL T' k 0 ≠ aL T' k 1 ∧ 1 ≤ aL T' k 2 ∧ aL T' k 2 ≤ 20 ∧ aL T' k 3 ≤ 1 ∧ aL T' k 4 ≤ 1 ∧ 1 ≤ aL T' k 5 ∧ aL T' k 5 ≤ V')
    (h4 : ∀ k p, aNL T' ≤ k → k < 16 → p < 6 → aL T' k p = 0)
    (h5 : ∀ k, k < aNT T' → aT T' k 0 < aNN T' ∧ aT T' k 1 < aNN T' ∧ aT T' k 0 ≠ aT T' k 1 ∧ 1 ≤ aT T' k 2 ∧ aT T' k 2 ≤ 40 ∧ aT T' k 3 ≤ 1 ∧ 1 ≤ aT T' k 4 ∧ aT T' k 4 ≤ V')
    (h6 : ∀ k p, aNT T' ≤ k → k < 3 → p < 5 → aT T' k p = 0)
    (h7 : ∀ i, i < 16 → aGr T' i ≤ 1 ∧ aGv T' i ≤ V' ∧ (i / 4 = i % 4 → aGr T' i = 0 ∧ aGv T' i = 0)) : aInv V' T' := by
  refine ⟨h1, h2, h3, h4, h5, h6, h7, fun n i p hn hi hp hz => ?_, fun n i hn hi => ?_⟩
  · rw [hdb]
    exact hI.2.2.2.2.2.2.2.1 n i p hn hi hp (by omega)
  · rw [hdb]
    have := hI.db hn hi
    exact ⟨by omega, this.2⟩
theorem aMkN_inv (hI : aInv V T) {a : Nat} (hn : aNN T < 10) (ha : a < 4) : aInv V (aMkN T a) := by
  have e0 : aNN (aMkN T a) = aNN T + 1 := by show un (un T.1 (4 + aNN T) a) 0 (aNN T + 1) 0 = _; exact un_eq
  have ed : ∀ j, j ≠ 0 → j ≠ 4 + aNN T → (aMkN T a).1 j = T.1 j := fun j h1 h2 => by
    show un (un T.1 (4 + aNN T) a) 0 (aNN T + 1) j = T.1 j
    rw [un_ne h1, un_ne h2]
  have eL : aNL (aMkN T a) = aNL T := ed 1 (by omega) (by omega)
  have eT : aNT (aMkN T a) = aNT T := ed 2 (by omega) (by omega)
  have eLk : ∀ k p, aL (aMkN T a) k p = aL T k p := fun k p => ed _ (by omega) (by omega)
  have eTk : ∀ k p, aT (aMkN T a) k p = aT T k p := fun k p => ed _ (by omega) (by omega)
  have eGr : ∀ i, aGr (aMkN T a) i = aGr T i := fun i => ed _ (by omega) (by omega)
  have eGv : ∀ i, aGv (aMkN T a) i = aGv T i := fun i => ed _ (by omega) (by omega)
  have h1 := hI.1
  refine hI.mk2 (Nat.le_refl V) rfl (by omega) (by omega) (by omega) (by omega) ?_ ?_ ?_ ?_ ?_ ?_
  · intro n hn'
    by_cases h : n = aNN T
    · subst h
      have : aAr (aMkN T a) (aNN T) = a := by
        show un (un T.1 (4 + aNN T) a) 0 (aNN T + 1) (4 + aNN T) = a
        rw [un_ne (by omega), un_eq]
      omega
    · have : aAr (aMkN T a) n = aAr T n := ed _ (by omega) (by omega)
      have := hI.ar hn'
      omega
  · intro k hk
    rw [eL] at hk
    have := hI.2.2.1 k hk
    rw [eLk, eLk, eLk, eLk, eLk, eLk, e0]
    omega
  · intro k p h2 h3 h4
    rw [eLk]
    exact hI.2.2.2.1 k p (by omega) h3 h4
  · intro k hk
    rw [eT] at hk
    have := hI.2.2.2.2.1 k hk
    rw [eTk, eTk, eTk, eTk, eTk, e0]
    omega
  · intro k p h2 h3 h4
    rw [eTk]
    exact hI.2.2.2.2.2.1 k p (by omega) h3 h4
  · intro i hi
    rw [eGr, eGv]
    exact hI.2.2.2.2.2.2.1 i hi
theorem aMkL0_at {f s c pr p : Nat} (hp : p < 6) : aL (aMkL0 T f s c pr) (aNL T) p = if p = 0 then f else if p = 1 then s else if p = 2 then c else if p = 3 then 1 else if p = 4 then pr else 1 := by
  show un (un (un (un (un (un (un T.1 (46 + 6 * aNL T) f) (46 + 6 * aNL T + 1) s) (46 + 6 * aNL T + 2) c) (46 + 6 * aNL T + 3) 1) (46 + 6 * aNL T + 4) pr) (46 + 6 * aNL T + 5) 1) 1 (aNL T + 1) (46 + 6 * aNL T + p) = _
  rcases (show p = 0 ∨ p = 1 ∨ p = 2 ∨ p = 3 ∨ p = 4 ∨ p = 5 by omega) with rfl | rfl | rfl | rfl | rfl | rfl
  · rw [un_ne (by omega), un_ne (by omega), un_ne (by omega), un_ne (by omega), un_ne (by omega), un_ne (by omega)]; exact un_eq
  · rw [un_ne (by omega), un_ne (by omega), un_ne (by omega), un_ne (by omega), un_ne (by omega)]; exact un_eq
  · rw [un_ne (by omega), un_ne (by omega), un_ne (by omega), un_ne (by omega)]; exact un_eq
  · rw [un_ne (by omega), un_ne (by omega), un_ne (by omega)]; exact un_eq
  · rw [un_ne (by omega), un_ne (by omega)]; exact un_eq
  · rw [un_ne (by omega)]; exact un_eq
theorem aMkL0_ot {f s c pr j : Nat} (h1 : j ≠ 1) (h2 : j < 46 + 6 * aNL T ∨ 46 + 6 * aNL T + 6 ≤ j) : (aMkL0 T f s c pr).1 j = T.1 j := by
  show un (un (un (un (un (un (un T.1 (46 + 6 * aNL T) f) (46 + 6 * aNL T + 1) s) (46 + 6 * aNL T + 2) c) (46 + 6 * aNL T + 3) 1) (46 + 6 * aNL T + 4) pr) (46 + 6 * aNL T + 5) 1) 1 (aNL T + 1) j = _
  rw [un_ne h1, un_ne (by omega), un_ne (by omega), un_ne (by omega), un_ne (by omega), un_ne (by omega), un_ne (by omega)]
theorem aMkL0_n {f s c pr : Nat} : aNL (aMkL0 T f s c pr) = aNL T + 1 := by simp [aNL, aMkL0, un]
theorem aMkL0_inv (hI : aInv V T) (hV : 1 ≤ V) {f s c pr : Nat} (hn : aNL T < 16) (hf : f < aNN T) (hs : s < aNN T) (hfs : f ≠ s) (hc1 : 1 ≤ c) (hc : c ≤ 20) (hpr : pr ≤ 1) : aInv V (aMkL0 T f s c pr) := by
  have h1 := hI.1
  have eN : aNN (aMkL0 T f s c pr) = aNN T := aMkL0_ot (by omega) (by omega)
  have eT : aNT (aMkL0 T f s c pr) = aNT T := aMkL0_ot (by omega) (by omega)
  have eL := aMkL0_n (T := T) (f := f) (s := s) (c := c) (pr := pr)
  have eLk : ∀ k p, p < 6 → k ≠ aNL T → aL (aMkL0 T f s c pr) k p = aL T k p := fun k p hp hk => aMkL0_ot (by omega) (by omega)
  have eTk : ∀ k p, aT (aMkL0 T f s c pr) k p = aT T k p := fun k p => aMkL0_ot (by omega) (by omega)
  refine hI.mk2 (Nat.le_refl V) rfl (by omega) (by omega) (by omega) (by omega) ?_ ?_ ?_ ?_ ?_ ?_
  · intro n hn'
    have : aAr (aMkL0 T f s c pr) n = aAr T n := aMkL0_ot (by omega) (by omega)
    have := hI.ar hn'
    omega
  · intro k hk
    by_cases h : k = aNL T
    · subst h
      rw [aMkL0_at (by omega), aMkL0_at (by omega), aMkL0_at (by omega), aMkL0_at (by omega), aMkL0_at (by omega), aMkL0_at (by omega), eN]
      exact ⟨hf, hs, hfs, hc1, hc, Nat.le_refl 1, hpr, Nat.le_refl 1, hV⟩
    · have := hI.2.2.1 k (by omega)
      rw [eLk _ _ (by omega) h, eLk _ _ (by omega) h, eLk _ _ (by omega) h, eLk _ _ (by omega) h, eLk _ _ (by omega) h, eLk _ _ (by omega) h, eN]
      exact this
  · intro k p h2 h3 h4
    rw [eLk k p h4 (by omega)]
    exact hI.2.2.2.1 k p (by omega) h3 h4
  · intro k hk
    have := hI.2.2.2.2.1 k (by omega)
    rw [eTk, eTk, eTk, eTk, eTk, eN]
    exact this
  · intro k p h2 h3 h4
    rw [eTk]
    exact hI.2.2.2.2.2.1 k p (by omega) h3 h4
  · intro i hi
    have a1 : aGr (aMkL0 T f s c pr) i = aGr T i := aMkL0_ot (by omega) (by omega)
    have a2 : aGv (aMkL0 T f s c pr) i = aGv T i := aMkL0_ot (by omega) (by omega)
    rw [a1, a2]
    exact hI.2.2.2.2.2.2.1 i hi
theorem aMkT0_at {en ex c p : Nat} (hp : p < 5) : aT (aMkT0 T en ex c) (aNT T) p = if p = 0 then en else if p = 1 then ex else if p = 2 then c else if p = 3 then 1 else 1 := by
  show un (un (un (un (un (un T.1 (142 + 5 * aNT T) en) (142 + 5 * aNT T + 1) ex) (142 + 5 * aNT T + 2) c) (142 + 5 * aNT T + 3) 1) (142 + 5 * aNT T + 4) 1) 2 (aNT T + 1) (142 + 5 * aNT T + p) = _
  rcases (show p = 0 ∨ p = 1 ∨ p = 2 ∨ p = 3 ∨ p = 4 by omega) with rfl | rfl | rfl | rfl | rfl
  · rw [un_ne (by omega), un_ne (by omega), un_ne (by omega), un_ne (by omega), un_ne (by omega)]; exact un_eq
  · rw [un_ne (by omega), un_ne (by omega), un_ne (by omega), un_ne (by omega)]; exact un_eq
  · rw [un_ne (by omega), un_ne (by omega), un_ne (by omega)]; exact un_eq
  · rw [un_ne (by omega), un_ne (by omega)]; exact un_eq
  · rw [un_ne (by omega)]; exact un_eq
theorem aMkT0_ot {en ex c j : Nat} (h1 : j ≠ 2) (h2 : j < 142 + 5 * aNT T ∨ 142 + 5 * aNT T + 5 ≤ j) : (aMkT0 T en ex c).1 j = T.1 j := by
  show un (un (un (un (un (un T.1 (142 + 5 * aNT T) en) (142 + 5 * aNT T + 1) ex) (142 + 5 * aNT T + 2) c) (142 + 5 * aNT T + 3) 1) (142 + 5 * aNT T + 4) 1) 2 (aNT T + 1) j = _
  rw [un_ne h1, un_ne (by omega), un_ne (by omega), un_ne (by omega), un_ne (by omega), un_ne (by omega)]
theorem aMkT0_n {en ex c : Nat} : aNT (aMkT0 T en ex c) = aNT T + 1 := by simp [aNT, aMkT0, un]
theorem aMkT0_inv (hI : aInv V T) (hV : 1 ≤ V) {en ex c : Nat} (hn : aNT T < 3) (hf : en < aNN T) (hs : ex < aNN T) (hfs : en ≠ ex) (hc1 : 1 ≤ c) (hc : c ≤ 40) : aInv V (aMkT0 T en ex c) := by
  have h1 := hI.1
  have eN : aNN (aMkT0 T en ex c) = aNN T := aMkT0_ot (by omega) (by omega)
  have eL : aNL (aMkT0 T en ex c) = aNL T := aMkT0_ot (by omega) (by omega)
  have eT := aMkT0_n (T := T) (en := en) (ex := ex) (c := c)
  have eLk : ∀ k p, k < 16 → p < 6 → aL (aMkT0 T en ex c) k p = aL T k p := fun k p hk hp => aMkT0_ot (by omega) (by omega)
  have eTk : ∀ k p, p < 5 → k ≠ aNT T → aT (aMkT0 T en ex c) k p = aT T k p := fun k p hp hk => aMkT0_ot (by omega) (by omega)
  refine hI.mk2 (Nat.le_refl V) rfl (by omega) (by omega) (by omega) (by omega) ?_ ?_ ?_ ?_ ?_ ?_
  · intro n hn'
    have : aAr (aMkT0 T en ex c) n = aAr T n := aMkT0_ot (by omega) (by omega)
    have := hI.ar hn'
    omega
  · intro k hk
    have := hI.2.2.1 k (by omega)
    rw [eLk _ _ (by omega) (by omega), eLk _ _ (by omega) (by omega), eLk _ _ (by omega) (by omega), eLk _ _ (by omega) (by omega), eLk _ _ (by omega) (by omega), eLk _ _ (by omega) (by omega), eN]
    exact this
  · intro k p h2 h3 h4
    rw [eLk k p h3 h4]
    exact hI.2.2.2.1 k p (by omega) h3 h4
  · intro k hk
    by_cases h : k = aNT T
    · subst h
      rw [aMkT0_at (by omega), aMkT0_at (by omega), aMkT0_at (by omega), aMkT0_at (by omega), aMkT0_at (by omega), eN]
      exact ⟨hf, hs, hfs, hc1, hc, Nat.le_refl 1, Nat.le_refl 1, hV⟩
    · have := hI.2.2.2.2.1 k (by omega)
      rw [eTk _ _ (by omega) h, eTk _ _ (by omega) h, eTk _ _ (by omega) h, eTk _ _ (by omega) h, eTk _ _ (by omega) h, eN]
      exact this
  · intro k p h2 h3 h4
    rw [eTk k p h4 (by omega)]
    exact hI.2.2.2.2.2.1 k p (by omega) h3 h4
  · intro i hi
    have a1 : aGr (aMkT0 T en ex c) i = aGr T i := aMkT0_ot (by omega) (by omega)
    have a2 : aGv (aMkT0 T en ex c) i = aGv T i := aMkT0_ot (by omega) (by omega)
    rw [a1, a2]
    exact hI.2.2.2.2.2.2.1 i hi
theorem aSL_at {k up c p : Nat} (hp : p < 6) : aL (aSL T k up c) k p = if p = 3 then up else if p = 2 then c else if p = 5 then aL T k 5 + 1 else aL T k p := by
  show un (un (un T.1 (46 + 6 * k + 3) up) (46 + 6 * k + 2) c) (46 + 6 * k + 5) (aL T k 5 + 1) (46 + 6 * k + p) = _
  rcases (show p = 0 ∨ p = 1 ∨ p = 2 ∨ p = 3 ∨ p = 4 ∨ p = 5 by omega) with rfl | rfl | rfl | rfl | rfl | rfl
  · rw [un_ne (by omega), un_ne (by omega), un_ne (by omega)]; rfl
  · rw [un_ne (by omega), un_ne (by omega), un_ne (by omega)]; rfl
  · rw [un_ne (by omega)]; exact un_eq
  · rw [un_ne (by omega), un_ne (by omega)]; exact un_eq
  · rw [un_ne (by omega), un_ne (by omega), un_ne (by omega)]; rfl
  · exact un_eq
theorem aSL_ot {k up c j : Nat} (h2 : j < 46 + 6 * k ∨ 46 + 6 * k + 6 ≤ j) : (aSL T k up c).1 j = T.1 j := by
  show un (un (un T.1 (46 + 6 * k + 3) up) (46 + 6 * k + 2) c) (46 + 6 * k + 5) (aL T k 5 + 1) j = _
  rw [un_ne (by omega), un_ne (by omega), un_ne (by omega)]
theorem aSL_inv (hI : aInv V T) {k up c : Nat} (hk : k < aNL T) (hu : up ≤ 1) (hc1 : 1 ≤ c) (hc : c ≤ 20) : aInv (V + 1) (aSL T k up c) := by
  have h1 := hI.1
  have eN : aNN (aSL T k up c) = aNN T := aSL_ot (by omega)
  have eL : aNL (aSL T k up c) = aNL T := aSL_ot (by omega)
  have eT : aNT (aSL T k up c) = aNT T := aSL_ot (by omega)
  have eLk : ∀ k' p, p < 6 → k' ≠ k → aL (aSL T k up c) k' p = aL T k' p := fun k' p hp hk' => aSL_ot (by omega)
  have eTk : ∀ k' p, aT (aSL T k up c) k' p = aT T k' p := fun k' p => aSL_ot (by omega)
  refine hI.mk2 (by omega) rfl (by omega) (by omega) (by omega) (by omega) ?_ ?_ ?_ ?_ ?_ ?_
  · intro n hn'
    have : aAr (aSL T k up c) n = aAr T n := aSL_ot (by omega)
    have := hI.ar hn'
    omega
  · intro k' hk'
    have hh := hI.2.2.1 k' (by omega)
    by_cases h : k' = k
    · subst h
      rw [aSL_at (by omega), aSL_at (by omega), aSL_at (by omega), aSL_at (by omega), aSL_at (by omega), aSL_at (by omega), eN]
      refine ⟨hh.1, hh.2.1, hh.2.2.1, hc1, hc, hu, hh.2.2.2.2.2.2.1, ?_, ?_⟩
      · show 1 ≤ aL T k' 5 + 1; omega
      · show aL T k' 5 + 1 ≤ V + 1; omega
    · rw [eLk _ _ (by omega) h, eLk _ _ (by omega) h, eLk _ _ (by omega) h, eLk _ _ (by omega) h, eLk _ _ (by omega) h, eLk _ _ (by omega) h, eN]
      omega
  · intro k' p h2 h3 h4
    rw [eLk k' p h4 (by omega)]
    exact hI.2.2.2.1 k' p (by omega) h3 h4
  · intro k' hk'
    have := hI.2.2.2.2.1 k' (by omega)
    rw [eTk, eTk, eTk, eTk, eTk, eN]
    omega
  · intro k' p h2 h3 h4
    rw [eTk]
    exact hI.2.2.2.2.2.1 k' p (by omega) h3 h4
  · intro i hi
    have a1 : aGr (aSL T k up c) i = aGr T i := aSL_ot (by omega)
    have a2 : aGv (aSL T k up c) i = aGv T i := aSL_ot (by omega)
    have := hI.2.2.2.2.2.2.1 i hi
    rw [a1, a2]
    exact ⟨this.1, by omega, this.2.2⟩
theorem aST_at {k up c p : Nat} (hp : p < 5) : aT (aST T k up c) k p = if p = 3 then up else if p = 2 then c else if p = 4 then aT T k 4 + 1 else aT T k p := by
  show un (un (un T.1 (142 + 5 * k + 3) up) (142 + 5 * k + 2) c) (142 + 5 * k + 4) (aT T k 4 + 1) (142 + 5 * k + p) = _
  rcases (show p = 0 ∨ p = 1 ∨ p = 2 ∨ p = 3 ∨ p = 4 by omega) with rfl | rfl | rfl | rfl | rfl
  · rw [un_ne (by omega), un_ne (by omega), un_ne (by omega)]; rfl
  · rw [un_ne (by omega), un_ne (by omega), un_ne (by omega)]; rfl
  · rw [un_ne (by omega)]; exact un_eq
  · rw [un_ne (by omega), un_ne (by omega)]; exact un_eq
  · exact un_eq
theorem aST_ot {k up c j : Nat} (h2 : j < 142 + 5 * k ∨ 142 + 5 * k + 5 ≤ j) : (aST T k up c).1 j = T.1 j := by
  show un (un (un T.1 (142 + 5 * k + 3) up) (142 + 5 * k + 2) c) (142 + 5 * k + 4) (aT T k 4 + 1) j = _
  rw [un_ne (by omega), un_ne (by omega), un_ne (by omega)]
theorem aST_inv (hI : aInv V T) {k up c : Nat} (hk : k < aNT T) (hu : up ≤ 1) (hc1 : 1 ≤ c) (hc : c ≤ 40) : aInv (V + 1) (aST T k up c) := by
  have h1 := hI.1
  have eN : aNN (aST T k up c) = aNN T := aST_ot (by omega)
  have eL : aNL (aST T k up c) = aNL T := aST_ot (by omega)
  have eT : aNT (aST T k up c) = aNT T := aST_ot (by omega)
  have eLk : ∀ k' p, k' < 16 → p < 6 → aL (aST T k up c) k' p = aL T k' p := fun k' p hk' hp => aST_ot (by omega)
  have eTk : ∀ k' p, p < 5 → k' ≠ k → aT (aST T k up c) k' p = aT T k' p := fun k' p hp hk' => aST_ot (by omega)
  refine hI.mk2 (by omega) rfl (by omega) (by omega) (by omega) (by omega) ?_ ?_ ?_ ?_ ?_ ?_
  · intro n hn'
    have : aAr (aST T k up c) n = aAr T n := aST_ot (by omega)
    have := hI.ar hn'
    omega
  · intro k' hk'
    have hh := hI.2.2.1 k' (by omega)
    rw [eLk _ _ (by omega) (by omega), eLk _ _ (by omega) (by omega), eLk _ _ (by omega) (by omega), eLk _ _ (by omega) (by omega), eLk _ _ (by omega) (by omega), eLk _ _ (by omega) (by omega), eN]
    omega
  · intro k' p h2 h3 h4
    rw [eLk k' p h3 h4]
    exact hI.2.2.2.1 k' p (by omega) h3 h4
  · intro k' hk'
    have hh := hI.2.2.2.2.1 k' (by omega)
    by_cases h : k' = k
    · subst h
      rw [aST_at (by omega), aST_at (by omega), aST_at (by omega), aST_at (by omega), aST_at (by omega), eN]
      refine ⟨hh.1, hh.2.1, hh.2.2.1, hc1, hc, hu, ?_, ?_⟩
      · show 1 ≤ aT T k' 4 + 1; omega
      · show aT T k' 4 + 1 ≤ V + 1; omega
    · rw [eTk _ _ (by omega) h, eTk _ _ (by omega) h, eTk _ _ (by omega) h, eTk _ _ (by omega) h, eTk _ _ (by omega) h, eN]
      omega
  · intro k' p h2 h3 h4
    rw [eTk k' p h4 (by omega)]
    exact hI.2.2.2.2.2.1 k' p (by omega) h3 h4
  · intro i hi
    have a1 : aGr (aST T k up c) i = aGr T i := aST_ot (by omega)
    have a2 : aGv (aST T k up c) i = aGv T i := aST_ot (by omega)
    have := hI.2.2.2.2.2.2.1 i hi
    rw [a1, a2]
    exact ⟨this.1, by omega, this.2.2⟩
theorem aSG_ot {i on j : Nat} (h1 : j ≠ 14 + i) (h2 : j ≠ 30 + i) : (aSG T i on).1 j = T.1 j := by
  show un (un T.1 (14 + i) on) (30 + i) (aGv T i + 1) j = _
  rw [un_ne h2, un_ne h1]
theorem aSG_v {i on : Nat} : aGv (aSG T i on) i = aGv T i + 1 := if_pos rfl
theorem aSG_g {i on : Nat} : aGr (aSG T i on) i = on := by
  show un (un T.1 (14 + i) on) (30 + i) (aGv T i + 1) (14 + i) = _
  rw [un_ne (by omega)]; exact un_eq
theorem aSG_inv (hI : aInv V T) {i on : Nat} (hi : i < 16) (hd : ¬ i / 4 = i % 4) (ho : on ≤ 1) : aInv (V + 1) (aSG T i on) := by
  have h1 := hI.1
  have eN : aNN (aSG T i on) = aNN T := aSG_ot (by omega) (by omega)
  have eL : aNL (aSG T i on) = aNL T := aSG_ot (by omega) (by omega)
  have eT : aNT (aSG T i on) = aNT T := aSG_ot (by omega) (by omega)
  have eLk : ∀ k' p, aL (aSG T i on) k' p = aL T k' p := fun k' p => aSG_ot (by omega) (by omega)
  have eTk : ∀ k' p, aT (aSG T i on) k' p = aT T k' p := fun k' p => aSG_ot (by omega) (by omega)
  refine hI.mk2 (by omega) rfl (by omega) (by omega) (by omega) (by omega) ?_ ?_ ?_ ?_ ?_ ?_
  · intro n hn'
    have : aAr (aSG T i on) n = aAr T n := aSG_ot (by omega) (by omega)
    have := hI.ar hn'
    omega
  · intro k' hk'
    have hh := hI.2.2.1 k' (by omega)
    rw [eLk, eLk, eLk, eLk, eLk, eLk, eN]
    omega
  · intro k' p h2 h3 h4
    rw [eLk k' p]
    exact hI.2.2.2.1 k' p (by omega) h3 h4
  · intro k' hk'
    have hh := hI.2.2.2.2.1 k' (by omega)
    rw [eTk, eTk, eTk, eTk, eTk, eN]
    omega
  · intro k' p h2 h3 h4
    rw [eTk k' p]
    exact hI.2.2.2.2.2.1 k' p (by omega) h3 h4
  · intro j hj
    have hh := hI.2.2.2.2.2.2.1 j hj
    by_cases h : j = i
    · subst h
      rw [aSG_v, aSG_g]
      exact ⟨ho, by omega, fun q => absurd q hd⟩
    · have a1 : aGr (aSG T i on) j = aGr T j := aSG_ot (by omega) (by omega)
      have a2 : aGv (aSG T i on) j = aGv T j := aSG_ot (by omega) (by omega)
      rw [a1, a2]
      exact ⟨hh.1, by omega, hh.2.2⟩
end P29
