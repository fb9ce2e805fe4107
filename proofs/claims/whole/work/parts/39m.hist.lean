/-! The history. -/
/-- two states that agree wherever it counts -/
def aEq (A B : zA) : Prop := (∀ j, j < 157 → A.1 j = B.1 j) ∧ ∀ n i p, n < 10 → i < 35 → p < 4 → A.2 n i p = B.2 n i p
section P39m
variable {A B T : zA} {V : Nat}
theorem aEq.inv (h : aEq A B) (hI : aInv V A) : aInv V B := by
  obtain ⟨h1, h2⟩ := h
  obtain ⟨i1, i2, i3, i4, i5, i6, i7, i8, i9⟩ := hI
  have eN : aNN B = aNN A := (h1 0 (by omega)).symm
  have eL : aNL B = aNL A := (h1 1 (by omega)).symm
  have eT : aNT B = aNT A := (h1 2 (by omega)).symm
  have eLk : ∀ k p, k < 16 → p < 6 → aL B k p = aL A k p := fun k p hk hp => (h1 _ (by omega)).symm
  have eTk : ∀ k p, k < 3 → p < 5 → aT B k p = aT A k p := fun k p hk hp => (h1 _ (by omega)).symm
  refine ⟨?_, ?_, ?_, ?_, ?_, ?_, ?_, ?_, ?_⟩
  · rw [eN, eL, eT]; exact i1
  · intro n hn
    have : aAr B n = aAr A n := (h1 _ (by omega)).symm
    rw [this]; exact i2 n hn
  · intro k hk
    rw [eL] at hk
    rw [eN, eLk k 0 (by omega) (by omega), eLk k 1 (by omega) (by omega), eLk k 2 (by omega) (by omega), eLk k 3 (by omega) (by omega), eLk k 4 (by omega) (by omega), eLk k 5 (by omega) (by omega)]
    exact i3 k hk
  · intro k p h3 h4 h5
    rw [eLk k p h4 h5]; exact i4 k p (by omega) h4 h5
  · intro k hk
    rw [eT] at hk
    rw [eN, eTk k 0 (by omega) (by omega), eTk k 1 (by omega) (by omega), eTk k 2 (by omega) (by omega), eTk k 3 (by omega) (by omega), eTk k 4 (by omega) (by omega)]
    exact i5 k hk
  · intro k p h3 h4 h5
    rw [eTk k p h4 h5]; exact i6 k p (by omega) h4 h5
  · intro i hi
    have e1 : aGr B i = aGr A i := (h1 _ (by omega)).symm
    have e2 : aGv B i = aGv A i := (h1 _ (by omega)).symm
    rw [e1, e2]; exact i7 i hi
  · intro n i p hn hi hp hz
    rw [eN, eL, eT] at hz
    rw [← h2 n i p hn hi hp]; exact i8 n i p hn hi hp hz
  · intro n i hn hi
    rw [← h2 n i 0 hn hi (by omega), ← h2 n i 1 hn hi (by omega), ← h2 n i 2 hn hi (by omega), ← h2 n i 3 hn hi (by omega)]
    exact i9 n i hn hi
theorem aEq.rel (h : aEq A B) (hI : aInv V A) {N : zNet} (hR : aRel A N) : aRel B N := by
  obtain ⟨h1, h2⟩ := h
  have hh := hI.1
  obtain ⟨r1, r2, r3, r4, r5, r6, r7, r8, r9, r10⟩ := hR
  have eN : aNN B = aNN A := (h1 0 (by omega)).symm
  have eL : aNL B = aNL A := (h1 1 (by omega)).symm
  have eT : aNT B = aNT A := (h1 2 (by omega)).symm
  have eM : aMS B = aMS A := (h1 3 (by omega)).symm
  have eLk : ∀ k p, k < 16 → p < 6 → aL B k p = aL A k p := fun k p hk hp => (h1 _ (by omega)).symm
  have eTk : ∀ k p, k < 3 → p < 5 → aT B k p = aT A k p := fun k p hk hp => (h1 _ (by omega)).symm
  refine ⟨?_, ?_, ?_, ?_, ?_, ?_, ?_, ?_, ?_, ?_⟩
  · rw [eN]; exact r1
  · rw [eL]; exact r2
  · rw [eT]; exact r3
  · rw [eM]; exact r4
  · intro n hn
    have : aAr B n = aAr A n := (h1 _ (by omega)).symm
    rw [this]; exact r5 n (by omega)
  · intro k hk
    rw [eLk k 0 (by omega) (by omega), eLk k 1 (by omega) (by omega), eLk k 4 (by omega) (by omega)]; exact r6 k (by omega)
  · intro k hk
    rw [eTk k 0 (by omega) (by omega), eTk k 1 (by omega) (by omega)]; exact r7 k (by omega)
  · intro i hi
    obtain ⟨x1, x2, x3⟩ := aTx_same (A := B) (B := A) hi (fun h => ⟨(h1 _ (by omega)).symm, (h1 _ (by omega)).symm⟩) (fun _ _ p hp => eLk _ p (by omega) hp) (fun _ p hp => eTk _ p (by omega) hp)
    rw [x1, x2, x3]; exact r8 i hi
  · intro n i hn hi
    rw [← h2 n i 0 hn hi (by omega), ← h2 n i 1 hn hi (by omega), ← h2 n i 2 hn hi (by omega)]; exact r9 n i hn hi
  · intro n j hn hj
    rw [r10 n j hn hj]
    by_cases h35 : j < 35
    · rw [h2 n j 3 hn h35 (by omega)]
    · simp [h35]
theorem zI_lift {m : Nat → Int32} (h : ∀ j, j < 1557 → m j = zI A j) : ∃ B, m = zI B ∧ aEq A B := by
  refine ⟨(A.1, fun n i p => if n < 10 ∧ i < 35 ∧ p < 4 then A.2 n i p else (m (157 + 4 * (35 * n + i) + p)).toBitVec.toNat), ?_, fun j _ => rfl, fun n i p hn hi hp => (if_pos ⟨hn, hi, hp⟩).symm⟩
  funext j
  by_cases hj : j < 1557
  · rw [h j hj]
    unfold zI flA
    by_cases h1 : j < 157
    · rw [if_pos h1, if_pos h1]
    · rw [if_neg h1, if_neg h1]
      dsimp only
      rw [if_pos (by omega)]
  · unfold zI flA
    rw [if_neg (by omega)]
    dsimp only
    rw [if_neg (by omega)]
    have e : 157 + 4 * (35 * ((j - 157) / 140) + (j - 157) % 140 / 4) + (j - 157) % 4 = j := by omega
    rw [e]
    apply Int32.toBitVec_inj.mp
    apply BitVec.eq_of_toNat_eq
    rw [pk_tn (m j).toBitVec.isLt]
theorem c_copyFrom (hI : aInv V T) {N K : zNet} (hR : aRel T K) : ∃ q, fX3_copyFrom N.2.2.2.2.1 N.2.2.2.2.2.1 N.2.2.2.2.2.2.1 N.2.2.2.2.2.2.2.1 N.2.2.2.2.2.2.2.2.1 N.2.2.2.2.2.2.2.2.2.1 N.2.2.2.2.2.2.2.2.2.2.1 N.2.2.2.2.2.2.2.2.2.2.2.1 N.2.2.2.2.2.2.2.2.2.2.2.2 K.1 K.2.1 K.2.2.1 K.2.2.2.1 K.2.2.2.2.1 K.2.2.2.2.2.1 K.2.2.2.2.2.2.1 K.2.2.2.2.2.2.2.1 K.2.2.2.2.2.2.2.2.1 K.2.2.2.2.2.2.2.2.2.1 K.2.2.2.2.2.2.2.2.2.2.1 K.2.2.2.2.2.2.2.2.2.2.2.1 K.2.2.2.2.2.2.2.2.2.2.2.2 = some q ∧ aRel T q := by
  obtain ⟨r1, r2, r3, r4, r5, r6, r7, r8, r9, r10⟩ := hR
  have hh := hI.1
  unfold fX3_copyFrom
  have cp : ∀ {α : Type} (f g : Nat → α) n j, j < n → va_cpy f g 0 0 n j = f j := by
    intro α f g n j hj
    rw [pk_cpy_in (by omega) (by omega), show 0 + (j - 0) = j by omega]
  refine ⟨_, rfl, r1, r2, r3, r4, ?_, ?_, ?_, ?_, ?_, ?_⟩
  · intro n hn
    dsimp only
    rw [cp _ _ _ _ (by omega)]; exact r5 n hn
  · intro k hk
    dsimp only
    rw [cp _ _ _ _ (by omega), cp _ _ _ _ (by omega), cp _ _ _ _ (by omega)]; exact r6 k hk
  · intro k hk
    dsimp only
    rw [cp _ _ _ _ (by omega), cp _ _ _ _ (by omega)]; exact r7 k hk
  · intro i hi
    dsimp only
    rw [cp _ _ _ _ (by omega)]; exact r8 i hi
  · intro n i hn hi
    dsimp only
    rw [cp _ _ _ _ (by omega)]; exact r9 n i hn hi
  · intro n j hn hj
    dsimp only
    rw [cp _ _ _ _ (by omega)]; exact r10 n j hn hj
/-- the saved states in both -/
def hRel (V : Nat) (S : Nat → zA) (sz : Nat) (saved : Nat → Int32) (hF : Nat → Option Nat) (hG : Nat → Nat → Nat) (hN : Nat → zNet) : Prop :=
  sz ≤ 5 ∧ (∀ q, q < sz → aInv V (S q) ∧ (∀ j, j < 1557 → saved (1557 * q + j) = zI (S q) j) ∧ aRel (S q) (hN q)) ∧ ∀ k, k < 5 → hF k = some (hG k 0)
theorem hRel.mono {V' : Nat} {S : Nat → zA} {sz : Nat} {saved : Nat → Int32} {hF : Nat → Option Nat} {hG : Nat → Nat → Nat} {hN : Nat → zNet} (h : hRel V S sz saved hF hG hN) (hv : V ≤ V') : hRel V' S sz saved hF hG hN := ⟨h.1, fun q hq => ⟨(h.2.1 q hq).1.mono hv, (h.2.1 q hq).2⟩, h.2.2⟩
theorem e_save_49 {saved aside : Nat → Int32} {sz : Nat} (hsz : sz < 5) : uX7_saveAside_49 saved (nI sz) aside = some (fun j => if 1557 * sz ≤ j ∧ j < 1557 * sz + 1557 then aside (j - 1557 * sz) else saved j, nI (sz + 1), 0) := by
  have e85 : ∀ s, uX7_saveAside_85 s (nI sz) = some (s, nI (sz + 1), 0) := fun s => by unfold uX7_saveAside_85; rw [zl1, nI_add]
  have e0 : saved = (fun k => fun j => if 1557 * sz ≤ j ∧ j < 1557 * sz + k then aside (j - 1557 * sz) else saved j) 0 := by
    funext j
    dsimp only
    rw [if_neg (by omega)]
  unfold uX7_saveAside_49
  refine (congrArg (fun x => wh (fun b : Int32 × (Nat → Int32) => sX7_saveAside_51 (nI sz) aside b.1 b.2) ((0 : Int32), x)) e0).trans ?_
  rw [← e85]
  refine wh_fun (fun b : Int32 × (Nat → Int32) => sX7_saveAside_51 (nI sz) aside b.1 b.2) 1557 (fun k => fun j => if 1557 * sz ≤ j ∧ j < 1557 * sz + k then aside (j - 1557 * sz) else saved j) (fun s => uX7_saveAside_85 s (nI sz)) ?_ ?_ 0 (by omega)
  · intro k hk
    dsimp only [sX7_saveAside_51]
    rw [zl1557, ite_leN (by omega) (by omega), if_neg (by omega), gd_in hk, pk_mul, nI_add, gd_in (by omega), nI_cl (by omega), nI_cl (by omega), nm_eq, zl1, nI_add]
    refine congrArg (fun x => some (Sum.inl (nI (k + 1), x))) ?_
    funext j
    unfold upd
    dsimp only
    by_cases h : j = 1557 * sz + k
    · rw [if_pos h, if_pos (by omega), h]
      congr 1
      omega
    · rw [if_neg h]
      by_cases h2 : 1557 * sz ≤ j ∧ j < 1557 * sz + k
      · rw [if_pos h2, if_pos (by omega)]
      · rw [if_neg h2, if_neg (by omega)]
  · dsimp only [sX7_saveAside_51]
    rw [zl1557, ite_leN (by omega) (by omega), if_pos (by omega)]
theorem e_saveAside {saved aside : Nat → Int32} {sz : Nat} (hsz : sz ≤ 5) : ∃ saved' sz', fX7_saveAside saved (nI sz) aside = some (saved', nI sz', 0) ∧ sz' = (if sz = 5 then 5 else sz + 1) ∧ (∀ j, j < 1557 → saved' (1557 * (sz' - 1) + j) = aside j) ∧ (∀ q j, q < sz' - 1 → j < 1557 → saved' (1557 * q + j) = saved (1557 * (if sz = 5 then q + 1 else q) + j)) := by
  unfold fX7_saveAside
  rw [zl5, ite_eqN (by omega) (by omega)]
  by_cases h5 : sz = 5
  · subst h5
    have key : lX7_saveAside_10 (nI 5) aside (nI 0) saved = uX7_saveAside_39 (fun j => if j < 6228 then saved (j + 1557) else saved j) (nI 5) aside := by
      have e0 : saved = (fun k => fun j => if j < k then saved (j + 1557) else saved j) 0 := by
        funext j
        dsimp only
        rw [if_neg (by omega)]
      refine (congrArg (fun x => wh (fun b : Int32 × (Nat → Int32) => sX7_saveAside_10 (nI 5) aside b.1 b.2) (nI 0, x)) e0).trans ?_
      refine wh_fun (fun b : Int32 × (Nat → Int32) => sX7_saveAside_10 (nI 5) aside b.1 b.2) 6228 (fun k => fun j => if j < k then saved (j + 1557) else saved j) (fun s => uX7_saveAside_39 s (nI 5) aside) ?_ ?_ 0 (by omega)
      · intro k hk
        dsimp only [sX7_saveAside_10]
        rw [zl6228, ite_leN (by omega) (by omega), if_neg (by omega), zl1557, nI_add, gd_in (by omega), gd_in (by omega), nI_cl (by omega), nI_cl (by omega), nm_eq, zl1, nI_add]
        refine congrArg (fun x => some (Sum.inl (nI (k + 1), x))) ?_
        funext j
        unfold upd
        dsimp only
        by_cases h : j = k
        · rw [if_pos h, if_neg (by omega), if_pos (by omega), h]
        · rw [if_neg h]
          by_cases h2 : j < k
          · rw [if_pos h2, if_pos (by omega)]
          · rw [if_neg h2, if_neg (by omega)]
      · dsimp only [sX7_saveAside_10]
        rw [zl6228, ite_leN (by omega) (by omega), if_pos (by omega)]
    rw [if_pos rfl, zl0, key]
    unfold uX7_saveAside_39
    rw [zl1, pk_sub (by omega), e_save_49 (by omega)]
    refine ⟨_, 5, rfl, by rw [if_pos rfl], fun j hj => ?_, fun q j hq hj => ?_⟩
    · try dsimp only
      rw [if_pos (by omega)]
      exact congrArg aside (by omega)
    · try dsimp only
      rw [if_neg (by omega), if_pos (by omega), if_pos rfl]
      exact congrArg saved (by omega)
  · rw [if_neg h5, e_save_49 (by omega)]
    refine ⟨_, sz + 1, rfl, by rw [if_neg h5], fun j hj => ?_, fun q j hq hj => ?_⟩
    · try dsimp only
      rw [if_pos (by omega)]
      exact congrArg aside (by omega)
    · try dsimp only
      rw [if_neg (by omega), if_neg h5]
end P39m
