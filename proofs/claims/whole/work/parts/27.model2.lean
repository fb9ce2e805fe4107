/-! The reference's changes. -/
def aAwB (T : zA) (n B : Nat) : zA := (T.1, fun n' i' p' => if n' = n ∧ i' < B ∧ p' = 3 then (if 0 < T.2 n i' 0 then 1 else 0) else T.2 n' i' p')
def aAwake (T : zA) (n : Nat) : zA := aAwB T n 35
def aTell (T : zA) (n k : Nat) : zA := aLearn T n (16 + k) (aL T k 5) (aL T k 3) (aL T k 2)
def aChL (T : zA) (k b : Nat) : zA := if b = 0 then aTell (aTell T (aL T k 0) k) (aL T k 1) k else aAwake (aAwake (aTell (aTell T (aL T k 0) k) (aL T k 1) k) (aL T k 0)) (aL T k 1)
def aGrB (T : zA) (o i st : Nat) : Nat → zA
  | 0 => T
  | m + 1 => if aAr T m = o then aLearn (aGrB T o i st m) m i (aGv T i) st 0 else aGrB T o i st m
def aChG (T : zA) (o b on : Nat) : zA := aGrB (un (un T.1 (14 + (4 * o + b)) on) (30 + (4 * o + b)) (aGv T (4 * o + b) + 1), T.2) o (4 * o + b) on (aNN T)
def aChT (T : zA) (k : Nat) : zA := aLearn T (aT T k 0) (32 + k) (aT T k 4) (aT T k 3) (aT T k 2)
section P27
variable {T : zA} {V : Nat}
theorem aAwB_1 {n B : Nat} : (aAwB T n B).1 = T.1 := rfl
theorem aAwB_inv (hI : aInv V T) {n : Nat} (hn : n < aNN T) : aInv V (aAwake T n) := by
  obtain ⟨i1, i2, i3, i4, i5, i6, i7, i8, i9⟩ := hI
  refine ⟨i1, i2, i3, i4, i5, i6, i7, ?_, ?_⟩
  · intro n' i' p' hn' hi' hp' hz
    have hT := i8 n' i' p' hn' hi' hp' hz
    have h0 := i8 n' i' 0 hn' hi' (by omega) hz
    show (if n' = n ∧ i' < 35 ∧ p' = 3 then (if 0 < T.2 n i' 0 then 1 else 0) else T.2 n' i' p') = 0
    by_cases h : n' = n ∧ i' < 35 ∧ p' = 3
    · rw [if_pos h, ← h.1, h0]; rfl
    · rw [if_neg h]; exact hT
  · intro n' i' hn' hi'
    have hT := i9 n' i' hn' hi'
    have e : ∀ p, p < 3 → (aAwake T n).2 n' i' p = T.2 n' i' p := fun p hp => if_neg (by omega)
    have e3 : (aAwake T n).2 n' i' 3 = if n' = n then (if 0 < T.2 n i' 0 then 1 else 0) else T.2 n' i' 3 := by
      show (if n' = n ∧ i' < 35 ∧ 3 = 3 then (if 0 < T.2 n i' 0 then 1 else 0) else T.2 n' i' 3) = _
      by_cases h : n' = n
      · rw [if_pos h, if_pos ⟨h, hi', rfl⟩]
      · rw [if_neg h, if_neg (fun q => h q.1)]
    rw [e 0 (by omega), e 1 (by omega), e 2 (by omega), e3]
    by_cases h : n' = n
    · subst h
      rw [if_pos rfl]
      by_cases h0 : 0 < T.2 n' i' 0
      · rw [if_pos h0]
        exact ⟨hT.1, hT.2.1, hT.2.2.1, Nat.le_refl 1, fun z => by omega⟩
      · rw [if_neg h0]
        exact ⟨hT.1, hT.2.1, hT.2.2.1, Nat.zero_le 1, fun z => ⟨(hT.2.2.2.2 z).1, (hT.2.2.2.2 z).2.1, rfl⟩⟩
    · rw [if_neg h]; exact hT
theorem e_awake (hI : aInv V T) (hV : V < 2 ^ 20) {n : Nat} (hn : n < 10) : fX7_awake (nI n) (zI T) = some (zI (aAwake T n)) := by
  unfold fX7_awake
  have e0 : zI T = zI (aAwB T n 0) := congrArg zI (zA_ext rfl (fun n' i' p' => (if_neg (by omega)).symm))
  rw [e0]
  refine wh_fun (fun b : Int32 × (Nat → Int32) => sX7_awake_2 (nI n) b.1 b.2) 35 (fun k => zI (aAwB T n k)) (fun s => some s) ?_ ?_ 0 (by omega)
  · intro k hk
    have hd := hI.db hn hk
    dsimp only [sX7_awake_2]
    have ek : (aAwB T n k).2 n k 0 = T.2 n k 0 := if_neg (by omega)
    rw [zl35, ite_leN (by omega) (by omega), if_neg (by omega), e_at]
    simp only [Option.bind_some]
    rw [zl0, e_fact hn hk (by omega), ek]
    simp only [Option.bind_some]
    have e34 : ∀ x, uX7_awake_34 (nI k) (nI (157 + 4 * (35 * n + k)) + 3) (nI x) (zI (aAwB T n k)) = some (.inl (nI (k + 1), zI (T.1, ud (aAwB T n k).2 n k 3 x))) := fun x => by
      unfold uX7_awake_34
      rw [zl3, nI_add, gd_in (by omega), nI_cl (by omega), nm_eq, zl1, nI_add, upd_d hk (by omega)]
      rfl
    have step : ∀ x, x = (if 0 < T.2 n k 0 then 1 else 0) → (T.1, ud (aAwB T n k).2 n k 3 x) = aAwB T n (k + 1) := by
      intro x hx
      refine zA_ext rfl (fun n' i' p' => ?_)
      show ud (aAwB T n k).2 n k 3 x n' i' p' = (if n' = n ∧ i' < k + 1 ∧ p' = 3 then (if 0 < T.2 n i' 0 then 1 else 0) else T.2 n' i' p')
      unfold ud
      by_cases h : n' = n ∧ i' = k ∧ p' = 3
      · rw [if_pos h, if_pos ⟨h.1, by omega, h.2.2⟩, hx, h.2.1]
      · rw [if_neg h]
        show (if n' = n ∧ i' < k ∧ p' = 3 then (if 0 < T.2 n i' 0 then 1 else 0) else T.2 n' i' p') = _
        by_cases h2 : n' = n ∧ i' < k ∧ p' = 3
        · have h3 : n' = n ∧ i' < k + 1 ∧ p' = 3 := ⟨h2.1, by omega, h2.2.2⟩
          rw [if_pos h2, if_pos h3]
        · rw [if_neg h2, if_neg (fun q => by omega)]
    rw [ite_leN (by omega) (by omega)]
    by_cases h : 0 < T.2 n k 0
    · rw [if_neg (by omega), zl1, e34, step 1 (by rw [if_pos h])]
    · rw [if_pos (by omega), e34, step 0 (by rw [if_neg h])]
  · dsimp only [sX7_awake_2]
    rw [zl35, ite_leN (by omega) (by omega), if_pos (by omega)]
theorem e_tellLink (hI : aInv V T) (hV : V < 2 ^ 20) {n k : Nat} (hn : n < 10) (hk : k < 16) : fX7_tellLink (nI n) (nI k) (zI T) = some (zI (aTell T n k)) := by
  have hl := hI.link hk
  simp only [fX7_tellLink, zl5, zl3, zl2, zl16]
  rw [e_linkPart hk (by omega), e_linkPart hk (by omega), e_linkPart hk (by omega)]
  simp only [Option.bind_some]
  rw [nI_add, e_learn hI hV hn (by omega) hl.2.2.2.1 (by omega)]
  rfl
theorem aTell_1 {n k : Nat} : (aTell T n k).1 = T.1 := aLearn_1
theorem aL_of {A B : zA} (h : A.1 = B.1) (k p : Nat) : aL A k p = aL B k p := by unfold aL; rw [h]
theorem aTell_inv (hI : aInv V T) {n k : Nat} (hn : n < aNN T) (hk : k < aNL T) : aInv V (aTell T n k) := by
  have h := hI.2.2.1 k hk
  exact hI.learn hn (Or.inr (Or.inl ⟨by omega, by omega⟩)) h.2.2.2.2.2.2.2.1 h.2.2.2.2.2.2.2.2 h.2.2.2.2.2.1 (by omega)
theorem aChL_1 {k b : Nat} : (aChL T k b).1 = T.1 := by
  unfold aChL
  by_cases h : b = 0
  · rw [if_pos h, aTell_1, aTell_1]
  · rw [if_neg h]
    show (aTell (aTell T (aL T k 0) k) (aL T k 1) k).1 = T.1
    rw [aTell_1, aTell_1]
theorem aChL_tell (hI : aInv V T) {k : Nat} (hk : k < aNL T) : aInv V (aTell T (aL T k 0) k) ∧ aInv V (aTell (aTell T (aL T k 0) k) (aL T k 1) k) := by
  have h := hI.2.2.1 k hk
  have a1 := aTell_inv hI h.1 hk
  have e0 : aNN (aTell T (aL T k 0) k) = aNN T := by unfold aNN; rw [aTell_1]
  have e1 : aNL (aTell T (aL T k 0) k) = aNL T := by unfold aNL; rw [aTell_1]
  exact ⟨a1, aTell_inv a1 (by rw [e0]; exact h.2.1) (by rw [e1]; exact hk)⟩
theorem aChL_inv (hI : aInv V T) {k b : Nat} (hk : k < aNL T) : aInv V (aChL T k b) := by
  have h := hI.2.2.1 k hk
  obtain ⟨a1, a2⟩ := aChL_tell hI hk
  unfold aChL
  by_cases hb : b = 0
  · rw [if_pos hb]; exact a2
  · rw [if_neg hb]
    have e0 : aNN (aTell (aTell T (aL T k 0) k) (aL T k 1) k) = aNN T := by unfold aNN; rw [aTell_1, aTell_1]
    have a3 := aAwB_inv a2 (n := aL T k 0) (by rw [e0]; exact h.1)
    exact aAwB_inv a3 (n := aL T k 1) (by show aL T k 1 < aNN (aTell (aTell T (aL T k 0) k) (aL T k 1) k); rw [e0]; exact h.2.1)
theorem e_changeLink (hI : aInv V T) (hV : V < 2 ^ 20) {k b : Nat} (hk : k < aNL T) (hb : b ≤ 1) : fX7_changeLink (nI k) (nI b) (zI T) = some (zI (aChL T k b)) := by
  have h16 : aNL T ≤ 16 := hI.1.2.1
  have h10 : aNN T ≤ 10 := hI.1.1
  have h := hI.2.2.1 k hk
  obtain ⟨a1, a2⟩ := aChL_tell hI hk
  simp only [fX7_changeLink, zl0, zl1]
  rw [e_linkPart (by omega) (by omega), e_linkPart (by omega) (by omega)]
  simp only [Option.bind_some]
  rw [e_tellLink hI hV (by omega) (by omega)]
  simp only [Option.bind_some]
  rw [e_tellLink a1 hV (by omega) (by omega)]
  simp only [Option.bind_some]
  rw [ite_eqN (by omega) (by omega)]
  unfold aChL
  by_cases hb : b = 0
  · rw [if_pos hb, if_pos hb]
  · have e0 : aNN (aTell (aTell T (aL T k 0) k) (aL T k 1) k) = aNN T := by unfold aNN; rw [aTell_1, aTell_1]
    have a3 := aAwB_inv a2 (n := aL T k 0) (by rw [e0]; exact h.1)
    rw [if_neg hb, if_neg hb, e_awake a2 hV (by omega)]
    simp only [Option.bind_some]
    rw [e_awake a3 hV (by omega)]
    rfl
theorem e_changeTunnel (hI : aInv V T) (hV : V < 2 ^ 20) {k : Nat} (hk : k < 3) : fX7_changeTunnel (nI k) (zI T) = some (zI (aChT T k)) := by
  have hl := hI.tun hk
  simp only [fX7_changeTunnel, zl0, zl4, zl3, zl2, zl32]
  rw [e_tunnelPart hk (by omega), e_tunnelPart hk (by omega), e_tunnelPart hk (by omega), e_tunnelPart hk (by omega)]
  simp only [Option.bind_some]
  rw [nI_add, e_learn hI hV (by omega) (by omega) hl.2.2.2.1 (by omega)]
  rfl
theorem aChT_inv (hI : aInv V T) {k : Nat} (hk : k < aNT T) : aInv V (aChT T k) := by
  have h := hI.2.2.2.2.1 k hk
  exact hI.learn h.1 (Or.inr (Or.inr ⟨by omega, by omega⟩)) h.2.2.2.2.2.2.1 h.2.2.2.2.2.2.2 h.2.2.2.2.2.1 h.2.2.2.2.1
theorem aGrB_1 {o i st : Nat} : ∀ m, (aGrB T o i st m).1 = T.1
  | 0 => rfl
  | m + 1 => by
    unfold aGrB
    by_cases h : aAr T m = o
    · rw [if_pos h, aLearn_1, aGrB_1 m]
    · rw [if_neg h, aGrB_1 m]
theorem aGrB_inv (hI : aInv V T) {o i st : Nat} (hi : i < 16) (hd : ¬ i / 4 = i % 4) (hv : 1 ≤ aGv T i) (hst : st ≤ 1) : ∀ m, m ≤ aNN T → aInv V (aGrB T o i st m)
  | 0, _ => hI
  | m + 1, hm => by
    have ih := aGrB_inv hI (o := o) hi hd hv hst m (by omega)
    have e0 : aNN (aGrB T o i st m) = aNN T := by unfold aNN; rw [aGrB_1]
    unfold aGrB
    by_cases h : aAr T m = o
    · rw [if_pos h]
      exact ih.learn (by rw [e0]; omega) (Or.inl ⟨hi, hd⟩) hv (hI.2.2.2.2.2.2.1 i hi).2.1 hst (by omega)
    · rw [if_neg h]; exact ih
theorem e_changeGrant_35 (hI : aInv V T) (hV : V < 2 ^ 20) {o i st : Nat} (hi : i < 16) (hd : ¬ i / 4 = i % 4) (ho : o < 4) (hv : 1 ≤ aGv T i) (hst : st ≤ 1) : lX7_changeGrant_35 (nI o) (nI st) (nI i) (nI 0) (zI T) = some (zI (aGrB T o i st (aNN T))) := by
  have h10 : aNN T ≤ 10 := hI.1.1
  refine wh_fun (fun b : Int32 × (Nat → Int32) => sX7_changeGrant_35 (nI o) (nI st) (nI i) b.1 b.2) (aNN T) (fun m => zI (aGrB T o i st m)) (fun s => some s) ?_ ?_ 0 (by omega)
  · intro m hm
    have hT := aGrB_inv hI (o := o) hi hd hv hst m (by omega)
    have ea : aAr (aGrB T o i st m) m = aAr T m := by unfold aAr; rw [aGrB_1]
    have ha : aAr T m < 4 := hI.ar (n := m) (by omega)
    have hgv : aGv T i ≤ V := (hI.2.2.2.2.2.2.1 i hi).2.1
    dsimp only [sX7_changeGrant_35]
    have e76 : ∀ s, uX7_changeGrant_76 (nI m) s = some (.inl (nI (m + 1), s)) := fun s => by unfold uX7_changeGrant_76; rw [nm_eq, zl1, nI_add]
    rw [zl0, gd_in (by omega), nI_cl (by omega), zI_h (by omega), aGrB_1]
    show (if nI (aNN T) ≤ nI m then _ else _) = _
    rw [ite_leN (by omega) (by omega), if_neg (by omega), e_area (by omega), ea]
    simp only [Option.bind_some]
    rw [ite_eqN (by omega) (by omega), show aGrB T o i st (m + 1) = if aAr T m = o then aLearn (aGrB T o i st m) m i (aGv T i) st 0 else aGrB T o i st m from rfl]
    by_cases h : aAr T m = o
    · rw [if_pos h, if_pos h, zl30, nI_add, gd_in (by omega), nI_cl (by omega), zI_h (by omega), aGrB_1]
      show (fX7_learn (nI m) (nI i) (nI (aGv T i)) (nI st) (nI 0) (zI (aGrB T o i st m))).bind _ = _
      rw [e_learn hT hV (by omega) (by omega) hst (by omega)]
      simp only [Option.bind_some]
      rw [e76]
    · rw [if_neg h, if_neg h, e76]
  · dsimp only [sX7_changeGrant_35]
    rw [zl0, gd_in (by omega), nI_cl (by omega), zI_h (by omega), aGrB_1]
    show (if nI (aNN T) ≤ nI (aNN T) then _ else _) = _
    rw [ite_leN (by omega) (by omega), if_pos (by omega)]
end P27
