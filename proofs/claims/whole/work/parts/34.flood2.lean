/-! A round of the reference. -/
def aMs (S : zA) (B : Nat) : Nat := sm (fun k => if aL S k 3 = 0 then 0 else aNw S (aL S k 0) + aNw S (aL S k 1)) B
def aClr (S : zA) : zA := (un S.1 3 (aMS S + aMs S (aNL S)), fun n i p => if n < aNN S ∧ i < 35 ∧ p = 3 then 0 else S.2 n i p)
def aLkB (R : zA) (n m B : Nat) : Nat := sm (fun k => if aL R k 3 = 1 ∧ aEnd R n k ∧ aL R k 0 + aL R k 1 = n + m then 1 else 0) B
def aLk (R : zA) (n m : Nat) : Nat := aLkB R n m (aNL R)
def aRs (R : zA) (D : Nat → Nat → Nat → Nat) (n i m : Nat) (T : zA) : zA := if D m i 3 = 1 ∧ 0 < aLk R n m then aLearn T n i (D m i 0) (D m i 1) (D m i 2) else T
def aRcF (R : zA) (D : Nat → Nat → Nat → Nat) (n i : Nat) : Nat → zA → zA
  | 0, T => T
  | m + 1, T => aRs R D n i m (aRcF R D n i m T)
def aRcI (R : zA) (D : Nat → Nat → Nat → Nat) (n : Nat) : Nat → zA → zA
  | 0, T => T
  | i + 1, T => aRcF R D n i (aNN R) (aRcI R D n i T)
def aRcN (R : zA) (D : Nat → Nat → Nat → Nat) : Nat → zA → zA
  | 0, T => T
  | n + 1, T => aRcI R D n 35 (aRcN R D n T)
def aRound (S : zA) : zA := aRcN (aClr S) S.2 (aNN S) (aClr S)
/-- what is sent is sound -/
def aDok (V : Nat) (R : zA) (D : Nat → Nat → Nat → Nat) : Prop := ∀ m i, m < 10 → i < 35 → D m i 0 ≤ V ∧ D m i 1 ≤ 1 ∧ D m i 2 ≤ 40 ∧ D m i 3 ≤ 1 ∧ (D m i 3 = 1 → aEx R i ∧ 1 ≤ D m i 0)
/-- a state in the midst of a round -/
def aMid (V : Nat) (R T : zA) : Prop := aInv V T ∧ T.1 = R.1
section P34
variable {T R S : zA} {V : Nat} {D : Nat → Nat → Nat → Nat}
theorem aLearn_idem {n i v st c : Nat} : aLearn (aLearn T n i v st c) n i v st c = aLearn T n i v st c := by
  by_cases h : aMk T n i ∧ T.2 n i 0 < v
  · have e : aLearn T n i v st c = aLn T n i v st c (aNL T) := if_pos h
    rw [e]
    unfold aLearn
    rw [if_neg]
    rintro ⟨-, h2⟩
    rw [aLn_self] at h2
    rw [if_pos rfl] at h2
    omega
  · have e : aLearn T n i v st c = T := if_neg h
    rw [e, e]
theorem aMid.learn (hM : aMid V R T) {n i v st c : Nat} (hn : n < aNN R) (hx : aEx R i) (hv1 : 1 ≤ v) (hv : v ≤ V) (hst : st ≤ 1) (hc : c ≤ 40) : aMid V R (aLearn T n i v st c) := by
  obtain ⟨h1, h2⟩ := hM
  have e0 : aNN T = aNN R := by unfold aNN; rw [h2]
  have e1 : aNL T = aNL R := by unfold aNL; rw [h2]
  have e2 : aNT T = aNT R := by unfold aNT; rw [h2]
  refine ⟨h1.learn (by omega) ?_ hv1 hv hst hc, by rw [aLearn_1, h2]⟩
  unfold aEx at hx ⊢
  rw [e1, e2]
  exact hx
theorem aMid.rs (hM : aMid V R T) (hD : aDok V R D) {n i m : Nat} (hn : n < aNN R) (hm : m < 10) (hi : i < 35) : aMid V R (aRs R D n i m T) := by
  unfold aRs
  by_cases h : D m i 3 = 1 ∧ 0 < aLk R n m
  · rw [if_pos h]
    obtain ⟨d0, d1, d2, d3, d4⟩ := hD m i hm hi
    exact hM.learn hn (d4 h.1).1 (d4 h.1).2 d0 d1 d2
  · rw [if_neg h]; exact hM
theorem aMid.rcF (hM : aMid V R T) (hD : aDok V R D) {n i : Nat} (hn : n < aNN R) (hi : i < 35) : ∀ m, m ≤ 10 → aMid V R (aRcF R D n i m T)
  | 0, _ => hM
  | m + 1, hm => (aMid.rcF hM hD hn hi m (by omega)).rs hD hn (by omega) hi
theorem aMid.rcI (hM : aMid V R T) (hR : aNN R ≤ 10) (hD : aDok V R D) {n : Nat} (hn : n < aNN R) : ∀ i, i ≤ 35 → aMid V R (aRcI R D n i T)
  | 0, _ => hM
  | i + 1, hi => (aMid.rcI hM hR hD hn i (by omega)).rcF hD hn (by omega) (aNN R) hR
theorem aMid.rcN (hM : aMid V R T) (hR : aNN R ≤ 10) (hD : aDok V R D) : ∀ n, n ≤ aNN R → aMid V R (aRcN R D n T)
  | 0, _ => hM
  | n + 1, hn => (aMid.rcN hM hR hD n (by omega)).rcI hR hD (by omega) 35 (by omega)
theorem aClr_h {j : Nat} (h : j ≠ 3) : (aClr S).1 j = S.1 j := un_ne h
theorem aClr_inv (hI : aInv V S) : aInv V (aClr S) := by
  obtain ⟨i1, i2, i3, i4, i5, i6, i7, i8, i9⟩ := hI
  have eN : aNN (aClr S) = aNN S := aClr_h (by omega)
  have eL : aNL (aClr S) = aNL S := aClr_h (by omega)
  have eT : aNT (aClr S) = aNT S := aClr_h (by omega)
  have eA : ∀ n, aAr (aClr S) n = aAr S n := fun n => aClr_h (by omega)
  have eG : ∀ n, aGr (aClr S) n = aGr S n := fun n => aClr_h (by omega)
  have eV : ∀ n, aGv (aClr S) n = aGv S n := fun n => aClr_h (by omega)
  have eLk : ∀ k p, aL (aClr S) k p = aL S k p := fun k p => aClr_h (by omega)
  have eTk : ∀ k p, aT (aClr S) k p = aT S k p := fun k p => aClr_h (by omega)
  refine ⟨?_, ?_, ?_, ?_, ?_, ?_, ?_, ?_, ?_⟩
  · rw [eN, eL, eT]; exact i1
  · intro n hn; rw [eA]; exact i2 n hn
  · intro k hk; rw [eL] at hk; simp only [eLk, eN]; exact i3 k hk
  · intro k p; rw [eL, eLk]; exact i4 k p
  · intro k hk; rw [eT] at hk; simp only [eTk, eN]; exact i5 k hk
  · intro k p; rw [eT, eTk]; exact i6 k p
  · intro i; rw [eG, eV]; exact i7 i
  · intro n i p hn hi hp hz
    rw [eN, eL, eT] at hz
    show (if n < aNN S ∧ i < 35 ∧ p = 3 then 0 else S.2 n i p) = 0
    rw [i8 n i p hn hi hp hz]
    split <;> rfl
  · intro n i hn hi
    have := i9 n i hn hi
    have e : ∀ p, p < 3 → (aClr S).2 n i p = S.2 n i p := fun p hp => if_neg (by omega)
    have e3 : (aClr S).2 n i 3 = if n < aNN S ∧ i < 35 ∧ 3 = 3 then 0 else S.2 n i 3 := rfl
    rw [e 0 (by omega), e 1 (by omega), e 2 (by omega), e3]
    by_cases h : n < aNN S ∧ i < 35 ∧ 3 = 3
    · rw [if_pos h]
      exact ⟨this.1, this.2.1, this.2.2.1, by omega, fun z => ⟨(this.2.2.2.2 z).1, (this.2.2.2.2 z).2.1, rfl⟩⟩
    · rw [if_neg h]; exact this
theorem aDok_of (hI : aInv V S) : aDok V (aClr S) S.2 := by
  intro m i hm hi
  obtain ⟨d0, d1, d2, d3, d4⟩ := hI.db hm hi
  have h1 := hI.1
  have eL : aNL (aClr S) = aNL S := aClr_h (by omega)
  have eT : aNT (aClr S) = aNT S := aClr_h (by omega)
  refine ⟨d0, d1, d2, d3, fun h => ⟨?_, ?_⟩⟩
  · by_cases hx : aEx (aClr S) i
    · exact hx
    · have := hI.2.2.2.2.2.2.2.1 m i 3 hm hi (by omega) (by
        unfold aEx at hx
        rw [eL, eT] at hx
        omega)
      omega
  · by_cases h0 : S.2 m i 0 = 0
    · have := (d4 h0).2.2; omega
    · omega
theorem aRound_inv (hI : aInv V S) : aInv V (aRound S) ∧ (aRound S).1 = (aClr S).1 := by
  have h1 := hI.1
  have eN : aNN (aClr S) = aNN S := aClr_h (by omega)
  have := aMid.rcN (V := V) (R := aClr S) (T := aClr S) ⟨aClr_inv hI, rfl⟩ (by omega) (aDok_of hI) (aNN S) (by omega)
  exact this
/-- a copy of the whole state -/
theorem e_copy_sent_s {m_s m_sent : Nat → Int32} : fX7_copy_sent_s m_s m_sent = some (fun j => if j < 1557 then m_s j else m_sent j) := by
  have e0 : m_sent = (fun k => fun j => if j < k then m_s j else m_sent j) 0 := by
    funext j
    dsimp only
    rw [if_neg (by omega)]
  unfold fX7_copy_sent_s
  refine (congrArg (fun x => wh (fun b : Int32 × (Nat → Int32) => sX7_copy_sent_s_2 m_s b.1 b.2) ((0 : Int32), x)) e0).trans ?_
  refine wh_fun (fun b : Int32 × (Nat → Int32) => sX7_copy_sent_s_2 m_s b.1 b.2) 1557 (fun k => fun j => if j < k then m_s j else m_sent j) (fun s => some s) ?_ ?_ 0 (by omega)
  · intro k hk
    dsimp only [sX7_copy_sent_s_2]
    rw [zl1557, ite_leN (by omega) (by omega), if_neg (by omega), gd_in hk, gd_in hk, nI_cl (by omega), nm_eq, zl1, nI_add]
    refine congrArg (fun x => some (Sum.inl (nI (k + 1), x))) ?_
    funext j
    unfold upd
    dsimp only
    by_cases h : j = k
    · rw [if_pos h, if_pos (by omega), h]
    · rw [if_neg h]
      by_cases h2 : j < k
      · rw [if_pos h2, if_pos (by omega)]
      · rw [if_neg h2, if_neg (by omega)]
  · dsimp only [sX7_copy_sent_s_2]
    rw [zl1557, ite_leN (by omega) (by omega), if_pos (by omega)]
theorem e_copy_aside_s {m_s m_aside : Nat → Int32} : fX7_copy_aside_s m_s m_aside = some (fun j => if j < 1557 then m_s j else m_aside j) := by
  have e0 : m_aside = (fun k => fun j => if j < k then m_s j else m_aside j) 0 := by
    funext j
    dsimp only
    rw [if_neg (by omega)]
  unfold fX7_copy_aside_s
  refine (congrArg (fun x => wh (fun b : Int32 × (Nat → Int32) => sX7_copy_aside_s_2 m_s b.1 b.2) ((0 : Int32), x)) e0).trans ?_
  refine wh_fun (fun b : Int32 × (Nat → Int32) => sX7_copy_aside_s_2 m_s b.1 b.2) 1557 (fun k => fun j => if j < k then m_s j else m_aside j) (fun s => some s) ?_ ?_ 0 (by omega)
  · intro k hk
    dsimp only [sX7_copy_aside_s_2]
    rw [zl1557, ite_leN (by omega) (by omega), if_neg (by omega), gd_in hk, gd_in hk, nI_cl (by omega), nm_eq, zl1, nI_add]
    refine congrArg (fun x => some (Sum.inl (nI (k + 1), x))) ?_
    funext j
    unfold upd
    dsimp only
    by_cases h : j = k
    · rw [if_pos h, if_pos (by omega), h]
    · rw [if_neg h]
      by_cases h2 : j < k
      · rw [if_pos h2, if_pos (by omega)]
      · rw [if_neg h2, if_neg (by omega)]
  · dsimp only [sX7_copy_aside_s_2]
    rw [zl1557, ite_leN (by omega) (by omega), if_pos (by omega)]
theorem e_copy_s_aside {m_aside m_s : Nat → Int32} : fX7_copy_s_aside m_s m_aside = some (fun j => if j < 1557 then m_aside j else m_s j) := by
  have e0 : m_s = (fun k => fun j => if j < k then m_aside j else m_s j) 0 := by
    funext j
    dsimp only
    rw [if_neg (by omega)]
  unfold fX7_copy_s_aside
  refine (congrArg (fun x => wh (fun b : Int32 × (Nat → Int32) => sX7_copy_s_aside_2 m_aside b.1 b.2) ((0 : Int32), x)) e0).trans ?_
  refine wh_fun (fun b : Int32 × (Nat → Int32) => sX7_copy_s_aside_2 m_aside b.1 b.2) 1557 (fun k => fun j => if j < k then m_aside j else m_s j) (fun s => some s) ?_ ?_ 0 (by omega)
  · intro k hk
    dsimp only [sX7_copy_s_aside_2]
    rw [zl1557, ite_leN (by omega) (by omega), if_neg (by omega), gd_in hk, gd_in hk, nI_cl (by omega), nm_eq, zl1, nI_add]
    refine congrArg (fun x => some (Sum.inl (nI (k + 1), x))) ?_
    funext j
    unfold upd
    dsimp only
    by_cases h : j = k
    · rw [if_pos h, if_pos (by omega), h]
    · rw [if_neg h]
      by_cases h2 : j < k
      · rw [if_pos h2, if_pos (by omega)]
      · rw [if_neg h2, if_neg (by omega)]
  · dsimp only [sX7_copy_s_aside_2]
    rw [zl1557, ite_leN (by omega) (by omega), if_pos (by omega)]
theorem e_other (hI : aInv V T) {n k : Nat} (hk : k < 16) (he : aEnd T n k) : fX7_other (nI k) (nI n) (zI T) = some (nI (aL T k 0 + aL T k 1 - n)) := by
  have hl := hI.link hk
  simp only [fX7_other, zl0, zl1]
  rw [e_linkPart hk (by omega), e_linkPart hk (by omega)]
  simp only [Option.bind_some]
  rw [nI_add, pk_sub]
  omega
/-- what holds of the copy that is sent -/
def zSent (D : Nat → Nat → Nat → Nat) (m : Nat → Int32) : Prop := ∀ n i p, n < 10 → i < 35 → p < 4 → m (157 + 4 * (35 * n + i) + p) = nI (D n i p)
theorem e_receive_22 (hV : V < 2 ^ 20) (hM : aMid V R T) (hD : aDok V R D) {m_sent : Nat → Int32} (hS : zSent D m_sent) {n i m : Nat} (hn : n < aNN R) (hi : i < 35) (hm : m < 10) : lX7_receive_22 (nI n) (nI i) (nI m) (nI (157 + 4 * (35 * m + i))) m_sent (nI 0) (zI T) = some (.inl (nI (m + 1), zI (aRs R D n i m T))) := by
  have h10 : aNN T ≤ 10 := hM.1.1.1
  have h16 : aNL T ≤ 16 := hM.1.1.2.1
  have eN : aNN T = aNN R := by unfold aNN; rw [hM.2]
  have eL : aNL T = aNL R := by unfold aNL; rw [hM.2]
  have eLk : ∀ k p, aL T k p = aL R k p := fun k p => by unfold aL; rw [hM.2]
  have d := hD m i hm hi
  by_cases h3 : D m i 3 = 1
  · have hx := (d.2.2.2.2 h3).1
    have hv1 := (d.2.2.2.2 h3).2
    have key : lX7_receive_22 (nI n) (nI i) (nI m) (nI (157 + 4 * (35 * m + i))) m_sent (nI 0) (zI T) = uX7_receive_117 (nI m) (zI (if 0 < aLkB R n m (aNL T) then aLearn T n i (D m i 0) (D m i 1) (D m i 2) else T)) := by
      refine wh_fun (fun b : Int32 × (Nat → Int32) => sX7_receive_22 (nI n) (nI i) (nI m) (nI (157 + 4 * (35 * m + i))) m_sent b.1 b.2) (aNL T) (fun k => zI (if 0 < aLkB R n m k then aLearn T n i (D m i 0) (D m i 1) (D m i 2) else T)) (fun s => uX7_receive_117 (nI m) s) ?_ ?_ 0 (by omega)
      · intro k hk
        generalize hU : (if 0 < aLkB R n m k then aLearn T n i (D m i 0) (D m i 1) (D m i 2) else T) = U
        have hMU : aMid V R U := by
          rw [← hU]
          split
          · exact hM.learn hn hx hv1 d.1 d.2.1 d.2.2.1
          · exact hM
        have uL : aNL U = aNL T := by unfold aNL; rw [hMU.2, hM.2]
        have uLk : ∀ k p, aL U k p = aL R k p := fun k p => by unfold aL; rw [hMU.2]
        have hl := hMU.1.link (k := k) (by omega)
        have e111 : ∀ s, uX7_receive_111 (nI k) s = some (.inl (nI (k + 1), s)) := fun s => by unfold uX7_receive_111; rw [nm_eq, zl1, nI_add]
        have eU : aLearn U n i (D m i 0) (D m i 1) (D m i 2) = aLearn T n i (D m i 0) (D m i 1) (D m i 2) := by
          rw [← hU]
          split
          · exact aLearn_idem
          · rfl
        have stp : ∀ c : Prop, [Decidable c] → (c ↔ (aL R k 3 = 1 ∧ aEnd R n k ∧ aL R k 0 + aL R k 1 = n + m)) → (if 0 < aLkB R n m (k + 1) then aLearn T n i (D m i 0) (D m i 1) (D m i 2) else T) = if c then aLearn T n i (D m i 0) (D m i 1) (D m i 2) else U := by
          intro c _ hc
          have e : aLkB R n m (k + 1) = aLkB R n m k + (if aL R k 3 = 1 ∧ aEnd R n k ∧ aL R k 0 + aL R k 1 = n + m then 1 else 0) := rfl
          by_cases hcc : c
          · rw [if_pos hcc, e, if_pos (hc.mp hcc), if_pos (by omega)]
          · rw [if_neg hcc, e, if_neg (fun q => hcc (hc.mpr q)), Nat.add_zero]
            exact hU
        dsimp only [sX7_receive_22]
        rw [zl1, gd_in (by omega), nI_cl (by omega), zI_h (by omega)]
        show (if nI (aNL U) ≤ nI k then _ else _) = _
        rw [uL, ite_leN (by omega) (by omega), if_neg (by omega), zl3, nI_add, gd_in (by omega), nI_cl (by omega), hS m i 3 hm hi (by omega), h3, if_pos rfl, e_linkPart (by omega) (by omega)]
        simp only [Option.bind_some]
        rw [ite_eqN (by omega) (by omega)]
        by_cases hu : aL U k 3 = 1
        · rw [if_pos hu, e_isEnd hMU.1 (by omega) (by omega)]
          simp only [Option.bind_some]
          rw [ite_bI]
          by_cases hE : aEnd U n k
          · rw [if_pos hE, e_other hMU.1 (by omega) hE]
            simp only [Option.bind_some]
            rw [ite_eqN (by omega) (by omega)]
            have hE2 : aEnd R n k := by unfold aEnd at hE ⊢; rw [← uLk, ← uLk]; exact hE
            have hlr : aL R k 0 + aL R k 1 = aL U k 0 + aL U k 1 := by rw [uLk, uLk]
            rw [stp (aL U k 0 + aL U k 1 - n = m) (by
              constructor
              · intro q
                refine ⟨by rw [← uLk]; exact hu, hE2, ?_⟩
                rw [hlr]
                omega
              · rintro ⟨-, -, q⟩
                omega)]
            by_cases ho : aL U k 0 + aL U k 1 - n = m
            · rw [if_pos ho, if_pos ho]
              rw [zl0, zl2, nI_add, nI_add, nI_add, gd_in (by omega), gd_in (by omega), gd_in (by omega), nI_cl (by omega), nI_cl (by omega), nI_cl (by omega), hS m i 0 hm hi (by omega), hS m i 1 hm hi (by omega), hS m i 2 hm hi (by omega), e_learn hMU.1 hV (by omega) hi d.2.1 (by omega)]
              simp only [Option.bind_some]
              rw [e111, eU]
            · rw [if_neg ho, if_neg ho, e111]
          · rw [if_neg hE, e111, stp False (by
              constructor
              · intro q; exact q.elim
              · rintro ⟨-, q, -⟩
                apply hE
                unfold aEnd at q ⊢
                rw [uLk, uLk]; exact q), if_neg (fun q => q)]
        · rw [if_neg hu, e111, stp False (by
            constructor
            · intro q; exact q.elim
            · rintro ⟨q, -, -⟩
              apply hu
              rw [uLk]; exact q), if_neg (fun q => q)]
      · generalize hU : (if 0 < aLkB R n m (aNL T) then aLearn T n i (D m i 0) (D m i 1) (D m i 2) else T) = U
        have hU1 : U.1 = T.1 := by
          rw [← hU]
          split
          · exact aLearn_1
          · rfl
        dsimp only [sX7_receive_22]
        rw [zl1, gd_in (by omega), nI_cl (by omega), zI_h (by omega), hU1]
        show (if nI (aNL T) ≤ nI (aNL T) then _ else _) = _
        rw [ite_leN (by omega) (by omega), if_pos (by omega)]
    rw [key]
    unfold uX7_receive_117
    rw [nm_eq, zl1, nI_add]
    refine congrArg (fun x => some (Sum.inl (nI (m + 1), zI x))) ?_
    unfold aRs aLk
    rw [eL]
    by_cases hc : 0 < aLkB R n m (aNL R)
    · rw [if_pos hc, if_pos ⟨h3, hc⟩]
    · rw [if_neg hc, if_neg (fun q => hc q.2)]
  · have e : aRs R D n i m T = T := if_neg (fun q => h3 q.1)
    rw [e]
    show wh (fun b : Int32 × (Nat → Int32) => sX7_receive_22 (nI n) (nI i) (nI m) (nI (157 + 4 * (35 * m + i))) m_sent b.1 b.2) (nI 0, zI T) = _
    have e117 : uX7_receive_117 (nI m) (zI T) = some (.inl (nI (m + 1), zI T)) := by unfold uX7_receive_117; rw [nm_eq, zl1, nI_add]
    rw [wh_eq]
    dsimp only [sX7_receive_22]
    rw [zl1, gd_in (by omega), nI_cl (by omega), zI_h (by omega), zl3, nI_add, gd_in (by omega), nI_cl (by omega), hS m i 3 hm hi (by omega), if_neg (show ¬ nI (D m i 3) = nI 1 by rw [nI_eq (by omega) (by omega)]; exact h3), e117]
    split <;> simp_all [oi]
end P34
