section P35
variable {T R S : zA} {V : Nat} {D : Nat → Nat → Nat → Nat}
theorem e_receive (hV : V < 2 ^ 20) (hM : aMid V R T) (hD : aDok V R D) {m_sent : Nat → Int32} (hS : zSent D m_sent) {n i : Nat} (hn : n < aNN R) (hi : i < 35) : fX7_receive (nI n) (nI i) (zI T) m_sent = some (zI (aRcF R D n i (aNN R) T)) := by
  have h10 : aNN T ≤ 10 := hM.1.1.1
  have eN : aNN T = aNN R := by unfold aNN; rw [hM.2]
  refine wh_fun (fun b : Int32 × (Nat → Int32) => sX7_receive_2 (nI n) (nI i) m_sent b.1 b.2) (aNN R) (fun m => zI (aRcF R D n i m T)) (fun s => some s) ?_ ?_ 0 (by omega)
  · intro m hm
    have hMU := aMid.rcF hM hD hn hi m (by omega)
    dsimp only [sX7_receive_2]
    rw [zl0, gd_in (by omega), nI_cl (by omega), zI_h (by omega), hMU.2]
    show (if nI (aNN R) ≤ nI m then _ else _) = _
    rw [ite_leN (by omega) (by omega), if_neg (by omega), e_at]
    simp only [Option.bind_some]
    exact e_receive_22 hV hMU hD hS hn hi (by omega)
  · have hMU := aMid.rcF hM hD hn hi (aNN R) (by omega)
    dsimp only [sX7_receive_2]
    rw [zl0, gd_in (by omega), nI_cl (by omega), zI_h (by omega), hMU.2]
    show (if nI (aNN R) ≤ nI (aNN R) then _ else _) = _
    rw [ite_leN (by omega) (by omega), if_pos (by omega)]
theorem e_round_132 (hV : V < 2 ^ 20) (hM : aMid V R T) (hD : aDok V R D) {m_sent : Nat → Int32} (hS : zSent D m_sent) {n : Nat} (hn : n < aNN R) : lX7_round_132 (nI n) m_sent (nI 0) (zI T) = some (.inl (nI (n + 1), zI (aRcI R D n 35 T))) := by
  have h10 : aNN T ≤ 10 := hM.1.1.1
  have eN : aNN T = aNN R := by unfold aNN; rw [hM.2]
  have key : lX7_round_132 (nI n) m_sent (nI 0) (zI T) = uX7_round_150 (nI n) (zI (aRcI R D n 35 T)) := by
    refine wh_fun (fun b : Int32 × (Nat → Int32) => sX7_round_132 (nI n) m_sent b.1 b.2) 35 (fun i => zI (aRcI R D n i T)) (fun s => uX7_round_150 (nI n) s) ?_ ?_ 0 (by omega)
    · intro i hi
      have hMU := aMid.rcI hM (by omega) hD hn i (by omega)
      dsimp only [sX7_round_132]
      rw [zl35, ite_leN (by omega) (by omega), if_neg (by omega), e_receive hV hMU hD hS hn hi]
      simp only [Option.bind_some]
      rw [nm_eq, zl1, nI_add]
      rfl
    · dsimp only [sX7_round_132]
      rw [zl35, ite_leN (by omega) (by omega), if_pos (by omega)]
  rw [key]
  unfold uX7_round_150
  rw [nm_eq, zl1, nI_add]
theorem e_round_120 (hV : V < 2 ^ 20) (hM : aMid V R T) (hD : aDok V R D) {m_sent : Nat → Int32} (hS : zSent D m_sent) : lX7_round_120 m_sent (nI 0) (zI T) = some (zI (aRcN R D (aNN R) T), m_sent) := by
  have h10 : aNN T ≤ 10 := hM.1.1.1
  have eN : aNN T = aNN R := by unfold aNN; rw [hM.2]
  refine wh_fun (fun b : Int32 × (Nat → Int32) => sX7_round_120 m_sent b.1 b.2) (aNN R) (fun n => zI (aRcN R D n T)) (fun s => some (s, m_sent)) ?_ ?_ 0 (by omega)
  · intro n hn
    have hMU := aMid.rcN hM (by omega) hD n (by omega)
    dsimp only [sX7_round_120]
    rw [zl0, gd_in (by omega), nI_cl (by omega), zI_h (by omega), hMU.2]
    show (if nI (aNN R) ≤ nI n then _ else _) = _
    rw [ite_leN (by omega) (by omega), if_neg (by omega)]
    exact e_round_132 hV hMU hD hS hn
  · have hMU := aMid.rcN hM (by omega) hD (aNN R) (by omega)
    dsimp only [sX7_round_120]
    rw [zl0, gd_in (by omega), nI_cl (by omega), zI_h (by omega), hMU.2]
    show (if nI (aNN R) ≤ nI (aNN R) then _ else _) = _
    rw [ite_leN (by omega) (by omega), if_pos (by omega)]
/-- the clearing, node by node and item by item -/
def aClB (T : zA) (n B : Nat) : zA := (T.1, fun n' i' p' => if (n' < n ∧ i' < 35 ∨ n' = n ∧ i' < B) ∧ p' = 3 then 0 else T.2 n' i' p')
theorem aClB_35 {n : Nat} : aClB T n 35 = aClB T (n + 1) 0 := by
  refine zA_ext rfl (fun n' i' p' => ?_)
  show (if (n' < n ∧ i' < 35 ∨ n' = n ∧ i' < 35) ∧ p' = 3 then 0 else T.2 n' i' p') = (if (n' < n + 1 ∧ i' < 35 ∨ n' = n + 1 ∧ i' < 0) ∧ p' = 3 then 0 else T.2 n' i' p')
  by_cases h : (n' < n ∧ i' < 35 ∨ n' = n ∧ i' < 35) ∧ p' = 3
  · have h2 : (n' < n + 1 ∧ i' < 35 ∨ n' = n + 1 ∧ i' < 0) ∧ p' = 3 := by omega
    rw [if_pos h, if_pos h2]
  · have h2 : ¬ ((n' < n + 1 ∧ i' < 35 ∨ n' = n + 1 ∧ i' < 0) ∧ p' = 3) := by omega
    rw [if_neg h, if_neg h2]
theorem e_round_87 {n : Nat} (hn : n < 10) : lX7_round_87 (nI n) (nI 0) (zI (aClB T n 0)) = some (.inl (nI (n + 1), zI (aClB T (n + 1) 0))) := by
  have key : lX7_round_87 (nI n) (nI 0) (zI (aClB T n 0)) = uX7_round_112 (nI n) (zI (aClB T n 35)) := by
    refine wh_fun (fun b : Int32 × (Nat → Int32) => sX7_round_87 (nI n) b.1 b.2) 35 (fun i => zI (aClB T n i)) (fun s => uX7_round_112 (nI n) s) ?_ ?_ 0 (by omega)
    · intro i hi
      dsimp only [sX7_round_87]
      rw [zl35, ite_leN (by omega) (by omega), if_neg (by omega), e_at]
      simp only [Option.bind_some]
      rw [zl3, nI_add, gd_in (by omega), nI_cl (by omega), nm_eq, zl1, nI_add, zl0, upd_d hi (by omega)]
      refine congrArg (fun x => some (Sum.inl (nI (i + 1), zI x))) (zA_ext rfl (fun n' i' p' => ?_))
      show ud (aClB T n i).2 n i 3 0 n' i' p' = (if (n' < n ∧ i' < 35 ∨ n' = n ∧ i' < i + 1) ∧ p' = 3 then 0 else T.2 n' i' p')
      unfold ud
      by_cases h : n' = n ∧ i' = i ∧ p' = 3
      · have h2 : (n' < n ∧ i' < 35 ∨ n' = n ∧ i' < i + 1) ∧ p' = 3 := by omega
        rw [if_pos h, if_pos h2]
      · rw [if_neg h]
        show (if (n' < n ∧ i' < 35 ∨ n' = n ∧ i' < i) ∧ p' = 3 then 0 else T.2 n' i' p') = _
        by_cases h3 : (n' < n ∧ i' < 35 ∨ n' = n ∧ i' < i) ∧ p' = 3
        · have h2 : (n' < n ∧ i' < 35 ∨ n' = n ∧ i' < i + 1) ∧ p' = 3 := by omega
          rw [if_pos h3, if_pos h2]
        · have h2 : ¬ ((n' < n ∧ i' < 35 ∨ n' = n ∧ i' < i + 1) ∧ p' = 3) := by omega
          rw [if_neg h3, if_neg h2]
    · dsimp only [sX7_round_87]
      rw [zl35, ite_leN (by omega) (by omega), if_pos (by omega)]
  rw [key, aClB_35]
  unfold uX7_round_112
  rw [nm_eq, zl1, nI_add]
theorem e_round_75 (h10 : aNN T ≤ 10) {m_sent : Nat → Int32} : lX7_round_75 m_sent (nI 0) (zI T) = uX7_round_118 (zI (aClB T (aNN T) 0)) m_sent := by
  have e0 : T = aClB T 0 0 := zA_ext rfl (fun n' i' p' => (if_neg (by omega)).symm)
  refine (congrArg (fun x => lX7_round_75 m_sent (nI 0) (zI x)) e0).trans ?_
  refine wh_fun (fun b : Int32 × (Nat → Int32) => sX7_round_75 m_sent b.1 b.2) (aNN T) (fun n => zI (aClB T n 0)) (fun s => uX7_round_118 s m_sent) ?_ ?_ 0 (by omega)
  · intro n hn
    dsimp only [sX7_round_75]
    rw [zl0, gd_in (by omega), nI_cl (by omega), zI_h (by omega)]
    show (if nI (aNN T) ≤ nI n then _ else _) = _
    rw [ite_leN (by omega) (by omega), if_neg (by omega)]
    exact e_round_87 (by omega)
  · dsimp only [sX7_round_75]
    rw [zl0, gd_in (by omega), nI_cl (by omega), zI_h (by omega)]
    show (if nI (aNN T) ≤ nI (aNN T) then _ else _) = _
    rw [ite_leN (by omega) (by omega), if_pos (by omega)]
theorem e_round_14 (hI : aInv V S) {m_sent : Nat → Int32} : lX7_round_14 m_sent (nI 0) (zI S) = uX7_round_73 (zI (un S.1 3 (aMS S + aMs S (aNL S)), S.2)) m_sent := by
  have h10 : aNN S ≤ 10 := hI.1.1
  have h16 : aNL S ≤ 16 := hI.1.2.1
  have e0 : S = (un S.1 3 (aMS S + aMs S 0), S.2) := by
    refine zA_ext ?_ (fun _ _ _ => rfl)
    funext j
    show S.1 j = if j = 3 then S.1 3 + 0 else S.1 j
    by_cases h : j = 3
    · rw [if_pos h, h, Nat.add_zero]
    · rw [if_neg h]
  refine (congrArg (fun x => lX7_round_14 m_sent (nI 0) (zI x)) e0).trans ?_
  refine wh_fun (fun b : Int32 × (Nat → Int32) => sX7_round_14 m_sent b.1 b.2) (aNL S) (fun k => zI (un S.1 3 (aMS S + aMs S k), S.2)) (fun s => uX7_round_73 s m_sent) ?_ ?_ 0 (by omega)
  · intro k hk
    have hl := hI.link (k := k) (by omega)
    have hnn := hI.2.2.1 k hk
    have ex : ∀ U : Nat, un (un S.1 3 (aMS S + aMs S k)) 3 U = un S.1 3 U := by
      intro U
      funext j
      unfold un
      by_cases h : j = 3
      · rw [if_pos h, if_pos h]
      · rw [if_neg h, if_neg h, if_neg h]
    have en : ∀ n, aNw (un S.1 3 (aMS S + aMs S k), S.2) n = aNw S n := fun n => rfl
    have eL : ∀ p, aL (un S.1 3 (aMS S + aMs S k), S.2) k p = aL S k p := fun p => un_ne (by omega)
    have e65 : ∀ x, uX7_round_65 (nI k) (nI 3) (nI (aMS S + aMs S k)) (nI x) (zI (un S.1 3 (aMS S + aMs S k), S.2)) = some (.inl (nI (k + 1), zI (un S.1 3 (aMS S + aMs S k + x), S.2))) := fun x => by
      unfold uX7_round_65
      rw [gd_in (by omega), nI_cl (by omega), nm_eq, zl1, nI_add, nI_add, upd_h (by omega), ex]
    have e3 : zI (un S.1 3 (aMS S + aMs S k), S.2) 3 = nI (aMS S + aMs S k) := by rw [zI_h (by omega)]; rfl
    dsimp only [sX7_round_14]
    rw [zl1, gd_in (by omega), nI_cl (by omega), zI_h (by omega)]
    show (if nI (aNL S) ≤ nI k then _ else _) = _
    rw [ite_leN (by omega) (by omega), if_neg (by omega), zl3, gd_in (by omega), nI_cl (by omega), e_linkPart (by omega) (by omega), eL, e3, zl0]
    simp only [Option.bind_some]
    rw [ite_eqN (by omega) (by omega)]
    have es : aMs S (k + 1) = aMs S k + (if aL S k 3 = 0 then 0 else aNw S (aL S k 0) + aNw S (aL S k 1)) := rfl
    by_cases h : aL S k 3 = 0
    · rw [if_pos h, e65, es, if_pos h]; rfl
    · rw [if_neg h, e_linkPart (by omega) (by omega), eL]
      simp only [Option.bind_some]
      rw [e_newsOf (by omega), en]
      simp only [Option.bind_some]
      rw [e_linkPart (by omega) (by omega), eL]
      simp only [Option.bind_some]
      rw [e_newsOf (by omega), en]
      simp only [Option.bind_some]
      rw [nI_add, e65, es, if_neg h, Nat.add_assoc]
  · dsimp only [sX7_round_14]
    rw [zl1, gd_in (by omega), nI_cl (by omega), zI_h (by omega)]
    show (if nI (aNL S) ≤ nI (aNL S) then _ else _) = _
    rw [ite_leN (by omega) (by omega), if_pos (by omega)]
theorem e_round (hI : aInv V S) (hV : V < 2 ^ 20) {m_sent : Nat → Int32} : ∃ m', fX7_round (zI S) m_sent = some (zI (aRound S), m') := by
  have h10 : aNN S ≤ 10 := hI.1.1
  unfold fX7_round
  rw [e_copy_sent_s]
  simp only [Option.bind_some]
  rw [zl0, e_round_14 hI]
  unfold uX7_round_73
  rw [zl0, e_round_75 (by exact h10)]
  unfold uX7_round_118
  have eC : aClB (un S.1 3 (aMS S + aMs S (aNL S)), S.2) (aNN (un S.1 3 (aMS S + aMs S (aNL S)), S.2)) 0 = aClr S := by
    refine zA_ext rfl (fun n' i' p' => ?_)
    show (if (n' < aNN S ∧ i' < 35 ∨ n' = aNN S ∧ i' < 0) ∧ p' = 3 then 0 else S.2 n' i' p') = (if n' < aNN S ∧ i' < 35 ∧ p' = 3 then 0 else S.2 n' i' p')
    by_cases h : n' < aNN S ∧ i' < 35 ∧ p' = 3
    · rw [if_pos h, if_pos (by omega)]
    · rw [if_neg h, if_neg (by omega)]
  rw [eC, zl0]
  have eN : aNN (aClr S) = aNN S := aClr_h (by omega)
  have hS : zSent S.2 (fun j => if j < 1557 then zI S j else m_sent j) := by
    intro n i p hn hi hp
    dsimp only
    rw [if_pos (by omega), zI_d hi hp]
  refine ⟨fun j => if j < 1557 then zI S j else m_sent j, ?_⟩
  rw [e_round_120 hV (R := aClr S) (D := S.2) ⟨aClr_inv hI, rfl⟩ (aDok_of hI) hS, eN]
  rfl
end P35
