section P39b
variable {T R S : zA} {V B : Nat}
/-- the network with new messages, facts and news -/
abbrev zNF (N : zNet) (ms : Int32) (fa : Nat → Int32) (nw : Nat → Int64) : zNet := (N.1, N.2.1, N.2.2.1, ms, N.2.2.2.2.1, N.2.2.2.2.2.1, N.2.2.2.2.2.2.1, N.2.2.2.2.2.2.2.1, N.2.2.2.2.2.2.2.2.1, N.2.2.2.2.2.2.2.2.2.1, N.2.2.2.2.2.2.2.2.2.2.1, fa, nw)
theorem e_settleAll (hI : aInv V S) (hV : V < 2 ^ 20) {K : Nat} (hq : aQuiet (aRnd S K)) (hn : ∀ j, j < K → ¬ aQuiet (aRnd S j)) {m : Nat → Int32} : ∃ m', fX7_settleAll (zI S) m = some (nI K, zI (aRnd S K), m') := by
  refine wh_ex (fun b : Int32 × (Nat → Int32) × (Nat → Int32) => sX7_settleAll_2 b.1 b.2.1 b.2.2) K (fun k s => s.1 = nI k ∧ s.2.1 = zI (aRnd S k)) (fun r => ∃ m', r = some (nI K, zI (aRnd S K), m')) ?_ ?_ 0 ((0 : Int32), zI S, m) (by omega) ⟨zl0, rfl⟩
  · rintro k ⟨a, b, c⟩ hk ⟨h1, h2⟩
    dsimp only at h1 h2
    subst h1 h2
    left
    have hIk := aRnd_inv hI k
    obtain ⟨m', hm⟩ := e_round hIk hV (m_sent := c)
    dsimp only [sX7_settleAll_2]
    rw [e_isQuiet hIk]
    simp only [Option.bind_some]
    rw [ite_bI, if_neg (hn k hk), hm]
    simp only [Option.bind_some]
    rw [nm_eq, zl1, nI_add]
    exact ⟨_, rfl, rfl, rfl⟩
  · rintro ⟨a, b, c⟩ ⟨h1, h2⟩
    dsimp only at h1 h2
    subst h1 h2
    have hIk := aRnd_inv hI K
    refine ⟨some (nI K, zI (aRnd S K), c), ?_, c, rfl⟩
    dsimp only [sX7_settleAll_2]
    rw [e_isQuiet hIk]
    simp only [Option.bind_some]
    rw [ite_bI, if_pos hq]
theorem e_step_40 (hI : aInv V S) (hV : V < 2 ^ 20) {v2 th : Int32} {sv : Nat → Int32} {sm_ : Int32} {as_ : Nat → Int32} {iw : Int32} {r : Nat} (hr : r < 2 ^ 31) {m : Nat → Int32} : ∃ m', lX7_step_40 (nI r) v2 th sv sm_ as_ iw (nI 0) (zI S) m = some (nI (aMS (aRnd S r)) - v2, th, zI (aRnd S r), sv, sm_, as_, m', iw) := by
  refine wh_ex (fun b : Int32 × (Nat → Int32) × (Nat → Int32) => sX7_step_40 (nI r) v2 th sv sm_ as_ iw b.1 b.2.1 b.2.2) r (fun k s => s.1 = nI k ∧ s.2.1 = zI (aRnd S k)) (fun q => ∃ m', q = some (nI (aMS (aRnd S r)) - v2, th, zI (aRnd S r), sv, sm_, as_, m', iw)) ?_ ?_ 0 (nI 0, zI S, m) (by omega) ⟨rfl, rfl⟩
  · rintro k ⟨a, b, c⟩ hk ⟨h1, h2⟩
    dsimp only at h1 h2
    subst h1 h2
    left
    have hIk := aRnd_inv hI k
    obtain ⟨m', hm⟩ := e_round hIk hV (m_sent := c)
    dsimp only [sX7_step_40]
    rw [ite_leN (by omega) (by omega), if_neg (by omega), hm]
    simp only [Option.bind_some]
    rw [nm_eq, zl1, nI_add]
    exact ⟨_, rfl, rfl, rfl⟩
  · rintro ⟨a, b, c⟩ ⟨h1, h2⟩
    dsimp only at h1 h2
    subst h1 h2
    refine ⟨uX7_step_55 v2 th (zI (aRnd S r)) sv sm_ as_ c iw, ?_, c, ?_⟩
    · dsimp only [sX7_step_40]
      rw [ite_leN (by omega) (by omega), if_pos (by omega)]
    · unfold uX7_step_55
      rw [zl3, gd_in (by omega), nI_cl (by omega), zI_h (by omega)]
theorem c_passRounds (hI : aInv V S) (hV : V < 2 ^ 20) {K r : Nat} (hr : r < 2 ^ 31) (hK : K < 2 ^ 31) (hq : aQuiet (aRnd S K)) (hn : ∀ j, j < K → ¬ aQuiet (aRnd S j)) {sf : Nat → Int32} {sn : Nat → Int64} {N : zNet} (hR : aRel S N) :
    ∃ q, fX1_passRounds (nI r) sf sn N.1 N.2.1 N.2.2.2.1 N.2.2.2.2.1 N.2.2.2.2.2.1 N.2.2.2.2.2.2.1 N.2.2.2.2.2.2.2.1 N.2.2.2.2.2.2.2.2.2.2.1 N.2.2.2.2.2.2.2.2.2.2.2.1 N.2.2.2.2.2.2.2.2.2.2.2.2 = some q ∧ q.1 = nI (min r K) ∧ aRel (aRnd S (min r K)) (zNF N q.2.2.2.1 q.2.2.2.2.1 q.2.2.2.2.2) := by
  refine wh_ex (fun b : Int32 × (Nat → Int32) × (Nat → Int64) × Int32 × (Nat → Int32) × (Nat → Int64) => sX1_passRounds_2 (nI r) N.1 N.2.1 N.2.2.2.2.1 N.2.2.2.2.2.1 N.2.2.2.2.2.2.1 N.2.2.2.2.2.2.2.1 N.2.2.2.2.2.2.2.2.2.2.1 b.1 b.2.1 b.2.2.1 b.2.2.2.1 b.2.2.2.2.1 b.2.2.2.2.2) (min r K) (fun k s => s.1 = nI k ∧ aRel (aRnd S k) (zNF N s.2.2.2.1 s.2.2.2.2.1 s.2.2.2.2.2)) (fun o => ∃ q, o = some q ∧ q.1 = nI (min r K) ∧ aRel (aRnd S (min r K)) (zNF N q.2.2.2.1 q.2.2.2.2.1 q.2.2.2.2.2)) ?_ ?_ 0 ((0 : Int32), sf, sn, N.2.2.2.1, N.2.2.2.2.2.2.2.2.2.2.2.1, N.2.2.2.2.2.2.2.2.2.2.2.2) (by omega) ⟨zl0, hR⟩
  · rintro k ⟨a, b, c, d, e, f⟩ hk ⟨h1, h2⟩
    dsimp only at h1 h2
    subst h1
    left
    have hIk := aRnd_inv hI k
    dsimp only [sX1_passRounds_2]
    have e1 : N.1 = nI (aNN (aRnd S k)) := h2.1
    have hN : rN (aRnd S k) f := h2.2.2.2.2.2.2.2.2.2
    rw [ite_leN (by omega) (by omega), if_neg (by omega), e1, c_isQuiet hIk hN]
    simp only [Option.bind_some]
    rw [ite_bI, if_neg (hn k (by omega)), ← e1]
    obtain ⟨q, q1, q2⟩ := c_passRound hIk hV (sf := b) (sn := c) h2
    rw [q1]
    simp only [Option.bind_some]
    rw [nm_eq, zl1, nI_add]
    exact ⟨_, rfl, rfl, q2⟩
  · rintro ⟨a, b, c, d, e, f⟩ ⟨h1, h2⟩
    dsimp only at h1 h2
    subst h1
    have hIk := aRnd_inv hI (min r K)
    refine ⟨some (nI (min r K), b, c, d, e, f), ?_, _, rfl, rfl, h2⟩
    dsimp only [sX1_passRounds_2]
    have e1 : N.1 = nI (aNN (aRnd S (min r K))) := h2.1
    have hN : rN (aRnd S (min r K)) f := h2.2.2.2.2.2.2.2.2.2
    rw [ite_leN (by omega) (by omega)]
    by_cases h : r ≤ K
    · rw [if_pos (by omega)]
    · have em : min r K = K := by omega
      rw [em] at hN e1 hIk ⊢
      rw [if_neg (by omega), e1, c_isQuiet hIk hN]
      simp only [Option.bind_some]
      rw [ite_bI, if_pos hq]
end P39b
