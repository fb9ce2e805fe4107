section P39j
variable {T : zA} {V : Nat}
theorem aObs_le {a c i : Nat} : aObs T a c i ≤ 4 := by
  unfold aObs
  repeat' split
  all_goals omega
theorem aObs_c {a c i : Nat} (h : aObs T a c i = 0) (hi : i < 32) : ¬ c = 20 := by
  intro hc
  unfold aObs at h
  rw [if_neg (show ¬ 32 ≤ i by omega), if_pos hc] at h
  by_cases h1 : aTs T i = 0
  · rw [if_pos h1] at h; omega
  · rw [if_neg h1] at h
    by_cases h2 : aEnt T a (i - 16)
    · rw [if_neg (show ¬ ¬ aEnt T a (i - 16) from fun q => q h2)] at h; omega
    · rw [if_pos h2] at h; omega
/-- both searches, and what they choose -/
theorem p_choose (hI : aInv V T) (hV : V < 2 ^ 20) {N : zNet} (hR : aRel T N) {u a b tg : Nat} (hu : u < 10) (ha : a < 4) (hb : b ≤ 1) (ht : tg < aNN T) {sums steps s1 s2 s3 s4 s5 : Nat → Int32} {ch : Int32} :
    ∃ m q r x qs qc, fX2_takeView (nI u) (nI a) (nI b) s1 s2 s3 s4 N.1 N.2.1 N.2.2.1 N.2.2.2.2.1 N.2.2.2.2.2.1 N.2.2.2.2.2.2.1 N.2.2.2.2.2.2.2.1 N.2.2.2.2.2.2.2.2.1 N.2.2.2.2.2.2.2.2.2.1 N.2.2.2.2.2.2.2.2.2.2.2.1 = some (nI (aNN T), nI m, q) ∧ fX2_measureTo (nI tg) (nI (aNN T)) (nI m) q.1 q.2.1 q.2.2.1 s5 = some r ∧ fX2_firstEdge (nI u) (nI m) q.1 q.2.1 q.2.2.1 r = some x ∧ fX7_find (nI u) (nI tg) (nI a) (nI b) (zI T) sums steps = some qs ∧ fX7_choose (nI u) (nI u) (nI a) (nI b) (zI T) qs.1 qs.2 ch = some qc ∧ ((x = -1 ∧ qc = (-9, ch)) ∨ ∃ j v i c, j < m ∧ m ≤ 35 ∧ x = nI j ∧ q.2.1 j = nI v ∧ q.2.2.2 j = nI i ∧ qc = (nI i, nI v) ∧ aVw T u a b u v c i) ∧ fX2_costFrom (nI u) r = some (if qs.1 u < 1000000 then qs.1 u else -9) := by
  obtain ⟨m, e, q, r, d, h1, h2, h3, h4, h5, h6, h7, h8⟩ := c_search hI hV hR hu ha hb ht (s1 := s1) (s2 := s2) (s3 := s3) (s4 := s4) (s5 := s5)
  obtain ⟨qs, d', f1, f2, f3, f4, f5⟩ := e_find hI hV hu ha hb ht (sums := sums) (steps := steps)
  obtain ⟨x, qc, g1, g2, g3⟩ := x_next hI hV hu ha hb h3 h4 h5 h6 h7 h8 f2 f3 f4 f5 hu (ch := ch)
  refine ⟨m, q, r, x, qs, qc, h1, h2, g1, f1, g2, ?_, x_cost hI hu h6 h7 h8 f2 f3 f4 hu⟩
  rcases g3 with g3 | ⟨j, v, i, c, a1, a2, a3, a4, a5, a6⟩
  · exact Or.inl g3
  · exact Or.inr ⟨j, v, i, c, a1, h3, a2, a3, a4, a5, a6⟩
abbrev zP1 : Type := Int32 × Int32 × Int32 × (Nat → Int32) × Int32 × Int32 × Int32 × Int32 × Int32 × (Nat → Int32) × (Nat → Int32) × (Nat → Int32) × (Nat → Int32) × (Nat → Int32)
abbrev zP2 : Type := Int32 × Int32 × (Nat → Int32) × (Nat → Int32) × Int32 × (Nat → Int32) × Int32 × Int32
/-- where both packets are -/
def pRel (T : zA) (f : Nat) (n : Nat) (A : zP1) (B : zP2) : Prop :=
  A.1 = nI n ∧ ∃ u c, u < aNN T ∧ c ≤ 20 ∧ A.2.1 = nI c ∧ B.2.2.2.2.2.2.1 = nI c ∧ A.2.2.1 = B.2.2.2.2.2.2.2 ∧ (∀ j, j ≤ c → A.2.2.2.1 j = B.2.2.2.2.2.1 j) ∧ A.2.2.2.2.1 = nI u ∧ B.1 = nI u ∧
    ((B.2.1 = -9 ∧ A.2.2.2.2.2.2.1 = -1 ∧ A.2.2.2.2.2.1 = nI (aAr T f) ∧ n ≤ 2 * c) ∨ (∃ k, k < aNT T ∧ B.2.1 = nI k ∧ A.2.2.2.2.2.2.1 = nI (aT T k 1) ∧ A.2.2.2.2.2.1 = nI (aAr T (aT T k 0)) ∧ u ≠ aT T k 1 ∧ n ≤ 2 * c + 1))
/-- what both say at the end -/
def pEnd (R1 : zP1) (R2 : Int32 × (Nat → Int32) × (Nat → Int32) × Int32 × (Nat → Int32) × Int32 × Int32) : Prop :=
  R1.1 = R2.1 ∧ ∃ c, c ≤ 20 ∧ R1.2.1 = nI c ∧ R2.2.2.2.2.2.1 = nI c ∧ R1.2.2.1 = R2.2.2.2.2.2.2 ∧ ∀ j, j ≤ c → R1.2.2.2.1 j = R2.2.2.2.2.1 j
theorem nI_neg {i : Nat} (h : i < 2 ^ 31) {x : Int32} (hx : x < 0) : ¬ nI i = x := by
  intro e
  rw [← e, zl0, nI_ltI h (by omega)] at hx
  omega
theorem p_step (hI : aInv V T) (hV : V < 2 ^ 20) {N : zNet} (hR : aRel T N) {f t : Nat} (hf : f < aNN T) (ht : t < aNN T) {n : Nat} (hn : n < 42) {A : zP1} {B : zP2} (hP : pRel T f n A B) :
    (∃ A' B', sX4_travel_40 (nI f) (nI t) N.1 N.2.1 N.2.2.1 N.2.2.2.2.1 N.2.2.2.2.2.1 N.2.2.2.2.2.2.1 N.2.2.2.2.2.2.2.1 N.2.2.2.2.2.2.2.2.1 N.2.2.2.2.2.2.2.2.2.1 N.2.2.2.2.2.2.2.2.2.2.1 N.2.2.2.2.2.2.2.2.2.2.2.1 A.1 A.2.1 A.2.2.1 A.2.2.2.1 A.2.2.2.2.1 A.2.2.2.2.2.1 A.2.2.2.2.2.2.1 A.2.2.2.2.2.2.2.1 A.2.2.2.2.2.2.2.2.1 A.2.2.2.2.2.2.2.2.2.1 A.2.2.2.2.2.2.2.2.2.2.1 A.2.2.2.2.2.2.2.2.2.2.2.1 A.2.2.2.2.2.2.2.2.2.2.2.2.1 A.2.2.2.2.2.2.2.2.2.2.2.2.2 = some (.inl A') ∧ sX7_carry_23 (nI f) (nI t) (zI T) B.1 B.2.1 B.2.2.1 B.2.2.2.1 B.2.2.2.2.1 B.2.2.2.2.2.1 B.2.2.2.2.2.2.1 B.2.2.2.2.2.2.2 = some (.inl B') ∧ pRel T f (n + 1) A' B') ∨
    (∃ R1 R2, sX4_travel_40 (nI f) (nI t) N.1 N.2.1 N.2.2.1 N.2.2.2.2.1 N.2.2.2.2.2.1 N.2.2.2.2.2.2.1 N.2.2.2.2.2.2.2.1 N.2.2.2.2.2.2.2.2.1 N.2.2.2.2.2.2.2.2.2.1 N.2.2.2.2.2.2.2.2.2.2.1 N.2.2.2.2.2.2.2.2.2.2.2.1 A.1 A.2.1 A.2.2.1 A.2.2.2.1 A.2.2.2.2.1 A.2.2.2.2.2.1 A.2.2.2.2.2.2.1 A.2.2.2.2.2.2.2.1 A.2.2.2.2.2.2.2.2.1 A.2.2.2.2.2.2.2.2.2.1 A.2.2.2.2.2.2.2.2.2.2.1 A.2.2.2.2.2.2.2.2.2.2.2.1 A.2.2.2.2.2.2.2.2.2.2.2.2.1 A.2.2.2.2.2.2.2.2.2.2.2.2.2 = some (.inr R1) ∧ sX7_carry_23 (nI f) (nI t) (zI T) B.1 B.2.1 B.2.2.1 B.2.2.2.1 B.2.2.2.2.1 B.2.2.2.2.2.1 B.2.2.2.2.2.2.1 B.2.2.2.2.2.2.2 = some (.inr R2) ∧ pEnd R1 R2) := by
  obtain ⟨a1, acr, aco, ast, aat, aar, aex, g1, g2, g3, g4, g5, g6, g7⟩ := A
  obtain ⟨bat, bin, bsu, bst, bch, bpa, bpm, bpc⟩ := B
  obtain ⟨e1, u, c, hu, hc, e2, e3, e4, e5, e6, e7, hin⟩ := hP
  dsimp only at e1 e2 e3 e4 e5 e6 e7 hin ⊢
  subst e1 e2 e3 e4 e6 e7
  have h10 := hI.1
  have hRr := hR
  obtain ⟨r1, r2, r3, r4, r5, r6, r7, r8, r9, r10⟩ := hRr
  -- the common part
  have main : ∀ a b tg, a < 4 → b ≤ 1 → tg < aNN T → aar = nI a →
      ((bin = -9 ∧ aex = -1 ∧ a = aAr T f ∧ b = 1 ∧ n ≤ 2 * c) ∨ (∃ k, k < aNT T ∧ bin = nI k ∧ aex = nI (aT T k 1) ∧ b = 0 ∧ u ≠ aT T k 1 ∧ a = aAr T (aT T k 0) ∧ n ≤ 2 * c + 1)) →
      ¬ (u = t ∧ aex = -1) →
      (∀ m q r x, fX2_takeView (nI u) (nI a) (nI b) g3 g4 g5 g6 N.1 N.2.1 N.2.2.1 N.2.2.2.2.1 N.2.2.2.2.2.1 N.2.2.2.2.2.2.1 N.2.2.2.2.2.2.2.1 N.2.2.2.2.2.2.2.2.1 N.2.2.2.2.2.2.2.2.2.1 N.2.2.2.2.2.2.2.2.2.2.2.1 = some (nI (aNN T), nI m, q) → fX2_measureTo (nI tg) (nI (aNN T)) (nI m) q.1 q.2.1 q.2.2.1 g7 = some r → fX2_firstEdge (nI u) (nI m) q.1 q.2.1 q.2.2.1 r = some x → fX4_chooseEdge (nI t) (nI u) (nI a) aex N.1 N.2.1 N.2.2.1 N.2.2.2.2.1 N.2.2.2.2.2.1 N.2.2.2.2.2.2.1 N.2.2.2.2.2.2.2.1 N.2.2.2.2.2.2.2.2.1 N.2.2.2.2.2.2.2.2.2.1 N.2.2.2.2.2.2.2.2.2.2.2.1 g3 g4 g5 g6 g7 = some (x, nI (aNN T), nI m, q.1, q.2.1, q.2.2.1, q.2.2.2, r)) →
      (∀ qs, fX7_find (nI u) (nI tg) (nI a) (nI b) (zI T) bsu bst = some qs → sX7_carry_23 (nI f) (nI t) (zI T) (nI u) bin bsu bst bch bpa (nI c) aco = uX7_carry_117 (nI u) bin (nI a) (nI u) (nI u) (nI a) (nI b) (zI T) qs.1 qs.2 bch bpa (nI c) aco) →
      (∃ A' B', sX4_travel_40 (nI f) (nI t) N.1 N.2.1 N.2.2.1 N.2.2.2.2.1 N.2.2.2.2.2.1 N.2.2.2.2.2.2.1 N.2.2.2.2.2.2.2.1 N.2.2.2.2.2.2.2.2.1 N.2.2.2.2.2.2.2.2.2.1 N.2.2.2.2.2.2.2.2.2.2.1 N.2.2.2.2.2.2.2.2.2.2.2.1 (nI n) (nI c) aco ast (nI u) aar aex g1 g2 g3 g4 g5 g6 g7 = some (.inl A') ∧ sX7_carry_23 (nI f) (nI t) (zI T) (nI u) bin bsu bst bch bpa (nI c) aco = some (.inl B') ∧ pRel T f (n + 1) A' B') ∨
      (∃ R1 R2, sX4_travel_40 (nI f) (nI t) N.1 N.2.1 N.2.2.1 N.2.2.2.2.1 N.2.2.2.2.2.1 N.2.2.2.2.2.2.1 N.2.2.2.2.2.2.2.1 N.2.2.2.2.2.2.2.2.1 N.2.2.2.2.2.2.2.2.2.1 N.2.2.2.2.2.2.2.2.2.2.1 N.2.2.2.2.2.2.2.2.2.2.2.1 (nI n) (nI c) aco ast (nI u) aar aex g1 g2 g3 g4 g5 g6 g7 = some (.inr R1) ∧ sX7_carry_23 (nI f) (nI t) (zI T) (nI u) bin bsu bst bch bpa (nI c) aco = some (.inr R2) ∧ pEnd R1 R2) := by
    intro a b tg ha hb htg haar hin2 hnd hce hre
    clear hin
    subst haar
    obtain ⟨m, q, r, x, qs, qc, k1, k2, k3, k4, k5, k6, -⟩ := p_choose hI hV hR (u := u) (a := a) (b := b) (tg := tg) (by omega) ha hb htg (sums := bsu) (steps := bst) (s1 := g3) (s2 := g4) (s3 := g5) (s4 := g6) (s5 := g7) (ch := bch)
    rw [hre qs k4]
    unfold sX4_travel_40 uX7_carry_117
    rw [zl42, ite_leN (by omega) (by omega), if_neg (show ¬ 42 ≤ n by omega), c_isDelivered (by omega) (by omega), hce m q r x k1 k2 k3, k5]
    simp only [Option.bind_some]
    rw [ite_bI, if_neg hnd]
    rcases k6 with ⟨rfl, rfl⟩ | ⟨j, v, i, co, j1, j2, rfl, j3, j4, rfl, hA⟩
    · -- no way
      right
      have er : fX7_refusal (-9) (nI a) (zI T) (nI c) = some 1 := by unfold fX7_refusal; rw [if_pos rfl]
      dsimp only
      rw [er]
      simp only [Option.bind_some]
      rw [if_neg (show ¬ (0 : Int32) ≤ -1 by decide), if_neg (show ¬ (1 : Int32) ≤ 0 by decide)]
      exact ⟨_, _, rfl, rfl, rfl, c, hc, rfl, rfl, rfl, e5⟩
    · have hx := (aVw_ex hA).1
      have h16 := (aVw_ex hA).2
      have hlt := hx.lt hI
      have hok := aVw_ok hI (by omega) u v co ⟨i, hA⟩
      have hob : aObs T a c i ≤ 4 := aObs_le
      dsimp only
      rw [e_refusal hI ha hc hx h16]
      simp only [Option.bind_some]
      rw [if_pos (show (0 : Int32) ≤ nI j by rw [zl0, nI_leI (by omega) (by omega)]; omega), gd_in (by omega), nm_eq, nI_cl (by omega), j4, c_obstacleAt hI hV hR ha hc hx h16, j3]
      simp only [Option.bind_some]
      have eo : (nI (aObs T a c i) ≤ 0) ↔ aObs T a c i = 0 := by rw [zl0, nI_leI (by omega) (by omega)]; omega
      have eo2 : (nI (aObs T a c i) = 0) ↔ aObs T a c i = 0 := by rw [zl0, nI_eq (by omega) (by omega)]
      by_cases ho : aObs T a c i = 0
      · left
        rw [if_pos (eo.mpr ho), if_pos (eo2.mpr ho), gd_in (by omega)]
        have eaf : N.2.2.2.2.1 f = nI (aAr T f) := r5 f hf
        unfold fX4_move
        rw [zl32, ite_ltN (by omega) (by omega), ite_ltN (by omega) (by omega)]
        by_cases h32 : i < 32
        · have hk : i - 16 < 16 := by omega
          have hl := hI.link hk
          have hc20 := aObs_c ho h32
          have htc := aTs_le hI hlt.1
          have htc2 : aTc T i = aL T (i - 16) 2 := by
            have := (aTx_l (T := T) hk).2.2
            rw [show 16 + (i - 16) = i by omega] at this
            exact this
          have hend : aEnd T u (i - 16) ∧ aL T (i - 16) 0 + aL T (i - 16) 1 = u + v := by
            rw [aVw_co hA] at hA
            rcases ((ld_iff hI (by omega) ha hx h16).mpr hA).2 with q | q
            · exact ⟨q.2.2.1, q.2.2.2⟩
            · omega
          rw [if_pos h32, if_pos h32, gd_in hlt.1, nI_cl (by omega), r8 i hlt.1, c_price htc.1 hV htc.2.1 htc.2.2, htc2, zl16, pk_sub (by omega), e_other hI hk hend.1, zl2, e_linkPart hk (by omega), hend.2, show u + v - u = v by omega]
          simp only [Option.bind_some]
          rw [zl1, nI_add, gd_in (by omega), gd_in (by omega), nI_cl (by omega)]
          simp only [Option.bind_some]
          rw [gd_in (by omega), nI_cl (by omega), eaf]
          have est : ∀ jj, jj ≤ c + 1 → upd ast (c + 1) (nI v) jj = upd bpa (c + 1) (nI v) jj := by
            intro jj hjj
            unfold upd
            by_cases ej : jj = c + 1
            · rw [if_pos ej, if_pos ej]
            · rw [if_neg ej, if_neg ej]; exact e5 jj (by omega)
          unfold fX4_leaveTunnelAtExit uX7_carry_207
          rcases hin2 with ⟨rfl, rfl, rfl, rfl, hnc⟩ | ⟨k, hkt, rfl, rfl, rfl, huk, rfl, hnc⟩
          · rw [if_neg (nI_neg (by omega) (by decide)), if_pos rfl]
            simp only [Option.bind_some]
            rw [nm_eq, nI_add]
            unfold uX7_carry_230 uX7_carry_232
            refine ⟨_, _, rfl, rfl, rfl, v, c + 1, hok.2.1, by omega, rfl, rfl, rfl, est, rfl, rfl, Or.inl ⟨rfl, rfl, rfl, by omega⟩⟩
          · have htk := hI.2.2.2.2.1 k hkt
            have hne : ¬ nI k = (-9 : Int32) := nI_neg (by omega) (by decide)
            rw [if_neg hne, zl1, e_tunnelPart (by omega) (by omega)]
            simp only [Option.bind_some]
            rw [ite_eqN (by omega) (by omega), ite_eqN (by omega) (by omega)]
            by_cases hv : v = aT T k 1
            · rw [if_pos hv, if_pos hv]
              simp only [Option.bind_some]
              rw [nm_eq, nI_add]
              unfold uX7_carry_232
              refine ⟨_, _, rfl, rfl, rfl, v, c + 1, hok.2.1, by omega, rfl, rfl, rfl, est, rfl, rfl, Or.inl ⟨rfl, rfl, rfl, by omega⟩⟩
            · rw [if_neg hv, if_neg hv]
              simp only [Option.bind_some]
              rw [nm_eq, nI_add]
              unfold uX7_carry_230 uX7_carry_232
              refine ⟨_, _, rfl, rfl, rfl, v, c + 1, hok.2.1, by omega, rfl, rfl, rfl, est, rfl, rfl, Or.inr ⟨k, hkt, rfl, rfl, rfl, hv, by omega⟩⟩
        · have hk : i - 32 < aNT T := by unfold aEx at hx; omega
          have htk := hI.2.2.2.2.1 (i - 32) hk
          have hte : ¬ b = 0 ∧ aT T (i - 32) 0 = u ∧ aT T (i - 32) 1 = v := by
            rw [aVw_co hA] at hA
            rcases ((ld_iff hI (by omega) ha hx h16).mpr hA).2 with q | q
            · omega
            · exact ⟨q.2.1, q.2.2.1, q.2.2.2⟩
          have eau : N.2.2.2.2.1 u = nI (aAr T u) := r5 u hu
          rcases hin2 with ⟨rfl, rfl, rfl, rfl, hnc⟩ | ⟨k, hkt, rfl, rfl, rfl, huk, rfl, hnc⟩
          · rw [if_neg h32, if_neg h32, gd_in (by omega), nI_cl (by omega), nm_eq, pk_sub (by omega), eau]
            simp only [Option.bind_some]
            rw [gd_in (by omega), nI_cl (by omega), eaf]
            unfold fX4_leaveTunnelAtExit uX7_carry_207
            have hne : ¬ nI (i - 32) = (-9 : Int32) := nI_neg (by omega) (by decide)
            rw [if_neg hne, zl1, e_tunnelPart (by omega) (by omega), hte.2.2]
            simp only [Option.bind_some]
            rw [ite_eqN (by omega) (by omega), ite_eqN (by omega) (by omega), if_neg hok.2.2.1, if_neg hok.2.2.1]
            simp only [Option.bind_some]
            rw [nm_eq, nI_add]
            unfold uX7_carry_230 uX7_carry_232
            refine ⟨_, _, rfl, rfl, rfl, u, c, hu, hc, rfl, rfl, rfl, e5, rfl, rfl, Or.inr ⟨i - 32, hk, rfl, ?_, ?_, ?_, by omega⟩⟩
            · show nI v = nI (aT T (i - 32) 1); rw [hte.2.2]
            · show nI (aAr T u) = nI (aAr T (aT T (i - 32) 0)); rw [hte.2.1]
            · rw [hte.2.2]; exact hok.2.2.1
          · exact absurd rfl hte.1
      · right
        rw [if_neg (fun h => ho (eo.mp h)), if_neg (fun h => ho (eo2.mp h))]
        exact ⟨_, _, rfl, rfl, rfl, c, hc, rfl, rfl, rfl, e5⟩
  have hra : ∀ w, w < aNN T → aAr T w < 4 := fun w hw => hI.ar (n := w) (by omega)
  rcases hin with ⟨rfl, rfl, rfl, hnc⟩ | ⟨k, hkt, rfl, rfl, rfl, huk, hnc⟩
  · by_cases hd : u = t
    · right
      unfold sX4_travel_40 sX7_carry_23 uX4_travel_129
      have ed : fX4_isDelivered (nI t) (nI t) (-1) = some 1 := by unfold fX4_isDelivered; rw [if_pos rfl, if_pos rfl]
      rw [zl42, ite_leN (by omega) (by omega), if_neg (show ¬ 42 ≤ n by omega), hd, ed, if_pos rfl, if_pos rfl, Option.bind_some, Option.bind_some, if_neg (show ¬ (1 : Int32) = 0 by decide), if_neg (show ¬ (1 : Int32) = 0 by decide)]
      exact ⟨_, _, rfl, rfl, rfl, c, hc, rfl, rfl, rfl, e5⟩
    · refine main (aAr T f) 1 t (hra f hf) (by omega) ht rfl (Or.inl ⟨rfl, rfl, rfl, rfl, hnc⟩) (fun q => hd q.1) ?_ ?_
      · intro m q r x k1 k2 k3
        unfold fX4_chooseEdge uX4_chooseEdge_23 uX4_chooseEdge_43
        rw [if_pos rfl, zl1, k1, Option.bind_some, if_pos rfl, k2, Option.bind_some, k3]
        rfl
      · intro qs hq
        unfold sX7_carry_23 uX7_carry_35 uX7_carry_53 uX7_carry_74 uX7_carry_97
        rw [ite_eqN (by omega) (by omega), if_neg hd, if_pos rfl, if_pos rfl, e_area (by omega), Option.bind_some, if_pos rfl, zl1, hq, Option.bind_some, if_pos rfl]
  · have htk := hI.2.2.2.2.1 k hkt
    refine main (aAr T (aT T k 0)) 0 (aT T k 1) (hra _ htk.1) (by omega) htk.2.1 rfl (Or.inr ⟨k, hkt, rfl, rfl, rfl, huk, rfl, hnc⟩) (fun q => nI_neg (by omega) (by decide) q.2) ?_ ?_
    · intro m q r x k1 k2 k3
      unfold fX4_chooseEdge uX4_chooseEdge_23 uX4_chooseEdge_43
      have hne : ¬ nI (aT T k 1) = (-1 : Int32) := nI_neg (by omega) (by decide)
      rw [if_neg hne, zl0, k1]
      simp only [Option.bind_some]
      rw [if_neg hne, k2]
      simp only [Option.bind_some]
      rw [k3]
      rfl
    · intro qs hq
      have hne : ¬ nI k = (-9 : Int32) := nI_neg (by omega) (by decide)
      unfold sX7_carry_23 uX7_carry_35 uX7_carry_53 uX7_carry_74 uX7_carry_97
      simp only [hne, if_false]
      rw [zl1, zl0, e_tunnelPart (by omega) (by omega), e_tunnelPart (by omega) (by omega)]
      simp only [Option.bind_some]
      rw [e_area (by omega)]
      simp only [Option.bind_some]
      rw [hq]
      simp only [Option.bind_some]
      split <;> rfl
theorem p_travel (hI : aInv V T) (hV : V < 2 ^ 20) {N : zNet} (hR : aRel T N) {f t : Nat} (hf : f < aNN T) (ht : t < aNN T) {st g3 g4 g5 g6 g7 sums steps pa : Nat → Int32} {g1 g2 ch : Int32} :
    ∃ R1 R2, fX4_travel (nI f) (nI t) st N.1 N.2.1 N.2.2.1 N.2.2.2.2.1 N.2.2.2.2.2.1 N.2.2.2.2.2.2.1 N.2.2.2.2.2.2.2.1 N.2.2.2.2.2.2.2.2.1 N.2.2.2.2.2.2.2.2.2.1 N.2.2.2.2.2.2.2.2.2.2.1 N.2.2.2.2.2.2.2.2.2.2.2.1 g1 g2 g3 g4 g5 g6 g7 = some R1 ∧ fX7_carry (nI f) (nI t) (zI T) sums steps ch pa = some R2 ∧ pEnd R1 R2 := by
  have h10 := hI.1
  have eaf : N.2.2.2.2.1 f = nI (aAr T f) := hR.2.2.2.2.1 f hf
  unfold fX4_travel fX7_carry
  rw [show vp_in (0 : Int32) 21 = vp_in (nI 0) 21 from rfl, gd_in (by omega), gd_in (by omega), gd_in (by omega), nI_cl (by omega), eaf]
  refine wh_two (fun b : zP1 => sX4_travel_40 (nI f) (nI t) N.1 N.2.1 N.2.2.1 N.2.2.2.2.1 N.2.2.2.2.2.1 N.2.2.2.2.2.2.1 N.2.2.2.2.2.2.2.1 N.2.2.2.2.2.2.2.2.1 N.2.2.2.2.2.2.2.2.2.1 N.2.2.2.2.2.2.2.2.2.2.1 N.2.2.2.2.2.2.2.2.2.2.2.1 b.1 b.2.1 b.2.2.1 b.2.2.2.1 b.2.2.2.2.1 b.2.2.2.2.2.1 b.2.2.2.2.2.2.1 b.2.2.2.2.2.2.2.1 b.2.2.2.2.2.2.2.2.1 b.2.2.2.2.2.2.2.2.2.1 b.2.2.2.2.2.2.2.2.2.2.1 b.2.2.2.2.2.2.2.2.2.2.2.1 b.2.2.2.2.2.2.2.2.2.2.2.2.1 b.2.2.2.2.2.2.2.2.2.2.2.2.2) (fun b : zP2 => sX7_carry_23 (nI f) (nI t) (zI T) b.1 b.2.1 b.2.2.1 b.2.2.2.1 b.2.2.2.2.1 b.2.2.2.2.2.1 b.2.2.2.2.2.2.1 b.2.2.2.2.2.2.2) 42 (pRel T f) pEnd (fun i a b hi hp => p_step hI hV hR hf ht hi hp) (fun a b hp => ?_) 0 _ _ (by omega) ⟨zl0, f, 0, hf, by omega, zl0, zl0, rfl, fun j hj => ?_, rfl, rfl, Or.inl ⟨rfl, rfl, rfl, by omega⟩⟩
  · obtain ⟨-, u, c, -, hc, -, -, -, -, -, -, hx⟩ := hp
    rcases hx with ⟨-, -, -, h⟩ | ⟨k, -, -, -, -, -, h⟩ <;> omega
  · have : j = 0 := by omega
    subst this
    show upd st (nI 0).toNatClampNeg (nI f) 0 = upd pa (nI 0).toNatClampNeg (nI f) 0
    rw [nI_cl (by omega), pk_us, pk_us]
end P39j
