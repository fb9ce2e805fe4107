section P38
variable {T R S : zA} {V : Nat} {D : Nat → Nat → Nat → Nat}
def aSnB (R : zA) (n m B : Nat) : Nat := sm (fun k => if aL R k 3 = 1 ∧ aEnd R n k ∧ (aL R k 0 = m ∨ aL R k 1 = m) then 1 else 0) B
theorem aSn_lk (hI : aInv V R) {n m : Nat} : (0 < aLk R n m) ↔ (m ≠ n ∧ 0 < aSnB R n m (aNL R)) := by
  by_cases h : m = n
  · subst h
    have : aLk R m m = 0 := by
      unfold aLk aLkB
      rw [sm_0]
      intro k hk
      have := hI.2.2.1 k hk
      rw [if_neg]
      rintro ⟨-, h1, h2⟩
      unfold aEnd at h1
      omega
    rw [this]
    simp
  · have : aLk R n m = aSnB R n m (aNL R) := by
      unfold aLk aLkB aSnB
      refine sm_congr _ (fun k hk => ?_)
      have := hI.2.2.1 k hk
      have e : (aL R k 3 = 1 ∧ aEnd R n k ∧ aL R k 0 + aL R k 1 = n + m) ↔ (aL R k 3 = 1 ∧ aEnd R n k ∧ (aL R k 0 = m ∨ aL R k 1 = m)) := by
        unfold aEnd
        omega
      simp only [e]
    rw [this]
    simp [h]
theorem c_sendersTo (hI : aInv V R) (hV : V < 2 ^ 20) {firsts seconds privates truth : Nat → Int32} (hL : rL R firsts seconds privates) (hU : rU R truth) {n : Nat} (hn : n < 10) : ∃ x, fX1_sendersTo (nI n) (nI (aNL R)) firsts seconds truth = some x ∧ ∀ m, m < 32 → bi x m = decide (0 < aLk R n m) := by
  have h10 : aNN R ≤ 10 := hI.1.1
  have h16 : aNL R ≤ 16 := hI.1.2.1
  unfold fX1_sendersTo
  refine wh_ex (fun b : Int32 × Int32 => sX1_sendersTo_4 (nI n) (nI (aNL R)) firsts seconds truth b.1 b.2) (aNL R) (fun k s => s.2 = nI k ∧ ∀ m, m < 32 → bi s.1 m = decide (0 < aSnB R n m k)) (fun r => ∃ x, r = some x ∧ ∀ m, m < 32 → bi x m = decide (0 < aLk R n m)) ?_ ?_ 0 (0, 0) (by omega) ⟨zl0, fun m hm => by rw [bi_0]; rfl⟩
  · rintro k ⟨x, y⟩ hk ⟨h1, h2⟩
    left
    dsimp only at h1 h2
    subst h1
    have hl := hI.2.2.1 k hk
    have es : ∀ m, aSnB R n m (k + 1) = aSnB R n m k + (if aL R k 3 = 1 ∧ aEnd R n k ∧ (aL R k 0 = m ∨ aL R k 1 = m) then 1 else 0) := fun m => rfl
    have e54 : ∀ x, uX1_sendersTo_54 x (nI k) = some (.inl (x, nI (k + 1))) := fun x => by unfold uX1_sendersTo_54; rw [nm_eq, zl1, nI_add]
    dsimp only [sX1_sendersTo_4]
    rw [ite_leN (by omega) (by omega), if_neg (by omega), zl16, nI_add, c_isUpL hI hV hU (by omega)]
    simp only [Option.bind_some]
    rw [ite_bI]
    by_cases h3 : aL R k 3 = 1
    · rw [if_pos h3, c_isEnd hI hL hn hk]
      simp only [Option.bind_some]
      rw [ite_bI]
      by_cases h4 : aEnd R n k
      · rw [if_pos h4, gd_in (by omega), nm_eq, gd_in (by omega), nm_eq, nI_cl (by omega), (hL k hk).1, (hL k hk).2.1, e54]
        refine ⟨_, rfl, rfl, fun m hm => ?_⟩
        dsimp only
        rw [bi_or (by omega) hm, bi_or (by omega) hm, h2 m hm, es m]
        by_cases h5 : aL R k 0 = m ∨ aL R k 1 = m
        · rw [if_pos ⟨h3, h4, h5⟩]
          have : 0 < aSnB R n m k + 1 := by omega
          rcases h5 with h5 | h5
          · simp [h5]
          · simp [h5]
        · rw [if_neg (fun q => h5 q.2.2)]
          have a1 : ¬ m = aL R k 0 := fun e => h5 (Or.inl e.symm)
          have a2 : ¬ m = aL R k 1 := fun e => h5 (Or.inr e.symm)
          simp [a1, a2]
      · rw [if_neg h4, e54]
        refine ⟨_, rfl, rfl, fun m hm => ?_⟩
        rw [es m, if_neg (fun q => h4 q.2.1)]
        exact h2 m hm
    · rw [if_neg h3, e54]
      refine ⟨_, rfl, rfl, fun m hm => ?_⟩
      rw [es m, if_neg (fun q => h3 q.1)]
      exact h2 m hm
  · rintro ⟨x, y⟩ ⟨h1, h2⟩
    dsimp only at h1 h2
    subst h1
    refine ⟨uX1_sendersTo_60 (nI n) x, ?_, ?_⟩
    · dsimp only [sX1_sendersTo_4]
      rw [ite_leN (by omega) (by omega), if_pos (by omega)]
    · unfold uX1_sendersTo_60
      refine ⟨_, rfl, fun m hm => ?_⟩
      rw [bi_clr (by omega) hm, h2 m hm]
      by_cases h : m = n
      · have : ¬ 0 < aLk R n m := fun q => ((aSn_lk hI).mp q).1 h
        simp [h]
        rw [h] at this
        omega
      · by_cases h3 : 0 < aSnB R n m (aNL R)
        · have : 0 < aLk R n m := (aSn_lk hI).mpr ⟨h, h3⟩
          simp [h, h3, this]
        · have : ¬ 0 < aLk R n m := fun q => h3 ((aSn_lk hI).mp q).2
          simp [h3, this]
theorem c_receive_19 (hV : V < 2 ^ 20) (hM : aMid V R T) (hD : aDok V R D) {areas firsts seconds privates facts sf : Nat → Int32} {news sn : Nat → Int64} (hA : rA R areas) (hL : rL R firsts seconds privates) (hSF : rF (R.1, D) sf) (hSN : rN (R.1, D) sn) (hF : rF T facts) (hN : rN T news) {x : Int32} {n i : Nat} (hn : n < aNN R) (hi : i < 35) (hx : ∀ m, m < 32 → bi x m = decide (0 < aLk R n m)) :
    ∃ q, lX1_receive_19 (nI n) x (nI i) sf sn (nI (aNN R)) (nI (aNL R)) areas firsts seconds privates (nI 0) facts news = some (.inl (nI (i + 1), q)) ∧ rF (aRcF R D n i (aNN R) T) q.1 ∧ rN (aRcF R D n i (aNN R) T) q.2 := by
  have h10 : aNN T ≤ 10 := hM.1.1.1
  have eN : aNN T = aNN R := by unfold aNN; rw [hM.2]
  have hs : ∀ m s, m < aNN R → (rF (aRcF R D n i m T) s.1 ∧ rN (aRcF R D n i m T) s.2) → ∃ s', (fun b : Int32 × (Nat → Int32) × (Nat → Int64) => sX1_receive_19 (nI n) x (nI i) sf sn (nI (aNN R)) (nI (aNL R)) areas firsts seconds privates b.1 b.2.1 b.2.2) (nI m, s) = some (.inl (nI (m + 1), s')) ∧ (rF (aRcF R D n i (m + 1) T) s'.1 ∧ rN (aRcF R D n i (m + 1) T) s'.2) := by
    intro m s hm hp
    have hMU := aMid.rcF hM hD hn hi m (by omega)
    have d := hD m i (by omega) hi
    have e74 : ∀ a b, uX1_receive_74 (nI m) a b = some (.inl (nI (m + 1), a, b)) := fun a b => by unfold uX1_receive_74; rw [nm_eq, zl1, nI_add]
    dsimp only [sX1_receive_19]
    rw [ite_leN (by omega) (by omega), if_neg (by omega)]
    by_cases h1 : 0 < aLk R n m
    · rw [if_pos ((bi_test (by omega)).mpr (by rw [hx m (by omega)]; exact decide_eq_true h1)), gd_in (by omega), nI_cl (by omega)]
      by_cases h2 : D m i 3 = 1
      · have e : aRcF R D n i (m + 1) T = aLearn (aRcF R D n i m T) n i (D m i 0) (D m i 1) (D m i 2) := if_pos ⟨h2, h1⟩
        have hxx := (d.2.2.2.2 h2).1
        have eN2 : aNN (aRcF R D n i m T) = aNN R := by unfold aNN; rw [hMU.2]
        have eL2 : aNL (aRcF R D n i m T) = aNL R := by unfold aNL; rw [hMU.2]
        have eT2 : aNT (aRcF R D n i m T) = aNT R := by unfold aNT; rw [hMU.2]
        have hx2 : aEx (aRcF R D n i m T) i := by unfold aEx at hxx ⊢; rw [eL2, eT2]; exact hxx
        rw [if_pos ((bt_test (by omega)).mpr (by rw [hSN m i (by omega) (by omega)]; exact decide_eq_true ⟨hi, h2⟩)), c_place]
        simp only [Option.bind_some]
        rw [gd_in (by omega), nI_cl (by omega), hSF m i (by omega) hi]
        obtain ⟨q, q1, q2, q3⟩ := c_learn hMU.1 hV (rA_of hMU.2.symm hA) (rL_of hMU.2.symm hL) hp.1 hp.2 (n := n) (i := i) (v := D m i 0) (st := D m i 1) (c := D m i 2) (by rw [eN2]; exact hn) hi (hx2.lt hMU.1).2 d.1 d.2.1 d.2.2.1
        rw [eL2] at q1
        dsimp only
        rw [q1]
        simp only [Option.bind_some]
        rw [e74, e]
        exact ⟨_, rfl, q2, q3⟩
      · have e : aRcF R D n i (m + 1) T = aRcF R D n i m T := if_neg (fun q => h2 q.1)
        rw [if_neg (fun q => h2 (by
          have h3 := (bt_test (by omega)).mp q
          rw [hSN m i (by omega) (by omega)] at h3
          exact (of_decide_eq_true h3).2)), e74, e]
        exact ⟨_, rfl, hp⟩
    · have e : aRcF R D n i (m + 1) T = aRcF R D n i m T := if_neg (fun q => h1 q.2)
      rw [if_neg (fun q => h1 (by
        have h3 := (bi_test (by omega)).mp q
        rw [hx m (by omega)] at h3
        exact of_decide_eq_true h3)), e74, e]
      exact ⟨_, rfl, hp⟩
  have he : ∀ s, (rF (aRcF R D n i (aNN R) T) s.1 ∧ rN (aRcF R D n i (aNN R) T) s.2) → (fun b : Int32 × (Nat → Int32) × (Nat → Int64) => sX1_receive_19 (nI n) x (nI i) sf sn (nI (aNN R)) (nI (aNL R)) areas firsts seconds privates b.1 b.2.1 b.2.2) (nI (aNN R), s) = oi (uX1_receive_80 (nI i) s.1 s.2) := by
    intro s hp
    dsimp only [sX1_receive_19]
    rw [ite_leN (by omega) (by omega), if_pos (by omega)]
  obtain ⟨q, h1, h2⟩ := wh_inv (fun b : Int32 × (Nat → Int32) × (Nat → Int64) => sX1_receive_19 (nI n) x (nI i) sf sn (nI (aNN R)) (nI (aNL R)) areas firsts seconds privates b.1 b.2.1 b.2.2) (aNN R) (fun m s => rF (aRcF R D n i m T) s.1 ∧ rN (aRcF R D n i m T) s.2) (fun s => uX1_receive_80 (nI i) s.1 s.2) hs he 0 (facts, news) (by omega) ⟨hF, hN⟩
  refine ⟨q, h2.trans ?_, h1⟩
  unfold uX1_receive_80
  rw [nm_eq, zl1, nI_add]
theorem c_receive (hV : V < 2 ^ 20) (hM : aMid V R T) (hR : aInv V R) (hD : aDok V R D) {areas firsts seconds privates truth facts sf : Nat → Int32} {news sn : Nat → Int64} (hA : rA R areas) (hL : rL R firsts seconds privates) (hU : rU R truth) (hSF : rF (R.1, D) sf) (hSN : rN (R.1, D) sn) (hF : rF T facts) (hN : rN T news) {n : Nat} (hn : n < aNN R) :
    ∃ q, fX1_receive (nI n) sf sn (nI (aNN R)) (nI (aNL R)) areas firsts seconds privates truth facts news = some q ∧ rF (aRcI R D n 35 T) q.1 ∧ rN (aRcI R D n 35 T) q.2 := by
  have h10 : aNN R ≤ 10 := hR.1.1
  obtain ⟨x, x1, x2⟩ := c_sendersTo hR hV hL hU (n := n) (by omega)
  unfold fX1_receive
  rw [x1]
  simp only [Option.bind_some]
  obtain ⟨q, h1, h2⟩ := wh_inv (fun b : Int32 × (Nat → Int32) × (Nat → Int64) => sX1_receive_9 (nI n) x sf sn (nI (aNN R)) (nI (aNL R)) areas firsts seconds privates b.1 b.2.1 b.2.2) 35 (fun i s => rF (aRcI R D n i T) s.1 ∧ rN (aRcI R D n i T) s.2) (fun s => some s) (by
    intro i s hi hp
    have hMU := aMid.rcI hM h10 hD hn i (by omega)
    obtain ⟨q, q1, q2, q3⟩ := c_receive_19 hV hMU hD hA hL hSF hSN hp.1 hp.2 hn hi x2
    refine ⟨q, ?_, q2, q3⟩
    dsimp only [sX1_receive_9]
    rw [zl35, ite_leN (by omega) (by omega), if_neg (by omega)]
    exact q1) (by
    intro s hp
    dsimp only [sX1_receive_9]
    rw [zl35, ite_leN (by omega) (by omega), if_pos (by omega)]) 0 (facts, news) (by omega) ⟨hF, hN⟩
  exact ⟨q, h2, h1⟩
theorem c_fillL {f : Nat → Int64} {N : Nat} (hN : N < 2 ^ 31) : ∃ g, fJ7_fill_d0a16 0 f N = some g ∧ ∀ j, j < N → g j = 0 := by
  unfold fJ7_fill_d0a16
  rw [nm_eq]
  obtain ⟨g, h1, h2⟩ := wh_inv (fun b : Int32 × (Nat → Int64) => sJ7_fill_d0a16_6 0 (Int32.ofNat N) N b.1 b.2) N (fun i s => ∀ j, j < i → s j = 0) (fun s => some s) (by
    intro i s hi hp
    refine ⟨vp_updL s i 0, ?_, ?_⟩
    · dsimp only [sJ7_fill_d0a16_6]
      show (if nI N ≤ nI i then _ else _) = _
      rw [ite_leN (by omega) (by omega), if_neg (by omega), gd_in hi hN, nm_eq, nI_cl (by omega), zl1, nI_add]
    · intro j hj
      unfold vp_updL
      by_cases e : j = i
      · rw [if_pos e]
      · rw [if_neg e]; exact hp j (by omega)) (by
    intro s hp
    dsimp only [sJ7_fill_d0a16_6]
    show (if nI N ≤ nI N then _ else _) = _
    rw [ite_leN (by omega) (by omega), if_pos (by omega)]) 0 f (by omega) (fun j hj => by omega)
  exact ⟨g, h2, h1⟩
theorem c_passRound (hI : aInv V S) (hV : V < 2 ^ 20) {sf : Nat → Int32} {sn : Nat → Int64} {N : zNet} (hR : aRel S N) :
    ∃ q, fX1_passRound sf sn N.1 N.2.1 N.2.2.2.1 N.2.2.2.2.1 N.2.2.2.2.2.1 N.2.2.2.2.2.2.1 N.2.2.2.2.2.2.2.1 N.2.2.2.2.2.2.2.2.2.2.1 N.2.2.2.2.2.2.2.2.2.2.2.1 N.2.2.2.2.2.2.2.2.2.2.2.2 = some q ∧
      aRel (aRound S) (N.1, N.2.1, N.2.2.1, q.2.2.1, N.2.2.2.2.1, N.2.2.2.2.2.1, N.2.2.2.2.2.2.1, N.2.2.2.2.2.2.2.1, N.2.2.2.2.2.2.2.2.1, N.2.2.2.2.2.2.2.2.2.1, N.2.2.2.2.2.2.2.2.2.2.1, q.2.2.2.1, q.2.2.2.2) := by
  obtain ⟨r1, r2, r3, r4, r5, r6, r7, r8, r9, r10⟩ := hR
  have h10 : aNN S ≤ 10 := hI.1.1
  have eN : aNN (aClr S) = aNN S := aClr_h (by omega)
  have eL : aNL (aClr S) = aNL S := aClr_h (by omega)
  have eT : aNT (aClr S) = aNT S := aClr_h (by omega)
  have hC := aClr_inv hI
  have hA : rA (aClr S) N.2.2.2.2.1 := by
    intro n hn
    have e : aAr (aClr S) n = aAr S n := aClr_h (by omega)
    rw [e]; exact r5 n (by omega)
  have hL : rL (aClr S) N.2.2.2.2.2.1 N.2.2.2.2.2.2.1 N.2.2.2.2.2.2.2.1 := by
    intro k hk
    have e : ∀ p, aL (aClr S) k p = aL S k p := fun p => aClr_h (by omega)
    rw [e, e, e]; exact r6 k (by omega)
  have hT : rT (aClr S) N.2.2.2.2.2.2.2.2.1 N.2.2.2.2.2.2.2.2.2.1 := by
    intro k hk
    have e : ∀ p, aT (aClr S) k p = aT S k p := fun p => aClr_h (by omega)
    rw [e, e]; exact r7 k (by omega)
  have hU : rU (aClr S) N.2.2.2.2.2.2.2.2.2.2.1 := by
    intro i hi
    obtain ⟨x1, x2, x3⟩ := aTx_same (A := aClr S) (B := S) hi (fun h => ⟨aClr_h (by omega), aClr_h (by omega)⟩) (fun _ _ p _ => aClr_h (by omega)) (fun _ p _ => aClr_h (by omega))
    rw [x1, x2, x3]
    exact r8 i hi
  have hF : rF (aClr S) N.2.2.2.2.2.2.2.2.2.2.2.1 := by
    intro n i hn hi
    have e : ∀ p, p < 3 → (aClr S).2 n i p = S.2 n i p := fun p hp => if_neg (by omega)
    rw [e 0 (by omega), e 1 (by omega), e 2 (by omega)]
    exact r9 n i hn hi
  have hSF : rF ((aClr S).1, S.2) (va_cpy N.2.2.2.2.2.2.2.2.2.2.2.1 sf 0 0 350) := by
    intro n i hn hi
    rw [pk_cpy_in (by omega) (by omega), show 0 + (n * 35 + i - 0) = n * 35 + i by omega]
    exact r9 n i hn hi
  have hSN0 : rN S (va_cpy N.2.2.2.2.2.2.2.2.2.2.2.2 sn 0 0 10) := by
    intro n j hn hj
    rw [pk_cpy_in (by omega) (by omega), show 0 + (n - 0) = n by omega]
    exact r10 n j hn hj
  have hSN : rN ((aClr S).1, S.2) (va_cpy N.2.2.2.2.2.2.2.2.2.2.2.2 sn 0 0 10) := hSN0
  unfold fX1_passRound
  obtain ⟨g, g1, g2⟩ := c_fillL (f := N.2.2.2.2.2.2.2.2.2.2.2.2) (N := 10) (by omega)
  rw [g1]
  simp only [Option.bind_some]
  rw [r2, c_countMessages hI hV r6 r8 hSN0]
  simp only [Option.bind_some]
  have hN : rN (aClr S) g := by
    intro n j hn hj
    rw [g2 n hn, bt_0]
    refine (decide_eq_false ?_).symm
    rintro ⟨h1, h2⟩
    have e : (aClr S).2 n j 3 = if n < aNN S ∧ j < 35 ∧ 3 = 3 then 0 else S.2 n j 3 := rfl
    rw [e] at h2
    by_cases h3 : n < aNN S
    · rw [if_pos ⟨h3, h1, rfl⟩] at h2; omega
    · rw [if_neg (fun q => h3 q.1), hI.2.2.2.2.2.2.2.1 n j 3 hn h1 (by omega) (Or.inl (by omega))] at h2; omega
  rw [r1, r4, nI_add]
  obtain ⟨q, h1, h2⟩ := wh_inv (fun b : Int32 × (Nat → Int32) × (Nat → Int64) => sX1_passRound_55 (va_cpy N.2.2.2.2.2.2.2.2.2.2.2.1 sf 0 0 350) (va_cpy N.2.2.2.2.2.2.2.2.2.2.2.2 sn 0 0 10) (nI (aNN S)) (nI (aNL S)) (nI (aMS S + aMs S (aNL S))) N.2.2.2.2.1 N.2.2.2.2.2.1 N.2.2.2.2.2.2.1 N.2.2.2.2.2.2.2.1 N.2.2.2.2.2.2.2.2.2.2.1 b.1 b.2.1 b.2.2) (aNN S) (fun n s => rF (aRcN (aClr S) S.2 n (aClr S)) s.1 ∧ rN (aRcN (aClr S) S.2 n (aClr S)) s.2) (fun s => some (va_cpy N.2.2.2.2.2.2.2.2.2.2.2.1 sf 0 0 350, va_cpy N.2.2.2.2.2.2.2.2.2.2.2.2 sn 0 0 10, nI (aMS S + aMs S (aNL S)), s.1, s.2)) (by
    intro n s hn hp
    have hMU := aMid.rcN (V := V) (R := aClr S) (T := aClr S) ⟨hC, rfl⟩ (by omega) (aDok_of hI) n (by omega)
    obtain ⟨q, q1, q2, q3⟩ := c_receive hV hMU hC (aDok_of hI) hA hL hU hSF hSN hp.1 hp.2 (n := n) (by omega)
    refine ⟨q, ?_, q2, q3⟩
    dsimp only [sX1_passRound_55]
    rw [ite_leN (by omega) (by omega), if_neg (by omega), ← eN, ← eL, q1]
    simp only [Option.bind_some]
    rw [nm_eq, zl1, nI_add]) (by
    intro s hp
    dsimp only [sX1_passRound_55]
    rw [ite_leN (by omega) (by omega), if_pos (by omega)]) 0 (N.2.2.2.2.2.2.2.2.2.2.2.1, g) (by omega) ⟨hF, hN⟩
  have hX := (aRound_inv hI).2
  refine ⟨_, h2, ?_, ?_, ?_, ?_, ?_, ?_, ?_, ?_, ?_, ?_⟩
  · show nI (aNN S) = nI (aNN (aRound S)); unfold aNN; rw [hX]; rfl
  · show nI (aNL S) = nI (aNL (aRound S)); unfold aNL; rw [hX]; rfl
  · show N.2.2.1 = nI (aNT (aRound S)); unfold aNT; rw [hX]; exact r3
  · show nI (aMS S + aMs S (aNL S)) = nI (aMS (aRound S)); unfold aMS; rw [hX]; rfl
  · exact rA_of hX.symm hA
  · exact rL_of hX.symm hL
  · exact rT_of hX.symm hT
  · exact rU_of hX.symm hU
  · exact h1.1
  · exact h1.2
end P38
