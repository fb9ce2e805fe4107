/-! The class's changes. -/
section P28
variable {T : zA} {V : Nat}
theorem rA_of {A B : zA} (h : A.1 = B.1) {x : Nat → Int32} (hr : rA A x) : rA B x := by unfold rA aNN aAr at *; rw [← h]; exact hr
theorem rL_of {A B : zA} (h : A.1 = B.1) {x y z : Nat → Int32} (hr : rL A x y z) : rL B x y z := by unfold rL aNL aL at *; rw [← h]; exact hr
theorem rT_of {A B : zA} (h : A.1 = B.1) {x y : Nat → Int32} (hr : rT A x y) : rT B x y := by unfold rT aNT aT at *; rw [← h]; exact hr
theorem rU_of {A B : zA} (h : A.1 = B.1) {x : Nat → Int32} (hr : rU A x) : rU B x := by unfold rU aTv aTs aTc aGv aGr aL aT at *; rw [← h]; exact hr
theorem rF_of {A B : zA} (h : A.2 = B.2) {x : Nat → Int32} (hr : rF A x) : rF B x := by unfold rF at *; rw [← h]; exact hr
theorem rN_of {A B : zA} (h : A.2 = B.2) {x : Nat → Int64} (hr : rN A x) : rN B x := by unfold rN at *; rw [← h]; exact hr
theorem c_change {truth : Nat → Int32} {i v0 s0 c0 st c : Nat} (hi : i < 35) (ht : truth i = nI (zpk v0 s0 c0)) (hv : v0 + 1 ≤ V) (hV : V < 2 ^ 20) (hs0 : s0 ≤ 1) (hc0 : c0 ≤ 40) (hs : st ≤ 1) (hc : c ≤ 40) : fX3_change (nI i) (nI st) (nI c) truth = some (nI (v0 + 1), upd truth i (nI (zpk (v0 + 1) st c))) := by
  unfold fX3_change
  rw [gd_in hi, nI_cl (by omega), ht, c_version (V := V) (by omega) hV hs0 hc0]
  simp only [Option.bind_some]
  rw [nm_eq, zl1, nI_add, c_make hv hV hs hc]
  simp only [Option.bind_some]
  rw [gd_in hi]
theorem c_makeAllNews (hI : aInv V T) (hV : V < 2 ^ 20) {facts : Nat → Int32} {news : Nat → Int64} (hF : rF T facts) (hN : rN T news) {n : Nat} (hn : n < 10) : ∃ news', fX3_makeAllNews (nI n) facts news = some news' ∧ rN (aAwake T n) news' := by
  unfold fX3_makeAllNews
  have hs : ∀ k s, k < 35 → rN (aAwB T n k) s → ∃ s', (fun b : Int32 × (Nat → Int64) => sX3_makeAllNews_2 (nI n) facts b.1 b.2) (nI k, s) = some (.inl (nI (k + 1), s')) ∧ rN (aAwB T n (k + 1)) s' := by
    intro k s hk hp
    have hd := hI.db hn hk
    dsimp only [sX3_makeAllNews_2]
    have e33 : ∀ s, uX3_makeAllNews_33 (nI k) s = some (.inl (nI (k + 1), s)) := fun s => by unfold uX3_makeAllNews_33; rw [nm_eq, zl1, nI_add]
    rw [zl35, ite_leN (by omega) (by omega), if_neg (by omega), c_place]
    simp only [Option.bind_some]
    rw [gd_in (by omega), nI_cl (by omega), hF n k hn hk, zl0]
    have z := zpk_0 hd.1 hV hd.2.1 hd.2.2.1 (fun z => ⟨(hd.2.2.2.2 z).1, (hd.2.2.2.2 z).2.1⟩)
    by_cases h : T.2 n k 0 = 0
    · rw [if_pos (z.mpr h), e33]
      refine ⟨s, rfl, fun n' j hn' hj => ?_⟩
      rw [hp n' j hn' hj]
      congr 1
      have : (aAwB T n k).2 n' j 3 = (aAwB T n (k + 1)).2 n' j 3 := by
        show (if n' = n ∧ j < k ∧ 3 = 3 then (if 0 < T.2 n j 0 then 1 else 0) else T.2 n' j 3) = (if n' = n ∧ j < k + 1 ∧ 3 = 3 then (if 0 < T.2 n j 0 then 1 else 0) else T.2 n' j 3)
        by_cases h2 : n' = n ∧ j = k
        · obtain ⟨rfl, rfl⟩ := h2
          have h3 : ¬ (n' = n' ∧ j < j ∧ 3 = 3) := by omega
          have h4 : n' = n' ∧ j < j + 1 ∧ 3 = 3 := by omega
          have h5 : ¬ 0 < T.2 n' j 0 := by omega
          rw [if_neg h3, if_pos h4, if_neg h5]
          exact (hd.2.2.2.2 h).2.2
        · by_cases h3 : n' = n ∧ j < k ∧ 3 = 3
          · have h4 : n' = n ∧ j < k + 1 ∧ 3 = 3 := by omega
            rw [if_pos h3, if_pos h4]
          · have h4 : ¬ (n' = n ∧ j < k + 1 ∧ 3 = 3) := by omega
            rw [if_neg h3, if_neg h4]
      rw [this]
    · rw [if_neg (fun q => h (z.mp q)), gd_in (by omega), gd_in (by omega), nI_cl (by omega), e33]
      refine ⟨_, rfl, fun n' j hn' hj => ?_⟩
      unfold vp_updL
      by_cases h1 : n' = n
      · subst h1
        rw [if_pos rfl, b_or (by omega) hj, hp n' j hn' hj]
        have e1 : (aAwB T n' k).2 n' j 3 = if j < k then (if 0 < T.2 n' j 0 then 1 else 0) else T.2 n' j 3 := by
          show (if n' = n' ∧ j < k ∧ 3 = 3 then (if 0 < T.2 n' j 0 then 1 else 0) else T.2 n' j 3) = _
          by_cases h2 : j < k
          · have h3 : n' = n' ∧ j < k ∧ 3 = 3 := ⟨rfl, h2, rfl⟩
            rw [if_pos h3, if_pos h2]
          · have h3 : ¬ (n' = n' ∧ j < k ∧ 3 = 3) := fun q => h2 q.2.1
            rw [if_neg h3, if_neg h2]
        have e2 : (aAwB T n' (k + 1)).2 n' j 3 = if j < k + 1 then (if 0 < T.2 n' j 0 then 1 else 0) else T.2 n' j 3 := by
          show (if n' = n' ∧ j < k + 1 ∧ 3 = 3 then (if 0 < T.2 n' j 0 then 1 else 0) else T.2 n' j 3) = _
          by_cases h2 : j < k + 1
          · have h3 : n' = n' ∧ j < k + 1 ∧ 3 = 3 := ⟨rfl, h2, rfl⟩
            rw [if_pos h3, if_pos h2]
          · have h3 : ¬ (n' = n' ∧ j < k + 1 ∧ 3 = 3) := fun q => h2 q.2.1
            rw [if_neg h3, if_neg h2]
        rw [e1, e2]
        by_cases h2 : j = k
        · subst h2
          have h5 : 0 < T.2 n' j 0 := by omega
          simp [h5, hk]
        · by_cases h3 : j < k
          · have h4 : j < k + 1 := by omega
            simp [h2, h3, h4]
          · have h4 : ¬ j < k + 1 := by omega
            simp [h2, h3, h4]
      · rw [if_neg h1, hp n' j hn' hj]
        have e1 : ∀ B, (aAwB T n B).2 n' j 3 = T.2 n' j 3 := fun B => if_neg (fun q => h1 q.1)
        rw [e1, e1]
  have he : ∀ s, rN (aAwB T n 35) s → (fun b : Int32 × (Nat → Int64) => sX3_makeAllNews_2 (nI n) facts b.1 b.2) (nI 35, s) = oi (some s) := by
    intro s hp
    dsimp only [sX3_makeAllNews_2]
    rw [zl35, ite_leN (by omega) (by omega), if_pos (by omega)]
  have h0 : rN (aAwB T n 0) news := by
    intro n' j hn' hj
    have e : (aAwB T n 0).2 n' j 3 = T.2 n' j 3 := if_neg (by omega)
    rw [hN n' j hn' hj, e]
  obtain ⟨news', h1, h2⟩ := wh_inv (fun b : Int32 × (Nat → Int64) => sX3_makeAllNews_2 (nI n) facts b.1 b.2) 35 (fun k s => rN (aAwB T n k) s) (fun s => some s) hs he 0 news (by omega) h0
  exact ⟨news', h2, h1⟩
/-- the link's change in the class: T is the state whose header is new already -/
theorem c_changeLink (hI : aInv V T) (hV : V < 2 ^ 20) {areas firsts seconds privates truth facts : Nat → Int32} {news : Nat → Int64} (hA : rA T areas) (hL : rL T firsts seconds privates) (hF : rF T facts) (hN : rN T news) {k v0 s0 c0 : Nat} (hk : k < aNL T) (ht : truth (16 + k) = nI (zpk v0 s0 c0)) (hv : aL T k 5 = v0 + 1) (hs0 : s0 ≤ 1) (hc0 : c0 ≤ 40) :
    ∃ q, fX3_changeLink (nI k) (nI (aL T k 3)) (nI (aL T k 2)) (nI (aNL T)) areas firsts seconds privates truth facts news = some q ∧ q.1 = nI (aL T k 5) ∧ q.2.1 = upd truth (16 + k) (nI (zpk (aL T k 5) (aL T k 3) (aL T k 2))) ∧ rF (aChL T k (if aL T k 3 = 1 ∧ s0 = 0 then 1 else 0)) q.2.2.1 ∧ rN (aChL T k (if aL T k 3 = 1 ∧ s0 = 0 then 1 else 0)) q.2.2.2 := by
  have h16 : aNL T ≤ 16 := hI.1.2.1
  have h10 : aNN T ≤ 10 := hI.1.1
  have h := hI.2.2.1 k hk
  obtain ⟨a1, a2⟩ := aChL_tell hI hk
  have en0 : aNN (aTell T (aL T k 0) k) = aNN T := by unfold aNN; rw [aTell_1]
  have el0 : aNL (aTell T (aL T k 0) k) = aNL T := by unfold aNL; rw [aTell_1]
  have key : ∀ b, b ≤ 1 → ∃ q, uX3_changeLink_29 (nI k) (nI (aL T k 3)) (nI (aL T k 2)) (nI (16 + k)) (nI b) (nI (aNL T)) areas firsts seconds privates truth facts news = some q ∧ q.1 = nI (aL T k 5) ∧ q.2.1 = upd truth (16 + k) (nI (zpk (aL T k 5) (aL T k 3) (aL T k 2))) ∧ rF (aChL T k b) q.2.2.1 ∧ rN (aChL T k b) q.2.2.2 := by
    intro b hb
    unfold uX3_changeLink_29
    rw [c_change (V := V) (by omega) ht (by omega) hV hs0 hc0 h.2.2.2.2.2.1 (by omega), ← hv]
    simp only [Option.bind_some]
    have eu : upd truth (16 + k) (nI (zpk (aL T k 5) (aL T k 3) (aL T k 2))) (16 + k) = nI (zpk (aL T k 5) (aL T k 3) (aL T k 2)) := if_pos rfl
    rw [gd_in (by omega), gd_in (by omega), nI_cl (by omega), nI_cl (by omega), (hL k hk).1, (hL k hk).2.1, eu]
    obtain ⟨q1, f1, f2, f3⟩ := c_learn hI hV hA hL hF hN (n := aL T k 0) (i := 16 + k) (v := aL T k 5) (st := aL T k 3) (c := aL T k 2) h.1 (by omega) (by omega) h.2.2.2.2.2.2.2.2 h.2.2.2.2.2.1 (by omega)
    rw [f1]
    simp only [Option.bind_some]
    rw [gd_in (by omega), gd_in (by omega)]
    obtain ⟨q2, g1, g2, g3⟩ := c_learn a1 hV (rA_of aTell_1.symm hA) (rL_of aTell_1.symm hL) f2 f3 (n := aL T k 1) (i := 16 + k) (v := aL T k 5) (st := aL T k 3) (c := aL T k 2) (by rw [en0]; exact h.2.1) (by omega) (by rw [el0]; omega) h.2.2.2.2.2.2.2.2 h.2.2.2.2.2.1 (by omega)
    rw [el0] at g1
    rw [g1]
    simp only [Option.bind_some]
    have eT : aLearn (aTell T (aL T k 0) k) (aL T k 1) (16 + k) (aL T k 5) (aL T k 3) (aL T k 2) = aTell (aTell T (aL T k 0) k) (aL T k 1) k := by
      unfold aTell
      rw [aL_of (A := aLearn T (aL T k 0) (16 + k) (aL T k 5) (aL T k 3) (aL T k 2)) (B := T) aLearn_1, aL_of (A := aLearn T (aL T k 0) (16 + k) (aL T k 5) (aL T k 3) (aL T k 2)) (B := T) aLearn_1, aL_of (A := aLearn T (aL T k 0) (16 + k) (aL T k 5) (aL T k 3) (aL T k 2)) (B := T) aLearn_1]
    have g2 : rF (aTell (aTell T (aL T k 0) k) (aL T k 1) k) q2.1 := eT ▸ g2
    have g3 : rN (aTell (aTell T (aL T k 0) k) (aL T k 1) k) q2.2 := eT ▸ g3
    rw [zl0, ite_eqN (by omega) (by omega)]
    unfold aChL
    by_cases hb0 : b = 0
    · rw [if_pos hb0, if_pos hb0]
      exact ⟨_, rfl, rfl, rfl, g2, g3⟩
    · have en2 : aNN (aTell (aTell T (aL T k 0) k) (aL T k 1) k) = aNN T := by unfold aNN; rw [aTell_1, aTell_1]
      have a3 := aAwB_inv a2 (n := aL T k 0) (by rw [en2]; exact h.1)
      obtain ⟨n1, m1, m2⟩ := c_makeAllNews a2 hV g2 g3 (n := aL T k 0) (by omega)
      have hF3 : rF (aAwake (aTell (aTell T (aL T k 0) k) (aL T k 1) k) (aL T k 0)) q2.1 := by
        intro n' i' hn' hi'
        have e : ∀ p, p < 3 → (aAwake (aTell (aTell T (aL T k 0) k) (aL T k 1) k) (aL T k 0)).2 n' i' p = (aTell (aTell T (aL T k 0) k) (aL T k 1) k).2 n' i' p := fun p hp => if_neg (by omega)
        rw [e 0 (by omega), e 1 (by omega), e 2 (by omega)]
        exact g2 n' i' hn' hi'
      obtain ⟨n2, m3, m4⟩ := c_makeAllNews a3 hV hF3 m2 (n := aL T k 1) (by omega)
      rw [if_neg hb0, if_neg hb0, gd_in (by omega), m1]
      simp only [Option.bind_some]
      rw [gd_in (by omega), m3]
      simp only [Option.bind_some]
      refine ⟨_, rfl, rfl, rfl, ?_, ?_⟩
      · intro n' i' hn' hi'
        have e : ∀ p, p < 3 → (aAwake (aAwake (aTell (aTell T (aL T k 0) k) (aL T k 1) k) (aL T k 0)) (aL T k 1)).2 n' i' p = (aAwake (aTell (aTell T (aL T k 0) k) (aL T k 1) k) (aL T k 0)).2 n' i' p := fun p hp => if_neg (by omega)
        rw [e 0 (by omega), e 1 (by omega), e 2 (by omega)]
        exact hF3 n' i' hn' hi'
      · exact m4
  unfold fX3_changeLink
  rw [nm_eq, zl16, nI_add, zl1, ite_eqN (by omega) (by omega)]
  by_cases hu : aL T k 3 = 1
  · rw [if_pos hu, gd_in (by omega), nI_cl (by omega), ht, c_state (V := V) (by omega) hV hs0 hc0]
    simp only [Option.bind_some]
    rw [zl0, ite_eqN (by omega) (by omega)]
    by_cases hs : s0 = 0
    · have hb : aL T k 3 = 1 ∧ s0 = 0 := ⟨hu, hs⟩
      rw [if_pos hs, if_pos hb]
      exact key 1 (by omega)
    · have hb : ¬ (aL T k 3 = 1 ∧ s0 = 0) := fun q => hs q.2
      rw [if_neg hs, if_neg hb]
      exact key 0 (by omega)
  · have hb : ¬ (aL T k 3 = 1 ∧ s0 = 0) := fun q => hu q.1
    rw [if_neg hu, if_neg hb]
    exact key 0 (by omega)
end P28
