section P25
variable {T : zA} {V : Nat}
theorem aLn_out {n i v st c B j p : Nat} (h1 : j ≠ i) (h2 : 16 + B ≤ j ∨ j < 16) : (aLn T n i v st c B).2 n j p = T.2 n j p := by
  unfold aLn
  dsimp only
  rw [if_pos rfl, if_neg h1, if_neg (by omega)]
theorem aLn_oth {n i v st c B n' j p : Nat} (h : n' ≠ n) : (aLn T n i v st c B).2 n' j p = T.2 n' j p := by
  unfold aLn
  dsimp only
  rw [if_neg h]
theorem aLn_self {n i v st c B p : Nat} : (aLn T n i v st c B).2 n i p = if p = 0 then v else if p = 1 then st else if p = 2 then c else if p = 3 then 1 else T.2 n i p := by
  unfold aLn
  dsimp only
  rw [if_pos rfl, if_pos rfl]
theorem aLn_p3 {n i v st c B n' j p : Nat} (hs : st = 1) (hp : p ≠ 3) : (aLn T n i v st c B).2 n' j p = (aLn T n i v st c 0).2 n' j p := by
  unfold aLn
  dsimp only
  by_cases h1 : n' = n
  · rw [if_pos h1, if_pos h1]
    by_cases h2 : j = i
    · rw [if_pos h2, if_pos h2]
    · rw [if_neg h2, if_neg h2, if_neg (by omega : ¬ (i < 16 ∧ 16 ≤ j ∧ j < 16 + 0 ∧ aCd T n i j))]
      by_cases h3 : i < 16 ∧ 16 ≤ j ∧ j < 16 + B ∧ aCd T n i j
      · rw [if_pos h3, if_pos hs, if_neg hp]
      · rw [if_neg h3]
  · rw [if_neg h1, if_neg h1]
theorem aLn_none {n i v st c : Nat} (hs : ¬ st = 1) (ha : ¬ i % 4 = aAr T n) : ∀ B, aLn T n i v st c B = aLn T n i v st c 0 := by
  intro B
  refine zA_ext rfl (fun n' i' p' => ?_)
  show (aLn T n i v st c B).2 n' i' p' = (aLn T n i v st c 0).2 n' i' p'
  unfold aLn
  dsimp only
  by_cases h1 : n' = n
  · rw [if_pos h1, if_pos h1]
    by_cases h2 : i' = i
    · rw [if_pos h2, if_pos h2]
    · rw [if_neg h2, if_neg h2, if_neg (by omega : ¬ (i < 16 ∧ 16 ≤ i' ∧ i' < 16 + 0 ∧ aCd T n i i'))]
      by_cases h3 : i < 16 ∧ 16 ≤ i' ∧ i' < 16 + B ∧ aCd T n i i'
      · rw [if_pos h3, if_neg hs, if_neg (fun q => ha q.1)]
      · rw [if_neg h3]
  · rw [if_neg h1, if_neg h1]
theorem zpk_0 {v s c V : Nat} (hv : v ≤ V) (hV : V < 2 ^ 20) (hs : s ≤ 1) (hc : c ≤ 40) (hz : v = 0 → s = 0 ∧ c = 0) : nI (zpk v s c) = nI 0 ↔ v = 0 := by
  rw [nI_eq (zpk_lt hv hV hs hc) (by omega)]
  unfold zpk
  constructor
  · intro h; omega
  · intro h
    obtain ⟨a, b⟩ := hz h
    omega
/-- the fact and its news, of the item itself -/
theorem r_first {facts : Nat → Int32} {news : Nat → Int64} (hF : rF T facts) (hN : rN T news) {n i v st c : Nat} (hn : n < 10) (hi : i < 35) : rF (aLn T n i v st c 0) (upd facts (n * 35 + i) (nI (zpk v st c))) ∧ rN (aLn T n i v st c 0) (vp_updL news n (news n ||| ((1 : Int64) <<< ((nI i).toInt64 &&& 63)))) := by
  refine ⟨fun n' i' hn' hi' => ?_, fun n' j hn' hj => ?_⟩
  · unfold upd
    by_cases h : n' = n ∧ i' = i
    · obtain ⟨rfl, rfl⟩ := h
      rw [if_pos rfl, aLn_self, aLn_self, aLn_self]
      rfl
    · rw [if_neg (by omega), hF n' i' hn' hi']
      by_cases h1 : n' = n
      · subst h1
        have h2 : i' ≠ i := fun e => h ⟨rfl, e⟩
        rw [aLn_out h2 (by omega), aLn_out h2 (by omega), aLn_out h2 (by omega)]
      · rw [aLn_oth h1, aLn_oth h1, aLn_oth h1]
  · unfold vp_updL
    by_cases h1 : n' = n
    · subst h1
      rw [if_pos rfl, b_or (by omega) hj, hN n' j hn' hj]
      by_cases h2 : j = i
      · subst h2
        rw [aLn_self]
        simp [hi]
      · rw [aLn_out h2 (by omega)]
        simp [h2]
    · rw [if_neg h1, hN n' j hn' hj, aLn_oth h1]
theorem c_privNews (hI : aInv V T) (hV : V < 2 ^ 20) {areas firsts seconds privates facts : Nat → Int32} {news : Nat → Int64} (hA : rA T areas) (hL : rL T firsts seconds privates) {n i v c : Nat} (hn : n < aNN T) (hi : i < 16) (hF : rF (aLn T n i v 1 c 0) facts) (hN : rN (aLn T n i v 1 c 0) news) : ∃ news', fX3_makePrivateLinksNews (nI n) (nI (i / 4)) (nI (aNL T)) areas firsts privates facts news = some news' ∧ rN (aLn T n i v 1 c (aNL T)) news' := by
  have h10 : aNN T ≤ 10 := hI.1.1
  have h16 : aNL T ≤ 16 := hI.1.2.1
  unfold fX3_makePrivateLinksNews
  have hs : ∀ k s, k < aNL T → rN (aLn T n i v 1 c k) s → ∃ s', (fun b : Int32 × (Nat → Int64) => sX3_makePrivateLinksNews_2 (nI n) (nI (i / 4)) (nI (aNL T)) areas firsts privates facts b.1 b.2) (nI k, s) = some (.inl (nI (k + 1), s')) ∧ rN (aLn T n i v 1 c (k + 1)) s' := by
    intro k s hk hp
    dsimp only [sX3_makePrivateLinksNews_2]
    have e52 : ∀ s, uX3_makePrivateLinksNews_52 (nI k) s = some (.inl (nI (k + 1), s)) := fun s => by unfold uX3_makePrivateLinksNews_52; rw [nm_eq, zl1, nI_add]
    have hd := hI.db (n := n) (i := 16 + k) (by omega) (by omega)
    have eCd : aCd T n i (16 + k) ↔ (aL T k 4 = 1 ∧ aOw T k = i / 4 ∧ 0 < T.2 n (16 + k) 0) := by
      have ek : 16 + k - 16 = k := by omega
      unfold aCd
      rw [ek]
    rw [ite_leN (by omega) (by omega), if_neg (by omega), nm_eq, zl16, nI_add, c_isPrivateOf hI hA hL hk (by omega)]
    simp only [Option.bind_some]
    rw [ite_bI]
    by_cases h1 : aL T k 4 = 1 ∧ aOw T k = i / 4
    · rw [if_pos h1, c_place]
      simp only [Option.bind_some]
      rw [gd_in (by omega), nI_cl (by omega), hF n (16 + k) (by omega) (by omega), aLn_out (by omega) (by omega), aLn_out (by omega) (by omega), aLn_out (by omega) (by omega), zl0]
      by_cases h3 : T.2 n (16 + k) 0 = 0
      · rw [if_pos ((zpk_0 hd.1 hV hd.2.1 hd.2.2.1 (fun z => ⟨(hd.2.2.2.2 z).1, (hd.2.2.2.2 z).2.1⟩)).mpr h3), e52]
        refine ⟨s, rfl, ?_⟩
        rw [aLn_same (fun q => by have := (eCd.mp q).2.2; omega)]
        exact hp
      · have hc : aCd T n i (16 + k) := eCd.mpr ⟨h1.1, h1.2, by omega⟩
        rw [if_neg (fun q => h3 ((zpk_0 hd.1 hV hd.2.1 hd.2.2.1 (fun z => ⟨(hd.2.2.2.2 z).1, (hd.2.2.2.2 z).2.1⟩)).mp q)), gd_in (by omega), gd_in (by omega), nI_cl (by omega), e52]
        refine ⟨_, rfl, ?_⟩
        rw [← aLn_news hi hc rfl]
        intro n' j hn' hj
        unfold vp_updL
        by_cases h4 : n' = n
        · subst h4
          rw [if_pos rfl, b_or (by omega) hj, hp n' j hn' hj]
          show _ = decide (j < 35 ∧ ud _ n' (16 + k) 3 1 n' j 3 = 1)
          unfold ud
          by_cases h5 : j = 16 + k
          · subst h5
            simp
            omega
          · simp [h5]
        · rw [if_neg h4, hp n' j hn' hj]
          show _ = decide (j < 35 ∧ ud _ n (16 + k) 3 1 n' j 3 = 1)
          unfold ud
          simp [h4]
    · rw [if_neg h1, e52]
      refine ⟨s, rfl, ?_⟩
      rw [aLn_same (fun q => h1 ⟨(eCd.mp q).1, (eCd.mp q).2.1⟩)]
      exact hp
  have he : ∀ s, rN (aLn T n i v 1 c (aNL T)) s → (fun b : Int32 × (Nat → Int64) => sX3_makePrivateLinksNews_2 (nI n) (nI (i / 4)) (nI (aNL T)) areas firsts privates facts b.1 b.2) (nI (aNL T), s) = oi (some s) := by
    intro s hp
    dsimp only [sX3_makePrivateLinksNews_2]
    rw [ite_leN (by omega) (by omega), if_pos (by omega)]
  obtain ⟨news', h1, h2⟩ := wh_inv (fun b : Int32 × (Nat → Int64) => sX3_makePrivateLinksNews_2 (nI n) (nI (i / 4)) (nI (aNL T)) areas firsts privates facts b.1 b.2) (aNL T) (fun k s => rN (aLn T n i v 1 c k) s) (fun s => some s) hs he 0 news (by omega) hN
  exact ⟨news', h2, h1⟩
theorem c_forget (hI : aInv V T) (hV : V < 2 ^ 20) {areas firsts seconds privates facts : Nat → Int32} {news : Nat → Int64} (hA : rA T areas) (hL : rL T firsts seconds privates) {n i v c : Nat} (hn : n < aNN T) (hi : i < 16) (ha : i % 4 = aAr T n) (hF : rF (aLn T n i v 0 c 0) facts) (hN : rN (aLn T n i v 0 c 0) news) : ∃ q, fX3_forgetPrivateLinks (nI n) (nI (i / 4)) (nI (aNL T)) areas firsts seconds privates facts news = some q ∧ rF (aLn T n i v 0 c (aNL T)) q.1 ∧ rN (aLn T n i v 0 c (aNL T)) q.2 := by
  have h10 : aNN T ≤ 10 := hI.1.1
  have h16 : aNL T ≤ 16 := hI.1.2.1
  unfold fX3_forgetPrivateLinks
  have hs : ∀ k s, k < aNL T → (rF (aLn T n i v 0 c k) s.1 ∧ rN (aLn T n i v 0 c k) s.2) → ∃ s', (fun b : Int32 × (Nat → Int32) × (Nat → Int64) => sX3_forgetPrivateLinks_2 (nI n) (nI (i / 4)) (nI (aNL T)) areas firsts seconds privates b.1 b.2.1 b.2.2) (nI k, s) = some (.inl (nI (k + 1), s')) ∧ (rF (aLn T n i v 0 c (k + 1)) s'.1 ∧ rN (aLn T n i v 0 c (k + 1)) s'.2) := by
    intro k s hk hp
    dsimp only [sX3_forgetPrivateLinks_2]
    have e63 : ∀ s t, uX3_forgetPrivateLinks_63 (nI k) s t = some (.inl (nI (k + 1), s, t)) := fun s t => by unfold uX3_forgetPrivateLinks_63; rw [nm_eq, zl1, nI_add]
    have hd := hI.db (n := n) (i := 16 + k) (by omega) (by omega)
    have eCd : aCd T n i (16 + k) ↔ (aL T k 4 = 1 ∧ aOw T k = i / 4 ∧ 0 < T.2 n (16 + k) 0) := by
      have ek : 16 + k - 16 = k := by omega
      unfold aCd
      rw [ek]
    rw [ite_leN (by omega) (by omega), if_neg (by omega), nm_eq, zl16, nI_add, c_isPrivateOf hI hA hL hk (by omega)]
    simp only [Option.bind_some]
    rw [ite_bI]
    by_cases h1 : aL T k 4 = 1 ∧ aOw T k = i / 4
    · rw [if_pos h1, c_isEnd hI hL (by omega) hk]
      simp only [Option.bind_some]
      rw [ite_bI]
      by_cases he : aEnd T n k
      · rw [if_pos he, e63]
        refine ⟨s, rfl, ?_⟩
        rw [← aLn_keep hi (by omega) (fun q => q.2 he)]
        exact hp
      · rw [if_neg he, c_place]
        simp only [Option.bind_some]
        rw [gd_in (by omega), gd_in (by omega), gd_in (by omega), nI_cl (by omega), nI_cl (by omega), e63]
        refine ⟨_, rfl, ?_⟩
        have key : aLn T n i v 0 c (k + 1) = (T.1, ud (ud (ud (ud (aLn T n i v 0 c k).2 n (16 + k) 0 0) n (16 + k) 1 0) n (16 + k) 2 0) n (16 + k) 3 0) := by
          by_cases h3 : 0 < T.2 n (16 + k) 0
          · exact (aLn_zero hi (eCd.mpr ⟨h1.1, h1.2, h3⟩) (by omega) ha he).symm
          · rw [aLn_same (fun q => h3 (eCd.mp q).2.2)]
            have z0 : T.2 n (16 + k) 0 = 0 := by omega
            obtain ⟨z1, z2, z3⟩ := hd.2.2.2.2 z0
            refine zA_ext rfl (fun n' i' p' => ?_)
            show (aLn T n i v 0 c k).2 n' i' p' = ud (ud (ud (ud (aLn T n i v 0 c k).2 n (16 + k) 0 0) n (16 + k) 1 0) n (16 + k) 2 0) n (16 + k) 3 0 n' i' p'
            unfold ud
            by_cases h4 : n' = n ∧ i' = 16 + k
            · obtain ⟨rfl, rfl⟩ := h4
              by_cases h5 : p' < 4
              · rw [aLn_at hi]
                rcases (show p' = 0 ∨ p' = 1 ∨ p' = 2 ∨ p' = 3 by omega) with rfl | rfl | rfl | rfl <;> simp [z0, z1, z2, z3]
              · rw [if_neg (by omega), if_neg (by omega), if_neg (by omega), if_neg (by omega)]
            · have : ∀ q, ¬ (n' = n ∧ i' = 16 + k ∧ p' = q) := fun q z => h4 ⟨z.1, z.2.1⟩
              simp only [this, if_false]
        rw [key]
        refine ⟨fun n' i' hn' hi' => ?_, fun n' j hn' hj => ?_⟩
        · show upd s.1 (n * 35 + (16 + k)) 0 (n' * 35 + i') = nI (zpk (ud (ud (ud (ud _ n (16 + k) 0 0) n (16 + k) 1 0) n (16 + k) 2 0) n (16 + k) 3 0 n' i' 0) (ud (ud (ud (ud _ n (16 + k) 0 0) n (16 + k) 1 0) n (16 + k) 2 0) n (16 + k) 3 0 n' i' 1) (ud (ud (ud (ud _ n (16 + k) 0 0) n (16 + k) 1 0) n (16 + k) 2 0) n (16 + k) 3 0 n' i' 2))
          unfold upd
          by_cases h4 : n' = n ∧ i' = 16 + k
          · obtain ⟨rfl, rfl⟩ := h4
            rw [if_pos rfl]
            simp [ud]
            rfl
          · rw [if_neg (by omega), hp.1 n' i' hn' hi']
            have : ∀ q r : Nat, ¬ (n' = n ∧ i' = 16 + k ∧ q = r) := fun q r z => h4 ⟨z.1, z.2.1⟩
            simp only [ud, this, if_false, and_true, h4]
        · show bt (vp_updL s.2 n _ n') j = decide (j < 35 ∧ ud (ud (ud (ud _ n (16 + k) 0 0) n (16 + k) 1 0) n (16 + k) 2 0) n (16 + k) 3 0 n' j 3 = 1)
          unfold vp_updL
          by_cases h4 : n' = n
          · subst h4
            rw [if_pos rfl, b_clr (by omega) hj, hp.2 n' j hn' hj]
            by_cases h5 : j = 16 + k
            · subst h5
              simp [ud]
            · simp [ud, h5]
          · rw [if_neg h4, hp.2 n' j hn' hj]
            simp [ud, h4]
    · rw [if_neg h1, e63]
      refine ⟨s, rfl, ?_⟩
      rw [aLn_same (fun q => h1 ⟨(eCd.mp q).1, (eCd.mp q).2.1⟩)]
      exact hp
  have he : ∀ s, (rF (aLn T n i v 0 c (aNL T)) s.1 ∧ rN (aLn T n i v 0 c (aNL T)) s.2) → (fun b : Int32 × (Nat → Int32) × (Nat → Int64) => sX3_forgetPrivateLinks_2 (nI n) (nI (i / 4)) (nI (aNL T)) areas firsts seconds privates b.1 b.2.1 b.2.2) (nI (aNL T), s) = oi (some s) := by
    intro s hp
    dsimp only [sX3_forgetPrivateLinks_2]
    rw [ite_leN (by omega) (by omega), if_pos (by omega)]
  obtain ⟨q, h1, h2⟩ := wh_inv (fun b : Int32 × (Nat → Int32) × (Nat → Int64) => sX3_forgetPrivateLinks_2 (nI n) (nI (i / 4)) (nI (aNL T)) areas firsts seconds privates b.1 b.2.1 b.2.2) (aNL T) (fun k s => rF (aLn T n i v 0 c k) s.1 ∧ rN (aLn T n i v 0 c k) s.2) (fun s => some s) hs he 0 (facts, news) (by omega) ⟨hF, hN⟩
  exact ⟨q, h2, h1⟩
theorem c_learn (hI : aInv V T) (hV : V < 2 ^ 20) {areas firsts seconds privates facts : Nat → Int32} {news : Nat → Int64} (hA : rA T areas) (hL : rL T firsts seconds privates) (hF : rF T facts) (hN : rN T news) {n i v st c : Nat} (hn : n < aNN T) (hi : i < 35) (hx : i < 16 ∨ i < 16 + aNL T ∨ 32 ≤ i) (hv : v ≤ V) (hst : st ≤ 1) (hc : c ≤ 40) : ∃ q, fX3_learn (nI n) (nI i) (nI (zpk v st c)) (nI (aNL T)) areas firsts seconds privates facts news = some q ∧ rF (aLearn T n i v st c) q.1 ∧ rN (aLearn T n i v st c) q.2 := by
  have h10 : aNN T ≤ 10 := hI.1.1
  have hd := hI.db (n := n) (i := i) (by omega) hi
  unfold fX3_learn
  rw [c_place]
  simp only [Option.bind_some]
  rw [c_mayKnow hI hV hA hL hF hn hi hx]
  simp only [Option.bind_some]
  rw [ite_bI]
  by_cases h1 : aMk T n i
  · rw [if_pos h1, gd_in (by omega), nI_cl (by omega), hF n i (by omega) hi, c_version hd.1 hV hd.2.1 hd.2.2.1, c_version hv hV hst hc]
    simp only [Option.bind_some]
    rw [ite_ltN (by omega) (by omega)]
    by_cases h2 : T.2 n i 0 < v
    · have e : aLearn T n i v st c = aLn T n i v st c (aNL T) := if_pos ⟨h1, h2⟩
      rw [e, if_pos h2, gd_in (by omega), gd_in (by omega), gd_in (by omega), nI_cl (by omega)]
      obtain ⟨r1, r2⟩ := r_first (v := v) (st := st) (c := c) hF hN (n := n) (i := i) (by omega) hi
      rw [zl16, ite_leN (by omega) (by omega)]
      by_cases h3 : 16 ≤ i
      · rw [if_pos h3, aLn_ge h3]
        refine ⟨_, rfl, ?_, ?_⟩
        · exact r1
        · exact r2
      · rw [if_neg h3, c_state hv hV hst hc]
        simp only [Option.bind_some]
        rw [zl1, ite_eqN (by omega) (by omega)]
        by_cases h4 : st = 1
        · subst h4
          rw [if_pos rfl, c_grantOwner (by omega)]
          simp only [Option.bind_some]
          obtain ⟨news', g1, g2⟩ := c_privNews hI hV hA hL hn (by omega) r1 r2
          rw [g1]
          refine ⟨_, rfl, ?_, ?_⟩
          · intro n' i' hn' hi'
            rw [aLn_p3 (p := 0) rfl (by omega), aLn_p3 (p := 1) rfl (by omega), aLn_p3 (p := 2) rfl (by omega)]
            exact r1 n' i' hn' hi'
          · exact g2
        · have ha : aAr T n < 4 := hI.ar (n := n) (by omega)
          rw [if_neg h4, c_grantArea (by omega)]
          simp only [Option.bind_some]
          rw [gd_in (by omega), hA n hn, ite_eqN (by omega) (by omega)]
          by_cases h5 : i % 4 = aAr T n
          · have h0 : st = 0 := by omega
            subst h0
            rw [if_pos h5, c_grantOwner (by omega)]
            simp only [Option.bind_some]
            obtain ⟨q, g1, g2, g3⟩ := c_forget hI hV hA hL hn (by omega) h5 r1 r2
            rw [g1]
            exact ⟨(q.1, q.2), rfl, g2, g3⟩
          · rw [if_neg h5, aLn_none h4 h5]
            refine ⟨_, rfl, ?_, ?_⟩
            · exact r1
            · exact r2
    · have e : aLearn T n i v st c = T := if_neg (fun q => h2 q.2)
      rw [e, if_neg h2]
      exact ⟨_, rfl, hF, hN⟩
  · have e : aLearn T n i v st c = T := if_neg (fun q => h1 q.1)
    rw [e, if_neg h1]
    exact ⟨_, rfl, hF, hN⟩
end P25
