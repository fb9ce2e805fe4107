/-! The calls that look. -/
section P39y
variable {V : Nat} {X : zX} {M : zM} {T : zA}
theorem z_look (h : zRel V X M) {f : Option Int32} {g : Option (Int32 × Int32)} (hf : ∃ a t, f = some a ∧ g = some (a, t)) : zOp V (f.bind (fun y => some (y, X))) (g.bind (fun y => some (y.1, (y.2, M.2)))) := by
  obtain ⟨T, S, sz, tl, ⟨n1, n2, n3⟩, ⟨s1, s2, s3⟩, ⟨t1, t2, t3, t4⟩, ⟨w1, w2⟩⟩ := h
  have hb := n1.1
  obtain ⟨a, t, h1, h2⟩ := hf
  rw [h1, h2]
  exact ⟨_, _, rfl, rfl, rfl, T, S, sz, tl, ⟨n1, n2, n3⟩, ⟨s1, s2, s3⟩, ⟨t1, t2, t3, t4⟩, w1, w2⟩
theorem s_if {c : Nat → Prop} [DecidablePred c] {k : Nat} : sm (fun i => if c i then 1 else 0) (k + 1) = sm (fun i => if c i then 1 else 0) k + (if c k then 1 else 0) := rfl
/-- a loop that counts -/
theorem wh_count {ρ : Type} (step : Int32 → Int32 → Option ((Int32 × Int32) ⊕ ρ)) (b N : Nat) (d : Nat → Nat) (K : Int32 → Option ρ)
    (hs : ∀ i v, i < N → step (nI v) (nI (b + i)) = some (.inl (nI (v + d i), nI (b + i + 1)))) (he : ∀ v, step (nI v) (nI (b + N)) = oi (K (nI v))) : wh (fun q : Int32 × Int32 => step q.1 q.2) (nI 0, nI b) = K (nI (sm d N)) := by
  refine wh_seq (fun q : Int32 × Int32 => step q.1 q.2) N (fun i => (nI (sm d i), nI (b + i))) _ (fun i hi => ?_) ?_
  · exact hs i _ hi
  · exact he _
theorem e_grants : lX7_count_75 0 (zI T) 0 0 = some (nI (sm (fun i => aGr T i) 16), 0) := by
  refine wh_count (sX7_count_75 0 (zI T)) 0 16 (fun i => aGr T i) (fun v => some (v, 0)) (fun i v hi => ?_) (fun v => ?_)
  · unfold sX7_count_75
    rw [Nat.zero_add, zl16, ite_leN (by omega) (by omega), if_neg (by omega), zl14, nI_add, gd_in (by omega), nI_cl (by omega), zI_h (by omega), nm_eq, nm_eq, nI_add, nI_1]
  · unfold sX7_count_75
    rw [zl16, if_pos (nI_le (by omega) (by omega))]
theorem c_grants (hI : aInv V T) (hV : V < 2 ^ 20) {truth : Nat → Int32} (hU : rU T truth) : fX3_countGrants truth = some (nI (sm (fun i => aGr T i) 16)) := by
  unfold fX3_countGrants
  refine wh_count (sX3_countGrants_4 truth) 0 16 (fun i => aGr T i) (fun v => some v) (fun i v hi => ?_) (fun v => ?_)
  · have hg := hI.2.2.2.2.2.2.1 i hi
    have et := hU i (by omega)
    rw [(aTx_g (T := T) hi).1, (aTx_g (T := T) hi).2.1, (aTx_g (T := T) hi).2.2] at et
    unfold sX3_countGrants_4
    rw [Nat.zero_add, zl16, ite_leN (by omega) (by omega), if_neg (by omega), gd_in (by omega), nI_cl (by omega), et, c_state hg.2.1 hV hg.1 (by omega), Option.bind_some, nm_eq, nm_eq, nI_add, nI_1]
  · unfold sX3_countGrants_4
    rw [zl16, if_pos (nI_le (by omega) (by omega))]
theorem op_count (hV : V < 2 ^ 20) (h : zRel V X M) (x : Int32) : zOp V (gX_count X x) (gM_count M x) := by
  refine z_look h ?_
  obtain ⟨T, S, sz, tl, ⟨n1, n2, n3⟩, ⟨s1, s2, s3⟩, ⟨t1, t2, t3, t4⟩, ⟨w1, w2⟩⟩ := h
  have hb := n1.1
  unfold fX6_count fX7_count
  rw [n3]
  by_cases h0 : x = 0
  · rw [if_pos h0, if_pos h0, show vp_in (0 : Int32) 1557 = vp_in (nI 0) 1557 from rfl, gd_in (by omega), show (0 : Int32).toNatClampNeg = 0 from rfl, zI_h (by omega)]
    exact ⟨_, _, rfl, by rw [n2.1]⟩
  rw [if_neg h0, if_neg h0]
  by_cases h1 : x = 1
  · rw [if_pos h1, if_pos h1, show vp_in (1 : Int32) 1557 = vp_in (nI 1) 1557 from rfl, gd_in (by omega), show (1 : Int32).toNatClampNeg = 1 from rfl, zI_h (by omega)]
    exact ⟨_, _, rfl, by rw [n2.2.1]⟩
  rw [if_neg h1, if_neg h1]
  by_cases h2 : x = 2
  · rw [if_pos h2, if_pos h2, show vp_in (2 : Int32) 1557 = vp_in (nI 2) 1557 from rfl, gd_in (by omega), show (2 : Int32).toNatClampNeg = 2 from rfl, zI_h (by omega)]
    exact ⟨_, _, rfl, by rw [n2.2.2.1]⟩
  rw [if_neg h2, if_neg h2]
  by_cases h3 : x = 3
  · rw [if_pos h3, if_pos h3, e_grants, c_grants n1 hV n2.2.2.2.2.2.2.2.1]
    exact ⟨_, _, rfl, rfl⟩
  rw [if_neg h3, if_neg h3]
  by_cases h4 : x = 4
  · rw [if_pos h4, if_pos h4, show vp_in (3 : Int32) 1557 = vp_in (nI 3) 1557 from rfl, gd_in (by omega), show (3 : Int32).toNatClampNeg = 3 from rfl, zI_h (by omega)]
    exact ⟨_, _, rfl, by rw [n2.2.2.2.1]⟩
  rw [if_neg h4, if_neg h4]
  by_cases h5 : x = 5
  · rw [if_pos h5, if_pos h5]
    exact ⟨_, _, rfl, by rw [s1, s2]⟩
  rw [if_neg h5, if_neg h5]
  by_cases h6 : x = 6
  · rw [if_pos h6, if_pos h6]
    exact ⟨_, _, rfl, by rw [t2, t3]⟩
  rw [if_neg h6, if_neg h6]
  exact ⟨_, _, rfl, rfl⟩

/-- what a node knows, and what it should -/
theorem e_facts (hI : aInv V T) (hV : V < 2 ^ 20) {n : Nat} (hn : n < 10) : fX7_facts (nI n) (zI T) = some (nI (sm (fun i => if 0 < T.2 n i 0 then 1 else 0) 35)) := by
  unfold fX7_facts
  refine wh_count (sX7_facts_4 (nI n) (zI T)) 0 35 (fun i => if 0 < T.2 n i 0 then 1 else 0) (fun v => some v) (fun i v hi => ?_) (fun v => ?_)
  · have hd := hI.db hn hi
    unfold sX7_facts_4 uX7_facts_26
    rw [Nat.zero_add, zl35, ite_leN (by omega) (by omega), if_neg (by omega), show (0 : Int32) = nI 0 from zl0, e_fact hn hi (by omega), Option.bind_some, ite_leN (by omega) (by omega), nm_eq, nm_eq, nm_eq, nm_eq, zl1, nI_add, nI_add, nI_add]
    by_cases h : 0 < T.2 n i 0
    · rw [if_neg (by omega), if_pos h]
    · rw [if_pos (by omega), if_neg h]
  · unfold sX7_facts_4
    rw [zl35, if_pos (nI_le (by omega) (by omega))]
theorem c_facts (hI : aInv V T) (hV : V < 2 ^ 20) {facts : Nat → Int32} (hF : rF T facts) {n : Nat} (hn : n < 10) : fX3_countFacts (nI n) facts = some (nI (sm (fun i => if 0 < T.2 n i 0 then 1 else 0) 35)) := by
  unfold fX3_countFacts
  refine wh_count (sX3_countFacts_4 (nI n) facts) 0 35 (fun i => if 0 < T.2 n i 0 then 1 else 0) (fun v => some v) (fun i v hi => ?_) (fun v => ?_)
  · have hd := hI.db hn hi
    have z : nI (zpk (T.2 n i 0) (T.2 n i 1) (T.2 n i 2)) = (0 : Int32) ↔ T.2 n i 0 = 0 := zpk_0 hd.1 hV hd.2.1 hd.2.2.1 (fun q => ⟨(hd.2.2.2.2 q).1, (hd.2.2.2.2 q).2.1⟩)
    unfold sX3_countFacts_4 uX3_countFacts_26
    rw [Nat.zero_add, zl35, ite_leN (by omega) (by omega), if_neg (by omega), c_place, Option.bind_some, gd_in (by omega), nI_cl (by omega), hF n i hn hi, nm_eq, nm_eq, nm_eq, nI_1, nI_1]
    by_cases h : 0 < T.2 n i 0
    · rw [if_neg (fun q => by have := z.mp q; omega), if_pos h]
    · rw [if_pos (z.mpr (by omega)), if_neg h]
      rfl
  · unfold sX3_countFacts_4
    rw [zl35, if_pos (nI_le (by omega) (by omega))]
/-- a private link that is none of the node's business -/
abbrev hid (T : zA) (n i : Nat) : Prop := aSec T i ∧ ¬ aEnd T n (i - 16) ∧ ¬ aEnt T (aAr T n) (i - 16)
theorem c_isHidden (hI : aInv V T) (hV : V < 2 ^ 20) {N : zNet} (hR : aRel T N) {n i : Nat} (hn : n < aNN T) (hi : i < 35) (hx : i < 16 ∨ i < 16 + aNL T ∨ 32 ≤ i) : fX3_isHidden (nI n) (nI i) N.2.2.2.2.1 N.2.2.2.2.2.1 N.2.2.2.2.2.2.1 N.2.2.2.2.2.2.2.1 N.2.2.2.2.2.2.2.2.2.2.1 = some (bI (hid T n i)) := by
  have hb := hI.1
  obtain ⟨-, -, -, -, rA_, rL_, -, rU_, -, -⟩ := hR
  unfold fX3_isHidden
  rw [c_isPrivateLink hI rL_ hi hx, Option.bind_some, ite_bI]
  by_cases h1 : aSec T i
  · have hk : i - 16 < aNL T := by
      have := h1.1
      have := h1.2.1
      omega
    have hl := hI.2.2.1 _ hk
    have how : aOw T (i - 16) < 4 := hI.ar (n := aL T (i - 16) 0) (by omega)
    have hpr : ¬ aL T (i - 16) 4 = 0 := by rw [h1.2.2]; omega
    rw [if_pos h1, nm_eq, zl16, pk_sub h1.1, c_isEnd hI rL_ (by omega) hk, Option.bind_some, ite_bI]
    by_cases h2 : aEnd T n (i - 16)
    · rw [if_pos h2, bI_f (fun q => q.2.1 h2)]
    · obtain ⟨x, x1, x2⟩ := c_entitlements hI hV rU_ (hI.ar (n := n) (by omega))
      rw [if_neg h2, gd_in (by omega), nI_cl (by omega), rA_ n hn, x1, Option.bind_some, c_owner hI rA_ rL_ hk, Option.bind_some, c_has (by omega), Option.bind_some, ite_bI]
      by_cases h3 : bi x (aOw T (i - 16)) = true
      · rw [if_pos h3, bI_f (fun q => q.2.2 (Or.inr ((x2 _ how).mp h3)))]
      · rw [if_neg h3, bI_t ⟨h1, h2, fun q => q.elim hpr (fun z => h3 ((x2 _ how).mpr z))⟩]
  · rw [if_neg h1, bI_f (fun q => h1 q.1)]
abbrev bhd (T : zA) (n i : Nat) : Prop := T.2 n i 0 < aTv T i ∧ ¬ hid T n i
theorem aTv_ex (hI : aInv V T) {i : Nat} (hi : i < 35) (h : 0 < aTv T i) : aEx T i := by
  have hb := hI.1
  by_cases h16 : i < 16
  · rw [(aTx_g (T := T) h16).1] at h
    refine Or.inl ⟨h16, fun q => ?_⟩
    have := ((hI.2.2.2.2.2.2.1 i h16).2.2 q).2
    omega
  · by_cases h32 : i < 32
    · obtain ⟨k, rfl⟩ : ∃ k, i = 16 + k := ⟨i - 16, by omega⟩
      rw [(aTx_l (T := T) (k := k) (by omega)).1] at h
      refine Or.inr (Or.inl ⟨by omega, ?_⟩)
      by_cases hk : k < aNL T
      · omega
      · have := hI.2.2.2.1 k 5 (by omega) (by omega) (by omega)
        omega
    · obtain ⟨k, rfl⟩ : ∃ k, i = 32 + k := ⟨i - 32, by omega⟩
      rw [(aTx_t (T := T) (k := k)).1] at h
      refine Or.inr (Or.inr ⟨by omega, ?_⟩)
      by_cases hk : k < aNT T
      · omega
      · have := hI.2.2.2.2.2.1 k 4 (by omega) (by omega) (by omega)
        omega
theorem e_versionOf (hI : aInv V T) {i : Nat} (hi : i < 35) : fX7_versionOf (nI i) (zI T) = some (nI (aTv T i)) := by
  unfold fX7_versionOf
  rw [zl16, zl32, ite_leN (by omega) (by omega), ite_leN (by omega) (by omega)]
  by_cases h16 : i < 16
  · rw [if_neg (by omega), zl30, nI_add, gd_in (by omega), nI_cl (by omega), zI_h (by omega), (aTx_g (T := T) h16).1]
  · rw [if_pos (by omega)]
    by_cases h32 : i < 32
    · obtain ⟨k, rfl⟩ : ∃ k, i = 16 + k := ⟨i - 16, by omega⟩
      rw [if_neg (by omega), pk_sub (by omega), zl5, show 16 + k - 16 = k by omega, e_linkPart (by omega) (by omega), (aTx_l (T := T) (k := k) (by omega)).1]
      rfl
    · obtain ⟨k, rfl⟩ : ∃ k, i = 32 + k := ⟨i - 32, by omega⟩
      rw [if_pos (by omega), pk_sub (by omega), zl4, show 32 + k - 32 = k by omega, e_tunnelPart (by omega) (by omega), (aTx_t (T := T) (k := k)).1]
      rfl
theorem e_behind (hI : aInv V T) (hV : V < 2 ^ 20) {n : Nat} (hn : n < 10) : fX7_behind (nI n) (zI T) = some (nI (sm (fun i => if bhd T n i then 1 else 0) 35)) := by
  unfold fX7_behind
  refine wh_count (sX7_behind_4 (nI n) (zI T)) 0 35 (fun i => if bhd T n i then 1 else 0) (fun v => some v) (fun i v hi => ?_) (fun v => ?_)
  · have hd := hI.db hn hi
    have hv := (aTs_le hI hi).1
    have e85 : uX7_behind_85 (nI v) (nI i) = some (.inl (nI (v + 0), nI (0 + i + 1))) := by
      unfold uX7_behind_85 uX7_behind_86 uX7_behind_99
      rw [if_pos rfl, nm_eq, nm_eq, nI_1, show (0 : Int32) = nI 0 from zl0, nI_add, Nat.zero_add]
    have e81 : uX7_behind_81 (nI v) (nI i) = some (.inl (nI (v + 1), nI (0 + i + 1))) := by
      unfold uX7_behind_81 uX7_behind_86 uX7_behind_99
      rw [if_neg (by decide), nm_eq, nm_eq, nI_1, nI_1, Nat.zero_add]
    have e37 : uX7_behind_37 (nI n) (nI v) (nI i) (zI T) = some (.inl (nI (v + 0), nI (0 + i + 1))) := by
      unfold uX7_behind_37 uX7_behind_38
      rw [if_pos rfl, e85]
    unfold sX7_behind_4
    rw [show 0 + i = i by omega, zl35, ite_leN (by omega) (by omega), if_neg (by omega), e_isItem hI (by omega), Option.bind_some, ite_bI, e37]
    by_cases hx : aEx T i
    · rw [if_pos hx, e_versionOf hI hi, Option.bind_some, show (0 : Int32) = nI 0 from zl0, e_fact hn hi (by omega), Option.bind_some, ite_leN (by omega) (by omega)]
      by_cases hq : T.2 n i 0 < aTv T i
      · rw [if_neg (by omega)]
        unfold uX7_behind_38
        rw [if_neg (by decide), e_isSecret hI hi, Option.bind_some, ite_bI, e85, e81]
        by_cases hs : aSec T i
        · have h16 := hs.1
          have h31 := hs.2.1
          rw [if_pos hs, show (16 : Int32) = nI 16 from zl16, pk_sub (by omega), e_isEnd hI hn (by omega), Option.bind_some, ite_bI]
          by_cases he : aEnd T n (i - 16)
          · rw [if_pos he, if_pos ⟨hq, fun q => q.2.1 he⟩, Nat.zero_add]
          · rw [if_neg he, e_area hn, Option.bind_some, e_isEntitled hI (hI.ar hn) (by omega), Option.bind_some, ite_bI]
            by_cases ht : aEnt T (aAr T n) (i - 16)
            · rw [if_pos ht, if_pos ⟨hq, fun q => q.2.2 ht⟩, Nat.zero_add]
            · rw [if_neg ht, if_neg (fun q => q.2 ⟨hs, he, ht⟩), Nat.zero_add]
        · rw [if_neg hs, if_pos ⟨hq, fun q => hs q.1⟩, Nat.zero_add]
      · rw [if_pos (by omega), if_neg (fun q => hq q.1), Nat.zero_add]
    · rw [if_neg hx, if_neg (fun q => hx (aTv_ex hI hi (by have := q.1; omega))), Nat.zero_add]
  · unfold sX7_behind_4
    rw [zl35, if_pos (nI_le (by omega) (by omega))]
theorem c_behind (hI : aInv V T) (hV : V < 2 ^ 20) {N : zNet} (hR : aRel T N) {n : Nat} (hn : n < aNN T) : fX3_countBehind (nI n) N.2.2.2.2.1 N.2.2.2.2.2.1 N.2.2.2.2.2.2.1 N.2.2.2.2.2.2.2.1 N.2.2.2.2.2.2.2.2.2.2.1 N.2.2.2.2.2.2.2.2.2.2.2.1 = some (nI (sm (fun i => if bhd T n i then 1 else 0) 35)) := by
  have hb := hI.1
  have hR2 := hR
  obtain ⟨-, -, -, -, rA_, rL_, -, rU_, rF_, -⟩ := hR
  unfold fX3_countBehind
  refine wh_count (sX3_countBehind_4 (nI n) N.2.2.2.2.1 N.2.2.2.2.2.1 N.2.2.2.2.2.2.1 N.2.2.2.2.2.2.2.1 N.2.2.2.2.2.2.2.2.2.2.1 N.2.2.2.2.2.2.2.2.2.2.2.1) 0 35 (fun i => if bhd T n i then 1 else 0) (fun v => some v) (fun i v hi => ?_) (fun v => ?_)
  · have hd := hI.db (n := n) (by omega) hi
    have hv := aTs_le hI hi
    have e59 : ∀ v, uX3_countBehind_59 (nI v) (nI i) = some (.inl (nI v, nI (i + 1))) := by
      intro v
      unfold uX3_countBehind_59
      rw [nm_eq, nI_1]
    unfold sX3_countBehind_4
    rw [show 0 + i = i by omega, zl35, ite_leN (by omega) (by omega), if_neg (by omega), gd_in (by omega), nI_cl (by omega), rU_ i hi, c_version hv.1 hV hv.2.1 hv.2.2, Option.bind_some, c_place, Option.bind_some, gd_in (by omega), nI_cl (by omega), rF_ n i (by omega) hi, c_version hd.1 hV hd.2.1 hd.2.2.1, Option.bind_some, ite_leN (by omega) (by omega)]
    unfold uX3_countBehind_40
    by_cases hq : T.2 n i 0 < aTv T i
    · have hx := aTv_ex hI hi (by omega)
      rw [if_neg (by omega), if_neg (by decide), c_isHidden hI hV hR2 hn hi (by omega), Option.bind_some, ite_bI]
      by_cases hh : hid T n i
      · rw [if_pos hh, if_neg (fun q => q.2 hh), e59]
        rfl
      · rw [if_neg hh, if_pos ⟨hq, hh⟩, nm_eq, nI_1, e59]
    · rw [if_pos (by omega), if_pos rfl, if_neg (fun q => hq q.1), e59]
      rfl
  · unfold sX3_countBehind_4
    rw [zl35, if_pos (nI_le (by omega) (by omega))]
abbrev scr (T : zA) (n k : Nat) : Prop := k < aNL T ∧ 0 < T.2 n (16 + k) 0 ∧ hid T n (16 + k)
theorem e_secrets (hI : aInv V T) (hV : V < 2 ^ 20) {n : Nat} (hn : n < 10) : fX7_secrets (nI n) (zI T) = some (nI (sm (fun k => if scr T n k then 1 else 0) (aNL T))) := by
  have hb := hI.1
  unfold fX7_secrets
  refine wh_count (sX7_secrets_4 (nI n) (zI T)) 0 (aNL T) (fun i => if scr T n i then 1 else 0) (fun v => some v) (fun i v hi => ?_) (fun v => ?_)
  · have hd := hI.db hn (i := 16 + i) (by omega)
    have hl := hI.2.2.1 i hi
    have e54 : uX7_secrets_54 (nI i) (nI v) = some (.inl (nI (v + 0), nI (0 + i + 1))) := by
      unfold uX7_secrets_54 uX7_secrets_55
      rw [nm_eq, nm_eq, nI_1, show (0 : Int32) = nI 0 from zl0, nI_add, Nat.zero_add]
    have e55 : uX7_secrets_55 (nI i) (nI v) 1 = some (.inl (nI (v + 1), nI (0 + i + 1))) := by
      unfold uX7_secrets_55
      rw [nm_eq, nm_eq, nI_1, nI_1, Nat.zero_add]
    have es : 16 + i - 16 = i := by omega
    unfold sX7_secrets_4
    rw [show 0 + i = i by omega, show vp_in (1 : Int32) 1557 = vp_in (nI 1) 1557 from rfl, gd_in (by omega), show (1 : Int32).toNatClampNeg = 1 from rfl, zI_h (by omega), ite_leN (show aNL T < 2 ^ 31 by omega) (by omega), if_neg (show ¬ aNL T ≤ i by omega), zl16, nI_add, show fX7_fact (nI n) (nI (16 + i)) (0 : Int32) (zI T) = some (nI (T.2 n (16 + i) 0)) from e_fact (p := 0) hn (by omega) (by omega), Option.bind_some, show (0 : Int32) = nI 0 from zl0, ite_leN (by omega) (by omega), e54, e_isEnd hI hn (by omega), Option.bind_some, ite_bIn]
    by_cases h1 : 0 < T.2 n (16 + i) 0
    · rw [if_neg (by omega)]
      by_cases he : aEnd T n i
      · rw [if_pos he, if_neg (fun q => q.2.2.2.1 (by rw [es]; exact he)), Nat.zero_add]
      · rw [if_neg he, e_area hn, Option.bind_some, e_isEntitled hI (hI.ar hn) (by omega), Option.bind_some, ite_bIn, e55]
        by_cases ht : aEnt T (aAr T n) i
        · rw [if_pos ht, if_neg (fun q => q.2.2.2.2 (by rw [es]; exact ht)), Nat.zero_add]
        · have h4 : aL T i 4 = 1 := by
            have : ¬ aL T i 4 = 0 := fun q => ht (Or.inl q)
            have := hl.2.2.2.2.2.2.1
            omega
          rw [if_neg ht, if_pos ⟨hi, h1, ⟨by omega, by omega, by rw [es]; exact h4⟩, by rw [es]; exact he, by rw [es]; exact ht⟩, Nat.zero_add]
    · rw [if_pos (by omega), if_neg (fun q => h1 q.2.1), Nat.zero_add]
  · unfold sX7_secrets_4
    rw [show vp_in (1 : Int32) 1557 = vp_in (nI 1) 1557 from rfl, gd_in (by omega), show (1 : Int32).toNatClampNeg = 1 from rfl, zI_h (by omega), Nat.zero_add, if_pos (nI_le (Nat.le_refl _) (show aNL T < 2 ^ 31 by omega))]
theorem c_secrets (hI : aInv V T) (hV : V < 2 ^ 20) {N : zNet} (hR : aRel T N) {n : Nat} (hn : n < aNN T) : fX3_countSecrets (nI n) N.2.2.2.2.1 N.2.2.2.2.2.1 N.2.2.2.2.2.2.1 N.2.2.2.2.2.2.2.1 N.2.2.2.2.2.2.2.2.2.2.1 N.2.2.2.2.2.2.2.2.2.2.2.1 = some (nI (sm (fun k => if scr T n k then 1 else 0) (aNL T))) := by
  have hb := hI.1
  have hR2 := hR
  obtain ⟨-, -, -, -, rA_, rL_, -, rU_, rF_, -⟩ := hR
  have e16 : sm (fun k => if scr T n k then 1 else 0) 16 = sm (fun k => if scr T n k then 1 else 0) (aNL T) := by
    have q := sm_tail (c := fun k => if scr T n k then 1 else 0) (m := aNL T) (16 - aNL T) (fun i hi => if_neg (fun q => by omega))
    have e : aNL T + (16 - aNL T) = 16 := by omega
    rw [e] at q
    exact q
  rw [← e16]
  unfold fX3_countSecrets
  refine wh_count (sX3_countSecrets_5 (nI n) N.2.2.2.2.1 N.2.2.2.2.2.1 N.2.2.2.2.2.2.1 N.2.2.2.2.2.2.2.1 N.2.2.2.2.2.2.2.2.2.2.1 N.2.2.2.2.2.2.2.2.2.2.2.1) 16 16 (fun i => if scr T n i then 1 else 0) (fun v => some v) (fun i v hi => ?_) (fun v => ?_)
  · have hd := hI.db (n := n) (i := 16 + i) (by omega) (by omega)
    have z : nI (zpk (T.2 n (16 + i) 0) (T.2 n (16 + i) 1) (T.2 n (16 + i) 2)) = (0 : Int32) ↔ T.2 n (16 + i) 0 = 0 := zpk_0 hd.1 hV hd.2.1 hd.2.2.1 (fun q => ⟨(hd.2.2.2.2 q).1, (hd.2.2.2.2 q).2.1⟩)
    have e36 : ∀ v, uX3_countSecrets_36 (nI v) (nI (16 + i)) = some (.inl (nI v, nI (16 + i + 1))) := by
      intro v
      unfold uX3_countSecrets_36
      rw [nm_eq, nI_1]
    unfold sX3_countSecrets_5
    rw [zl32, ite_leN (by omega) (by omega), if_neg (by omega), c_place, Option.bind_some, gd_in (by omega), nI_cl (by omega), rF_ n (16 + i) (by omega) (by omega), e36]
    by_cases h1 : 0 < T.2 n (16 + i) 0
    · have hL : i < aNL T := by
        by_cases hL : i < aNL T
        · exact hL
        · have := hI.2.2.2.2.2.2.2.1 n (16 + i) 0 (by omega) (by omega) (by omega) (Or.inr (Or.inl ⟨by omega, by omega⟩))
          omega
      rw [if_neg (fun q => by have := z.mp q; omega), c_isHidden hI hV hR2 hn (by omega) (by omega), Option.bind_some, ite_bI]
      by_cases hh : hid T n (16 + i)
      · rw [if_pos hh, if_pos ⟨hL, h1, hh⟩, nm_eq, nI_1, e36]
      · rw [if_neg hh, if_neg (fun q => hh q.2.2)]
        rfl
    · rw [if_pos (z.mpr (by omega)), if_neg (fun q => h1 q.2.1)]
      rfl
  · unfold sX3_countSecrets_5
    rw [zl32, if_pos (nI_le (by omega) (by omega))]

end P39y
