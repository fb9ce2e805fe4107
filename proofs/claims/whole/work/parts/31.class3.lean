/-! The class: what is added and set. -/
/-- the class's network holds the abstract state -/
def aRel (T : zA) (N : zNet) : Prop :=
  N.1 = nI (aNN T) ∧ N.2.1 = nI (aNL T) ∧ N.2.2.1 = nI (aNT T) ∧ N.2.2.2.1 = nI (aMS T) ∧ rA T N.2.2.2.2.1 ∧ rL T N.2.2.2.2.2.1 N.2.2.2.2.2.2.1 N.2.2.2.2.2.2.2.1 ∧ rT T N.2.2.2.2.2.2.2.2.1 N.2.2.2.2.2.2.2.2.2.1 ∧ rU T N.2.2.2.2.2.2.2.2.2.2.1 ∧ rF T N.2.2.2.2.2.2.2.2.2.2.2.1 ∧ rN T N.2.2.2.2.2.2.2.2.2.2.2.2
section P31
variable {T : zA} {V : Nat}
theorem rU_upd {T' : zA} {truth : Nat → Int32} {j v s c : Nat} (h : rU T truth) (hj : aTv T' j = v ∧ aTs T' j = s ∧ aTc T' j = c) (ho : ∀ i, i < 35 → i ≠ j → aTv T' i = aTv T i ∧ aTs T' i = aTs T i ∧ aTc T' i = aTc T i) : rU T' (upd truth j (nI (zpk v s c))) := by
  intro i hi
  unfold upd
  by_cases e : i = j
  · rw [if_pos e, e, hj.1, hj.2.1, hj.2.2]
  · obtain ⟨a, b, d⟩ := ho i hi e
    rw [if_neg e, h i hi, a, b, d]
theorem aTx_l {k : Nat} (hk : k < 16) : aTv T (16 + k) = aL T k 5 ∧ aTs T (16 + k) = aL T k 3 ∧ aTc T (16 + k) = aL T k 2 := by
  have h1 : ¬ 16 + k < 16 := by omega
  have h2 : 16 + k < 32 := by omega
  have e : 16 + k - 16 = k := by omega
  unfold aTv aTs aTc
  rw [if_neg h1, if_pos h2, if_neg h1, if_pos h2, if_neg h1, if_pos h2, e]
  exact ⟨rfl, rfl, rfl⟩
theorem aTx_t {k : Nat} : aTv T (32 + k) = aT T k 4 ∧ aTs T (32 + k) = aT T k 3 ∧ aTc T (32 + k) = aT T k 2 := by
  have h1 : ¬ 32 + k < 16 := by omega
  have h2 : ¬ 32 + k < 32 := by omega
  have e : 32 + k - 32 = k := by omega
  unfold aTv aTs aTc
  rw [if_neg h1, if_neg h2, if_neg h1, if_neg h2, if_neg h1, if_neg h2, e]
  exact ⟨rfl, rfl, rfl⟩
theorem aTx_g {i : Nat} (hi : i < 16) : aTv T i = aGv T i ∧ aTs T i = aGr T i ∧ aTc T i = 0 := by
  unfold aTv aTs aTc
  rw [if_pos hi, if_pos hi, if_pos hi]
  exact ⟨rfl, rfl, rfl⟩
/-- the truth's parts are the same where the header is -/
theorem aTx_same {A B : zA} {i : Nat} (hi : i < 35) (hg : i < 16 → aGv A i = aGv B i ∧ aGr A i = aGr B i) (hl : 16 ≤ i → i < 32 → ∀ p, p < 6 → aL A (i - 16) p = aL B (i - 16) p) (ht : 32 ≤ i → ∀ p, p < 5 → aT A (i - 32) p = aT B (i - 32) p) : aTv A i = aTv B i ∧ aTs A i = aTs B i ∧ aTc A i = aTc B i := by
  unfold aTv aTs aTc
  by_cases h1 : i < 16
  · simp only [h1, if_true]
    exact ⟨(hg h1).1, (hg h1).2, trivial⟩
  · by_cases h2 : i < 32
    · simp only [h1, h2, if_true, if_false]
      exact ⟨hl (by omega) h2 5 (by omega), hl (by omega) h2 3 (by omega), hl (by omega) h2 2 (by omega)⟩
    · simp only [h1, h2, if_false]
      exact ⟨ht (by omega) 4 (by omega), ht (by omega) 3 (by omega), ht (by omega) 2 (by omega)⟩
theorem c_createNode (hI : aInv V T) {N : zNet} (hR : aRel T N) {a : Nat} (hn : aNN T < 10) : ∃ q, fX3_createNode (nI a) N.1 N.2.2.2.2.1 = some q ∧ q.1 = nI (aNN T) ∧ aRel (aMkN T a) (q.2.1, N.2.1, N.2.2.1, N.2.2.2.1, q.2.2, N.2.2.2.2.2) := by
  obtain ⟨r1, r2, r3, r4, r5, r6, r7, r8, r9, r10⟩ := hR
  have ed : ∀ j, j ≠ 0 → j ≠ 4 + aNN T → (aMkN T a).1 j = T.1 j := fun j h1 h2 => by
    show un (un T.1 (4 + aNN T) a) 0 (aNN T + 1) j = T.1 j
    rw [un_ne h1, un_ne h2]
  have e0 : aNN (aMkN T a) = aNN T + 1 := by show un (un T.1 (4 + aNN T) a) 0 (aNN T + 1) 0 = _; exact un_eq
  have h1 := hI.1
  unfold fX3_createNode
  rw [r1, gd_in hn, zl1, nI_add, pk_sub (by omega), nI_cl (by omega)]
  refine ⟨_, rfl, ?_, ?_⟩
  · show nI (aNN T + 1 - 1) = nI (aNN T)
    rw [Nat.add_sub_cancel]
  · have eL : aNL (aMkN T a) = aNL T := ed 1 (by omega) (by omega)
    have eT : aNT (aMkN T a) = aNT T := ed 2 (by omega) (by omega)
    have eM : aMS (aMkN T a) = aMS T := ed 3 (by omega) (by omega)
    have eLk : ∀ k p, aL (aMkN T a) k p = aL T k p := fun k p => ed _ (by omega) (by omega)
    have eTk : ∀ k p, aT (aMkN T a) k p = aT T k p := fun k p => ed _ (by omega) (by omega)
    refine ⟨?_, ?_, ?_, ?_, ?_, ?_, ?_, ?_, r9, r10⟩
    · show nI (aNN T + 1) = nI (aNN (aMkN T a)); rw [e0]
    · show N.2.1 = nI (aNL (aMkN T a)); rw [eL]; exact r2
    · show N.2.2.1 = nI (aNT (aMkN T a)); rw [eT]; exact r3
    · show N.2.2.2.1 = nI (aMS (aMkN T a)); rw [eM]; exact r4
    · intro n hn'
      rw [e0] at hn'
      show upd N.2.2.2.2.1 (aNN T) (nI a) n = nI (aAr (aMkN T a) n)
      unfold upd
      by_cases h : n = aNN T
      · have : aAr (aMkN T a) n = a := by
          rw [h]
          show un (un T.1 (4 + aNN T) a) 0 (aNN T + 1) (4 + aNN T) = a
          rw [un_ne (by omega), un_eq]
        rw [if_pos h, this]
      · have : aAr (aMkN T a) n = aAr T n := ed _ (by omega) (by omega)
        rw [if_neg h, this]
        exact r5 n (by omega)
    · intro k hk
      rw [eL] at hk
      rw [eLk, eLk, eLk]
      exact r6 k hk
    · intro k hk
      rw [eT] at hk
      rw [eTk, eTk]
      exact r7 k hk
    · intro i hi
      obtain ⟨x1, x2, x3⟩ := aTx_same (A := aMkN T a) (B := T) hi (fun h => ⟨ed _ (by omega) (by omega), ed _ (by omega) (by omega)⟩) (fun _ _ p _ => eLk _ p) (fun _ p _ => eTk _ p)
      rw [x1, x2, x3]
      exact r8 i hi
theorem c_setLink (hI : aInv V T) (hV : V + 1 < 2 ^ 20) {N : zNet} (hR : aRel T N) {k up c : Nat} (hk : k < aNL T) (hu : up ≤ 1) (hc1 : 1 ≤ c) (hc : c ≤ 20) : ∃ q, fX3_changeLink (nI k) (nI up) (nI c) N.2.1 N.2.2.2.2.1 N.2.2.2.2.2.1 N.2.2.2.2.2.2.1 N.2.2.2.2.2.2.2.1 N.2.2.2.2.2.2.2.2.2.2.1 N.2.2.2.2.2.2.2.2.2.2.2.1 N.2.2.2.2.2.2.2.2.2.2.2.2 = some q ∧ q.1 = nI (aL T k 5 + 1) ∧ aRel (aChL (aSL T k up c) k (if up = 1 ∧ aL T k 3 = 0 then 1 else 0)) (N.1, N.2.1, N.2.2.1, N.2.2.2.1, N.2.2.2.2.1, N.2.2.2.2.2.1, N.2.2.2.2.2.2.1, N.2.2.2.2.2.2.2.1, N.2.2.2.2.2.2.2.2.1, N.2.2.2.2.2.2.2.2.2.1, q.2.1, q.2.2.1, q.2.2.2) := by
  obtain ⟨r1, r2, r3, r4, r5, r6, r7, r8, r9, r10⟩ := hR
  have h1 := hI.1
  have hl := hI.2.2.1 k hk
  have hI2 := aSL_inv hI hk hu hc1 hc
  have eN : aNN (aSL T k up c) = aNN T := aSL_ot (by omega)
  have eL : aNL (aSL T k up c) = aNL T := aSL_ot (by omega)
  have eT : aNT (aSL T k up c) = aNT T := aSL_ot (by omega)
  have eM : aMS (aSL T k up c) = aMS T := aSL_ot (by omega)
  have eLk : ∀ k' p, p < 6 → k' ≠ k → aL (aSL T k up c) k' p = aL T k' p := fun k' p hp hk' => aSL_ot (by omega)
  have eTk : ∀ k' p, aT (aSL T k up c) k' p = aT T k' p := fun k' p => aSL_ot (by omega)
  have a0 : aL (aSL T k up c) k 0 = aL T k 0 := aSL_at (by omega)
  have a1 : aL (aSL T k up c) k 1 = aL T k 1 := aSL_at (by omega)
  have a2 : aL (aSL T k up c) k 2 = c := aSL_at (by omega)
  have a3 : aL (aSL T k up c) k 3 = up := aSL_at (by omega)
  have a4 : aL (aSL T k up c) k 4 = aL T k 4 := aSL_at (by omega)
  have a5 : aL (aSL T k up c) k 5 = aL T k 5 + 1 := aSL_at (by omega)
  have hA : rA (aSL T k up c) N.2.2.2.2.1 := by
    intro n hn
    have : aAr (aSL T k up c) n = aAr T n := aSL_ot (by omega)
    rw [this]
    exact r5 n (by omega)
  have hL : rL (aSL T k up c) N.2.2.2.2.2.1 N.2.2.2.2.2.2.1 N.2.2.2.2.2.2.2.1 := by
    intro k' hk'
    by_cases h : k' = k
    · subst h; rw [a0, a1, a4]; exact r6 k' hk
    · rw [eLk _ _ (by omega) h, eLk _ _ (by omega) h, eLk _ _ (by omega) h]; exact r6 k' (by omega)
  have ht := r8 (16 + k) (by omega)
  obtain ⟨t1, t2, t3⟩ := aTx_l (T := T) (k := k) (by omega)
  rw [t1, t2, t3] at ht
  obtain ⟨q, g1, g2, g3, g4, g5⟩ := c_changeLink hI2 hV hA hL (rF_of (A := T) rfl r9) (rN_of (A := T) rfl r10) (k := k) (by omega) ht a5 hl.2.2.2.2.2.1 (by omega)
  rw [a3, a2, eL] at g1
  rw [r2]
  refine ⟨q, g1, by rw [g2, a5], ?_⟩
  rw [a3] at g4 g5
  have e1 : (aChL (aSL T k up c) k (if up = 1 ∧ aL T k 3 = 0 then 1 else 0)).1 = (aSL T k up c).1 := aChL_1
  refine ⟨?_, ?_, ?_, ?_, rA_of e1.symm hA, rL_of e1.symm hL, ?_, ?_, g4, g5⟩
  · show N.1 = nI (aNN _); rw [show aNN (aChL (aSL T k up c) k (if up = 1 ∧ aL T k 3 = 0 then 1 else 0)) = aNN (aSL T k up c) from congrFun e1 0, eN]; exact r1
  · show nI (aNL T) = nI (aNL _); rw [show aNL (aChL (aSL T k up c) k (if up = 1 ∧ aL T k 3 = 0 then 1 else 0)) = aNL (aSL T k up c) from congrFun e1 1, eL]
  · show N.2.2.1 = nI (aNT _); rw [show aNT (aChL (aSL T k up c) k (if up = 1 ∧ aL T k 3 = 0 then 1 else 0)) = aNT (aSL T k up c) from congrFun e1 2, eT]; exact r3
  · show N.2.2.2.1 = nI (aMS _); rw [show aMS (aChL (aSL T k up c) k (if up = 1 ∧ aL T k 3 = 0 then 1 else 0)) = aMS (aSL T k up c) from congrFun e1 3, eM]; exact r4
  · refine rT_of e1.symm (fun k' hk' => ?_)
    rw [eTk, eTk]
    exact r7 k' (by omega)
  · refine rU_of e1.symm ?_
    show rU (aSL T k up c) q.2.1
    rw [g3, a5, a3, a2]
    obtain ⟨y1, y2, y3⟩ := aTx_l (T := aSL T k up c) (k := k) (by omega)
    refine rU_upd r8 ⟨by rw [y1, a5], by rw [y2, a3], by rw [y3, a2]⟩ (fun i hi hik => aTx_same hi (fun h => ⟨aSL_ot (by omega), aSL_ot (by omega)⟩) (fun _ _ p hp => eLk _ p hp (by omega)) (fun _ p _ => eTk _ p))
theorem c_createLink (hI : aInv V T) (hV1 : 1 ≤ V) (hV : V < 2 ^ 20) {N : zNet} (hR : aRel T N) {f s c pr : Nat} (hn : aNL T < 16) (hf : f < aNN T) (hs : s < aNN T) (hfs : f ≠ s) (hc1 : 1 ≤ c) (hc : c ≤ 20) (hpr : pr ≤ 1) : ∃ q, fX3_createLink (nI f) (nI s) (nI c) (nI pr) N.2.1 N.2.2.2.2.1 N.2.2.2.2.2.1 N.2.2.2.2.2.2.1 N.2.2.2.2.2.2.2.1 N.2.2.2.2.2.2.2.2.2.2.1 N.2.2.2.2.2.2.2.2.2.2.2.1 N.2.2.2.2.2.2.2.2.2.2.2.2 = some q ∧ q.1 = nI (aNL T) ∧ aRel (aChL (aMkL0 T f s c pr) (aNL T) 1) (N.1, q.2.1, N.2.2.1, N.2.2.2.1, N.2.2.2.2.1, q.2.2.1, q.2.2.2.1, q.2.2.2.2.1, N.2.2.2.2.2.2.2.2.1, N.2.2.2.2.2.2.2.2.2.1, q.2.2.2.2.2.1, q.2.2.2.2.2.2.1, q.2.2.2.2.2.2.2) := by
  obtain ⟨r1, r2, r3, r4, r5, r6, r7, r8, r9, r10⟩ := hR
  have h1 := hI.1
  have hI2 := aMkL0_inv hI hV1 hn hf hs hfs hc1 hc hpr
  have eN : aNN (aMkL0 T f s c pr) = aNN T := aMkL0_ot (by omega) (by omega)
  have eL := aMkL0_n (T := T) (f := f) (s := s) (c := c) (pr := pr)
  have eT : aNT (aMkL0 T f s c pr) = aNT T := aMkL0_ot (by omega) (by omega)
  have eM : aMS (aMkL0 T f s c pr) = aMS T := aMkL0_ot (by omega) (by omega)
  have eLk : ∀ k' p, p < 6 → k' ≠ aNL T → aL (aMkL0 T f s c pr) k' p = aL T k' p := fun k' p hp hk' => aMkL0_ot (by omega) (by omega)
  have eTk : ∀ k' p, aT (aMkL0 T f s c pr) k' p = aT T k' p := fun k' p => aMkL0_ot (by omega) (by omega)
  have a0 : aL (aMkL0 T f s c pr) (aNL T) 0 = f := aMkL0_at (by omega)
  have a1 : aL (aMkL0 T f s c pr) (aNL T) 1 = s := aMkL0_at (by omega)
  have a2 : aL (aMkL0 T f s c pr) (aNL T) 2 = c := aMkL0_at (by omega)
  have a3 : aL (aMkL0 T f s c pr) (aNL T) 3 = 1 := aMkL0_at (by omega)
  have a4 : aL (aMkL0 T f s c pr) (aNL T) 4 = pr := aMkL0_at (by omega)
  have a5 : aL (aMkL0 T f s c pr) (aNL T) 5 = 0 + 1 := aMkL0_at (by omega)
  have hA : rA (aMkL0 T f s c pr) N.2.2.2.2.1 := by
    intro n hn
    have : aAr (aMkL0 T f s c pr) n = aAr T n := aMkL0_ot (by omega) (by omega)
    rw [this]
    exact r5 n (by omega)
  have hL : rL (aMkL0 T f s c pr) (upd N.2.2.2.2.2.1 (aNL T) (nI f)) (upd N.2.2.2.2.2.2.1 (aNL T) (nI s)) (upd N.2.2.2.2.2.2.2.1 (aNL T) (nI pr)) := by
    intro k' hk'
    unfold upd
    by_cases h : k' = aNL T
    · rw [if_pos h, if_pos h, if_pos h, h, a0, a1, a4]
      exact ⟨rfl, rfl, rfl⟩
    · rw [if_neg h, if_neg h, if_neg h, eLk _ _ (by omega) h, eLk _ _ (by omega) h, eLk _ _ (by omega) h]
      exact r6 k' (by omega)
  have ht := r8 (16 + aNL T) (by omega)
  obtain ⟨t1, t2, t3⟩ := aTx_l (T := T) (k := aNL T) (by omega)
  have z := fun p hp => hI.2.2.2.1 (aNL T) p (Nat.le_refl _) hn hp
  rw [t1, t2, t3, z 5 (by omega), z 3 (by omega), z 2 (by omega)] at ht
  obtain ⟨q, g1, g2, g3, g4, g5⟩ := c_changeLink hI2 hV hA hL (rF_of (A := T) rfl r9) (rN_of (A := T) rfl r10) (k := aNL T) (by omega) ht a5 (by omega) (by omega)
  rw [a3, a2, eL] at g1
  rw [a3] at g4 g5
  have hb : (1 : Nat) = 1 ∧ (0 : Nat) = 0 := ⟨rfl, rfl⟩
  rw [if_pos hb] at g4 g5
  unfold fX3_createLink
  rw [r2, gd_in hn, gd_in hn, gd_in hn, nI_cl (by omega), zl1, nI_add, g1]
  simp only [Option.bind_some]
  refine ⟨_, rfl, rfl, ?_⟩
  have e1 : (aChL (aMkL0 T f s c pr) (aNL T) 1).1 = (aMkL0 T f s c pr).1 := aChL_1
  refine ⟨?_, ?_, ?_, ?_, rA_of e1.symm hA, rL_of e1.symm hL, ?_, ?_, g4, g5⟩
  · show N.1 = nI (aNN _); rw [show aNN (aChL (aMkL0 T f s c pr) (aNL T) 1) = aNN (aMkL0 T f s c pr) from congrFun e1 0, eN]; exact r1
  · show nI (aNL T + 1) = nI (aNL _); rw [show aNL (aChL (aMkL0 T f s c pr) (aNL T) 1) = aNL (aMkL0 T f s c pr) from congrFun e1 1, eL]
  · show N.2.2.1 = nI (aNT _); rw [show aNT (aChL (aMkL0 T f s c pr) (aNL T) 1) = aNT (aMkL0 T f s c pr) from congrFun e1 2, eT]; exact r3
  · show N.2.2.2.1 = nI (aMS _); rw [show aMS (aChL (aMkL0 T f s c pr) (aNL T) 1) = aMS (aMkL0 T f s c pr) from congrFun e1 3, eM]; exact r4
  · refine rT_of e1.symm (fun k' hk' => ?_)
    rw [eTk, eTk]
    exact r7 k' (by omega)
  · refine rU_of e1.symm ?_
    show rU (aMkL0 T f s c pr) q.2.1
    rw [g3, a5, a3, a2]
    obtain ⟨y1, y2, y3⟩ := aTx_l (T := aMkL0 T f s c pr) (k := aNL T) (by omega)
    refine rU_upd r8 ⟨by rw [y1, a5], by rw [y2, a3], by rw [y3, a2]⟩ (fun i hi hik => aTx_same hi (fun h => ⟨aMkL0_ot (by omega) (by omega), aMkL0_ot (by omega) (by omega)⟩) (fun _ _ p hp => eLk _ p hp (by omega)) (fun _ p _ => eTk _ p))
/-- the tunnel's change: T is the state whose header is new already -/
theorem c_changeTunnel (hI : aInv V T) (hV : V < 2 ^ 20) {areas firsts seconds privates entries truth facts : Nat → Int32} {news : Nat → Int64} (hA : rA T areas) (hL : rL T firsts seconds privates) (hF : rF T facts) (hN : rN T news) {k v0 s0 c0 : Nat} (hk : k < aNT T) (hE : entries k = nI (aT T k 0)) (ht : truth (32 + k) = nI (zpk v0 s0 c0)) (hv : aT T k 4 = v0 + 1) (hs0 : s0 ≤ 1) (hc0 : c0 ≤ 40) :
    ∃ q, fX3_changeTunnel (nI k) (nI (aT T k 3)) (nI (aT T k 2)) (nI (aNL T)) areas firsts seconds privates entries truth facts news = some q ∧ q.1 = nI (aT T k 4) ∧ q.2.1 = upd truth (32 + k) (nI (zpk (aT T k 4) (aT T k 3) (aT T k 2))) ∧ rF (aChT T k) q.2.2.1 ∧ rN (aChT T k) q.2.2.2 := by
  have h1 := hI.1
  have h := hI.2.2.2.2.1 k hk
  unfold fX3_changeTunnel
  rw [nm_eq, zl32, nI_add, c_change (V := V) (by omega) ht (by omega) hV hs0 hc0 h.2.2.2.2.2.1 h.2.2.2.2.1, ← hv]
  simp only [Option.bind_some]
  have eu : upd truth (32 + k) (nI (zpk (aT T k 4) (aT T k 3) (aT T k 2))) (32 + k) = nI (zpk (aT T k 4) (aT T k 3) (aT T k 2)) := if_pos rfl
  rw [gd_in (by omega), gd_in (by omega), nI_cl (by omega), nI_cl (by omega), hE, eu]
  obtain ⟨q1, f1, f2, f3⟩ := c_learn hI hV hA hL hF hN (n := aT T k 0) (i := 32 + k) (v := aT T k 4) (st := aT T k 3) (c := aT T k 2) h.1 (by omega) (by omega) h.2.2.2.2.2.2.2 h.2.2.2.2.2.1 h.2.2.2.2.1
  rw [f1]
  exact ⟨_, rfl, rfl, rfl, f2, f3⟩
theorem aChT_1 {k : Nat} : (aChT T k).1 = T.1 := aLearn_1
theorem c_setTunnel (hI : aInv V T) (hV : V + 1 < 2 ^ 20) {N : zNet} (hR : aRel T N) {k up c : Nat} (hk : k < aNT T) (hu : up ≤ 1) (hc1 : 1 ≤ c) (hc : c ≤ 40) : ∃ q, fX3_changeTunnel (nI k) (nI up) (nI c) N.2.1 N.2.2.2.2.1 N.2.2.2.2.2.1 N.2.2.2.2.2.2.1 N.2.2.2.2.2.2.2.1 N.2.2.2.2.2.2.2.2.1 N.2.2.2.2.2.2.2.2.2.2.1 N.2.2.2.2.2.2.2.2.2.2.2.1 N.2.2.2.2.2.2.2.2.2.2.2.2 = some q ∧ q.1 = nI (aT T k 4 + 1) ∧ aRel (aChT (aST T k up c) k) (N.1, N.2.1, N.2.2.1, N.2.2.2.1, N.2.2.2.2.1, N.2.2.2.2.2.1, N.2.2.2.2.2.2.1, N.2.2.2.2.2.2.2.1, N.2.2.2.2.2.2.2.2.1, N.2.2.2.2.2.2.2.2.2.1, q.2.1, q.2.2.1, q.2.2.2) := by
  obtain ⟨r1, r2, r3, r4, r5, r6, r7, r8, r9, r10⟩ := hR
  have h1 := hI.1
  have hl := hI.2.2.2.2.1 k hk
  have hI2 := aST_inv hI hk hu hc1 hc
  have eN : aNN (aST T k up c) = aNN T := aST_ot (by omega)
  have eL : aNL (aST T k up c) = aNL T := aST_ot (by omega)
  have eT : aNT (aST T k up c) = aNT T := aST_ot (by omega)
  have eM : aMS (aST T k up c) = aMS T := aST_ot (by omega)
  have eLk : ∀ k' p, k' < 16 → p < 6 → aL (aST T k up c) k' p = aL T k' p := fun k' p hk' hp => aST_ot (by omega)
  have eTk : ∀ k' p, p < 5 → k' ≠ k → aT (aST T k up c) k' p = aT T k' p := fun k' p hp hk' => aST_ot (by omega)
  have a0 : aT (aST T k up c) k 0 = aT T k 0 := aST_at (by omega)
  have a1 : aT (aST T k up c) k 1 = aT T k 1 := aST_at (by omega)
  have a2 : aT (aST T k up c) k 2 = c := aST_at (by omega)
  have a3 : aT (aST T k up c) k 3 = up := aST_at (by omega)
  have a4 : aT (aST T k up c) k 4 = aT T k 4 + 1 := aST_at (by omega)
  have hA : rA (aST T k up c) N.2.2.2.2.1 := by
    intro n hn
    have : aAr (aST T k up c) n = aAr T n := aST_ot (by omega)
    rw [this]
    exact r5 n (by omega)
  have hL : rL (aST T k up c) N.2.2.2.2.2.1 N.2.2.2.2.2.2.1 N.2.2.2.2.2.2.2.1 := by
    intro k' hk'
    rw [eLk _ _ (by omega) (by omega), eLk _ _ (by omega) (by omega), eLk _ _ (by omega) (by omega)]; exact r6 k' (by omega)
  have ht := r8 (32 + k) (by omega)
  obtain ⟨t1, t2, t3⟩ := aTx_t (T := T) (k := k)
  rw [t1, t2, t3] at ht
  obtain ⟨q, g1, g2, g3, g4, g5⟩ := c_changeTunnel hI2 hV hA hL (rF_of (A := T) rfl r9) (rN_of (A := T) rfl r10) (k := k) (entries := N.2.2.2.2.2.2.2.2.1) (by omega) (by rw [a0]; exact (r7 k hk).1) ht a4 hl.2.2.2.2.2.1 hl.2.2.2.2.1
  rw [a3, a2, eL] at g1
  rw [r2]
  refine ⟨q, g1, by rw [g2, a4], ?_⟩
  have e1 : (aChT (aST T k up c) k).1 = (aST T k up c).1 := aChT_1
  refine ⟨?_, ?_, ?_, ?_, rA_of e1.symm hA, rL_of e1.symm hL, ?_, ?_, g4, g5⟩
  · show N.1 = nI (aNN _); rw [show aNN (aChT (aST T k up c) k) = aNN (aST T k up c) from congrFun e1 0, eN]; exact r1
  · show nI (aNL T) = nI (aNL _); rw [show aNL (aChT (aST T k up c) k) = aNL (aST T k up c) from congrFun e1 1, eL]
  · show N.2.2.1 = nI (aNT _); rw [show aNT (aChT (aST T k up c) k) = aNT (aST T k up c) from congrFun e1 2, eT]; exact r3
  · show N.2.2.2.1 = nI (aMS _); rw [show aMS (aChT (aST T k up c) k) = aMS (aST T k up c) from congrFun e1 3, eM]; exact r4
  · refine rT_of e1.symm (fun k' hk' => ?_)
    by_cases h : k' = k
    · subst h; rw [a0, a1]; exact r7 k' hk
    · rw [eTk _ _ (by omega) h, eTk _ _ (by omega) h]; exact r7 k' (by omega)
  · refine rU_of e1.symm ?_
    show rU (aST T k up c) q.2.1
    rw [g3, a4, a3, a2]
    obtain ⟨y1, y2, y3⟩ := aTx_t (T := aST T k up c) (k := k)
    refine rU_upd r8 ⟨by rw [y1, a4], by rw [y2, a3], by rw [y3, a2]⟩ (fun i hi hik => aTx_same hi (fun h => ⟨aST_ot (by omega), aST_ot (by omega)⟩) (fun _ _ p hp => eLk _ p (by omega) hp) (fun _ p hp => eTk _ p hp (by omega)))
theorem c_createTunnel (hI : aInv V T) (hV1 : 1 ≤ V) (hV : V < 2 ^ 20) {N : zNet} (hR : aRel T N) {en ex c : Nat} (hn : aNT T < 3) (hf : en < aNN T) (hs : ex < aNN T) (hfs : en ≠ ex) (hc1 : 1 ≤ c) (hc : c ≤ 40) : ∃ q, fX3_createTunnel (nI en) (nI ex) (nI c) N.2.1 N.2.2.1 N.2.2.2.2.1 N.2.2.2.2.2.1 N.2.2.2.2.2.2.1 N.2.2.2.2.2.2.2.1 N.2.2.2.2.2.2.2.2.1 N.2.2.2.2.2.2.2.2.2.1 N.2.2.2.2.2.2.2.2.2.2.1 N.2.2.2.2.2.2.2.2.2.2.2.1 N.2.2.2.2.2.2.2.2.2.2.2.2 = some q ∧ q.1 = nI (aNT T) ∧ aRel (aChT (aMkT0 T en ex c) (aNT T)) (N.1, N.2.1, q.2.1, N.2.2.2.1, N.2.2.2.2.1, N.2.2.2.2.2.1, N.2.2.2.2.2.2.1, N.2.2.2.2.2.2.2.1, q.2.2.1, q.2.2.2.1, q.2.2.2.2.1, q.2.2.2.2.2.1, q.2.2.2.2.2.2) := by
  obtain ⟨r1, r2, r3, r4, r5, r6, r7, r8, r9, r10⟩ := hR
  have h1 := hI.1
  have hI2 := aMkT0_inv hI hV1 hn hf hs hfs hc1 hc
  have eN : aNN (aMkT0 T en ex c) = aNN T := aMkT0_ot (by omega) (by omega)
  have eL : aNL (aMkT0 T en ex c) = aNL T := aMkT0_ot (by omega) (by omega)
  have eT := aMkT0_n (T := T) (en := en) (ex := ex) (c := c)
  have eM : aMS (aMkT0 T en ex c) = aMS T := aMkT0_ot (by omega) (by omega)
  have eLk : ∀ k' p, k' < 16 → p < 6 → aL (aMkT0 T en ex c) k' p = aL T k' p := fun k' p hk' hp => aMkT0_ot (by omega) (by omega)
  have eTk : ∀ k' p, p < 5 → k' ≠ aNT T → aT (aMkT0 T en ex c) k' p = aT T k' p := fun k' p hp hk' => aMkT0_ot (by omega) (by omega)
  have a0 : aT (aMkT0 T en ex c) (aNT T) 0 = en := aMkT0_at (by omega)
  have a1 : aT (aMkT0 T en ex c) (aNT T) 1 = ex := aMkT0_at (by omega)
  have a2 : aT (aMkT0 T en ex c) (aNT T) 2 = c := aMkT0_at (by omega)
  have a3 : aT (aMkT0 T en ex c) (aNT T) 3 = 1 := aMkT0_at (by omega)
  have a4 : aT (aMkT0 T en ex c) (aNT T) 4 = 0 + 1 := aMkT0_at (by omega)
  have hA : rA (aMkT0 T en ex c) N.2.2.2.2.1 := by
    intro n hn
    have : aAr (aMkT0 T en ex c) n = aAr T n := aMkT0_ot (by omega) (by omega)
    rw [this]
    exact r5 n (by omega)
  have hL : rL (aMkT0 T en ex c) N.2.2.2.2.2.1 N.2.2.2.2.2.2.1 N.2.2.2.2.2.2.2.1 := by
    intro k' hk'
    rw [eLk _ _ (by omega) (by omega), eLk _ _ (by omega) (by omega), eLk _ _ (by omega) (by omega)]; exact r6 k' (by omega)
  have ht := r8 (32 + aNT T) (by omega)
  obtain ⟨t1, t2, t3⟩ := aTx_t (T := T) (k := aNT T)
  have z := fun p hp => hI.2.2.2.2.2.1 (aNT T) p (Nat.le_refl _) hn hp
  rw [t1, t2, t3, z 4 (by omega), z 3 (by omega), z 2 (by omega)] at ht
  have eu : upd N.2.2.2.2.2.2.2.2.1 (aNT T) (nI en) (aNT T) = nI en := if_pos rfl
  obtain ⟨q, g1, g2, g3, g4, g5⟩ := c_changeTunnel hI2 hV hA hL (rF_of (A := T) rfl r9) (rN_of (A := T) rfl r10) (k := aNT T) (entries := upd N.2.2.2.2.2.2.2.2.1 (aNT T) (nI en)) (by omega) (by rw [a0, eu]) ht a4 (by omega) (by omega)
  rw [a3, a2, eL] at g1
  unfold fX3_createTunnel
  rw [r2, r3, gd_in hn, gd_in hn, nI_cl (by omega), zl1, g1]
  simp only [Option.bind_some]
  refine ⟨_, rfl, rfl, ?_⟩
  have e1 : (aChT (aMkT0 T en ex c) (aNT T)).1 = (aMkT0 T en ex c).1 := aChT_1
  refine ⟨?_, ?_, ?_, ?_, rA_of e1.symm hA, rL_of e1.symm hL, ?_, ?_, g4, g5⟩
  · show N.1 = nI (aNN _); rw [show aNN (aChT (aMkT0 T en ex c) (aNT T)) = aNN (aMkT0 T en ex c) from congrFun e1 0, eN]; exact r1
  · show nI (aNL T) = nI (aNL _); rw [show aNL (aChT (aMkT0 T en ex c) (aNT T)) = aNL (aMkT0 T en ex c) from congrFun e1 1, eL]
  · show nI (aNT T) + nI 1 = nI (aNT _); rw [nI_add, show aNT (aChT (aMkT0 T en ex c) (aNT T)) = aNT (aMkT0 T en ex c) from congrFun e1 2, eT]
  · show N.2.2.2.1 = nI (aMS _); rw [show aMS (aChT (aMkT0 T en ex c) (aNT T)) = aMS (aMkT0 T en ex c) from congrFun e1 3, eM]; exact r4
  · refine rT_of e1.symm (fun k' hk' => ?_)
    show upd N.2.2.2.2.2.2.2.2.1 (aNT T) (nI en) k' = _ ∧ upd N.2.2.2.2.2.2.2.2.2.1 (aNT T) (nI ex) k' = _
    unfold upd
    by_cases h : k' = aNT T
    · rw [if_pos h, if_pos h, h, a0, a1]; exact ⟨rfl, rfl⟩
    · rw [if_neg h, if_neg h, eTk _ _ (by omega) h, eTk _ _ (by omega) h]; exact r7 k' (by omega)
  · refine rU_of e1.symm ?_
    show rU (aMkT0 T en ex c) q.2.1
    rw [g3, a4, a3, a2]
    obtain ⟨y1, y2, y3⟩ := aTx_t (T := aMkT0 T en ex c) (k := aNT T)
    refine rU_upd r8 ⟨by rw [y1, a4], by rw [y2, a3], by rw [y3, a2]⟩ (fun i hi hik => aTx_same hi (fun h => ⟨aMkT0_ot (by omega) (by omega), aMkT0_ot (by omega) (by omega)⟩) (fun _ _ p hp => eLk _ p (by omega) hp) (fun _ p hp => eTk _ p hp (by omega)))
end P31
