section P23
variable {T : zA} {V : Nat}
/-- the zeroing of four parts -/
theorem e_learn_198 {x8 : Int32} {n i : Nat} (hn : n < 10) (hi : i < 35) : lX7_learn_198 x8 (nI (157 + 4 * (35 * n + i))) (nI 0) (zI T) = uX7_learn_221 x8 (zI (T.1, ud (ud (ud (ud T.2 n i 0 0) n i 1 0) n i 2 0) n i 3 0)) := by
  have key := wh_fun (fun b : Int32 × (Nat → Int32) => sX7_learn_198 x8 (nI (157 + 4 * (35 * n + i))) b.1 b.2) 4
    (fun j => zI (T.1, match j with | 0 => T.2 | 1 => ud T.2 n i 0 0 | 2 => ud (ud T.2 n i 0 0) n i 1 0 | 3 => ud (ud (ud T.2 n i 0 0) n i 1 0) n i 2 0 | _ => ud (ud (ud (ud T.2 n i 0 0) n i 1 0) n i 2 0) n i 3 0))
    (fun s => uX7_learn_221 x8 s) ?_ ?_ 0 (by omega)
  · exact key
  · intro j hj
    dsimp only [sX7_learn_198]
    rw [zl4, if_neg (by rw [nI_leI (by omega) (by omega)]; omega), nI_add, gd_in (by omega), nI_cl (by omega), zl0, upd_d hi hj, nm_eq, zl1, nI_add]
    rcases (show j = 0 ∨ j = 1 ∨ j = 2 ∨ j = 3 by omega) with rfl | rfl | rfl | rfl <;> rfl
  · dsimp only [sX7_learn_198]
    rw [zl4, if_pos (by rw [nI_leI (by omega) (by omega)]; omega)]
theorem e_learn_168 (hI : aInv V T) {D : Nat → Nat → Nat → Nat} {n i st k x : Nat} (hn : n < 10) (hi : i < 16) (hk : k < 16) (hst : st ≤ 1) : uX7_learn_168 (nI n) (nI i) (nI st) (nI k) (nI (157 + 4 * (35 * n + (16 + k)))) (nI (157 + 4 * (35 * n + (16 + k)) + 3)) (nI x) (zI (T.1, D)) =
    uX7_learn_221 (nI k) (zI (T.1, if st = 0 ∧ i % 4 = aAr T n ∧ ¬ aEnd T n k then ud (ud (ud (ud (ud D n (16 + k) 3 x) n (16 + k) 0 0) n (16 + k) 1 0) n (16 + k) 2 0) n (16 + k) 3 0 else ud D n (16 + k) 3 x)) := by
  have hl := hI.link hk
  have har := hI.ar hn
  unfold uX7_learn_168
  rw [gd_in (by omega), nI_cl (by omega), upd_d (T := (T.1, D)) (by omega) (by omega)]
  simp only [zl0]
  by_cases h0 : st = 0
  · rw [if_pos (by rw [h0]), e_area (T := (T.1, ud D n (16 + k) 3 x)) hn]
    simp only [Option.bind_some]
    rw [zl4, pk_rem (by omega) (by omega) (by omega)]
    by_cases h1 : i % 4 = aAr T n
    · rw [if_pos (by rw [h1]), e_isEnd' (T := (T.1, ud D n (16 + k) 3 x)) hn hk ⟨hl.1, hl.2.1⟩]
      simp only [Option.bind_some]
      by_cases h2 : aEnd T n k
      · rw [if_neg (by rw [bI_t (p := aEnd (T.1, ud D n (16 + k) 3 x) n k) h2]; decide), if_neg (fun q => q.2.2 h2)]
      · rw [if_pos (by rw [bI_f (p := aEnd (T.1, ud D n (16 + k) 3 x) n k) h2]; rfl), if_pos ⟨h0, h1, h2⟩]
        exact e_learn_198 (T := (T.1, ud D n (16 + k) 3 x)) hn (by omega)
    · rw [if_neg (by show ¬ nI (i % 4) = nI (aAr T n); rw [nI_eq (by omega) (by omega)]; exact h1), if_neg (fun q => h1 q.2.1)]
  · rw [if_neg (by rw [nI_eq (by omega) (by omega)]; exact h0), if_neg (fun q => h0 q.1)]
theorem ud_same {D : Nat → Nat → Nat → Nat} {n i p : Nat} : ud D n i p (D n i p) = D := by
  funext n' i' p'
  unfold ud
  by_cases h : n' = n ∧ i' = i ∧ p' = p
  · rw [if_pos h]; obtain ⟨rfl, rfl, rfl⟩ := h; rfl
  · rw [if_neg h]
theorem ud_over {D : Nat → Nat → Nat → Nat} {n i x : Nat} : ud (ud (ud (ud (ud D n i 3 x) n i 0 0) n i 1 0) n i 2 0) n i 3 0 = ud (ud (ud (ud D n i 0 0) n i 1 0) n i 2 0) n i 3 0 := by
  funext n' i' p'
  unfold ud
  by_cases h : n' = n ∧ i' = i
  · obtain ⟨rfl, rfl⟩ := h
    by_cases h3 : p' = 3
    · subst h3; simp
    · simp [h3]
  · have : ∀ q, ¬ (n' = n ∧ i' = i ∧ p' = q) := fun q z => h ⟨z.1, z.2.1⟩
    simp only [this, if_false]
theorem e_learn_85 (hI : aInv V T) (hV : V < 2 ^ 20) {n i v st c : Nat} (hn : n < 10) (hi : i < 16) (hst : st ≤ 1) : lX7_learn_85 (nI n) (nI i) (nI st) (nI (i / 4)) (nI 0) (zI (aLn T n i v st c 0)) = some (zI (aLn T n i v st c (aNL T))) := by
  have hNL : aNL T ≤ 16 := hI.1.2.1
  refine wh_fun (fun b : Int32 × (Nat → Int32) => sX7_learn_85 (nI n) (nI i) (nI st) (nI (i / 4)) b.1 b.2) (aNL T) (fun k => zI (aLn T n i v st c k)) (fun s => some s) ?_ ?_ 0 (by omega)
  · intro k hk
    have hk16 : k < 16 := by omega
    have hl := hI.link hk16
    have ho : aOw T k < 4 := hI.ar hl.1
    have hd := hI.db hn (i := 16 + k) (by omega)
    have e221 : ∀ s, uX7_learn_221 (nI k) s = some (.inl (nI (k + 1), s)) := fun s => by unfold uX7_learn_221; rw [nm_eq, zl1, nI_add]
    have eCd : aCd T n i (16 + k) ↔ (aL T k 4 = 1 ∧ aOw T k = i / 4 ∧ 0 < T.2 n (16 + k) 0) := by
      have ek : 16 + k - 16 = k := by omega
      unfold aCd
      rw [ek]
    show sX7_learn_85 (nI n) (nI i) (nI st) (nI (i / 4)) (nI k) (zI (aLn T n i v st c k)) = _
    unfold sX7_learn_85
    rw [zl1, gd_in (by omega), nI_cl (by omega), zI_h (by omega), if_neg (by show ¬ nI (aNL T) ≤ nI k; rw [nI_leI (by omega) (by omega)]; omega), zl16, nI_add, e_at]
    simp only [Option.bind_some]
    rw [zl4, e_linkPart hk16 (by omega)]
    simp only [Option.bind_some]
    by_cases h1 : aL T k 4 = 1
    · rw [if_pos (by show nI (aL T k 4) = nI 1; rw [h1]), e_owner' (T := aLn T n i v st c k) hk16 hl.1]
      simp only [Option.bind_some]
      by_cases h2 : aOw T k = i / 4
      · rw [if_pos (by show nI (aOw T k) = nI (i / 4); rw [h2]), zl0, nI_add, gd_in (by omega), nI_cl (by omega), zI_d (by omega) (by omega), aLn_at hi]
        by_cases h3 : 0 < T.2 n (16 + k) 0
        · have hc : aCd T n i (16 + k) := eCd.mpr ⟨h1, h2, h3⟩
          rw [if_neg (by rw [nI_leI (by omega) (by omega)]; omega), zl3, nI_add]
          by_cases h4 : st = 1
          · rw [if_pos (by rw [h4]), show zI (aLn T n i v st c k) = zI (T.1, (aLn T n i v st c k).2) from rfl, e_learn_168 (T := T) hI hn hi hk16 hst, e221, if_neg (by omega), aLn_news hi hc h4]
          · rw [if_neg (by rw [nI_eq (by omega) (by omega)]; exact h4), gd_in (by omega), nI_cl (by omega), zI_d (by omega) (by omega), show zI (aLn T n i v st c k) = zI (T.1, (aLn T n i v st c k).2) from rfl, e_learn_168 (T := T) hI hn hi hk16 hst, e221]
            by_cases h5 : i % 4 = aAr T n ∧ ¬ aEnd T n k
            · rw [if_pos ⟨by omega, h5.1, h5.2⟩, ud_over, aLn_zero hi hc h4 h5.1 h5.2]
            · rw [if_neg (fun q => h5 q.2), ud_same]
              exact congrArg (fun z => some (Sum.inl (nI (k + 1), zI z))) (aLn_keep hi h4 h5)
        · rw [if_pos (by rw [nI_leI (by omega) (by omega)]; omega), e221, aLn_same (fun q => h3 (eCd.mp q).2.2)]
      · rw [if_neg (by show ¬ nI (aOw T k) = nI (i / 4); rw [nI_eq (by omega) (by omega)]; exact h2), e221, aLn_same (fun q => h2 (eCd.mp q).2.1)]
    · rw [if_neg (by show ¬ nI (aL T k 4) = nI 1; rw [nI_eq (by omega) (by omega)]; exact h1), e221, aLn_same (fun q => h1 (eCd.mp q).1)]
  · show sX7_learn_85 (nI n) (nI i) (nI st) (nI (i / 4)) (nI (aNL T)) (zI (aLn T n i v st c (aNL T))) = _
    unfold sX7_learn_85
    rw [zl1, gd_in (by omega), nI_cl (by omega), zI_h (by omega), if_pos (by show nI (aNL T) ≤ nI (aNL T); rw [nI_leI (by omega) (by omega)]; omega)]
theorem e_learn (hI : aInv V T) (hV : V < 2 ^ 20) {n i v st c : Nat} (hn : n < 10) (hi : i < 35) (hst : st ≤ 1) (hv : v < 2 ^ 31) : fX7_learn (nI n) (nI i) (nI v) (nI st) (nI c) (zI T) = some (zI (aLearn T n i v st c)) := by
  have hd := hI.db hn hi
  unfold fX7_learn
  rw [e_mayKnow hI hV hn hi]
  simp only [Option.bind_some]
  rw [ite_bI]
  by_cases h1 : aMk T n i
  · rw [if_pos h1, zl0, e_fact hn hi (by omega)]
    simp only [Option.bind_some]
    by_cases h2 : T.2 n i 0 < v
    · have e : aLearn T n i v st c = aLn T n i v st c (aNL T) := if_pos ⟨h1, h2⟩
      rw [e, if_pos (by rw [nI_ltI (by omega) hv]; exact h2), e_at]
      simp only [Option.bind_some]
      rw [zl1, zl2, zl3, nI_add, nI_add, nI_add, nI_add, gd_in (by omega), gd_in (by omega), gd_in (by omega), gd_in (by omega), nI_cl (by omega), nI_cl (by omega), nI_cl (by omega), nI_cl (by omega), upd_d hi (by omega), upd_d (T := (T.1, _)) hi (by omega), upd_d (T := (T.1, _)) hi (by omega), upd_d (T := (T.1, _)) hi (by omega)]
      dsimp only
      rw [aLn_0]
      by_cases h3 : i < 16
      · rw [if_pos (by rw [zl16, nI_ltI (by omega) (by omega)]; exact h3), nm_eq, zl4, pk_div (by omega) (by omega) (by omega)]
        exact e_learn_85 hI hV hn h3 hst
      · rw [if_neg (by rw [zl16, nI_ltI (by omega) (by omega)]; exact h3)]
        exact congrArg (fun z => some (zI z)) (aLn_ge (by omega)).symm
    · have e : aLearn T n i v st c = T := if_neg (fun q => h2 q.2)
      rw [e, if_neg (by rw [nI_ltI (by omega) hv]; exact h2)]
  · have e : aLearn T n i v st c = T := if_neg (fun q => h1 q.1)
    rw [if_neg h1, e]
end P23
