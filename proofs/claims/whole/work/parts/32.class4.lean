section P32
variable {T : zA} {V : Nat}
theorem c_setGrant (hI : aInv V T) (hV : V + 1 < 2 ^ 20) {N : zNet} (hR : aRel T N) {o b on : Nat} (ho : o < 4) (hb : b < 4) (hob : o ≠ b) (hon : on ≤ 1) : ∃ q, fX3_changeGrant (nI o) (nI b) (nI on) N.1 N.2.1 N.2.2.2.2.1 N.2.2.2.2.2.1 N.2.2.2.2.2.2.1 N.2.2.2.2.2.2.2.1 N.2.2.2.2.2.2.2.2.2.2.1 N.2.2.2.2.2.2.2.2.2.2.2.1 N.2.2.2.2.2.2.2.2.2.2.2.2 = some q ∧ q.1 = nI (aGv T (4 * o + b) + 1) ∧ aRel (aChG T o b on) (N.1, N.2.1, N.2.2.1, N.2.2.2.1, N.2.2.2.2.1, N.2.2.2.2.2.1, N.2.2.2.2.2.2.1, N.2.2.2.2.2.2.2.1, N.2.2.2.2.2.2.2.2.1, N.2.2.2.2.2.2.2.2.2.1, q.2.1, q.2.2.1, q.2.2.2) := by
  obtain ⟨r1, r2, r3, r4, r5, r6, r7, r8, r9, r10⟩ := hR
  have h1 := hI.1
  generalize hi : 4 * o + b = i
  have hi16 : i < 16 := by omega
  have hid : ¬ i / 4 = i % 4 := by omega
  have hI2 : aInv (V + 1) (aSG T i on) := aSG_inv hI hi16 hid hon
  have hg := hI.2.2.2.2.2.2.1 i hi16
  have eN : aNN (aSG T i on) = aNN T := aSG_ot (by omega) (by omega)
  have eL : aNL (aSG T i on) = aNL T := aSG_ot (by omega) (by omega)
  have eT : aNT (aSG T i on) = aNT T := aSG_ot (by omega) (by omega)
  have eM : aMS (aSG T i on) = aMS T := aSG_ot (by omega) (by omega)
  have eAr : ∀ n, n < 10 → aAr (aSG T i on) n = aAr T n := fun n hn => aSG_ot (by omega) (by omega)
  have eLk : ∀ k' p, aL (aSG T i on) k' p = aL T k' p := fun k' p => aSG_ot (by omega) (by omega)
  have eTk : ∀ k' p, aT (aSG T i on) k' p = aT T k' p := fun k' p => aSG_ot (by omega) (by omega)
  have hA : rA (aSG T i on) N.2.2.2.2.1 := by
    intro n hn
    rw [eAr n (by omega)]
    exact r5 n (by omega)
  have hL : rL (aSG T i on) N.2.2.2.2.2.1 N.2.2.2.2.2.2.1 N.2.2.2.2.2.2.2.1 := by
    intro k' hk'
    rw [eLk, eLk, eLk]
    exact r6 k' (by omega)
  have ht := r8 i (by omega)
  obtain ⟨t1, t2, t3⟩ := aTx_g (T := T) hi16
  rw [t1, t2, t3] at ht
  have hv1 : 1 ≤ aGv (aSG T i on) i := by rw [aSG_v]; omega
  let truth' := upd N.2.2.2.2.2.2.2.2.2.2.1 i (nI (zpk (aGv T i + 1) on 0))
  have et : truth' i = nI (zpk (aGv T i + 1) on 0) := if_pos rfl
  let step := (fun q : Int32 × (Nat → Int32) × (Nat → Int64) => sX3_changeGrant_20 (nI o) (nI i) (nI (aGv T i + 1)) (nI (aNN T)) (nI (aNL T)) N.2.2.2.2.1 N.2.2.2.2.2.1 N.2.2.2.2.2.2.1 N.2.2.2.2.2.2.2.1 truth' q.1 q.2.1 q.2.2)
  have hs : ∀ m s, m < aNN T → (rF (aGrB (aSG T i on) o i on m) s.1 ∧ rN (aGrB (aSG T i on) o i on m) s.2) → ∃ s', step (nI m, s) = some (.inl (nI (m + 1), s')) ∧ (rF (aGrB (aSG T i on) o i on (m + 1)) s'.1 ∧ rN (aGrB (aSG T i on) o i on (m + 1)) s'.2) := by
    intro m s hm hp
    have hT := aGrB_inv hI2 (o := o) hi16 hid hv1 hon m (by omega)
    have e1 : (aGrB (aSG T i on) o i on m).1 = (aSG T i on).1 := aGrB_1 m
    have enn : aNN (aGrB (aSG T i on) o i on m) = aNN T := (congrFun e1 0).trans eN
    have enl : aNL (aGrB (aSG T i on) o i on m) = aNL T := (congrFun e1 1).trans eL
    have ha : aAr T m < 4 := hI.ar (n := m) (by omega)
    have hea := eAr m (by omega)
    show ∃ s', sX3_changeGrant_20 (nI o) (nI i) (nI (aGv T i + 1)) (nI (aNN T)) (nI (aNL T)) N.2.2.2.2.1 N.2.2.2.2.2.1 N.2.2.2.2.2.2.1 N.2.2.2.2.2.2.2.1 truth' (nI m) s.1 s.2 = some (.inl (nI (m + 1), s')) ∧ _
    unfold sX3_changeGrant_20
    have e55 : ∀ x y, uX3_changeGrant_55 (nI m) x y = some (.inl (nI (m + 1), x, y)) := fun x y => by unfold uX3_changeGrant_55; rw [nm_eq, zl1, nI_add]
    rw [ite_leN (by omega) (by omega), if_neg (by omega), gd_in (by omega), nI_cl (by omega), r5 m hm, ite_eqN (by omega) (by omega)]
    rw [show aGrB (aSG T i on) o i on (m + 1) = if aAr (aSG T i on) m = o then aLearn (aGrB (aSG T i on) o i on m) m i (aGv (aSG T i on) i) on 0 else aGrB (aSG T i on) o i on m from rfl, hea, aSG_v]
    by_cases h : aAr T m = o
    · rw [if_pos h, if_pos h, gd_in (by omega), nI_cl (by omega), et]
      obtain ⟨q, f1, f2, f3⟩ := c_learn hT hV (rA_of e1.symm hA) (rL_of e1.symm hL) hp.1 hp.2 (n := m) (i := i) (v := aGv T i + 1) (st := on) (c := 0) (by omega) (by omega) (by omega) (by omega) hon (by omega)
      rw [enl] at f1
      rw [f1]
      simp only [Option.bind_some]
      rw [e55]
      exact ⟨(q.1, q.2), rfl, f2, f3⟩
    · rw [if_neg h, if_neg h, e55]
      exact ⟨(s.1, s.2), rfl, hp⟩
  have he : ∀ s, (rF (aGrB (aSG T i on) o i on (aNN T)) s.1 ∧ rN (aGrB (aSG T i on) o i on (aNN T)) s.2) → step (nI (aNN T), s) = oi (some (nI (aGv T i + 1), truth', s.1, s.2)) := by
    intro s hp
    show sX3_changeGrant_20 (nI o) (nI i) (nI (aGv T i + 1)) (nI (aNN T)) (nI (aNL T)) N.2.2.2.2.1 N.2.2.2.2.2.1 N.2.2.2.2.2.2.1 N.2.2.2.2.2.2.2.1 truth' (nI (aNN T)) s.1 s.2 = _
    unfold sX3_changeGrant_20
    rw [ite_leN (by omega) (by omega), if_pos (by omega)]
  obtain ⟨q, g1, g2⟩ := wh_inv step (aNN T) (fun m s => rF (aGrB (aSG T i on) o i on m) s.1 ∧ rN (aGrB (aSG T i on) o i on m) s.2) (fun s => some (nI (aGv T i + 1), truth', s.1, s.2)) hs he 0 (N.2.2.2.2.2.2.2.2.2.2.2.1, N.2.2.2.2.2.2.2.2.2.2.2.2) (by omega) ⟨rF_of (A := T) rfl r9, rN_of (A := T) rfl r10⟩
  have ec : fX3_changeGrant (nI o) (nI b) (nI on) N.1 N.2.1 N.2.2.2.2.1 N.2.2.2.2.2.1 N.2.2.2.2.2.2.1 N.2.2.2.2.2.2.2.1 N.2.2.2.2.2.2.2.2.2.2.1 N.2.2.2.2.2.2.2.2.2.2.2.1 N.2.2.2.2.2.2.2.2.2.2.2.2 = some (nI (aGv T i + 1), truth', q.1, q.2) := by
    unfold fX3_changeGrant
    rw [c_grantItem, hi]
    simp only [Option.bind_some]
    rw [zl0, c_change (V := V + 1) (by omega) ht (by omega) hV hg.1 (by omega) hon (by omega)]
    simp only [Option.bind_some]
    rw [r1, r2]
    exact g2
  have e1 : (aChG T o b on).1 = (aSG T i on).1 := by rw [aChG_eq, hi]; exact aGrB_1 _
  have eG : aChG T o b on = aGrB (aSG T i on) o i on (aNN T) := by rw [aChG_eq, hi]
  refine ⟨_, ec, rfl, ?_⟩
  refine ⟨?_, ?_, ?_, ?_, rA_of e1.symm hA, rL_of e1.symm hL, ?_, ?_, ?_, ?_⟩
  · show N.1 = nI (aNN _); rw [show aNN (aChG T o b on) = aNN (aSG T i on) from congrFun e1 0, eN]; exact r1
  · show N.2.1 = nI (aNL _); rw [show aNL (aChG T o b on) = aNL (aSG T i on) from congrFun e1 1, eL]; exact r2
  · show N.2.2.1 = nI (aNT _); rw [show aNT (aChG T o b on) = aNT (aSG T i on) from congrFun e1 2, eT]; exact r3
  · show N.2.2.2.1 = nI (aMS _); rw [show aMS (aChG T o b on) = aMS (aSG T i on) from congrFun e1 3, eM]; exact r4
  · refine rT_of e1.symm (fun k' hk' => ?_)
    rw [eTk, eTk]
    exact r7 k' (by omega)
  · refine rU_of e1.symm ?_
    obtain ⟨y1, y2, y3⟩ := aTx_g (T := aSG T i on) hi16
    refine rU_upd r8 ⟨by rw [y1, aSG_v], by rw [y2, aSG_g], y3⟩ (fun j hj hji => aTx_same hj (fun h => ⟨aSG_ot (by omega) (by omega), aSG_ot (by omega) (by omega)⟩) (fun _ _ p _ => eLk _ p) (fun _ p _ => eTk _ p))
  · rw [eG]; exact g1.1
  · rw [eG]; exact g1.2
end P32
