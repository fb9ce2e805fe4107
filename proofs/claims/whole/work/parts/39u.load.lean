/-! The text: load. -/
theorem wh_inl {σ ρ : Type} {step : σ → Option (σ ⊕ ρ)} {a b : σ} (h : step a = some (.inl b)) : wh step a = wh step b := by rw [wh_eq, h]
theorem wh_inr {σ ρ : Type} {step : σ → Option (σ ⊕ ρ)} {a : σ} {o : Option ρ} (h : step a = oi o) : wh step a = o := by
  rw [wh_eq, h]
  cases o <;> rfl
abbrev zC : Type := Int32 × Int32 × Int32 × Int32 × Int32 × Int32 × Int32 × Int32 × Int32 × zNet
abbrev zRd : Type := Int32 × Int32 × (Nat → Int32) × (Nat → Int32) × Int32 × (Nat → Int32) × Int32 × Int32 × Int32 × Int32 × Int32 × Int32 × Int64 × Int32
def lQ (L : Nat) (t sm iw : Int32) (sv as : Nat → Int32) (R : Option zRd) (C : Option zC) : Prop :=
  (∃ v e s a c d f, e ≤ 120 ∧ R = uX7_load_80 v t s sv sm as (nI L) iw a (nI e) c d f 1 ∧ ∃ r2, C = some r2 ∧ r2.1 = (-10 : Int32) - nI e) ∨
  (∃ T' v a b c d f, v ≤ 120 ∧ jInv T' ∧ R = uX7_load_80 (nI v) t (zI T') sv sm as (nI L) iw a b c d f 0 ∧ ∃ r2, C = some r2 ∧ r2.1 = nI v ∧ aRel T' r2.2.2.2.2.2.2.2.2.2)
section P39u
variable {tx : Nat → Nat} {L : Nat} {V : Nat}
theorem load_loop {text textX : Nat → Int32} (hX : rX tx L text) (hY : rX tx L textX) {t sm iw ms : Int32} {sv as : Nat → Int32} : ∀ (d p : Nat) (T : zA) (N : zNet) (v : Nat) (b0 b1 b2 b3 : Int32), L - p ≤ d → p ≤ L → v ≤ p → jInv T → aRel T N → N.2.2.2.1 = ms →
    lQ L t sm iw sv as (lX7_load_55 t sv sm as text (nI L) iw (nI v) (zI T) (nI (ee tx L p)) (nI (ss tx L p)) (nI (rt (kk tx L p))) (nu tx L p) (le tx L p) 0) (lX5_readNetwork_20 textX (nI L) ms (nI v) (nI (ss tx L p)) (nI (ee tx L p)) (nI (kk tx L p)) (-1) b0 b1 b2 b3 N.1 N.2.1 N.2.2.1 N.2.2.2.2.1 N.2.2.2.2.2.1 N.2.2.2.2.2.2.1 N.2.2.2.2.2.2.2.1 N.2.2.2.2.2.2.2.2.1 N.2.2.2.2.2.2.2.2.2.1 N.2.2.2.2.2.2.2.2.2.2.1 N.2.2.2.2.2.2.2.2.2.2.2.1 N.2.2.2.2.2.2.2.2.2.2.2.2)
  | d, p, T, N, v, b0, b1, b2, b3, hd, hp, hv, hJ, hR, hm => by
    have hL := hX.1
    have g4 := (ss_spec (tx := tx) (L := L) p).1
    have hk3 : kk tx L p ≤ 3 := kd_le
    by_cases hk : kk tx L p = 0
    · refine Or.inr ⟨T, v, nI (ee tx L p), nI (ss tx L p), nI (rt (kk tx L p)), nu tx L p, le tx L p, by omega, hJ, wh_inr ?_, _, wh_inr (o := some (nI v, nI (ss tx L p), nI (ee tx L p), nI (kk tx L p), -1, b0, b1, b2, b3, N.1, N.2.1, N.2.2.1, ms, N.2.2.2.2)) ?_, rfl, ?_⟩
      · show sX7_load_55 t sv sm as text (nI L) iw (nI v) (zI T) (nI (ee tx L p)) (nI (ss tx L p)) (nI (rt (kk tx L p))) (nu tx L p) (le tx L p) 0 = _
        unfold sX7_load_55
        rw [if_pos rfl, if_pos (by rw [hk]; rfl)]
      · show sX5_readNetwork_20 textX (nI L) ms (nI v) (nI (ss tx L p)) (nI (ee tx L p)) (nI (kk tx L p)) (-1) b0 b1 b2 b3 N.1 N.2.1 N.2.2.1 N.2.2.2.2.1 N.2.2.2.2.2.1 N.2.2.2.2.2.2.1 N.2.2.2.2.2.2.2.1 N.2.2.2.2.2.2.2.2.1 N.2.2.2.2.2.2.2.2.2.1 N.2.2.2.2.2.2.2.2.2.2.1 N.2.2.2.2.2.2.2.2.2.2.2.1 N.2.2.2.2.2.2.2.2.2.2.2.2 = _
        unfold sX5_readNetwork_20
        rw [zl120, ite_leN (by omega) (by omega)]
        by_cases h120 : 120 ≤ v
        · rw [if_pos h120]
        · rw [if_neg h120, if_pos (by rw [hk]; rfl)]
      · rw [← hm]; exact hR
    · have hs := kk_lt hk
      have htk : ¬ nI (rt (kk tx L p)) = (3 : Int32) := by
        rw [zl3, nI_eq (by unfold rt; split <;> omega) (by omega)]
        unfold rt
        split <;> omega
      obtain ⟨r, y, h1, h2, h3⟩ := item hX hY hJ hR hp hk (b1 := b1) (b2 := b2) (b3 := b3)
      have s1 : sX7_load_55 t sv sm as text (nI L) iw (nI v) (zI T) (nI (ee tx L p)) (nI (ss tx L p)) (nI (rt (kk tx L p))) (nu tx L p) (le tx L p) 0 = some (.inl (nI (v + 1), r)) := by
        unfold sX7_load_55
        rw [if_pos rfl, if_neg htk, h1, Option.bind_some, nm_eq, nI_1]
      have s2 : sX5_readNetwork_20 textX (nI L) ms (nI v) (nI (ss tx L p)) (nI (ee tx L p)) (nI (kk tx L p)) (-1) b0 b1 b2 b3 N.1 N.2.1 N.2.2.1 N.2.2.2.2.1 N.2.2.2.2.2.1 N.2.2.2.2.2.2.1 N.2.2.2.2.2.2.2.1 N.2.2.2.2.2.2.2.2.1 N.2.2.2.2.2.2.2.2.2.1 N.2.2.2.2.2.2.2.2.2.2.1 N.2.2.2.2.2.2.2.2.2.2.2.1 N.2.2.2.2.2.2.2.2.2.2.2.2 = (if y.2.2.2.1 = (-1 : Int32) then
          (fX5_addThing y.2.2.2.2.1 y.2.2.2.2.2.1 y.2.2.2.2.2.2.1 y.2.2.2.2.2.2.2 N.1 N.2.1 N.2.2.1 N.2.2.2.2.1 N.2.2.2.2.2.1 N.2.2.2.2.2.2.1 N.2.2.2.2.2.2.2.1 N.2.2.2.2.2.2.2.2.1 N.2.2.2.2.2.2.2.2.2.1 N.2.2.2.2.2.2.2.2.2.2.1 N.2.2.2.2.2.2.2.2.2.2.2.1 N.2.2.2.2.2.2.2.2.2.2.2.2).bind (fun y6 =>
          nm (nI v + (1 : Int32)) (fun w7 =>
          (fX5_takeToken textX (nI L) y.2.1).bind (fun y8 =>
          some (.inl (w7, y8.1, y8.2.1, y8.2.2, y.2.2.2.1, y.2.2.2.2.1, y.2.2.2.2.2.1, y.2.2.2.2.2.2.1, y.2.2.2.2.2.2.2, y6)))))
          else oi (uX5_readNetwork_46 y.1 y.2.1 y.2.2.1 y.2.2.2.1 y.2.2.2.2.1 y.2.2.2.2.2.1 y.2.2.2.2.2.2.1 y.2.2.2.2.2.2.2 N.1 N.2.1 N.2.2.1 ms N.2.2.2.2.1 N.2.2.2.2.2.1 N.2.2.2.2.2.2.1 N.2.2.2.2.2.2.2.1 N.2.2.2.2.2.2.2.2.1 N.2.2.2.2.2.2.2.2.2.1 N.2.2.2.2.2.2.2.2.2.2.1 N.2.2.2.2.2.2.2.2.2.2.2.1 N.2.2.2.2.2.2.2.2.2.2.2.2)) := by
        unfold sX5_readNetwork_20
        rw [zl120, ite_leN (by omega) (by omega), if_neg (show ¬ 120 ≤ v by omega), ite_eq0 (by omega), if_neg hk, h2, Option.bind_some]
      rcases h3 with ⟨e, he, q1, q2, q3⟩ | ⟨T', q, hpq, hq, q1, q2, q3, hJ', m, q4, q5⟩
      · refine Or.inl ⟨nI (v + 1), e, r.1, r.2.1, r.2.2.2.1, r.2.2.2.2.1, r.2.2.2.2.2.1, he, ?_, _, wh_inr (s2.trans (if_neg (by rw [q3]; exact nI_neg (by omega) (by decide)))), by rw [q3]⟩
        refine (wh_inl s1).trans (wh_inr ?_)
        show sX7_load_55 t sv sm as text (nI L) iw (nI (v + 1)) r.1 r.2.1 r.2.2.1 r.2.2.2.1 r.2.2.2.2.1 r.2.2.2.2.2.1 r.2.2.2.2.2.2 = _
        unfold sX7_load_55
        rw [q2, if_neg (by decide), q1]
      · have ih := load_loop hX hY (t := t) (sm := sm) (iw := iw) (ms := ms) (sv := sv) (as := as) (d - 1) q T' (m.1, m.2.1, m.2.2.1, N.2.2.2.1, m.2.2.2.1, m.2.2.2.2.1, m.2.2.2.2.2.1, m.2.2.2.2.2.2.1, m.2.2.2.2.2.2.2.1, m.2.2.2.2.2.2.2.2.1, m.2.2.2.2.2.2.2.2.2.1, m.2.2.2.2.2.2.2.2.2.2.1, m.2.2.2.2.2.2.2.2.2.2.2) (v + 1) y.2.2.2.2.1 y.2.2.2.2.2.1 y.2.2.2.2.2.2.1 y.2.2.2.2.2.2.2 (by omega) hq (by omega) hJ' q5 hm
        rw [q1] at s1
        rw [if_pos q3, q4, Option.bind_some, nm_eq, nI_1, q2, c_takeToken hY hq, Option.bind_some, q3] at s2
        have t1 := wh_inl (step := fun b : Int32 × (Nat → Int32) × Int32 × Int32 × Int32 × Int32 × Int64 × Int32 => sX7_load_55 t sv sm as text (nI L) iw b.1 b.2.1 b.2.2.1 b.2.2.2.1 b.2.2.2.2.1 b.2.2.2.2.2.1 b.2.2.2.2.2.2.1 b.2.2.2.2.2.2.2) (a := (nI v, zI T, nI (ee tx L p), nI (ss tx L p), nI (rt (kk tx L p)), nu tx L p, le tx L p, 0)) s1
        have t2 : (lX5_readNetwork_20 textX (nI L) ms (nI v) (nI (ss tx L p)) (nI (ee tx L p)) (nI (kk tx L p)) (-1) b0 b1 b2 b3 N.1 N.2.1 N.2.2.1 N.2.2.2.2.1 N.2.2.2.2.2.1 N.2.2.2.2.2.2.1 N.2.2.2.2.2.2.2.1 N.2.2.2.2.2.2.2.2.1 N.2.2.2.2.2.2.2.2.2.1 N.2.2.2.2.2.2.2.2.2.2.1 N.2.2.2.2.2.2.2.2.2.2.2.1 N.2.2.2.2.2.2.2.2.2.2.2.2) = _ := wh_inl s2
        show lQ L t sm iw sv as (wh _ (nI v, zI T, nI (ee tx L p), nI (ss tx L p), nI (rt (kk tx L p)), nu tx L p, le tx L p, 0)) _
        rw [t1, t2]
        exact ih
termination_by d p T N v b0 b1 b2 b3 => L - p

end P39u
