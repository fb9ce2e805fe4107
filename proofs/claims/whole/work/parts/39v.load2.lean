/-! load, in both. -/
def zOp (V : Nat) (a : Option (Int32 × zX)) (b : Option (Int32 × zM)) : Prop := ∃ p q, a = some p ∧ b = some q ∧ p.1 = q.1 ∧ zRel V p.2 q.2
abbrev T0 : zA := (fun _ => 0, fun _ _ _ => 0)
theorem t0_inv : aInv 1 T0 := by
  refine ⟨⟨Nat.zero_le _, Nat.zero_le _, Nat.zero_le _⟩, fun n hn => by show 0 < 4; omega, fun k hk => ?_, fun _ _ _ _ _ => rfl, fun k hk => ?_, fun _ _ _ _ _ => rfl, fun i hi => ⟨by show 0 ≤ 1; omega, by show 0 ≤ 1; omega, fun _ => ⟨rfl, rfl⟩⟩, fun _ _ _ _ _ _ _ => rfl, fun n i hn hi => ⟨by show 0 ≤ 1; omega, by show 0 ≤ 1; omega, by show 0 ≤ 40; omega, by show 0 ≤ 1; omega, fun _ => ⟨rfl, rfl, rfl⟩⟩⟩
  · have : k < 0 := hk; omega
  · have : k < 0 := hk; omega
theorem t0_rel {ar fi se pr en ex tr fa : Nat → Int32} {nw : Nat → Int64} (h1 : ∀ j, j < 35 → tr j = 0) (h2 : ∀ j, j < 350 → fa j = 0) (h3 : ∀ j, j < 10 → nw j = 0) : aRel T0 (0, 0, 0, 0, ar, fi, se, pr, en, ex, tr, fa, nw) := by
  refine ⟨rfl, rfl, rfl, rfl, fun n hn => ?_, fun k hk => ?_, fun k hk => ?_, fun i hi => ?_, fun n i hn hi => ?_, fun n j hn hj => ?_⟩
  · have : n < 0 := hn; omega
  · have : k < 0 := hk; omega
  · have : k < 0 := hk; omega
  · have e : zpk (aTv T0 i) (aTs T0 i) (aTc T0 i) = 0 := by
      unfold aTv aTs aTc aGv aGr aL aT zpk
      simp
    rw [e]; exact h1 i hi
  · show fa (n * 35 + i) = nI 0
    exact h2 _ (by omega)
  · show bt (nw n) j = _
    rw [h3 n hn, bt_0]
    exact (decide_eq_false (by rintro ⟨-, h⟩; exact absurd (show (0 : Nat) = 1 from h) (by omega))).symm
section P39v
variable {tx : Nat → Nat} {L : Nat} {T : zA} {V : Nat}
theorem e_load_19 {t sm iw l : Int32} {sv as text s : Nat → Int32} : lX7_load_19 t sv sm as text l iw 0 s = uX7_load_39 t (fun j => if j < 1557 then 0 else s j) sv sm as text l iw := by
  have e0 : ((0 : Int32), s) = (nI 0, fun j => if j < 0 then (0 : Int32) else s j) := by
    refine Prod.ext zl0 (funext fun j => ?_)
    dsimp only
    rw [if_neg (by omega)]
  show wh _ ((0 : Int32), s) = _
  rw [e0]
  refine wh_seq _ 1557 (fun i => (nI i, fun j => if j < i then (0 : Int32) else s j)) _ (fun i hi => ?_) ?_
  · show sX7_load_19 t sv sm as text l iw (nI i) (fun j => if j < i then (0 : Int32) else s j) = _
    unfold sX7_load_19
    rw [zl1557, ite_leN (by omega) (by omega), if_neg (by omega), gd_in (by omega), nm_eq, nI_1, nI_cl (by omega)]
    refine congrArg (fun z => some (Sum.inl (nI (i + 1), z))) (funext fun j => ?_)
    unfold upd
    by_cases h1 : j = i
    · rw [if_pos h1, if_pos (by omega)]
    · rw [if_neg h1]
      dsimp only
      by_cases h2 : j < i
      · rw [if_pos h2, if_pos (by omega)]
      · rw [if_neg h2, if_neg (by omega)]
  · show sX7_load_19 t sv sm as text l iw (nI 1557) (fun j => if j < 1557 then (0 : Int32) else s j) = _
    unfold sX7_load_19
    rw [zl1557, if_pos (nI_le (Nat.le_refl _) (by omega))]
theorem load_both {text textX : Nat → Int32} (hX : rX tx L text) (hY : rX tx L textX) {m_s sv as ar fi se pr en ex tr fa : Nat → Int32} {nw : Nat → Int64} {sm iw b0 b1 b2 b3 : Int32} :
    lQ L 0 sm iw sv (fun j => if j < 1557 then m_s j else as j) (fX7_load m_s sv sm as text (nI L) iw) (fX5_readNetwork textX (nI L) b0 b1 b2 b3 ar fi se pr en ex tr fa nw) := by
  unfold fX7_load fX5_readNetwork fX3_makeEmpty
  obtain ⟨z1, c1, d1⟩ := c_fillI (f := tr) (v := 0) (N := 35) (by omega)
  obtain ⟨z2, c2, d2⟩ := c_fillI (f := fa) (v := 0) (N := 350) (by omega)
  obtain ⟨z3, c3, d3⟩ := c_fillL (f := nw) (N := 10) (by omega)
  rw [e_copy_aside_s, Option.bind_some, e_load_19, c1, Option.bind_some, c2, Option.bind_some, c3, Option.bind_some, Option.bind_some]
  unfold uX7_load_39
  rw [zl0, e_read hX (Nat.zero_le _), Option.bind_some, c_takeToken hY (Nat.zero_le _), Option.bind_some]
  obtain ⟨B, e1, e2⟩ := zI_lift (A := T0) (m := fun j => if j < 1557 then nI 0 else m_s j) (fun j hj => by
    show (if j < 1557 then nI 0 else m_s j) = _
    rw [if_pos hj]
    unfold zI flA
    split <;> rfl)
  rw [e1]
  have hI := e2.inv t0_inv
  have hJ : jInv B := ⟨hI, fun i hi => by
    have a1 : aGv T0 i = aGv B i := e2.1 _ (by omega)
    have a2 : aGr T0 i = aGr B i := e2.1 _ (by omega)
    rw [← a1, ← a2]⟩
  have hR := e2.rel t0_inv (t0_rel (ar := ar) (fi := fi) (se := se) (pr := pr) (en := en) (ex := ex) d1 d2 d3)
  exact load_loop hX hY (L - 0) 0 B _ 0 b0 b1 b2 b3 (Nat.le_refl _) (Nat.zero_le _) (Nat.le_refl _) hJ hR rfl
theorem op_load {X : zX} {M : zM} (hV1 : 1 ≤ V) (h : zRel V X M) : zOp V (gX_load X) (gM_load M) := by
  obtain ⟨T, S, sz, tl, ⟨n1, n2, n3⟩, ⟨s1, s2, s3⟩, ⟨t1, t2, t3, t4⟩, ⟨w1, w2⟩⟩ := h
  have neg : ∀ e, e < 121 → ¬ (0 : Int32) ≤ -10 - nI e := by decide +kernel
  have hX : rX (fun j => (M.2.2.2.2.2.2.1 j).toNatClampNeg) tl M.2.2.2.2.2.2.1 := ⟨t1, fun j hj => by
    obtain ⟨c, c1, c2, c3, c4⟩ := t4 j hj
    dsimp only
    rw [c4, nI_cl (by omega)]
    exact ⟨c1, c2, rfl⟩⟩
  have hY : rX (fun j => (M.2.2.2.2.2.2.1 j).toNatClampNeg) tl X.2.2.2.1.1 := ⟨t1, fun j hj => by
    obtain ⟨c, c1, c2, c3, c4⟩ := t4 j hj
    dsimp only
    rw [c4, nI_cl (by omega), c3]
    exact ⟨c1, c2, rfl⟩⟩
  unfold gX_load gM_load fX6_load
  rw [t2, t3]
  rcases load_both hX hY (m_s := M.2.1) (sv := M.2.2.1) (sm := M.2.2.2.1) (as := M.2.2.2.2.1) (iw := M.2.2.2.2.2.2.2.2.2.2.2.1) (b0 := X.2.2.2.1.2.2.2.2.2.2.1) (b1 := X.2.2.2.1.2.2.2.2.2.2.2.1) (b2 := X.2.2.2.1.2.2.2.2.2.2.2.2.1) (b3 := X.2.2.2.1.2.2.2.2.2.2.2.2.2) (ar := X.2.2.1.2.2.2.2.1) (fi := X.2.2.1.2.2.2.2.2.1) (se := X.2.2.1.2.2.2.2.2.2.1) (pr := X.2.2.1.2.2.2.2.2.2.2.1) (en := X.2.2.1.2.2.2.2.2.2.2.2.1) (ex := X.2.2.1.2.2.2.2.2.2.2.2.2.1) (tr := X.2.2.1.2.2.2.2.2.2.2.2.2.2.1) (fa := X.2.2.1.2.2.2.2.2.2.2.2.2.2.2.1) (nw := X.2.2.1.2.2.2.2.2.2.2.2.2.2.2.2) with ⟨v, e, s, a, c, d, f, he, q1, r2, q2, q3⟩ | ⟨T', v, a, b, c, d, f, hv, hJ, q1, r2, q2, q3, q4⟩
  · rw [q1, q2, Option.bind_some, if_neg (by rw [q3]; exact neg e (by omega)), Option.bind_some]
    unfold uX7_load_80
    rw [if_neg (by decide), e_copy_s_aside, Option.bind_some, Option.bind_some]
    obtain ⟨B, e1, e2⟩ := zI_lift (A := T) (m := fun j => if j < 1557 then (if j < 1557 then M.2.1 j else M.2.2.2.2.1 j) else s j) (fun j hj => by
      rw [if_pos hj, if_pos hj, n3])
    exact ⟨_, _, rfl, rfl, q3, B, S, sz, tl, ⟨e2.inv n1, e2.rel n1 n2, e1⟩, ⟨s1, s2, s3⟩, ⟨t1, rfl, rfl, t4⟩, ⟨w1, w2⟩⟩
  · rw [q1, q2, Option.bind_some, if_pos (by rw [q3]; exact nI_pos' (by omega))]
    unfold uX7_load_80
    obtain ⟨S', sz', saved', hF', hG', hN', p1, p2, p3⟩ := h_save n1 n2 s3 (aside := fun j => if j < 1557 then M.2.1 j else M.2.2.2.2.1 j) (fun j hj => by
      rw [if_pos hj, n3])
    obtain ⟨K, k1, k2⟩ := c_copyFrom hJ.1 (N := X.2.1) q4
    rw [if_pos rfl, s1, s2, p1, p2, Option.bind_some, Option.bind_some, k1]
    exact ⟨_, _, rfl, rfl, q3, T', S', sz', 0, ⟨hJ.1.mono hV1, k2, rfl⟩, ⟨rfl, rfl, p3⟩, ⟨by omega, rfl, rfl, fun j hj => by omega⟩, ⟨rfl, Or.inl rfl⟩⟩
end P39v
