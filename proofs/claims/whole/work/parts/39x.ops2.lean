/-! Rounds and undo. -/
section P39x
variable {V : Nat} {X : zX} {M : zM} {T : zA}
theorem rnd_min (hI : aInv V T) {r K : Nat} (hq : aQuiet (aRnd T K)) : aRnd T (min r K) = aRnd T r := by
  by_cases h : r ≤ K
  · rw [Nat.min_eq_left h]
  · rw [Nat.min_eq_right (by omega)]
    obtain ⟨d, rfl⟩ : ∃ d, r = K + d := ⟨r - K, by omega⟩
    rw [aRnd_add, quiet_rnd (aRnd_inv hI K) hq]
theorem op_step (hV : V ≤ 2000) (h : zRel V X M) (x : Int32) : zOp V (gX_step X x) (gM_step M x) := by
  obtain ⟨T, S, sz, tl, ⟨n1, n2, n3⟩, ⟨s1, s2, s3⟩, ⟨t1, t2, t3, t4⟩, ⟨w1, w2⟩⟩ := h
  have hb := n1.1
  have hq : fX3_isQuiet X.2.1.1 X.2.1.2.2.2.2.2.2.2.2.2.2.2.2 = some (bI (aQuiet T)) := by rw [n2.1]; exact c_isQuiet n1 n2.2.2.2.2.2.2.2.2.2
  unfold gX_step gM_step fX6_step fX7_step
  rw [n3, hq, e_isQuiet n1, show fX7_in x (1 : Int32) (40 : Int32) = some (bI (oN x (nI 1) (nI 40))) from e_in3, show (1 : Int32) = nI 1 from zl1, show (40 : Int32) = nI 40 from zl40]
  simp only [Option.bind_some, ite_bI]
  by_cases h1 : oN x (nI 1) (nI 40)
  · obtain ⟨r, hr1, hr, rfl⟩ := (oN_ex (by omega) (by omega)).mp h1
    rw [if_pos h1, if_neg h1.1, if_pos (nI_le hr (by omega))]
    by_cases h2 : aQuiet T
    · rw [if_pos h2, if_pos h2]
      exact ⟨_, _, rfl, rfl, rfl, T, S, sz, tl, ⟨n1, n2, rfl⟩, ⟨s1, s2, s3⟩, ⟨t1, t2, t3, t4⟩, w1, w2⟩
    · rw [if_neg h2, if_neg h2]
      obtain ⟨S', sz', saved', as', hF', hG', hN', p1, p2, p3⟩ := h_act n1 n2 s3 (aside := M.2.2.2.2.1)
      obtain ⟨K, k1, k2, k3⟩ := ends n1
      obtain ⟨q, c1, c2, c3⟩ := c_passRounds n1 (by omega) (r := r) (by omega) (K := K) (by omega) k2 k3 (sf := X.2.2.2.2.1.1) (sn := X.2.2.2.2.1.2) n2
      obtain ⟨m', e1⟩ := e_step_40 n1 (by omega) (v2 := nI (aMS T)) (th := 0) (sv := saved') (sm_ := nI sz') (as_ := as') (iw := 0) (r := r) (by omega) (m := M.2.2.2.2.2.1)
      rw [rnd_min n1 k2] at c3
      rw [s1, s2, p1, p2, Option.bind_some, c1, Option.bind_some, Option.bind_some, Option.bind_some, show vp_in (3 : Int32) 1557 = vp_in (nI 3) 1557 from rfl, gd_in (by omega), show (3 : Int32).toNatClampNeg = 3 from rfl, zI_h (by omega), nm_eq]
      rw [show lX7_step_40 (nI r) (nI (T.1 3)) 0 saved' (nI sz') as' 0 0 (zI T) M.2.2.2.2.2.1 = some (nI (aMS (aRnd T r)) - nI (aMS T), 0, zI (aRnd T r), saved', nI sz', as', m', 0) from e1, Option.bind_some]
      refine ⟨_, _, rfl, rfl, ?_, aRnd T r, S', sz', tl, ⟨aRnd_inv n1 r, c3, rfl⟩, ⟨rfl, rfl, p3⟩, ⟨t1, t2, t3, t4⟩, rfl, Or.inl rfl⟩
      show q.2.2.2.1 - X.2.1.2.2.2.1 = nI (aMS (aRnd T r)) - nI (aMS T)
      rw [n2.2.2.2.1, show q.2.2.2.1 = nI (aMS (aRnd T r)) from c3.2.2.2.1]
  · rw [if_neg h1]
    by_cases h2 : x < nI 1
    · rw [if_pos h2]
      exact ⟨_, _, rfl, rfl, rfl, T, S, sz, tl, ⟨n1, n2, rfl⟩, ⟨s1, s2, s3⟩, ⟨t1, t2, t3, t4⟩, w1, w2⟩
    · rw [if_neg h2, if_neg (fun q => h1 ⟨h2, Int32.not_lt.mpr q⟩)]
      exact ⟨_, _, rfl, rfl, rfl, T, S, sz, tl, ⟨n1, n2, rfl⟩, ⟨s1, s2, s3⟩, ⟨t1, t2, t3, t4⟩, w1, w2⟩
theorem op_settle (hV : V ≤ 2000) (h : zRel V X M) : zOp V (gX_settle X) (gM_settle M) := by
  obtain ⟨T, S, sz, tl, ⟨n1, n2, n3⟩, ⟨s1, s2, s3⟩, ⟨t1, t2, t3, t4⟩, ⟨w1, w2⟩⟩ := h
  have hb := n1.1
  have hq : fX3_isQuiet X.2.1.1 X.2.1.2.2.2.2.2.2.2.2.2.2.2.2 = some (bI (aQuiet T)) := by rw [n2.1]; exact c_isQuiet n1 n2.2.2.2.2.2.2.2.2.2
  unfold gX_settle gM_settle fX6_settle fX7_settle
  rw [n3, hq, e_isQuiet n1]
  simp only [Option.bind_some, ite_bI]
  by_cases h2 : aQuiet T
  · rw [if_pos h2, if_pos h2]
    exact ⟨_, _, rfl, rfl, rfl, T, S, sz, tl, ⟨n1, n2, rfl⟩, ⟨s1, s2, s3⟩, ⟨t1, t2, t3, t4⟩, w1, w2⟩
  · rw [if_neg h2, if_neg h2]
    obtain ⟨S', sz', saved', as', hF', hG', hN', p1, p2, p3⟩ := h_act n1 n2 s3 (aside := M.2.2.2.2.1)
    obtain ⟨K, k1, k2, k3⟩ := ends n1
    obtain ⟨q, c1, c2, c3⟩ := c_passRounds n1 (by omega) (r := 1000000) (by omega) (K := K) (by omega) k2 k3 (sf := X.2.2.2.2.1.1) (sn := X.2.2.2.2.1.2) n2
    obtain ⟨m', e1⟩ := e_settleAll n1 (by omega) k2 k3 (m := M.2.2.2.2.2.1)
    rw [Nat.min_eq_right (show K ≤ 1000000 by omega)] at c2 c3
    rw [s1, s2, p1, p2, Option.bind_some, show (1000000 : Int32) = nI 1000000 from zl1000000, c1, e1]
    exact ⟨_, _, rfl, rfl, c2, aRnd T K, S', sz', tl, ⟨aRnd_inv n1 K, c3, rfl⟩, ⟨rfl, rfl, p3⟩, ⟨t1, t2, t3, t4⟩, rfl, Or.inl rfl⟩
theorem op_roundsToQuiet (hV : V ≤ 2000) (h : zRel V X M) : zOp V (gX_roundsToQuiet X) (gM_roundsToQuiet M) := by
  obtain ⟨T, S, sz, tl, ⟨n1, n2, n3⟩, ⟨s1, s2, s3⟩, ⟨t1, t2, t3, t4⟩, ⟨w1, w2⟩⟩ := h
  have hb := n1.1
  unfold gX_roundsToQuiet gM_roundsToQuiet fX6_roundsToQuiet fX7_roundsToQuiet
  obtain ⟨K, k1, k2, k3⟩ := ends n1
  obtain ⟨N, b1, b2⟩ := c_copyFrom n1 (N := X.2.2.1) n2
  obtain ⟨q, c1, c2, c3⟩ := c_passRounds n1 (by omega) (r := 1000000) (by omega) (K := K) (by omega) k2 k3 (sf := X.2.2.2.2.1.1) (sn := X.2.2.2.2.1.2) b2
  obtain ⟨m', e1⟩ := e_settleAll n1 (by omega) k2 k3 (m := M.2.2.2.2.2.1)
  rw [Nat.min_eq_right (show K ≤ 1000000 by omega)] at c2 c3
  rw [b1, Option.bind_some, show (1000000 : Int32) = nI 1000000 from zl1000000, c1, n3, e1, e_copy_aside_s, Option.bind_some, Option.bind_some, Option.bind_some, Option.bind_some, e_copy_s_aside]
  obtain ⟨B, d1, d2⟩ := zI_lift (A := T) (m := fun j => if j < 1557 then (if j < 1557 then zI T j else M.2.2.2.2.1 j) else zI (aRnd T K) j) (fun j hj => by
    rw [if_pos hj, if_pos hj])
  exact ⟨_, _, rfl, rfl, c2, B, S, sz, tl, ⟨d2.inv n1, d2.rel n1 n2, d1⟩, ⟨s1, s2, s3⟩, ⟨t1, t2, t3, t4⟩, w1, w2⟩
theorem e_undo_27 {t : Int32} {sv s : Nat → Int32} {k : Nat} (hk : k < 5) : lX7_undo_27 t sv (nI k) 0 s = some (nI k, t, fun j => if j < 1557 then sv (1557 * k + j) else s j, nI k, 0) := by
  have e0 : ((0 : Int32), s) = (nI 0, fun j => if j < 0 then sv (1557 * k + j) else s j) := by
    refine Prod.ext zl0 (funext fun j => ?_)
    dsimp only
    rw [if_neg (by omega)]
  show wh _ ((0 : Int32), s) = _
  rw [e0]
  refine wh_seq _ 1557 (fun i => (nI i, fun j => if j < i then sv (1557 * k + j) else s j)) _ (fun i hi => ?_) ?_
  · show sX7_undo_27 t sv (nI k) (nI i) (fun j => if j < i then sv (1557 * k + j) else s j) = _
    unfold sX7_undo_27
    rw [zl1557, ite_leN (by omega) (by omega), if_neg (by omega), pk_mul, nI_add, gd_in (by omega), gd_in (by omega), nm_eq, nI_1, nI_cl (show i < 2 ^ 31 by omega), nI_cl (by omega)]
    refine congrArg (fun z => some (Sum.inl (nI (i + 1), z))) (funext fun j => ?_)
    unfold upd
    by_cases h1 : j = i
    · subst h1
      rw [if_pos rfl, if_pos (by omega)]
    · rw [if_neg h1]
      dsimp only
      by_cases h2 : j < i
      · rw [if_pos h2, if_pos (by omega)]
      · rw [if_neg h2, if_neg (by omega)]
  · show sX7_undo_27 t sv (nI k) (nI 1557) (fun j => if j < 1557 then sv (1557 * k + j) else s j) = _
    unfold sX7_undo_27
    rw [zl1557, if_pos (nI_le (Nat.le_refl _) (by omega))]
    rfl
theorem op_undo (h : zRel V X M) : zOp V (gX_undo X) (gM_undo M) := by
  obtain ⟨T, S, sz, tl, ⟨n1, n2, n3⟩, ⟨s1, s2, s3⟩, ⟨t1, t2, t3, t4⟩, ⟨w1, w2⟩⟩ := h
  have hb := n1.1
  obtain ⟨u1, u2, u3⟩ := s3
  unfold gX_undo gM_undo fX6_undo fX7_undo
  by_cases h0 : sz = 0
  · rw [if_pos (show X.1.1 = 0 by rw [s1, h0]; rfl), if_pos (show M.2.2.2.1 = 0 by rw [s2, h0]; rfl)]
    exact ⟨_, _, rfl, rfl, rfl, T, S, sz, tl, ⟨n1, n2, n3⟩, ⟨s1, s2, u1, u2, u3⟩, ⟨t1, t2, t3, t4⟩, w1, w2⟩
  · obtain ⟨m, rfl⟩ : ∃ m, sz = m + 1 := ⟨sz - 1, by omega⟩
    rw [if_neg (show ¬ X.1.1 = 0 by rw [s1]; exact nI_ne0 (by omega) (by omega)), if_neg (show ¬ M.2.2.2.1 = 0 by rw [s2]; exact nI_ne0 (by omega) (by omega)), s1, s2, nI_pred, gd_in (by omega), nI_cl (by omega), nm_eq, gd_t (show m < 5 by omega), gd_t (u3 m (by omega)), e_undo_27 (by omega)]
    obtain ⟨g1, g2, g3⟩ := u2 m (by omega)
    obtain ⟨K, k1, k2⟩ := c_copyFrom g1 (N := X.2.1) g3
    obtain ⟨B, d1, d2⟩ := zI_lift (A := S m) (m := fun j => if j < 1557 then M.2.2.1 (1557 * m + j) else M.2.1 j) (fun j hj => by
      rw [if_pos hj]; exact g2 j hj)
    rw [k1]
    exact ⟨_, _, rfl, rfl, rfl, B, S, m, tl, ⟨d2.inv g1, d2.rel g1 k2, d1⟩, ⟨rfl, rfl, by omega, fun q hq => u2 q (by omega), u3⟩, ⟨t1, t2, t3, t4⟩, rfl, Or.inl rfl⟩
end P39x

