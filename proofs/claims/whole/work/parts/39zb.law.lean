/-! The law's loop: every call is answered alike. -/
section P39zb
variable {V : Nat} {X : zX} {M : zM}
theorem z_in {i L : Nat} (hi : i + 5 ≤ L) (hL : L ≤ 2560) : vp_in (nI i + 1) L ∧ vp_in (nI i + 2) L ∧ vp_in (nI i + 3) L ∧ vp_in (nI i + 4) L := by
  rw [show (1 : Int32) = nI 1 from zl1, show (2 : Int32) = nI 2 from zl2, show (3 : Int32) = nI 3 from zl3, show (4 : Int32) = nI 4 from zl4, nI_add, nI_add, nI_add, nI_add]
  exact ⟨vp_in_nI (by omega) (by omega), vp_in_nI (by omega) (by omega), vp_in_nI (by omega) (by omega), vp_in_nI (by omega) (by omega)⟩
theorem z_call {i : Nat} {A : Option (Int32 × zX)} {B : Option (Int32 × zM)} (h : zOp V A B) :
    ∃ X' M', A.bind (fun a => B.bind (fun b => if a.1 = b.1 then nm (nI i + (5 : Int32)) (fun j => (some (.inl (j, a.2, b.2)) : Option ((Int32 × zX × zM) ⊕ Int32))) else oi (some (0 : Int32)))) = some (.inl (nI (i + 5), X', M')) ∧ zRel V X' M' := by
  obtain ⟨p, q, rfl, rfl, e, hr⟩ := h
  refine ⟨p.2, q.2, ?_, hr⟩
  rw [Option.bind_some, Option.bind_some, if_pos e, nm_eq, show (5 : Int32) = nI 5 from zl5, nI_add]
def zGo (V i : Nat) (o : Option ((Int32 × zX × zM) ⊕ Int32)) : Prop := ∃ X' M', o = some (.inl (nI (i + 5), X', M')) ∧ zRel V X' M'
theorem z_go0 {i L : Nat} (xs : Nat → Int32) (hi : i + 5 ≤ L) (hL : L ≤ 2560) (h1 : 1 ≤ V) (hV : V ≤ 2000) (h : zRel V X M) : zGo (V + 1) i (aL_0 L xs (nI i) X M) := by
  obtain ⟨g1, g2, g3, g4⟩ := z_in hi hL
  unfold aL_0
  simp only [gd_t g1]
  exact z_call (zOp.mono (op_addNode h _) (by omega))
theorem z_go1 {i L : Nat} (xs : Nat → Int32) (hi : i + 5 ≤ L) (hL : L ≤ 2560) (h1 : 1 ≤ V) (hV : V ≤ 2000) (h : zRel V X M) : zGo (V + 1) i (aL_1 L xs (nI i) X M) := by
  obtain ⟨g1, g2, g3, g4⟩ := z_in hi hL
  unfold aL_1
  simp only [gd_t g1, gd_t g2, gd_t g3, gd_t g4]
  exact z_call (zOp.mono (op_addLink (by omega) (by omega) h _ _ _ _) (by omega))
theorem z_go2 {i L : Nat} (xs : Nat → Int32) (hi : i + 5 ≤ L) (hL : L ≤ 2560) (h1 : 1 ≤ V) (hV : V ≤ 2000) (h : zRel V X M) : zGo (V + 1) i (aL_2 L xs (nI i) X M) := by
  obtain ⟨g1, g2, g3, g4⟩ := z_in hi hL
  unfold aL_2
  simp only [gd_t g1, gd_t g2, gd_t g3]
  exact z_call (zOp.mono (op_setLink (by omega) h _ _ _) (by omega))
theorem z_go3 {i L : Nat} (xs : Nat → Int32) (hi : i + 5 ≤ L) (hL : L ≤ 2560) (h1 : 1 ≤ V) (hV : V ≤ 2000) (h : zRel V X M) : zGo (V + 1) i (aL_3 L xs (nI i) X M) := by
  obtain ⟨g1, g2, g3, g4⟩ := z_in hi hL
  unfold aL_3
  simp only [gd_t g1, gd_t g2, gd_t g3]
  exact z_call (zOp.mono (op_setGrant (by omega) h _ _ _) (by omega))
theorem z_go4 {i L : Nat} (xs : Nat → Int32) (hi : i + 5 ≤ L) (hL : L ≤ 2560) (h1 : 1 ≤ V) (hV : V ≤ 2000) (h : zRel V X M) : zGo (V + 1) i (aL_4 L xs (nI i) X M) := by
  obtain ⟨g1, g2, g3, g4⟩ := z_in hi hL
  unfold aL_4
  simp only [gd_t g1, gd_t g2, gd_t g3]
  exact z_call (zOp.mono (op_addTunnel (by omega) (by omega) h _ _ _) (by omega))
theorem z_go5 {i L : Nat} (xs : Nat → Int32) (hi : i + 5 ≤ L) (hL : L ≤ 2560) (h1 : 1 ≤ V) (hV : V ≤ 2000) (h : zRel V X M) : zGo (V + 1) i (aL_5 L xs (nI i) X M) := by
  obtain ⟨g1, g2, g3, g4⟩ := z_in hi hL
  unfold aL_5
  simp only [gd_t g1, gd_t g2, gd_t g3]
  exact z_call (zOp.mono (op_setTunnel (by omega) h _ _ _) (by omega))
theorem z_go6 {i L : Nat} (xs : Nat → Int32) (hi : i + 5 ≤ L) (hL : L ≤ 2560) (h1 : 1 ≤ V) (hV : V ≤ 2000) (h : zRel V X M) : zGo (V + 1) i (aL_6 L xs (nI i) X M) := by
  obtain ⟨g1, g2, g3, g4⟩ := z_in hi hL
  unfold aL_6
  simp only [gd_t g1]
  exact z_call (zOp.mono (op_append h _) (by omega))
theorem z_go7 {i L : Nat} (xs : Nat → Int32) (hi : i + 5 ≤ L) (hL : L ≤ 2560) (h1 : 1 ≤ V) (hV : V ≤ 2000) (h : zRel V X M) : zGo (V + 1) i (aL_7 L xs (nI i) X M) := by
  obtain ⟨g1, g2, g3, g4⟩ := z_in hi hL
  unfold aL_7
  skip
  exact z_call (zOp.mono (op_clearText h ) (by omega))
theorem z_go8 {i L : Nat} (xs : Nat → Int32) (hi : i + 5 ≤ L) (hL : L ≤ 2560) (h1 : 1 ≤ V) (hV : V ≤ 2000) (h : zRel V X M) : zGo (V + 1) i (aL_8 L xs (nI i) X M) := by
  obtain ⟨g1, g2, g3, g4⟩ := z_in hi hL
  unfold aL_8
  skip
  exact z_call (zOp.mono (op_load (by omega) h ) (by omega))
theorem z_go9 {i L : Nat} (xs : Nat → Int32) (hi : i + 5 ≤ L) (hL : L ≤ 2560) (h1 : 1 ≤ V) (hV : V ≤ 2000) (h : zRel V X M) : zGo (V + 1) i (aL_9 L xs (nI i) X M) := by
  obtain ⟨g1, g2, g3, g4⟩ := z_in hi hL
  unfold aL_9
  simp only [gd_t g1]
  exact z_call (zOp.mono (op_step (by omega) h _) (by omega))
theorem z_go10 {i L : Nat} (xs : Nat → Int32) (hi : i + 5 ≤ L) (hL : L ≤ 2560) (h1 : 1 ≤ V) (hV : V ≤ 2000) (h : zRel V X M) : zGo (V + 1) i (aL_10 L xs (nI i) X M) := by
  obtain ⟨g1, g2, g3, g4⟩ := z_in hi hL
  unfold aL_10
  skip
  exact z_call (zOp.mono (op_settle (by omega) h ) (by omega))
theorem z_go11 {i L : Nat} (xs : Nat → Int32) (hi : i + 5 ≤ L) (hL : L ≤ 2560) (h1 : 1 ≤ V) (hV : V ≤ 2000) (h : zRel V X M) : zGo (V + 1) i (aL_11 L xs (nI i) X M) := by
  obtain ⟨g1, g2, g3, g4⟩ := z_in hi hL
  unfold aL_11
  skip
  exact z_call (zOp.mono (op_roundsToQuiet (by omega) h ) (by omega))
theorem z_go12 {i L : Nat} (xs : Nat → Int32) (hi : i + 5 ≤ L) (hL : L ≤ 2560) (h1 : 1 ≤ V) (hV : V ≤ 2000) (h : zRel V X M) : zGo (V + 1) i (aL_12 L xs (nI i) X M) := by
  obtain ⟨g1, g2, g3, g4⟩ := z_in hi hL
  unfold aL_12
  skip
  exact z_call (zOp.mono (op_undo h ) (by omega))
theorem z_go13 {i L : Nat} (xs : Nat → Int32) (hi : i + 5 ≤ L) (hL : L ≤ 2560) (h1 : 1 ≤ V) (hV : V ≤ 2000) (h : zRel V X M) : zGo (V + 1) i (aL_13 L xs (nI i) X M) := by
  obtain ⟨g1, g2, g3, g4⟩ := z_in hi hL
  unfold aL_13
  simp only [gd_t g1]
  exact z_call (zOp.mono (op_count (by omega) h _) (by omega))
theorem z_go14 {i L : Nat} (xs : Nat → Int32) (hi : i + 5 ≤ L) (hL : L ≤ 2560) (h1 : 1 ≤ V) (hV : V ≤ 2000) (h : zRel V X M) : zGo (V + 1) i (aL_14 L xs (nI i) X M) := by
  obtain ⟨g1, g2, g3, g4⟩ := z_in hi hL
  unfold aL_14
  simp only [gd_t g1, gd_t g2]
  exact z_call (zOp.mono (op_node (by omega) h _ _) (by omega))
theorem z_go15 {i L : Nat} (xs : Nat → Int32) (hi : i + 5 ≤ L) (hL : L ≤ 2560) (h1 : 1 ≤ V) (hV : V ≤ 2000) (h : zRel V X M) : zGo (V + 1) i (aL_15 L xs (nI i) X M) := by
  obtain ⟨g1, g2, g3, g4⟩ := z_in hi hL
  unfold aL_15
  simp only [gd_t g1, gd_t g2]
  exact z_call (zOp.mono (op_link (by omega) h _ _) (by omega))
theorem z_go16 {i L : Nat} (xs : Nat → Int32) (hi : i + 5 ≤ L) (hL : L ≤ 2560) (h1 : 1 ≤ V) (hV : V ≤ 2000) (h : zRel V X M) : zGo (V + 1) i (aL_16 L xs (nI i) X M) := by
  obtain ⟨g1, g2, g3, g4⟩ := z_in hi hL
  unfold aL_16
  simp only [gd_t g1, gd_t g2]
  exact z_call (zOp.mono (op_tunnel (by omega) h _ _) (by omega))
theorem z_go17 {i L : Nat} (xs : Nat → Int32) (hi : i + 5 ≤ L) (hL : L ≤ 2560) (h1 : 1 ≤ V) (hV : V ≤ 2000) (h : zRel V X M) : zGo (V + 1) i (aL_17 L xs (nI i) X M) := by
  obtain ⟨g1, g2, g3, g4⟩ := z_in hi hL
  unfold aL_17
  simp only [gd_t g1, gd_t g2, gd_t g3]
  exact z_call (zOp.mono (op_grant (by omega) h _ _ _) (by omega))
theorem z_go18 {i L : Nat} (xs : Nat → Int32) (hi : i + 5 ≤ L) (hL : L ≤ 2560) (h1 : 1 ≤ V) (hV : V ≤ 2000) (h : zRel V X M) : zGo (V + 1) i (aL_18 L xs (nI i) X M) := by
  obtain ⟨g1, g2, g3, g4⟩ := z_in hi hL
  unfold aL_18
  simp only [gd_t g1, gd_t g2, gd_t g3]
  exact z_call (zOp.mono (op_known (by omega) h _ _ _) (by omega))
theorem z_go19 {i L : Nat} (xs : Nat → Int32) (hi : i + 5 ≤ L) (hL : L ≤ 2560) (h1 : 1 ≤ V) (hV : V ≤ 2000) (h : zRel V X M) : zGo (V + 1) i (aL_19 L xs (nI i) X M) := by
  obtain ⟨g1, g2, g3, g4⟩ := z_in hi hL
  unfold aL_19
  simp only [gd_t g1, gd_t g2, gd_t g3]
  exact z_call (zOp.mono (op_distance (by omega) h _ _ _) (by omega))
theorem z_go20 {i L : Nat} (xs : Nat → Int32) (hi : i + 5 ≤ L) (hL : L ≤ 2560) (h1 : 1 ≤ V) (hV : V ≤ 2000) (h : zRel V X M) : zGo (V + 1) i (aL_20 L xs (nI i) X M) := by
  obtain ⟨g1, g2, g3, g4⟩ := z_in hi hL
  unfold aL_20
  simp only [gd_t g1, gd_t g2, gd_t g3, gd_t g4]
  exact z_call (zOp.mono (op_next (by omega) h _ _ _ _) (by omega))
theorem z_go21 {i L : Nat} (xs : Nat → Int32) (hi : i + 5 ≤ L) (hL : L ≤ 2560) (h1 : 1 ≤ V) (hV : V ≤ 2000) (h : zRel V X M) : zGo (V + 1) i (aL_21 L xs (nI i) X M) := by
  obtain ⟨g1, g2, g3, g4⟩ := z_in hi hL
  unfold aL_21
  simp only [gd_t g1, gd_t g2]
  exact z_call (zOp.mono (op_send (by omega) h _ _) (by omega))
theorem z_go22 {i L : Nat} (xs : Nat → Int32) (hi : i + 5 ≤ L) (hL : L ≤ 2560) (h1 : 1 ≤ V) (hV : V ≤ 2000) (h : zRel V X M) : zGo (V + 1) i (aL_22 L xs (nI i) X M) := by
  obtain ⟨g1, g2, g3, g4⟩ := z_in hi hL
  unfold aL_22
  simp only [gd_t g1]
  exact z_call (zOp.mono (op_way h _) (by omega))
theorem z_go23 {i L : Nat} (xs : Nat → Int32) (hi : i + 5 ≤ L) (hL : L ≤ 2560) (h1 : 1 ≤ V) (hV : V ≤ 2000) (h : zRel V X M) : zGo (V + 1) i (aL_23 L xs (nI i) X M) := by
  obtain ⟨g1, g2, g3, g4⟩ := z_in hi hL
  unfold aL_23
  simp only [gd_t g1]
  exact z_call (zOp.mono (op_outcomes (by omega) h _) (by omega))
theorem z_go24 {i L : Nat} (xs : Nat → Int32) (hi : i + 5 ≤ L) (hL : L ≤ 2560) (h1 : 1 ≤ V) (hV : V ≤ 2000) (h : zRel V X M) : zGo (V + 1) i (aL_24 L xs (nI i) X M) := by
  obtain ⟨g1, g2, g3, g4⟩ := z_in hi hL
  unfold aL_24
  simp only [gd_t g1, gd_t g2]
  exact z_call (zOp.mono (op_ideal (by omega) h _ _) (by omega))
theorem z_go25 {i L : Nat} (xs : Nat → Int32) (hi : i + 5 ≤ L) (hL : L ≤ 2560) (h1 : 1 ≤ V) (hV : V ≤ 2000) (h : zRel V X M) : zGo (V + 1) i (aL_25 L xs (nI i) X M) := by
  obtain ⟨g1, g2, g3, g4⟩ := z_in hi hL
  unfold aL_25
  simp only [gd_t g1, gd_t g2]
  exact z_call (zOp.mono (op_worth (by omega) h _ _) (by omega))
theorem z_goN {i : Nat} (h : zRel V X M) : zGo (V + 1) i (nm (nI i + (5 : Int32)) (fun j => some (.inl (j, X, M)))) := by
  refine ⟨X, M, ?_, h.mono (by omega)⟩
  rw [nm_eq, show (5 : Int32) = nI 5 from zl5, nI_add]
theorem zGo_ite {c : Prop} [Decidable c] {i : Nat} {a b : Option ((Int32 × zX × zM) ⊕ Int32)} (ha : zGo V i a) (hb : zGo V i b) : zGo V i (if c then a else b) := by
  by_cases h : c
  · rw [if_pos h]; exact ha
  · rw [if_neg h]; exact hb
theorem z_end {i L : Nat} (hi : i ≤ 2560) (hL : L ≤ 2560) : (Int32.ofNat L - (5 : Int32)) < nI i ↔ L < i + 5 := by
  have e : (Int32.ofNat L - (5 : Int32)).toInt = (L : Int) - 5 := by
    rw [Int32.toInt_sub, show (Int32.ofNat L).toInt = (L : Int) from nI_toInt (by omega), show (5 : Int32).toInt = 5 from rfl]
    rw [Int.bmod_eq_of_le (by omega) (by omega)]
  rw [Int32.lt_iff_toInt_lt, e, nI_toInt (by omega)]
  omega
theorem z_go {i L : Nat} (xs : Nat → Int32) (hi : i + 5 ≤ L) (hL : L ≤ 2560) (h1 : 1 ≤ V) (hV : V ≤ 2000) (h : zRel V X M) : zGo (V + 1) i (sL L xs (nI i) X M) := by
  unfold sL
  rw [if_neg (fun q => absurd ((z_end (by omega) hL).mp q) (by omega)), gd_in (by omega)]
  exact (zGo_ite (z_go0 xs hi hL h1 hV h) (zGo_ite (z_go1 xs hi hL h1 hV h) (zGo_ite (z_go2 xs hi hL h1 hV h) (zGo_ite (z_go3 xs hi hL h1 hV h) (zGo_ite (z_go4 xs hi hL h1 hV h) (zGo_ite (z_go5 xs hi hL h1 hV h) (zGo_ite (z_go6 xs hi hL h1 hV h) (zGo_ite (z_go7 xs hi hL h1 hV h) (zGo_ite (z_go8 xs hi hL h1 hV h) (zGo_ite (z_go9 xs hi hL h1 hV h) (zGo_ite (z_go10 xs hi hL h1 hV h) (zGo_ite (z_go11 xs hi hL h1 hV h) (zGo_ite (z_go12 xs hi hL h1 hV h) (zGo_ite (z_go13 xs hi hL h1 hV h) (zGo_ite (z_go14 xs hi hL h1 hV h) (zGo_ite (z_go15 xs hi hL h1 hV h) (zGo_ite (z_go16 xs hi hL h1 hV h) (zGo_ite (z_go17 xs hi hL h1 hV h) (zGo_ite (z_go18 xs hi hL h1 hV h) (zGo_ite (z_go19 xs hi hL h1 hV h) (zGo_ite (z_go20 xs hi hL h1 hV h) (zGo_ite (z_go21 xs hi hL h1 hV h) (zGo_ite (z_go22 xs hi hL h1 hV h) (zGo_ite (z_go23 xs hi hL h1 hV h) (zGo_ite (z_go24 xs hi hL h1 hV h) (zGo_ite (z_go25 xs hi hL h1 hV h) (z_goN h)))))))))))))))))))))))))))
theorem z_loop {L : Nat} (xs : Nat → Int32) (hL : L ≤ 2560) : ∀ (d t : Nat) (X : zX) (M : zM), L ≤ 5 * t + d → 5 * t ≤ L → zRel (t + 1) X M → lL L xs (nI (5 * t)) X M = some 1 := by
  intro d
  induction d with
  | zero =>
    intro t X M hd ht h
    refine wh_inr ?_
    show sL L xs (nI (5 * t)) X M = _
    unfold sL
    rw [if_pos ((z_end (by omega) hL).mpr (by omega))]
  | succ d ih =>
    intro t X M hd ht h
    by_cases hc : 5 * t + 5 ≤ L
    · obtain ⟨X', M', e, hr⟩ := z_go (i := 5 * t) xs hc hL (by omega) (by omega) h
      have e2 : lL L xs (nI (5 * t)) X M = lL L xs (nI (5 * t + 5)) X' M' := wh_inl e
      rw [e2, show 5 * t + 5 = 5 * (t + 1) by omega]
      exact ih (t + 1) X' M' (by omega) (by omega) hr
    · refine wh_inr ?_
      show sL L xs (nI (5 * t)) X M = _
      unfold sL
      rw [if_pos ((z_end (by omega) hL).mpr (by omega))]
/-- the pure equation of the two objects -/
theorem law_pure (L : Nat) (xs : Nat → Int32) (hL : L ≤ 2560) (F : Nat → Option Nat) (G : Nat → Nat → Nat) (hF : ∀ k, k < 5 → F k = some (G k 0)) : lL L xs 0 (zX0 F G) zM0 = some 1 :=
  z_loop xs hL L 0 (zX0 F G) zM0 (by omega) (by omega) (zRel0 hF)
end P39zb
