section P39n
variable {T : zA} {V : Nat}
/-- the class's history, one slot written -/
theorem c_begin_12 (hI : aInv V T) {N : zNet} (hR : aRel T N) {sz : Nat} (hsz : sz < 5) {hF : Nat → Option Nat} {hG : Nat → Nat → Nat} {hN : Nat → zNet} (hFG : ∀ k, k < 5 → hF k = some (hG k 0)) :
    ∃ K, uX6_beginAction_12 (nI sz) N.1 N.2.1 N.2.2.1 N.2.2.2.1 N.2.2.2.2.1 N.2.2.2.2.2.1 N.2.2.2.2.2.2.1 N.2.2.2.2.2.2.2.1 N.2.2.2.2.2.2.2.2.1 N.2.2.2.2.2.2.2.2.2.1 N.2.2.2.2.2.2.2.2.2.2.1 N.2.2.2.2.2.2.2.2.2.2.2.1 N.2.2.2.2.2.2.2.2.2.2.2.2 hF hG hN = some (nI (sz + 1), 0, hF, hG, va_up hN sz K) ∧ aRel T K := by
  obtain ⟨q, q1, q2⟩ := c_copyFrom hI (N := hN sz) hR
  unfold uX6_beginAction_12
  rw [gd_in hsz, nm_eq, nI_cl (by omega), gd_t hsz, gd_t (hFG sz hsz), q1, Option.bind_some, zl1, nI_add]
  exact ⟨q, rfl, q2⟩
theorem h_save (hI : aInv V T) {N : zNet} (hR : aRel T N) {S : Nat → zA} {sz : Nat} {saved aside : Nat → Int32} {hF : Nat → Option Nat} {hG : Nat → Nat → Nat} {hN : Nat → zNet} (hH : hRel V S sz saved hF hG hN) (ha : ∀ j, j < 1557 → aside j = zI T j) :
    ∃ S' sz' saved' hF' hG' hN', fX7_saveAside saved (nI sz) aside = some (saved', nI sz', 0) ∧ fX6_beginAction (nI sz) N.1 N.2.1 N.2.2.1 N.2.2.2.1 N.2.2.2.2.1 N.2.2.2.2.2.1 N.2.2.2.2.2.2.1 N.2.2.2.2.2.2.2.1 N.2.2.2.2.2.2.2.2.1 N.2.2.2.2.2.2.2.2.2.1 N.2.2.2.2.2.2.2.2.2.2.1 N.2.2.2.2.2.2.2.2.2.2.2.1 N.2.2.2.2.2.2.2.2.2.2.2.2 hF hG hN = some (nI sz', 0, hF', hG', hN') ∧ hRel V S' sz' saved' hF' hG' hN' := by
  obtain ⟨hsz, hq, hFG⟩ := hH
  obtain ⟨saved', sz', s1, s2, s3, s4⟩ := e_saveAside (saved := saved) (aside := aside) hsz
  unfold fX6_beginAction
  rw [zl5, ite_eqN (by omega) (by omega)]
  by_cases h5 : sz = 5
  · subst h5
    rw [if_pos rfl] at s2
    subst s2
    have d : fX6_dropOldest (nI 5) hF hG hN = some (nI 4, va_up (va_up (va_up (va_up (va_up hF 0 (some (hG 1 0))) 1 (some (hG 2 0))) 2 (some (hG 3 0))) 3 (some (hG 4 0))) 4 (some (hG 0 0)), zRot hG, zRot hN) := by
      unfold fX6_dropOldest
      rw [gd_t (hFG 0 (by omega)), gd_t (hFG 1 (by omega)), gd_t (by
        show (if 2 = 0 then _ else hF 2) = _
        rw [if_neg (by omega)]; exact hFG 2 (by omega)), gd_t (by
        show (if 3 = 1 then _ else if 3 = 0 then _ else hF 3) = _
        rw [if_neg (by omega), if_neg (by omega)]; exact hFG 3 (by omega)), gd_t (by
        show (if 4 = 2 then _ else if 4 = 1 then _ else if 4 = 0 then _ else hF 4) = _
        rw [if_neg (by omega), if_neg (by omega), if_neg (by omega)]; exact hFG 4 (by omega)), zl1, pk_sub (by omega)]
    have hFG2 : ∀ k, k < 5 → (va_up (va_up (va_up (va_up (va_up hF 0 (some (hG 1 0))) 1 (some (hG 2 0))) 2 (some (hG 3 0))) 3 (some (hG 4 0))) 4 (some (hG 0 0))) k = some (zRot hG k 0) := by
      intro k hk
      rcases (show k = 0 ∨ k = 1 ∨ k = 2 ∨ k = 3 ∨ k = 4 by omega) with rfl | rfl | rfl | rfl | rfl <;> simp [va_up, zRot]
    obtain ⟨K, k1, k2⟩ := c_begin_12 hI hR (sz := 4) (by omega) (hN := zRot hN) hFG2
    rw [if_pos rfl, d, Option.bind_some]
    dsimp only
    rw [k1]
    refine ⟨fun q => if q = 4 then T else S (q + 1), 5, saved', _, _, _, s1, rfl, by omega, fun q hq5 => ?_, hFG2⟩
    by_cases hq4 : q = 4
    · subst hq4
      refine ⟨?_, fun j hj => ?_, ?_⟩
      · dsimp only; rw [if_pos rfl]; exact hI
      · dsimp only; rw [if_pos rfl, ← ha j hj]; exact s3 j hj
      · show aRel (if 4 = 4 then T else S 5) (va_up (zRot hN) 4 K 4)
        rw [if_pos rfl, show va_up (zRot hN) 4 K 4 = K from if_pos rfl]; exact k2
    · obtain ⟨p1, p2, p3⟩ := hq (q + 1) (by omega)
      refine ⟨?_, fun j hj => ?_, ?_⟩
      · dsimp only; rw [if_neg hq4]; exact p1
      · dsimp only
        rw [if_neg hq4, s4 q j (by omega) hj, if_pos rfl]; exact p2 j hj
      · show aRel (if q = 4 then T else S (q + 1)) (va_up (zRot hN) 4 K q)
        rw [if_neg hq4, show va_up (zRot hN) 4 K q = zRot hN q from if_neg hq4, show zRot hN q = hN (q + 1) from if_neg hq4]; exact p3
  · rw [if_neg h5] at s2
    subst s2
    obtain ⟨K, k1, k2⟩ := c_begin_12 hI hR (sz := sz) (by omega) (hN := hN) hFG
    rw [if_neg h5, k1]
    refine ⟨fun q => if q = sz then T else S q, sz + 1, saved', _, _, _, s1, rfl, by omega, fun q hq5 => ?_, hFG⟩
    by_cases hq4 : q = sz
    · subst hq4
      refine ⟨?_, fun j hj => ?_, ?_⟩
      · dsimp only; rw [if_pos rfl]; exact hI
      · dsimp only; rw [if_pos rfl, ← ha j hj]; exact s3 j hj
      · show aRel (if q = q then T else S q) (va_up hN q K q)
        rw [if_pos rfl, show va_up hN q K q = K from if_pos rfl]; exact k2
    · obtain ⟨p1, p2, p3⟩ := hq q (by omega)
      refine ⟨?_, fun j hj => ?_, ?_⟩
      · dsimp only; rw [if_neg hq4]; exact p1
      · dsimp only
        rw [if_neg hq4, s4 q j (by omega) hj, if_neg h5]; exact p2 j hj
      · show aRel (if q = sz then T else S q) (va_up hN sz K q)
        rw [if_neg hq4, show va_up hN sz K q = hN q from if_neg hq4]; exact p3
theorem h_act (hI : aInv V T) {N : zNet} (hR : aRel T N) {S : Nat → zA} {sz : Nat} {saved aside : Nat → Int32} {hF : Nat → Option Nat} {hG : Nat → Nat → Nat} {hN : Nat → zNet} (hH : hRel V S sz saved hF hG hN) :
    ∃ S' sz' saved' as' hF' hG' hN', fX7_act (zI T) saved (nI sz) aside = some (saved', nI sz', as', 0) ∧ fX6_beginAction (nI sz) N.1 N.2.1 N.2.2.1 N.2.2.2.1 N.2.2.2.2.1 N.2.2.2.2.2.1 N.2.2.2.2.2.2.1 N.2.2.2.2.2.2.2.1 N.2.2.2.2.2.2.2.2.1 N.2.2.2.2.2.2.2.2.2.1 N.2.2.2.2.2.2.2.2.2.2.1 N.2.2.2.2.2.2.2.2.2.2.2.1 N.2.2.2.2.2.2.2.2.2.2.2.2 hF hG hN = some (nI sz', 0, hF', hG', hN') ∧ hRel V S' sz' saved' hF' hG' hN' := by
  unfold fX7_act
  rw [e_copy_aside_s, Option.bind_some]
  obtain ⟨S', sz', saved', hF', hG', hN', h1, h2, h3⟩ := h_save hI hR hH (aside := fun j => if j < 1557 then zI T j else aside j) (fun j hj => if_pos hj)
  rw [h1]
  exact ⟨S', sz', saved', _, hF', hG', hN', rfl, h2, h3⟩
/-! The relation of the two objects. -/
def zNetR (V : Nat) (T : zA) (X : zX) (M : zM) : Prop := aInv V T ∧ aRel T X.2.1 ∧ M.2.1 = zI T
def zHisR (V : Nat) (S : Nat → zA) (sz : Nat) (X : zX) (M : zM) : Prop := X.1.1 = nI sz ∧ M.2.2.2.1 = nI sz ∧ hRel V S sz M.2.2.1 X.2.2.2.2.2.2.2.2.1 X.2.2.2.2.2.2.2.2.2.1 X.2.2.2.2.2.2.2.2.2.2
def zTxtR (tl : Nat) (X : zX) (M : zM) : Prop := tl ≤ 120 ∧ X.2.2.2.1.2.1 = nI tl ∧ M.2.2.2.2.2.2.2.1 = nI tl ∧ ∀ j, j < tl → ∃ c, 1 ≤ c ∧ c ≤ 255 ∧ X.2.2.2.1.1 j = nI c ∧ M.2.2.2.2.2.2.1 j = nI c
def zWayR (X : zX) (M : zM) : Prop := X.1.2 = M.2.2.2.2.2.2.2.2.2.2.2.1 ∧ (X.1.2 = 0 ∨ (X.1.2 = 1 ∧ ∃ c, c ≤ 20 ∧ X.2.2.2.2.2.2.1.1 = nI c ∧ M.2.2.2.2.2.2.2.2.2.1 = nI c ∧ X.2.2.2.2.2.2.1.2.1 = M.2.2.2.2.2.2.2.2.2.2.1 ∧ ∀ j, j ≤ c → X.2.2.2.2.2.2.1.2.2.1 j = M.2.2.2.2.2.2.2.2.1 j))
def zRel (V : Nat) (X : zX) (M : zM) : Prop := ∃ T S sz tl, zNetR V T X M ∧ zHisR V S sz X M ∧ zTxtR tl X M ∧ zWayR X M
theorem zRel.mono {X : zX} {M : zM} {V' : Nat} (h : zRel V X M) (hv : V ≤ V') : zRel V' X M := by
  obtain ⟨T, S, sz, tl, ⟨n1, n2, n3⟩, ⟨s1, s2, s3⟩, h3, h4⟩ := h
  exact ⟨T, S, sz, tl, ⟨n1.mono hv, n2, n3⟩, ⟨s1, s2, s3.mono hv⟩, h3, h4⟩
theorem zRel0 {F : Nat → Option Nat} {G : Nat → Nat → Nat} (hF : ∀ k, k < 5 → F k = some (G k 0)) : zRel 1 (zX0 F G) zM0 := by
  have hz : zI (fun _ => 0, fun _ _ _ => 0) = (fun _ => (0 : Int32)) := by
    funext j
    unfold zI flA
    split <;> rfl
  refine ⟨(fun _ => 0, fun _ _ _ => 0), fun _ => (fun _ => 0, fun _ _ _ => 0), 0, 0, ⟨?_, ?_, hz.symm⟩, ⟨rfl, rfl, by omega, fun q hq => by omega, hF⟩, ⟨by omega, rfl, rfl, fun j hj => by omega⟩, rfl, Or.inl rfl⟩
  · refine ⟨⟨Nat.zero_le _, Nat.zero_le _, Nat.zero_le _⟩, fun n hn => by show 0 < 4; omega, fun k hk => ?_, fun _ _ _ _ _ => rfl, fun k hk => ?_, fun _ _ _ _ _ => rfl, fun i hi => ⟨by show 0 ≤ 1; omega, by show 0 ≤ 1; omega, fun _ => ⟨rfl, rfl⟩⟩, fun _ _ _ _ _ _ _ => rfl, fun n i hn hi => ⟨by show 0 ≤ 1; omega, by show 0 ≤ 1; omega, by show 0 ≤ 40; omega, by show 0 ≤ 1; omega, fun _ => ⟨rfl, rfl, rfl⟩⟩⟩
    · have : k < 0 := hk; omega
    · have : k < 0 := hk; omega
  · refine ⟨rfl, rfl, rfl, rfl, fun n hn => ?_, fun k hk => ?_, fun k hk => ?_, fun i hi => ?_, fun n i hn hi => rfl, fun n j hn hj => ?_⟩
    · have : n < 0 := hn; omega
    · have : k < 0 := hk; omega
    · have : k < 0 := hk; omega
    · have e : zpk (aTv (fun _ => 0, fun _ _ _ => 0) i) (aTs (fun _ => 0, fun _ _ _ => 0) i) (aTc (fun _ => 0, fun _ _ _ => 0) i) = 0 := by
        unfold aTv aTs aTc aGv aGr aL aT zpk
        simp
      rw [e]; rfl
    · show bt 0 j = _
      rw [bt_0]
      exact (decide_eq_false (by rintro ⟨-, h⟩; exact absurd (show (0 : Nat) = 1 from h) (by omega))).symm
end P39n
