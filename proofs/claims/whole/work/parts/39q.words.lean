/-! The text: words, numbers taken, semicolons. -/
section P39q
variable {tx : Nat → Nat} {L : Nat}
/-- the token is the word w of n letters -/
abbrev wrd (tx : Nat → Nat) (L : Nat) (w : Nat → Nat) (n p : Nat) : Prop := kk tx L p = 1 ∧ ee tx L p - ss tx L p = n ∧ ∀ i, i < n → tx (ss tx L p + i) = w i
theorem wv_same {w : Nat → Nat} {s : Nat} : ∀ n k, (∀ i, i < k → 97 ≤ tx (s + i) ∧ tx (s + i) ≤ 122) → (∀ i, i < n → 97 ≤ w i ∧ w i ≤ 122) → (wv tx s k = wv w 0 n ↔ (k = n ∧ ∀ i, i < n → tx (s + i) = w i))
  | 0, 0, _, _ => ⟨fun _ => ⟨rfl, fun i hi => by omega⟩, fun _ => rfl⟩
  | 0, k + 1, h1, h2 => by
    have := h1 k (by omega)
    constructor
    · intro q
      have e : 27 * wv tx s k + (tx (s + k) - 96) = 0 := q
      omega
    · intro q; omega
  | n + 1, 0, h1, h2 => by
    have := h2 n (by omega)
    constructor
    · intro q
      have e : 0 = 27 * wv w 0 n + (w (0 + n) - 96) := q
      rw [Nat.zero_add] at e
      omega
    · intro q; omega
  | n + 1, k + 1, h1, h2 => by
    have a := h1 k (by omega)
    have b := h2 n (by omega)
    have ih := wv_same (w := w) (s := s) n k (fun i hi => h1 i (by omega)) (fun i hi => h2 i (by omega))
    have e1 : wv tx s (k + 1) = 27 * wv tx s k + (tx (s + k) - 96) := rfl
    have e2 : wv w 0 (n + 1) = 27 * wv w 0 n + (w n - 96) := by
      show 27 * wv w 0 n + (w (0 + n) - 96) = _
      rw [Nat.zero_add]
    rw [e1, e2]
    constructor
    · intro q
      obtain ⟨h3, h4⟩ := ih.mp (by omega)
      subst h3
      refine ⟨rfl, fun i hi => ?_⟩
      by_cases hik : i = k
      · subst hik; omega
      · exact h4 i (by omega)
    · rintro ⟨h3, h4⟩
      have h5 : k = n := by omega
      have := ih.mpr ⟨h5, fun i hi => h4 i (by omega)⟩
      have h6 := h4 k (by omega)
      rw [this, h6, h5]
theorem wv_lt {s : Nat} : ∀ k, (∀ i, i < k → tx (s + i) ≤ 122) → wv tx s k < 27 ^ k
  | 0, _ => by show 0 < 1; omega
  | k + 1, h => by
    have ih := wv_lt (s := s) k (fun i hi => h i (by omega))
    have := h k (by omega)
    have e : wv tx s (k + 1) = 27 * wv tx s k + (tx (s + k) - 96) := rfl
    rw [e, Nat.pow_succ]
    omega
theorem wv_bd {s k : Nat} (hk : k ≤ 8) (h : ∀ i, i < k → tx (s + i) ≤ 122) : wv tx s k < 2 ^ 63 := by
  have h1 := wv_lt (tx := tx) (s := s) k h
  have h2 : 27 ^ k ≤ 27 ^ 8 := Nat.pow_le_pow_right (by omega) hk
  have h3 : 27 ^ 8 < 2 ^ 63 := by decide
  omega
theorem tok_letters {p : Nat} (hp : p ≤ L) (h1 : kk tx L p = 1) : ∀ i, i < ee tx L p - ss tx L p → 97 ≤ tx (ss tx L p + i) ∧ tx (ss tx L p + i) ≤ 122 := by
  intro i hi
  have he : ee tx L p = rn tx L (ss tx L p) := by unfold ee; rw [h1, if_neg (by omega), if_neg (by omega)]
  obtain ⟨r1, r2, r3, r4⟩ := rn_spec (tx := tx) (L := L) (ss tx L p)
  have := (r3 (ss tx L p + i) (by omega) (by omega)).2
  rw [show kd tx L (ss tx L p) = 1 from h1] at this
  exact (kd_1.mp this).2
theorem le_wrd {p : Nat} (hp : p ≤ L) {w : Nat → Nat} {n : Nat} (h1 : 1 ≤ n) (h8 : n ≤ 8) (hw : ∀ i, i < n → 97 ≤ w i ∧ w i ≤ 122) {c : Int64} (hc : c = lN (wv w 0 n)) : lg_cmp (le tx L p) c = 0 ↔ wrd tx L w n p := by
  subst hc
  rw [lg_cmp_eq]
  have bw : wv w 0 n < 2 ^ 63 := wv_bd h8 (fun i hi => by rw [Nat.zero_add]; exact (hw i hi).2)
  have pos : 0 < wv w 0 n := by
    obtain ⟨m, rfl⟩ : ∃ m, n = m + 1 := ⟨n - 1, by omega⟩
    have := hw m (by omega)
    show 0 < 27 * wv w 0 m + (w (0 + m) - 96)
    rw [Nat.zero_add]
    omega
  have no : ¬ lN 0 = lN (wv w 0 n) := by
    rw [pk_lEQ (by omega) bw]
    omega
  unfold le
  by_cases k1 : kk tx L p = 1
  · rw [if_pos k1]
    have tl := tok_letters hp k1
    unfold lt
    by_cases l8 : ee tx L p - ss tx L p ≤ 8
    · rw [if_pos l8, pk_lEQ (wv_bd l8 (fun i hi => (tl i hi).2)) bw, wv_same n _ tl hw]
      exact ⟨fun q => ⟨k1, q.1, q.2⟩, fun q => ⟨q.2.1, q.2.2⟩⟩
    · rw [if_neg l8]
      exact ⟨fun q => absurd q no, fun q => by have := q.2.1; omega⟩
  · rw [if_neg k1]
    exact ⟨fun q => absurd q no, fun q => absurd q.1 k1⟩
theorem c_isWord {text : Nat → Int32} (hX : rX tx L text) {p : Nat} (hp : p ≤ L) {iw n : Nat} {w : Nat → Nat} (hi : iw < 5) (hn : n ≤ 8) (h1 : zSlen iw = nI n) (h2 : zLen.getD iw 0 = n) (h3 : ∀ k, k < n → zSch iw (nI k) = nI (w k) ∧ w k < 256) : fX5_isWord text (nI (ss tx L p)) (nI (ee tx L p)) (nI (kk tx L p)) iw = some (bI (wrd tx L w n p)) := by
  have hL := hX.1
  have hs2 := (ss_spec (tx := tx) (L := L) p).2.1 hp
  have hk := kd_le (tx := tx) (L := L) (j := ss tx L p)
  obtain ⟨g1, g2, g3⟩ := ee_spec (tx := tx) hp
  unfold fX5_isWord
  rw [zl1, ite_eqN (by unfold kk; omega) (by omega), gd_t hi, pk_sub g1, h1, ite_eqN (by omega) (by omega)]
  by_cases k1 : kk tx L p = 1
  · rw [if_pos k1]
    by_cases hl : ee tx L p - ss tx L p = n
    · rw [if_pos hl]
      have loop : lX5_isWord_28 text (nI (ss tx L p)) iw (nI 0) = some (bI (∀ i, i < n → tx (ss tx L p + i) = w i)) := by
        refine wh_ex _ n (fun i v => v = nI i ∧ ∀ j, j < i → tx (ss tx L p + j) = w j) (fun r => r = some (bI (∀ i, i < n → tx (ss tx L p + i) = w i))) (fun i v hin hv => ?_) (fun v hv => ?_) 0 (nI 0) (by omega) ⟨rfl, fun j hj => by omega⟩
        · obtain ⟨rfl, hv⟩ := hv
          obtain ⟨q1, q2⟩ := h3 i hin
          obtain ⟨x1, x2, x3⟩ := hX.2 (ss tx L p + i) (by omega)
          unfold sX5_isWord_28
          rw [gd_t hi, h1, ite_leN (by omega) (by omega), if_neg (by omega), nI_add, gd_in (by omega), gd_t hi, h2, gd_in hin, nI_cl (by omega), q1, x3, ite_eqN (by omega) (by omega)]
          by_cases hm : tx (ss tx L p + i) = w i
          · rw [if_pos hm]
            refine Or.inl ⟨_, rfl, nI_1 i, fun j hj => ?_⟩
            by_cases hji : j = i
            · subst hji; exact hm
            · exact hv j (by omega)
          · rw [if_neg hm]
            exact Or.inr ⟨_, rfl, by rw [bI_f (fun q => hm (q i hin))]⟩
        · obtain ⟨rfl, hv⟩ := hv
          unfold sX5_isWord_28
          rw [gd_t hi, h1, ite_leN (by omega) (by omega), if_pos (by omega)]
          exact ⟨_, rfl, by rw [bI_t hv]⟩
      have loop2 : lX5_isWord_28 text (nI (ss tx L p)) iw 0 = some (bI (∀ i, i < n → tx (ss tx L p + i) = w i)) := loop
      rw [loop2]
      exact congrArg some (bI_congr ⟨fun q => ⟨k1, hl, q⟩, fun q => q.2.2⟩)
    · rw [if_neg hl, bI_f (fun q => hl q.2.1)]
  · rw [if_neg k1, bI_f (fun q => k1 q.1)]
abbrev w0 : Nat → Nat := fun i => [110, 111, 100, 101].getD i 0
abbrev w1 : Nat → Nat := fun i => [108, 105, 110, 107].getD i 0
abbrev w2 : Nat → Nat := fun i => [112, 114, 105, 118, 97, 116, 101].getD i 0
abbrev w3 : Nat → Nat := fun i => [103, 114, 97, 110, 116].getD i 0
abbrev w4 : Nat → Nat := fun i => [116, 117, 110, 110, 101, 108].getD i 0
theorem w0_ok : ∀ i, i < 4 → 97 ≤ w0 i ∧ w0 i ≤ 122 := by decide
theorem w1_ok : ∀ i, i < 4 → 97 ≤ w1 i ∧ w1 i ≤ 122 := by decide
theorem w2_ok : ∀ i, i < 7 → 97 ≤ w2 i ∧ w2 i ≤ 122 := by decide
theorem w3_ok : ∀ i, i < 5 → 97 ≤ w3 i ∧ w3 i ≤ 122 := by decide
theorem w4_ok : ∀ i, i < 6 → 97 ≤ w4 i ∧ w4 i ≤ 122 := by decide
theorem w0_c : (286610 : Int64) = lN (wv w0 0 4) := by decide +kernel
theorem w1_c : (243146 : Int64) = lN (wv w1 0 4) := by decide +kernel
theorem w2_c : (6462225419 : Int64) = lN (wv w2 0 7) := by decide +kernel
theorem w3_c : (4075508 : Int64) = lN (wv w3 0 5) := by decide +kernel
theorem w4_c : (298424316 : Int64) = lN (wv w4 0 6) := by decide +kernel
def th (tx : Nat → Nat) (L p : Nat) : Nat := if wrd tx L w0 4 p then 1 else if wrd tx L w1 4 p then 2 else if wrd tx L w2 7 p then 3 else if wrd tx L w3 5 p then 4 else if wrd tx L w4 6 p then 5 else 0
theorem c_tokenThing {text : Nat → Int32} (hX : rX tx L text) {p : Nat} (hp : p ≤ L) : fX5_tokenThing text (nI (ss tx L p)) (nI (ee tx L p)) (nI (kk tx L p)) = some (nI (th tx L p)) := by
  have s0 : zSlen 0 = nI 4 := by decide +kernel
  have s1 : zSlen 1 = nI 4 := by decide +kernel
  have s2 : zSlen 2 = nI 7 := by decide +kernel
  have s3 : zSlen 3 = nI 5 := by decide +kernel
  have s4 : zSlen 4 = nI 6 := by decide +kernel
  have c0 : ∀ k, k < 4 → zSch 0 (nI k) = nI (w0 k) ∧ w0 k < 256 := by decide +kernel
  have c1 : ∀ k, k < 4 → zSch 1 (nI k) = nI (w1 k) ∧ w1 k < 256 := by decide +kernel
  have c2 : ∀ k, k < 7 → zSch 2 (nI k) = nI (w2 k) ∧ w2 k < 256 := by decide +kernel
  have c3 : ∀ k, k < 5 → zSch 3 (nI k) = nI (w3 k) ∧ w3 k < 256 := by decide +kernel
  have c4 : ∀ k, k < 6 → zSch 4 (nI k) = nI (w4 k) ∧ w4 k < 256 := by decide +kernel
  unfold fX5_tokenThing th
  rw [c_isWord hX hp (by omega) (by omega) s0 rfl c0, c_isWord hX hp (by omega) (by omega) s1 rfl c1, c_isWord hX hp (by omega) (by omega) s2 rfl c2, c_isWord hX hp (by omega) (by omega) s3 rfl c3, c_isWord hX hp (by omega) (by omega) s4 rfl c4]
  simp only [Option.bind_some, ite_bI]
  by_cases a0 : wrd tx L w0 4 p
  · rw [if_pos a0, if_pos a0]; rfl
  · rw [if_neg a0, if_neg a0]
    by_cases a1 : wrd tx L w1 4 p
    · rw [if_pos a1, if_pos a1]; rfl
    · rw [if_neg a1, if_neg a1]
      by_cases a2 : wrd tx L w2 7 p
      · rw [if_pos a2, if_pos a2]; rfl
      · rw [if_neg a2, if_neg a2]
        by_cases a3 : wrd tx L w3 5 p
        · rw [if_pos a3, if_pos a3]; rfl
        · rw [if_neg a3, if_neg a3]
          by_cases a4 : wrd tx L w4 6 p
          · rw [if_pos a4, if_pos a4]; rfl
          · rw [if_neg a4, if_neg a4]; rfl
/-- taking, in the reference -/
theorem bz1 : bz 1 := Or.inr rfl
theorem bz0 : bz 0 := Or.inl rfl
theorem e_take_w {v a b c d l : Int32} {text : Nat → Int32} {e : Int64} : fX7_take v text l a b c d e 1 = some (a, b, c, d, e, 1) := by
  unfold fX7_take
  rw [if_neg (by decide)]
  unfold uX7_take_12 uX7_take_17
  rw [gd_t bz1, if_neg (by decide)]
theorem e_take_n {a b c d l : Int32} {text : Nat → Int32} {e : Int64} : fX7_take 0 text l a b c d e 0 = some (a, b, c, d, e, 1) := by
  unfold fX7_take
  rw [if_pos rfl, if_pos rfl]
  unfold uX7_take_12 uX7_take_17
  rw [gd_t bz1, if_neg (by decide)]
theorem e_take_y {text : Nat → Int32} (hX : rX tx L text) {q : Nat} (hq : q ≤ L) {v b c d : Int32} {e : Int64} (hv : v ≠ 0) : fX7_take v text (nI L) (nI q) b c d e 0 = some (nI (ee tx L q), nI (ss tx L q), nI (rt (kk tx L q)), nu tx L q, le tx L q, 0) := by
  unfold fX7_take
  rw [if_pos rfl, if_neg hv]
  unfold uX7_take_17
  rw [gd_t bz0, if_pos rfl, e_read hX hq]
  rfl
theorem e_take {text : Nat → Int32} (hX : rX tx L text) {q : Nat} (hq : q ≤ L) {P : Prop} [Decidable P] {b c d : Int32} {e : Int64} : fX7_take (bI P) text (nI L) (nI q) b c d e 0 = some (if P then (nI (ee tx L q), nI (ss tx L q), nI (rt (kk tx L q)), nu tx L q, le tx L q, 0) else (nI q, b, c, d, e, 1)) := by
  by_cases h : P
  · rw [bI_t h, if_pos h]; exact e_take_y hX hq (by decide)
  · rw [bI_f h, if_neg h]; exact e_take_n
theorem rt_1 {p : Nat} : nI (rt (kk tx L p)) = (1 : Int32) ↔ kk tx L p = 2 := by
  have hk : kk tx L p ≤ 3 := kd_le
  rw [zl1, nI_eq (by unfold rt; split <;> omega) (by omega)]
  unfold rt
  split <;> omega
theorem nu_not {p : Nat} (h : ¬ kk tx L p = 2) : nu tx L p = -1 := if_neg h
/-- numbers accepted -/
abbrev oN (x lo hi : Int32) : Prop := ¬ x < lo ∧ ¬ hi < x
theorem e_in2 {x lo hi : Int32} : fX7_in x lo hi = some (bI (oN x lo hi)) := by
  unfold fX7_in
  by_cases h1 : x < lo
  · rw [if_pos h1, bI_f (fun h => h.1 h1)]
  · rw [if_neg h1]
    by_cases h2 : hi < x
    · rw [if_pos h2, bI_f (fun h => h.2 h2)]
    · rw [if_neg h2, bI_t ⟨h1, h2⟩]
theorem e_takeNumber {text : Nat → Int32} (hX : rX tx L text) {p : Nat} (hp : p ≤ L) {lo hi : Int32} : fX7_takeNumber lo hi text (nI L) (nI (ee tx L p)) (nI (ss tx L p)) (nI (rt (kk tx L p))) (nu tx L p) (le tx L p) 0 = some (if oN (nu tx L p) lo hi then (nu tx L p, nI (ee tx L (ee tx L p)), nI (ss tx L (ee tx L p)), nI (rt (kk tx L (ee tx L p))), nu tx L (ee tx L p), le tx L (ee tx L p), 0) else (0, nI (ee tx L p), nI (ss tx L p), nI (rt (kk tx L p)), nu tx L p, le tx L p, 1)) := by
  obtain ⟨g1, g2, g3⟩ := ee_spec (tx := tx) hp
  have main : uX7_takeNumber_16 lo hi (nu tx L p) text (nI L) (nI (ee tx L p)) (nI (ss tx L p)) (nI (rt (kk tx L p))) (nu tx L p) (le tx L p) 0 = some (if oN (nu tx L p) lo hi then (nu tx L p, nI (ee tx L (ee tx L p)), nI (ss tx L (ee tx L p)), nI (rt (kk tx L (ee tx L p))), nu tx L (ee tx L p), le tx L (ee tx L p), 0) else (0, nI (ee tx L p), nI (ss tx L p), nI (rt (kk tx L p)), nu tx L p, le tx L p, 1)) := by
    unfold uX7_takeNumber_16
    rw [e_in2, Option.bind_some, e_take hX g2, Option.bind_some]
    by_cases h : oN (nu tx L p) lo hi
    · rw [if_pos h, if_pos h]
      dsimp only
      rw [if_pos rfl]
    · rw [if_neg h, if_neg h]
      dsimp only
      rw [if_neg (by decide)]
  unfold fX7_takeNumber
  by_cases k2 : kk tx L p = 2
  · rw [if_pos (rt_1.mpr k2)]; exact main
  · rw [if_neg (fun q => k2 (rt_1.mp q))]
    rw [nu_not k2] at main ⊢
    exact main
theorem e_takeNumber_w {text : Nat → Int32} {lo hi l a b c d : Int32} {e : Int64} : fX7_takeNumber lo hi text l a b c d e 1 = some (0, a, b, c, d, e, 1) := by
  unfold fX7_takeNumber uX7_takeNumber_16
  rw [e_in2, e_in2]
  simp only [Option.bind_some]
  rw [e_take_w, e_take_w]
  simp only [Option.bind_some]
  rw [if_neg (show ¬ (1 : Int32) = 0 by decide)]
  split <;> rfl
end P39q
