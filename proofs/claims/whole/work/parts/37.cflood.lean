/-! Bits of ints and longs; the class's flooding. -/
def bi (x : Int32) (i : Nat) : Bool := x.toBitVec.getLsbD i
theorem bi_pow : ∀ i, i < 32 → ((1 : Int32) <<< (nI i &&& 31)).toBitVec = BitVec.twoPow 32 i := by decide +kernel
theorem bi_amt : ∀ i, i < 32 → ((nI i &&& 31).toBitVec.smod 32).toNat = i := by decide +kernel
theorem bi_or {x : Int32} {i j : Nat} (hi : i < 32) (hj : j < 32) : bi (x ||| ((1 : Int32) <<< (nI i &&& 31))) j = (bi x j || decide (j = i)) := by
  unfold bi
  rw [Int32.toBitVec_or, BitVec.getLsbD_or, bi_pow i hi, BitVec.getLsbD_twoPow]
  congr 1
  by_cases h : j = i
  · subst h; simp [hj]
  · simp [h, Ne.symm h]
theorem bi_one {i j : Nat} (hi : i < 32) (hj : j < 32) : bi ((1 : Int32) <<< (nI i &&& 31)) j = decide (j = i) := by
  unfold bi
  rw [bi_pow i hi, BitVec.getLsbD_twoPow]
  by_cases h : j = i
  · subst h; simp [hj]
  · simp [h, Ne.symm h]
theorem bi_clr {x : Int32} {i j : Nat} (hi : i < 32) (hj : j < 32) : bi (x &&& (((1 : Int32) <<< (nI i &&& 31)) ^^^ (-1))) j = (bi x j && !decide (j = i)) := by
  unfold bi
  rw [Int32.toBitVec_and, BitVec.getLsbD_and, Int32.toBitVec_xor, BitVec.getLsbD_xor, bi_pow i hi, BitVec.getLsbD_twoPow]
  have e : (-1 : Int32).toBitVec.getLsbD j = true := by
    have : (-1 : Int32).toBitVec = BitVec.allOnes 32 := by decide
    rw [this, BitVec.getLsbD_allOnes]
    simp [hj]
  rw [e]
  by_cases h : j = i
  · subst h; simp [hj]
  · simp [h, Ne.symm h]
theorem bi_0 {j : Nat} : bi 0 j = false := by
  unfold bi
  have : (0 : Int32).toBitVec = 0#32 := rfl
  rw [this, BitVec.getLsbD_zero]
theorem bv_one {w : Nat} (hw : 1 < w) (x : BitVec w) : (x &&& 1#w) = 1#w ↔ x.getLsbD 0 = true := by
  constructor
  · intro h
    have := congrArg (fun y => BitVec.getLsbD y 0) h
    simp only [BitVec.getLsbD_and, BitVec.getLsbD_one] at this
    simp [show 0 < w by omega] at this
    exact this
  · intro h
    apply BitVec.eq_of_getLsbD_eq
    intro i hi
    rw [BitVec.getLsbD_and, BitVec.getLsbD_one]
    by_cases h0 : i = 0
    · subst h0; simp [h]
    · have : ¬ 0 = i := fun e => h0 e.symm
      simp [h0]
theorem bi_test {x : Int32} {i : Nat} (hi : i < 32) : ((x >>> (nI i &&& 31)) &&& (1 : Int32)) = (1 : Int32) ↔ bi x i = true := by
  rw [← Int32.toBitVec_inj, Int32.toBitVec_and]
  show (x >>> (nI i &&& 31)).toBitVec &&& 1#32 = 1#32 ↔ _
  rw [bv_one (by omega), Int32.toBitVec_shiftRight]
  unfold BitVec.sshiftRight'
  rw [bi_amt i hi, BitVec.getLsbD_sshiftRight]
  simp [hi, bi]
theorem bt_test {x : Int64} {i : Nat} (hi : i < 64) : lg_cmp ((x >>> ((nI i).toInt64 &&& 63)) &&& (1 : Int64)) (1 : Int64) = 0 ↔ bt x i = true := by
  rw [lg_cmp_eq, ← Int64.toBitVec_inj, Int64.toBitVec_and]
  show (x >>> ((nI i).toInt64 &&& 63)).toBitVec &&& 1#64 = 1#64 ↔ _
  rw [bv_one (by omega), Int64.toBitVec_shiftRight]
  unfold BitVec.sshiftRight'
  rw [b_amt i hi, BitVec.getLsbD_sshiftRight]
  simp [hi, bt]
theorem bt_zero {x : Int64} : lg_cmp x 0 = 0 ↔ ∀ j, j < 64 → bt x j = false := by
  rw [lg_cmp_eq]
  constructor
  · intro h j hj
    subst h
    unfold bt
    have : (0 : Int64).toBitVec = 0#64 := rfl
    rw [this, BitVec.getLsbD_zero]
  · intro h
    rw [← Int64.toBitVec_inj]
    apply BitVec.eq_of_getLsbD_eq
    intro j hj
    rw [show (0 : Int64).toBitVec = 0#64 from rfl, BitVec.getLsbD_zero]
    exact h j hj
theorem bt_0 {j : Nat} : bt 0 j = false := by
  unfold bt
  have : (0 : Int64).toBitVec = 0#64 := rfl
  rw [this, BitVec.getLsbD_zero]
section P37
variable {T R S : zA} {V : Nat} {D : Nat → Nat → Nat → Nat}
theorem aNw_0 {n : Nat} : aNw T n = 0 ↔ ∀ i, i < 35 → T.2 n i 3 = 0 := sm_0 35
theorem c_isQuiet (hI : aInv V T) {news : Nat → Int64} (hN : rN T news) : fX3_isQuiet (nI (aNN T)) news = some (bI (aQuiet T)) := by
  have h10 : aNN T ≤ 10 := hI.1.1
  refine wh_ex (fun b : Int32 => sX3_isQuiet_2 (nI (aNN T)) news b) (aNN T) (fun k s => s = nI k ∧ ∀ n, n < k → aNw T n = 0) (fun r => r = some (bI (aQuiet T))) ?_ ?_ 0 (0 : Int32) (by omega) ⟨zl0, fun n hn => by omega⟩
  · rintro k s hk ⟨rfl, hp⟩
    dsimp only [sX3_isQuiet_2]
    rw [ite_leN (by omega) (by omega), if_neg (by omega), gd_in (by omega), nI_cl (by omega)]
    by_cases h : aNw T k = 0
    · left
      refine ⟨nI (k + 1), ?_, rfl, fun n hn => ?_⟩
      · rw [if_pos (bt_zero.mpr (fun j hj => by
          rw [hN k j (by omega) hj]
          by_cases h35 : j < 35
          · have := (aNw_0.mp h) j h35
            simp [this]
          · simp [h35])), nm_eq, zl1, nI_add]
      · by_cases e : n = k
        · rw [e]; exact h
        · exact hp n (by omega)
    · right
      refine ⟨some 0, ?_, ?_⟩
      · rw [if_neg]
        intro q
        apply h
        rw [aNw_0]
        intro i hi
        have h1 := bt_zero.mp q i (by omega)
        rw [hN k i (by omega) (by omega)] at h1
        have h2 := (hI.db (n := k) (i := i) (by omega) hi).2.2.2.1
        have h3 : ¬ (i < 35 ∧ T.2 k i 3 = 1) := of_decide_eq_false h1
        omega
      · rw [bI_f (fun q => h (q k hk))]
  · rintro s ⟨rfl, hp⟩
    refine ⟨some 1, ?_, ?_⟩
    · dsimp only [sX3_isQuiet_2]
      rw [ite_leN (by omega) (by omega), if_pos (by omega)]
    · rw [bI_t hp]
theorem aTs_le (hI : aInv V T) {i : Nat} (hi : i < 35) : aTv T i ≤ V ∧ aTs T i ≤ 1 ∧ aTc T i ≤ 40 := by
  by_cases h1 : i < 16
  · obtain ⟨a, b, c⟩ := aTx_g (T := T) h1
    have := hI.2.2.2.2.2.2.1 i h1
    rw [a, b, c]; omega
  · by_cases h2 : i < 32
    · obtain ⟨a, b, c⟩ := aTx_l (T := T) (k := i - 16) (by omega)
      have := hI.link (k := i - 16) (by omega)
      rw [show 16 + (i - 16) = i by omega] at a b c
      rw [a, b, c]; omega
    · obtain ⟨a, b, c⟩ := aTx_t (T := T) (k := i - 32)
      have := hI.tun (k := i - 32) (by omega)
      rw [show 32 + (i - 32) = i by omega] at a b c
      rw [a, b, c]; omega
theorem c_isUp (hI : aInv V T) (hV : V < 2 ^ 20) {truth : Nat → Int32} (hU : rU T truth) {i : Nat} (hi : i < 35) : fX3_isUp (nI i) truth = some (bI (aTs T i = 1)) := by
  obtain ⟨h1, h2, h3⟩ := aTs_le hI hi
  unfold fX3_isUp
  rw [gd_in hi, nI_cl (by omega), hU i hi, c_state h1 hV h2 h3]
  simp only [Option.bind_some]
  rw [zl1, ite_eqN (by omega) (by omega)]
  unfold bI
  by_cases h : aTs T i = 1
  · rw [if_pos h, if_pos h]; rfl
  · rw [if_neg h, if_neg h]
theorem c_isUpL (hI : aInv V T) (hV : V < 2 ^ 20) {truth : Nat → Int32} (hU : rU T truth) {k : Nat} (hk : k < 16) : fX3_isUp (nI (16 + k)) truth = some (bI (aL T k 3 = 1)) := by
  rw [c_isUp hI hV hU (by omega)]
  exact congrArg some (bI_congr (by rw [(aTx_l (T := T) hk).2.1]))
theorem c_countMessages (hI : aInv V S) (hV : V < 2 ^ 20) {firsts seconds privates truth : Nat → Int32} {news : Nat → Int64} (hL : rL S firsts seconds privates) (hU : rU S truth) (hN : rN S news) : fX1_countMessages news (nI (aNL S)) firsts seconds truth = some (nI (aMs S (aNL S))) := by
  have h10 : aNN S ≤ 10 := hI.1.1
  have h16 : aNL S ≤ 16 := hI.1.2.1
  have eB : ∀ n, n < 10 → fJ13_bitCount_95d88 (news n) = some (nI (aNw S n)) := fun n hn => c_bitCount (d := fun i => S.2 n i 3) (fun i hi => (hI.db hn hi).2.2.2.1) (fun j hj => hN n j hn hj)
  refine wh_seq (fun b : Int32 × Int32 => sX1_countMessages_4 news (nI (aNL S)) firsts seconds truth b.1 b.2) (aNL S) (fun k => (nI (aMs S k), nI k)) _ ?_ ?_
  · intro k hk
    have hl := hI.2.2.1 k hk
    have es : aMs S (k + 1) = aMs S k + (if aL S k 3 = 0 then 0 else aNw S (aL S k 0) + aNw S (aL S k 1)) := rfl
    dsimp only [sX1_countMessages_4]
    rw [ite_leN (by omega) (by omega), if_neg (by omega), zl16, nI_add, c_isUpL hI hV hU (by omega)]
    simp only [Option.bind_some]
    rw [ite_bI, es]
    by_cases h : aL S k 3 = 1
    · rw [if_pos h, if_neg (by omega), gd_in (by omega), nI_cl (by omega), (hL k hk).1, (hL k hk).2.1, gd_in (by omega), nI_cl (by omega), eB _ (by omega)]
      simp only [Option.bind_some]
      rw [nm_eq, gd_in (by omega), gd_in (by omega), nI_cl (by omega), eB _ (by omega)]
      simp only [Option.bind_some]
      rw [nm_eq]
      unfold uX1_countMessages_57
      rw [nm_eq, zl1, nI_add, nI_add, nI_add, Nat.add_assoc]
    · rw [if_neg h, if_pos (by omega)]
      unfold uX1_countMessages_57
      rw [nm_eq, zl1, nI_add]
      rfl
  · dsimp only [sX1_countMessages_4]
    rw [ite_leN (by omega) (by omega), if_pos (by omega)]
end P37
