/-! Long.bitCount counts bits. -/
theorem land_add {i a b c d : Nat} (hb : b < 2 ^ i) (hd : d < 2 ^ i) : (2 ^ i * a + b) &&& (2 ^ i * c + d) = 2 ^ i * (a &&& c) + (b &&& d) := by
  apply Nat.eq_of_testBit_eq
  intro j
  have h : b &&& d < 2 ^ i := Nat.and_lt_two_pow b hd
  rw [Nat.testBit_and, Nat.testBit_two_pow_mul_add _ hb, Nat.testBit_two_pow_mul_add _ hd, Nat.testBit_two_pow_mul_add _ h]
  by_cases hj : j < i
  · rw [if_pos hj, if_pos hj, if_pos hj, Nat.testBit_and]
  · rw [if_neg hj, if_neg hj, if_neg hj, Nat.testBit_and]
theorem l256 {a b c d : Nat} (hb : b < 256) (hd : d < 256) : (256 * a + b) &&& (256 * c + d) = 256 * (a &&& c) + (b &&& d) := land_add (i := 8) hb hd
/-- bytes -/
def zby (d : Nat → Nat) : Nat → Nat
  | 0 => 0
  | m + 1 => 256 * zby (fun j => d (j + 1)) m + d 0
def zp1 (x : Nat) : Nat := x - (x / 2 &&& 85)
def zp2 (x : Nat) : Nat := (x &&& 51) + (x / 4 &&& 51)
def zp3 (x : Nat) : Nat := (x + x / 16) % 16
theorem by_and (K : Nat) (hK : K < 256) : ∀ m d, (∀ j, d j < 256) → zby d m &&& zby (fun _ => K) m = zby (fun j => d j &&& K) m
  | 0, d, h => by simp [zby]
  | m + 1, d, h => by
    show (256 * zby (fun j => d (j + 1)) m + d 0) &&& (256 * zby (fun _ => K) m + K) = 256 * zby (fun j => d (j + 1) &&& K) m + (d 0 &&& K)
    rw [l256 (h 0) hK, by_and K hK m _ (fun j => h (j + 1))]
theorem by_and2 (s K : Nat) (hs : s ≤ 8) (hK : K < 2 ^ (8 - s)) : ∀ m d, (∀ j, d j < 256) → (zby d m / 2 ^ s) &&& zby (fun _ => K) m = zby (fun j => (d j / 2 ^ s) &&& K) m
  | 0, d, h => by simp [zby]
  | m + 1, d, h => by
    show ((256 * zby (fun j => d (j + 1)) m + d 0) / 2 ^ s) &&& (256 * zby (fun _ => K) m + K) = 256 * zby (fun j => (d (j + 1) / 2 ^ s) &&& K) m + ((d 0 / 2 ^ s) &&& K)
    have ih := by_and2 s K hs hK m _ (fun j => h (j + 1))
    rw [← ih]
    generalize hX : zby (fun j => d (j + 1)) m = X
    generalize zby (fun _ => K) m = M
    have h0 := h 0
    have e8 : (256 : Nat) = 2 ^ (8 - s) * 2 ^ s := by rw [← Nat.pow_add, Nat.sub_add_cancel hs]
    have hp : 0 < 2 ^ s := Nat.two_pow_pos s
    have hlt : d 0 / 2 ^ s < 2 ^ (8 - s) := Nat.div_lt_of_lt_mul (by rw [Nat.mul_comm, ← e8]; exact h0)
    have e1 : (256 * X + d 0) / 2 ^ s = 2 ^ (8 - s) * X + d 0 / 2 ^ s := by
      rw [e8, Nat.add_comm, show 2 ^ (8 - s) * 2 ^ s * X = 2 ^ s * (2 ^ (8 - s) * X) by ac_rfl, Nat.add_mul_div_left _ _ hp, Nat.add_comm]
    have hX2 : X = 2 ^ s * (X / 2 ^ s) + X % 2 ^ s := (Nat.div_add_mod X (2 ^ s)).symm
    have e2 : 2 ^ (8 - s) * X + d 0 / 2 ^ s = 256 * (X / 2 ^ s) + (2 ^ (8 - s) * (X % 2 ^ s) + d 0 / 2 ^ s) := by
      rw [e8]
      conv => lhs; rw [hX2]
      rw [Nat.mul_add, ← Nat.mul_assoc, Nat.add_assoc]
    have hlow : 2 ^ (8 - s) * (X % 2 ^ s) + d 0 / 2 ^ s < 256 := by
      have h1 : X % 2 ^ s + 1 ≤ 2 ^ s := Nat.mod_lt _ hp
      have h2 : 2 ^ (8 - s) * (X % 2 ^ s + 1) ≤ 2 ^ (8 - s) * 2 ^ s := Nat.mul_le_mul_left _ h1
      rw [← e8, Nat.mul_add, Nat.mul_one] at h2
      omega
    have hK2 : K < 256 := by
      have : 2 ^ (8 - s) ≤ 2 ^ 8 := Nat.pow_le_pow_right (by omega) (by omega)
      omega
    rw [e1, e2, l256 hlow hK2]
    have := land_add (i := 8 - s) (a := X % 2 ^ s) (b := d 0 / 2 ^ s) (c := 0) (d := K) hlt hK
    rw [Nat.mul_zero, Nat.zero_add, Nat.and_zero, Nat.mul_zero, Nat.zero_add] at this
    rw [this]
theorem by_sub : ∀ m d e, (∀ j, e j ≤ d j) → zby d m - zby e m = zby (fun j => d j - e j) m ∧ zby e m ≤ zby d m
  | 0, d, e, h => by simp [zby]
  | m + 1, d, e, h => by
    obtain ⟨h1, h2⟩ := by_sub m (fun j => d (j + 1)) (fun j => e (j + 1)) (fun j => h (j + 1))
    have h0 := h 0
    show (256 * zby (fun j => d (j + 1)) m + d 0) - (256 * zby (fun j => e (j + 1)) m + e 0) = 256 * zby (fun j => d (j + 1) - e (j + 1)) m + (d 0 - e 0) ∧ (256 * zby (fun j => e (j + 1)) m + e 0) ≤ (256 * zby (fun j => d (j + 1)) m + d 0)
    omega
theorem by_add : ∀ m d e, zby d m + zby e m = zby (fun j => d j + e j) m
  | 0, d, e => rfl
  | m + 1, d, e => by
    have h1 := by_add m (fun j => d (j + 1)) (fun j => e (j + 1))
    show (256 * zby (fun j => d (j + 1)) m + d 0) + (256 * zby (fun j => e (j + 1)) m + e 0) = 256 * zby (fun j => d (j + 1) + e (j + 1)) m + (d 0 + e 0)
    omega
theorem by_s3 : ∀ m d, (∀ j, d j < 128 ∧ d j % 16 ≤ 4) → (zby d m + zby d m / 16) &&& zby (fun _ => 15) m = zby (fun j => zp3 (d j)) m
  | 0, d, h => by simp [zby]
  | m + 1, d, h => by
    have ih := by_s3 m _ (fun j => h (j + 1))
    show ((256 * zby (fun j => d (j + 1)) m + d 0) + (256 * zby (fun j => d (j + 1)) m + d 0) / 16) &&& (256 * zby (fun _ => 15) m + 15) = 256 * zby (fun j => zp3 (d (j + 1))) m + zp3 (d 0)
    rw [← ih]
    have hlow : zby (fun j => d (j + 1)) m % 16 ≤ 4 := by
      cases m with
      | zero => show 0 % 16 ≤ 4; omega
      | succ m =>
        show (256 * zby (fun j => d (j + 1 + 1)) m + d 1) % 16 ≤ 4
        have := (h 1).2
        omega
    generalize zby (fun j => d (j + 1)) m = X at hlow
    generalize zby (fun _ => 15) m = M
    have h0 := h 0
    have e : (256 * X + d 0) + (256 * X + d 0) / 16 = 256 * (X + X / 16) + (d 0 + d 0 / 16 + 16 * (X % 16)) := by omega
    rw [e, l256 (by omega) (by omega)]
    have e2 : (d 0 + d 0 / 16 + 16 * (X % 16)) &&& 15 = zp3 (d 0) := by
      have := Nat.and_two_pow_sub_one_eq_mod (d 0 + d 0 / 16 + 16 * (X % 16)) 4
      rw [show (15 : Nat) = 2 ^ 4 - 1 by rfl, this]
      unfold zp3
      omega
    rw [e2]
theorem by_lt : ∀ m d, (∀ j, d j < 256) → zby d m < 256 ^ m
  | 0, d, h => by simp [zby]
  | m + 1, d, h => by
    have := by_lt m _ (fun j => h (j + 1))
    have h0 := h 0
    show 256 * zby (fun j => d (j + 1)) m + d 0 < 256 ^ (m + 1)
    rw [Nat.pow_succ]
    omega
theorem by_of : ∀ m X, X < 256 ^ m → zby (fun j => X / 256 ^ j % 256) m = X
  | 0, X, h => by simp [zby] at *; omega
  | m + 1, X, h => by
    have ih := by_of m (X / 256) (by rw [Nat.pow_succ] at h; omega)
    have e : (fun j => X / 256 ^ (j + 1) % 256) = (fun j => X / 256 / 256 ^ j % 256) := by
      funext j
      rw [Nat.pow_succ, Nat.mul_comm, Nat.div_div_eq_div_mul]
    show 256 * zby (fun j => X / 256 ^ (j + 1) % 256) m + X / 256 ^ 0 % 256 = X
    rw [e, ih]
    omega
theorem zp12 : ∀ x, x < 256 → (x / 2 &&& 85) ≤ x ∧ zp1 x < 256 ∧ (zp2 (zp1 x) < 128 ∧ zp2 (zp1 x) % 16 ≤ 4) ∧ zp3 (zp2 (zp1 x)) ≤ 8 ∧ zp3 (zp2 (zp1 x)) = x % 2 + x / 2 % 2 + x / 4 % 2 + x / 8 % 2 + x / 16 % 2 + x / 32 % 2 + x / 64 % 2 + x / 128 % 2 := by decide +kernel

theorem zp4 {a0 a1 a2 a3 a4 a5 a6 a7 X : Nat} (h0 : a0 ≤ 8) (hX : X = a0 + 256 * a1 + 65536 * a2 + 16777216 * a3 + 4294967296 * a4 + 1099511627776 * a5 + 281474976710656 * a6 + 72057594037927936 * a7) : X / 256 = a1 + 256 * a2 + 65536 * a3 + 16777216 * a4 + 4294967296 * a5 + 1099511627776 * a6 + 281474976710656 * a7 := by omega
theorem zp5 {b0 b1 R Y : Nat} (h0 : b0 ≤ 16) (h1 : b1 ≤ 16) (hX : Y = b0 + 256 * b1 + 65536 * R) : Y / 65536 = R := by omega
theorem zp6 {b0 b1 b2 b3 R Y : Nat} (h0 : b0 ≤ 32) (h1 : b1 ≤ 32) (h2 : b2 ≤ 32) (h3 : b3 ≤ 32) (hX : Y = b0 + 256 * b1 + 65536 * b2 + 16777216 * b3 + 4294967296 * R) : Y / 4294967296 = R := by omega
theorem zq4 {a0 a1 a2 a3 a4 a5 a6 a7 X : Nat} (h0 : a0 ≤ 8) (h1 : a1 ≤ 8) (h2 : a2 ≤ 8) (h3 : a3 ≤ 8) (h4 : a4 ≤ 8) (h5 : a5 ≤ 8) (h6 : a6 ≤ 8) (h7 : a7 ≤ 8) (hX : X = a0 + 256 * a1 + 65536 * a2 + 16777216 * a3 + 4294967296 * a4 + 1099511627776 * a5 + 281474976710656 * a6 + 72057594037927936 * a7) : X < 2 ^ 62 := by omega
theorem zq5 {a0 a1 a2 a3 a4 a5 a6 a7 X Y : Nat} (h0 : a0 ≤ 8) (h1 : a1 ≤ 8) (h2 : a2 ≤ 8) (h3 : a3 ≤ 8) (h4 : a4 ≤ 8) (h5 : a5 ≤ 8) (h6 : a6 ≤ 8) (h7 : a7 ≤ 8) (hX : X = a0 + 256 * a1 + 65536 * a2 + 16777216 * a3 + 4294967296 * a4 + 1099511627776 * a5 + 281474976710656 * a6 + 72057594037927936 * a7) (hY : Y = X + X / 256) : Y = (a0 + a1) + 256 * (a1 + a2) + 65536 * (a2 + a3) + 16777216 * (a3 + a4) + 4294967296 * (a4 + a5) + 1099511627776 * (a5 + a6) + 281474976710656 * (a6 + a7) + 72057594037927936 * a7 := by
  rw [zp4 h0 hX, hX] at hY
  rw [hY]
  clear hX hY h0 h1 h2 h3 h4 h5 h6 h7
  omega
theorem zq5b {a0 a1 a2 a3 a4 a5 a6 a7 Y : Nat} (h0 : a0 ≤ 8) (h1 : a1 ≤ 8) (h2 : a2 ≤ 8) (h3 : a3 ≤ 8) (h4 : a4 ≤ 8) (h5 : a5 ≤ 8) (h6 : a6 ≤ 8) (h7 : a7 ≤ 8) (hY : Y = (a0 + a1) + 256 * (a1 + a2) + 65536 * (a2 + a3) + 16777216 * (a3 + a4) + 4294967296 * (a4 + a5) + 1099511627776 * (a5 + a6) + 281474976710656 * (a6 + a7) + 72057594037927936 * a7) : Y < 2 ^ 62 := by omega
theorem zq6 {a0 a1 a2 a3 a4 a5 a6 a7 Y Z : Nat} (h0 : a0 ≤ 8) (h1 : a1 ≤ 8) (h2 : a2 ≤ 8) (h3 : a3 ≤ 8) (h4 : a4 ≤ 8) (h5 : a5 ≤ 8) (h6 : a6 ≤ 8) (h7 : a7 ≤ 8) (hY : Y = (a0 + a1) + 256 * (a1 + a2) + 65536 * (a2 + a3) + 16777216 * (a3 + a4) + 4294967296 * (a4 + a5) + 1099511627776 * (a5 + a6) + 281474976710656 * (a6 + a7) + 72057594037927936 * a7) (hZ : Z = Y + Y / 65536) : Z = (a0 + a1 + a2 + a3) + 256 * (a1 + a2 + a3 + a4) + 65536 * (a2 + a3 + a4 + a5) + 16777216 * (a3 + a4 + a5 + a6) + 4294967296 * (a4 + a5 + a6 + a7) + 1099511627776 * (a5 + a6 + a7) + 281474976710656 * (a6 + a7) + 72057594037927936 * a7 := by
  have z1 := zp5 (b0 := a0 + a1) (b1 := a1 + a2) (R := (a2 + a3) + 256 * (a3 + a4) + 65536 * (a4 + a5) + 16777216 * (a5 + a6) + 4294967296 * (a6 + a7) + 1099511627776 * a7) (Y := Y) (by omega) (by omega) (by rw [hY]; clear hZ hY h0 h1 h2 h3 h4 h5 h6 h7; omega)
  rw [z1, hY] at hZ
  rw [hZ]
  clear hZ hY z1 h0 h1 h2 h3 h4 h5 h6 h7
  omega
theorem zq6b {a0 a1 a2 a3 a4 a5 a6 a7 Y : Nat} (h0 : a0 ≤ 8) (h1 : a1 ≤ 8) (h2 : a2 ≤ 8) (h3 : a3 ≤ 8) (h4 : a4 ≤ 8) (h5 : a5 ≤ 8) (h6 : a6 ≤ 8) (h7 : a7 ≤ 8) (hY : Y = (a0 + a1 + a2 + a3) + 256 * (a1 + a2 + a3 + a4) + 65536 * (a2 + a3 + a4 + a5) + 16777216 * (a3 + a4 + a5 + a6) + 4294967296 * (a4 + a5 + a6 + a7) + 1099511627776 * (a5 + a6 + a7) + 281474976710656 * (a6 + a7) + 72057594037927936 * a7) : Y < 2 ^ 62 := by omega
theorem zq7 {a0 a1 a2 a3 a4 a5 a6 a7 Z W : Nat} (h0 : a0 ≤ 8) (h1 : a1 ≤ 8) (h2 : a2 ≤ 8) (h3 : a3 ≤ 8) (h4 : a4 ≤ 8) (h5 : a5 ≤ 8) (h6 : a6 ≤ 8) (h7 : a7 ≤ 8) (hY : Z = (a0 + a1 + a2 + a3) + 256 * (a1 + a2 + a3 + a4) + 65536 * (a2 + a3 + a4 + a5) + 16777216 * (a3 + a4 + a5 + a6) + 4294967296 * (a4 + a5 + a6 + a7) + 1099511627776 * (a5 + a6 + a7) + 281474976710656 * (a6 + a7) + 72057594037927936 * a7) (hZ : W = Z + Z / 4294967296) : W = (a0 + a1 + a2 + a3 + a4 + a5 + a6 + a7) + 256 * (a1 + a2 + a3 + a4 + a5 + a6 + a7) + 65536 * (a2 + a3 + a4 + a5 + a6 + a7) + 16777216 * (a3 + a4 + a5 + a6 + a7) + 4294967296 * (a4 + a5 + a6 + a7) + 1099511627776 * (a5 + a6 + a7) + 281474976710656 * (a6 + a7) + 72057594037927936 * a7 := by
  have z1 := zp6 (b0 := (a0 + a1 + a2 + a3)) (b1 := (a1 + a2 + a3 + a4)) (b2 := (a2 + a3 + a4 + a5)) (b3 := (a3 + a4 + a5 + a6)) (R := (a4 + a5 + a6 + a7) + 256 * (a5 + a6 + a7) + 65536 * (a6 + a7) + 16777216 * a7) (Y := Z) (by omega) (by omega) (by omega) (by omega) (by rw [hY]; clear hZ hY h0 h1 h2 h3 h4 h5 h6 h7; omega)
  rw [z1, hY] at hZ
  rw [hZ]
  clear hZ hY z1 h0 h1 h2 h3 h4 h5 h6 h7
  omega
theorem zq7b {a0 a1 a2 a3 a4 a5 a6 a7 Y : Nat} (h0 : a0 ≤ 8) (h1 : a1 ≤ 8) (h2 : a2 ≤ 8) (h3 : a3 ≤ 8) (h4 : a4 ≤ 8) (h5 : a5 ≤ 8) (h6 : a6 ≤ 8) (h7 : a7 ≤ 8) (hY : Y = (a0 + a1 + a2 + a3 + a4 + a5 + a6 + a7) + 256 * (a1 + a2 + a3 + a4 + a5 + a6 + a7) + 65536 * (a2 + a3 + a4 + a5 + a6 + a7) + 16777216 * (a3 + a4 + a5 + a6 + a7) + 4294967296 * (a4 + a5 + a6 + a7) + 1099511627776 * (a5 + a6 + a7) + 281474976710656 * (a6 + a7) + 72057594037927936 * a7) : Y < 2 ^ 62 := by omega
theorem zq8 {b0 b1 b2 b3 b4 b5 b6 b7 W : Nat} (h : b0 < 128) (hW : W = b0 + 256 * b1 + 65536 * b2 + 16777216 * b3 + 4294967296 * b4 + 1099511627776 * b5 + 281474976710656 * b6 + 72057594037927936 * b7) : W % 128 = b0 := by omega
theorem zp456 {a0 a1 a2 a3 a4 a5 a6 a7 X Y Z W : Nat} (h0 : a0 ≤ 8) (h1 : a1 ≤ 8) (h2 : a2 ≤ 8) (h3 : a3 ≤ 8) (h4 : a4 ≤ 8) (h5 : a5 ≤ 8) (h6 : a6 ≤ 8) (h7 : a7 ≤ 8) (hX : X = a0 + 256 * a1 + 65536 * a2 + 16777216 * a3 + 4294967296 * a4 + 1099511627776 * a5 + 281474976710656 * a6 + 72057594037927936 * a7) (hY : Y = X + X / 256) (hZ : Z = Y + Y / 65536) (hW : W = Z + Z / 4294967296) : (X < 2 ^ 62 ∧ Y < 2 ^ 62 ∧ Z < 2 ^ 62 ∧ W < 2 ^ 62) ∧ W % 128 = a0 + a1 + a2 + a3 + a4 + a5 + a6 + a7 := by
  have f5 := zq5 h0 h1 h2 h3 h4 h5 h6 h7 hX hY
  have f6 := zq6 h0 h1 h2 h3 h4 h5 h6 h7 f5 hZ
  have f7 := zq7 h0 h1 h2 h3 h4 h5 h6 h7 f6 hW
  refine ⟨⟨zq4 h0 h1 h2 h3 h4 h5 h6 h7 hX, zq5b h0 h1 h2 h3 h4 h5 h6 h7 f5, zq6b h0 h1 h2 h3 h4 h5 h6 h7 f6, zq7b h0 h1 h2 h3 h4 h5 h6 h7 f7⟩, zq8 ?_ f7⟩
  clear f5 f6 f7 hX hY hZ hW
  omega
theorem by_8 (e : Nat → Nat) : zby e 8 = e 0 + 256 * e 1 + 65536 * e 2 + 16777216 * e 3 + 4294967296 * e 4 + 1099511627776 * e 5 + 281474976710656 * e 6 + 72057594037927936 * e 7 := by
  show 256 * (256 * (256 * (256 * (256 * (256 * (256 * (256 * 0 + e 7) + e 6) + e 5) + e 4) + e 3) + e 2) + e 1) + e 0 = _
  omega
/-- the count of bits, in numbers -/
theorem pop_nat {X : Nat} (hX : X < 2 ^ 64) {w1 w2 w3 w4 w5 w6 : Nat} (e1 : w1 = X - (X / 2 &&& 6148914691236517205)) (e2 : w2 = (w1 &&& 3689348814741910323) + (w1 / 4 &&& 3689348814741910323)) (e3 : w3 = (w2 + w2 / 16) &&& 1085102592571150095) (e4 : w4 = w3 + w3 / 256) (e5 : w5 = w4 + w4 / 65536) (e6 : w6 = w5 + w5 / 4294967296) :
    (X / 2 &&& 6148914691236517205) ≤ X ∧ w1 < 2 ^ 64 ∧ w2 < 2 ^ 63 ∧ (w3 < 2 ^ 62 ∧ w4 < 2 ^ 62 ∧ w5 < 2 ^ 62 ∧ w6 < 2 ^ 62) ∧ w6 % 128 = zp3 (zp2 (zp1 (X / 256 ^ 0 % 256))) + zp3 (zp2 (zp1 (X / 256 ^ 1 % 256))) + zp3 (zp2 (zp1 (X / 256 ^ 2 % 256))) + zp3 (zp2 (zp1 (X / 256 ^ 3 % 256))) + zp3 (zp2 (zp1 (X / 256 ^ 4 % 256))) + zp3 (zp2 (zp1 (X / 256 ^ 5 % 256))) + zp3 (zp2 (zp1 (X / 256 ^ 6 % 256))) + zp3 (zp2 (zp1 (X / 256 ^ 7 % 256))) := by
  have hb : ∀ j, X / 256 ^ j % 256 < 256 := fun j => Nat.mod_lt _ (by omega)
  have hd := by_of 8 X (by omega)
  generalize hdd : (fun j => X / 256 ^ j % 256) = d at hd
  have hdj : ∀ j, X / 256 ^ j % 256 = d j := fun j => by rw [← hdd]
  simp only [hdj] at hb ⊢
  have m1 : (6148914691236517205 : Nat) = zby (fun _ => 85) 8 := by decide +kernel
  have m2 : (3689348814741910323 : Nat) = zby (fun _ => 51) 8 := by decide +kernel
  have m3 : (1085102592571150095 : Nat) = zby (fun _ => 15) 8 := by decide +kernel
  have s1 := by_and2 1 85 (by omega) (by decide) 8 d hb
  have q := fun j => zp12 (d j) (hb j)
  obtain ⟨s2, s3⟩ := by_sub 8 d (fun j => (d j / 2 ^ 1) &&& 85) (fun j => (q j).1)
  rw [hd, ← m1] at s1
  rw [Nat.pow_one] at s1
  have f1 : w1 = zby (fun j => zp1 (d j)) 8 := by
    rw [e1, s1]
    conv => lhs; rw [← hd]
    exact s2
  have g1 : ∀ j, zp1 (d j) < 256 := fun j => (q j).2.1
  have t1 := by_and 51 (by omega) 8 (fun j => zp1 (d j)) g1
  have t2 := by_and2 2 51 (by omega) (by decide) 8 (fun j => zp1 (d j)) g1
  rw [← f1, ← m2] at t1 t2
  have f2 : w2 = zby (fun j => zp2 (zp1 (d j))) 8 := by
    rw [e2, t1, show (4 : Nat) = 2 ^ 2 by rfl, t2, by_add]
    rfl
  have t3 := by_s3 8 (fun j => zp2 (zp1 (d j))) (fun j => (q j).2.2.1)
  rw [← f2, ← m3] at t3
  have f3 : w3 = zby (fun j => zp3 (zp2 (zp1 (d j)))) 8 := by rw [e3, t3]
  have hw1 := by_lt 8 _ g1
  rw [← f1] at hw1
  have b2 := by_8 (fun j => zp2 (zp1 (d j)))
  rw [← f2] at b2
  rw [by_8] at f3
  have r : ∀ j, zp3 (zp2 (zp1 (d j))) ≤ 8 := fun j => (q j).2.2.2.1
  have c : ∀ j, zp2 (zp1 (d j)) < 128 := fun j => (q j).2.2.1.1
  have fin := zp456 (r 0) (r 1) (r 2) (r 3) (r 4) (r 5) (r 6) (r 7) f3 e4 e5 e6
  refine ⟨?_, by omega, ?_, fin.1, fin.2⟩
  · rw [s1]
    conv => rhs; rw [← hd]
    exact s3
  · have c0 := c 0
    have c1 := c 1
    have c2 := c 2
    have c3 := c 3
    have c4 := c 4
    have c5 := c 5
    have c6 := c 6
    have c7 := c 7
    rw [b2]
    omega

theorem byte_bit {X : Nat} (j t : Nat) (ht : t < 8) : X / 256 ^ j % 256 / 2 ^ t % 2 = X / 2 ^ (8 * j + t) % 2 := by
  have e : X / 2 ^ (8 * j + t) = X / 256 ^ j / 2 ^ t := by
    rw [Nat.pow_add, Nat.pow_mul, Nat.div_div_eq_div_mul]
  rw [e]
  generalize X / 256 ^ j = Y
  rcases (show t = 0 ∨ t = 1 ∨ t = 2 ∨ t = 3 ∨ t = 4 ∨ t = 5 ∨ t = 6 ∨ t = 7 by omega) with rfl | rfl | rfl | rfl | rfl | rfl | rfl | rfl <;> omega
theorem byte_pop {X : Nat} (j : Nat) : zp3 (zp2 (zp1 (X / 256 ^ j % 256))) = X / 2 ^ (8 * j + 0) % 2 + X / 2 ^ (8 * j + 1) % 2 + X / 2 ^ (8 * j + 2) % 2 + X / 2 ^ (8 * j + 3) % 2 + X / 2 ^ (8 * j + 4) % 2 + X / 2 ^ (8 * j + 5) % 2 + X / 2 ^ (8 * j + 6) % 2 + X / 2 ^ (8 * j + 7) % 2 := by
  rw [(zp12 _ (Nat.mod_lt _ (by omega))).2.2.2.2, ← byte_bit j 0 (by omega), ← byte_bit j 1 (by omega), ← byte_bit j 2 (by omega), ← byte_bit j 3 (by omega), ← byte_bit j 4 (by omega), ← byte_bit j 5 (by omega), ← byte_bit j 6 (by omega), ← byte_bit j 7 (by omega)]
  rw [Nat.pow_zero, Nat.div_one]
theorem sm_8 {c : Nat → Nat} {m : Nat} : sm c (8 * (m + 1)) = sm c (8 * m) + (c (8 * m + 0) + c (8 * m + 1) + c (8 * m + 2) + c (8 * m + 3) + c (8 * m + 4) + c (8 * m + 5) + c (8 * m + 6) + c (8 * m + 7)) := by
  show sm c (8 * m) + c (8 * m + 0) + c (8 * m + 1) + c (8 * m + 2) + c (8 * m + 3) + c (8 * m + 4) + c (8 * m + 5) + c (8 * m + 6) + c (8 * m + 7) = _
  omega
theorem sm_tail {c : Nat → Nat} {m : Nat} : ∀ k, (∀ i, m ≤ i → c i = 0) → sm c (m + k) = sm c m
  | 0, _ => rfl
  | k + 1, h => by
    show sm c (m + k) + c (m + k) = sm c m
    rw [h (m + k) (by omega), sm_tail k h]
    rfl

def tnL (x : Int64) : Nat := x.toBitVec.toNat
theorem tnL_lt (x : Int64) : tnL x < 2 ^ 64 := x.toBitVec.isLt
theorem tnL_and (x y : Int64) : tnL (x &&& y) = tnL x &&& tnL y := by unfold tnL; rw [Int64.toBitVec_and, BitVec.toNat_and]
theorem tnL_add {x y : Int64} (h : tnL x + tnL y < 2 ^ 64) : tnL (x + y) = tnL x + tnL y := by
  unfold tnL at *
  rw [Int64.toBitVec_add, BitVec.toNat_add, Nat.mod_eq_of_lt h]
theorem tnL_sub {x y : Int64} (h : tnL y ≤ tnL x) : tnL (x - y) = tnL x - tnL y := by
  have := tnL_lt x
  unfold tnL at *
  rw [Int64.toBitVec_sub, BitVec.toNat_sub]
  omega
theorem tnL_ushr (x : Int64) (s : Nat) (y : Int32) (hs : s < 64) (hy : ((y.toInt64.toUInt64 &&& Int64.toUInt64 63)).toNat = s) : tnL (zushrL x y) = tnL x / 2 ^ s := by
  show (x.toUInt64 >>> (y.toInt64.toUInt64 &&& Int64.toUInt64 63)).toNat = _
  rw [UInt64.toNat_shiftRight, hy, Nat.mod_eq_of_lt hs, Nat.shiftRight_eq_div_pow]
  rfl
theorem c_bitCount0 (x : Int64) : fJ13_bitCount_95d88 x = some (nI (sm (fun i => tnL x / 2 ^ i % 2) 64)) := by
  unfold fJ13_bitCount_95d88
  simp only [nm_eq]
  generalize g1 : x - (zushrL x 1 &&& 6148914691236517205) = v1
  generalize g2 : (v1 &&& 3689348814741910323) + (zushrL v1 2 &&& 3689348814741910323) = v2
  generalize g3 : (v2 + zushrL v2 4) &&& 1085102592571150095 = v3
  generalize g4 : v3 + zushrL v3 8 = v4
  generalize g5 : v4 + zushrL v4 16 = v5
  generalize g6 : v5 + zushrL v5 32 = v6
  have k1 : tnL 6148914691236517205 = 6148914691236517205 := by decide
  have k2 : tnL 3689348814741910323 = 3689348814741910323 := by decide
  have k3 : tnL 1085102592571150095 = 1085102592571150095 := by decide
  have P := pop_nat (tnL_lt x) rfl rfl rfl rfl rfl rfl
  obtain ⟨b0, b1, b2, ⟨b3, b4, b5, b6⟩, b7⟩ := P
  have t1 : tnL v1 = tnL x - (tnL x / 2 &&& 6148914691236517205) := by
    rw [← g1, tnL_sub, tnL_and, tnL_ushr x 1 1 (by omega) (by decide), k1]
    rw [tnL_and, tnL_ushr x 1 1 (by omega) (by decide), k1]; exact b0
  rw [← t1] at b1 b2 b3 b4 b5 b6 b7
  have t2 : tnL v2 = (tnL v1 &&& 3689348814741910323) + (tnL v1 / 4 &&& 3689348814741910323) := by
    have e1 : tnL (v1 &&& 3689348814741910323) = tnL v1 &&& 3689348814741910323 := by rw [tnL_and, k2]
    have e2 : tnL (zushrL v1 2 &&& 3689348814741910323) = tnL v1 / 4 &&& 3689348814741910323 := by rw [tnL_and, tnL_ushr v1 2 2 (by omega) (by decide), k2]
    rw [← g2, tnL_add (by rw [e1, e2]; omega), e1, e2]
  rw [← t2] at b2 b3 b4 b5 b6 b7
  have t3 : tnL v3 = (tnL v2 + tnL v2 / 16) &&& 1085102592571150095 := by
    have e2 : tnL (zushrL v2 4) = tnL v2 / 16 := tnL_ushr v2 4 4 (by omega) (by decide)
    rw [← g3, tnL_and, tnL_add (by rw [e2]; omega), e2, k3]
  rw [← t3] at b3 b4 b5 b6 b7
  have t4 : tnL v4 = tnL v3 + tnL v3 / 256 := by
    have e2 : tnL (zushrL v3 8) = tnL v3 / 256 := tnL_ushr v3 8 8 (by omega) (by decide)
    rw [← g4, tnL_add (by rw [e2]; omega), e2]
  rw [← t4] at b4 b5 b6 b7
  have t5 : tnL v5 = tnL v4 + tnL v4 / 65536 := by
    have e2 : tnL (zushrL v4 16) = tnL v4 / 65536 := tnL_ushr v4 16 16 (by omega) (by decide)
    rw [← g5, tnL_add (by rw [e2]; omega), e2]
  rw [← t5] at b5 b6 b7
  have t6 : tnL v6 = tnL v5 + tnL v5 / 4294967296 := by
    have e2 : tnL (zushrL v5 32) = tnL v5 / 4294967296 := tnL_ushr v5 32 32 (by omega) (by decide)
    rw [← g6, tnL_add (by rw [e2]; omega), e2]
  rw [← t6] at b6 b7
  refine congrArg some ?_
  have hs : sm (fun i => tnL x / 2 ^ i % 2) 64 = tnL v6 % 128 := by
    rw [b7]
    simp only [byte_pop]
    show sm (fun i => tnL x / 2 ^ i % 2) (8 * (7 + 1)) = _
    rw [sm_8, sm_8 (m := 6), sm_8 (m := 5), sm_8 (m := 4), sm_8 (m := 3), sm_8 (m := 2), sm_8 (m := 1), sm_8 (m := 0)]
    simp only [sm, Nat.zero_add, Nat.mul_zero]
  rw [hs]
  apply Int32.toBitVec_inj.mp
  apply BitVec.eq_of_toNat_eq
  show ((v6.toInt32).toBitVec &&& (127 : Int32).toBitVec).toNat = (BitVec.ofNat 32 (tnL v6 % 128)).toNat
  rw [BitVec.toNat_and, BitVec.toNat_ofNat]
  have e1 : v6.toInt32.toBitVec.toNat = tnL v6 % 2 ^ 32 := by
    show (v6.toBitVec.signExtend 32).toNat = _
    rw [BitVec.signExtend_eq_setWidth_of_le _ (by omega), BitVec.toNat_setWidth]
    rfl
  have e2 : (127 : Int32).toBitVec.toNat = 2 ^ 7 - 1 := by decide
  rw [e1, e2, Nat.and_two_pow_sub_one_eq_mod]
  omega
theorem c_bitCount {x : Int64} {d : Nat → Nat} (hd : ∀ i, i < 35 → d i ≤ 1) (h : ∀ j, j < 64 → bt x j = decide (j < 35 ∧ d j = 1)) : fJ13_bitCount_95d88 x = some (nI (sm d 35)) := by
  rw [c_bitCount0]
  have e : ∀ i, i < 64 → tnL x / 2 ^ i % 2 = if i < 35 then d i else 0 := by
    intro i hi
    have hb := h i hi
    have : (tnL x).testBit i = decide (i < 35 ∧ d i = 1) := hb
    rw [Nat.testBit_eq_decide_div_mod_eq, decide_eq_decide] at this
    by_cases h1 : i < 35
    · have := hd i h1
      rw [if_pos h1]
      omega
    · rw [if_neg h1]
      omega
  rw [sm_congr 64 e]
  have := sm_tail (c := fun i => if i < 35 then d i else 0) (m := 35) 29 (fun i hi => if_neg (by omega))
  rw [show (64 : Nat) = 35 + 29 by rfl, this]
  rw [sm_congr 35 (g := d) (fun i hi => if_pos hi)]
