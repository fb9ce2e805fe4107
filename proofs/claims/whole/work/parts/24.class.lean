/-! The class's network against the abstract state. -/
def zpk (v s c : Nat) : Nat := v * 128 + c * 2 + s
abbrev aTv (T : zA) (i : Nat) : Nat := if i < 16 then aGv T i else if i < 32 then aL T (i - 16) 5 else aT T (i - 32) 4
abbrev aTs (T : zA) (i : Nat) : Nat := if i < 16 then aGr T i else if i < 32 then aL T (i - 16) 3 else aT T (i - 32) 3
abbrev aTc (T : zA) (i : Nat) : Nat := if i < 16 then 0 else if i < 32 then aL T (i - 16) 2 else aT T (i - 32) 2
/-- a long's bit -/
def bt (x : Int64) (i : Nat) : Bool := x.toBitVec.getLsbD i
def rA (T : zA) (areas : Nat → Int32) : Prop := ∀ n, n < aNN T → areas n = nI (aAr T n)
def rL (T : zA) (firsts seconds privates : Nat → Int32) : Prop := ∀ k, k < aNL T → firsts k = nI (aL T k 0) ∧ seconds k = nI (aL T k 1) ∧ privates k = nI (aL T k 4)
def rT (T : zA) (entries exits : Nat → Int32) : Prop := ∀ k, k < aNT T → entries k = nI (aT T k 0) ∧ exits k = nI (aT T k 1)
def rU (T : zA) (truth : Nat → Int32) : Prop := ∀ i, i < 35 → truth i = nI (zpk (aTv T i) (aTs T i) (aTc T i))
def rF (T : zA) (facts : Nat → Int32) : Prop := ∀ n i, n < 10 → i < 35 → facts (n * 35 + i) = nI (zpk (T.2 n i 0) (T.2 n i 1) (T.2 n i 2))
def rN (T : zA) (news : Nat → Int64) : Prop := ∀ n j, n < 10 → j < 64 → bt (news n) j = decide (j < 35 ∧ T.2 n j 3 = 1)
theorem ite_ltN {α : Type} {a b : Nat} {x y : α} (ha : a < 2 ^ 31) (hb : b < 2 ^ 31) : (if nI a < nI b then x else y) = if a < b then x else y := by
  by_cases h : a < b
  · rw [if_pos h, if_pos ((nI_ltI ha hb).mpr h)]
  · rw [if_neg h, if_neg (fun q => h ((nI_ltI ha hb).mp q))]
theorem ite_leN {α : Type} {a b : Nat} {x y : α} (ha : a < 2 ^ 31) (hb : b < 2 ^ 31) : (if nI a ≤ nI b then x else y) = if a ≤ b then x else y := by
  by_cases h : a ≤ b
  · rw [if_pos h, if_pos ((nI_leI ha hb).mpr h)]
  · rw [if_neg h, if_neg (fun q => h ((nI_leI ha hb).mp q))]
theorem ite_eqN {α : Type} {a b : Nat} {x y : α} (ha : a < 2 ^ 31) (hb : b < 2 ^ 31) : (if nI a = nI b then x else y) = if a = b then x else y := by
  by_cases h : a = b
  · rw [if_pos h, if_pos ((nI_eq ha hb).mpr h)]
  · rw [if_neg h, if_neg (fun q => h ((nI_eq ha hb).mp q))]
section P24
variable {T : zA} {V : Nat}
theorem zpk_lt {v s c V : Nat} (hv : v ≤ V) (hV : V < 2 ^ 20) (hs : s ≤ 1) (hc : c ≤ 40) : zpk v s c < 2 ^ 31 := by unfold zpk; omega
theorem zushr7 {n : Nat} (h : n < 2 ^ 31) : zushr (nI n) 7 = nI (n / 128) := pk_ushrN (by omega) 7 7 (by decide)
theorem zushr1 {n : Nat} (h : n < 2 ^ 31) : zushr (nI n) 1 = nI (n / 2) := pk_ushrN (by omega) 1 1 (by decide)
theorem c_version {v s c V : Nat} (hv : v ≤ V) (hV : V < 2 ^ 20) (hs : s ≤ 1) (hc : c ≤ 40) : fX0_version (nI (zpk v s c)) = some (nI v) := by
  unfold fX0_version
  rw [zushr7 (zpk_lt hv hV hs hc)]
  have : zpk v s c / 128 = v := by unfold zpk; omega
  rw [this]
theorem c_state {v s c V : Nat} (hv : v ≤ V) (hV : V < 2 ^ 20) (hs : s ≤ 1) (hc : c ≤ 40) : fX0_state (nI (zpk v s c)) = some (nI s) := by
  unfold fX0_state
  have := zpk_lt hv hV hs hc
  rw [pk_andN (by omega) 1 (by decide)]
  have : zpk v s c % 2 ^ 1 = s := by unfold zpk; omega
  rw [this]
theorem c_price {v s c V : Nat} (hv : v ≤ V) (hV : V < 2 ^ 20) (hs : s ≤ 1) (hc : c ≤ 40) : fX0_price (nI (zpk v s c)) = some (nI c) := by
  unfold fX0_price
  have h := zpk_lt hv hV hs hc
  rw [zushr1 h, pk_andN (by omega) 6 (by decide)]
  have : zpk v s c / 2 % 2 ^ 6 = c := by unfold zpk; omega
  rw [this]
theorem c_make {v s c V : Nat} (hv : v ≤ V) (hV : V < 2 ^ 20) (hs : s ≤ 1) (hc : c ≤ 40) : fX0_make (nI v) (nI s) (nI c) = some (nI (zpk v s c)) := by
  unfold fX0_make
  have e7 : ((7 : Int32) &&& 31) = 7 := by decide
  have e1 : ((1 : Int32) &&& 31) = 1 := by decide
  rw [e7, e1, pk_shlN 7 7 (by decide) (by omega), pk_shlN 1 1 (by decide) (by omega)]
  have o : ∀ a b : Nat, a < 2 ^ 31 → b < 2 ^ 31 → nI a ||| nI b = nI (a ||| b) := by
    intro a b ha hb
    apply Int32.toBitVec_inj.mp
    apply BitVec.eq_of_toNat_eq
    have e : (nI a ||| nI b).toBitVec = (nI a).toBitVec ||| (nI b).toBitVec := rfl
    have hab : a ||| b < 2 ^ 31 := Nat.or_lt_two_pow ha hb
    rw [e, BitVec.toNat_or, pk_tn (by omega), pk_tn (by omega), pk_tn (by omega)]
  have f1 : v * 2 ^ 7 ||| c * 2 ^ 1 = v * 128 + c * 2 := by
    have := Nat.two_pow_add_eq_or_of_lt (i := 7) (b := c * 2) (by omega) v
    rw [Nat.mul_comm v (2 ^ 7), show c * 2 ^ 1 = c * 2 by omega, ← this]
  have f2 : (v * 128 + c * 2) ||| s = v * 128 + c * 2 + s := by
    have := Nat.two_pow_add_eq_or_of_lt (i := 1) (b := s) (by omega) (v * 64 + c)
    have e : 2 ^ 1 * (v * 64 + c) = v * 128 + c * 2 := by omega
    rw [e] at this
    omega
  rw [o _ _ (by omega) (by omega), f1, o _ _ (by omega) (by omega), f2]
  rfl
theorem c_place {n i : Nat} : fX6_place (nI n) (nI i) = some (nI (n * 35 + i)) := by
  simp only [fX6_place, zl35, pk_mul, nI_add]
theorem c_grantItem {o b : Nat} : fX6_grantItem (nI o) (nI b) = some (nI (4 * o + b)) := by
  simp only [fX6_grantItem, zl4, pk_mul, nI_add]
theorem c_grantOwner {i : Nat} (h : i < 2 ^ 31) : fX6_grantOwner (nI i) = some (nI (i / 4)) := by
  simp only [fX6_grantOwner, zl4]
  rw [pk_div h (by omega) (by omega)]
theorem c_grantArea {i : Nat} (h : i < 2 ^ 31) : fX6_grantArea (nI i) = some (nI (i % 4)) := by
  simp only [fX6_grantArea, zl4]
  rw [pk_rem h (by omega) (by omega)]
/-- bits -/
theorem b_pow : ∀ i, i < 64 → ((1 : Int64) <<< ((nI i).toInt64 &&& 63)).toBitVec = BitVec.twoPow 64 i := by decide +kernel
theorem b_amt : ∀ i, i < 64 → (((nI i).toInt64 &&& 63).toBitVec.smod 64).toNat = i := by decide +kernel
theorem b_or {x : Int64} {i j : Nat} (hi : i < 64) (hj : j < 64) : bt (x ||| ((1 : Int64) <<< ((nI i).toInt64 &&& 63))) j = (bt x j || decide (j = i)) := by
  unfold bt
  rw [Int64.toBitVec_or, BitVec.getLsbD_or, b_pow i hi, BitVec.getLsbD_twoPow]
  congr 1
  by_cases h : j = i
  · subst h; simp [hj]
  · simp [h, Ne.symm h]
theorem b_clr {x : Int64} {i j : Nat} (hi : i < 64) (hj : j < 64) : bt (x &&& (((1 : Int64) <<< ((nI i).toInt64 &&& 63)) ^^^ (-1))) j = (bt x j && !decide (j = i)) := by
  unfold bt
  rw [Int64.toBitVec_and, BitVec.getLsbD_and, Int64.toBitVec_xor, BitVec.getLsbD_xor, b_pow i hi, BitVec.getLsbD_twoPow]
  have e : (-1 : Int64).toBitVec.getLsbD j = true := by
    have : (-1 : Int64).toBitVec = BitVec.allOnes 64 := by decide
    rw [this, BitVec.getLsbD_allOnes]
    simp [hj]
  rw [e]
  by_cases h : j = i
  · subst h; simp [hj]
  · simp [h, Ne.symm h]
/-- the small methods of the class's network -/
theorem c_isPrivateLink (hI : aInv V T) {firsts seconds privates : Nat → Int32} (hL : rL T firsts seconds privates) {i : Nat} (hi : i < 35) (hx : i < 16 ∨ i < 16 + aNL T ∨ 32 ≤ i) : fX3_isPrivateLink (nI i) privates = some (bI (aSec T i)) := by
  simp only [fX3_isPrivateLink, zl16, zl32, zl1]
  rw [ite_ltN (by omega) (by omega), ite_leN (by omega) (by omega)]
  by_cases h1 : i < 16
  · rw [if_pos h1, bI_f (fun q => by omega)]
  · rw [if_neg h1]
    by_cases h2 : 32 ≤ i
    · rw [if_pos h2, bI_f (fun q => by omega)]
    · have hk : i - 16 < aNL T := by omega
      have hb := hI.link (k := i - 16) (by omega)
      rw [if_neg h2, pk_sub (by omega), gd_in (by omega), nI_cl (by omega), (hL _ hk).2.2]
      by_cases h3 : aL T (i - 16) 4 = 1
      · rw [if_pos (by rw [h3]), bI_t ⟨by omega, by omega, h3⟩]; rfl
      · rw [if_neg (by rw [nI_eq (by omega) (by omega)]; exact h3), bI_f (fun q => h3 q.2.2)]
theorem c_owner (hI : aInv V T) {areas firsts seconds privates : Nat → Int32} (hA : rA T areas) (hL : rL T firsts seconds privates) {k : Nat} (hk : k < aNL T) : fX3_owner (nI k) areas firsts = some (nI (aOw T k)) := by
  have h16 : aNL T ≤ 16 := hI.1.2.1
  have hb := hI.2.2.1 k hk
  have h10 : aNN T ≤ 10 := hI.1.1
  unfold fX3_owner
  rw [gd_in (by omega), nI_cl (by omega), (hL k hk).1, gd_in (by omega), nI_cl (by omega), hA _ hb.1]
theorem c_isPrivateOf (hI : aInv V T) {areas firsts seconds privates : Nat → Int32} (hA : rA T areas) (hL : rL T firsts seconds privates) {k o : Nat} (hk : k < aNL T) (ho : o < 4) : fX3_isPrivateOf (nI k) (nI o) areas firsts privates = some (bI (aL T k 4 = 1 ∧ aOw T k = o)) := by
  have h16 : aNL T ≤ 16 := hI.1.2.1
  have hb := hI.2.2.1 k hk
  have h10 : aNN T ≤ 10 := hI.1.1
  have hw : aOw T k < 4 := hI.ar (n := aL T k 0) (by omega)
  simp only [fX3_isPrivateOf, zl1]
  rw [gd_in (by omega), nI_cl (by omega), (hL k hk).2.2, gd_in (by omega), (hL k hk).1, gd_in (by omega), nI_cl (by omega), hA _ hb.1]
  by_cases h1 : aL T k 4 = 1
  · rw [if_pos (by rw [h1])]
    by_cases h2 : aOw T k = o
    · rw [if_pos (by rw [← h2]), bI_t ⟨h1, h2⟩]; rfl
    · rw [if_neg (by show ¬ nI (aOw T k) = nI o; rw [nI_eq (by omega) (by omega)]; exact h2), bI_f (fun q => h2 q.2)]
  · rw [if_neg (by rw [nI_eq (by omega) (by omega)]; exact h1), bI_f (fun q => h1 q.1)]
theorem c_isEnd (hI : aInv V T) {firsts seconds privates : Nat → Int32} (hL : rL T firsts seconds privates) {n k : Nat} (hn : n < 10) (hk : k < aNL T) : fX3_isEnd (nI n) (nI k) firsts seconds = some (bI (aEnd T n k)) := by
  have h16 : aNL T ≤ 16 := hI.1.2.1
  have hb := hI.link (k := k) (by omega)
  simp only [fX3_isEnd, uX3_isEnd_20]
  rw [gd_in (by omega), nI_cl (by omega), (hL k hk).1, gd_in (by omega), (hL k hk).2.1]
  by_cases h1 : aL T k 0 = n
  · rw [if_pos (by rw [h1]), bI_t (Or.inl h1)]
  · rw [if_neg (by rw [nI_eq (by omega) (by omega)]; exact h1)]
    by_cases h2 : aL T k 1 = n
    · rw [if_pos (by rw [h2]), bI_t (Or.inr h2)]
    · rw [if_neg (by rw [nI_eq (by omega) (by omega)]; exact h2), bI_f (fun h => h.elim h1 h2)]
theorem c_mayKnow (hI : aInv V T) (hV : V < 2 ^ 20) {areas firsts seconds privates facts : Nat → Int32} (hA : rA T areas) (hL : rL T firsts seconds privates) (hF : rF T facts) {n i : Nat} (hn : n < aNN T) (hi : i < 35) (hx : i < 16 ∨ i < 16 + aNL T ∨ 32 ≤ i) : fX3_mayKnow (nI n) (nI i) areas firsts seconds privates facts = some (bI (aMk T n i)) := by
  have h10 : aNN T ≤ 10 := hI.1.1
  have h16 : aNL T ≤ 16 := hI.1.2.1
  simp only [fX3_mayKnow, uX3_mayKnow_73]
  rw [c_isPrivateLink hI hL hi hx]
  simp only [Option.bind_some]
  rw [ite_bI]
  by_cases hs : aSec T i
  · have hk : i - 16 < aNL T := by
      have := hs.1
      have := hs.2.1
      omega
    have hb := hI.2.2.1 _ hk
    have ho : aOw T (i - 16) < 4 := hI.ar (n := aL T (i - 16) 0) (by omega)
    have ha : aAr T n < 4 := hI.ar (n := n) (by omega)
    rw [if_pos hs, nm_eq, zl16, pk_sub hs.1, c_owner hI hA hL hk]
    simp only [Option.bind_some]
    rw [gd_in (by omega), nI_cl (by omega), hA n hn, c_grantItem]
    simp only [Option.bind_some]
    rw [c_isEnd hI hL (by omega) hk]
    simp only [Option.bind_some]
    rw [ite_bI]
    by_cases he : aEnd T n (i - 16)
    · rw [if_pos he, bI_t (Or.inr (Or.inl he))]
    · rw [if_neg he, gd_in (by omega)]
      by_cases hw : aAr T n = aOw T (i - 16)
      · rw [if_pos (by rw [hw]), bI_t (Or.inr (Or.inr (Or.inl hw)))]
      · rw [if_neg (by rw [nI_eq (by omega) (by omega)]; exact hw), c_place]
        simp only [Option.bind_some]
        have hd := hI.db (n := n) (i := 4 * aOw T (i - 16) + aAr T n) (by omega) (by omega)
        rw [gd_in (by omega), nI_cl (by omega), hF n _ (by omega) (by omega), c_state hd.1 hV hd.2.1 hd.2.2.1]
        simp only [Option.bind_some, zl1]
        by_cases hg : T.2 n (4 * aOw T (i - 16) + aAr T n) 1 = 1
        · have hg2 : aHg T n (aOw T (i - 16)) (aAr T n) := ⟨by
            apply Nat.pos_of_ne_zero
            intro z
            have := (hd.2.2.2.2 z).1
            omega, hg⟩
          rw [if_pos (by rw [hg]), bI_t (Or.inr (Or.inr (Or.inr hg2)))]; rfl
        · rw [if_neg (by rw [nI_eq (by omega) (by omega)]; exact hg), bI_f (fun q => q.elim (fun z => z hs) (fun z => z.elim he (fun y => y.elim hw (fun w => hg w.2))))]
  · rw [if_neg hs, bI_t (Or.inl hs)]
end P24
