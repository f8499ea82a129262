/-! ===== whole numbers behind ints and longs ===== -/
def iI (z : Int) : Int32 := Int32.ofInt z
def lI (z : Int) : Int64 := Int64.ofInt z
theorem iI_t {z : Int} (h1 : -2147483648 ≤ z) (h2 : z < 2147483648) : (iI z).toInt = z := Int32.toInt_ofInt_of_le (by omega) (by omega)
theorem lI_t {z : Int} (h1 : -9223372036854775808 ≤ z) (h2 : z < 9223372036854775808) : (lI z).toInt = z := Int64.toInt_ofInt_of_le (by omega) (by omega)
theorem iI_of (x : Int32) : iI x.toInt = x := Int32.ofInt_toInt x
theorem lI_of (x : Int64) : lI x.toInt = x := Int64.ofInt_toInt x
theorem iI_N (n : Nat) : nI n = iI n := Int32.ofInt_eq_ofNat.symm
theorem lI_N (n : Nat) : lN n = lI n := Int64.ofInt_eq_ofNat.symm
theorem iI_add (a b : Int) : iI a + iI b = iI (a + b) := (Int32.ofInt_add a b).symm
theorem iI_sub (a b : Int) : iI a - iI b = iI (a - b) := (Int32.ofInt_sub a b).symm
theorem iI_mul (a b : Int) : iI a * iI b = iI (a * b) := (Int32.ofInt_mul a b).symm
theorem iI_neg (a : Int) : -iI a = iI (-a) := (Int32.ofInt_neg a).symm
theorem lI_add (a b : Int) : lI a + lI b = lI (a + b) := (Int64.ofInt_add a b).symm
theorem lI_sub (a b : Int) : lI a - lI b = lI (a - b) := (Int64.ofInt_sub a b).symm
theorem lI_mul (a b : Int) : lI a * lI b = lI (a * b) := (Int64.ofInt_mul a b).symm
theorem lI_neg (a : Int) : -lI a = lI (-a) := (Int64.ofInt_neg a).symm
/-- a small int -/
def sI (z : Int) : Prop := -2147483648 ≤ z ∧ z < 2147483648
def sL (z : Int) : Prop := -9223372036854775808 ≤ z ∧ z < 9223372036854775808
theorem iI_lt {a b : Int} (ha : sI a) (hb : sI b) : iI a < iI b ↔ a < b := by rw [Int32.lt_iff_toInt_lt, iI_t ha.1 ha.2, iI_t hb.1 hb.2]
theorem iI_le {a b : Int} (ha : sI a) (hb : sI b) : iI a ≤ iI b ↔ a ≤ b := by rw [Int32.le_iff_toInt_le, iI_t ha.1 ha.2, iI_t hb.1 hb.2]
theorem iI_eq {a b : Int} (ha : sI a) (hb : sI b) : iI a = iI b ↔ a = b := by rw [← Int32.toInt_inj, iI_t ha.1 ha.2, iI_t hb.1 hb.2]
theorem lI_lt {a b : Int} (ha : sL a) (hb : sL b) : lI a < lI b ↔ a < b := by rw [Int64.lt_iff_toInt_lt, lI_t ha.1 ha.2, lI_t hb.1 hb.2]
theorem lI_le {a b : Int} (ha : sL a) (hb : sL b) : lI a ≤ lI b ↔ a ≤ b := by rw [Int64.le_iff_toInt_le, lI_t ha.1 ha.2, lI_t hb.1 hb.2]
theorem lI_eq {a b : Int} (ha : sL a) (hb : sL b) : lI a = lI b ↔ a = b := by rw [← Int64.toInt_inj, lI_t ha.1 ha.2, lI_t hb.1 hb.2]
theorem iI_l {a : Int} (ha : sI a) : (iI a).toInt64 = lI a := by
  rw [← Int64.toInt_inj, Int32.toInt_toInt64, iI_t ha.1 ha.2, lI_t (by have := ha.1; omega) (by have := ha.2; omega)]
theorem lI_i (a : Int) : (lI a).toInt32 = iI a := Int64.toInt32_ofInt
/-- lcmp -/
theorem lc_eq (x y : Int64) : lg_cmp x y = 0 ↔ x = y := by
  unfold lg_cmp
  by_cases h1 : x > y
  · rw [if_pos h1]
    have h2 : ¬ x = y := fun e => by subst e; exact absurd h1 (by simp)
    simp [h2]
  · rw [if_neg h1]
    by_cases h2 : x = y
    · simp [h2]
    · simp [h2]
theorem lc_le (x y : Int64) : lg_cmp x y ≤ 0 ↔ x ≤ y := by
  unfold lg_cmp
  by_cases h1 : x > y
  · rw [if_pos h1]
    have h2 : ¬ x ≤ y := by
      rw [Int64.le_iff_toInt_le]; rw [gt_iff_lt, Int64.lt_iff_toInt_lt] at h1; omega
    simp [h2]
  · rw [if_neg h1]
    have h3 : x ≤ y := by
      rw [Int64.le_iff_toInt_le]; rw [gt_iff_lt, Int64.lt_iff_toInt_lt] at h1; omega
    by_cases h2 : x = y
    · simp [h2]
    · simp [h2, h3]
theorem lc_ge (x y : Int64) : 0 ≤ lg_cmp x y ↔ y ≤ x := by
  unfold lg_cmp
  by_cases h1 : x > y
  · rw [if_pos h1]
    have h2 : y ≤ x := by
      rw [Int64.le_iff_toInt_le]; rw [gt_iff_lt, Int64.lt_iff_toInt_lt] at h1; omega
    simp [h2]
  · rw [if_neg h1]
    by_cases h2 : x = y
    · simp [h2]
    · have h3 : ¬ y ≤ x := by
        intro h
        rw [Int64.le_iff_toInt_le] at h; rw [gt_iff_lt, Int64.lt_iff_toInt_lt] at h1
        exact h2 (Int64.toInt_inj.mp (by omega))
      simp [h2, h3]
theorem lc_lt (x y : Int64) : lg_cmp x y < 0 ↔ x < y := by
  rw [← Int32.not_le, lc_ge, Int64.not_le]
theorem lc_gt (x y : Int64) : 0 < lg_cmp x y ↔ y < x := by
  rw [← Int32.not_le, lc_le, Int64.not_le]
/-! shifts and masks, over numbers that are not below 0 -/
theorem sm32 : ∀ n, n < 32 → ((nI n &&& 31).toBitVec.smod 32).toNat = n := by decide
theorem sh_r {n k : Nat} (hk : k < 32) (hn : n < 2147483648) : nI n >>> (nI k &&& 31) = nI (n / 2 ^ k) := pk_shrN (by omega) _ k (sm32 k hk)
theorem sh_l {n k : Nat} (hk : k < 32) (hn : n * 2 ^ k < 4294967296) : nI n <<< (nI k &&& 31) = nI (n * 2 ^ k) := pk_shlN _ k (sm32 k hk) (by omega)
theorem sh_1 {k : Nat} (hk : k < 32) : (1 : Int32) <<< (nI k &&& 31) = nI (2 ^ k) := by
  have h := sh_l (n := 1) hk (by have : 2 ^ k ≤ 2 ^ 31 := Nat.pow_le_pow_right (by omega) (by omega); omega)
  rw [Nat.one_mul] at h
  exact h
theorem p2p_ (k : Nat) : 1 ≤ 2 ^ k := Nat.pow_pos (by omega)
theorem an_m {n k : Nat} (hn : n < 4294967296) (hk : k ≤ 31) : nI n &&& nI (2 ^ k - 1) = nI (n % 2 ^ k) :=
  pk_andN (by omega) k (pk_tn (by have : 2 ^ k ≤ 2 ^ 31 := Nat.pow_le_pow_right (by omega) hk; omega))
theorem an_p {n k : Nat} (hn : n < 4294967296) (hk : k ≤ 31) : nI n &&& (nI (2 ^ k) - 1) = nI (n % 2 ^ k) := by
  have h1 : (1 : Int32) = nI 1 := rfl
  rw [h1, pk_sub (p2p_ k)]
  exact an_m hn hk
