/-! ===== the JDK's own methods, as numbers ===== -/
theorem ltL {a b : Nat} {y : Int32} (ha : a < 2147483648) (hb : b < 2147483648) (hy : y = nI b) : nI a < y ↔ a < b := by rw [hy]; exact nI_ltI (by omega) (by omega)
theorem leL {a b : Nat} {y : Int32} (ha : a < 2147483648) (hb : b < 2147483648) (hy : y = nI b) : nI a ≤ y ↔ a ≤ b := by rw [hy]; exact nI_leI (by omega) (by omega)
theorem eqL {a b : Nat} {y : Int32} (ha : a < 2147483648) (hb : b < 2147483648) (hy : y = nI b) : nI a = y ↔ a = b := by rw [hy]; exact nI_eq (by omega) (by omega)
theorem addm {a k : Nat} {y : Int32} (h : k ≤ a) (hy : y = iI (-(k : Int))) : nI a + y = nI (a - k) := by
  rw [hy, iI_N, iI_N, iI_add]
  congr 1
  omega
theorem lg_at {n i s : Nat} (hi : i = n / 2 ^ s) (h1 : 1 ≤ i) (h3 : i < 4) : n.log2 = s + i / 2 := by
  have hp := p2p s
  have hn : n ≠ 0 := by
    intro e; subst e
    rw [Nat.zero_div] at hi; omega
  have a1 : i * 2 ^ s ≤ n := by rw [hi]; exact Nat.div_mul_le_self n _
  have a2 : n < (i + 1) * 2 ^ s := by
    rw [hi]
    have := Nat.lt_div_mul_add hp (a := n)
    rw [Nat.add_mul]; omega
  rw [Nat.log2_eq_iff hn]
  by_cases h2 : i = 1
  · subst h2
    simp only [show 1 / 2 = 0 from rfl, Nat.add_zero, Nat.pow_succ]
    omega
  · have e : i / 2 = 1 := by omega
    rw [e]
    simp only [Nat.pow_succ]
    rcases (show i = 2 ∨ i = 3 by omega) with rfl | rfl <;> omega
theorem ush {n k : Nat} {y : Int32} (hn : n < 4294967296) (hy : ((y.toUInt32 &&& Int32.toUInt32 31).toBitVec % 32).toNat = k) : ((nI n).toUInt32 >>> (y.toUInt32 &&& Int32.toUInt32 31)).toInt32 = nI (n / 2 ^ k) := pk_ushrN (by omega) y k hy
theorem J6_73 {post : Int32 → Prop} {n i s : Nat} (hi : i = n / 2 ^ s) (h1 : 1 ≤ i) (h3 : i < 4) (hs : s + 2 ≤ 32) (h : post (nI (31 - n.log2))) : wp_J6_numberOfLeadingZeros_0f7a4_73 post (nI i) (nI (31 - s)) := by
  unfold wp_J6_numberOfLeadingZeros_0f7a4_73
  rw [ush (k := 1) (by omega) (by decide), pk_sub (by omega)]
  rw [lg_at hi h1 h3] at h
  rw [show 31 - s - i / 2 ^ 1 = 31 - (s + i / 2) by omega]
  exact h
theorem J6_sh {n i s k : Nat} (hi : i = n / 2 ^ s) : i / 2 ^ k = n / 2 ^ (s + k) := by rw [hi, Nat.div_div_eq_div_mul, ← Nat.pow_add]
theorem J6_61 {post : Int32 → Prop} {n i s : Nat} (hi : i = n / 2 ^ s) (h1 : 1 ≤ i) (h3 : i < 16) (hs : s + 4 ≤ 32) (h : post (nI (31 - n.log2))) : wp_J6_numberOfLeadingZeros_0f7a4_61 post (nI i) (nI (31 - s)) := by
  unfold wp_J6_numberOfLeadingZeros_0f7a4_61
  refine ⟨fun c => ?_, fun c => ?_⟩
  · exact J6_73 hi h1 ((ltL (b := 4) (by omega) (by omega) rfl).mp c) (by omega) h
  · have c := mt (ltL (b := 4) (by omega) (by omega) rfl).mpr c
    rw [ush (k := 2) (by omega) (by decide), addm (a := 31 - s) (y := -2) (k := 2) (by omega) rfl, Nat.sub_sub]
    exact J6_73 (J6_sh hi) (by omega) (by omega) (by omega) h
theorem J6_48 {post : Int32 → Prop} {n i s : Nat} (hi : i = n / 2 ^ s) (h1 : 1 ≤ i) (h3 : i < 256) (hs : s + 8 ≤ 32) (h : post (nI (31 - n.log2))) : wp_J6_numberOfLeadingZeros_0f7a4_48 post (nI i) (nI (31 - s)) := by
  unfold wp_J6_numberOfLeadingZeros_0f7a4_48
  refine ⟨fun c => ?_, fun c => ?_⟩
  · exact J6_61 hi h1 ((ltL (b := 16) (by omega) (by omega) rfl).mp c) (by omega) h
  · have c := mt (ltL (b := 16) (by omega) (by omega) rfl).mpr c
    rw [ush (k := 4) (by omega) (by decide), addm (a := 31 - s) (y := -4) (k := 4) (by omega) rfl, Nat.sub_sub]
    exact J6_61 (J6_sh hi) (by omega) (by omega) (by omega) h
theorem J6_33 {post : Int32 → Prop} {n i s : Nat} (hi : i = n / 2 ^ s) (h1 : 1 ≤ i) (h3 : i < 65536) (hs : s + 16 ≤ 32) (h : post (nI (31 - n.log2))) : wp_J6_numberOfLeadingZeros_0f7a4_33 post (nI i) (nI (31 - s)) := by
  unfold wp_J6_numberOfLeadingZeros_0f7a4_33
  refine ⟨fun c => ?_, fun c => ?_⟩
  · exact J6_48 hi h1 ((ltL (b := 256) (by omega) (by omega) rfl).mp c) (by omega) h
  · have c := mt (ltL (b := 256) (by omega) (by omega) rfl).mpr c
    rw [ush (k := 8) (by omega) (by decide), addm (a := 31 - s) (y := -8) (k := 8) (by omega) rfl, Nat.sub_sub]
    exact J6_48 (J6_sh hi) (by omega) (by omega) (by omega) h
theorem nI_0lt {n : Nat} (h : n < 2147483648) : 0 < nI n ↔ 0 < n := by
  rw [show (0 : Int32) = nI 0 from rfl]
  exact nI_ltI (by omega) (by omega)
/-- Integer.numberOfLeadingZeros -/
theorem J6_nlz {post : Int32 → Prop} {n : Nat} (h0 : 0 < n) (h1 : n < 2147483648) (h : post (nI (31 - n.log2))) : wp_J6_numberOfLeadingZeros_0f7a4 post (nI n) := by
  unfold wp_J6_numberOfLeadingZeros_0f7a4
  refine ⟨fun _ => ⟨fun c => ?_, fun c => ?_⟩, fun c => absurd ((nI_0lt h1).mpr h0) c⟩
  · exact J6_33 (n := n) (s := 0) (by simp) h0 ((ltL (b := 65536) (by omega) (by omega) rfl).mp c) (by omega) h
  · have c := mt (ltL (b := 65536) (by omega) (by omega) rfl).mpr c
    rw [ush (k := 16) (by omega) (by decide), show (31 : Int32) + (-16) = nI (31 - 16) from by decide]
    exact J6_33 (n := n) (s := 16) rfl (by omega) (by omega) (by omega) h
theorem lN_i32 (n : Nat) : (lN n).toInt32 = nI n := lN_i n
theorem nI_neg32 {n : Nat} (h1 : 2147483648 ≤ n) (h2 : n < 4294967296) : (nI n).toInt = (n : Int) - 4294967296 := by
  rw [iI_N]
  unfold iI
  rw [Int32.toInt_ofInt, Int.bmod_def]
  show (if (n : Int) % (4294967296 : Nat) < _ then _ else _) = _
  have : (n : Int) % ((4294967296 : Nat) : Int) = n := by omega
  rw [this]
  rw [if_neg (by show ¬ (n : Int) < _; simp; omega)]
  simp
/-- Long.numberOfLeadingZeros -/
theorem J13_nlz {post : Int32 → Prop} {n : Nat} (h0 : 0 < n) (h1 : n < 9223372036854775808) (h : post (nI (63 - n.log2))) : wp_J13_numberOfLeadingZeros_95d88 post (lN n) := by
  unfold wp_J13_numberOfLeadingZeros_95d88
  have e : ((lN n).toUInt64 >>> ((32 : Int32).toInt64.toUInt64 &&& Int64.toUInt64 63)).toInt64 = lN (n / 2 ^ 32) := wb_shr (k := 32) (by omega) (by omega)
  rw [e, lN_i32, lN_i32]
  have hb : n / 2 ^ 32 < 2147483648 := by omega
  refine ⟨fun c => ?_, fun c => ?_⟩
  · have c : n / 2 ^ 32 ≠ 0 := fun q => c (by rw [q]; rfl)
    refine J6_nlz (by omega) hb ?_
    obtain ⟨q, hq⟩ : ∃ q, q = n / 2 ^ 32 := ⟨_, rfl⟩
    rw [← hq] at c ⊢
    have e2 : n.log2 = q.log2 + 32 := by
      have hn : n ≠ 0 := by omega
      rw [Nat.log2_eq_iff hn]
      have a1 := Nat.log2_self_le c
      have a2 := Nat.lt_log2_self (n := q)
      have a3 : 2 ^ (q.log2 + 32) = 2 ^ q.log2 * 4294967296 := by rw [Nat.pow_add]
      have a4 : 2 ^ (q.log2 + 32 + 1) = 2 ^ (q.log2 + 1) * 4294967296 := by rw [Nat.add_right_comm, Nat.pow_add]
      rw [a3, a4]
      omega
    rw [e2, Nat.add_comm, ← Nat.sub_sub] at h
    exact h
  · have c : n / 2 ^ 32 = 0 := (eqL (b := 0) hb (by omega) rfl).mp c
    by_cases hs : n < 2147483648
    · refine J6_nlz h0 hs ?_
      have : n.log2 < 31 := (Nat.log2_lt (by omega)).mpr (by omega)
      rw [show (32 : Int32) = nI 32 from rfl, nI_add, show 32 + (31 - n.log2) = 63 - n.log2 by omega]
      exact h
    · have hz : n.log2 = 31 := (Nat.log2_eq_iff (by omega)).mpr (by omega)
      rw [hz] at h
      have hneg := nI_neg32 (n := n) (by omega) (by omega)
      unfold wp_J6_numberOfLeadingZeros_0f7a4
      refine ⟨fun q => ?_, fun _ => ⟨fun _ => h, fun q => ?_⟩⟩
      · rw [Int32.lt_iff_toInt_lt, hneg] at q
        exact absurd q (by simp; omega)
      · rw [q] at hneg
        exact absurd hneg (by simp; omega)
