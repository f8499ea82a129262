/-! ===== floorMod and floorDiv by a number above 0 ===== -/
theorem xs32 (x y : Int32) : (0 ≤ (x ^^^ y)) ↔ ((0 ≤ x) ↔ (0 ≤ y)) := by
  have k : ∀ z : Int32, (0 ≤ z) ↔ z.toBitVec.msb = false := by
    intro z
    rw [Int32.le_iff_toInt_le, BitVec.msb_eq_toInt]
    show (0 : Int32).toInt ≤ z.toInt ↔ _
    rw [show (0 : Int32).toInt = 0 from rfl]
    simp only [decide_eq_false_iff_not, Int.not_lt]
    exact Iff.rfl
  rw [k, k, k, Int32.toBitVec_xor, BitVec.msb_xor]
  cases x.toBitVec.msb <;> cases y.toBitVec.msb <;> simp
theorem xs64 (x y : Int64) : (0 ≤ (x ^^^ y)) ↔ ((0 ≤ x) ↔ (0 ≤ y)) := by
  have k : ∀ z : Int64, (0 ≤ z) ↔ z.toBitVec.msb = false := by
    intro z
    rw [Int64.le_iff_toInt_le, BitVec.msb_eq_toInt]
    show (0 : Int64).toInt ≤ z.toInt ↔ _
    rw [show (0 : Int64).toInt = 0 from rfl]
    simp only [decide_eq_false_iff_not, Int.not_lt]
    exact Iff.rfl
  rw [k, k, k, Int64.toBitVec_xor, BitVec.msb_xor]
  cases x.toBitVec.msb <;> cases y.toBitVec.msb <;> simp
theorem tq {z d : Int} (hd : 0 < d) : (0 ≤ z → z.tdiv d = z / d) ∧ (z < 0 → z.tdiv d = -((-z) / d)) := by
  refine ⟨fun h => Int.tdiv_eq_ediv_of_nonneg h, fun h => ?_⟩
  have := Int.neg_tdiv (-z) d
  rw [Int.neg_neg] at this
  rw [this, Int.tdiv_eq_ediv_of_nonneg (by omega)]
theorem iI_div {z d : Int} (hz : sI z) (hd : 0 < d) (hd2 : d < 2147483648) (hz2 : -2147483648 < z) : iI z / iI d = iI (z.tdiv d) := by
  have h1 : sI (z.tdiv d) := by
    obtain ⟨a, b⟩ := tq (z := z) hd
    unfold sI at *
    by_cases h : 0 ≤ z
    · rw [a h]
      have q1 := Int.ediv_nonneg h (Int.le_of_lt hd)
      have q2 := Int.ediv_le_self d h
      omega
    · rw [b (by omega)]
      have q1 := Int.ediv_nonneg (show (0:Int) ≤ -z by omega) (Int.le_of_lt hd)
      have q2 := Int.ediv_le_self d (show (0:Int) ≤ -z by omega)
      omega
  rw [← Int32.toInt_inj, Int32.toInt_div, iI_t hz.1 hz.2, iI_t (by omega) hd2, iI_t h1.1 h1.2]
  exact Int.bmod_eq_of_le (by have := h1.1; omega) (by have := h1.2; omega)
theorem lI_div {z d : Int} (hz : sL z) (hd : 0 < d) (hd2 : d < 9223372036854775808) (hz2 : -9223372036854775808 < z) : lI z / lI d = lI (z.tdiv d) := by
  have h1 : sL (z.tdiv d) := by
    obtain ⟨a, b⟩ := tq (z := z) hd
    unfold sL at *
    by_cases h : 0 ≤ z
    · rw [a h]
      have q1 := Int.ediv_nonneg h (Int.le_of_lt hd)
      have q2 := Int.ediv_le_self d h
      omega
    · rw [b (by omega)]
      have q1 := Int.ediv_nonneg (show (0:Int) ≤ -z by omega) (Int.le_of_lt hd)
      have q2 := Int.ediv_le_self d (show (0:Int) ≤ -z by omega)
      omega
  rw [← Int64.toInt_inj, Int64.toInt_div, lI_t hz.1 hz.2, lI_t (by omega) hd2, lI_t h1.1 h1.2]
  exact Int.bmod_eq_of_le (by have := h1.1; omega) (by have := h1.2; omega)
/-- by how much cutting towards 0 and cutting down differ -/
theorem tfl {z d : Int} (hd : 0 < d) : (0 ≤ z → z.tdiv d = z / d) ∧ (z < 0 → (z.tdiv d * d = z → z.tdiv d = z / d) ∧ (z.tdiv d * d ≠ z → z.tdiv d = z / d + 1)) := by
  obtain ⟨a, b⟩ := tq (z := z) hd
  refine ⟨a, fun h => ?_⟩
  rw [b h]
  have e1 := Int.mul_ediv_add_emod z d
  have e2 := Int.mul_ediv_add_emod (-z) d
  have m1 := Int.emod_nonneg z (show d ≠ 0 by omega)
  have m2 := Int.emod_lt_of_pos z hd
  have m3 := Int.emod_nonneg (-z) (show d ≠ 0 by omega)
  have m4 := Int.emod_lt_of_pos (-z) hd
  have key : d * (z / d + (-z) / d) = -(z % d) - (-z) % d := by rw [Int.mul_add]; omega
  have h0 : z / d + (-z) / d = 0 ∨ z / d + (-z) / d = -1 := by
    generalize z / d + (-z) / d = k at key
    by_cases k1 : 1 ≤ k
    · have := Int.mul_le_mul_of_nonneg_left k1 (Int.le_of_lt hd); omega
    · by_cases k2 : k ≤ -2
      · have := Int.mul_le_mul_of_nonneg_left k2 (Int.le_of_lt hd); omega
      · omega
  constructor
  · intro q
    rcases h0 with h0 | h0
    · omega
    · rw [h0] at key
      have : -((-z) / d) * d = -(d * ((-z) / d)) := by rw [Int.neg_mul, Int.mul_comm]
      omega
  · intro q
    rcases h0 with h0 | h0
    · exfalso
      apply q
      rw [h0] at key
      have : -((-z) / d) * d = -(d * ((-z) / d)) := by rw [Int.neg_mul, Int.mul_comm]
      omega
    · omega
theorem iI_ne0 {d : Int} (h : 0 < d) (h2 : d < 2147483648) : ¬ iI d = 0 := by
  rw [show (0 : Int32) = iI 0 from rfl, iI_eq ⟨by omega, by omega⟩ ⟨by omega, by omega⟩]
  omega
theorem lI_ne0 {d : Int} (h : 0 < d) (h2 : d < 9223372036854775808) : ¬ lI d = 0 := by
  rw [show (0 : Int64) = lI 0 from rfl, lI_eq ⟨by omega, by omega⟩ ⟨by omega, by omega⟩]
  omega
theorem iI_0le {d : Int} (h : sI d) : 0 ≤ iI d ↔ 0 ≤ d := by
  rw [show (0 : Int32) = iI 0 from rfl]
  exact iI_le ⟨by omega, by omega⟩ h
theorem lI_0le {d : Int} (h : sL d) : 0 ≤ lI d ↔ 0 ≤ d := by
  rw [show (0 : Int64) = lI 0 from rfl]
  exact lI_le ⟨by omega, by omega⟩ h
/-- Math.floorDiv of ints -/
theorem J9_fd {post : Int32 → Prop} {z d : Int} (hz : -2147483648 < z) (hz2 : z < 2147483648) (hd : 0 < d) (hd2 : d < 2147483648) (h : post (iI (z / d))) : wp_J9_floorDiv_7cf53 post (iI z) (iI d) := by
  unfold wp_J9_floorDiv_7cf53
  have sz : sI z := ⟨by omega, hz2⟩
  have sd : sI d := ⟨by omega, hd2⟩
  rw [iI_div sz hd hd2 hz, xs32, iI_0le sz, iI_0le sd]
  obtain ⟨a, b⟩ := tfl (z := z) hd
  refine ⟨iI_ne0 hd hd2, fun c => ?_, fun c => ⟨fun q => ?_, fun q => ?_⟩⟩
  · rw [a (by omega)]; exact h
  · rw [iI_mul] at q
    have zn : z < 0 := by omega
    by_cases e : z.tdiv d * d = z
    · rw [(b zn).1 e]; exact h
    · exfalso
      have e2 := (b zn).2 e
      have : sI (z.tdiv d * d) := by
        rw [e2]
        have e1 := Int.mul_ediv_add_emod z d
        have m1 := Int.emod_nonneg z (show d ≠ 0 by omega)
        have m2 := Int.emod_lt_of_pos z hd
        have e3 : (z / d + 1) * d = d * (z / d) + d := by rw [Int.add_mul, Int.mul_comm]; omega
        have e4 : (z / d + 1) ≤ 0 := by
          have := Int.ediv_lt_of_lt_mul hd (show z < 0 * d by omega); omega
        have e5 : (z / d + 1) * d ≤ 0 := Int.mul_nonpos_of_nonpos_of_nonneg e4 (Int.le_of_lt hd)
        unfold sI; omega
      exact e ((iI_eq this sz).mp q)
  · rw [iI_mul] at q
    have zn : z < 0 := by omega
    have e : z.tdiv d * d ≠ z := fun e => q (by rw [e])
    rw [(b zn).2 e, show (1 : Int32) = iI 1 from rfl, iI_sub, show z / d + 1 - 1 = z / d by omega]
    exact h
/-- Math.floorMod of ints -/
theorem J9_fm {post : Int32 → Prop} {z d : Int} (hz : -2147483648 < z) (hz2 : z < 2147483648) (hd : 0 < d) (hd2 : d < 2147483648) (h : post (iI (z % d))) : wp_J9_floorMod_7cf53 post (iI z) (iI d) := by
  unfold wp_J9_floorMod_7cf53
  have sz : sI z := ⟨by omega, hz2⟩
  have sd : sI d := ⟨by omega, hd2⟩
  have e1 := Int.mul_ediv_add_emod z d
  have m1 := Int.emod_nonneg z (show d ≠ 0 by omega)
  have m2 := Int.emod_lt_of_pos z hd
  rw [iI_div sz hd hd2 hz, xs32, iI_0le sz, iI_0le sd, iI_mul, iI_sub]
  obtain ⟨a, b⟩ := tfl (z := z) hd
  refine ⟨iI_ne0 hd hd2, fun c => ?_, fun c => ⟨fun q => ?_, fun q => ?_⟩⟩
  · rw [a (by omega), show z - z / d * d = z % d by rw [Int.mul_comm]; omega]; exact h
  · have zn : z < 0 := by omega
    by_cases e : z.tdiv d * d = z
    · rw [(b zn).1 e, show z - z / d * d = z % d by rw [Int.mul_comm]; omega]; exact h
    · exfalso
      have e2 := (b zn).2 e
      have e3 : (z / d + 1) * d = d * (z / d) + d := by rw [Int.add_mul, Int.mul_comm]; omega
      rw [e2] at q e
      rw [e3] at e
      rw [show z - (z / d + 1) * d = z % d - d by omega, show (0 : Int32) = iI 0 from rfl, iI_eq ⟨by omega, by omega⟩ ⟨by omega, by omega⟩] at q
      omega
  · have zn : z < 0 := by omega
    by_cases e : z.tdiv d * d = z
    · exfalso
      apply q
      rw [e, Int.sub_self]
      rfl
    · have e2 := (b zn).2 e
      have e3 : (z / d + 1) * d = d * (z / d) + d := by rw [Int.add_mul, Int.mul_comm]; omega
      rw [e2, iI_add, show z - (z / d + 1) * d + d = z % d by omega]
      exact h
/-- Math.floorDiv of longs -/
theorem J9_fl {post : Int64 → Prop} {z d : Int} (hz : -4611686018427387904 < z) (hz2 : z < 4611686018427387904) (hd : 0 < d) (hd2 : d < 4611686018427387904) (h : post (lI (z / d))) : wp_J9_floorDiv_f86c9 post (lI z) (lI d) := by
  unfold wp_J9_floorDiv_f86c9
  have sz : sL z := ⟨by omega, by omega⟩
  have sd : sL d := ⟨by omega, by omega⟩
  rw [lI_div sz hd (by omega) (by omega), lc_ge, xs64, lI_0le sz, lI_0le sd, lc_eq]
  obtain ⟨a, b⟩ := tfl (z := z) hd
  refine ⟨lI_ne0 hd (by omega), fun c => ?_, fun c => ⟨fun q => ?_, fun q => ?_⟩⟩
  · rw [a (by omega)]; exact h
  · rw [lI_mul] at q
    have zn : z < 0 := by omega
    by_cases e : z.tdiv d * d = z
    · rw [(b zn).1 e]; exact h
    · exfalso
      have e2 := (b zn).2 e
      have : sL (z.tdiv d * d) := by
        rw [e2]
        have e1 := Int.mul_ediv_add_emod z d
        have m1 := Int.emod_nonneg z (show d ≠ 0 by omega)
        have m2 := Int.emod_lt_of_pos z hd
        have e3 : (z / d + 1) * d = d * (z / d) + d := by rw [Int.add_mul, Int.mul_comm]; omega
        unfold sL; omega
      exact e ((lI_eq this sz).mp q)
  · rw [lI_mul] at q
    have zn : z < 0 := by omega
    have e : z.tdiv d * d ≠ z := fun e => q (by rw [e])
    rw [(b zn).2 e, show (1 : Int64) = lI 1 from rfl, lI_sub, show z / d + 1 - 1 = z / d by omega]
    exact h
