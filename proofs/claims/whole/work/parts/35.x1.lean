/-! ===== HardBench$Floats, as numbers ===== -/
theorem fa_and (a b : Nat) : nI a &&& nI b = nI (a &&& b) := by
  apply Int32.toBitVec_inj.1
  show BitVec.ofNat 32 a &&& BitVec.ofNat 32 b = BitVec.ofNat 32 (a &&& b)
  apply BitVec.eq_of_getLsbD_eq
  intro i hi
  simp [hi]
theorem nat_and_pow {c k : Nat} (hc : c < 2 ^ (k + 1)) : c &&& 2 ^ k = if 2 ^ k ≤ c then 2 ^ k else 0 := by
  apply Nat.eq_of_testBit_eq
  intro i
  rw [Nat.testBit_and, Nat.testBit_two_pow]
  by_cases hi : k = i
  · subst hi
    have e : c.testBit k = decide (2 ^ k ≤ c) := by
      rw [Nat.testBit_eq_decide_div_mod_eq]
      have hp := p2p k
      rw [Nat.pow_succ] at hc
      by_cases h : 2 ^ k ≤ c
      · have : c / 2 ^ k = 1 := by
          apply Nat.le_antisymm
          · have := Nat.div_lt_of_lt_mul (show c < 2 ^ k * 2 by omega); omega
          · exact (Nat.le_div_iff_mul_le hp).mpr (by omega)
        rw [this]; simp [h]
      · rw [Nat.div_eq_of_lt (by omega)]; simp [h]
    rw [e]
    by_cases h : 2 ^ k ≤ c
    · simp [h]
    · simp [h]
  · simp only [hi, decide_false, Bool.and_false]
    by_cases h : 2 ^ k ≤ c
    · rw [if_pos h, Nat.testBit_two_pow]; simp [hi]
    · rw [if_neg h]; simp
theorem an_s {c k : Nat} (hc : c < 2 ^ (k + 1)) : nI c &&& nI (2 ^ k) = nI (if 2 ^ k ≤ c then 2 ^ k else 0) := by rw [fa_and, nat_and_pow hc]
theorem pb {k : Nat} (hk : k ≤ 30) : 2 ^ k ≤ 1073741824 := Nat.pow_le_pow_right (by omega) hk
theorem mb (c : Nat) {k : Nat} (hk : k ≤ 30) : c % 2 ^ k < 2147483648 := by
  have := Nat.mod_lt c (p2p k); have := pb hk; omega
theorem X1_amount {post : Int32 → Prop} {k c : Nat} (hk : k ≤ 30) (hc : c < 4294967296) (h : post (nI (c % 2 ^ k))) : wp_X1_amount post (nI (2 ^ k)) (nI c) := by
  unfold wp_X1_amount
  rw [an_p hc (by omega)]
  exact h
theorem X1_isZero {post : Int32 → Prop} {k c : Nat} (hk : k ≤ 30) (hc : c < 4294967296) (h0 : c % 2 ^ k ≠ 0 → post 0) (h1 : c % 2 ^ k = 0 → post 1) : wp_X1_isZero post (nI (2 ^ k)) (nI c) := by
  unfold wp_X1_isZero
  exact X1_amount hk hc ⟨fun q => h0 fun e => q (by rw [e]; rfl), fun q => h1 ((eqL (b := 0) (mb c hk) (by omega) rfl).mp q)⟩
theorem X1_isBelow {post : Int32 → Prop} {k c : Nat} (hk : k ≤ 30) (hc : c < 2 ^ (k + 1)) (h0 : c < 2 ^ k → post 0) (h1 : 2 ^ k ≤ c → post 1) : wp_X1_isBelow post (nI (2 ^ k)) (nI c) := by
  unfold wp_X1_isBelow
  rw [an_s hc]
  have hp := p2p k
  have hb := pb hk
  by_cases h : 2 ^ k ≤ c
  · rw [if_pos h]
    exact ⟨fun q => absurd ((eqL (b := 0) (by omega) (by omega) rfl).mp q) (by omega), fun _ => h1 h⟩
  · rw [if_neg h]
    exact ⟨fun _ => h0 (by omega), fun q => absurd rfl q⟩
theorem X1_isPlain {post : Int32 → Prop} {k c n : Nat} (hk : k ≤ 30) (hc : c < 4294967296) (hn : n < 2147483648) (h0 : n ≤ c % 2 ^ k → post 0) (h1 : c % 2 ^ k < n → post 1) : wp_X1_isPlain post (nI (2 ^ k)) (nI n) (nI c) := by
  unfold wp_X1_isPlain
  refine X1_amount hk hc ⟨fun q => h0 ((nI_leI (by omega) (mb c hk)).mp q), fun q => h1 ?_⟩
  have := mt (nI_leI hn (mb c hk)).mpr q
  omega
theorem X1_isNone {post : Int32 → Prop} {k c n : Nat} (hk : k ≤ 30) (hc : c < 4294967296) (hn : n < 2147483648) (h0 : c % 2 ^ k ≤ n → post 0) (h1 : n < c % 2 ^ k → post 1) : wp_X1_isNone post (nI (2 ^ k)) (nI n) (nI c) := by
  unfold wp_X1_isNone
  refine X1_amount hk hc ⟨fun q => h0 ((nI_leI (mb c hk) hn).mp q), fun q => h1 ?_⟩
  have := mt (nI_leI (mb c hk) hn).mpr q
  omega
theorem X1_powerBits {post : Int32 → Prop} {k c f : Nat} (hk : k ≤ 30) (hf : f ≤ 30) (hc : c < 4294967296) (h : post (nI (c % 2 ^ k / 2 ^ f))) : wp_X1_powerBits post (nI f) (nI (2 ^ k)) (nI c) := by
  unfold wp_X1_powerBits
  refine X1_amount hk hc ?_
  rw [sh_r (by omega) (mb c hk)]
  exact h
theorem X1_zs {post : Int32 → Prop} {f : Nat} (hf : f ≤ 30) (h : post (nI (2 ^ f))) : wp_X1_zs post (nI f) := by
  unfold wp_X1_zs
  rw [sh_1 (by omega)]
  exact h
theorem X1_figureBits {post : Int32 → Prop} {c f : Nat} (hf : f ≤ 30) (hc : c < 4294967296) (h : post (nI (c % 2 ^ f))) : wp_X1_figureBits post (nI f) (nI c) := by
  unfold wp_X1_figureBits
  refine X1_zs hf ?_
  rw [an_p hc (by omega)]
  exact h
/-- of the size of a code: the figure's bits are those of the code -/
theorem modmod {c f k : Nat} (h : f ≤ k) : c % 2 ^ k % 2 ^ f = c % 2 ^ f := Nat.mod_mod_of_dvd c (Nat.pow_dvd_pow 2 h)
theorem X1_factor {post : Int32 → Prop} {k c f : Nat} (hk : k ≤ 30) (hf : f ≤ k) (hc : c < 4294967296) (h : post (nI (fg f (c % 2 ^ k)))) : wp_X1_factor post (nI f) (nI (2 ^ k)) (nI c) := by
  unfold wp_X1_factor
  unfold fg at h
  rw [modmod hf] at h
  have hd : c % 2 ^ k / 2 ^ f < 2147483648 := Nat.lt_of_le_of_lt (Nat.div_le_self _ _) (mb c hk)
  refine X1_powerBits hk (by omega) hc ⟨fun q => ?_, fun q => ?_⟩
  · have q : ¬ c % 2 ^ k / 2 ^ f = 0 := fun e => q (by rw [e]; rfl)
    rw [if_neg q] at h
    refine X1_zs (by omega) (X1_figureBits (by omega) hc ?_)
    rw [nI_add]
    exact h
  · have q : c % 2 ^ k / 2 ^ f = 0 := (eqL (b := 0) hd (by omega) rfl).mp q
    rw [if_pos q] at h
    refine X1_figureBits (by omega) hc ?_
    have e : c % 2 ^ k = c % 2 ^ f := by
      have h1 := Nat.div_add_mod (c % 2 ^ k) (2 ^ f)
      rw [q, modmod hf] at h1
      omega
    rw [e] at h
    exact h
theorem X1_power {post : Int32 → Prop} {k c f b : Nat} (hk : k ≤ 30) (hf : f ≤ 30) (hc : c < 4294967296) (h : post (iI ((1 : Int) - b - f + ex f (c % 2 ^ k)))) : wp_X1_power post (nI f) (nI b) (nI (2 ^ k)) (nI c) := by
  unfold wp_X1_power
  unfold ex at h
  have hd : c % 2 ^ k / 2 ^ f < 2147483648 := Nat.lt_of_le_of_lt (Nat.div_le_self _ _) (mb c hk)
  refine X1_powerBits hk hf hc ?_
  generalize c % 2 ^ k / 2 ^ f = a at *
  have e : (if nI a < (1 : Int32) then (1 : Int32) else nI a) = iI ((a - 1 : Nat) + 1 : Int) := by
    by_cases q : a = 0
    · subst q
      rw [if_pos (by decide)]
      rfl
    · have q2 : ¬ nI a < (1 : Int32) := mt (ltL (y := 1) (b := 1) hd (by omega) rfl).mp (by omega)
      rw [if_neg q2, iI_N]
      congr 1
      omega
  rw [e, iI_N, iI_N, iI_sub, iI_sub, show ((a - 1 : Nat) + 1 : Int) - b - f = 1 - b - f + (a - 1 : Nat) by omega]
  exact h
theorem X1_greatestPlain {post : Int32 → Prop} {n : Nat} (h1 : 1 ≤ n) (h : post (nI (n - 1))) : wp_X1_greatestPlain post (nI n) := by
  unfold wp_X1_greatestPlain
  rw [show (1 : Int32) = nI 1 from rfl, pk_sub h1]
  exact h
theorem X1_none {post : Int32 → Prop} {n : Nat} (h : post (nI (n + 1))) : wp_X1_none post (nI n) := by
  unfold wp_X1_none
  rw [show (1 : Int32) = nI 1 from rfl, nI_add]
  exact h
