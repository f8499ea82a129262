/-! ===== HardBenchModel: bits and compare ===== -/
def bl (m : Nat) : Nat := if m = 0 then 0 else m.log2 + 1
theorem bl_step {v : Nat} (h : 0 < v) : bl v = bl (v / 2) + 1 := by
  unfold bl
  rw [if_neg (by omega), Nat.log2_def]
  by_cases h2 : 2 ≤ v
  · rw [if_pos h2, if_neg (by omega)]
  · rw [if_neg h2, if_pos (by omega)]
theorem bits_loop {post : Int32 → Prop} : ∀ (j v a : Nat), v < 2 ^ j → j ≤ 62 → post (nI (a + bl v)) → wp_X8_bits_4 post (j + 1) (nI a) (lN v) := by
  intro j
  induction j with
  | zero =>
    intro v a hv hj h
    have hv : v = 0 := by simp at hv; omega
    subst hv
    rw [wp_X8_bits_4_s]
    refine ⟨fun _ => h, fun q => absurd ?_ q⟩
    rw [lc_le]; decide
  | succ j ih =>
    intro v a hv hj h
    have hp : 2 ^ (j + 1) ≤ 2 ^ 62 := Nat.pow_le_pow_right (by omega) hj
    rw [wp_X8_bits_4_s]
    unfold wp_X8_bits_4_b
    have e1 : lN v >>> ((1 : Int32).toInt64 &&& 63) = lN (v / 2) := by
      rw [pf_shr (d := 1) (by decide) (by omega)]
    rw [e1, lc_le, show (0 : Int64) = lN 0 from rfl, pk_lLE (by omega) (by omega), show (1 : Int32) = nI 1 from rfl, nI_add]
    refine ⟨fun q => ?_, fun q => ?_⟩
    · have : v = 0 := by omega
      subst this
      exact h
    · rw [bl_step (by omega)] at h
      refine ih (v / 2) (a + 1) (by rw [Nat.pow_succ] at hv; omega) (by omega) ?_
      rw [show a + 1 + bl (v / 2) = a + (bl (v / 2) + 1) by omega]
      exact h
theorem X8_bits {post : Int32 → Prop} {v : Nat} (hv : v < 4611686018427387904) (h : post (nI (bl v))) : wp_X8_bits post (lN v) := by
  unfold wp_X8_bits
  refine ⟨62 + 1, ?_⟩
  rw [show (0 : Int32) = nI 0 from rfl]
  refine bits_loop 62 v 0 (by omega) (by omega) ?_
  rw [Nat.zero_add]
  exact h
theorem bl_b {v : Nat} (h : 0 < v) : 2 ^ (bl v - 1) ≤ v ∧ v < 2 ^ bl v ∧ 1 ≤ bl v := by
  unfold bl
  rw [if_neg (by omega)]
  exact ⟨by simpa using Nat.log2_self_le (by omega), Nat.lt_log2_self, by omega⟩
theorem bl_le {v : Nat} (hv : v < 4611686018427387904) : bl v ≤ 62 := by
  unfold bl
  by_cases h : v = 0
  · rw [if_pos h]; omega
  · rw [if_neg h]
    have : v.log2 < 62 := (Nat.log2_lt h).mpr (by omega)
    omega
/-- a number with fewer places before the point is the less -/
theorem dlt_bl {m n : Nat} {x y : Int} (hm : 0 < m) (hn : 0 < n) (h : (bl m : Int) + x < bl n + y) : m * 2 ^ (x - y).toNat < n * 2 ^ (y - x).toNat := by
  obtain ⟨a1, a2, a3⟩ := bl_b hm
  obtain ⟨b1, b2, b3⟩ := bl_b hn
  have h1 : m * 2 ^ (x - y).toNat < 2 ^ (bl m + (x - y).toNat) := by
    rw [Nat.pow_add]; exact Nat.mul_lt_mul_of_pos_right a2 (p2p _)
  have h2 : 2 ^ (bl n - 1 + (y - x).toNat) ≤ n * 2 ^ (y - x).toNat := by
    rw [Nat.pow_add]; exact Nat.mul_le_mul_right _ b1
  have h3 : 2 ^ (bl m + (x - y).toNat) ≤ 2 ^ (bl n - 1 + (y - x).toNat) := Nat.pow_le_pow_right (by omega) (by omega)
  omega
/-- compare: which of m 2^x, n 2^y is the greater -/
theorem X8_compare {post : Int32 → Prop} {m n : Nat} {x y : Int} (hm : m < 4611686018427387904) (hn : n < 4611686018427387904) (hx1 : -100000 ≤ x) (hx2 : x ≤ 100000) (hy1 : -100000 ≤ y) (hy2 : y ≤ 100000)
    (h0 : m * 2 ^ (x - y).toNat = n * 2 ^ (y - x).toNat → post 0) (hl : m * 2 ^ (x - y).toNat < n * 2 ^ (y - x).toNat → post (-1)) (hg : n * 2 ^ (y - x).toNat < m * 2 ^ (x - y).toNat → post 1) : wp_X8_compare post (lN m) (iI x) (lN n) (iI y) := by
  have z0 : (0 : Int64) = lN 0 := rfl
  have K12 : m = 0 ∨ n = 0 → wp_X8_compare_12 post (lN m) (lN n) := by
    intro hz
    unfold wp_X8_compare_12
    rw [lc_eq, lc_eq, z0, pk_lEQ (by omega) (by omega), pk_lEQ (by omega) (by omega)]
    have p1 := p2p (x - y).toNat
    have p2 := p2p (y - x).toNat
    refine ⟨fun q => ⟨fun w => ?_, fun w => ?_⟩, fun q => ?_⟩
    · have : n = 0 := by omega
      subst this
      rw [Nat.zero_mul] at hg
      exact hg (Nat.mul_pos (by omega) p1)
    · subst w
      rw [Nat.zero_mul] at hl
      exact hl (Nat.mul_pos (by omega) p2)
    · have h1 : m = 0 := by omega
      have h2 : n = 0 := by omega
      subst h1; subst h2
      exact h0 (by simp)
  unfold wp_X8_compare
  rw [lc_eq, lc_eq, z0, pk_lEQ (by omega) (by omega), pk_lEQ (by omega) (by omega)]
  refine ⟨fun q => K12 (Or.inl q), fun q => ⟨fun w => ?_, fun w => K12 (Or.inr w)⟩⟩
  have bm := bl_le hm
  have bn := bl_le hn
  refine X8_bits hm (X8_bits hn ?_)
  rw [iI_N, iI_N, iI_add, iI_add, iI_eq ⟨by omega, by omega⟩ ⟨by omega, by omega⟩, iI_le ⟨by omega, by omega⟩ ⟨by omega, by omega⟩, iI_le ⟨by omega, by omega⟩ ⟨by omega, by omega⟩]
  have K105 : ∀ a b : Nat, a < 9223372036854775808 → b < 9223372036854775808 → a = m * 2 ^ (x - y).toNat → b = n * 2 ^ (y - x).toNat → wp_X8_compare_105 post (lN a) (lN b) := by
    intro a b ha hb ea eb
    unfold wp_X8_compare_105
    rw [lc_ge, lc_le, pk_lLE hb ha, pk_lLE ha hb]
    rw [← ea, ← eb] at h0 hl hg
    refine ⟨fun u => ⟨fun v => h0 (by omega), fun v => hg (by omega)⟩, fun u => hl (by omega)⟩
  refine ⟨fun e => ?_, fun e => ⟨fun u => ?_, fun u => ?_⟩⟩
  · obtain ⟨a1, a2, a3⟩ := bl_b (show 0 < m by omega)
    obtain ⟨b1, b2, b3⟩ := bl_b (show 0 < n by omega)
    refine ⟨fun u => ?_, fun u => ?_⟩
    · unfold wp_X8_compare_87
      rw [iI_le ⟨by omega, by omega⟩ ⟨by omega, by omega⟩]
      refine ⟨fun v => ?_, fun v => ?_⟩
      · refine K105 m n (by omega) (by omega) ?_ ?_
        · rw [show (x - y).toNat = 0 by omega]; simp
        · rw [show (y - x).toNat = 0 by omega]; simp
      · rw [iI_sub, show iI (y - x) = nI (y - x).toNat from by rw [iI_N]; congr 1; omega, wb_shl n (by omega)]
        refine K105 m _ (by omega) ?_ ?_ rfl
        · have h1 : n * 2 ^ (y - x).toNat < 2 ^ (bl n + (y - x).toNat) := by
            rw [Nat.pow_add]; exact Nat.mul_lt_mul_of_pos_right b2 (p2p _)
          have h2 : 2 ^ (bl n + (y - x).toNat) ≤ 2 ^ 62 := Nat.pow_le_pow_right (by omega) (by omega)
          omega
        · rw [show (x - y).toNat = 0 by omega]; simp
    · rw [iI_sub, show iI (x - y) = nI (x - y).toNat from by rw [iI_N]; congr 1; omega, wb_shl m (by omega)]
      unfold wp_X8_compare_87
      rw [iI_le ⟨by omega, by omega⟩ ⟨by omega, by omega⟩]
      refine ⟨fun v => ?_, fun v => absurd (show y ≤ x by omega) v⟩
      refine K105 _ n ?_ (by omega) rfl ?_
      · have h1 : m * 2 ^ (x - y).toNat < 2 ^ (bl m + (x - y).toNat) := by
          rw [Nat.pow_add]; exact Nat.mul_lt_mul_of_pos_right a2 (p2p _)
        have h2 : 2 ^ (bl m + (x - y).toNat) ≤ 2 ^ 62 := Nat.pow_le_pow_right (by omega) (by omega)
        omega
      · rw [show (y - x).toNat = 0 by omega]; simp
  · exact hg (dlt_bl (by omega) (by omega) (by omega))
  · exact hl (dlt_bl (by omega) (by omega) (by omega))
