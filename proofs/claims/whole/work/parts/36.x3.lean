/-! ===== HardBench$Place: where an amount lies ===== -/
def bI (b : Bool) : Int32 := if b then 1 else 0
theorem bI_01 (b : Bool) : bI b = 0 ∨ bI b = 1 := by cases b <;> simp [bI]
theorem bI_0 (b : Bool) : bI b = 0 ↔ b = false := by cases b <;> simp [bI]
def pwr (F : Nat) (low : Int) (m : Nat) (x : Int) : Int := if (m.log2 : Int) + x < low + F then low + F else (m.log2 : Int) + x
def un (F : Nat) (low : Int) (m : Nat) (x : Int) : Int := pwr F low m x - F - 10
def tt (F : Nat) (low : Int) (m : Nat) (x : Int) : Nat := cutT m x (un F low m x)
def cod (F : Nat) (low : Int) (m : Nat) (x : Int) : Nat := (pwr F low m x - low - F).toNat * 2 ^ F + tt F low m x / 1024
def wy (F : Nat) (low : Int) (m : Nat) (x : Int) : Nat := tt F low m x % 1024
def los (F : Nat) (low : Int) (m : Nat) (x : Int) : Bool := decide (¬ tt F low m x * 2 ^ (un F low m x - x).toNat = m * 2 ^ (x - un F low m x).toNat)
theorem pwr_ge (F : Nat) (low : Int) (m : Nat) (x : Int) : low + F ≤ pwr F low m x ∧ (m.log2 : Int) + x ≤ pwr F low m x := by
  unfold pwr
  by_cases h : (m.log2 : Int) + x < low + F
  · rw [if_pos h]; omega
  · rw [if_neg h]; omega
/-- T has at most F and eleven bits -/
theorem tt_lt (F : Nat) (low : Int) (m : Nat) (x : Int) : tt F low m x < 2 ^ (F + 11) := by
  have h := (pwr_ge F low m x).2
  have hm := Nat.lt_log2_self (n := m)
  unfold tt cutT
  rw [Nat.div_lt_iff_lt_mul (p2p _), ← Nat.pow_add]
  have h2 : m * 2 ^ (x - un F low m x).toNat < 2 ^ (m.log2 + 1) * 2 ^ (x - un F low m x).toNat := Nat.mul_lt_mul_of_pos_right hm (p2p _)
  rw [← Nat.pow_add] at h2
  refine Nat.lt_of_lt_of_le h2 (Nat.pow_le_pow_right (by omega) ?_)
  unfold un at *
  omega
theorem X3_shifted {post : Int64 → Prop} {m : Nat} {sh : Int} (hm : m < 4611686018427387904) (h1 : -1000000 ≤ sh) (h2 : sh ≤ 1000000) (h3 : sh < 0 → m * 2 ^ (-sh).toNat < 4611686018427387904) (hp : 0 < m ∨ -63 < sh) (h : post (lN (m * 2 ^ (-sh).toNat / 2 ^ sh.toNat))) : wp_X3_shifted post (lN m) (iI sh) := by
  unfold wp_X3_shifted
  have e62 : iI sh ≤ (62 : Int32) ↔ sh ≤ 62 := by
    rw [show (62 : Int32) = iI 62 from rfl]; exact iI_le ⟨by omega, by omega⟩ ⟨by omega, by omega⟩
  have e0 : iI sh < (0 : Int32) ↔ sh < 0 := by
    rw [show (0 : Int32) = iI 0 from rfl]; exact iI_lt ⟨by omega, by omega⟩ ⟨by omega, by omega⟩
  rw [e62, e0]
  refine ⟨fun c => ⟨fun q => ?_, fun q => ?_⟩, fun c => ?_⟩
  · have hs : (-sh).toNat < 64 := by
      by_cases hz : (-sh).toNat < 64
      · exact hz
      · exfalso
        have a := h3 q
        have b : 2 ^ 64 ≤ 2 ^ (-sh).toNat := Nat.pow_le_pow_right (by omega) (by omega)
        rcases hp with hp | hp
        · have : 1 * 2 ^ (-sh).toNat ≤ m * 2 ^ (-sh).toNat := Nat.mul_le_mul_right _ hp
          omega
        · omega
    rw [show iI sh = -(nI (-sh).toNat) from by rw [iI_N, iI_neg]; congr 1; omega, Int32.neg_neg, wb_shl m hs]
    rw [show sh.toNat = 0 by omega, Nat.pow_zero, Nat.div_one] at h
    exact h
  · rw [show iI sh = nI sh.toNat from by rw [iI_N]; congr 1; omega, pf_shr (d := sh.toNat) (by rw [wb_c _ (by omega), wb_tb, wb_sm _ (by omega), BitVec.toNat_ofNat]; exact Nat.mod_eq_of_lt (by omega)) (by omega)]
    rw [show (-sh).toNat = 0 by omega, Nat.pow_zero, Nat.mul_one] at h
    exact h
  · rw [show (-sh).toNat = 0 by omega, Nat.pow_zero, Nat.mul_one, Nat.div_eq_of_lt] at h
    · exact h
    · have : 2 ^ 62 ≤ 2 ^ sh.toNat := Nat.pow_le_pow_right (by omega) (by omega)
      omega
