/-! ===== the code of an amount is the greatest whose float is not above it ===== -/
theorem dle_sh {a j m : Nat} {X x : Int} : dle (a * 2 ^ j) X m x ↔ dle a (X + j) m x := by
  obtain ⟨b, h1, h2⟩ : ∃ b : Int, b ≤ X ∧ b ≤ x := ⟨min X x, by omega, by omega⟩
  rw [dle_base h1 h2, dle_base (b := b) (by omega) h2, show (X + j - b).toNat = j + (X - b).toNat by omega, Nat.pow_add, Nat.mul_assoc]
theorem deq_sh {a j m : Nat} {X x : Int} : deq (a * 2 ^ j) X m x ↔ deq a (X + j) m x := by
  obtain ⟨b, h1, h2⟩ : ∃ b : Int, b ≤ X ∧ b ≤ x := ⟨min X x, by omega, by omega⟩
  rw [deq_base h1 h2, deq_base (b := b) (by omega) h2, show (X + j - b).toNat = j + (X - b).toNat by omega, Nat.pow_add, Nat.mul_assoc]
theorem dle_mono {a a' m : Nat} {X x : Int} (h : a' ≤ a) (hd : dle a X m x) : dle a' X m x := by
  unfold dle at *
  exact Nat.le_trans (Nat.mul_le_mul_right _ h) hd
theorem deq_not {a a' m : Nat} {X x : Int} (h : a < a') (hd : dle a' X m x) : ¬ deq a X m x := by
  unfold dle deq at *
  intro q
  have : a * 2 ^ (X - x).toNat < a' * 2 ^ (X - x).toNat := Nat.mul_lt_mul_of_pos_right h (p2p _)
  omega
theorem cod_form {F m : Nat} {low x : Int} (hm : 0 < m) : ∃ e g : Nat, cod F low m x = e * 2 ^ F + g ∧ g = tt F low m x / 1024 ∧ low + e = un F low m x + 10 ∧ g < 2 * 2 ^ F ∧ (e = 0 ∨ 2 ^ F ≤ g) := by
  have hp := pwr_ge F low m x
  have hu : un F low m x = pwr F low m x - F - 10 := rfl
  refine ⟨(pwr F low m x - low - F).toNat, tt F low m x / 1024, rfl, rfl, by omega, ?_, ?_⟩
  · have h := tt_lt F low m x
    rw [Nat.pow_add] at h
    have : 2 ^ 11 = 2048 := rfl
    omega
  · by_cases h : (m.log2 : Int) + x < low + F
    · left
      unfold pwr
      rw [if_pos h]
      omega
    · right
      have e : pwr F low m x = (m.log2 : Int) + x := by unfold pwr; rw [if_neg h]
      have h1 : dle 1 (un F low m x + (F + 10 : Nat)) m x := by
        rw [hu, e]
        unfold dle
        rw [show ((m.log2 : Int) + x - F - 10 + (F + 10 : Nat) - x).toNat = m.log2 by omega, show (x - ((m.log2 : Int) + x - F - 10 + (F + 10 : Nat))).toNat = 0 by omega]
        have := Nat.log2_self_le (n := m) (by omega)
        omega
      have h2 := cutT_le.mp h1
      rw [Nat.one_mul, Nat.pow_add] at h2
      have h3 : 2 ^ F * 1024 ≤ tt F low m x := h2
      omega
theorem cod_vl {F m : Nat} {low x : Int} (hm : 0 < m) : dle (vl F (cod F low m x)) low m x ∧ ¬ dle (vl F (cod F low m x + 1)) low m x := by
  obtain ⟨e, g, hc, hg, hl, h1, h2⟩ := cod_form (F := F) (low := low) (x := x) hm
  obtain ⟨a1, a2⟩ := vl_at h1 h2
  rw [vl_succ, hc]
  unfold vl
  rw [a1, a2, show g * 2 ^ e + 2 ^ e = (g + 1) * 2 ^ e by rw [Nat.add_mul]; omega, dle_sh, dle_sh, hl]
  have k1 : dle g (un F low m x + (10 : Nat)) m x ↔ g * 2 ^ 10 ≤ tt F low m x := cutT_le
  have k2 : dle (g + 1) (un F low m x + (10 : Nat)) m x ↔ (g + 1) * 2 ^ 10 ≤ tt F low m x := cutT_le
  rw [show un F low m x + 10 = un F low m x + (10 : Nat) from rfl, k1, k2]
  omega
theorem cod_le {F m : Nat} {low x : Int} (hm : 0 < m) (c : Nat) : dle (fg F c) (low + ex F c) m x ↔ c ≤ cod F low m x := by
  rw [← dle_sh]
  show dle (vl F c) low m x ↔ _
  obtain ⟨a, b⟩ := cod_vl (F := F) (low := low) (x := x) hm
  constructor
  · intro h
    by_cases q : c ≤ cod F low m x
    · exact q
    · exact absurd (dle_mono (vl_le.mpr (by omega)) h) b
  · intro h
    exact dle_mono (vl_le.mpr h) a
theorem los_eq {F m : Nat} {low x : Int} : los F low m x = false ↔ tt F low m x * 2 ^ (un F low m x - x).toNat = m * 2 ^ (x - un F low m x).toNat := by
  unfold los; simp
theorem cod_eq {F m : Nat} {low x : Int} (hm : 0 < m) {c : Nat} (hc : c ≤ cod F low m x) : deq (fg F c) (low + ex F c) m x ↔ (c = cod F low m x ∧ wy F low m x = 0 ∧ los F low m x = false) := by
  by_cases q : c = cod F low m x
  · obtain ⟨e, g, hc2, hg, hl, h1, h2⟩ := cod_form (F := F) (low := low) (x := x) hm
    obtain ⟨a1, a2⟩ := vl_at h1 h2
    rw [q, hc2, a1, a2, hl]
    have k1 : deq g (un F low m x + (10 : Nat)) m x ↔ (g * 2 ^ 10 = tt F low m x ∧ tt F low m x * 2 ^ (un F low m x - x).toNat = m * 2 ^ (x - un F low m x).toNat) := cutT_eq
    rw [show un F low m x + 10 = un F low m x + (10 : Nat) from rfl, k1, ← los_eq]
    unfold wy
    constructor
    · intro h; exact ⟨rfl, by omega, h.2⟩
    · intro h; exact ⟨by omega, h.2.2⟩
  · constructor
    · intro h
      exfalso
      rw [← deq_sh] at h
      have h3 : deq (vl F c) low m x := h
      obtain ⟨a, b⟩ := cod_vl (F := F) (low := low) (x := x) hm
      exact deq_not (vl_lt (show c < cod F low m x by omega)) a h3
    · intro h; exact absurd h.1 q
theorem mid_all {F m : Nat} {low x : Int} (hm : 0 < m) {c : Nat} (hc : c ≤ cod F low m x) : (dle (2 * fg F c + 1) (low + ex F c - 1) m x ↔ (c < cod F low m x ∨ 512 ≤ wy F low m x)) ∧ (deq (2 * fg F c + 1) (low + ex F c - 1) m x ↔ (c = cod F low m x ∧ wy F low m x = 512 ∧ los F low m x = false)) := by
  by_cases q : c = cod F low m x
  · obtain ⟨e, g, hc2, hg, hl, h1, h2⟩ := cod_form (F := F) (low := low) (x := x) hm
    obtain ⟨a1, a2⟩ := vl_at h1 h2
    rw [q, hc2, a1, a2, show low + (e : Int) - 1 = un F low m x + (9 : Nat) by omega]
    have k1 : dle (2 * g + 1) (un F low m x + (9 : Nat)) m x ↔ (2 * g + 1) * 2 ^ 9 ≤ tt F low m x := cutT_le
    have k2 : deq (2 * g + 1) (un F low m x + (9 : Nat)) m x ↔ ((2 * g + 1) * 2 ^ 9 = tt F low m x ∧ tt F low m x * 2 ^ (un F low m x - x).toNat = m * 2 ^ (x - un F low m x).toNat) := cutT_eq
    rw [k1, k2, ← los_eq]
    unfold wy
    refine ⟨by omega, ⟨fun h => ⟨rfl, by omega, h.2⟩, fun h => ⟨by omega, h.2.2⟩⟩⟩
  · have h1 : dle (2 * (fg F c + 1)) (low + ex F c - 1) m x := by
      obtain ⟨a, b⟩ := cod_vl (F := F) (low := low) (x := x) hm
      have h2 : dle (vl F (c + 1)) low m x := dle_mono (vl_le.mpr (by omega)) a
      rw [vl_succ] at h2
      unfold vl at h2
      rw [show fg F c * 2 ^ ex F c + 2 ^ ex F c = (fg F c + 1) * 2 ^ ex F c by rw [Nat.add_mul]; omega, dle_sh] at h2
      have h3 := dle_sh (a := fg F c + 1) (j := 1) (m := m) (X := low + ex F c - 1) (x := x)
      rw [show low + (ex F c : Int) - 1 + (1 : Nat) = low + ex F c by omega] at h3
      rw [Nat.mul_comm]
      exact h3.mpr h2
    refine ⟨⟨fun _ => Or.inl (by omega), fun _ => dle_mono (by omega) h1⟩, ⟨fun h => absurd h (deq_not (by omega) h1), fun h => absurd h.1 q⟩⟩
/-- the figures, one by one -/
theorem fig_all {F m : Nat} {low x : Int} (hm : 0 < m) {M k : Nat} (hk : k ≤ 10) : dle M (low + ex F (cod F low m x) - k) m x ↔ M * 2 ^ (10 - k) ≤ tt F low m x := by
  obtain ⟨e, g, hc2, hg, hl, h1, h2⟩ := cod_form (F := F) (low := low) (x := x) hm
  obtain ⟨a1, a2⟩ := vl_at h1 h2
  rw [hc2, a2, show low + (e : Int) - k = un F low m x + (10 - k : Nat) by omega]
  exact cutT_le
theorem fg_cod {F m : Nat} {low x : Int} (hm : 0 < m) : fg F (cod F low m x) = tt F low m x / 1024 := by
  obtain ⟨e, g, hc2, hg, hl, h1, h2⟩ := cod_form (F := F) (low := low) (x := x) hm
  rw [hc2, (vl_at h1 h2).1, hg]
theorem T0 {F m : Nat} {low x : Int} (hm : 0 < m) (h1 : cod F low m x = 0) (h2 : wy F low m x = 0) : los F low m x = true := by
  cases hl : los F low m x
  · exfalso
    rw [los_eq] at hl
    have hf := fg_cod (F := F) (low := low) (x := x) hm
    rw [h1] at hf
    have : fg F 0 = 0 := by unfold fg; simp
    unfold wy at h2
    have ht : tt F low m x = 0 := by omega
    rw [ht, Nat.zero_mul] at hl
    have := Nat.mul_pos hm (p2p (x - un F low m x).toNat)
    omega
  · rfl
