/-! ===== floats by their codes: figure, power above the least, value in units of the least power ===== -/
def fg (F c : Nat) : Nat := if c / 2 ^ F = 0 then c else 2 ^ F + c % 2 ^ F
def ex (F c : Nat) : Nat := c / 2 ^ F - 1
def vl (F c : Nat) : Nat := fg F c * 2 ^ ex F c
theorem p2p (F : Nat) : 0 < 2 ^ F := Nat.pow_pos (by omega)
theorem vl_at {F e g : Nat} (h1 : g < 2 * 2 ^ F) (h2 : e = 0 ∨ 2 ^ F ≤ g) : fg F (e * 2 ^ F + g) = g ∧ ex F (e * 2 ^ F + g) = e := by
  have hp := p2p F
  unfold fg ex
  generalize 2 ^ F = P at *
  by_cases hg : g < P
  · have he : e = 0 := by omega
    subst he
    have : (0 * P + g) / P = 0 := Nat.div_eq_of_lt (by omega)
    rw [this]
    simp
  · have h3 : e * P + g = (e + 1) * P + (g - P) := by rw [Nat.add_mul]; omega
    have h4 : (e * P + g) / P = e + 1 := by
      rw [h3, Nat.mul_comm, Nat.mul_add_div hp, Nat.div_eq_of_lt (by omega)]
    have h5 : (e * P + g) % P = g - P := by
      rw [h3, Nat.mul_comm, Nat.mul_add_mod, Nat.mod_eq_of_lt (by omega)]
    rw [h4, h5]
    simp
    omega
/-- every code is of this form -/
theorem vl_form (F c : Nat) : ∃ e g, c = e * 2 ^ F + g ∧ g < 2 * 2 ^ F ∧ (e = 0 ∨ 2 ^ F ≤ g) := by
  have hp := p2p F
  generalize 2 ^ F = P at *
  by_cases h : c < P
  · exact ⟨0, c, by omega, by omega, Or.inl rfl⟩
  · refine ⟨c / P - 1, c % P + P, ?_, ?_, Or.inr (by omega)⟩
    · have h1 := Nat.div_add_mod c P
      have h2 : 1 ≤ c / P := (Nat.le_div_iff_mul_le hp).mpr (by omega)
      obtain ⟨k, hk⟩ : ∃ k, c / P = k + 1 := ⟨c / P - 1, by omega⟩
      rw [hk] at h1 ⊢
      have : P * (k + 1) = k * P + P := by rw [Nat.mul_add, Nat.mul_one, Nat.mul_comm]
      simp
      omega
    · have := Nat.mod_lt c hp
      omega
theorem vl_succ (F c : Nat) : vl F (c + 1) = vl F c + 2 ^ ex F c := by
  obtain ⟨e, g, hc, h1, h2⟩ := vl_form F c
  have hp := p2p F
  obtain ⟨a1, a2⟩ := vl_at h1 h2
  unfold vl
  rw [hc, a1, a2]
  by_cases h : g + 1 < 2 * 2 ^ F
  · obtain ⟨b1, b2⟩ := vl_at (F := F) (e := e) (g := g + 1) h (by omega)
    rw [show e * 2 ^ F + g + 1 = e * 2 ^ F + (g + 1) by omega, b1, b2, Nat.add_mul, Nat.one_mul]
  · have hg : g + 1 = 2 * 2 ^ F := by omega
    obtain ⟨b1, b2⟩ := vl_at (F := F) (e := e + 1) (g := 2 ^ F) (by omega) (Or.inr (Nat.le_refl _))
    have h3 : e * 2 ^ F + g + 1 = (e + 1) * 2 ^ F + 2 ^ F := by rw [Nat.add_mul]; omega
    rw [h3, b1, b2, Nat.pow_succ, show g * 2 ^ e + 2 ^ e = (g + 1) * 2 ^ e by rw [Nat.add_mul]; omega, hg, Nat.mul_comm (2 ^ e) 2, ← Nat.mul_assoc, Nat.mul_comm (2 ^ F) 2]
theorem vl_lt {F c d : Nat} (h : c < d) : vl F c < vl F d := by
  induction d with
  | zero => omega
  | succ d ih =>
    have h1 := vl_succ F d
    have h2 := p2p (ex F d)
    by_cases h3 : c = d
    · subst h3; omega
    · have := ih (by omega); omega
theorem vl_le {F c d : Nat} : vl F c ≤ vl F d ↔ c ≤ d := by
  constructor
  · intro h
    by_cases h2 : c ≤ d
    · exact h2
    · have := vl_lt (F := F) (show d < c by omega); omega
  · intro h
    by_cases h2 : c = d
    · subst h2; exact Nat.le_refl _
    · have := vl_lt (F := F) (show c < d by omega); omega
theorem vl_0 (F : Nat) : vl F 0 = 0 := by unfold vl fg; simp
/-! ===== comparing M 2^X with m 2^x ===== -/
def dle (M : Nat) (X : Int) (m : Nat) (x : Int) : Prop := M * 2 ^ (X - x).toNat ≤ m * 2 ^ (x - X).toNat
def deq (M : Nat) (X : Int) (m : Nat) (x : Int) : Prop := M * 2 ^ (X - x).toNat = m * 2 ^ (x - X).toNat
theorem dbase {M m : Nat} {X x b : Int} (h1 : b ≤ X) (h2 : b ≤ x) : ∃ k : Nat, 0 < k ∧ M * 2 ^ (X - b).toNat = M * 2 ^ (X - x).toNat * k ∧ m * 2 ^ (x - b).toNat = m * 2 ^ (x - X).toNat * k := by
  by_cases h : X ≤ x
  · refine ⟨2 ^ (X - b).toNat, p2p _, ?_, ?_⟩
    · rw [show (X - x).toNat = 0 by omega]; simp
    · rw [Nat.mul_assoc, ← Nat.pow_add, show (x - X).toNat + (X - b).toNat = (x - b).toNat by omega]
  · refine ⟨2 ^ (x - b).toNat, p2p _, ?_, ?_⟩
    · rw [Nat.mul_assoc, ← Nat.pow_add, show (X - x).toNat + (x - b).toNat = (X - b).toNat by omega]
    · rw [show (x - X).toNat = 0 by omega]; simp
theorem dle_base {M m : Nat} {X x b : Int} (h1 : b ≤ X) (h2 : b ≤ x) : dle M X m x ↔ M * 2 ^ (X - b).toNat ≤ m * 2 ^ (x - b).toNat := by
  obtain ⟨k, hk, e1, e2⟩ := dbase (M := M) (m := m) h1 h2
  unfold dle
  rw [e1, e2]
  exact ⟨fun h => Nat.mul_le_mul_right k h, fun h => Nat.le_of_mul_le_mul_right h hk⟩
theorem deq_base {M m : Nat} {X x b : Int} (h1 : b ≤ X) (h2 : b ≤ x) : deq M X m x ↔ M * 2 ^ (X - b).toNat = m * 2 ^ (x - b).toNat := by
  obtain ⟨k, hk, e1, e2⟩ := dbase (M := M) (m := m) h1 h2
  unfold deq
  rw [e1, e2]
  exact ⟨fun h => by rw [h], fun h => Nat.eq_of_mul_eq_mul_right hk h⟩
/-- m 2^x in units of 2^b, cut -/
def cutT (m : Nat) (x b : Int) : Nat := m * 2 ^ (x - b).toNat / 2 ^ (b - x).toNat
theorem cutT_le {N m k : Nat} {x b : Int} : dle N (b + k) m x ↔ N * 2 ^ k ≤ cutT m x b := by
  unfold cutT
  rw [Nat.le_div_iff_mul_le (p2p _)]
  by_cases h : b ≤ x
  · rw [dle_base (b := b) (by omega) h, show (b - x).toNat = 0 by omega, show (b + (k : Int) - b).toNat = k by omega]
    simp
  · rw [dle_base (b := x) (by omega) (by omega), show (x - b).toNat = 0 by omega, show (x - x).toNat = 0 by omega, show (b + (k : Int) - x).toNat = k + (b - x).toNat by omega, Nat.pow_add]
    simp [Nat.mul_assoc]
theorem cutT_eq {N m k : Nat} {x b : Int} : deq N (b + k) m x ↔ (N * 2 ^ k = cutT m x b ∧ cutT m x b * 2 ^ (b - x).toNat = m * 2 ^ (x - b).toNat) := by
  have key : deq N (b + k) m x ↔ N * 2 ^ k * 2 ^ (b - x).toNat = m * 2 ^ (x - b).toNat := by
    by_cases h : b ≤ x
    · rw [deq_base (b := b) (by omega) h, show (b - x).toNat = 0 by omega, show (b + (k : Int) - b).toNat = k by omega]
      simp
    · rw [deq_base (b := x) (by omega) (by omega), show (x - b).toNat = 0 by omega, show (x - x).toNat = 0 by omega, show (b + (k : Int) - x).toNat = k + (b - x).toNat by omega, Nat.pow_add]
      simp [Nat.mul_assoc]
  rw [key]
  unfold cutT
  generalize m * 2 ^ (x - b).toNat = a
  have hp := p2p (b - x).toNat
  generalize 2 ^ (b - x).toNat = q at *
  constructor
  · intro h
    rw [← h, Nat.mul_div_cancel _ hp]
    exact ⟨rfl, rfl⟩
  · intro h
    rw [h.1]; exact h.2
