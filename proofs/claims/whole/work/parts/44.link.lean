/-! ===== HardBenchModel: where the value stands, beside the class's amount ===== -/
/-- stands(M 2^X) says how the amount (m 2^x, or a little more if o) stands to it -/
def LK (g : Int32) (aX : Int32) (aM : Int64) (m : Nat) (x : Int) (o : Bool) : Prop := ∀ (post : Int32 → Prop) (M : Nat) (X : Int), M < 524288 → -200 ≤ X → X ≤ 200 → (¬ dle M X m x → post (-1)) → (dle M X m x → deq M X m x ∧ o = false → post 0) → (dle M X m x → ¬ (deq M X m x ∧ o = false) → post 1) → wp_X8_stands post g aX aM (lN M) (iI X)
/-- out of a comparison -/
theorem LK_of {post : Int32 → Prop} {a b M m : Nat} {u v X x : Int} {o : Bool} (e1 : dle b v a u ↔ dle M X m x) (e2 : deq b v a u ↔ (deq M X m x ∧ o = false)) (ha : a < 4611686018427387904) (hb : b < 4611686018427387904) (hu1 : -100000 ≤ u) (hu2 : u ≤ 100000) (hv1 : -100000 ≤ v) (hv2 : v ≤ 100000)
    (hlt : ¬ dle M X m x → post (-1)) (heq : dle M X m x → deq M X m x ∧ o = false → post 0) (hgt : dle M X m x → ¬ (deq M X m x ∧ o = false) → post 1) : wp_X8_compare post (lN a) (iI u) (lN b) (iI v) := by
  rw [← e1, ← e2] at heq hgt
  rw [← e1] at hlt
  unfold dle deq at heq hgt
  unfold dle at hlt
  exact X8_compare ha hb hu1 hu2 hv1 hv2 (fun h => heq (by omega) (by omega)) (fun h => hlt (by omega)) (fun h => hgt (by omega) (by omega))
theorem dle_big {M m : Nat} {X x : Int} (h : M < m) (hx : X < x) : dle M X m x ∧ ¬ deq M X m x := by
  unfold dle deq
  rw [show (X - x).toNat = 0 by omega, Nat.pow_zero, Nat.mul_one]
  have : m * 1 ≤ m * 2 ^ (x - X).toNat := Nat.mul_le_mul_left _ (p2p _)
  omega
theorem lk_over {n M : Nat} {k X : Int} (hn0 : 0 < n) (hn : n < 512) (hM : M < 524288) : (dle (n * M) (k + X) 1 0 ↔ dle M X (vM 0 n k) (vX 0 n k)) ∧ (deq (n * M) (k + X) 1 0 ↔ (deq M X (vM 0 n k) (vX 0 n k) ∧ vO 0 n k = false)) := by
  have em : vM 0 n k = 1099511627776 / n := by simp [vM]
  have ex : vX 0 n k = -k - 40 := by simp [vX]
  have eo : vO 0 n k = false ↔ 1099511627776 / n * n = 1099511627776 := by simp [vO, vM]
  rw [eo, em, ex]
  have hbig : 524288 ≤ 1099511627776 / n := (Nat.le_div_iff_mul_le hn0).mpr (by omega)
  have hnM : n * M ≤ 512 * 524288 := Nat.mul_le_mul (by omega) (by omega)
  by_cases hX : X < -k - 40
  · obtain ⟨a, b⟩ := dle_big (M := M) (m := 1099511627776 / n) (X := X) (x := -k - 40) (by omega) hX
    have h1 : 2 ^ 41 ≤ 2 ^ (0 - (k + X)).toNat := Nat.pow_le_pow_right (by omega) (by omega)
    refine ⟨⟨fun _ => a, fun _ => ?_⟩, ⟨fun h => ?_, fun h => absurd h.1 b⟩⟩
    · unfold dle
      rw [show (k + X - 0).toNat = 0 by omega]
      omega
    · unfold deq at h
      rw [show (k + X - 0).toNat = 0 by omega] at h
      omega
  · rw [dle_base (b := -40) (by omega) (by omega), dle_base (b := -k - 40) (by omega) (by omega), deq_base (b := -40) (by omega) (by omega), deq_base (b := -k - 40) (by omega) (by omega)]
    rw [show (k + X - -40).toNat = (X - (-k - 40)).toNat by omega, show (-k - 40 - (-k - 40)).toNat = 0 by omega, show ((0 : Int) - -40).toNat = 40 from rfl]
    generalize (X - (-k - 40)).toNat = j
    have e : n * M * 2 ^ j = M * 2 ^ j * n := by rw [Nat.mul_comm n M, Nat.mul_assoc, Nat.mul_comm n, ← Nat.mul_assoc]
    rw [e, Nat.one_mul, Nat.pow_zero, Nat.mul_one, Nat.le_div_iff_mul_le hn0]
    refine ⟨Iff.rfl, ⟨fun h => ?_, fun h => ?_⟩⟩
    · have h2 : 1099511627776 / n = M * 2 ^ j := by
        rw [show (1099511627776 : Nat) = 2 ^ 40 from rfl, ← h, Nat.mul_div_cancel _ hn0]
      rw [h2]
      exact ⟨rfl, h⟩
    · rw [h.1]; exact h.2
theorem lk_root {n M : Nat} {k X : Int} (hn0 : 0 < n) (hn : n < 512) (hM : M < 524288) : (dle (M * M) (2 * X) n k ↔ dle M X (vM 1 n k) (vX 1 n k)) ∧ (deq (M * M) (2 * X) n k ↔ (deq M X (vM 1 n k) (vX 1 n k) ∧ vO 1 n k = false)) := by
  obtain ⟨r1, r2, r3⟩ := root_is (k := k) hn0 hn
  obtain ⟨lo, hi⟩ := s2_lo (k := k) hn0 hn
  have eo : vO 1 n k = false ↔ vM 1 n k * vM 1 n k = n * 2 ^ s2 n k := by simp [vO]
  have ex : k - s2 n k = 2 * vX 1 n k := by
    rw [vX_1]
    have : (k - s2 n k) % 2 = 0 := by
      unfold s2
      omega
    omega
  have hs : ((s2 n k : Nat) : Int) = k - 2 * vX 1 n k := by omega
  rw [eo]
  have hMM : M * M ≤ 524287 * 524287 := Nat.mul_le_mul (by omega) (by omega)
  generalize vM 1 n k = r at *
  generalize vX 1 n k = x at *
  by_cases hX : X < x
  · obtain ⟨a, b⟩ := dle_big (M := M) (m := r) (X := X) (x := x) (by omega) hX
    have h1 : n * 2 ^ s2 n k ≤ n * 2 ^ (k - 2 * X).toNat := Nat.mul_le_mul_left _ (Nat.pow_le_pow_right (by omega) (by omega))
    refine ⟨⟨fun _ => a, fun _ => ?_⟩, ⟨fun h => ?_, fun h => absurd h.1 b⟩⟩
    · unfold dle
      rw [show (2 * X - k).toNat = 0 by omega]
      omega
    · unfold deq at h
      rw [show (2 * X - k).toNat = 0 by omega] at h
      omega
  · rw [dle_base (b := 2 * x) (by omega) (by omega), dle_base (b := x) (by omega) (by omega), deq_base (b := 2 * x) (by omega) (by omega), deq_base (b := x) (by omega) (by omega)]
    rw [show (k - 2 * x).toNat = s2 n k by omega, show (x - x).toNat = 0 by omega, show (2 * X - 2 * x).toNat = (X - x).toNat + (X - x).toNat by omega, Nat.pow_add]
    generalize (X - x).toNat = j
    have e : M * M * (2 ^ j * 2 ^ j) = M * 2 ^ j * (M * 2 ^ j) := by
      rw [Nat.mul_assoc, Nat.mul_assoc]; congr 1
      rw [← Nat.mul_assoc, ← Nat.mul_assoc, Nat.mul_comm M]
    rw [e, Nat.pow_zero, Nat.mul_one, r3]
    refine ⟨Iff.rfl, ⟨fun h => ?_, fun h => ?_⟩⟩
    · have h1 : M * 2 ^ j ≤ r := (r3 _).mp (by omega)
      have h2 : r ≤ M * 2 ^ j := by
        by_cases q : r ≤ M * 2 ^ j
        · exact q
        · have q1 := (r3 r).mpr (Nat.le_refl _)
          have q2 : (M * 2 ^ j + 1) * (M * 2 ^ j + 1) ≤ r * r := Nat.mul_le_mul (by omega) (by omega)
          have q3 : (M * 2 ^ j + 1) * (M * 2 ^ j + 1) = M * 2 ^ j * (M * 2 ^ j) + M * 2 ^ j + M * 2 ^ j + 1 := by
            rw [Nat.add_mul, Nat.mul_add, Nat.mul_one, Nat.one_mul]; omega
          omega
      have h3 : M * 2 ^ j = r := by omega
      rw [h3] at h
      exact ⟨h3, h⟩
    · rw [h.1]; exact h.2
theorem cube_lt {a b : Nat} (h : a < b) : a * a * a < b * b * b := by
  have h1 : a * a ≤ b * b := Nat.mul_le_mul (by omega) (by omega)
  have h2 : a * a * a ≤ b * b * a := Nat.mul_le_mul_right a h1
  have h3 : b * b * a < b * b * b := Nat.mul_lt_mul_of_pos_left h (Nat.mul_pos (by omega) (by omega))
  omega
theorem lk_third {n M : Nat} {k X : Int} (hn0 : 0 < n) (hn : n < 512) (hM : M < 524288) : (dle (M * M * M) (3 * X) n k ↔ dle M X (vM 2 n k) (vX 2 n k)) ∧ (deq (M * M * M) (3 * X) n k ↔ (deq M X (vM 2 n k) (vX 2 n k) ∧ vO 2 n k = false)) := by
  obtain ⟨r1, r2, r3⟩ := third_is (k := k) hn0 hn
  obtain ⟨lo, hi⟩ := s3_lo (k := k) hn0 hn
  have eo : vO 2 n k = false ↔ vM 2 n k * vM 2 n k * vM 2 n k = n * 2 ^ s3 n k := by simp [vO]
  have ex : k - s3 n k = 3 * vX 2 n k := by
    rw [vX_2]
    have : (k - s3 n k) % 3 = 0 := by
      unfold s3
      omega
    omega
  have hs : ((s3 n k : Nat) : Int) = k - 3 * vX 2 n k := by omega
  rw [eo]
  have hMM : M * M * M ≤ 524287 * 524287 * 524287 := Nat.mul_le_mul (Nat.mul_le_mul (by omega) (by omega)) (by omega)
  generalize vM 2 n k = r at *
  generalize vX 2 n k = x at *
  by_cases hX : X < x
  · obtain ⟨a, b⟩ := dle_big (M := M) (m := r) (X := X) (x := x) (by omega) hX
    have h1 : n * 2 ^ s3 n k ≤ n * 2 ^ (k - 3 * X).toNat := Nat.mul_le_mul_left _ (Nat.pow_le_pow_right (by omega) (by omega))
    refine ⟨⟨fun _ => a, fun _ => ?_⟩, ⟨fun h => ?_, fun h => absurd h.1 b⟩⟩
    · unfold dle
      rw [show (3 * X - k).toNat = 0 by omega]
      omega
    · unfold deq at h
      rw [show (3 * X - k).toNat = 0 by omega] at h
      omega
  · rw [dle_base (b := 3 * x) (by omega) (by omega), dle_base (b := x) (by omega) (by omega), deq_base (b := 3 * x) (by omega) (by omega), deq_base (b := x) (by omega) (by omega)]
    rw [show (k - 3 * x).toNat = s3 n k by omega, show (x - x).toNat = 0 by omega, show (3 * X - 3 * x).toNat = (X - x).toNat + (X - x).toNat + (X - x).toNat by omega, Nat.pow_add, Nat.pow_add]
    generalize (X - x).toNat = j
    have e : M * M * M * (2 ^ j * 2 ^ j * 2 ^ j) = M * 2 ^ j * (M * 2 ^ j) * (M * 2 ^ j) := by
      generalize 2 ^ j = p
      simp only [Nat.mul_assoc, Nat.mul_comm, Nat.mul_left_comm]
    rw [e, Nat.pow_zero, Nat.mul_one, r3]
    refine ⟨Iff.rfl, ⟨fun h => ?_, fun h => ?_⟩⟩
    · have h1 : M * 2 ^ j ≤ r := (r3 _).mp (by omega)
      have h2 : r ≤ M * 2 ^ j := by
        by_cases q : r ≤ M * 2 ^ j
        · exact q
        · have q1 := (r3 r).mpr (Nat.le_refl _)
          have q2 := cube_lt (show M * 2 ^ j < r by omega)
          omega
      have h3 : M * 2 ^ j = r := by omega
      rw [h3] at h
      exact ⟨h3, h⟩
    · rw [h.1]; exact h.2
/-- the link, for each function -/
theorem LK_fn {fn n : Nat} {k : Int} (hf : fn < 5) (hn0 : 0 < n) (hn : n < 512) (hk1 : -100 ≤ k) (hk2 : k ≤ 100) : LK (nI fn) (iI k) (lN n) (vM fn n k) (vX fn n k) (vO fn n k) := by
  intro post M X hM hX1 hX2 hlt heq hgt
  unfold wp_X8_stands
  have f0 : nI fn = 0 ↔ fn = 0 := eqL (b := 0) (by omega) (by omega) rfl
  have f1 : nI fn = 1 ↔ fn = 1 := eqL (b := 1) (by omega) (by omega) rfl
  have f2 : nI fn = 2 ↔ fn = 2 := eqL (b := 2) (by omega) (by omega) rfl
  have f3 : nI fn = 3 ↔ fn = 3 := eqL (b := 3) (by omega) (by omega) rfl
  have f4 : nI fn = 4 ↔ fn = 4 := eqL (b := 4) (by omega) (by omega) rfl
  rw [f0, f1, f2, f3, f4]
  have hnM : n * M ≤ 512 * 524288 := Nat.mul_le_mul (by omega) (by omega)
  have hMM : M * M ≤ 524288 * 524288 := Nat.mul_le_mul (by omega) (by omega)
  have hM3 : M * M * M ≤ 524288 * 524288 * 524288 := Nat.mul_le_mul hMM (by omega)
  have hnn : n * n ≤ 512 * 512 := Nat.mul_le_mul (by omega) (by omega)
  have hn3 : n * n * n ≤ 512 * 512 * 512 := Nat.mul_le_mul hnn (by omega)
  refine ⟨fun c => ?_, fun c0 => ⟨fun c => ?_, fun c1 => ⟨fun c => ?_, fun c2 => ⟨fun c => ?_, fun c3 => ⟨fun c => ?_, fun c4 => by omega⟩⟩⟩⟩⟩
  · subst c
    obtain ⟨e1, e2⟩ := lk_over (k := k) (X := X) hn0 hn hM
    rw [lN_mul, iI_add, show (1 : Int64) = lN 1 from rfl, show (0 : Int32) = iI 0 from rfl]
    exact LK_of e1 e2 (by omega) (by omega) (by omega) (by omega) (by omega) (by omega) hlt heq hgt
  · subst c
    obtain ⟨e1, e2⟩ := lk_root (k := k) (X := X) hn0 hn hM
    rw [lN_mul, show (2 : Int32) = iI 2 from rfl, iI_mul]
    exact LK_of e1 e2 (by omega) (by omega) (by omega) (by omega) (by omega) (by omega) hlt heq hgt
  · subst c
    obtain ⟨e1, e2⟩ := lk_third (k := k) (X := X) hn0 hn hM
    rw [lN_mul, lN_mul, show (3 : Int32) = iI 3 from rfl, iI_mul]
    exact LK_of e1 e2 (by omega) (by omega) (by omega) (by omega) (by omega) (by omega) hlt heq hgt
  · subst c
    rw [lN_mul, show (2 : Int32) = iI 2 from rfl, iI_mul]
    exact LK_of (a := n * n) (u := 2 * k) (M := M) (X := X) (m := vM 3 n k) (x := vX 3 n k) (o := vO 3 n k) (by simp [vM, vX]) (by simp [vM, vX, vO]) (by omega) (by omega) (by omega) (by omega) (by omega) (by omega) hlt heq hgt
  · subst c
    rw [lN_mul, lN_mul, show (3 : Int32) = iI 3 from rfl, iI_mul]
    exact LK_of (a := n * n * n) (u := 3 * k) (M := M) (X := X) (m := vM 4 n k) (x := vX 4 n k) (o := vO 4 n k) (by simp [vM, vX]) (by simp [vM, vX, vO]) (by omega) (by omega) (by omega) (by omega) (by omega) (by omega) hlt heq hgt
/-- and for a number that is told itself -/
theorem LK_id {m : Nat} {x : Int} (hm : m < 4611686018427387904) (hx1 : -1000 ≤ x) (hx2 : x ≤ 1000) : LK (-1) (iI x) (lN m) m x false := by
  intro post M X hM hX1 hX2 hlt heq hgt
  unfold wp_X8_stands
  refine ⟨fun c => absurd c (by decide), fun _ => ⟨fun c => absurd c (by decide), fun _ => ⟨fun c => absurd c (by decide), fun _ => ⟨fun c => absurd c (by decide), fun _ => ⟨fun c => absurd c (by decide), fun _ => ?_⟩⟩⟩⟩⟩
  exact LK_of (M := M) (X := X) (m := m) (x := x) (o := false) Iff.rfl (by simp) hm (by omega) (by omega) (by omega) (by omega) (by omega) hlt heq hgt
