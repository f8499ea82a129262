/-! ===== HardBench$Rows, Arrays.fill, counting ===== -/
theorem cl_nI {i : Nat} (h : i < 2147483648) : (nI i).toNatClampNeg = i := nI_clamp (by omega)
theorem X4_at {post : Int32 → Prop} {n i : Nat} {r : Nat → Int32} (hi : i < n) (hn : n < 2147483648) (h : post (r i)) : wp_X4_at post n r (nI i) := by
  unfold wp_X4_at
  rw [cl_nI (by omega), nI_leI (by omega) (by omega)]
  exact ⟨fun q => absurd q (nI_nlt0 (by omega)), fun _ => ⟨fun q => by omega, fun _ => ⟨vp_in_nI hi (by omega), h⟩⟩⟩
theorem X4_put {post : (Nat → Int32) → Prop} {n i : Nat} {r : Nat → Int32} {v : Int32} (hi : i < n) (hn : n < 2147483648) (h : post (upd r i v)) : wp_X4_put post n r (nI i) v := by
  unfold wp_X4_put
  rw [cl_nI (by omega), nI_leI (by omega) (by omega)]
  exact ⟨fun q => absurd q (nI_nlt0 (by omega)), fun _ => ⟨fun q => by omega, fun _ => ⟨vp_in_nI hi (by omega), h⟩⟩⟩
theorem X4_addOne {post : (Nat → Int32) → Prop} {n i : Nat} {r : Nat → Int32} (hi : i < n) (hn : n < 2147483648) (h : post (upd r i (r i + 1))) : wp_X4_addOne post n r (nI i) := by
  unfold wp_X4_addOne
  exact X4_at hi hn (X4_put hi hn h)
def cnt (P : Nat → Bool) : Nat → Nat
  | 0 => 0
  | n + 1 => cnt P n + (if P n then 1 else 0)
theorem cnt_le (P : Nat → Bool) (n : Nat) : cnt P n ≤ n := by
  induction n with
  | zero => exact Nat.le_refl _
  | succ n ih => unfold cnt; split <;> omega
theorem cnt_mono (P : Nat → Bool) {a b : Nat} (h : a ≤ b) : cnt P a ≤ cnt P b := by
  induction b with
  | zero => have : a = 0 := by omega
            subst this; exact Nat.le_refl _
  | succ b ih =>
    by_cases q : a = b + 1
    · subst q; exact Nat.le_refl _
    · have := ih (by omega); show cnt P a ≤ cnt P b + _; omega
theorem cnt_congr {P Q : Nat → Bool} {n : Nat} (h : ∀ i, i < n → P i = Q i) : cnt P n = cnt Q n := by
  induction n with
  | zero => rfl
  | succ n ih => unfold cnt; rw [ih (fun i hi => h i (by omega)), h n (by omega)]
theorem cnt_zero {P : Nat → Bool} {n : Nat} (h : ∀ i, i < n → P i = false) : cnt P n = 0 := by
  induction n with
  | zero => rfl
  | succ n ih => unfold cnt; rw [ih (fun i hi => h i (by omega)), h n (by omega)]; simp
theorem cnt_pos {P : Nat → Bool} {n i : Nat} (hi : i < n) (h : P i = true) : 0 < cnt P n := by
  have h1 : cnt P (i + 1) ≤ cnt P n := cnt_mono P (by omega)
  have h2 : cnt P (i + 1) = cnt P i + 1 := by show cnt P i + _ = _; rw [h]; simp
  omega
/-- the code with so many before it -/
theorem cnt_uniq {P : Nat → Bool} {a b : Nat} (ha : P a = true) (hb : P b = true) (h : cnt P a = cnt P b) : a = b := by
  by_cases q : a < b
  · have h1 : cnt P (a + 1) ≤ cnt P b := cnt_mono P (by omega)
    have h2 : cnt P (a + 1) = cnt P a + 1 := by show cnt P a + _ = _; rw [ha]; simp
    omega
  · by_cases q2 : b < a
    · have h1 : cnt P (b + 1) ≤ cnt P a := cnt_mono P (by omega)
      have h2 : cnt P (b + 1) = cnt P b + 1 := by show cnt P b + _ = _; rw [hb]; simp
      omega
    · omega
theorem cnt_find {P : Nat → Bool} {k : Nat} : ∀ n, k < cnt P n → ∃ c, c < n ∧ P c = true ∧ cnt P c = k := by
  intro n
  induction n with
  | zero => intro h; unfold cnt at h; omega
  | succ n ih =>
    intro h
    by_cases q : k < cnt P n
    · obtain ⟨c, h1, h2, h3⟩ := ih q; exact ⟨c, by omega, h2, h3⟩
    · unfold cnt at h
      cases hp : P n
      · rw [hp] at h; simp at h; omega
      · rw [hp] at h; simp at h; exact ⟨n, by omega, hp, by omega⟩
theorem upd_s (r : Nat → Int32) (i : Nat) (v : Int32) : upd r i v i = v := by simp [upd]
theorem upd_n {r : Nat → Int32} {i k : Nat} {v : Int32} (h : k ≠ i) : upd r i v k = r k := by simp [upd, h]
/-- Arrays.fill: all places are the number -/
theorem fill_loop {post : (Nat → Int32) → Prop} {n : Nat} {v : Int32} (hn : n < 2147483648) (h : ∀ r : Nat → Int32, (∀ k, k < n → r k = v) → post r) : ∀ (d i : Nat) (r : Nat → Int32), i + d = n → (∀ k, k < i → r k = v) → wp_J7_fill_53178_5 post n v (d + 1) r (nI i) (nI n) := by
  intro d
  induction d with
  | zero =>
    intro i r hi hr
    rw [wp_J7_fill_53178_5_s]
    refine ⟨fun _ => h r (fun k hk => hr k (by omega)), fun q => absurd ?_ q⟩
    rw [nI_leI (by omega) (by omega)]; omega
  | succ d ih =>
    intro i r hi hr
    rw [wp_J7_fill_53178_5_s]
    unfold wp_J7_fill_53178_5_b
    rw [nI_leI (by omega) (by omega), cl_nI (by omega), show (1 : Int32) = nI 1 from rfl, nI_add]
    refine ⟨fun q => by omega, fun _ => ⟨vp_in_nI (by omega) (by omega), ih (i + 1) _ (by omega) (fun k hk => ?_)⟩⟩
    by_cases q : k = i
    · subst q; exact upd_s _ _ _
    · rw [upd_n q]; exact hr k (by omega)
theorem J7_fill {post : (Nat → Int32) → Prop} {n : Nat} {v : Int32} {r : Nat → Int32} (hn : n < 2147483648) (h : ∀ r : Nat → Int32, (∀ k, k < n → r k = v) → post r) : wp_J7_fill_53178 post n r v :=
  ⟨n + 1, fill_loop hn h n 0 r (by omega) (fun k hk => by omega)⟩
