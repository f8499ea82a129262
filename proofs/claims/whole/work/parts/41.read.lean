theorem fg_b {F s : Nat} (hF : F ≤ 8) : fg F s < 512 ∧ (s ≠ 0 → 0 < fg F s) := by
  have hp : 2 ^ F ≤ 256 := Nat.pow_le_pow_right (n := 2) (by omega) hF
  have hp0 := p2p F
  unfold fg
  by_cases h : s / 2 ^ F = 0
  · rw [if_pos h]
    have h1 := Nat.div_add_mod s (2 ^ F)
    have h2 := Nat.mod_lt s hp0
    rw [h] at h1
    omega
  · rw [if_neg h]
    have h2 := Nat.mod_lt s hp0
    omega
theorem ex_b {E F s : Nat} (hE : E ≤ 5) (hs : s < 2 ^ (E + F)) : ex F s < 32 := by
  unfold ex
  have h : s / 2 ^ F < 2 ^ E := by
    rw [Nat.div_lt_iff_lt_mul (p2p _), ← Nat.pow_add]
    exact hs
  have : 2 ^ E ≤ 2 ^ 5 := Nat.pow_le_pow_right (by omega) hE
  omega
theorem sq_dn (N : Nat) : ∀ a b, a ≤ b → sq N b = true → sq N a = true := by
  intro a b h1 h2
  unfold sq at *
  simp at *
  exact Nat.le_trans (Nat.mul_le_mul h1 h1) h2
theorem cb_dn (N : Nat) : ∀ a b, a ≤ b → cb N b = true → cb N a = true := by
  intro a b h1 h2
  unfold cb at *
  simp at *
  exact Nat.le_trans (Nat.mul_le_mul (Nat.mul_le_mul h1 h1) h1) h2
theorem s2_lo {n : Nat} {k : Int} (hn0 : 0 < n) (hn : n < 512) : 274877906944 ≤ n * 2 ^ s2 n k ∧ n * 2 ^ s2 n k < 1099511627776 := by
  have h8 := logb hn0 hn
  have hm := Nat.lt_log2_self (n := n)
  have hl := Nat.log2_self_le (n := n) (by omega)
  have e : s2 n k + n.log2 ≤ 39 ∧ 38 ≤ s2 n k + n.log2 := by
    unfold s2
    have := Int.emod_nonneg (k - (38 - n.log2 : Nat)) (show (2 : Int) ≠ 0 by omega)
    have := Int.emod_lt_of_pos (k - (38 - n.log2 : Nat)) (show (0 : Int) < 2 by omega)
    omega
  have h2 : n * 2 ^ s2 n k < 2 ^ (n.log2 + 1) * 2 ^ s2 n k := Nat.mul_lt_mul_of_pos_right hm (p2p _)
  have h4 : 2 ^ n.log2 * 2 ^ s2 n k ≤ n * 2 ^ s2 n k := Nat.mul_le_mul_right _ hl
  rw [← Nat.pow_add] at h2 h4
  have h3 : 2 ^ (n.log2 + 1 + s2 n k) ≤ 2 ^ 40 := Nat.pow_le_pow_right (by omega) (by omega)
  have h5 : 2 ^ 38 ≤ 2 ^ (n.log2 + s2 n k) := Nat.pow_le_pow_right (by omega) (by omega)
  omega
theorem s3_lo {n : Nat} {k : Int} (hn0 : 0 < n) (hn : n < 512) : 144115188075855872 ≤ n * 2 ^ s3 n k ∧ n * 2 ^ s3 n k < 1152921504606846976 := by
  have h8 := logb hn0 hn
  have hm := Nat.lt_log2_self (n := n)
  have hl := Nat.log2_self_le (n := n) (by omega)
  have e : s3 n k + n.log2 ≤ 59 ∧ 57 ≤ s3 n k + n.log2 := by
    unfold s3
    have := Int.emod_nonneg (k - (57 - n.log2 : Nat)) (show (3 : Int) ≠ 0 by omega)
    have := Int.emod_lt_of_pos (k - (57 - n.log2 : Nat)) (show (0 : Int) < 3 by omega)
    omega
  have h2 : n * 2 ^ s3 n k < 2 ^ (n.log2 + 1) * 2 ^ s3 n k := Nat.mul_lt_mul_of_pos_right hm (p2p _)
  have h4 : 2 ^ n.log2 * 2 ^ s3 n k ≤ n * 2 ^ s3 n k := Nat.mul_le_mul_right _ hl
  rw [← Nat.pow_add] at h2 h4
  have h3 : 2 ^ (n.log2 + 1 + s3 n k) ≤ 2 ^ 60 := Nat.pow_le_pow_right (by omega) (by omega)
  have h5 : 2 ^ 57 ≤ 2 ^ (n.log2 + s3 n k) := Nat.pow_le_pow_right (by omega) (by omega)
  omega
/-- the roots: the greatest whole number whose power fits -/
theorem root_is {n : Nat} {k : Int} (hn0 : 0 < n) (hn : n < 512) : 524288 ≤ vM 1 n k ∧ vM 1 n k < 1048576 ∧ ∀ t, t * t ≤ n * 2 ^ s2 n k ↔ t ≤ vM 1 n k := by
  obtain ⟨hlo, hhi⟩ := s2_lo (k := k) hn0 hn
  rw [vM_1]
  obtain ⟨a, b, c, d⟩ := gb_spec (sq_dn (n * 2 ^ s2 n k)) 20 0 (by simp [sq])
  have d2 := d 524288 (by unfold sq; simp; omega) (by decide)
  refine ⟨d2, by simpa using c, fun t => ⟨fun h => ?_, fun h => ?_⟩⟩
  · refine d t (by unfold sq; simp; exact h) ?_
    have : t < 1048576 := by
      by_cases q : t < 1048576
      · exact q
      · have := Nat.mul_le_mul (show 1048576 ≤ t by omega) (show 1048576 ≤ t by omega)
        omega
    simpa using this
  · have := sq_dn _ t _ h a
    unfold sq at this
    simpa using this
theorem third_is {n : Nat} {k : Int} (hn0 : 0 < n) (hn : n < 512) : 524288 ≤ vM 2 n k ∧ vM 2 n k < 1048576 ∧ ∀ t, t * t * t ≤ n * 2 ^ s3 n k ↔ t ≤ vM 2 n k := by
  obtain ⟨hlo, hhi⟩ := s3_lo (k := k) hn0 hn
  rw [vM_2]
  obtain ⟨a, b, c, d⟩ := gb_spec (cb_dn (n * 2 ^ s3 n k)) 20 0 (by simp [cb])
  have d2 := d 524288 (by unfold cb; simp; omega) (by decide)
  refine ⟨d2, by simpa using c, fun t => ⟨fun h => ?_, fun h => ?_⟩⟩
  · refine d t (by unfold cb; simp; exact h) ?_
    have : t < 1048576 := by
      by_cases q : t < 1048576
      · exact q
      · have := Nat.mul_le_mul (Nat.mul_le_mul (show 1048576 ≤ t by omega) (show 1048576 ≤ t by omega)) (show 1048576 ≤ t by omega)
        omega
    simpa using this
  · have := cb_dn _ t _ h a
    unfold cb at this
    simpa using this
theorem vM_b {fn n : Nat} {k : Int} (hf : fn < 5) (hn0 : 0 < n) (hn : n < 512) : 0 < vM fn n k ∧ vM fn n k ≤ 1099511627776 ∧ (vO fn n k = true → 524288 ≤ vM fn n k) := by
  rcases (show fn = 0 ∨ fn = 1 ∨ fn = 2 ∨ fn = 3 ∨ fn = 4 by omega) with rfl | rfl | rfl | rfl | rfl
  · have e : vM 0 n k = 1099511627776 / n := by simp [vM]
    rw [e]
    have h1 := Nat.div_le_self 1099511627776 n
    have h2 : 524288 ≤ 1099511627776 / n := (Nat.le_div_iff_mul_le hn0).mpr (by omega)
    exact ⟨by omega, h1, fun _ => h2⟩
  · obtain ⟨a, b, _⟩ := root_is (k := k) hn0 hn
    exact ⟨by omega, by omega, fun _ => a⟩
  · obtain ⟨a, b, _⟩ := third_is (k := k) hn0 hn
    exact ⟨by omega, by omega, fun _ => a⟩
  · have e : vM 3 n k = n * n := by simp [vM]
    rw [e]
    have := Nat.mul_le_mul (show n ≤ 512 by omega) (show n ≤ 512 by omega)
    exact ⟨Nat.mul_pos hn0 hn0, by omega, fun h => by simp [vO] at h⟩
  · have e : vM 4 n k = n * n * n := by simp [vM]
    rw [e]
    have := Nat.mul_le_mul (Nat.mul_le_mul (show n ≤ 512 by omega) (show n ≤ 512 by omega)) (show n ≤ 512 by omega)
    exact ⟨Nat.mul_pos (Nat.mul_pos hn0 hn0) hn0, by omega, fun h => by simp [vO] at h⟩
theorem vX_b {fn n : Nat} {k : Int} (hn0 : 0 < n) (hn : n < 512) (h1 : -100 ≤ k) (h2 : k ≤ 100) : -1000 ≤ vX fn n k ∧ vX fn n k ≤ 1000 := by
  obtain ⟨_, a, b⟩ := s2_b (k := k) hn0 hn
  obtain ⟨_, a3, b3⟩ := s3_b (k := k) hn0 hn
  unfold vX
  repeat' split
  all_goals omega
/-! the settled results -/
def stl (sg n fn c : Nat) : Nat := if n < c % sg ∨ (fn = 1 ∧ sg ≤ c ∧ c % sg ≠ 0) then n + 1 else (if fn = 3 then 0 else if sg ≤ c then sg else 0) + (if (c % sg = 0 ∧ fn ≠ 0) ∨ (c % sg ≠ 0 ∧ fn = 0) then 0 else n)
theorem X6_settled {post : Int32 → Prop} {k n fn c : Nat} (hk : k ≤ 13) (hn : n ≤ 8192) (hf : fn < 5) (hc : c < 2 ^ (k + 1)) (h : post (nI (stl (2 ^ k) n fn c))) : wp_X6_settledResult post (nI (2 ^ k)) (nI n) (nI fn) (nI c) := by
  have hb : 2 ^ (k + 1) ≤ 2 ^ 14 := Nat.pow_le_pow_right (by omega) (by omega)
  have f0 : nI fn = 0 ↔ fn = 0 := eqL (b := 0) (by omega) (by omega) rfl
  have f1 : nI fn = 1 ↔ fn = 1 := eqL (b := 1) (by omega) (by omega) rfl
  have f3 : nI fn = 3 ↔ fn = 3 := eqL (b := 3) (by omega) (by omega) rfl
  have K34 : ∀ (z y : Bool), z = decide (c % 2 ^ k = 0) → y = decide (fn = 1 ∧ 2 ^ k ≤ c ∧ c % 2 ^ k ≠ 0) → wp_X6_settledResult_34 post (nI (2 ^ k)) (nI n) (nI fn) (nI c) (bI z) (bI y) := by
    intro z y hz hy
    unfold wp_X6_settledResult_34
    have K52 : (n < c % 2 ^ k ∨ (fn = 1 ∧ 2 ^ k ≤ c ∧ c % 2 ^ k ≠ 0)) → wp_X6_settledResult_52 post (nI n) := by
      intro q
      unfold stl at h
      rw [if_pos q] at h
      unfold wp_X6_settledResult_52
      exact X1_none h
    have K78 : ∀ x5, x5 = (if fn = 3 then 0 else if 2 ^ k ≤ c then 2 ^ k else 0) → ¬ (n < c % 2 ^ k ∨ (fn = 1 ∧ 2 ^ k ≤ c ∧ c % 2 ^ k ≠ 0)) → wp_X6_settledResult_78 post (nI n) (nI fn) (bI z) (nI x5) := by
      intro x5 h5 q
      unfold stl at h
      rw [if_neg q, ← h5] at h
      unfold wp_X6_settledResult_78
      rw [f0]
      have K98 : ∀ t : Bool, (t = true ↔ ((c % 2 ^ k = 0 ∧ fn ≠ 0) ∨ (c % 2 ^ k ≠ 0 ∧ fn = 0))) → wp_X6_settledResult_98 post (nI n) (nI x5) (bI t) := by
        intro t ht
        unfold wp_X6_settledResult_98
        rw [bI_0, nI_add]
        refine ⟨fun d => ?_, fun d => ?_⟩
        · rw [if_neg (fun w => by rw [ht.mpr w] at d; cases d)] at h; exact h
        · have d : t = true := by cases t; exact absurd rfl d; rfl
          rw [if_pos (ht.mp d)] at h; exact h
      refine ⟨fun d => ?_, fun d => ?_⟩
      · unfold wp_X6_settledResult_90
        refine ⟨fun w => K98 false ?_, fun w => K98 true ?_⟩
        · have w : z = false := (bI_0 z).mp w
          rw [w] at hz
          have : ¬ c % 2 ^ k = 0 := by simpa using hz.symm
          simp [this, d]
        · have w : z = true := by cases z; exact absurd rfl w; rfl
          rw [w] at hz
          have : c % 2 ^ k = 0 := by simpa using hz.symm
          simp [this, d]
      · unfold wp_X6_settledResult_90
        refine ⟨fun w => K98 false ?_, fun w => K98 true ?_⟩
        · have w : z = true := by
            cases z
            · exact absurd w (by decide)
            · rfl
          rw [w] at hz
          have : c % 2 ^ k = 0 := by simpa using hz.symm
          simp [this, d]
        · have w : z = false := by
            cases z
            · rfl
            · exact absurd rfl w
          rw [w] at hz
          have : ¬ c % 2 ^ k = 0 := by simpa using hz.symm
          simp [this, d]
    refine X1_isNone (by omega) (by omega) (by omega) (fun q => ⟨fun w => absurd rfl w, fun _ => ⟨fun w => ?_, fun w => ?_⟩⟩) (fun q => ⟨fun _ => K52 (Or.inl q), fun w => absurd w (by decide)⟩)
    · have w := (bI_0 y).mp w
      rw [w] at hy
      have hy : ¬ (fn = 1 ∧ 2 ^ k ≤ c ∧ c % 2 ^ k ≠ 0) := by simpa using hy.symm
      rw [f3, an_s hc]
      refine ⟨fun d => ?_, fun d => ?_⟩
      · exact K78 _ (by rw [if_neg d]) (by omega)
      · exact K78 0 (by rw [if_pos d]) (by omega)
    · have w : y = true := by cases y; exact absurd rfl w; rfl
      rw [w] at hy
      exact K52 (Or.inr (by simpa using hy.symm))
  unfold wp_X6_settledResult
  rw [f1]
  have all : ∀ z : Bool, z = decide (c % 2 ^ k = 0) → (((¬ fn = 1) → (wp_X6_settledResult_33 post (nI (2 ^ k)) (nI n) (nI fn) (nI c) (bI z))) ∧ ((fn = 1) → (wp_X1_isBelow (fun r19 => (((r19 = 0) → (wp_X6_settledResult_33 post (nI (2 ^ k)) (nI n) (nI fn) (nI c) (bI z))) ∧ ((¬ (r19 = 0)) → (((¬ bI z = 0) → (wp_X6_settledResult_33 post (nI (2 ^ k)) (nI n) (nI fn) (nI c) (bI z))) ∧ ((bI z = 0) → (wp_X6_settledResult_34 post (nI (2 ^ k)) (nI n) (nI fn) (nI c) (bI z) (1 : Int32))))))) (nI (2 ^ k)) (nI c)))) := by
    intro z hz
    refine ⟨fun d => ?_, fun d => ?_⟩
    · exact K34 z false hz (by simp [d])
    · refine X1_isBelow (by omega) hc (fun q => ⟨fun _ => K34 z false hz (by simp; omega), fun w => absurd rfl w⟩) (fun q => ⟨fun w => absurd w (by decide), fun _ => ⟨fun w => ?_, fun w => ?_⟩⟩)
      · have w : z = true := by cases z; exact absurd rfl w; rfl
        have : c % 2 ^ k = 0 := by rw [w] at hz; simpa using hz.symm
        exact K34 z false hz (by simp [this])
      · have w := (bI_0 z).mp w
        have : ¬ c % 2 ^ k = 0 := by rw [w] at hz; simpa using hz.symm
        exact K34 z true hz (by simp [this, d, q])
  refine X1_isZero (by omega) (by omega) (fun q => ?_) (fun q => ?_)
  · exact all false (by simp [q])
  · exact all true (by simp [q])
