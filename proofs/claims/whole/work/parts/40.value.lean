/-! ===== HardBench$Value: the amount of a function ===== -/
/-- bits from the highest on, each kept if the whole still fits -/
def gb (P : Nat → Bool) : Nat → Nat → Nat
  | 0, r => r
  | j + 1, r => gb P j (if P (r + 2 ^ j) then r + 2 ^ j else r)
theorem gb_spec {P : Nat → Bool} (hP : ∀ a b, a ≤ b → P b = true → P a = true) : ∀ j r, P r = true → P (gb P j r) = true ∧ r ≤ gb P j r ∧ gb P j r < r + 2 ^ j ∧ ∀ t, P t = true → t < r + 2 ^ j → t ≤ gb P j r := by
  intro j
  induction j with
  | zero => intro r h; exact ⟨h, Nat.le_refl _, by simp [gb], fun t _ ht => by simp at ht; simp [gb]; omega⟩
  | succ j ih =>
    intro r h
    have hp := p2p j
    unfold gb
    by_cases hq : P (r + 2 ^ j) = true
    · rw [if_pos hq]
      obtain ⟨a, b, c, d⟩ := ih (r + 2 ^ j) hq
      exact ⟨a, by omega, by rw [Nat.pow_succ]; omega, fun t h1 h2 => d t h1 (by rw [Nat.pow_succ] at h2; omega)⟩
    · rw [if_neg hq]
      obtain ⟨a, b, c, d⟩ := ih r h
      refine ⟨a, b, by rw [Nat.pow_succ]; omega, fun t h1 h2 => ?_⟩
      by_cases h3 : t < r + 2 ^ j
      · exact d t h1 h3
      · exact absurd (hP _ _ (by omega) h1) hq
def sq (n t : Nat) : Bool := decide (t * t ≤ n)
def cb (n t : Nat) : Bool := decide (t * t * t ≤ n)
def s2 (n : Nat) (k : Int) : Nat := 38 - n.log2 + ((k - (38 - n.log2 : Nat)) % 2).toNat
def s3 (n : Nat) (k : Int) : Nat := 57 - n.log2 + ((k - (57 - n.log2 : Nat)) % 3).toNat
def vM (fn n : Nat) (k : Int) : Nat :=
  if fn = 0 then 1099511627776 / n else if fn = 1 then gb (sq (n * 2 ^ s2 n k)) 20 0 else if fn = 2 then gb (cb (n * 2 ^ s3 n k)) 20 0 else if fn = 3 then n * n else n * n * n
def vX (fn n : Nat) (k : Int) : Int :=
  if fn = 0 then -k - 40 else if fn = 1 then (k - s2 n k) / 2 else if fn = 2 then (k - s3 n k) / 3 else if fn = 3 then 2 * k else 3 * k
def vO (fn n : Nat) (k : Int) : Bool :=
  if fn = 0 then decide (¬ vM 0 n k * n = 1099511627776) else if fn = 1 then decide (¬ vM 1 n k * vM 1 n k = n * 2 ^ s2 n k) else if fn = 2 then decide (¬ vM 2 n k * vM 2 n k * vM 2 n k = n * 2 ^ s3 n k) else false
theorem vM_1 (n : Nat) (k : Int) : vM 1 n k = gb (sq (n * 2 ^ s2 n k)) 20 0 := by simp [vM]
theorem vM_2 (n : Nat) (k : Int) : vM 2 n k = gb (cb (n * 2 ^ s3 n k)) 20 0 := by simp [vM]
theorem vX_1 (n : Nat) (k : Int) : vX 1 n k = (k - s2 n k) / 2 := by simp [vX]
theorem vX_2 (n : Nat) (k : Int) : vX 2 n k = (k - s3 n k) / 3 := by simp [vX]
theorem vO_1 (n : Nat) (k : Int) : vO 1 n k = decide (¬ gb (sq (n * 2 ^ s2 n k)) 20 0 * gb (sq (n * 2 ^ s2 n k)) 20 0 = n * 2 ^ s2 n k) := by simp [vO, vM]
theorem vO_2 (n : Nat) (k : Int) : vO 2 n k = decide (¬ gb (cb (n * 2 ^ s3 n k)) 20 0 * gb (cb (n * 2 ^ s3 n k)) 20 0 * gb (cb (n * 2 ^ s3 n k)) 20 0 = n * 2 ^ s3 n k) := by simp [vO, vM]
theorem X6_keep {post : Int64 → Int32 → Int32 → Prop} {a : Int64} {b : Int32} {q : Bool} (h : post a b (bI q)) : wp_X6_keep post a b (bI q) := ⟨bI_01 q, h⟩
theorem nI_0le {n : Nat} (h : n < 2147483648) : nI n ≤ 0 ↔ n = 0 := by
  have e : nI n ≤ 0 ↔ n ≤ 0 := leL (b := 0) h (by omega) rfl
  rw [e]; omega
theorem X6_reckonOver {post : Int64 → Int32 → Int32 → Prop} {n : Nat} {k : Int} (hn0 : 0 < n) (hn : n < 512) (h : post (lN (vM 0 n k)) (iI (vX 0 n k)) (bI (vO 0 n k))) : wp_X6_reckonOver post (nI n) (iI k) := by
  unfold wp_X6_reckonOver
  have e1 : (nI n).toInt64 = lN n := nI_l (by omega)
  rw [nI_0le (by omega), e1]
  have hd : 1099511627776 / n ≤ 1099511627776 := Nat.div_le_self _ _
  refine ⟨fun c => by omega, fun _ => ⟨?_, ?_⟩⟩
  · rw [show (0 : Int64) = lN 0 from rfl, pk_lEQ (by omega) (by omega)]; omega
  · rw [show (1099511627776 : Int64) = lN 1099511627776 from rfl, pk_lDiv (by omega) hn0 (by omega)]
    unfold wp_X6_reckonOver_16
    have hmul : 1099511627776 / n * n ≤ 1099511627776 := Nat.div_mul_le_self _ _
    rw [e1, lN_mul, lc_eq, pk_lEQ (by omega) (by omega)]
    have ex : -iI k - (40 : Int32) = iI (-k - 40) := by rw [iI_neg, show (40 : Int32) = iI 40 from rfl, iI_sub]
    rw [ex]
    refine ⟨fun c => ?_, fun c => ?_⟩
    · unfold wp_X6_reckonOver_41
      refine X6_keep (q := false) ?_
      have : vO 0 n k = false := by simp [vO, vM, c]
      rw [this] at h
      exact h
    · unfold wp_X6_reckonOver_41
      refine X6_keep (q := true) ?_
      have : vO 0 n k = true := by simp [vO, vM, c]
      rw [this] at h
      exact h
theorem root_loop {post : Int64 → Int32 → Int32 → Prop} {N s : Nat} {k : Int} (hN : N < 1152921504606846976) (hk1 : -1000 ≤ k) (hk2 : k ≤ 1000) (hs : s < 1000) :
    ∀ (j r : Nat) (a : Int64) (b c : Int32), r + 2 ^ j ≤ 1048576 → j ≤ 20 → post (lN (gb (sq N) j r)) (iI ((k - s) / 2)) (bI (decide (¬ gb (sq N) j r * gb (sq N) j r = N))) → wp_X6_reckonRoot_31 post (iI k) (j + 1) a b c (nI s) (lN N) (lN r) (iI ((j : Int) - 1)) := by
  intro j
  induction j with
  | zero =>
    intro r a b c hr hj h
    rw [wp_X6_reckonRoot_31_s]
    refine ⟨fun _ => ?_, fun q => absurd (by decide) q⟩
    have hrr : r * r ≤ 1048576 * 1048576 := Nat.mul_le_mul (by simp at hr; omega) (by simp at hr; omega)
    rw [iI_N, iI_sub, show (2 : Int32) = iI 2 from rfl]
    refine J9_fd (by omega) (by omega) (by omega) (by omega) ?_
    rw [lN_mul, lc_eq, pk_lEQ (by omega) (by omega)]
    unfold gb at h
    refine ⟨fun q => ?_, fun q => ?_⟩
    · rw [show decide (¬ r * r = N) = false by simp [q]] at h
      exact X6_keep (q := false) h
    · rw [show decide (¬ r * r = N) = true by simp [q]] at h
      exact X6_keep (q := true) h
  | succ j ih =>
    intro r a b c hr hj h
    have hp := p2p j
    rw [Nat.pow_succ] at hr
    rw [wp_X6_reckonRoot_31_s]
    have e8 : iI (((j + 1 : Nat) : Int) - 1) = nI j := by rw [iI_N]; congr 1; omega
    rw [e8]
    have e1 : (1 : Int64) <<< ((nI j).toInt64 &&& 63) = lN (2 ^ j) := by
      have := wb_shl 1 (k := j) (by omega)
      rw [Nat.one_mul] at this
      exact this
    have hrr : (r + 2 ^ j) * (r + 2 ^ j) ≤ 1048576 * 1048576 := Nat.mul_le_mul (by omega) (by omega)
    refine ⟨fun q => absurd q (by rw [show (0 : Int32) = nI 0 from rfl, nI_ltI (by omega) (by omega)]; omega), fun _ => ?_⟩
    rw [e1, lN_add, lN_mul, lc_gt, pk_lLT (by omega) (by omega)]
    have em : nI j + (-1 : Int32) = iI ((j : Int) - 1) := by
      rw [iI_N, show (-1 : Int32) = iI (-1) from rfl, iI_add]
      rfl
    unfold wp_X6_reckonRoot_60
    rw [em]
    unfold gb sq at h
    refine ⟨fun q => ?_, fun q => ?_⟩
    · rw [if_neg (by simp; omega)] at h
      exact ih r a b c (by omega) (by omega) h
    · rw [if_pos (by simp; omega)] at h
      exact ih (r + 2 ^ j) a b c (by omega) (by omega) h
theorem third_loop {post : Int64 → Int32 → Int32 → Prop} {N s : Nat} {k : Int} (hN : N < 2305843009213693952) (hk1 : -1000 ≤ k) (hk2 : k ≤ 1000) (hs : s < 1000) :
    ∀ (j r : Nat) (a : Int64) (b c : Int32), r + 2 ^ j ≤ 1048576 → j ≤ 20 → post (lN (gb (cb N) j r)) (iI ((k - s) / 3)) (bI (decide (¬ gb (cb N) j r * gb (cb N) j r * gb (cb N) j r = N))) → wp_X6_reckonThird_31 post (iI k) (j + 1) a b c (nI s) (lN N) (lN r) (iI ((j : Int) - 1)) := by
  intro j
  induction j with
  | zero =>
    intro r a b c hr hj h
    rw [wp_X6_reckonThird_31_s]
    refine ⟨fun _ => ?_, fun q => absurd (by decide) q⟩
    have hrr : r * r ≤ 1048576 * 1048576 := Nat.mul_le_mul (by simp at hr; omega) (by simp at hr; omega)
    have hr3 : r * r * r ≤ 1048576 * 1048576 * 1048576 := Nat.mul_le_mul hrr (by simp at hr; omega)
    rw [iI_N, iI_sub, show (3 : Int32) = iI 3 from rfl]
    refine J9_fd (by omega) (by omega) (by omega) (by omega) ?_
    rw [lN_mul, lN_mul, lc_eq, pk_lEQ (by omega) (by omega)]
    unfold gb at h
    refine ⟨fun q => ?_, fun q => ?_⟩
    · rw [show decide (¬ r * r * r = N) = false by simp [q]] at h
      exact X6_keep (q := false) h
    · rw [show decide (¬ r * r * r = N) = true by simp [q]] at h
      exact X6_keep (q := true) h
  | succ j ih =>
    intro r a b c hr hj h
    have hp := p2p j
    rw [Nat.pow_succ] at hr
    rw [wp_X6_reckonThird_31_s]
    have e8 : iI (((j + 1 : Nat) : Int) - 1) = nI j := by rw [iI_N]; congr 1; omega
    rw [e8]
    have e1 : (1 : Int64) <<< ((nI j).toInt64 &&& 63) = lN (2 ^ j) := by
      have := wb_shl 1 (k := j) (by omega)
      rw [Nat.one_mul] at this
      exact this
    have hrr : (r + 2 ^ j) * (r + 2 ^ j) ≤ 1048576 * 1048576 := Nat.mul_le_mul (by omega) (by omega)
    have hr3 : (r + 2 ^ j) * (r + 2 ^ j) * (r + 2 ^ j) ≤ 1048576 * 1048576 * 1048576 := Nat.mul_le_mul hrr (by omega)
    refine ⟨fun q => absurd q (by rw [show (0 : Int32) = nI 0 from rfl, nI_ltI (by omega) (by omega)]; omega), fun _ => ?_⟩
    rw [e1, lN_add, lN_mul, lN_mul, lc_gt, pk_lLT (by omega) (by omega)]
    have em : nI j + (-1 : Int32) = iI ((j : Int) - 1) := by
      rw [iI_N, show (-1 : Int32) = iI (-1) from rfl, iI_add]
      rfl
    unfold wp_X6_reckonThird_63
    rw [em]
    unfold gb cb at h
    refine ⟨fun q => ?_, fun q => ?_⟩
    · rw [if_neg (by simp; omega)] at h
      exact ih r a b c (by omega) (by omega) h
    · rw [if_pos (by simp; omega)] at h
      exact ih (r + 2 ^ j) a b c (by omega) (by omega) h
theorem logb {n : Nat} (hn0 : 0 < n) (hn : n < 512) : n.log2 ≤ 8 := by
  have : n.log2 < 9 := (Nat.log2_lt (by omega)).mpr (by omega)
  omega
theorem s2_b {n : Nat} {k : Int} (hn0 : 0 < n) (hn : n < 512) : n * 2 ^ s2 n k < 1152921504606846976 ∧ s2 n k ≤ 39 ∧ 30 ≤ s2 n k := by
  have h8 := logb hn0 hn
  have hm := Nat.lt_log2_self (n := n)
  have e : s2 n k + n.log2 ≤ 39 ∧ 38 ≤ s2 n k + n.log2 := by
    unfold s2
    have := Int.emod_nonneg (k - (38 - n.log2 : Nat)) (show (2 : Int) ≠ 0 by omega)
    have := Int.emod_lt_of_pos (k - (38 - n.log2 : Nat)) (show (0 : Int) < 2 by omega)
    omega
  refine ⟨?_, by omega, by omega⟩
  have h2 : n * 2 ^ s2 n k < 2 ^ (n.log2 + 1) * 2 ^ s2 n k := Nat.mul_lt_mul_of_pos_right hm (p2p _)
  rw [← Nat.pow_add] at h2
  have h3 : 2 ^ (n.log2 + 1 + s2 n k) ≤ 2 ^ 40 := Nat.pow_le_pow_right (by omega) (by omega)
  omega
theorem s3_b {n : Nat} {k : Int} (hn0 : 0 < n) (hn : n < 512) : n * 2 ^ s3 n k < 2305843009213693952 ∧ s3 n k ≤ 59 ∧ 49 ≤ s3 n k := by
  have h8 := logb hn0 hn
  have hm := Nat.lt_log2_self (n := n)
  have e : s3 n k + n.log2 ≤ 59 ∧ 57 ≤ s3 n k + n.log2 := by
    unfold s3
    have := Int.emod_nonneg (k - (57 - n.log2 : Nat)) (show (3 : Int) ≠ 0 by omega)
    have := Int.emod_lt_of_pos (k - (57 - n.log2 : Nat)) (show (0 : Int) < 3 by omega)
    omega
  refine ⟨?_, by omega, by omega⟩
  have h2 : n * 2 ^ s3 n k < 2 ^ (n.log2 + 1) * 2 ^ s3 n k := Nat.mul_lt_mul_of_pos_right hm (p2p _)
  rw [← Nat.pow_add] at h2
  have h3 : 2 ^ (n.log2 + 1 + s3 n k) ≤ 2 ^ 60 := Nat.pow_le_pow_right (by omega) (by omega)
  omega
theorem X6_reckonRoot {post : Int64 → Int32 → Int32 → Prop} {n : Nat} {k : Int} {a : Int64} {b c : Int32} (hn0 : 0 < n) (hn : n < 512) (hk1 : -100 ≤ k) (hk2 : k ≤ 100) (h : post (lN (vM 1 n k)) (iI (vX 1 n k)) (bI (vO 1 n k))) : wp_X6_reckonRoot post a b c (nI n) (iI k) := by
  unfold wp_X6_reckonRoot
  have h8 := logb hn0 hn
  obtain ⟨hb, hb2, hb3⟩ := s2_b (k := k) hn0 hn
  refine J6_nlz hn0 (by omega) ?_
  have e7 : (7 : Int32) + nI (31 - n.log2) = nI (38 - n.log2) := by
    rw [show (7 : Int32) = nI 7 from rfl, nI_add]; congr 1; omega
  rw [e7, iI_N (38 - n.log2), iI_sub, show (2 : Int32) = iI 2 from rfl]
  refine J9_fm (by omega) (by omega) (by omega) (by omega) ?_
  have es : iI ((38 - n.log2 : Nat) : Int) + iI ((k - (38 - n.log2 : Nat)) % 2) = nI (s2 n k) := by
    rw [iI_add, iI_N]
    congr 1
    unfold s2
    have := Int.emod_nonneg (k - (38 - n.log2 : Nat)) (show (2 : Int) ≠ 0 by omega)
    omega
  rw [es, nI_l (by omega), wb_shl n (by omega)]
  refine ⟨20 + 1, ?_⟩
  rw [show (0 : Int64) = lN 0 from rfl, show (19 : Int32) = iI (((20 : Nat) : Int) - 1) from by decide]
  rw [vM_1, vX_1, vO_1] at h
  have := root_loop (post := post) (N := n * 2 ^ s2 n k) (s := s2 n k) (k := k) hb (by omega) (by omega) (by omega) 20 0 a b c (by decide) (by omega)
  exact this h
theorem X6_reckonThird {post : Int64 → Int32 → Int32 → Prop} {n : Nat} {k : Int} {a : Int64} {b c : Int32} (hn0 : 0 < n) (hn : n < 512) (hk1 : -100 ≤ k) (hk2 : k ≤ 100) (h : post (lN (vM 2 n k)) (iI (vX 2 n k)) (bI (vO 2 n k))) : wp_X6_reckonThird post a b c (nI n) (iI k) := by
  unfold wp_X6_reckonThird
  have h8 := logb hn0 hn
  obtain ⟨hb, hb2, hb3⟩ := s3_b (k := k) hn0 hn
  refine J6_nlz hn0 (by omega) ?_
  have e7 : (26 : Int32) + nI (31 - n.log2) = nI (57 - n.log2) := by
    rw [show (26 : Int32) = nI 26 from rfl, nI_add]; congr 1; omega
  rw [e7, iI_N (57 - n.log2), iI_sub, show (3 : Int32) = iI 3 from rfl]
  refine J9_fm (by omega) (by omega) (by omega) (by omega) ?_
  have es : iI ((57 - n.log2 : Nat) : Int) + iI ((k - (57 - n.log2 : Nat)) % 3) = nI (s3 n k) := by
    rw [iI_add, iI_N]
    congr 1
    unfold s3
    have := Int.emod_nonneg (k - (57 - n.log2 : Nat)) (show (3 : Int) ≠ 0 by omega)
    omega
  rw [es, nI_l (by omega), wb_shl n (by omega)]
  refine ⟨20 + 1, ?_⟩
  rw [show (0 : Int64) = lN 0 from rfl, show (19 : Int32) = iI (((20 : Nat) : Int) - 1) from by decide]
  rw [vM_2, vX_2, vO_2] at h
  have := third_loop (post := post) (N := n * 2 ^ s3 n k) (s := s3 n k) (k := k) hb (by omega) (by omega) (by omega) 20 0 a b c (by decide) (by omega)
  exact this h
theorem X6_reckon {post : Int64 → Int32 → Int32 → Prop} {fn n : Nat} {k : Int} {a : Int64} {b c : Int32} (hf : fn < 5) (hn0 : 0 < n) (hn : n < 512) (hk1 : -100 ≤ k) (hk2 : k ≤ 100) (h : post (lN (vM fn n k)) (iI (vX fn n k)) (bI (vO fn n k))) : wp_X6_reckon post a b c (nI fn) (nI n) (iI k) := by
  unfold wp_X6_reckon
  have e1 : (nI n).toInt64 = lN n := nI_l (by omega)
  have f0 : nI fn = 0 ↔ fn = 0 := eqL (b := 0) (by omega) (by omega) rfl
  have f1 : nI fn = 1 ↔ fn = 1 := eqL (b := 1) (by omega) (by omega) rfl
  have f2 : nI fn = 2 ↔ fn = 2 := eqL (b := 2) (by omega) (by omega) rfl
  have f3 : nI fn = 3 ↔ fn = 3 := eqL (b := 3) (by omega) (by omega) rfl
  rw [f0, f1, f2, f3, e1, lN_mul, lN_mul, show (2 : Int32) = iI 2 from rfl, show (3 : Int32) = iI 3 from rfl, iI_mul, iI_mul]
  refine ⟨fun c => ?_, fun c0 => ⟨fun c => ?_, fun c1 => ⟨fun c => ?_, fun c2 => ⟨fun c => ?_, fun c3 => ?_⟩⟩⟩⟩
  · subst c; exact X6_reckonOver hn0 hn h
  · subst c; exact X6_reckonRoot hn0 hn hk1 hk2 h
  · subst c; exact X6_reckonThird hn0 hn hk1 hk2 h
  · subst c; exact X6_keep (q := false) h
  · have : fn = 4 := by omega
    subst this
    exact X6_keep (q := false) h
