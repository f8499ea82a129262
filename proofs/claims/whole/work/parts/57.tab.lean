/-! ===== lines: the numbers ===== -/
def lo (D : Nat → Nat) (U : Int) (y z : Nat) : Int := -((U - 1 - ((D z : Int) - D y) * U) / ((z : Int) - y))
def up (D : Nat → Nat) (U : Int) (y z : Nat) : Int := (U - 1 + ((D z : Int) - D y) * U) / ((z : Int) - y)
theorem dv {x d B : Int} (hd : 0 < d) (hB : 0 ≤ B) (h1 : -B ≤ x) (h2 : x ≤ B) : -B ≤ x / d ∧ x / d ≤ B := by
  have e : B * 1 ≤ B * d := Int.mul_le_mul_of_nonneg_left (by omega) hB
  rw [Int.mul_one] at e
  refine ⟨Int.le_ediv_of_mul_le hd ?_, Int.ediv_le_of_le_mul hd (by omega)⟩
  rw [Int.neg_mul]; omega
theorem du_b {D : Nat → Nat} {U : Int} (hD : ∀ z, D z ≤ 7936) (h1 : 1 ≤ U) (h2 : U ≤ 1024) (y z : Nat) : -8126464 ≤ ((D z : Int) - D y) * U ∧ ((D z : Int) - D y) * U ≤ 8126464 := by
  have a := hD y
  have b := hD z
  have e1 : ((D z : Int) - D y) * U ≤ 7936 * U := Int.mul_le_mul_of_nonneg_right (by omega) (by omega)
  have e2 : (-7936) * U ≤ ((D z : Int) - D y) * U := Int.mul_le_mul_of_nonneg_right (by omega) (by omega)
  omega
theorem lo_b {D : Nat → Nat} {U : Int} (hD : ∀ z, D z ≤ 7936) (h1 : 1 ≤ U) (h2 : U ≤ 1024) {y z : Nat} (h : y < z) : -8127487 ≤ lo D U y z ∧ lo D U y z ≤ 8127487 := by
  have e := du_b hD h1 h2 y z
  have k := dv (x := U - 1 - ((D z : Int) - D y) * U) (d := (z : Int) - y) (B := 8127487) (by omega) (by omega) (by omega) (by omega)
  unfold lo; omega
theorem up_b {D : Nat → Nat} {U : Int} (hD : ∀ z, D z ≤ 7936) (h1 : 1 ≤ U) (h2 : U ≤ 1024) {y z : Nat} (h : y < z) : -8127487 ≤ up D U y z ∧ up D U y z ≤ 8127487 := by
  have e := du_b hD h1 h2 y z
  have k := dv (x := U - 1 + ((D z : Int) - D y) * U) (d := (z : Int) - y) (B := 8127487) (by omega) (by omega) (by omega) (by omega)
  unfold up; omega
def nl (D : Nat → Nat) (U : Int) (z f : Nat) (l : Int) : Nat → Int
  | 0 => l
  | k + 1 => if lo D U (f + k) z < nl D U z f l k then nl D U z f l k else lo D U (f + k) z
def ng (D : Nat → Nat) (U : Int) (z f : Nat) (g : Int) : Nat → Int
  | 0 => g
  | k + 1 => if up D U (f + k) z < ng D U z f g k then up D U (f + k) z else ng D U z f g k
theorem nl_ge (D : Nat → Nat) (U : Int) (z f : Nat) (l : Int) (k : Nat) : l ≤ nl D U z f l k ∧ ∀ j, j < k → lo D U (f + j) z ≤ nl D U z f l k := by
  induction k with
  | zero => exact ⟨Int.le_refl _, fun j hj => by omega⟩
  | succ k ih =>
    obtain ⟨i1, i2⟩ := ih
    unfold nl
    by_cases q : lo D U (f + k) z < nl D U z f l k
    · rw [if_pos q]
      refine ⟨i1, fun j hj => ?_⟩
      by_cases e : j = k
      · subst e; omega
      · exact i2 j (by omega)
    · rw [if_neg q]
      refine ⟨by omega, fun j hj => ?_⟩
      by_cases e : j = k
      · subst e; omega
      · have := i2 j (by omega); omega
theorem ng_le (D : Nat → Nat) (U : Int) (z f : Nat) (g : Int) (k : Nat) : ng D U z f g k ≤ g ∧ ∀ j, j < k → ng D U z f g k ≤ up D U (f + j) z := by
  induction k with
  | zero => exact ⟨Int.le_refl _, fun j hj => by omega⟩
  | succ k ih =>
    obtain ⟨i1, i2⟩ := ih
    unfold ng
    by_cases q : up D U (f + k) z < ng D U z f g k
    · rw [if_pos q]
      refine ⟨by omega, fun j hj => ?_⟩
      by_cases e : j = k
      · subst e; omega
      · have := i2 j (by omega); omega
    · rw [if_neg q]
      refine ⟨i1, fun j hj => ?_⟩
      by_cases e : j = k
      · subst e; omega
      · exact i2 j (by omega)
theorem nl_le {D : Nat → Nat} {U : Int} {z f : Nat} {l M : Int} (hl : l ≤ M) {k : Nat} (h : ∀ j, j < k → lo D U (f + j) z ≤ M) : nl D U z f l k ≤ M := by
  induction k with
  | zero => exact hl
  | succ k ih =>
    have i := ih (fun j hj => h j (by omega))
    have := h k (by omega)
    unfold nl; split <;> omega
theorem ng_ge {D : Nat → Nat} {U : Int} {z f : Nat} {g M : Int} (hl : M ≤ g) {k : Nat} (h : ∀ j, j < k → M ≤ up D U (f + j) z) : M ≤ ng D U z f g k := by
  induction k with
  | zero => exact hl
  | succ k ih =>
    have i := ih (fun j hj => h j (by omega))
    have := h k (by omega)
    unfold ng; split <;> omega
/-- the least and the greatest slope after so many z behind the first -/
def gL (D : Nat → Nat) (U w : Int) (f : Nat) : Nat → Int
  | 0 => -w
  | k + 1 => nl D U (f + (k + 1)) f (gL D U w f k) (k + 1)
def gG (D : Nat → Nat) (U w : Int) (f : Nat) : Nat → Int
  | 0 => w
  | k + 1 => ng D U (f + (k + 1)) f (gG D U w f k) (k + 1)
abbrev fe (D : Nat → Nat) (U w : Int) (f k : Nat) : Prop := gL D U w f k ≤ gG D U w f k
theorem gL_b {D : Nat → Nat} {U w : Int} (hD : ∀ z, D z ≤ 7936) (h1 : 1 ≤ U) (h2 : U ≤ 1024) (hw : 0 ≤ w) (f k : Nat) : -w ≤ gL D U w f k ∧ gL D U w f k ≤ 8127487 := by
  induction k with
  | zero => exact ⟨Int.le_refl _, by show -w ≤ _; omega⟩
  | succ k ih =>
    have a := nl_ge D U (f + (k + 1)) f (gL D U w f k) (k + 1)
    have b := nl_le (D := D) (U := U) (z := f + (k + 1)) (f := f) (l := gL D U w f k) (M := 8127487) ih.2 (k := k + 1) (fun j hj => (lo_b hD h1 h2 (by omega)).2)
    unfold gL
    exact ⟨by omega, b⟩
theorem gG_b {D : Nat → Nat} {U w : Int} (hD : ∀ z, D z ≤ 7936) (h1 : 1 ≤ U) (h2 : U ≤ 1024) (hw : 0 ≤ w) (f k : Nat) : gG D U w f k ≤ w ∧ -8127487 ≤ gG D U w f k := by
  induction k with
  | zero => exact ⟨Int.le_refl _, by show _ ≤ w; omega⟩
  | succ k ih =>
    have a := ng_le D U (f + (k + 1)) f (gG D U w f k) (k + 1)
    have b := ng_ge (D := D) (U := U) (z := f + (k + 1)) (f := f) (g := gG D U w f k) (M := -8127487) ih.2 (k := k + 1) (fun j hj => (up_b hD h1 h2 (by omega)).1)
    unfold gG
    exact ⟨by omega, b⟩
/-- wide bounds are all alike -/
theorem g_wide {D : Nat → Nat} {U w w' : Int} (hD : ∀ z, D z ≤ 7936) (h1 : 1 ≤ U) (h2 : U ≤ 1024) (hw : 8127487 ≤ w) (hw' : 8127487 ≤ w') (f k : Nat) : gL D U w f (k + 1) = gL D U w' f (k + 1) ∧ gG D U w f (k + 1) = gG D U w' f (k + 1) := by
  induction k with
  | zero =>
    have a := lo_b hD h1 h2 (show f + 0 < f + (0 + 1) by omega)
    have b := up_b hD h1 h2 (show f + 0 < f + (0 + 1) by omega)
    refine ⟨?_, ?_⟩
    · show (if lo D U (f + 0) (f + (0 + 1)) < -w then -w else lo D U (f + 0) (f + (0 + 1))) = (if lo D U (f + 0) (f + (0 + 1)) < -w' then -w' else lo D U (f + 0) (f + (0 + 1)))
      rw [if_neg (by omega), if_neg (by omega)]
    · show (if up D U (f + 0) (f + (0 + 1)) < w then up D U (f + 0) (f + (0 + 1)) else w) = (if up D U (f + 0) (f + (0 + 1)) < w' then up D U (f + 0) (f + (0 + 1)) else w')
      split <;> split <;> omega
  | succ k ih =>
    refine ⟨?_, ?_⟩
    · show nl _ _ _ _ (gL D U w f (k + 1)) _ = nl _ _ _ _ (gL D U w' f (k + 1)) _
      rw [ih.1]
    · show ng _ _ _ _ (gG D U w f (k + 1)) _ = ng _ _ _ _ (gG D U w' f (k + 1)) _
      rw [ih.2]
def SL (l g : Int) : Int := if (if 0 < g then 0 else g) < l then l else (if 0 < g then 0 else g)
theorem SL_1 {l g : Int} (hg : l ≤ g) : (l ≤ 0 → 0 ≤ g → SL l g = 0) ∧ (l ≤ 0 → ¬ 0 ≤ g → SL l g = g) ∧ (¬ l ≤ 0 → SL l g = l) := by
  unfold SL
  refine ⟨fun a b => ?_, fun a b => ?_, fun a => ?_⟩
  all_goals (repeat' split) <;> omega
theorem SL_b {l g B : Int} (hB : 0 ≤ B) (hg : l ≤ g) (h1 : l ≤ B) (h2 : -B ≤ g) : -B ≤ SL l g ∧ SL l g ≤ B := by
  unfold SL
  (repeat' split) <;> omega
def vv (D : Nat → Nat) (U b : Int) (z : Nat) : Int := (D z : Int) * U - b * z
def am (D : Nat → Nat) (U b : Int) (f : Nat) (a0 : Int) : Nat → Int
  | 0 => a0
  | k + 1 => if vv D U b (f + k) < am D U b f a0 k then am D U b f a0 k else vv D U b (f + k)
theorem vv_b {D : Nat → Nat} {U b : Int} (hD : ∀ z, D z ≤ 7936) (h1 : 1 ≤ U) (h2 : U ≤ 1024) (b1 : -8127487 ≤ b) (b2 : b ≤ 8127487) {z : Nat} (hz : z ≤ 255) : -2080635649 ≤ vv D U b z ∧ vv D U b z ≤ 2080635649 := by
  have a := hD z
  have e1 : (D z : Int) * U ≤ 7936 * U := Int.mul_le_mul_of_nonneg_right (by omega) (by omega)
  have e2 : 0 ≤ (D z : Int) * U := Int.mul_nonneg (by omega) (by omega)
  have e3 : b * z ≤ 8127487 * (z : Int) := Int.mul_le_mul_of_nonneg_right (by omega) (by omega)
  have e4 : (-8127487) * (z : Int) ≤ b * z := Int.mul_le_mul_of_nonneg_right (by omega) (by omega)
  unfold vv; omega
theorem am_b {D : Nat → Nat} {U b a0 : Int} (hD : ∀ z, D z ≤ 7936) (h1 : 1 ≤ U) (h2 : U ≤ 1024) (b1 : -8127487 ≤ b) (b2 : b ≤ 8127487) (ha : a0 ≤ -2080635649) (f : Nat) : ∀ k, f + k ≤ 255 → -2080635649 ≤ am D U b f a0 (k + 1) ∧ am D U b f a0 (k + 1) ≤ 2080635649 := by
  intro k
  induction k with
  | zero =>
    intro hk
    have v := vv_b hD h1 h2 b1 b2 (z := f + 0) (by omega)
    show -2080635649 ≤ (if vv D U b (f + 0) < a0 then a0 else vv D U b (f + 0)) ∧ (if vv D U b (f + 0) < a0 then a0 else vv D U b (f + 0)) ≤ 2080635649
    split <;> omega
  | succ k ih =>
    intro hk
    have i := ih (by omega)
    have v := vv_b hD h1 h2 b1 b2 (z := f + (k + 1)) (by omega)
    unfold am; split <;> omega
theorem am_0 {D : Nat → Nat} {U b a0 : Int} {f : Nat} (h : a0 ≤ vv D U b f) (k : Nat) : am D U b f a0 (k + 1) = am D U b f (vv D U b f) (k + 1) := by
  induction k with
  | zero =>
    show (if vv D U b (f + 0) < a0 then a0 else vv D U b (f + 0)) = (if vv D U b (f + 0) < vv D U b f then vv D U b f else vv D U b (f + 0))
    rw [Nat.add_zero, if_neg (by omega), if_neg (by omega)]
  | succ k ih =>
    show (if _ < am D U b f a0 (k + 1) then am D U b f a0 (k + 1) else _) = (if _ < am D U b f (vv D U b f) (k + 1) then am D U b f (vv D U b f) (k + 1) else _)
    rw [ih]
/-! flat parts -/
theorem flat_y {D : Nat → Nat} {U : Int} (h1 : 1 ≤ U) {f k : Nat} (h : ∀ j, j ≤ k → D (f + j) = D f) : gL D U 0 f k = 0 ∧ gG D U 0 f k = 0 := by
  induction k with
  | zero => exact ⟨rfl, rfl⟩
  | succ k ih =>
    obtain ⟨i1, i2⟩ := ih (fun j hj => h j (by omega))
    have e : ∀ j, j < k + 1 → lo D U (f + j) (f + (k + 1)) ≤ 0 ∧ 0 ≤ up D U (f + j) (f + (k + 1)) := by
      intro j hj
      unfold lo up
      rw [h j (by omega), h (k + 1) (by omega), Int.sub_self, Int.zero_mul]
      have := Int.ediv_nonneg (a := U - 1) (b := ((f + (k + 1) : Nat) : Int) - ((f + j : Nat) : Int)) (by omega) (by omega)
      rw [Int.sub_zero, Int.add_zero]; omega
    have a := nl_ge D U (f + (k + 1)) f 0 (k + 1)
    have b := nl_le (D := D) (U := U) (z := f + (k + 1)) (f := f) (l := 0) (M := 0) (Int.le_refl _) (k := k + 1) (fun j hj => (e j hj).1)
    have c := ng_le D U (f + (k + 1)) f 0 (k + 1)
    have d := ng_ge (D := D) (U := U) (z := f + (k + 1)) (f := f) (g := 0) (M := 0) (Int.le_refl _) (k := k + 1) (fun j hj => (e j hj).2)
    unfold gL gG
    rw [i1, i2]
    exact ⟨by omega, by omega⟩
theorem flat_n {D : Nat → Nat} {U : Int} (h1 : 1 ≤ U) {f k : Nat} (h : ∀ j, j ≤ k → D (f + j) = D f) (hn : ¬ D (f + (k + 1)) = D f) : ¬ fe D U 0 f (k + 1) := by
  obtain ⟨i1, i2⟩ := flat_y h1 h
  unfold fe gL gG
  rw [i1, i2]
  have a := nl_ge D U (f + (k + 1)) f 0 (k + 1)
  have c := ng_le D U (f + (k + 1)) f 0 (k + 1)
  have a2 : lo D U f (f + (k + 1)) ≤ _ := a.2 0 (by omega)
  have c2 : _ ≤ up D U f (f + (k + 1)) := c.2 0 (by omega)
  unfold lo at a2
  unfold up at c2
  have hd : (0 : Int) < ((f + (k + 1) : Nat) : Int) - (f : Int) := by omega
  intro w
  by_cases q : D f < D (f + (k + 1))
  · have m : 1 * U ≤ ((D (f + (k + 1)) : Int) - D f) * U := Int.mul_le_mul_of_nonneg_right (by omega) (by omega)
    have := Int.ediv_lt_of_lt_mul (a := U - 1 - ((D (f + (k + 1)) : Int) - D f) * U) (b := 0) hd (by rw [Int.zero_mul]; omega)
    omega
  · have m : ((D (f + (k + 1)) : Int) - D f) * U ≤ (-1) * U := Int.mul_le_mul_of_nonneg_right (by omega) (by omega)
    have := Int.ediv_lt_of_lt_mul (a := U - 1 + ((D (f + (k + 1)) : Int) - D f) * U) (b := 0) hd (by rw [Int.zero_mul]; omega)
    omega
/-! the parts -/
def CH (fe : Nat → Nat → Prop) (Z P : Nat) (fr : Nat → Nat) : Prop := fr 0 = 0 ∧ ∀ i, i < P → fr i < fr (i + 1) ∧ fr (i + 1) ≤ Z ∧ (∀ j, fr i + j < fr (i + 1) → fe (fr i) j) ∧ (fr (i + 1) = Z ∨ ¬ fe (fr i) (fr (i + 1) - fr i))
theorem CH_ge {fe : Nat → Nat → Prop} {Z P : Nat} {fr : Nat → Nat} (h : CH fe Z P fr) : ∀ i, i ≤ P → i ≤ fr i := by
  intro i
  induction i with
  | zero => intro _; exact Nat.zero_le _
  | succ i ih => intro hi; have := ih (by omega); have := (h.2 i (by omega)).1; omega
theorem CH_uniq {fe fe' : Nat → Nat → Prop} {Z P P' : Nat} {fr fr' : Nat → Nat} (hfe : ∀ f k, fe f k ↔ fe' f k) (h : CH fe Z P fr) (h' : CH fe' Z P' fr') (hz : fr P = Z) (hz' : fr' P' = Z) : P = P' ∧ ∀ i, i ≤ P → fr i = fr' i := by
  have k : ∀ i, i ≤ P → i ≤ P' → fr i = fr' i := by
    intro i
    induction i with
    | zero => intro _ _; rw [h.1, h'.1]
    | succ i ih =>
      intro a b
      have e := ih (by omega) (by omega)
      obtain ⟨a1, a2, a3, a4⟩ := h.2 i (by omega)
      obtain ⟨b1, b2, b3, b4⟩ := h'.2 i (by omega)
      rw [e] at a1 a3 a4
      by_cases q : fr (i + 1) < fr' (i + 1)
      · rcases a4 with a4 | a4
        · omega
        · exact absurd ((hfe _ _).mpr (b3 (fr (i + 1) - fr' i) (by omega))) a4
      · by_cases q2 : fr' (i + 1) < fr (i + 1)
        · rcases b4 with b4 | b4
          · omega
          · exact absurd ((hfe _ _).mp (a3 (fr' (i + 1) - fr' i) (by omega))) b4
        · omega
  have e : P = P' := by
    by_cases q : P < P'
    · have := k P (by omega) (by omega)
      have := h'.2 P q
      omega
    · by_cases q2 : P' < P
      · have := k P' (by omega) (by omega)
        have := h.2 P' q2
        omega
      · omega
  exact ⟨e, fun i hi => k i hi (by omega)⟩
theorem CH_add {fe : Nat → Nat → Prop} {Z P e : Nat} {fr : Nat → Nat} (h : CH fe Z P fr) (h1 : fr P < e) (h2 : e ≤ Z) (h3 : ∀ j, fr P + j < e → fe (fr P) j) (h4 : e = Z ∨ ¬ fe (fr P) (e - fr P)) : CH fe Z (P + 1) (fun k => if k = P + 1 then e else fr k) := by
  refine ⟨by simpa using h.1, fun i hi => ?_⟩
  by_cases q : i = P
  · subst q; simpa using ⟨h1, h2, h3, h4⟩
  · have k := h.2 i (by omega)
    have e1 : ¬ i = P + 1 := by omega
    have e2 : ¬ i + 1 = P + 1 := by omega
    simp only [e1, e2, if_false]
    exact k
