theorem MK_N {E F b n : Nat} {low : Int} (h : MK E F b n low) : 2 ^ (E + F + 1) ≤ 16384 ∧ 2 ^ (E + F + 1) = 2 * 2 ^ (E + F) ∧ 2 ^ (E + F) ≤ 8192 ∧ n ≤ 2 ^ (E + F) ∧ 1 ≤ n ∧ n ≤ 8192 := by
  obtain ⟨hE, hF, hb, hl, hn1, hn, hev, hns⟩ := h
  have e1 : 2 ^ (E + F + 1) ≤ 2 ^ 14 := Nat.pow_le_pow_right (by omega) (by omega)
  have e2 : 2 ^ (E + F) ≤ 2 ^ 13 := Nat.pow_le_pow_right (by omega) (by omega)
  exact ⟨by omega, by rw [Nat.pow_succ]; omega, by omega, hns, hn1, hn⟩
theorem aS_off {f : Nat → Nat} {base w c k : Nat} {S : Nat → Int32} (h : k < base ∨ base + w ≤ k) : aS f base w c S k = S k := by
  unfold aS; rw [if_neg (by omega)]
theorem aB_off {g : Nat → Nat} {base k : Nat} {S : Nat → Int32} (h : k < base ∨ base + 64 ≤ k) : aB g base S k = S k := by
  unfold aB; rw [if_neg (by omega)]
theorem bse (a w j : Nat) (y : Int32) (hy : y = nI w) : nI a * y + nI j = nI (a * w + j) := by rw [hy, pk_mul, nI_add]
theorem shb {c : Nat} (hc : c < 2147483648) : nI c >>> ((8 : Int32) &&& 31) = nI (c / 256) := sh_r (k := 8) (by omega) hc
/-- what the census knows of a function -/
def CT (E F n : Nat) (low : Int) (fn : Nat) (S H G V : Nat → Int32) : Prop :=
  (∀ j, j < 4 → S (fn * 4 + j) = nI (cnt (fun c => SRT E F n low fn c == j) (2 ^ (E + F + 1)))) ∧
  (∀ j, j < 10 → H (fn * 10 + j) = nI (cnt (fun c => HRD E F n low fn c == j) (2 ^ (E + F + 1)))) ∧
  (∀ j, j < 64 → G (fn * 64 + j) = nI (bG (HRD E F n low fn) j (2 ^ (E + F + 1))) ∧ V (fn * 64 + j) = nI (bV (HRD E F n low fn) j (2 ^ (E + F + 1))))
def CZ (fn : Nat) (S H G V : Nat → Int32) : Prop :=
  (∀ j, j < 4 → S (fn * 4 + j) = 0) ∧ (∀ j, j < 10 → H (fn * 10 + j) = 0) ∧ (∀ j, j < 64 → G (fn * 64 + j) = 0 ∧ V (fn * 64 + j) = 0)
def CI (E F n : Nat) (low : Int) (T S H G V : Nat → Int32) : Prop :=
  ∀ fn, fn < 5 → (T fn = 0 → CZ fn S H G V) ∧ (¬ T fn = 0 → CT E F n low fn S H G V)
theorem take_loop {post : Int64 → Int32 → Int32 → Int32 → Int32 → Int32 → Int32 → Int32 → Int32 → Int32 → Int32 → (Nat → Int32) → (Nat → Int32) → (Nat → Int32) → (Nat → Int32) → (Nat → Int32) → Prop} {E F b n fn : Nat} {low : Int} {T S H G V : Nat → Int32} (h : MK E F b n low) (hf : fn < 5)
    (hp : ∀ (v1 : Int64) (v2 v3 v4 v5 v6 v7 v8 v9 v10 v11 : Int32), post v1 v2 v3 v4 v5 v6 v7 v8 v9 v10 v11 T (aS (SRT E F n low fn) (fn * 4) 4 (2 ^ (E + F + 1)) S) (aS (HRD E F n low fn) (fn * 10) 10 (2 ^ (E + F + 1)) H) (aB (fun j => bG (HRD E F n low fn) j (2 ^ (E + F + 1))) (fn * 64) G) (aB (fun j => bV (HRD E F n low fn) j (2 ^ (E + F + 1))) (fn * 64) V)) :
    ∀ (d c : Nat) (v1 : Int64) (v2 v3 v4 v5 v6 v7 v8 v9 v10 v11 : Int32), c + d = 2 ^ (E + F + 1) → wp_X0_take_23 post (nI F) (nI b) (nI (2 ^ (E + F + 1))) (nI (2 ^ (E + F))) (nI n) (nI fn) (d + 1) v1 v2 v3 v4 v5 v6 v7 v8 v9 v10 v11 T (aS (SRT E F n low fn) (fn * 4) 4 c S) (aS (HRD E F n low fn) (fn * 10) 10 c H) (aB (fun j => bG (HRD E F n low fn) j c) (fn * 64) G) (aB (fun j => bV (HRD E F n low fn) j c) (fn * 64) V) (nI c) := by
  obtain ⟨m1, m2, m3, m4, m5, m6⟩ := MK_N h
  intro d
  induction d with
  | zero =>
    intro c v1 v2 v3 v4 v5 v6 v7 v8 v9 v10 v11 hc
    rw [wp_X0_take_23_s]
    unfold wp_X0_take_23_b
    rw [nI_leI (by omega) (by omega)]
    have e : c = 2 ^ (E + F + 1) := by omega
    refine ⟨fun _ => ?_, fun q => absurd (by omega) q⟩
    rw [e]
    exact hp _ _ _ _ _ _ _ _ _ _ _
  | succ d ih =>
    intro c v1 v2 v3 v4 v5 v6 v7 v8 v9 v10 v11 hc
    rw [wp_X0_take_23_s]
    unfold wp_X0_take_23_b
    rw [nI_leI (by omega) (by omega)]
    refine ⟨fun q => by omega, fun _ => X6_rh h hf (by omega) (fun w1 w2 w3 w4 w5 w6 w8 w9 w10 w11 => ?_)⟩
    unfold wp_X6_sortRead
    dsimp only
    have s3 := SRT_le E F n low fn c
    have h9 := HRD_le E F n low fn c
    rw [bse fn 4 _ 4 rfl, bse fn 10 _ 10 rfl, shb (by omega), bse fn 64 _ 64 rfl, nI_1]
    refine X4_addOne (by omega) (by omega) ?_
    rw [aS_step (by omega)]
    refine X4_addOne (by omega) (by omega) ?_
    rw [aS_step (by omega)]
    refine X0_addToBlock (fun c => HRD_le _ _ _ _ _ c) (by omega) (by omega) ?_
    exact ih (c + 1) _ _ _ _ _ _ _ _ _ _ _ (by omega)
theorem X0_take {post : Int64 → Int32 → Int32 → Int32 → Int32 → Int32 → Int32 → Int32 → Int32 → Int32 → Int32 → (Nat → Int32) → (Nat → Int32) → (Nat → Int32) → (Nat → Int32) → (Nat → Int32) → Prop} {E F b n fn : Nat} {low : Int} {T S H G V : Nat → Int32} (h : MK E F b n low) (hf : fn < 5) (hI : CI E F n low T S H G V) {v1 : Int64} {v2 v3 v4 v5 v6 v7 v8 v9 v10 v11 : Int32}
    (hp : ∀ (v1 : Int64) (v2 v3 v4 v5 v6 v7 v8 v9 v10 v11 : Int32) (T S H G V : Nat → Int32), CI E F n low T S H G V → ¬ T fn = 0 → post v1 v2 v3 v4 v5 v6 v7 v8 v9 v10 v11 T S H G V) :
    wp_X0_take post (nI F) (nI b) (nI (2 ^ (E + F + 1))) (nI (2 ^ (E + F))) (nI n) v1 v2 v3 v4 v5 v6 v7 v8 v9 v10 v11 T S H G V (nI fn) := by
  unfold wp_X0_take
  refine X4_at hf (by omega) ⟨fun q => ?_, fun q => hp v1 v2 v3 v4 v5 v6 v7 v8 v9 v10 v11 T S H G V hI q⟩
  refine X4_put hf (by omega) ⟨2 ^ (E + F + 1) + 1, ?_⟩
  obtain ⟨z1, z2, z3⟩ := (hI fn hf).1 q
  have k := take_loop (post := post) (T := upd T fn 1) (S := S) (H := H) (G := G) (V := V) h hf ?_ (2 ^ (E + F + 1)) 0 v1 v2 v3 v4 v5 v6 v7 v8 v9 v10 v11 (by omega)
  · rw [aS_0 z1, aS_0 z2, aB_0 (g := fun j => bG (HRD E F n low fn) j 0) (fun j hj => (z3 j hj).1) (fun _ => rfl), aB_0 (g := fun j => bV (HRD E F n low fn) j 0) (fun j hj => (z3 j hj).2) (fun _ => rfl)] at k
    exact k
  · intro w1 w2 w3 w4 w5 w6 w7 w8 w9 w10 w11
    refine hp w1 w2 w3 w4 w5 w6 w7 w8 w9 w10 w11 _ _ _ _ _ ?_ (by rw [upd_s]; decide)
    intro g hg
    by_cases e : g = fn
    · subst e
      refine ⟨fun w => absurd w (by rw [upd_s]; decide), fun _ => ⟨fun j hj => aS_at hj, fun j hj => aS_at hj, fun j hj => ⟨aB_at hj, aB_at hj⟩⟩⟩
    · rw [upd_n e]
      have o1 : ∀ j, j < 4 → aS (SRT E F n low fn) (fn * 4) 4 (2 ^ (E + F + 1)) S (g * 4 + j) = S (g * 4 + j) := fun j hj => aS_off (by omega)
      have o2 : ∀ j, j < 10 → aS (HRD E F n low fn) (fn * 10) 10 (2 ^ (E + F + 1)) H (g * 10 + j) = H (g * 10 + j) := fun j hj => aS_off (by omega)
      have o3 : ∀ j, j < 64 → aB (fun j => bG (HRD E F n low fn) j (2 ^ (E + F + 1))) (fn * 64) G (g * 64 + j) = G (g * 64 + j) := fun j hj => aB_off (by omega)
      have o4 : ∀ j, j < 64 → aB (fun j => bV (HRD E F n low fn) j (2 ^ (E + F + 1))) (fn * 64) V (g * 64 + j) = V (g * 64 + j) := fun j hj => aB_off (by omega)
      refine ⟨fun w => ?_, fun w => ?_⟩
      · obtain ⟨y1, y2, y3⟩ := (hI g hg).1 w
        exact ⟨fun j hj => (o1 j hj).trans (y1 j hj), fun j hj => (o2 j hj).trans (y2 j hj), fun j hj => ⟨(o3 j hj).trans (y3 j hj).1, (o4 j hj).trans (y3 j hj).2⟩⟩
      · obtain ⟨y1, y2, y3⟩ := (hI g hg).2 w
        exact ⟨fun j hj => (o1 j hj).trans (y1 j hj), fun j hj => (o2 j hj).trans (y2 j hj), fun j hj => ⟨(o3 j hj).trans (y3 j hj).1, (o4 j hj).trans (y3 j hj).2⟩⟩
theorem X0_forget {post : (Nat → Int32) → (Nat → Int32) → (Nat → Int32) → (Nat → Int32) → (Nat → Int32) → Prop} {T S H G V : Nat → Int32} (hp : ∀ T S H G V, (∀ E F n low, CI E F n low T S H G V) → post T S H G V) : wp_X0_forget post T S H G V := by
  unfold wp_X0_forget
  refine J7_fill (by omega) (fun T hT => J7_fill (by omega) (fun S hS => J7_fill (by omega) (fun H hH => J7_fill (by omega) (fun G hG => J7_fill (by omega) (fun V hV => hp T S H G V ?_)))))
  intro E F n low fn hf
  exact ⟨fun _ => ⟨fun j hj => hS _ (by omega), fun j hj => hH _ (by omega), fun j hj => ⟨hG _ (by omega), hV _ (by omega)⟩⟩, fun w => absurd (hT fn hf) w⟩
/-! the greatest -/
def mx (h : Nat → Nat) : Nat → Nat
  | 0 => 0
  | c + 1 => if mx h c < h c then h c else mx h c
theorem mx_le {h : Nat → Nat} : ∀ {m c : Nat}, c < m → h c ≤ mx h m := by
  intro m
  induction m with
  | zero => intro c hc; omega
  | succ m ih =>
    intro c hc
    show _ ≤ (if _ then _ else _)
    by_cases e : c = m
    · subst e; split <;> omega
    · have := ih (show c < m by omega); split <;> omega
theorem mx_at {h : Nat → Nat} : ∀ {m : Nat}, 0 < mx h m → ∃ c, c < m ∧ h c = mx h m := by
  intro m
  induction m with
  | zero => intro hm; exact absurd hm (Nat.lt_irrefl 0)
  | succ m ih =>
    intro hm
    by_cases q : mx h m < h m
    · refine ⟨m, by omega, ?_⟩; show _ = (if _ then _ else _); rw [if_pos q]
    · have e : mx h (m + 1) = mx h m := by show (if _ then _ else _) = _; rw [if_neg q]
      rw [e] at hm ⊢
      obtain ⟨c, h1, h2⟩ := ih hm
      exact ⟨c, by omega, h2⟩
theorem bG_mx (h : Nat → Nat) (j : Nat) : ∀ m, bG h j m ≤ mx h m := by
  intro m
  induction m with
  | zero => exact Nat.le_refl _
  | succ m ih =>
    show (if _ then _ else _) ≤ (if _ then _ else _)
    repeat' split
    all_goals omega
theorem greatest_loop {post : Int32 → Prop} {h : Nat → Nat} {fn m : Nat} {H : Nat → Int32} (hf : fn < 5) (hm : m < 2147483648) (hH : ∀ j, j < 10 → H (fn * 10 + j) = nI (cnt (fun c => h c == j) m)) (hp : post (nI (mx h m))) : ∀ g, g ≤ 9 → mx h m ≤ g → wp_X0_greatestHardness_3 post H (nI fn) (g + 1) (nI g) := by
  intro g
  induction g with
  | zero =>
    intro _ hg
    rw [wp_X0_greatestHardness_3_s]
    refine ⟨fun _ => ?_, fun q => absurd (by decide) q⟩
    rw [show mx h m = 0 by omega] at hp; exact hp
  | succ g ih =>
    intro h9 hg
    rw [wp_X0_greatestHardness_3_s]
    unfold wp_X0_greatestHardness_3_b
    have cb := cnt_le (fun c => h c == g + 1) m
    refine ⟨fun q => absurd q (nI_nle (by omega) (by omega)), fun _ => ?_⟩
    unfold wp_X0_ofHardness
    rw [bse fn 10 _ 10 rfl]
    refine X4_at (by omega) (by omega) ?_
    rw [hH _ (by omega), pk_m1]
    dsimp only
    rw [eqL (y := 0) (b := 0) (by omega) (by omega) rfl]
    refine ⟨fun q => ?_, fun q => ih (by omega) ?_⟩
    · obtain ⟨c, c1, c2, _⟩ := cnt_find (P := fun c => h c == g + 1) (k := 0) m (by omega)
      have := mx_le (h := h) c1
      have c2 : h c = g + 1 := by simpa using c2
      rw [show g + 1 = mx h m by omega]; exact hp
    · by_cases e : mx h m = g + 1
      · obtain ⟨c, c1, c2⟩ := mx_at (h := h) (m := m) (by omega)
        have := cnt_pos (P := fun c => h c == g + 1) c1 (by simp [c2, e])
        omega
      · omega
theorem X0_greatest {post : Int32 → Prop} {h : Nat → Nat} {fn m : Nat} {H : Nat → Int32} (hf : fn < 5) (hm : m < 2147483648) (h9 : ∀ c, h c ≤ 9) (hH : ∀ j, j < 10 → H (fn * 10 + j) = nI (cnt (fun c => h c == j) m)) (hp : post (nI (mx h m))) : wp_X0_greatestHardness post H (nI fn) :=
  ⟨10, greatest_loop hf hm hH hp 9 (by omega) (by
    by_cases q : 0 < mx h m
    · obtain ⟨c, _, c2⟩ := mx_at q
      have := h9 c; omega
    · omega)⟩
