/-! the i-th of the hardest -/
def HR (P : Nat → Bool) (m : Nat) (p r : Int32) : Prop := (r = -9 ∧ (p < 0 ∨ ∃ i, i < 2147483648 ∧ p = nI i ∧ cnt P m ≤ i)) ∨ ∃ i c, i < 2147483648 ∧ p = nI i ∧ r = nI c ∧ c < m ∧ P c = true ∧ cnt P c = i
theorem cnt_lt {P : Nat → Bool} {c m : Nat} (h : c < m) (hP : P c = true) : cnt P c < cnt P m := by
  have h1 : cnt P (c + 1) ≤ cnt P m := cnt_mono P (by omega)
  have h2 : cnt P (c + 1) = cnt P c + 1 := by show cnt P c + _ = _; rw [hP]; simp
  omega
theorem HR_uniq {P : Nat → Bool} {m : Nat} {p r r' : Int32} (h1 : HR P m p r) (h2 : HR P m p r') : r = r' := by
  rcases h1 with ⟨e, a⟩ | ⟨i, c, hi, hp, hr, hc, hP, hk⟩
  · rcases h2 with ⟨e', _⟩ | ⟨i, c, hi, hp, hr, hc, hP, hk⟩
    · rw [e, e']
    · have := cnt_lt hc hP
      rcases a with a | ⟨i', h1, h2, h3⟩
      · rw [hp] at a; exact absurd a (nI_nlt0 hi)
      · rw [hp] at h2; have := (nI_eq (by omega) (by omega)).mp h2; omega
  · rcases h2 with ⟨e', a⟩ | ⟨i', c', hi', hp', hr', hc', hP', hk'⟩
    · have := cnt_lt hc hP
      rcases a with a | ⟨i', h1, h2, h3⟩
      · rw [hp] at a; exact absurd a (nI_nlt0 hi)
      · rw [hp] at h2; have := (nI_eq (by omega) (by omega)).mp h2; omega
    · rw [hp] at hp'
      have := (nI_eq (by omega) (by omega)).mp hp'
      rw [hr, hr', cnt_uniq hP hP' (by omega)]
theorem hc_75 {post : Int32 → Int64 → Int32 → Int32 → Int32 → Int32 → Int32 → Int32 → Int32 → Int32 → Int32 → Int32 → Prop} {E F b n fn g i : Nat} {low : Int} (h : MK E F b n low) (hf : fn < 5) (hg : g ≤ 9) (hi : i < cnt (fun c => HRD E F n low fn c == g) (2 ^ (E + F + 1)))
    (hp : ∀ (c : Nat) (v1 : Int64) (v2 v3 v4 v5 v6 v7 v8 v9 v10 v11 : Int32), c < 2 ^ (E + F + 1) → HRD E F n low fn c = g → cnt (fun c => HRD E F n low fn c == g) c = i → post (nI c) v1 v2 v3 v4 v5 v6 v7 v8 v9 v10 v11) :
    ∀ (d c : Nat) (v1 : Int64) (v2 v3 v4 v5 v6 v7 v8 v9 v10 v11 : Int32), c + d = 2 ^ (E + F + 1) → cnt (fun c => HRD E F n low fn c == g) c ≤ i → wp_X0_hardestCode_75 post (nI F) (nI b) (nI (2 ^ (E + F + 1))) (nI (2 ^ (E + F))) (nI n) (nI fn) (d + 1) v1 v2 v3 v4 v5 v6 v7 v8 v9 v10 v11 (nI g) (nI (i - cnt (fun c => HRD E F n low fn c == g) c)) (nI c) := by
  obtain ⟨m1, m2, m3, m4, m5, m6⟩ := MK_N h
  have cb := cnt_le (fun c => HRD E F n low fn c == g) (2 ^ (E + F + 1))
  intro d
  induction d with
  | zero =>
    intro c v1 v2 v3 v4 v5 v6 v7 v8 v9 v10 v11 hc hk
    have e : c = 2 ^ (E + F + 1) := by omega
    rw [e] at hk
    omega
  | succ d ih =>
    intro c v1 v2 v3 v4 v5 v6 v7 v8 v9 v10 v11 hc hk
    have h9 := HRD_le E F n low fn c
    rw [wp_X0_hardestCode_75_s]
    unfold wp_X0_hardestCode_75_b
    rw [nI_leI (by omega) (by omega)]
    refine ⟨fun q => by omega, fun _ => X6_rh h hf (by omega) (fun w1 w2 w3 w4 w5 w6 w8 w9 w10 w11 => ?_)⟩
    try dsimp only
    rw [nI_eq (by omega) (by omega)]
    unfold wp_X0_hardestCode_115
    have e1 : cnt (fun c => HRD E F n low fn c == g) (c + 1) = cnt (fun c => HRD E F n low fn c == g) c + (if (HRD E F n low fn c == g) = true then 1 else 0) := rfl
    refine ⟨fun q => ?_, fun q => ?_⟩
    · rw [show ∀ x : Int32, x - 0 = x from fun x => by simp, nI_1]
      refine ⟨fun _ => ?_, fun w => absurd (nI_pos' (by omega)) w⟩
      rw [if_neg (by simpa using q)] at e1
      have k := ih (c + 1) w1 w2 w3 w4 w5 w6 (nI (SRT E F n low fn c)) w8 w9 w10 w11 (by omega) (by omega)
      rw [e1] at k
      exact k
    · rw [if_pos (by simpa using q)] at e1
      by_cases z : i - cnt (fun c => HRD E F n low fn c == g) c = 0
      · rw [z]
        exact ⟨fun w => absurd w (by decide), fun _ => hp c _ _ _ _ _ _ _ _ _ _ _ (by omega) q (by omega)⟩
      · rw [show i - cnt (fun c => HRD E F n low fn c == g) c = (i - cnt (fun c => HRD E F n low fn c == g) c - 1) + 1 by omega, nI_pred, nI_1]
        refine ⟨fun _ => ?_, fun w => absurd (nI_pos' (by omega)) w⟩
        have k := ih (c + 1) w1 w2 w3 w4 w5 w6 (nI (SRT E F n low fn c)) w8 w9 w10 w11 (by omega) (by omega)
        rw [e1, Nat.sub_add_eq] at k
        exact k
theorem blkc (P : Nat → Bool) (j : Nat) : ∀ m, cnt (fun c => decide (c / 256 = j) && P c) m + cnt P (min (j * 256) m) = cnt P (min ((j + 1) * 256) m) := by
  intro m
  induction m with
  | zero => show 0 + cnt P (min _ 0) = _; rw [Nat.min_zero, Nat.min_zero]; rfl
  | succ m ih =>
    show cnt (fun c => decide (c / 256 = j) && P c) m + (if (decide (m / 256 = j) && P m) = true then 1 else 0) + _ = _
    have ep : cnt P (m + 1) = cnt P m + (if P m = true then 1 else 0) := rfl
    by_cases q : m < j * 256
    · rw [show min (j * 256) m = m by omega, show min ((j + 1) * 256) m = m by omega] at ih
      rw [show min (j * 256) (m + 1) = m + 1 by omega, show min ((j + 1) * 256) (m + 1) = m + 1 by omega]
      have : decide (m / 256 = j) = false := by simp; omega
      rw [this]; simp; omega
    · by_cases q2 : m < (j + 1) * 256
      · rw [show min (j * 256) m = j * 256 by omega, show min ((j + 1) * 256) m = m by omega] at ih
        rw [show min (j * 256) (m + 1) = j * 256 by omega, show min ((j + 1) * 256) (m + 1) = m + 1 by omega, ep]
        have : decide (m / 256 = j) = true := by simp; omega
        rw [this]; simp only [Bool.true_and]; omega
      · rw [show min (j * 256) m = j * 256 by omega, show min ((j + 1) * 256) m = (j + 1) * 256 by omega] at ih
        rw [show min (j * 256) (m + 1) = j * 256 by omega, show min ((j + 1) * 256) (m + 1) = (j + 1) * 256 by omega]
        have : decide (m / 256 = j) = false := by simp; omega
        rw [this]; simp; omega
theorem blk_val (h : Nat → Nat) (j m : Nat) : (if bG h j m = mx h m then bV h j m else 0) = cnt (fun c => decide (c / 256 = j) && (h c == mx h m)) m := by
  obtain ⟨b1, b2⟩ := bV_cnt (h := h) j m
  have b3 := bG_mx h j m
  by_cases q : bG h j m = mx h m
  · rw [if_pos q, b1, q]
  · rw [if_neg q, cnt_zero]
    intro i hi
    by_cases p : i / 256 = j
    · have := b2 i hi p
      have : ¬ h i = mx h m := by omega
      simp [this]
    · simp [p]
theorem X0_inBlock {post : Int32 → Prop} {h : Nat → Nat} {fn j m : Nat} {G V : Nat → Int32} (hf : fn < 5) (hj : j < 64) (hm : m < 2147483648) (h9 : ∀ c, h c ≤ 9) (hx : mx h m ≤ 9) (hG : ∀ j, j < 64 → G (fn * 64 + j) = nI (bG h j m) ∧ V (fn * 64 + j) = nI (bV h j m)) (hp : post (nI (cnt (fun c => decide (c / 256 = j) && (h c == mx h m)) m))) : wp_X0_inBlock post G V (nI fn) (nI j) (nI (mx h m)) := by
  unfold wp_X0_inBlock
  rw [bse fn 64 _ 64 rfl]
  refine X4_at (by omega) (by omega) ?_
  have b9 := bG_le h9 j m
  have e := blk_val h j m
  rw [(hG j hj).1]
  try dsimp only
  rw [nI_eq (by omega) (by omega)]
  refine ⟨fun q => ?_, fun q => X4_at (by omega) (by omega) ?_⟩
  · rw [if_neg q] at e; rw [← e] at hp; exact hp
  · rw [if_pos q] at e; rw [← e] at hp; rw [(hG j hj).2]; exact hp
theorem mx_9 {h : Nat → Nat} (h9 : ∀ c, h c ≤ 9) (m : Nat) : mx h m ≤ 9 := by
  by_cases q : 0 < mx h m
  · obtain ⟨c, _, c2⟩ := mx_at q
    have := h9 c; omega
  · omega
theorem hc_29 {post : Int32 → Int64 → Int32 → Int32 → Int32 → Int32 → Int32 → Int32 → Int32 → Int32 → Int32 → Int32 → Prop} {E F b n fn i : Nat} {low : Int} {G V : Nat → Int32} (h : MK E F b n low) (hf : fn < 5) (hi : i < cnt (fun c => HRD E F n low fn c == mx (HRD E F n low fn) (2 ^ (E + F + 1))) (2 ^ (E + F + 1)))
    (hG : ∀ j, j < 64 → G (fn * 64 + j) = nI (bG (HRD E F n low fn) j (2 ^ (E + F + 1))) ∧ V (fn * 64 + j) = nI (bV (HRD E F n low fn) j (2 ^ (E + F + 1))))
    (hp : ∀ (c : Nat) (v1 : Int64) (v2 v3 v4 v5 v6 v7 v8 v9 v10 v11 : Int32), c < 2 ^ (E + F + 1) → HRD E F n low fn c = mx (HRD E F n low fn) (2 ^ (E + F + 1)) → cnt (fun c => HRD E F n low fn c == mx (HRD E F n low fn) (2 ^ (E + F + 1))) c = i → post (nI c) v1 v2 v3 v4 v5 v6 v7 v8 v9 v10 v11) :
    ∀ (d j : Nat) (v1 : Int64) (v2 v3 v4 v5 v6 v7 v8 v9 v10 v11 : Int32), j + d = 64 → cnt (fun c => HRD E F n low fn c == mx (HRD E F n low fn) (2 ^ (E + F + 1))) (min (j * 256) (2 ^ (E + F + 1))) ≤ i → wp_X0_hardestCode_29 post (nI F) (nI b) (nI (2 ^ (E + F + 1))) (nI (2 ^ (E + F))) (nI n) G V (nI fn) (d + 1) v1 v2 v3 v4 v5 v6 v7 v8 v9 v10 v11 (nI (mx (HRD E F n low fn) (2 ^ (E + F + 1)))) (nI (i - cnt (fun c => HRD E F n low fn c == mx (HRD E F n low fn) (2 ^ (E + F + 1))) (min (j * 256) (2 ^ (E + F + 1))))) (nI j) := by
  obtain ⟨m1, m2, m3, m4, m5, m6⟩ := MK_N h
  have h9 := HRD_le E F n low fn
  have x9 := mx_9 h9 (2 ^ (E + F + 1))
  intro d
  induction d with
  | zero =>
    intro j v1 v2 v3 v4 v5 v6 v7 v8 v9 v10 v11 hj hk
    rw [show min (j * 256) (2 ^ (E + F + 1)) = 2 ^ (E + F + 1) by omega] at hk
    omega
  | succ d ih =>
    intro j v1 v2 v3 v4 v5 v6 v7 v8 v9 v10 v11 hj hk
    have bc := blkc (fun c => HRD E F n low fn c == mx (HRD E F n low fn) (2 ^ (E + F + 1))) j (2 ^ (E + F + 1))
    have cb := cnt_le (fun c => decide (c / 256 = j) && (HRD E F n low fn c == mx (HRD E F n low fn) (2 ^ (E + F + 1)))) (2 ^ (E + F + 1))
    have cb2 := cnt_le (fun c => HRD E F n low fn c == mx (HRD E F n low fn) (2 ^ (E + F + 1))) (2 ^ (E + F + 1))
    rw [wp_X0_hardestCode_29_s]
    unfold wp_X0_hardestCode_29_b
    rw [show (64 : Int32) = nI 64 from rfl, nI_leI (by omega) (by omega)]
    refine ⟨fun q => by omega, fun _ => X0_inBlock hf (by omega) (by omega) h9 x9 hG ?_⟩
    try dsimp only
    rw [nI_ltI (by omega) (by omega)]
    refine ⟨fun q => ?_, fun q => X0_inBlock hf (by omega) (by omega) h9 x9 hG ?_⟩
    · have hlt : j * 256 < 2 ^ (E + F + 1) := by
        by_cases z : j * 256 < 2 ^ (E + F + 1)
        · exact z
        · rw [show min (j * 256) (2 ^ (E + F + 1)) = 2 ^ (E + F + 1) by omega] at hk; omega
      rw [show min (j * 256) (2 ^ (E + F + 1)) = j * 256 by omega] at hk ⊢
      unfold wp_X0_hardestCode_68
      rw [show nI j <<< ((8 : Int32) &&& 31) = nI (j * 256) from sh_l (k := 8) (by omega) (by omega)]
      exact ⟨2 ^ (E + F + 1) - j * 256 + 1, hc_75 h hf x9 hi hp (2 ^ (E + F + 1) - j * 256) (j * 256) v1 v2 v3 v4 v5 v6 v7 v8 v9 v10 v11 (by omega) hk⟩
    · rw [pk_sub (by omega), nI_1]
      have e1 : cnt (fun c => HRD E F n low fn c == mx (HRD E F n low fn) (2 ^ (E + F + 1))) (min ((j + 1) * 256) (2 ^ (E + F + 1))) ≤ i := by rw [← bc]; omega
      have e2 : i - cnt (fun c => HRD E F n low fn c == mx (HRD E F n low fn) (2 ^ (E + F + 1))) (min (j * 256) (2 ^ (E + F + 1))) - cnt (fun c => decide (c / 256 = j) && (HRD E F n low fn c == mx (HRD E F n low fn) (2 ^ (E + F + 1)))) (2 ^ (E + F + 1)) = i - cnt (fun c => HRD E F n low fn c == mx (HRD E F n low fn) (2 ^ (E + F + 1))) (min ((j + 1) * 256) (2 ^ (E + F + 1))) := by rw [← bc]; omega
      rw [e2]
      exact ih (j + 1) v1 v2 v3 v4 v5 v6 v7 v8 v9 v10 v11 (by omega) e1
theorem X0_hardestCode {post : Int32 → Int64 → Int32 → Int32 → Int32 → Int32 → Int32 → Int32 → Int32 → Int32 → Int32 → Int32 → Prop} {E F b n fn : Nat} {low : Int} {S H G V : Nat → Int32} {p : Int32} (h : MK E F b n low) (hf : fn < 5) (hC : CT E F n low fn S H G V) {v1 : Int64} {v2 v3 v4 v5 v6 v7 v8 v9 v10 v11 : Int32}
    (hp : ∀ (r : Int32) (v1 : Int64) (v2 v3 v4 v5 v6 v7 v8 v9 v10 v11 : Int32), HR (fun c => HRD E F n low fn c == mx (HRD E F n low fn) (2 ^ (E + F + 1))) (2 ^ (E + F + 1)) p r → post r v1 v2 v3 v4 v5 v6 v7 v8 v9 v10 v11) :
    wp_X0_hardestCode post (nI F) (nI b) (nI (2 ^ (E + F + 1))) (nI (2 ^ (E + F))) (nI n) v1 v2 v3 v4 v5 v6 v7 v8 v9 v10 v11 H G V (nI fn) p := by
  obtain ⟨m1, m2, m3, m4, m5, m6⟩ := MK_N h
  obtain ⟨c1, c2, c3⟩ := hC
  have h9 := HRD_le E F n low fn
  have x9 := mx_9 h9 (2 ^ (E + F + 1))
  have cb := cnt_le (fun c => HRD E F n low fn c == mx (HRD E F n low fn) (2 ^ (E + F + 1))) (2 ^ (E + F + 1))
  unfold wp_X0_hardestCode
  refine X0_greatest hf (by omega) h9 c2 ⟨fun q => hp _ _ _ _ _ _ _ _ _ _ _ _ (Or.inl ⟨rfl, Or.inl q⟩), fun q => ?_⟩
  obtain ⟨i, hi, e⟩ := nI_of q
  unfold wp_X0_ofHardness
  rw [bse fn 10 _ 10 rfl]
  refine X4_at (by omega) (by omega) ?_
  rw [c2 _ (by omega), e]
  try dsimp only
  rw [nI_ltI (by omega) (by omega)]
  refine ⟨fun w => ?_, fun w => hp _ _ _ _ _ _ _ _ _ _ _ _ (Or.inl ⟨rfl, Or.inr ⟨i, by omega, e, by omega⟩⟩)⟩
  refine ⟨65, ?_⟩
  have k := hc_29 (post := post) h hf w c3 (fun c w1 w2 w3 w4 w5 w6 w7 w8 w9 w10 w11 a1 a2 a3 => hp (nI c) w1 w2 w3 w4 w5 w6 w7 w8 w9 w10 w11 (Or.inr ⟨i, c, by omega, e, rfl, a1, by simpa using a2, a3⟩)) 64 0 v1 v2 v3 v4 v5 v6 v7 v8 v9 v10 v11 (by omega) (by rw [show min (0 * 256) (2 ^ (E + F + 1)) = 0 by omega]; exact Nat.zero_le _)
  rw [show min (0 * 256) (2 ^ (E + F + 1)) = 0 by omega] at k
  exact k
