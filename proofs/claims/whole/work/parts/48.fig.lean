theorem par10 {T d : Nat} (hd : d ≤ 9) : T % 1024 / 2 ^ d % 2 = T / 2 ^ d % 2 := by
  rcases (show d = 0 ∨ d = 1 ∨ d = 2 ∨ d = 3 ∨ d = 4 ∨ d = 5 ∨ d = 6 ∨ d = 7 ∨ d = 8 ∨ d = 9 by omega) with rfl | rfl | rfl | rfl | rfl | rfl | rfl | rfl | rfl | rfl <;> simp only [Nat.reducePow] <;> omega
theorem half {T d : Nat} : T / 2 ^ (d + 1) = T / 2 ^ d / 2 := by rw [Nat.pow_succ, Nat.div_div_eq_div_mul]
theorem fig_loop {post : Int32 → Int32 → Int32 → Int64 → Prop} {F m : Nat} {low x : Int} {g aX : Int32} {aM : Int64} {o : Bool} (hF : F ≤ 8) (hl1 : -100 ≤ low) (hl2 : low ≤ 100) (hcd : cod F low m x < 1073741824) (hex : ex F (cod F low m x) ≤ 40) (hm : 0 < m) (hLK : LK g aX aM m x o) (h : post (nI (wy F low m x)) g aX aM) :
    ∀ d : Nat, d ≤ 10 → wp_X8_figuresOf_56 post (nI F) (iI low) (d + 1) g aX aM (nI (cod F low m x)) (lN (tt F low m x / 2 ^ d)) (nI (tt F low m x % 1024 / 2 ^ d)) (nI (11 - d)) := by
  intro d
  have hT := tt_lt F low m x
  have hT2 : tt F low m x < 524288 := Nat.lt_of_lt_of_le hT (Nat.pow_le_pow_right (n := 2) (by omega) (show F + 11 ≤ 19 by omega))
  induction d with
  | zero =>
    intro _
    rw [wp_X8_figuresOf_56_s]
    refine ⟨fun _ => ?_, fun q => absurd (by decide) q⟩
    rw [Nat.pow_zero, Nat.div_one]
    exact h
  | succ d ih =>
    intro hd
    have ih := ih (by omega)
    rw [wp_X8_figuresOf_56_s]
    unfold wp_X8_figuresOf_56_b
    have e10 : (10 : Int32) < nI (11 - (d + 1)) ↔ 10 < 11 - (d + 1) := nI_ltI (a := 10) (by omega) (by omega)
    rw [e10]
    refine ⟨fun q => by omega, fun _ => X8_power hF hcd ?_⟩
    have hA := fig_all (F := F) (low := low) (x := x) (M := 2 * (tt F low m x / 2 ^ (d + 1)) + 1) (k := 11 - (d + 1)) hm (by omega)
    rw [show 10 - (11 - (d + 1)) = d by omega] at hA
    have hp := p2p d
    have hM : 2 * (tt F low m x / 2 ^ (d + 1)) + 1 < 524288 := by
      have := Nat.div_le_self (tt F low m x) (2 ^ d)
      rw [half]; omega
    have hpar := par10 (T := tt F low m x) (d := d) (by omega)
    have hA2 : dle (2 * (tt F low m x / 2 ^ (d + 1)) + 1) (low + ex F (cod F low m x) - (11 - (d + 1) : Nat)) m x ↔ 2 * (tt F low m x / 2 ^ (d + 1)) + 1 ≤ tt F low m x / 2 ^ d := by
      rw [hA, Nat.le_div_iff_mul_le hp]
    have e1 : (2 : Int64) * lN (tt F low m x / 2 ^ (d + 1)) + (1 : Int64) = lN (2 * (tt F low m x / 2 ^ (d + 1)) + 1) := by
      rw [show (2 : Int64) = lN 2 from rfl, show (1 : Int64) = lN 1 from rfl, lN_mul, lN_add]
    rw [e1, iI_N (11 - (d + 1)), iI_sub]
    have e7 : iI ((11 - (d + 1) : Nat) : Int) + (1 : Int32) = nI (11 - d) := by
      rw [← iI_N, show (1 : Int32) = nI 1 from rfl, nI_add]; congr 1; omega
    have e6 : (2 : Int32) * nI (tt F low m x % 1024 / 2 ^ (d + 1)) = nI (2 * (tt F low m x % 1024 / 2 ^ (d + 1))) := by
      rw [show (2 : Int32) = nI 2 from rfl, pk_mul]
    have K1 : 2 * (tt F low m x / 2 ^ (d + 1)) + 1 ≤ tt F low m x / 2 ^ d → wp_X8_figuresOf_95 post (wp_X8_figuresOf_56 post (nI F) (iI low) (d + 1)) g aX aM (nI (cod F low m x)) (lN (2 * (tt F low m x / 2 ^ (d + 1)) + 1)) (nI (tt F low m x % 1024 / 2 ^ (d + 1))) (iI ((11 - (d + 1) : Nat) : Int)) (1 : Int32) := by
      intro q
      unfold wp_X8_figuresOf_95
      refine ⟨fun z => absurd z (by decide), fun _ => ?_⟩
      unfold wp_X8_figuresOf_109
      refine ⟨fun z => absurd z (by decide), fun _ => ?_⟩
      unfold wp_X8_figuresOf_126
      rw [e7, e6, show (0 : Int64) = lN 0 from rfl, lN_sub (by omega), show (1 : Int32) = nI 1 from rfl, nI_add]
      rw [half] at q ⊢
      rw [half]
      rw [show 2 * (tt F low m x / 2 ^ d / 2) + 1 - 0 = tt F low m x / 2 ^ d by omega, show 2 * (tt F low m x % 1024 / 2 ^ d / 2) + 1 = tt F low m x % 1024 / 2 ^ d by omega]
      exact ih
    have K0 : ¬ 2 * (tt F low m x / 2 ^ (d + 1)) + 1 ≤ tt F low m x / 2 ^ d → wp_X8_figuresOf_95 post (wp_X8_figuresOf_56 post (nI F) (iI low) (d + 1)) g aX aM (nI (cod F low m x)) (lN (2 * (tt F low m x / 2 ^ (d + 1)) + 1)) (nI (tt F low m x % 1024 / 2 ^ (d + 1))) (iI ((11 - (d + 1) : Nat) : Int)) (0 : Int32) := by
      intro q
      unfold wp_X8_figuresOf_95
      refine ⟨fun _ => ?_, fun z => absurd rfl z⟩
      unfold wp_X8_figuresOf_109
      refine ⟨fun _ => ?_, fun z => absurd rfl z⟩
      unfold wp_X8_figuresOf_126
      rw [e7, e6, show (1 : Int64) = lN 1 from rfl, lN_sub (by omega), show (0 : Int32) = nI 0 from rfl, nI_add]
      rw [half] at q ⊢
      rw [half]
      rw [show 2 * (tt F low m x / 2 ^ d / 2) + 1 - 1 = tt F low m x / 2 ^ d by omega, show 2 * (tt F low m x % 1024 / 2 ^ d / 2) + 0 = tt F low m x % 1024 / 2 ^ d by omega]
      exact ih
    refine hLK _ _ _ hM (by omega) (by omega) (fun w => ?_) (fun w _ => ?_) (fun w _ => ?_)
    · rw [hA2] at w
      exact ⟨fun _ => K0 w, fun z => absurd (by decide) z⟩
    · rw [hA2] at w
      exact ⟨fun z => absurd z (by decide), fun _ => K1 w⟩
    · rw [hA2] at w
      exact ⟨fun z => absurd z (by decide), fun _ => K1 w⟩
def FIG (E F n : Nat) (low : Int) (fn c : Nat) : Int := if isL (2 ^ (E + F)) n fn c then fgr n (aQ F low fn (c % 2 ^ (E + F))) (aY F n low fn (c % 2 ^ (E + F))) (aW F low fn (c % 2 ^ (E + F))) (aV F n low fn (c % 2 ^ (E + F))) else -9
theorem FIG_b (E F n : Nat) (low : Int) (fn c : Nat) : -9 ≤ FIG E F n low fn c ∧ FIG E F n low fn c < 1024 := by
  unfold FIG
  split
  · exact fgr_b (aW_lt _ _ _ _)
  · omega
section RG
variable {E F b n fn c : Nat} {low : Int} {s1 s2 : Int32} {s3 : Int64}
theorem X8_figuresOf {post : Int32 → Int32 → Int32 → Int64 → Prop} (h : MK E F b n low) (hf : fn < 5) (hc : c < 2 ^ (E + F + 1)) (hp : ∀ (a b' : Int32) (c' : Int64), post (iI (FIG E F n low fn c)) a b' c') : wp_X8_figuresOf post (nI F) (nI (n - 1)) (nI (2 ^ (E + F))) (iI low) s1 s2 s3 (nI fn) (nI c) := by
  have h0 := h
  obtain ⟨hE, hF, hb, hl, hn1, hn, hev, hns⟩ := h
  have hb14 : 2 ^ (E + F + 1) ≤ 2 ^ 14 := Nat.pow_le_pow_right (by omega) (by omega)
  unfold wp_X8_figuresOf
  refine X8_plainly (by omega) hn1 hn hf hc (fun q => ⟨fun _ => ?_, fun w => absurd (by decide) w⟩) (fun q => ⟨fun w => absurd w (nI_nlt0 (by have := stl_b (k := E + F) (fn := fn) (c := c) (by omega) hn; omega)), fun _ => ?_⟩)
  · obtain ⟨lk, m0⟩ := LK_at h0 hf q
    unfold FIG at hp
    rw [if_pos q] at hp
    unfold fgr at hp
    have hV := aV_le (F := F) (low := low) (fn := fn) (s := c % 2 ^ (E + F)) hn
    refine X8_sets (by omega) hF (by omega) (X8_floor hF (by omega) (by omega) hn1 hn (MK_ex h0) m0 lk ?_)
    have eV : (if n ≤ cod F low (aM F low fn (c % 2 ^ (E + F))) (aX F low fn (c % 2 ^ (E + F))) then n - 1 else cod F low (aM F low fn (c % 2 ^ (E + F))) (aX F low fn (c % 2 ^ (E + F)))) = aV F n low fn (c % 2 ^ (E + F)) := rfl
    rw [eV, nI_eq (by omega) (by omega)]
    refine ⟨fun w => ?_, fun w => ?_⟩
    · rw [if_pos (Or.inr w)] at hp
      exact hp _ _ _
    · rw [← eV]
      refine X8_isFloat hF (by omega) (by omega) hn1 hn (MK_ex h0) m0 lk ⟨fun z => ?_, fun z => ?_⟩
      · have z := (bI_0 _).mp z
        have z : ¬ srt (aQ F low fn (c % 2 ^ (E + F))) (aY F n low fn (c % 2 ^ (E + F))) (aW F low fn (c % 2 ^ (E + F))) = 1 := of_decide_eq_false z
        rw [if_neg (by omega), ← iI_N] at hp
        have hcv : ¬ n ≤ cod F low (aM F low fn (c % 2 ^ (E + F))) (aX F low fn (c % 2 ^ (E + F))) := by
          intro u
          rw [if_pos u] at eV
          omega
        rw [if_neg hcv] at eV ⊢
        refine X8_figure hF (by omega) ?_
        rw [fg_cod m0]
        have hT := tt_lt F low (aM F low fn (c % 2 ^ (E + F))) (aX F low fn (c % 2 ^ (E + F)))
        have hT2 : tt F low (aM F low fn (c % 2 ^ (E + F))) (aX F low fn (c % 2 ^ (E + F))) < 524288 := Nat.lt_of_lt_of_le hT (Nat.pow_le_pow_right (n := 2) (by omega) (show F + 11 ≤ 19 by omega))
        rw [nI_l (by omega)]
        refine ⟨10 + 1, ?_⟩
        have := fig_loop (post := post) (o := aO F low fn (c % 2 ^ (E + F))) hF (by omega) (by omega) (by omega) (MK_ex h0 _ (by omega)) m0 lk (hp _ _ _) 10 (Nat.le_refl _)
        rw [show tt F low (aM F low fn (c % 2 ^ (E + F))) (aX F low fn (c % 2 ^ (E + F))) % 1024 / 2 ^ 10 = 0 by omega] at this
        exact this
      · have z2 : srt (aQ F low fn (c % 2 ^ (E + F))) (aY F n low fn (c % 2 ^ (E + F))) (aW F low fn (c % 2 ^ (E + F))) = 1 := by
          by_cases u : srt (aQ F low fn (c % 2 ^ (E + F))) (aY F n low fn (c % 2 ^ (E + F))) (aW F low fn (c % 2 ^ (E + F))) = 1
          · exact u
          · have u2 : ¬ srt (aO F low fn (c % 2 ^ (E + F)) || los F low (aM F low fn (c % 2 ^ (E + F))) (aX F low fn (c % 2 ^ (E + F)))) (decide (n ≤ cod F low (aM F low fn (c % 2 ^ (E + F))) (aX F low fn (c % 2 ^ (E + F))))) (wy F low (aM F low fn (c % 2 ^ (E + F))) (aX F low fn (c % 2 ^ (E + F)))) = 1 := u
            rw [decide_eq_false u2] at z
            exact absurd rfl z
        rw [if_pos (Or.inl z2)] at hp
        exact hp _ _ _
  · unfold FIG at hp
    rw [if_neg q] at hp
    exact hp _ _ _
theorem hard_loop8 {post : Int32 → Int32 → Int32 → Int64 → Prop} {t : Nat} (ht : t < 1024) : ∀ (j a : Nat), a + j = 9 → (∀ (u v : Int32) (w : Int64), post (nI (a + hl t (t / 256 % 2) j)) u v w) → wp_X8_hardOf_16 post (j + 1) s1 s2 s3 (nI t) (nI a) := by
  intro j
  induction j with
  | zero =>
    intro a hj h
    rw [wp_X8_hardOf_16_s]
    have : a = 9 := by omega
    subst this
    exact ⟨fun _ => h _ _ _, fun q => absurd (by decide) q⟩
  | succ j ih =>
    intro a hj h
    rw [wp_X8_hardOf_16_s]
    unfold wp_X8_hardOf_16_b
    have hd : t / 2 ^ j < 1024 := Nat.lt_of_le_of_lt (Nat.div_le_self _ _) ht
    have e9 : (9 : Int32) ≤ nI a ↔ 9 ≤ a := nI_leI (a := 9) (by omega) (by omega)
    have e8 : (8 : Int32) - nI a = nI j := by
      rw [show (8 : Int32) = nI 8 from rfl, pk_sub (by omega)]; congr 1; omega
    have e5 : nI t >>> ((8 : Int32) &&& 31) &&& (1 : Int32) = nI (t / 256 % 2) := by
      rw [show (8 : Int32) = nI 8 from rfl, sh_r (by omega) (by omega), an_1 (by omega)]
    rw [e9, e5, e8, sh_r (by omega) (by omega), an_1 (by omega), nI_eq (by omega) (by omega), show (1 : Int32) = nI 1 from rfl, nI_add]
    unfold hl at h
    refine ⟨fun q => by omega, fun _ => ⟨fun q => ?_, fun q => ?_⟩⟩
    · rw [if_neg q] at h; exact h _ _ _
    · rw [if_pos q] at h
      exact ih (a + 1) (by omega) (by rw [show a + 1 + hl t (t / 256 % 2) j = a + (1 + hl t (t / 256 % 2) j) by omega]; exact h)
theorem X8_hardOf {post : Int32 → Int32 → Int32 → Int64 → Prop} (h : MK E F b n low) (hf : fn < 5) (hc : c < 2 ^ (E + F + 1)) (hp : ∀ (a b' : Int32) (c' : Int64), post (nI (hdI (FIG E F n low fn c))) a b' c') : wp_X8_hardOf post (nI F) (nI (n - 1)) (nI (2 ^ (E + F))) (iI low) s1 s2 s3 (nI fn) (nI c) := by
  unfold wp_X8_hardOf
  refine X8_figuresOf h hf hc (fun a b' c' => ?_)
  have hb := FIG_b E F n low fn c
  generalize FIG E F n low fn c = z at *
  rw [iI_0le ⟨by omega, by omega⟩]
  unfold hdI at hp
  refine ⟨fun q => ?_, fun q => ?_⟩
  · rw [if_neg (by omega)] at hp
    rw [show iI z = nI z.toNat from by rw [iI_N]; congr 1; omega]
    refine ⟨8 + 1, ?_⟩
    rw [show (1 : Int32) = nI 1 from rfl]
    refine hard_loop8 (by omega) 8 1 (by omega) ?_
    have e : hd z.toNat = 1 + hl z.toNat (z.toNat / 256 % 2) 8 := by
      show (if z.toNat / 2 ^ 8 % 2 = z.toNat / 256 % 2 then 1 + hl z.toNat (z.toNat / 256 % 2) 8 else 0) = _
      rw [if_pos rfl]
    rw [← e]
    exact hp
  · rw [if_pos (by omega)] at hp
    exact hp _ _ _
end RG
