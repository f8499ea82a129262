/-! ===== about, next, between, round ===== -/
def tzf : Nat → Nat → Nat
  | 0, _ => 0
  | k + 1, m => if m % 2 = 0 then tzf k (m / 2) + 1 else 0
theorem tz_bits : ∀ m, m < 512 → 0 < m → (nI m ^^^ (-1)) &&& (nI m - 1) = nI (2 ^ tzf 9 m - 1) ∧ tzf 9 m < 9 := by decide +kernel
theorem tz_le : ∀ {m : Nat}, m < 512 → 0 < m → 2 ^ tzf 9 m ≤ m := by
  have k : ∀ m, m < 512 → 0 < m → 2 ^ tzf 9 m ≤ m := by decide +kernel
  intro m h1 h2; exact k m h1 h2
theorem J6_ntz {post : Int32 → Prop} {m : Nat} (h0 : 0 < m) (h : m < 512) (hp : post (nI (tzf 9 m))) : wp_J6_numberOfTrailingZeros_0f7a4 post (nI m) := by
  obtain ⟨e, ht⟩ := tz_bits m h h0
  unfold wp_J6_numberOfTrailingZeros_0f7a4 wp_J6_numberOfTrailingZeros_0f7a4_34 wp_J6_numberOfTrailingZeros_0f7a4_49 wp_J6_numberOfTrailingZeros_0f7a4_62 wp_J6_numberOfTrailingZeros_0f7a4_74
  rw [e]
  revert hp ht
  generalize tzf 9 m = t
  intro hp ht
  have : t = 0 ∨ t = 1 ∨ t = 2 ∨ t = 3 ∨ t = 4 ∨ t = 5 ∨ t = 6 ∨ t = 7 ∨ t = 8 := by omega
  rcases this with q | q | q | q | q | q | q | q | q
  · subst q
    first | refine B1 (by decide) ?_ | refine B2 (by decide) ?_ | refine B3 (by decide) ?_ | refine B4 (by decide) ?_
    exact cvt hp (by decide)
  all_goals
    subst q
    first | refine B1 (by decide) ?_ | refine B2 (by decide) ?_ | refine B3 (by decide) ?_ | refine B4 (by decide) ?_
    first | refine B1 (by decide) ?_ | refine B2 (by decide) ?_ | refine B3 (by decide) ?_ | refine B4 (by decide) ?_
    first | refine B1 (by decide) ?_ | refine B2 (by decide) ?_ | refine B3 (by decide) ?_ | refine B4 (by decide) ?_
    first | refine B1 (by decide) ?_ | refine B2 (by decide) ?_ | refine B3 (by decide) ?_ | refine B4 (by decide) ?_
    first | refine B1 (by decide) ?_ | refine B2 (by decide) ?_ | refine B3 (by decide) ?_ | refine B4 (by decide) ?_
    exact cvt hp (by decide)
theorem odd_loop {post : Int32 → (Nat → Int32) → Prop} {R : Nat → Int32} {p2 : Int32} : ∀ (d m : Nat) (x : Int), 0 < m → m < 2 ^ d → d ≤ 20 → wp_X8_about_152 post R p2 (nI (m / 2 ^ tzf d m)) (iI (x + tzf d m)) → wp_X8_about_128 post p2 (d + 1) R (nI m) (iI x) := by
  intro d
  induction d with
  | zero => intro m x h0 h1; omega
  | succ d ih =>
    intro m x h0 h1 hd hp
    have hb : 2 ^ (d + 1) ≤ 2 ^ 20 := Nat.pow_le_pow_right (by omega) hd
    rw [wp_X8_about_128_s]
    unfold wp_X8_about_128_b
    rw [rem2 (by omega), eqL (y := 0) (b := 0) (by omega) (by omega) rfl, show nI m / (2 : Int32) = nI (m / 2) from pk_div (d := 2) (by omega) (by omega) (by omega), show (1 : Int32) = iI 1 from rfl, iI_add]
    unfold tzf at hp
    refine ⟨fun q => absurd q (nI_nle h0 (by omega)), fun _ => ⟨fun q => ?_, fun q => ?_⟩⟩
    · rw [if_neg q, Nat.pow_zero, Nat.div_one] at hp
      have : x + ((0 : Nat) : Int) = x := by omega
      rw [this] at hp
      exact hp
    · rw [if_pos q] at hp
      refine ih (m / 2) (x + 1) (by omega) (by rw [Nat.pow_succ] at h1; omega) (by omega) ?_
      rw [Nat.div_div_eq_div_mul, show 2 * 2 ^ tzf d (m / 2) = 2 ^ (tzf d (m / 2) + 1) by rw [Nat.pow_succ]; omega, show x + 1 + (tzf d (m / 2) : Int) = x + ((tzf d (m / 2) + 1 : Nat) : Int) by omega]
      exact hp
theorem mod2 {c g : Nat} (h : c < 2 * g) : c % g = if c < g then c else c - g := by
  by_cases q : c < g
  · rw [if_pos q, Nat.mod_eq_of_lt q]
  · rw [if_neg q, Nat.mod_eq_sub_mod (by omega), Nat.mod_eq_of_lt (by omega)]
theorem X1_kindOf {post : Int32 → Prop} {E F b n c : Nat} {low : Int} (h : MK E F b n low) (hc : c < 2 ^ (E + F + 1)) (hp : post (nI (knd n (c % 2 ^ (E + F))))) : wp_X1_kindOf post (nI (2 ^ (E + F))) (nI n) (nI c) := by
  obtain ⟨m1, m2, m3, m4, m5, m6⟩ := MK_N h
  have hE := h.1
  have hF := h.2.1
  unfold wp_X1_kindOf
  unfold knd at hp
  refine X1_isPlain (by omega) (by omega) (by omega) (fun q => ?_) (fun q => ?_)
  · first | refine B1 (by decide) ?_ | refine B2 (by decide) ?_ | refine B3 (by decide) ?_ | refine B4 (by decide) ?_
    refine X1_isNone (by omega) (by omega) (by omega) (fun w => ?_) (fun w => ?_)
    · first | refine B1 (by decide) ?_ | refine B2 (by decide) ?_ | refine B3 (by decide) ?_ | refine B4 (by decide) ?_
      rw [if_neg (by omega), if_neg (by omega), if_pos (by omega)] at hp
      exact hp
    · first | refine B1 (by decide) ?_ | refine B2 (by decide) ?_ | refine B3 (by decide) ?_ | refine B4 (by decide) ?_
      rw [if_neg (by omega), if_neg (by omega), if_neg (by omega)] at hp
      exact hp
  · first | refine B1 (by decide) ?_ | refine B2 (by decide) ?_ | refine B3 (by decide) ?_ | refine B4 (by decide) ?_
    refine X1_isZero (by omega) (by omega) (fun w => ?_) (fun w => ?_)
    · first | refine B1 (by decide) ?_ | refine B2 (by decide) ?_ | refine B3 (by decide) ?_ | refine B4 (by decide) ?_
      rw [if_neg w, if_pos q] at hp
      exact hp
    · first | refine B1 (by decide) ?_ | refine B2 (by decide) ?_ | refine B3 (by decide) ?_ | refine B4 (by decide) ?_
      rw [if_pos w] at hp
      exact hp
theorem J_about {K : (Nat → Int32) → (Nat → Int32) → Prop} {V1 V2 : Prop} (v1 : V1) (v2 : V2) {E F b n : Nat} {low : Int} {R : Nat → Int32} {p1 p2 : Int32} (h : MK E F b n low) (hK : ∀ R', K R' R') :
    wp_X7_about (fun r u => V1 ∧ (V2 ∧ (wp_X8_about (fun r' w => ((r = r') → K u w) ∧ (¬ (r = r') → False)) (nI F) (nI (2 ^ (E + F + 1))) (nI (n - 1)) (nI (2 ^ (E + F))) (iI low) R p1 p2))) R (nI F) (nI b) (nI (2 ^ (E + F + 1))) (nI (2 ^ (E + F))) (nI n) p1 p2 := by
  obtain ⟨m1, m2, m3, m4, m5, m6⟩ := MK_N h
  obtain ⟨hE, hF, hb, hl, hn1, hn, hev, hns⟩ := id h
  have hZ : 2 ^ F ≤ 2 ^ 8 := Nat.pow_le_pow_right (by omega) hF
  unfold wp_X7_about wp_X8_about wp_X7_about_26 wp_X7_refuseAsTold wp_X8_refuseFar
  by_cases i1 : IN p1 (2 ^ (E + F + 1))
  · obtain ⟨c, hc, rfl⟩ := i1
    refine c7y (by omega) hc ?_
    first | refine B1 (by decide) ?_ | refine B2 (by decide) ?_ | refine B3 (by decide) ?_ | refine B4 (by decide) ?_
    have hs : c % 2 ^ (E + F) < 2 ^ (E + F) := Nat.mod_lt _ (p2p _)
    by_cases i2 : IN p2 6
    · obtain ⟨t, ht, rfl⟩ := i2
      have c8 : ∀ {post : Int32 → Prop}, post 1 → wp_X8_isCode post (nI (2 ^ (E + F + 1))) (nI c) := fun hp => c8y (by omega) hc hp
      have i8 : ∀ {post : Int32 → Prop}, post 1 → wp_X8_isIn post (nI t) 6 := fun hp => iny (n := 6) rfl (by omega) ht hp
      have z8 : ∀ {post : Int32 → Prop}, post (nI (c % 2 ^ (E + F))) → wp_X8_size post (nI (2 ^ (E + F))) (nI c) := fun hp => X8_size (by omega) (by omega) hp
      first | refine B1 (nI_nlt0 (by omega)) ?_ | refine B2 (nI_nlt0 (by omega)) ?_ | refine B3 (nI_nlt0 (by omega)) ?_ | refine B4 (nI_nlt0 (by omega)) ?_
      have p5 : nI t ≤ 5 := by rw [leL (y := 5) (b := 5) (by omega) (by omega) rfl]; omega
      first | refine B1 (p5) ?_ | refine B2 (p5) ?_ | refine B3 (p5) ?_ | refine B4 (p5) ?_
      unfold wp_X7_about_56
      have tt : t = 0 ∨ t = 1 ∨ t = 2 ∨ t = 3 ∨ t = 4 ∨ t = 5 := by omega
      rcases tt with q | q | q | q | q | q
      · subst q
        first | refine B1 (by decide) ?_ | refine B2 (by decide) ?_ | refine B3 (by decide) ?_ | refine B4 (by decide) ?_
        first | refine B1 (by decide) ?_ | refine B2 (by decide) ?_ | refine B3 (by decide) ?_ | refine B4 (by decide) ?_
        refine X1_kindOf h hc ⟨v1, v2, c8 ?_⟩
        first | refine B1 (by decide) ?_ | refine B2 (by decide) ?_ | refine B3 (by decide) ?_ | refine B4 (by decide) ?_
        refine i8 ?_
        first | refine B1 (by decide) ?_ | refine B2 (by decide) ?_ | refine B3 (by decide) ?_ | refine B4 (by decide) ?_
        refine z8 ?_
        first | refine B1 (by decide) ?_ | refine B2 (by decide) ?_ | refine B3 (by decide) ?_ | refine B4 (by decide) ?_
        exact X8_kind (by omega) (by omega) hn1 hn (E1 (hK _))
      · subst q
        first | refine B1 (by decide) ?_ | refine B2 (by decide) ?_ | refine B3 (by decide) ?_ | refine B4 (by decide) ?_
        first | refine B1 (by decide) ?_ | refine B2 (by decide) ?_ | refine B3 (by decide) ?_ | refine B4 (by decide) ?_
        first | refine B1 (by decide) ?_ | refine B2 (by decide) ?_ | refine B3 (by decide) ?_ | refine B4 (by decide) ?_
        refine X1_isBelow (by omega) hc (fun w => ?_) (fun w => ?_)
        · first | refine B1 (by decide) ?_ | refine B2 (by decide) ?_ | refine B3 (by decide) ?_ | refine B4 (by decide) ?_
          refine ⟨v1, v2, c8 ?_⟩
          first | refine B1 (by decide) ?_ | refine B2 (by decide) ?_ | refine B3 (by decide) ?_ | refine B4 (by decide) ?_
          refine i8 ?_
          first | refine B1 (by decide) ?_ | refine B2 (by decide) ?_ | refine B3 (by decide) ?_ | refine B4 (by decide) ?_
          refine z8 ?_
          first | refine B1 (by decide) ?_ | refine B2 (by decide) ?_ | refine B3 (by decide) ?_ | refine B4 (by decide) ?_
          first | refine B1 (by decide) ?_ | refine B2 (by decide) ?_ | refine B3 (by decide) ?_ | refine B4 (by decide) ?_
          rw [pk_div (by omega) (p2p _) (by omega), Nat.div_eq_of_lt w]
          exact ⟨nI_ne0 (p2p _) (by omega), E1 (hK _)⟩
        · first | refine B1 (by decide) ?_ | refine B2 (by decide) ?_ | refine B3 (by decide) ?_ | refine B4 (by decide) ?_
          refine ⟨v1, v2, c8 ?_⟩
          first | refine B1 (by decide) ?_ | refine B2 (by decide) ?_ | refine B3 (by decide) ?_ | refine B4 (by decide) ?_
          refine i8 ?_
          first | refine B1 (by decide) ?_ | refine B2 (by decide) ?_ | refine B3 (by decide) ?_ | refine B4 (by decide) ?_
          refine z8 ?_
          first | refine B1 (by decide) ?_ | refine B2 (by decide) ?_ | refine B3 (by decide) ?_ | refine B4 (by decide) ?_
          first | refine B1 (by decide) ?_ | refine B2 (by decide) ?_ | refine B3 (by decide) ?_ | refine B4 (by decide) ?_
          rw [pk_div (by omega) (p2p _) (by omega), show c / 2 ^ (E + F) = 1 from by
            rw [Nat.div_eq_of_lt_le] <;> omega]
          exact ⟨nI_ne0 (p2p _) (by omega), E1 (hK _)⟩
      · subst q
        first | refine B1 (by decide) ?_ | refine B2 (by decide) ?_ | refine B3 (by decide) ?_ | refine B4 (by decide) ?_
        first | refine B1 (by decide) ?_ | refine B2 (by decide) ?_ | refine B3 (by decide) ?_ | refine B4 (by decide) ?_
        first | refine B1 (by decide) ?_ | refine B2 (by decide) ?_ | refine B3 (by decide) ?_ | refine B4 (by decide) ?_
        first | refine B1 (by decide) ?_ | refine B2 (by decide) ?_ | refine B3 (by decide) ?_ | refine B4 (by decide) ?_
        refine X1_powerBits (by omega) (by omega) (by omega) ⟨v1, v2, c8 ?_⟩
        first | refine B1 (by decide) ?_ | refine B2 (by decide) ?_ | refine B3 (by decide) ?_ | refine B4 (by decide) ?_
        refine i8 ?_
        first | refine B1 (by decide) ?_ | refine B2 (by decide) ?_ | refine B3 (by decide) ?_ | refine B4 (by decide) ?_
        refine z8 ?_
        first | refine B1 (by decide) ?_ | refine B2 (by decide) ?_ | refine B3 (by decide) ?_ | refine B4 (by decide) ?_
        first | refine B1 (by decide) ?_ | refine B2 (by decide) ?_ | refine B3 (by decide) ?_ | refine B4 (by decide) ?_
        first | refine B1 (by decide) ?_ | refine B2 (by decide) ?_ | refine B3 (by decide) ?_ | refine B4 (by decide) ?_
        rw [sh_r (by omega) (by omega)]
        exact E1 (hK _)
      · subst q
        first | refine B1 (by decide) ?_ | refine B2 (by decide) ?_ | refine B3 (by decide) ?_ | refine B4 (by decide) ?_
        first | refine B1 (by decide) ?_ | refine B2 (by decide) ?_ | refine B3 (by decide) ?_ | refine B4 (by decide) ?_
        first | refine B1 (by decide) ?_ | refine B2 (by decide) ?_ | refine B3 (by decide) ?_ | refine B4 (by decide) ?_
        first | refine B1 (by decide) ?_ | refine B2 (by decide) ?_ | refine B3 (by decide) ?_ | refine B4 (by decide) ?_
        first | refine B1 (by decide) ?_ | refine B2 (by decide) ?_ | refine B3 (by decide) ?_ | refine B4 (by decide) ?_
        refine X1_figureBits (by omega) (by omega) ⟨v1, v2, c8 ?_⟩
        first | refine B1 (by decide) ?_ | refine B2 (by decide) ?_ | refine B3 (by decide) ?_ | refine B4 (by decide) ?_
        refine i8 ?_
        first | refine B1 (by decide) ?_ | refine B2 (by decide) ?_ | refine B3 (by decide) ?_ | refine B4 (by decide) ?_
        refine z8 ?_
        first | refine B1 (by decide) ?_ | refine B2 (by decide) ?_ | refine B3 (by decide) ?_ | refine B4 (by decide) ?_
        first | refine B1 (by decide) ?_ | refine B2 (by decide) ?_ | refine B3 (by decide) ?_ | refine B4 (by decide) ?_
        first | refine B1 (by decide) ?_ | refine B2 (by decide) ?_ | refine B3 (by decide) ?_ | refine B4 (by decide) ?_
        first | refine B1 (by decide) ?_ | refine B2 (by decide) ?_ | refine B3 (by decide) ?_ | refine B4 (by decide) ?_
        rw [sh_1 (by omega), an_p (by omega) (by omega), modmod (by omega)]
        exact E1 (hK _)
      all_goals
        subst q
        first | refine B1 (by decide) ?_ | refine B2 (by decide) ?_ | refine B3 (by decide) ?_ | refine B4 (by decide) ?_
        by_cases pl : c % 2 ^ (E + F) < n
        · refine l7y h hc pl ?_
          first | refine B1 (by decide) ?_ | refine B2 (by decide) ?_ | refine B3 (by decide) ?_ | refine B4 (by decide) ?_
          first | refine B1 (by decide) ?_ | refine B2 (by decide) ?_ | refine B3 (by decide) ?_ | refine B4 (by decide) ?_
          first | refine B1 (by decide) ?_ | refine B2 (by decide) ?_ | refine B3 (by decide) ?_ | refine B4 (by decide) ?_
          first | refine B1 (by decide) ?_ | refine B2 (by decide) ?_ | refine B3 (by decide) ?_ | refine B4 (by decide) ?_
          first | refine B1 (by decide) ?_ | refine B2 (by decide) ?_ | refine B3 (by decide) ?_ | refine B4 (by decide) ?_
          have hg := (fg_b (F := F) (s := c % 2 ^ (E + F)) hF).1
          first
            | refine B1 (by decide) ?_
            | refine B2 (by decide) ?_
          first
            | unfold wp_X1_oddFactor
            | unfold wp_X1_powerOfOddFactor
          refine X1_factor (by omega) (by omega) (by omega) ?_
          by_cases f0 : fg F (c % 2 ^ (E + F)) = 0
          · rw [f0]
            first | refine B1 (by decide) ?_ | refine B2 (by decide) ?_ | refine B3 (by decide) ?_ | refine B4 (by decide) ?_
            refine ⟨v1, v2, c8 ?_⟩
            first | refine B1 (by decide) ?_ | refine B2 (by decide) ?_ | refine B3 (by decide) ?_ | refine B4 (by decide) ?_
            refine i8 ?_
            first | refine B1 (by decide) ?_ | refine B2 (by decide) ?_ | refine B3 (by decide) ?_ | refine B4 (by decide) ?_
            refine z8 ?_
            first | refine B1 (by decide) ?_ | refine B2 (by decide) ?_ | refine B3 (by decide) ?_ | refine B4 (by decide) ?_
            first | refine B1 (by decide) ?_ | refine B2 (by decide) ?_ | refine B3 (by decide) ?_ | refine B4 (by decide) ?_
            first | refine B1 (by decide) ?_ | refine B2 (by decide) ?_ | refine B3 (by decide) ?_ | refine B4 (by decide) ?_
            first | refine B1 (by decide) ?_ | refine B2 (by decide) ?_ | refine B3 (by decide) ?_ | refine B4 (by decide) ?_
            refine l8y h hc pl ?_
            first | refine B1 (by decide) ?_ | refine B2 (by decide) ?_ | refine B3 (by decide) ?_ | refine B4 (by decide) ?_
            refine X8_figure hF (by omega) (X8_power hF (by omega) ⟨1, ?_⟩)
            rw [wp_X8_about_128_s, f0]
            unfold wp_X8_about_128_b wp_X8_about_152
            first | refine B1 (by decide) ?_ | refine B2 (by decide) ?_ | refine B3 (by decide) ?_ | refine B4 (by decide) ?_
            first | refine B1 (by decide) ?_ | refine B2 (by decide) ?_ | refine B3 (by decide) ?_ | refine B4 (by decide) ?_
            first
              | exact E1 (hK _)
              | exact B3 rfl (E1 (hK _))
          · refine B4 (nI_ne0 (by omega) (by omega)) ?_
            have ht9 := (tz_bits _ hg (by omega)).2
            first
              | refine X1_power (by omega) (by omega) (by omega) (J6_ntz (by omega) hg ?_)
              | refine J6_ntz (by omega) hg ?_
            refine ⟨v1, v2, c8 ?_⟩
            first | refine B1 (by decide) ?_ | refine B2 (by decide) ?_ | refine B3 (by decide) ?_ | refine B4 (by decide) ?_
            refine i8 ?_
            first | refine B1 (by decide) ?_ | refine B2 (by decide) ?_ | refine B3 (by decide) ?_ | refine B4 (by decide) ?_
            refine z8 ?_
            first | refine B1 (by decide) ?_ | refine B2 (by decide) ?_ | refine B3 (by decide) ?_ | refine B4 (by decide) ?_
            first | refine B1 (by decide) ?_ | refine B2 (by decide) ?_ | refine B3 (by decide) ?_ | refine B4 (by decide) ?_
            first | refine B1 (by decide) ?_ | refine B2 (by decide) ?_ | refine B3 (by decide) ?_ | refine B4 (by decide) ?_
            first | refine B1 (by decide) ?_ | refine B2 (by decide) ?_ | refine B3 (by decide) ?_ | refine B4 (by decide) ?_
            refine l8y h hc pl ?_
            first | refine B1 (by decide) ?_ | refine B2 (by decide) ?_ | refine B3 (by decide) ?_ | refine B4 (by decide) ?_
            refine X8_figure hF (by omega) (X8_power hF (by omega) ⟨10, odd_loop 9 _ _ (by omega) (by omega) (by omega) ?_⟩)
            unfold wp_X8_about_152
            have hdv : fg F (c % 2 ^ (E + F)) / 2 ^ tzf 9 (fg F (c % 2 ^ (E + F))) < 2147483648 := Nat.lt_of_le_of_lt (Nat.div_le_self _ _) (by omega)
            first
              | (refine B3 (by decide) ?_
                 rw [sh_r (by omega) (by omega)]
                 exact E1 (hK _))
              | (refine B4 (by decide) ?_
                 have od : ¬ nI (fg F (c % 2 ^ (E + F)) / 2 ^ tzf 9 (fg F (c % 2 ^ (E + F)))) = 0 := by
                   have hle : 2 ^ tzf 9 (fg F (c % 2 ^ (E + F))) ≤ fg F (c % 2 ^ (E + F)) := by
                     have := (tz_le (m := fg F (c % 2 ^ (E + F))) hg (by omega))
                     exact this
                   exact nI_ne0 (Nat.div_pos hle (p2p _)) hdv
                 refine B4 od ?_
                 rw [iI_N (tzf _ _), iI_add, show (1 : Int) - b - F = low from hl.symm]
                 exact E1 (hK _))
        · refine l7n h hc pl ?_
          first | refine B1 (by decide) ?_ | refine B2 (by decide) ?_ | refine B3 (by decide) ?_ | refine B4 (by decide) ?_
          refine x7r 3 rfl (by omega) ⟨v1, v2, c8 ?_⟩
          first | refine B1 (by decide) ?_ | refine B2 (by decide) ?_ | refine B3 (by decide) ?_ | refine B4 (by decide) ?_
          refine i8 ?_
          first | refine B1 (by decide) ?_ | refine B2 (by decide) ?_ | refine B3 (by decide) ?_ | refine B4 (by decide) ?_
          refine z8 ?_
          first | refine B1 (by decide) ?_ | refine B2 (by decide) ?_ | refine B3 (by decide) ?_ | refine B4 (by decide) ?_
          first | refine B1 (by decide) ?_ | refine B2 (by decide) ?_ | refine B3 (by decide) ?_ | refine B4 (by decide) ?_
          first | refine B1 (by decide) ?_ | refine B2 (by decide) ?_ | refine B3 (by decide) ?_ | refine B4 (by decide) ?_
          first | refine B1 (by decide) ?_ | refine B2 (by decide) ?_ | refine B3 (by decide) ?_ | refine B4 (by decide) ?_
          refine l8n h hc pl ?_
          first | refine B1 (by decide) ?_ | refine B2 (by decide) ?_ | refine B3 (by decide) ?_ | refine B4 (by decide) ?_
          exact x8r 3 rfl (by omega) (E1 (hK _))
    · have n8 : ∀ {post : Int32 → Prop}, post 0 → wp_X8_isIn post p2 6 := fun hp => inn (n := 6) rfl (by omega) i2 hp
      rcases IN_n (by omega) i2 with w | ⟨w, w2⟩
      · first | refine B1 (w) ?_ | refine B2 (w) ?_ | refine B3 (w) ?_ | refine B4 (w) ?_
        refine x7r 2 rfl (by omega) ⟨v1, v2, c8y (by omega) hc ?_⟩
        first | refine B1 (by decide) ?_ | refine B2 (by decide) ?_ | refine B3 (by decide) ?_ | refine B4 (by decide) ?_
        refine n8 ?_
        first | refine B1 (by decide) ?_ | refine B2 (by decide) ?_ | refine B3 (by decide) ?_ | refine B4 (by decide) ?_
        exact x8r 2 rfl (by omega) (E1 (hK _))
      · first | refine B1 (w) ?_ | refine B2 (w) ?_ | refine B3 (w) ?_ | refine B4 (w) ?_
        have w3 : ¬ p2 ≤ 5 := by
          obtain ⟨i, hi, e⟩ := nI_of w
          rw [e, nI_leI (by omega) (by omega)] at w2
          rw [e, leL (y := 5) (b := 5) (by omega) (by omega) rfl]
          omega
        first | refine B1 (w3) ?_ | refine B2 (w3) ?_ | refine B3 (w3) ?_ | refine B4 (w3) ?_
        refine x7r 2 rfl (by omega) ⟨v1, v2, c8y (by omega) hc ?_⟩
        first | refine B1 (by decide) ?_ | refine B2 (by decide) ?_ | refine B3 (by decide) ?_ | refine B4 (by decide) ?_
        refine n8 ?_
        first | refine B1 (by decide) ?_ | refine B2 (by decide) ?_ | refine B3 (by decide) ?_ | refine B4 (by decide) ?_
        exact x8r 2 rfl (by omega) (E1 (hK _))
  · refine c7n (by omega) i1 ?_
    first | refine B1 (by decide) ?_ | refine B2 (by decide) ?_ | refine B3 (by decide) ?_ | refine B4 (by decide) ?_
    refine x7r 1 rfl (by omega) ⟨v1, v2, c8n (by omega) i1 ?_⟩
    first | refine B1 (by decide) ?_ | refine B2 (by decide) ?_ | refine B3 (by decide) ?_ | refine B4 (by decide) ?_
    exact x8r 1 rfl (by omega) (E1 (hK _))
