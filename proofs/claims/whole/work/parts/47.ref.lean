/-! ===== HardBenchModel: plainly, rightOf, sortOf, figuresOf, hardOf ===== -/
def knd (n s : Nat) : Nat := if s = 0 then 1 else if s < n then 0 else if s = n then 2 else 3
theorem knd_lt (n s : Nat) : knd n s < 2147483648 := by
  unfold knd
  (repeat' split)
  all_goals omega
theorem X8_size {post : Int32 → Prop} {k c : Nat} (hk : k ≤ 30) (hc : c < 4294967296) (h : post (nI (c % 2 ^ k))) : wp_X8_size post (nI (2 ^ k)) (nI c) := by
  unfold wp_X8_size
  rw [an_p hc (by omega)]
  exact h
theorem X8_kind {post : Int32 → Prop} {k c n : Nat} (hk : k ≤ 30) (hc : c < 4294967296) (hn1 : 1 ≤ n) (hn : n ≤ 8192) (h : post (nI (knd n (c % 2 ^ k)))) : wp_X8_kind post (nI (n - 1)) (nI (2 ^ k)) (nI c) := by
  unfold wp_X8_kind
  refine X8_size hk hc ?_
  have hb := mb c hk
  generalize c % 2 ^ k = s at *
  have e0 : nI s = 0 ↔ s = 0 := eqL (b := 0) hb (by omega) rfl
  rw [e0, nI_ltI (by omega) (by omega), show (1 : Int32) = nI 1 from rfl, nI_add, nI_eq (by omega) (by omega)]
  unfold knd at h
  refine ⟨fun a => ⟨fun b => ⟨fun d => ?_, fun d => ?_⟩, fun b => ?_⟩, fun a => ?_⟩
  · rw [if_neg a, if_neg (by omega), if_neg (by omega)] at h; exact h
  · rw [if_neg a, if_neg (by omega), if_pos (by omega)] at h; exact h
  · rw [if_neg a, if_pos (by omega)] at h; exact h
  · rw [if_pos a] at h; exact h
theorem sgn_val {c k : Nat} (hc : c < 2 ^ (k + 1)) : c / 2 ^ k * 2 ^ k = if 2 ^ k ≤ c then 2 ^ k else 0 := by
  have hp := p2p k
  rw [Nat.pow_succ] at hc
  by_cases h : 2 ^ k ≤ c
  · have : c / 2 ^ k = 1 := by
      apply Nat.le_antisymm
      · have := Nat.div_lt_of_lt_mul (show c < 2 ^ k * 2 by omega); omega
      · exact (Nat.le_div_iff_mul_le hp).mpr (by omega)
    rw [this, if_pos h, Nat.one_mul]
  · rw [Nat.div_eq_of_lt (by omega), if_neg h, Nat.zero_mul]
theorem X8_plainly {post : Int32 → Prop} {k c n fn : Nat} (hk : k ≤ 13) (hn1 : 1 ≤ n) (hn : n ≤ 8192) (hf : fn < 5) (hc : c < 2 ^ (k + 1)) (hL : isL (2 ^ k) n fn c → post (-1)) (hN : ¬ isL (2 ^ k) n fn c → post (nI (stl (2 ^ k) n fn c))) : wp_X8_plainly post (nI (n - 1)) (nI (2 ^ k)) (nI fn) (nI c) := by
  have hp := p2p k
  have hb : 2 ^ (k + 1) ≤ 2 ^ 14 := Nat.pow_le_pow_right (by omega) (by omega)
  have hb2 : 2 ^ k ≤ 2 ^ 13 := Nat.pow_le_pow_right (by omega) hk
  have f0 : nI fn = 0 ↔ fn = 0 := eqL (b := 0) (by omega) (by omega) rfl
  have f1 : nI fn = nI 1 ↔ fn = 1 := eqL (b := 1) (by omega) (by omega) rfl
  have f3 : nI fn = 3 ↔ fn = 3 := eqL (b := 3) (by omega) (by omega) rfl
  unfold wp_X8_plainly
  refine ⟨?_, ?_⟩
  · have : nI (2 ^ k) = 0 ↔ 2 ^ k = 0 := eqL (b := 0) (by omega) (by omega) rfl
    rw [this]; omega
  refine X8_kind (by omega) (by omega) hn1 hn ?_
  rw [pk_div (by omega) hp (by omega), pk_mul, sgn_val hc, show (1 : Int32) = nI 1 from rfl, nI_add, nI_add, show n - 1 + 1 = n by omega]
  have hsg : (if 2 ^ k ≤ c then 2 ^ k else 0) < 2147483648 := by split <;> omega
  have g3 : nI (knd n (c % 2 ^ k)) = 3 ↔ n < c % 2 ^ k := by
    have : nI (knd n (c % 2 ^ k)) = 3 ↔ knd n (c % 2 ^ k) = 3 := eqL (b := 3) (knd_lt _ _) (by omega) rfl
    rw [this]; unfold knd; repeat' split
    all_goals omega
  have g1 : nI (knd n (c % 2 ^ k)) = nI 1 ↔ c % 2 ^ k = 0 := by
    have : nI (knd n (c % 2 ^ k)) = nI 1 ↔ knd n (c % 2 ^ k) = 1 := eqL (b := 1) (knd_lt _ _) (by omega) rfl
    rw [this]; unfold knd; repeat' split
    all_goals omega
  have g2 : nI (knd n (c % 2 ^ k)) = 2 ↔ c % 2 ^ k = n := by
    have : nI (knd n (c % 2 ^ k)) = 2 ↔ knd n (c % 2 ^ k) = 2 := eqL (b := 2) (knd_lt _ _) (by omega) rfl
    rw [this]; unfold knd; repeat' split
    all_goals omega
  have K53 : ¬ (n < c % 2 ^ k ∨ (fn = 1 ∧ 2 ^ k ≤ c ∧ c % 2 ^ k ≠ 0)) → wp_X8_plainly_53 post (nI fn) (nI (if 2 ^ k ≤ c then 2 ^ k else 0)) (nI (knd n (c % 2 ^ k))) (nI n) := by
    intro q
    unfold wp_X8_plainly_53
    rw [show (1 : Int32) = nI 1 from rfl, g1, g2, f0, f3, nI_add]
    refine ⟨fun a => ⟨fun b => hL ⟨by omega, a, fun w => q (Or.inr ⟨w.1, w.2, a⟩)⟩, fun b => ?_⟩, fun a => ?_⟩
    · have h := hN (fun w => by have := w.1; omega)
      unfold stl at h
      rw [if_neg q] at h
      refine ⟨fun d => ⟨fun e => ?_, fun e => ?_⟩, fun d => ?_⟩
      · rw [if_neg e, if_neg (show ¬ ((c % 2 ^ k = 0 ∧ fn ≠ 0) ∨ (c % 2 ^ k ≠ 0 ∧ fn = 0)) by omega)] at h; exact h
      · rw [if_pos e, if_neg (show ¬ ((c % 2 ^ k = 0 ∧ fn ≠ 0) ∨ (c % 2 ^ k ≠ 0 ∧ fn = 0)) by omega), Nat.zero_add] at h; exact h
      · rw [if_neg (show ¬ fn = 3 by omega), if_pos (show ((c % 2 ^ k = 0 ∧ fn ≠ 0) ∨ (c % 2 ^ k ≠ 0 ∧ fn = 0)) by omega), Nat.add_zero] at h; exact h
    · have h := hN (fun w => w.2.1 a)
      unfold stl at h
      rw [if_neg q] at h
      refine ⟨fun d => ⟨fun e => ?_, fun e => ?_⟩, fun d => ?_⟩
      · rw [if_neg e, if_pos (show ((c % 2 ^ k = 0 ∧ fn ≠ 0) ∨ (c % 2 ^ k ≠ 0 ∧ fn = 0)) by omega), Nat.add_zero] at h; exact h
      · rw [if_pos e, if_pos (show ((c % 2 ^ k = 0 ∧ fn ≠ 0) ∨ (c % 2 ^ k ≠ 0 ∧ fn = 0)) by omega)] at h; exact h
      · rw [if_neg (show ¬ fn = 3 by omega), if_neg (show ¬ ((c % 2 ^ k = 0 ∧ fn ≠ 0) ∨ (c % 2 ^ k ≠ 0 ∧ fn = 0)) by omega)] at h; exact h
  have Kn : (n < c % 2 ^ k ∨ (fn = 1 ∧ 2 ^ k ≤ c ∧ c % 2 ^ k ≠ 0)) → post (nI (n + 1)) := by
    intro q
    have h := hN (fun w => by
      rcases q with q | q
      · have := w.1; omega
      · exact w.2.2 ⟨q.1, q.2.1⟩)
    unfold stl at h
    rw [if_pos q] at h
    exact h
  rw [g3, g1, f1, nI_0le hsg]
  refine ⟨fun a => Kn (Or.inl a), fun a => ⟨fun b => K53 (by omega), fun b => ⟨fun d => K53 ?_, fun d => ⟨fun e => K53 (by omega), fun e => Kn (Or.inr ⟨b, ?_, e⟩)⟩⟩⟩⟩
  · by_cases w : 2 ^ k ≤ c
    · rw [if_pos w] at d; omega
    · omega
  · by_cases w : 2 ^ k ≤ c
    · exact w
    · rw [if_neg w] at d; omega
theorem X8_sets {post : Int32 → Int32 → Int64 → Prop} {k c F : Nat} {low : Int} {g : Int32} (hk : k ≤ 13) (hF : F ≤ 8) (hc : c < 4294967296) (h : post g (iI (low + ex F (c % 2 ^ k))) (lN (fg F (c % 2 ^ k)))) : wp_X8_sets post (nI F) (nI (2 ^ k)) (iI low) g (nI c) := by
  have hb2 : 2 ^ k ≤ 2 ^ 13 := Nat.pow_le_pow_right (by omega) hk
  have hs := Nat.mod_lt c (p2p k)
  obtain ⟨g1, _⟩ := fg_b (F := F) (s := c % 2 ^ k) hF
  unfold wp_X8_sets
  refine X8_size (by omega) hc (X8_figure hF (by omega) (X8_size (by omega) hc (X8_power hF (by omega) ?_)))
  rw [nI_l (by omega)]
  exact h
theorem stl_b {k n fn c : Nat} (hk : k ≤ 13) (hn : n ≤ 8192) : stl (2 ^ k) n fn c ≤ 32768 := by
  have hb2 : 2 ^ k ≤ 2 ^ 13 := Nat.pow_le_pow_right (by omega) hk
  unfold stl
  repeat' split
  all_goals omega
theorem nI_nlt0 {n : Nat} (h : n < 2147483648) : ¬ nI n < 0 := by
  have : nI n < 0 ↔ n < 0 := ltL (b := 0) h (by omega) rfl
  rw [this]; omega
section RF
variable {E F b n fn c : Nat} {low : Int} {s1 s2 : Int32} {s3 : Int64}
/-- what a make gives -/
def MK (E F b n : Nat) (low : Int) : Prop := E ≤ 5 ∧ F ≤ 8 ∧ b ≤ 15 ∧ low = 1 - b - F ∧ 1 ≤ n ∧ n ≤ 8192 ∧ n % 2 = 0 ∧ n ≤ 2 ^ (E + F)
theorem MK_ex (h : MK E F b n low) : ∀ c, c ≤ n → ex F c ≤ 40 := by
  intro c hc
  obtain ⟨hE, hF, hb, hl, hn1, hn, hev, hns⟩ := h
  unfold ex
  have h1 : c / 2 ^ F ≤ 2 ^ E := by
    apply Nat.div_le_of_le_mul
    rw [← Nat.pow_add, Nat.add_comm]
    omega
  have : 2 ^ E ≤ 2 ^ 5 := Nat.pow_le_pow_right (by omega) hE
  omega
/-- the reference's amount, laid: the link at a code -/
theorem LK_at (h : MK E F b n low) (hf : fn < 5) (hL : isL (2 ^ (E + F)) n fn c) : LK (nI fn) (iI (low + ex F (c % 2 ^ (E + F)))) (lN (fg F (c % 2 ^ (E + F)))) (aM F low fn (c % 2 ^ (E + F))) (aX F low fn (c % 2 ^ (E + F))) (aO F low fn (c % 2 ^ (E + F))) ∧ 0 < aM F low fn (c % 2 ^ (E + F)) := by
  have hx := MK_ex h (c % 2 ^ (E + F)) (by have := hL.1; omega)
  obtain ⟨hE, hF, hb, hl, hn1, hn, hev, hns⟩ := h
  obtain ⟨g1, g2⟩ := fg_b (F := F) (s := c % 2 ^ (E + F)) hF
  refine ⟨LK_fn hf (g2 hL.2.1) g1 (by omega) (by omega), (vM_b hf (g2 hL.2.1) g1).1⟩
theorem X8_rightOf {post : Int32 → Int32 → Int32 → Int64 → Prop} {r : Nat} (h : MK E F b n low) (hf : fn < 5) (hc : c < 2 ^ (E + F + 1)) (hr : r < 5) (hp : ∀ (a b' : Int32) (c' : Int64), post (nI (RES E F n low fn c r)) a b' c') : wp_X8_rightOf post (nI F) (nI (n - 1)) (nI (2 ^ (E + F))) (iI low) s1 s2 s3 (nI fn) (nI c) (nI r) := by
  have h0 := h
  obtain ⟨hE, hF, hb, hl, hn1, hn, hev, hns⟩ := h
  have hb14 : 2 ^ (E + F + 1) ≤ 2 ^ 14 := Nat.pow_le_pow_right (by omega) (by omega)
  have hbs : 2 ^ (E + F) ≤ 2 ^ 13 := Nat.pow_le_pow_right (by omega) (by omega)
  have f3 : nI fn = 3 ↔ fn = 3 := eqL (b := 3) (by omega) (by omega) rfl
  unfold wp_X8_rightOf
  refine X8_plainly (by omega) hn1 hn hf hc (fun q => ⟨fun _ => ?_, fun w => absurd (by decide) w⟩) (fun q => ⟨fun w => absurd w (nI_nlt0 (by have := stl_b (k := E + F) (fn := fn) (c := c) (by omega) hn; omega)), fun _ => ?_⟩)
  · obtain ⟨lk, m0⟩ := LK_at h0 hf q
    refine X8_sets (by omega) hF (by omega) ?_
    unfold RES at hp
    rw [if_pos q] at hp
    have K : ∀ below : Bool, below = decide (fn ≠ 3 ∧ 2 ^ (E + F) ≤ c) → wp_X8_rightOf_42 post (nI F) (nI (n - 1)) (nI (2 ^ (E + F))) (iI low) (nI fn) (iI (low + ex F (c % 2 ^ (E + F)))) (lN (fg F (c % 2 ^ (E + F)))) (bI below) (nI r) := by
      intro below hbe
      subst hbe
      unfold wp_X8_rightOf_42
      exact X8_rounded hF (by omega) (by omega) hn1 hn hev (MK_ex h0) m0 lk hr (hp _ _ _)
    rw [nI_ltI (by omega) (by omega), f3]
    unfold wp_X8_rightOf_41
    refine ⟨fun w => K false (by simp; omega), fun w => ⟨fun z => K false (by simp [z]), fun z => K true (by simp [z]; omega)⟩⟩
  · unfold RES at hp
    rw [if_neg q] at hp
    exact hp _ _ _
def SRT (E F n : Nat) (low : Int) (fn c : Nat) : Nat := if isL (2 ^ (E + F)) n fn c then srt (aQ F low fn (c % 2 ^ (E + F))) (aY F n low fn (c % 2 ^ (E + F))) (aW F low fn (c % 2 ^ (E + F))) else srS (2 ^ (E + F)) fn c
theorem X8_sortOf {post : Int32 → Int32 → Int32 → Int64 → Prop} (h : MK E F b n low) (hf : fn < 5) (hc : c < 2 ^ (E + F + 1)) (hp : ∀ (a b' : Int32) (c' : Int64), post (nI (SRT E F n low fn c)) a b' c') : wp_X8_sortOf post (nI F) (nI (n - 1)) (nI (2 ^ (E + F))) (iI low) s1 s2 s3 (nI fn) (nI c) := by
  have h0 := h
  obtain ⟨hE, hF, hb, hl, hn1, hn, hev, hns⟩ := h
  have hb14 : 2 ^ (E + F + 1) ≤ 2 ^ 14 := Nat.pow_le_pow_right (by omega) (by omega)
  have f0 : nI fn = 0 ↔ fn = 0 := eqL (b := 0) (by omega) (by omega) rfl
  unfold wp_X8_sortOf
  refine X8_plainly (by omega) hn1 hn hf hc (fun q => ⟨fun _ => ?_, fun w => absurd (by decide) w⟩) (fun q => ⟨fun w => absurd w (nI_nlt0 (by have := stl_b (k := E + F) (fn := fn) (c := c) (by omega) hn; omega)), fun _ => ?_⟩)
  · obtain ⟨lk, m0⟩ := LK_at h0 hf q
    unfold SRT at hp
    rw [if_pos q] at hp
    have hs := srt_le (aQ F low fn (c % 2 ^ (E + F))) (aY F n low fn (c % 2 ^ (E + F))) (aW F low fn (c % 2 ^ (E + F)))
    refine X8_sets (by omega) hF (by omega) (X8_floor hF (by omega) (by omega) hn1 hn (MK_ex h0) m0 lk (X8_isFloat hF (by omega) (by omega) hn1 hn (MK_ex h0) m0 lk ?_))
    have hsr : ∀ z, srt (aQ F low fn (c % 2 ^ (E + F))) (aY F n low fn (c % 2 ^ (E + F))) (aW F low fn (c % 2 ^ (E + F))) = z → ∀ (a b' : Int32) (c' : Int64), post (nI z) a b' c' := by
      intro z hz
      rw [hz] at hp
      exact hp
    refine ⟨fun w => ?_, fun w => ?_⟩
    · have w := (bI_0 _).mp w
      have w : ¬ srt (aQ F low fn (c % 2 ^ (E + F))) (aY F n low fn (c % 2 ^ (E + F))) (aW F low fn (c % 2 ^ (E + F))) = 1 := of_decide_eq_false w
      refine X8_middle hF (by omega) (by omega) hn1 hn (MK_ex h0) m0 lk (fun s => ?_) (fun s t => ?_) (fun s t => ?_)
      · exact ⟨fun z => absurd rfl z, fun _ => hsr 2 s _ _ _⟩
      · have t : srt (aQ F low fn (c % 2 ^ (E + F))) (aY F n low fn (c % 2 ^ (E + F))) (aW F low fn (c % 2 ^ (E + F))) ≠ 2 := t
        exact ⟨fun _ => hsr 3 (by omega) _ _ _, fun z => absurd z (by decide)⟩
      · have t : srt (aQ F low fn (c % 2 ^ (E + F))) (aY F n low fn (c % 2 ^ (E + F))) (aW F low fn (c % 2 ^ (E + F))) ≠ 2 := t
        exact ⟨fun _ => hsr 3 (by omega) _ _ _, fun z => absurd z (by decide)⟩
    · have w2 : srt (aQ F low fn (c % 2 ^ (E + F))) (aY F n low fn (c % 2 ^ (E + F))) (aW F low fn (c % 2 ^ (E + F))) = 1 := by
        by_cases z : srt (aQ F low fn (c % 2 ^ (E + F))) (aY F n low fn (c % 2 ^ (E + F))) (aW F low fn (c % 2 ^ (E + F))) = 1
        · exact z
        · have z2 : ¬ srt (aO F low fn (c % 2 ^ (E + F)) || los F low (aM F low fn (c % 2 ^ (E + F))) (aX F low fn (c % 2 ^ (E + F)))) (decide (n ≤ cod F low (aM F low fn (c % 2 ^ (E + F))) (aX F low fn (c % 2 ^ (E + F))))) (wy F low (aM F low fn (c % 2 ^ (E + F))) (aX F low fn (c % 2 ^ (E + F)))) = 1 := z
          rw [decide_eq_false z2] at w
          exact absurd rfl w
      exact hsr 1 w2 _ _ _
  · unfold SRT at hp
    rw [if_neg q] at hp
    unfold srS at hp
    refine X8_kind (by omega) (by omega) hn1 hn ?_
    have g1 : nI (knd n (c % 2 ^ (E + F))) = 1 ↔ c % 2 ^ (E + F) = 0 := by
      have : nI (knd n (c % 2 ^ (E + F))) = 1 ↔ knd n (c % 2 ^ (E + F)) = 1 := eqL (b := 1) (knd_lt _ _) (by omega) rfl
      rw [this]; unfold knd; repeat' split
      all_goals omega
    rw [g1, f0]
    refine ⟨fun w => ?_, fun w => ⟨fun z => ?_, fun z => ?_⟩⟩
    · rw [if_neg (by omega)] at hp; exact hp _ _ _
    · rw [if_neg (by omega)] at hp; exact hp _ _ _
    · rw [if_pos ⟨w, z⟩] at hp; exact hp _ _ _
end RF
