/-! ===== right, sort, figures, hard ===== -/
theorem X6_rs {K : Int64 → Int32 → Int32 → Int32 → Int32 → Int32 → Int32 → Int32 → Int32 → Int32 → Int32 → Int32 → Prop} {E F b n fn c : Nat} {low : Int} {a1 : Int64} {a2 a3 a5 a6 a8 a9 a10 a11 : Int32} (h : MK E F b n low) (hf : fn < 5) (hc : c < 2 ^ (E + F + 1)) (hK : ∀ (v1 : Int64) (v2 v3 v4 v5 v6 v7 v8 v9 v10 v11 : Int32), K v1 v2 v3 v4 v5 v6 v7 v8 v9 v10 v11 (nI (SRT E F n low fn c))) :
    wp_X6_read (fun u1 u2 u3 u4 u5 u6 u7 u8 u9 u10 u11 => wp_X6_sortRead (fun r => K u1 u2 u3 u4 u5 u6 u7 u8 u9 u10 u11 r) u7) (nI F) (nI b) (nI (2 ^ (E + F))) (nI n) a1 a2 a3 a5 a6 a8 a9 a10 a11 (nI fn) (nI c) := by
  obtain ⟨hE, hF, hb, hl, hn1, hn, hev, hns⟩ := h
  unfold SRT at hK
  refine X6_read hE hF hb hl hn1 hn hf hc (fun q v1 v2 v3 => ?_) (fun q => ?_)
  · rw [if_pos q] at hK
    exact hK _ _ _ _ _ _ _ _ _ _ _
  · rw [if_neg q] at hK
    exact hK _ _ _ _ _ _ _ _ _ _ _
theorem X6_rf {K : Int64 → Int32 → Int32 → Int32 → Int32 → Int32 → Int32 → Int32 → Int32 → Int32 → Int32 → Int32 → Prop} {E F b n fn c : Nat} {low : Int} {a1 : Int64} {a2 a3 a5 a6 a8 a9 a10 a11 : Int32} (h : MK E F b n low) (hf : fn < 5) (hc : c < 2 ^ (E + F + 1)) (hK : ∀ (v1 : Int64) (v2 v3 v4 v5 v6 v7 v8 v9 v10 v11 : Int32), K v1 v2 v3 v4 v5 v6 v7 v8 v9 v10 v11 (iI (FIG E F n low fn c))) :
    wp_X6_read (fun u1 u2 u3 u4 u5 u6 u7 u8 u9 u10 u11 => wp_X6_figuresRead (fun r => K u1 u2 u3 u4 u5 u6 u7 u8 u9 u10 u11 r) (nI n) u4 u8 u9 u10 u11) (nI F) (nI b) (nI (2 ^ (E + F))) (nI n) a1 a2 a3 a5 a6 a8 a9 a10 a11 (nI fn) (nI c) := by
  obtain ⟨hE, hF, hb, hl, hn1, hn, hev, hns⟩ := h
  unfold FIG at hK
  refine X6_read hE hF hb hl hn1 hn hf hc (fun q v1 v2 v3 => ?_) (fun q => ?_)
  · rw [if_pos q] at hK
    exact X6_figuresRead (la := true) (aW_lt _ _ _ _) hn1 hn (aV_le hn) (hK _ _ _ _ _ _ _ _ _ _ _)
  · rw [if_neg q] at hK
    unfold wp_X6_figuresRead
    exact ⟨fun _ => hK _ _ _ _ _ _ _ _ _ _ _, fun w => absurd rfl w⟩
theorem J_right {K : (Nat → Int32) → Int64 → Int32 → Int32 → Int32 → Int32 → Int32 → Int32 → Int32 → Int32 → Int32 → Int32 → Int32 → Int32 → Int64 → (Nat → Int32) → Prop} {V1 V2 V3 : Prop} (v1' : V1) (v2' : V2) (v3' : V3) {E F b n : Nat} {low : Int} {R : Nat → Int32} {p1 p2 p3 a1 a2 : Int32} {a3 : Int64} {v1 : Int64} {v2 v3 v4 v5 v6 v7 v8 v9 v10 v11 : Int32} (h : MK E F b n low) (hK : ∀ R' (v1 : Int64) (v2 v3 v4 v5 v6 v7 v8 v9 v10 v11 : Int32) a1 a2 a3, K R' v1 v2 v3 v4 v5 v6 v7 v8 v9 v10 v11 a1 a2 a3 R') :
    wp_X7_right (fun r u w1 w2 w3 w4 w5 w6 w7 w8 w9 w10 w11 => V1 ∧ (V2 ∧ (V3 ∧ (wp_X8_right (fun r' b1 b2 b3 b4 => ((r = r') → K u w1 w2 w3 w4 w5 w6 w7 w8 w9 w10 w11 b1 b2 b3 b4) ∧ (¬ (r = r') → False)) (nI F) (nI (2 ^ (E + F + 1))) (nI (n - 1)) (nI (2 ^ (E + F))) (iI low) a1 a2 a3 R p1 p2 p3)))) R (nI F) (nI b) (nI (2 ^ (E + F + 1))) (nI (2 ^ (E + F))) (nI n) v1 v2 v3 v4 v5 v6 v7 v8 v9 v10 v11 p1 p2 p3 := by
  obtain ⟨m1, m2, m3, m4, m5, m6⟩ := MK_N h
  unfold wp_X7_right wp_X8_right wp_X7_right_25 wp_X8_right_33
  by_cases i1 : IN p1 5
  · obtain ⟨fn, hf, rfl⟩ := i1
    refine f7y hf ?_
    first | refine B1 (by decide) ?_ | refine B2 (by decide) ?_ | refine B3 (by decide) ?_ | refine B4 (by decide) ?_
    by_cases i2 : IN p2 (2 ^ (E + F + 1))
    · obtain ⟨c, hc, rfl⟩ := i2
      refine c7y (by omega) hc ?_
      first | refine B1 (by decide) ?_ | refine B2 (by decide) ?_ | refine B3 (by decide) ?_ | refine B4 (by decide) ?_
      by_cases i3 : IN p3 5
      · obtain ⟨r, hr, rfl⟩ := i3
        refine r7y hr ?_
        first | refine B1 (by decide) ?_ | refine B2 (by decide) ?_ | refine B3 (by decide) ?_ | refine B4 (by decide) ?_
        refine MK_r h hf hc hr (fun w1 w2 w3 w4 w5 w6 w7 w8 w9 w10 w11 => ⟨v1', v2', v3', f8y hf ?_⟩)
        first | refine B1 (by decide) ?_ | refine B2 (by decide) ?_ | refine B3 (by decide) ?_ | refine B4 (by decide) ?_
        refine c8y (by omega) hc ?_
        first | refine B1 (by decide) ?_ | refine B2 (by decide) ?_ | refine B3 (by decide) ?_ | refine B4 (by decide) ?_
        refine r8y hr ?_
        first | refine B1 (by decide) ?_ | refine B2 (by decide) ?_ | refine B3 (by decide) ?_ | refine B4 (by decide) ?_
        exact X8_rightOf h hf hc hr (fun x1 x2 x3 => E1 (hK _ _ _ _ _ _ _ _ _ _ _ _ _ _ _))
      · refine r7n i3 ?_
        first | refine B1 (by decide) ?_ | refine B2 (by decide) ?_ | refine B3 (by decide) ?_ | refine B4 (by decide) ?_
        refine x7r 1 rfl (by omega) ⟨v1', v2', v3', f8y hf ?_⟩
        first | refine B1 (by decide) ?_ | refine B2 (by decide) ?_ | refine B3 (by decide) ?_ | refine B4 (by decide) ?_
        refine c8y (by omega) hc ?_
        first | refine B1 (by decide) ?_ | refine B2 (by decide) ?_ | refine B3 (by decide) ?_ | refine B4 (by decide) ?_
        refine r8n i3 ?_
        first | refine B1 (by decide) ?_ | refine B2 (by decide) ?_ | refine B3 (by decide) ?_ | refine B4 (by decide) ?_
        exact x8r 1 rfl (by omega) (E1 (hK _ _ _ _ _ _ _ _ _ _ _ _ _ _ _))
    · refine c7n (by omega) i2 ?_
      first | refine B1 (by decide) ?_ | refine B2 (by decide) ?_ | refine B3 (by decide) ?_ | refine B4 (by decide) ?_
      refine x7r 1 rfl (by omega) ⟨v1', v2', v3', f8y hf ?_⟩
      first | refine B1 (by decide) ?_ | refine B2 (by decide) ?_ | refine B3 (by decide) ?_ | refine B4 (by decide) ?_
      refine c8n (by omega) i2 ?_
      first | refine B1 (by decide) ?_ | refine B2 (by decide) ?_ | refine B3 (by decide) ?_ | refine B4 (by decide) ?_
      exact x8r 1 rfl (by omega) (E1 (hK _ _ _ _ _ _ _ _ _ _ _ _ _ _ _))
  · refine f7n i1 ?_
    first | refine B1 (by decide) ?_ | refine B2 (by decide) ?_ | refine B3 (by decide) ?_ | refine B4 (by decide) ?_
    refine x7r 1 rfl (by omega) ⟨v1', v2', v3', f8n i1 ?_⟩
    first | refine B1 (by decide) ?_ | refine B2 (by decide) ?_ | refine B3 (by decide) ?_ | refine B4 (by decide) ?_
    exact x8r 1 rfl (by omega) (E1 (hK _ _ _ _ _ _ _ _ _ _ _ _ _ _ _))
theorem J_sort {K : (Nat → Int32) → Int64 → Int32 → Int32 → Int32 → Int32 → Int32 → Int32 → Int32 → Int32 → Int32 → Int32 → Int32 → Int32 → Int64 → (Nat → Int32) → Prop} {V1 V2 : Prop} (v1' : V1) (v2' : V2) {E F b n : Nat} {low : Int} {R : Nat → Int32} {p1 p2 a1 a2 : Int32} {a3 : Int64} {v1 : Int64} {v2 v3 v4 v5 v6 v7 v8 v9 v10 v11 : Int32} (h : MK E F b n low) (hK : ∀ R' (v1 : Int64) (v2 v3 v4 v5 v6 v7 v8 v9 v10 v11 : Int32) a1 a2 a3, K R' v1 v2 v3 v4 v5 v6 v7 v8 v9 v10 v11 a1 a2 a3 R') :
    wp_X7_sort (fun r u w1 w2 w3 w4 w5 w6 w7 w8 w9 w10 w11 => V1 ∧ (V2 ∧ (wp_X8_sort (fun r' b1 b2 b3 b4 => ((r = r') → K u w1 w2 w3 w4 w5 w6 w7 w8 w9 w10 w11 b1 b2 b3 b4) ∧ (¬ (r = r') → False)) (nI F) (nI (2 ^ (E + F + 1))) (nI (n - 1)) (nI (2 ^ (E + F))) (iI low) a1 a2 a3 R p1 p2))) R (nI F) (nI b) (nI (2 ^ (E + F + 1))) (nI (2 ^ (E + F))) (nI n) v1 v2 v3 v4 v5 v6 v7 v8 v9 v10 v11 p1 p2 := by
  obtain ⟨m1, m2, m3, m4, m5, m6⟩ := MK_N h
  unfold wp_X7_sort wp_X8_sort wp_X7_sort_18 wp_X8_sort_24
  by_cases i1 : IN p1 5
  · obtain ⟨fn, hf, rfl⟩ := i1
    refine f7y hf ?_
    first | refine B1 (by decide) ?_ | refine B2 (by decide) ?_ | refine B3 (by decide) ?_ | refine B4 (by decide) ?_
    by_cases i2 : IN p2 (2 ^ (E + F + 1))
    · obtain ⟨c, hc, rfl⟩ := i2
      refine c7y (by omega) hc ?_
      first | refine B1 (by decide) ?_ | refine B2 (by decide) ?_ | refine B3 (by decide) ?_ | refine B4 (by decide) ?_
      refine X6_rs h hf hc (fun w1 w2 w3 w4 w5 w6 w7 w8 w9 w10 w11 => ?_)
      refine ⟨v1', v2', f8y hf ?_⟩
      first | refine B1 (by decide) ?_ | refine B2 (by decide) ?_ | refine B3 (by decide) ?_ | refine B4 (by decide) ?_
      refine c8y (by omega) hc ?_
      first | refine B1 (by decide) ?_ | refine B2 (by decide) ?_ | refine B3 (by decide) ?_ | refine B4 (by decide) ?_
      exact X8_sortOf h hf hc (fun x1 x2 x3 => E1 (hK _ _ _ _ _ _ _ _ _ _ _ _ _ _ _))
    · refine c7n (by omega) i2 ?_
      first | refine B1 (by decide) ?_ | refine B2 (by decide) ?_ | refine B3 (by decide) ?_ | refine B4 (by decide) ?_
      refine x7r 1 rfl (by omega) ⟨v1', v2', f8y hf ?_⟩
      first | refine B1 (by decide) ?_ | refine B2 (by decide) ?_ | refine B3 (by decide) ?_ | refine B4 (by decide) ?_
      refine c8n (by omega) i2 ?_
      first | refine B1 (by decide) ?_ | refine B2 (by decide) ?_ | refine B3 (by decide) ?_ | refine B4 (by decide) ?_
      exact x8r 1 rfl (by omega) (E1 (hK _ _ _ _ _ _ _ _ _ _ _ _ _ _ _))
  · refine f7n i1 ?_
    first | refine B1 (by decide) ?_ | refine B2 (by decide) ?_ | refine B3 (by decide) ?_ | refine B4 (by decide) ?_
    refine x7r 1 rfl (by omega) ⟨v1', v2', f8n i1 ?_⟩
    first | refine B1 (by decide) ?_ | refine B2 (by decide) ?_ | refine B3 (by decide) ?_ | refine B4 (by decide) ?_
    exact x8r 1 rfl (by omega) (E1 (hK _ _ _ _ _ _ _ _ _ _ _ _ _ _ _))
theorem J_figures {K : (Nat → Int32) → Int64 → Int32 → Int32 → Int32 → Int32 → Int32 → Int32 → Int32 → Int32 → Int32 → Int32 → Int32 → Int32 → Int64 → (Nat → Int32) → Prop} {V1 V2 : Prop} (v1' : V1) (v2' : V2) {E F b n : Nat} {low : Int} {R : Nat → Int32} {p1 p2 a1 a2 : Int32} {a3 : Int64} {v1 : Int64} {v2 v3 v4 v5 v6 v7 v8 v9 v10 v11 : Int32} (h : MK E F b n low) (hK : ∀ R' (v1 : Int64) (v2 v3 v4 v5 v6 v7 v8 v9 v10 v11 : Int32) a1 a2 a3, K R' v1 v2 v3 v4 v5 v6 v7 v8 v9 v10 v11 a1 a2 a3 R') :
    wp_X7_figures (fun r u w1 w2 w3 w4 w5 w6 w7 w8 w9 w10 w11 => V1 ∧ (V2 ∧ (wp_X8_figures (fun r' b1 b2 b3 b4 => ((r = r') → K u w1 w2 w3 w4 w5 w6 w7 w8 w9 w10 w11 b1 b2 b3 b4) ∧ (¬ (r = r') → False)) (nI F) (nI (2 ^ (E + F + 1))) (nI (n - 1)) (nI (2 ^ (E + F))) (iI low) a1 a2 a3 R p1 p2))) R (nI F) (nI b) (nI (2 ^ (E + F + 1))) (nI (2 ^ (E + F))) (nI n) v1 v2 v3 v4 v5 v6 v7 v8 v9 v10 v11 p1 p2 := by
  obtain ⟨m1, m2, m3, m4, m5, m6⟩ := MK_N h
  unfold wp_X7_figures wp_X8_figures wp_X7_figures_18 wp_X8_figures_24
  by_cases i1 : IN p1 5
  · obtain ⟨fn, hf, rfl⟩ := i1
    refine f7y hf ?_
    first | refine B1 (by decide) ?_ | refine B2 (by decide) ?_ | refine B3 (by decide) ?_ | refine B4 (by decide) ?_
    by_cases i2 : IN p2 (2 ^ (E + F + 1))
    · obtain ⟨c, hc, rfl⟩ := i2
      refine c7y (by omega) hc ?_
      first | refine B1 (by decide) ?_ | refine B2 (by decide) ?_ | refine B3 (by decide) ?_ | refine B4 (by decide) ?_
      refine X6_rf h hf hc (fun w1 w2 w3 w4 w5 w6 w7 w8 w9 w10 w11 => ?_)
      refine ⟨v1', v2', f8y hf ?_⟩
      first | refine B1 (by decide) ?_ | refine B2 (by decide) ?_ | refine B3 (by decide) ?_ | refine B4 (by decide) ?_
      refine c8y (by omega) hc ?_
      first | refine B1 (by decide) ?_ | refine B2 (by decide) ?_ | refine B3 (by decide) ?_ | refine B4 (by decide) ?_
      exact X8_figuresOf h hf hc (fun x1 x2 x3 => E1 (hK _ _ _ _ _ _ _ _ _ _ _ _ _ _ _))
    · refine c7n (by omega) i2 ?_
      first | refine B1 (by decide) ?_ | refine B2 (by decide) ?_ | refine B3 (by decide) ?_ | refine B4 (by decide) ?_
      refine x7r 1 rfl (by omega) ⟨v1', v2', f8y hf ?_⟩
      first | refine B1 (by decide) ?_ | refine B2 (by decide) ?_ | refine B3 (by decide) ?_ | refine B4 (by decide) ?_
      refine c8n (by omega) i2 ?_
      first | refine B1 (by decide) ?_ | refine B2 (by decide) ?_ | refine B3 (by decide) ?_ | refine B4 (by decide) ?_
      exact x8r 1 rfl (by omega) (E1 (hK _ _ _ _ _ _ _ _ _ _ _ _ _ _ _))
  · refine f7n i1 ?_
    first | refine B1 (by decide) ?_ | refine B2 (by decide) ?_ | refine B3 (by decide) ?_ | refine B4 (by decide) ?_
    refine x7r 1 rfl (by omega) ⟨v1', v2', f8n i1 ?_⟩
    first | refine B1 (by decide) ?_ | refine B2 (by decide) ?_ | refine B3 (by decide) ?_ | refine B4 (by decide) ?_
    exact x8r 1 rfl (by omega) (E1 (hK _ _ _ _ _ _ _ _ _ _ _ _ _ _ _))
theorem J_hard {K : (Nat → Int32) → Int64 → Int32 → Int32 → Int32 → Int32 → Int32 → Int32 → Int32 → Int32 → Int32 → Int32 → Int32 → Int32 → Int64 → (Nat → Int32) → Prop} {V1 V2 : Prop} (v1' : V1) (v2' : V2) {E F b n : Nat} {low : Int} {R : Nat → Int32} {p1 p2 a1 a2 : Int32} {a3 : Int64} {v1 : Int64} {v2 v3 v4 v5 v6 v7 v8 v9 v10 v11 : Int32} (h : MK E F b n low) (hK : ∀ R' (v1 : Int64) (v2 v3 v4 v5 v6 v7 v8 v9 v10 v11 : Int32) a1 a2 a3, K R' v1 v2 v3 v4 v5 v6 v7 v8 v9 v10 v11 a1 a2 a3 R') :
    wp_X7_hard (fun r u w1 w2 w3 w4 w5 w6 w7 w8 w9 w10 w11 => V1 ∧ (V2 ∧ (wp_X8_hard (fun r' b1 b2 b3 b4 => ((r = r') → K u w1 w2 w3 w4 w5 w6 w7 w8 w9 w10 w11 b1 b2 b3 b4) ∧ (¬ (r = r') → False)) (nI F) (nI (2 ^ (E + F + 1))) (nI (n - 1)) (nI (2 ^ (E + F))) (iI low) a1 a2 a3 R p1 p2))) R (nI F) (nI b) (nI (2 ^ (E + F + 1))) (nI (2 ^ (E + F))) (nI n) v1 v2 v3 v4 v5 v6 v7 v8 v9 v10 v11 p1 p2 := by
  obtain ⟨m1, m2, m3, m4, m5, m6⟩ := MK_N h
  unfold wp_X7_hard wp_X8_hard wp_X7_hard_18 wp_X8_hard_24
  by_cases i1 : IN p1 5
  · obtain ⟨fn, hf, rfl⟩ := i1
    refine f7y hf ?_
    first | refine B1 (by decide) ?_ | refine B2 (by decide) ?_ | refine B3 (by decide) ?_ | refine B4 (by decide) ?_
    by_cases i2 : IN p2 (2 ^ (E + F + 1))
    · obtain ⟨c, hc, rfl⟩ := i2
      refine c7y (by omega) hc ?_
      first | refine B1 (by decide) ?_ | refine B2 (by decide) ?_ | refine B3 (by decide) ?_ | refine B4 (by decide) ?_
      refine X6_rh h hf hc (fun w1 w2 w3 w4 w5 w6 w8 w9 w10 w11 => ?_)
      refine ⟨v1', v2', f8y hf ?_⟩
      first | refine B1 (by decide) ?_ | refine B2 (by decide) ?_ | refine B3 (by decide) ?_ | refine B4 (by decide) ?_
      refine c8y (by omega) hc ?_
      first | refine B1 (by decide) ?_ | refine B2 (by decide) ?_ | refine B3 (by decide) ?_ | refine B4 (by decide) ?_
      exact X8_hardOf h hf hc (fun x1 x2 x3 => E1 (hK _ _ _ _ _ _ _ _ _ _ _ _ _ _ _))
    · refine c7n (by omega) i2 ?_
      first | refine B1 (by decide) ?_ | refine B2 (by decide) ?_ | refine B3 (by decide) ?_ | refine B4 (by decide) ?_
      refine x7r 1 rfl (by omega) ⟨v1', v2', f8y hf ?_⟩
      first | refine B1 (by decide) ?_ | refine B2 (by decide) ?_ | refine B3 (by decide) ?_ | refine B4 (by decide) ?_
      refine c8n (by omega) i2 ?_
      first | refine B1 (by decide) ?_ | refine B2 (by decide) ?_ | refine B3 (by decide) ?_ | refine B4 (by decide) ?_
      exact x8r 1 rfl (by omega) (E1 (hK _ _ _ _ _ _ _ _ _ _ _ _ _ _ _))
  · refine f7n i1 ?_
    first | refine B1 (by decide) ?_ | refine B2 (by decide) ?_ | refine B3 (by decide) ?_ | refine B4 (by decide) ?_
    refine x7r 1 rfl (by omega) ⟨v1', v2', f8n i1 ?_⟩
    first | refine B1 (by decide) ?_ | refine B2 (by decide) ?_ | refine B3 (by decide) ?_ | refine B4 (by decide) ?_
    exact x8r 1 rfl (by omega) (E1 (hK _ _ _ _ _ _ _ _ _ _ _ _ _ _ _))
/-! ===== hardest, count, all ===== -/
theorem J_hardest {K : (Nat → Int32) → Int64 → Int32 → Int32 → Int32 → Int32 → Int32 → Int32 → Int32 → Int32 → Int32 → Int32 → (Nat → Int32) → (Nat → Int32) → (Nat → Int32) → (Nat → Int32) → (Nat → Int32) → Int32 → Int32 → Int64 → (Nat → Int32) → (Nat → Int32) → (Nat → Int32) → (Nat → Int32) → Prop} {V1 V2 : Prop} (v1' : V1) (v2' : V2) {E F b n : Nat} {low : Int} {R T S H G V Kn Hn Sn : Nat → Int32} {p1 p2 a1 a2 : Int32} {a3 : Int64} {v1 : Int64} {v2 v3 v4 v5 v6 v7 v8 v9 v10 v11 : Int32} (h : MK E F b n low) (hC : CI E F n low T S H G V) (hI : KI E F n low Kn Hn Sn)
    (hK : ∀ R' (v1 : Int64) (v2 v3 v4 v5 v6 v7 v8 v9 v10 v11 : Int32) T S H G V a1 a2 a3 Kn Hn Sn, CI E F n low T S H G V → KI E F n low Kn Hn Sn → K R' v1 v2 v3 v4 v5 v6 v7 v8 v9 v10 v11 T S H G V a1 a2 a3 R' Kn Hn Sn) :
    wp_X7_hardest (fun r u w1 w2 w3 w4 w5 w6 w7 w8 w9 w10 w11 t1 t2 t3 t4 t5 => V1 ∧ (V2 ∧ (wp_X8_hardest (fun r' b1 b2 b3 b4 b5 b6 b7 => ((r = r') → K u w1 w2 w3 w4 w5 w6 w7 w8 w9 w10 w11 t1 t2 t3 t4 t5 b1 b2 b3 b4 b5 b6 b7) ∧ (¬ (r = r') → False)) (nI F) (nI (2 ^ (E + F + 1))) (nI (n - 1)) (nI (2 ^ (E + F))) (iI low) a1 a2 a3 R Kn Hn Sn p1 p2))) R (nI F) (nI b) (nI (2 ^ (E + F + 1))) (nI (2 ^ (E + F))) (nI n) v1 v2 v3 v4 v5 v6 v7 v8 v9 v10 v11 T S H G V p1 p2 := by
  obtain ⟨m1, m2, m3, m4, m5, m6⟩ := MK_N h
  unfold wp_X7_hardest wp_X8_hardest
  by_cases i1 : IN p1 5
  · obtain ⟨fn, hf, rfl⟩ := i1
    refine f7y hf ?_
    first | refine B1 (by decide) ?_ | refine B2 (by decide) ?_ | refine B3 (by decide) ?_ | refine B4 (by decide) ?_
    refine X0_take h hf hC (fun w1 w2 w3 w4 w5 w6 w7 w8 w9 w10 w11 T S H G V c1 c2 => X0_hardestCode h hf ((c1 fn hf).2 c2) (fun r w1 w2 w3 w4 w5 w6 w7 w8 w9 w10 w11 hr => ⟨v1', v2', f8y hf ?_⟩))
    first | refine B1 (by decide) ?_ | refine B2 (by decide) ?_ | refine B3 (by decide) ?_ | refine B4 (by decide) ?_
    refine X8_know h hf hI (fun x1 x2 x3 Kn Hn Sn d1 d2 => ⟨2 ^ (E + F + 1) + 1, ?_⟩)
    have kt := d1 fn hf d2
    refine h23 hf (p2p _) m1 (HRD_le E F n low fn) (fun c hc => (kt c hc).1) (fun r' hr' => ?_) (2 ^ (E + F + 1)) 0 (by omega)
    rw [HR_uniq hr' hr]
    exact E1 (hK _ _ _ _ _ _ _ _ _ _ _ _ _ _ _ _ _ _ _ _ _ _ _ c1 d1)
  · refine f7n i1 ?_
    first | refine B1 (by decide) ?_ | refine B2 (by decide) ?_ | refine B3 (by decide) ?_ | refine B4 (by decide) ?_
    refine x7r 1 rfl (by omega) ⟨v1', v2', f8n i1 ?_⟩
    first | refine B1 (by decide) ?_ | refine B2 (by decide) ?_ | refine B3 (by decide) ?_ | refine B4 (by decide) ?_
    exact x8r 1 rfl (by omega) (E1 (hK _ _ _ _ _ _ _ _ _ _ _ _ _ _ _ _ _ _ _ _ _ _ _ hC hI))
theorem J_count {K : (Nat → Int32) → Int64 → Int32 → Int32 → Int32 → Int32 → Int32 → Int32 → Int32 → Int32 → Int32 → Int32 → (Nat → Int32) → (Nat → Int32) → (Nat → Int32) → (Nat → Int32) → (Nat → Int32) → Int32 → Int32 → Int64 → (Nat → Int32) → (Nat → Int32) → (Nat → Int32) → (Nat → Int32) → Prop} {V1 V2 : Prop} (v1' : V1) (v2' : V2) {E F b n : Nat} {low : Int} {R T S H G V Kn Hn Sn : Nat → Int32} {p1 p2 a1 a2 : Int32} {a3 : Int64} {v1 : Int64} {v2 v3 v4 v5 v6 v7 v8 v9 v10 v11 : Int32} (h : MK E F b n low) (hC : CI E F n low T S H G V) (hI : KI E F n low Kn Hn Sn)
    (hK : ∀ R' (v1 : Int64) (v2 v3 v4 v5 v6 v7 v8 v9 v10 v11 : Int32) T S H G V a1 a2 a3 Kn Hn Sn, CI E F n low T S H G V → KI E F n low Kn Hn Sn → K R' v1 v2 v3 v4 v5 v6 v7 v8 v9 v10 v11 T S H G V a1 a2 a3 R' Kn Hn Sn) :
    wp_X7_count (fun r u w1 w2 w3 w4 w5 w6 w7 w8 w9 w10 w11 t1 t2 t3 t4 t5 => V1 ∧ (V2 ∧ (wp_X8_count (fun r' b1 b2 b3 b4 b5 b6 b7 => ((r = r') → K u w1 w2 w3 w4 w5 w6 w7 w8 w9 w10 w11 t1 t2 t3 t4 t5 b1 b2 b3 b4 b5 b6 b7) ∧ (¬ (r = r') → False)) (nI F) (nI (2 ^ (E + F + 1))) (nI (n - 1)) (nI (2 ^ (E + F))) (iI low) a1 a2 a3 R Kn Hn Sn p1 p2))) R (nI F) (nI b) (nI (2 ^ (E + F + 1))) (nI (2 ^ (E + F))) (nI n) v1 v2 v3 v4 v5 v6 v7 v8 v9 v10 v11 T S H G V p1 p2 := by
  obtain ⟨m1, m2, m3, m4, m5, m6⟩ := MK_N h
  unfold wp_X7_count wp_X8_count
  by_cases i1 : IN p1 5
  · obtain ⟨fn, hf, rfl⟩ := i1
    refine f7y hf ?_
    first | refine B1 (by decide) ?_ | refine B2 (by decide) ?_ | refine B3 (by decide) ?_ | refine B4 (by decide) ?_
    by_cases q : 0 ≤ p2
    · have q' : ¬ p2 < 0 := by rw [Int32.not_lt]; exact q
      obtain ⟨i, hi, rfl⟩ := nI_of q'
      by_cases q2 : i < 10
      · first | refine B1 (q) ?_ | refine B2 (q) ?_ | refine B3 (q) ?_ | refine B4 (q) ?_
        refine B1 (by rw [ltL (y := 10) (b := 10) (by omega) (by omega) rfl]; exact q2) ?_
        refine X0_take h hf hC (fun w1 w2 w3 w4 w5 w6 w7 w8 w9 w10 w11 T S H G V c1 c2 => ?_)
        unfold wp_X0_ofHardness
        rw [bse fn 10 _ 10 rfl]
        refine X4_at (by omega) (by omega) ⟨v1', v2', f8y hf ?_⟩
        first | refine B1 (by decide) ?_ | refine B2 (by decide) ?_ | refine B3 (by decide) ?_ | refine B4 (by decide) ?_
        first | refine B1 (q) ?_ | refine B2 (q) ?_ | refine B3 (q) ?_ | refine B4 (q) ?_
        refine B1 (by rw [leL (y := 9) (b := 9) (by omega) (by omega) rfl]; omega) ?_
        refine X8_know h hf hI (fun x1 x2 x3 Kn Hn Sn d1 d2 => ⟨2 ^ (E + F + 1) + 1, ?_⟩)
        have kt := d1 fn hf d2
        refine c47 hf m1 (HRD_le E F n low fn) (by omega) (fun c hc => (kt c hc).1) ?_ (2 ^ (E + F + 1)) 0 (by omega)
        rw [((c1 fn hf).2 c2).2.1 i q2]
        exact E1 (hK _ _ _ _ _ _ _ _ _ _ _ _ _ _ _ _ _ _ _ _ _ _ _ c1 d1)
      · first | refine B1 (q) ?_ | refine B2 (q) ?_ | refine B3 (q) ?_ | refine B4 (q) ?_
        refine B2 (by rw [ltL (y := 10) (b := 10) (by omega) (by omega) rfl]; exact q2) ?_
        refine x7r 6 rfl (by omega) ⟨v1', v2', f8y hf ?_⟩
        first | refine B1 (by decide) ?_ | refine B2 (by decide) ?_ | refine B3 (by decide) ?_ | refine B4 (by decide) ?_
        first | refine B1 (q) ?_ | refine B2 (q) ?_ | refine B3 (q) ?_ | refine B4 (q) ?_
        refine B2 (by rw [leL (y := 9) (b := 9) (by omega) (by omega) rfl]; omega) ?_
        exact x8r 6 rfl (by omega) (E1 (hK _ _ _ _ _ _ _ _ _ _ _ _ _ _ _ _ _ _ _ _ _ _ _ hC hI))
    · first | refine B1 (q) ?_ | refine B2 (q) ?_ | refine B3 (q) ?_ | refine B4 (q) ?_
      refine x7r 4 rfl (by omega) ⟨v1', v2', f8y hf ?_⟩
      first | refine B1 (by decide) ?_ | refine B2 (by decide) ?_ | refine B3 (by decide) ?_ | refine B4 (by decide) ?_
      first | refine B1 (q) ?_ | refine B2 (q) ?_ | refine B3 (q) ?_ | refine B4 (q) ?_
      exact x8r 4 rfl (by omega) (E1 (hK _ _ _ _ _ _ _ _ _ _ _ _ _ _ _ _ _ _ _ _ _ _ _ hC hI))
  · refine f7n i1 ?_
    first | refine B1 (by decide) ?_ | refine B2 (by decide) ?_ | refine B3 (by decide) ?_ | refine B4 (by decide) ?_
    refine x7r 1 rfl (by omega) ⟨v1', v2', f8n i1 ?_⟩
    first | refine B1 (by decide) ?_ | refine B2 (by decide) ?_ | refine B3 (by decide) ?_ | refine B4 (by decide) ?_
    exact x8r 1 rfl (by omega) (E1 (hK _ _ _ _ _ _ _ _ _ _ _ _ _ _ _ _ _ _ _ _ _ _ _ hC hI))
theorem J_all {K : (Nat → Int32) → Int64 → Int32 → Int32 → Int32 → Int32 → Int32 → Int32 → Int32 → Int32 → Int32 → Int32 → (Nat → Int32) → (Nat → Int32) → (Nat → Int32) → (Nat → Int32) → (Nat → Int32) → Int32 → Int32 → Int64 → (Nat → Int32) → (Nat → Int32) → (Nat → Int32) → (Nat → Int32) → Prop} {V1 V2 : Prop} (v1' : V1) (v2' : V2) {E F b n : Nat} {low : Int} {R T S H G V Kn Hn Sn : Nat → Int32} {p1 p2 a1 a2 : Int32} {a3 : Int64} {v1 : Int64} {v2 v3 v4 v5 v6 v7 v8 v9 v10 v11 : Int32} (h : MK E F b n low) (hC : CI E F n low T S H G V) (hI : KI E F n low Kn Hn Sn)
    (hK : ∀ R' (v1 : Int64) (v2 v3 v4 v5 v6 v7 v8 v9 v10 v11 : Int32) T S H G V a1 a2 a3 Kn Hn Sn, CI E F n low T S H G V → KI E F n low Kn Hn Sn → K R' v1 v2 v3 v4 v5 v6 v7 v8 v9 v10 v11 T S H G V a1 a2 a3 R' Kn Hn Sn) :
    wp_X7_all (fun r u w1 w2 w3 w4 w5 w6 w7 w8 w9 w10 w11 t1 t2 t3 t4 t5 => V1 ∧ (V2 ∧ (wp_X8_all (fun r' b1 b2 b3 b4 b5 b6 b7 => ((r = r') → K u w1 w2 w3 w4 w5 w6 w7 w8 w9 w10 w11 t1 t2 t3 t4 t5 b1 b2 b3 b4 b5 b6 b7) ∧ (¬ (r = r') → False)) (nI F) (nI (2 ^ (E + F + 1))) (nI (n - 1)) (nI (2 ^ (E + F))) (iI low) a1 a2 a3 R Kn Hn Sn p1 p2))) R (nI F) (nI b) (nI (2 ^ (E + F + 1))) (nI (2 ^ (E + F))) (nI n) v1 v2 v3 v4 v5 v6 v7 v8 v9 v10 v11 T S H G V p1 p2 := by
  obtain ⟨m1, m2, m3, m4, m5, m6⟩ := MK_N h
  unfold wp_X7_all wp_X8_all wp_X7_all_22
  by_cases i1 : IN p1 5
  · obtain ⟨fn, hf, rfl⟩ := i1
    refine f7y hf ?_
    first | refine B1 (by decide) ?_ | refine B2 (by decide) ?_ | refine B3 (by decide) ?_ | refine B4 (by decide) ?_
    by_cases i2 : IN p2 4
    · obtain ⟨i, hi, rfl⟩ := i2
      first | refine B1 (nI_nlt0 (by omega)) ?_ | refine B2 (nI_nlt0 (by omega)) ?_ | refine B3 (nI_nlt0 (by omega)) ?_ | refine B4 (nI_nlt0 (by omega)) ?_
      refine B1 (by rw [ltL (y := 4) (b := 4) (by omega) (by omega) rfl]; exact hi) ?_
      refine X0_take h hf hC (fun w1 w2 w3 w4 w5 w6 w7 w8 w9 w10 w11 T S H G V c1 c2 => ?_)
      unfold wp_X0_ofSort
      rw [bse fn 4 _ 4 rfl]
      refine X4_at (by omega) (by omega) ⟨v1', v2', f8y hf ?_⟩
      first | refine B1 (by decide) ?_ | refine B2 (by decide) ?_ | refine B3 (by decide) ?_ | refine B4 (by decide) ?_
      refine iny (n := 4) rfl (by omega) hi ?_
      first | refine B1 (by decide) ?_ | refine B2 (by decide) ?_ | refine B3 (by decide) ?_ | refine B4 (by decide) ?_
      refine X8_know h hf hI (fun x1 x2 x3 Kn Hn Sn d1 d2 => ⟨2 ^ (E + F + 1) + 1, ?_⟩)
      have kt := d1 fn hf d2
      refine a38 hf m1 (fun c => Nat.le_trans (SRT_le E F n low fn c) (by omega)) (by omega) (fun c hc => (kt c hc).2) ?_ (2 ^ (E + F + 1)) 0 (by omega)
      rw [((c1 fn hf).2 c2).1 i hi]
      exact E1 (hK _ _ _ _ _ _ _ _ _ _ _ _ _ _ _ _ _ _ _ _ _ _ _ c1 d1)
    · have f8 : ∀ R' : Nat → Int32, wp_X8_isFunction (fun r1 => (((¬ r1 = 0) → (wp_X8_isIn (fun r15 => (((¬ r15 = 0) → (wp_X8_know (fun u30_1 u30_2 u30_3 u30_4 u30_5 u30_6 => (∃ n, wp_X8_all_38 (fun r' b1 b2 b3 b4 b5 b6 b7 => (((-2 : Int32) = r') → K (bmp R 2) v1 v2 v3 v4 v5 v6 v7 v8 v9 v10 v11 T S H G V b1 b2 b3 b4 b5 b6 b7) ∧ (¬ ((-2 : Int32) = r') → False)) (nI (2 ^ (E + F + 1))) (nI fn) p2 n u30_1 u30_2 u30_3 R u30_4 u30_5 u30_6 (0 : Int32) (0 : Int32))) (nI F) (nI (2 ^ (E + F + 1))) (nI (n - 1)) (nI (2 ^ (E + F))) (iI low) a1 a2 a3 Kn Hn Sn (nI fn))) ∧ ((r15 = 0) → (wp_X8_refuse (fun r24 u24 => (((-2 : Int32) = r24) → K (bmp R 2) v1 v2 v3 v4 v5 v6 v7 v8 v9 v10 v11 T S H G V a1 a2 a3 u24 Kn Hn Sn) ∧ (¬ ((-2 : Int32) = r24) → False)) R (-2 : Int32))))) p2 (4 : Int32))) ∧ ((r1 = 0) → (wp_X8_refuse (fun r9 u9 => (((-2 : Int32) = r9) → K (bmp R 2) v1 v2 v3 v4 v5 v6 v7 v8 v9 v10 v11 T S H G V a1 a2 a3 u9 Kn Hn Sn) ∧ (¬ ((-2 : Int32) = r9) → False)) R (-1 : Int32))))) (nI fn) := by
        intro R'
        refine f8y hf ?_
        first | refine B1 (by decide) ?_ | refine B2 (by decide) ?_ | refine B3 (by decide) ?_ | refine B4 (by decide) ?_
        refine inn (n := 4) rfl (by omega) i2 ?_
        first | refine B1 (by decide) ?_ | refine B2 (by decide) ?_ | refine B3 (by decide) ?_ | refine B4 (by decide) ?_
        exact x8r 2 rfl (by omega) (E1 (hK _ _ _ _ _ _ _ _ _ _ _ _ _ _ _ _ _ _ _ _ _ _ _ hC hI))
      rcases IN_n (by omega) i2 with w | ⟨w, w2⟩
      · first | refine B1 (w) ?_ | refine B2 (w) ?_ | refine B3 (w) ?_ | refine B4 (w) ?_
        exact x7r 2 rfl (by omega) ⟨v1', v2', f8 R⟩
      · first | refine B1 (w) ?_ | refine B2 (w) ?_ | refine B3 (w) ?_ | refine B4 (w) ?_
        have w3 : ¬ p2 < 4 := by rw [Int32.not_lt]; exact w2
        first | refine B1 (w3) ?_ | refine B2 (w3) ?_ | refine B3 (w3) ?_ | refine B4 (w3) ?_
        exact x7r 2 rfl (by omega) ⟨v1', v2', f8 R⟩
  · refine f7n i1 ?_
    first | refine B1 (by decide) ?_ | refine B2 (by decide) ?_ | refine B3 (by decide) ?_ | refine B4 (by decide) ?_
    refine x7r 1 rfl (by omega) ⟨v1', v2', f8n i1 ?_⟩
    first | refine B1 (by decide) ?_ | refine B2 (by decide) ?_ | refine B3 (by decide) ?_ | refine B4 (by decide) ?_
    exact x8r 1 rfl (by omega) (E1 (hK _ _ _ _ _ _ _ _ _ _ _ _ _ _ _ _ _ _ _ _ _ _ _ hC hI))
