/-! ===== next, between, round, right, sort, figures, hard ===== -/
def stp (g c : Nat) : Int := if c < g then (c : Int) else -((c : Int) - g)
theorem X1_steps {post : Int32 → Prop} {E F b n c : Nat} {low : Int} (h : MK E F b n low) (hc : c < 2 ^ (E + F + 1)) (hp : post (iI (stp (2 ^ (E + F)) c))) : wp_X1_stepsFromZero post (nI (2 ^ (E + F))) (nI c) := by
  obtain ⟨m1, m2, m3, m4, m5, m6⟩ := MK_N h
  have hE := h.1
  have hF := h.2.1
  unfold wp_X1_stepsFromZero
  unfold stp at hp
  have md := mod2 (c := c) (g := 2 ^ (E + F)) (by omega)
  refine X1_isBelow (by omega) hc (fun q => ?_) (fun q => ?_)
  · first | refine B1 (by decide) ?_ | refine B2 (by decide) ?_ | refine B3 (by decide) ?_ | refine B4 (by decide) ?_
    refine X1_amount (by omega) (by omega) ?_
    rw [if_pos q] at md hp
    rw [md, iI_N]
    exact hp
  · first | refine B1 (by decide) ?_ | refine B2 (by decide) ?_ | refine B3 (by decide) ?_ | refine B4 (by decide) ?_
    refine X1_amount (by omega) (by omega) ?_
    rw [if_neg (by omega)] at md hp
    rw [md, iI_N, iI_neg, show ((c - 2 ^ (E + F) : Nat) : Int) = (c : Int) - (2 ^ (E + F) : Nat) by omega]
    exact hp
theorem X8_place {post : Int32 → Prop} {E F b n c : Nat} {low : Int} (h : MK E F b n low) (hc : c < 2 ^ (E + F + 1)) (hp : post (iI (stp (2 ^ (E + F)) c))) : wp_X8_placeOf post (nI (2 ^ (E + F))) (nI c) := by
  obtain ⟨m1, m2, m3, m4, m5, m6⟩ := MK_N h
  have hE := h.1
  have hF := h.2.1
  unfold wp_X8_placeOf
  unfold stp at hp
  have md := mod2 (c := c) (g := 2 ^ (E + F)) (by omega)
  rw [nI_leI (by omega) (by omega)]
  refine ⟨fun q => X8_size (by omega) (by omega) ?_, fun q => ?_⟩
  · rw [if_neg (by omega)] at md hp
    rw [md, iI_N, iI_neg, show ((c - 2 ^ (E + F) : Nat) : Int) = (c : Int) - (2 ^ (E + F) : Nat) by omega]
    exact hp
  · rw [if_pos (by omega)] at hp
    rw [iI_N]
    exact hp
theorem J_next {K : (Nat → Int32) → (Nat → Int32) → Prop} {V1 : Prop} (v1 : V1) {E F b n : Nat} {low : Int} {R : Nat → Int32} {p1 : Int32} (h : MK E F b n low) (hK : ∀ R', K R' R') :
    wp_X7_next (fun r u => V1 ∧ (wp_X8_next (fun r' w => ((r = r') → K u w) ∧ (¬ (r = r') → False)) (nI (2 ^ (E + F + 1))) (nI (n - 1)) (nI (2 ^ (E + F))) R p1)) R (nI (2 ^ (E + F + 1))) (nI (2 ^ (E + F))) (nI n) p1 := by
  obtain ⟨m1, m2, m3, m4, m5, m6⟩ := MK_N h
  have hE := h.1
  have hF := h.2.1
  unfold wp_X7_next wp_X8_next
  by_cases i1 : IN p1 (2 ^ (E + F + 1))
  · obtain ⟨c, hc, rfl⟩ := i1
    have md := mod2 (c := c) (g := 2 ^ (E + F)) (by omega)
    refine c7y (by omega) hc ?_
    first | refine B1 (by decide) ?_ | refine B2 (by decide) ?_ | refine B3 (by decide) ?_ | refine B4 (by decide) ?_
    by_cases pl : c % 2 ^ (E + F) < n
    · refine l7y h hc pl ?_
      first | refine B1 (by decide) ?_ | refine B2 (by decide) ?_ | refine B3 (by decide) ?_ | refine B4 (by decide) ?_
      unfold wp_X1_codeAbove
      refine X1_steps h hc ?_
      have ab : sI (stp (2 ^ (E + F)) c + 1) := by unfold stp; split <;> exact ⟨by omega, by omega⟩
      rw [show (1 : Int32) = iI 1 from rfl, iI_add, iI_0le ab]
      have K8 : ∀ r : Int32, (c % 2 ^ (E + F) = 0 → r = 1) → (¬ c % 2 ^ (E + F) = 0 → c < 2 ^ (E + F) → r = nI (c + 1)) → (c % 2 ^ (E + F) = 1 → 2 ^ (E + F) ≤ c → r = 0) → (1 < c % 2 ^ (E + F) → 2 ^ (E + F) ≤ c → r = nI (c - 1)) → wp_X8_isCode (fun r2 => (((¬ r2 = 0) → (wp_X8_isPlain (fun r16 => (((¬ r16 = 0) → (wp_X8_size (fun r31 => (((¬ r31 = 0) → (((nI (2 ^ (E + F)) ≤ nI c) → (((¬ r31 = (1 : Int32)) → (((r = nI c - (1 : Int32)) → K R R) ∧ (¬ (r = nI c - (1 : Int32)) → False))) ∧ ((r31 = (1 : Int32)) → (((r = (0 : Int32)) → K R R) ∧ (¬ (r = (0 : Int32)) → False))))) ∧ ((¬ (nI (2 ^ (E + F)) ≤ nI c)) → (((r = nI c + (1 : Int32)) → K R R) ∧ (¬ (r = nI c + (1 : Int32)) → False))))) ∧ ((r31 = 0) → (((r = (1 : Int32)) → K R R) ∧ (¬ (r = (1 : Int32)) → False))))) (nI (2 ^ (E + F))) (nI c))) ∧ ((r16 = 0) → (wp_X8_refuse (fun r25 u25 => (((r = r25) → K R u25) ∧ (¬ (r = r25) → False))) R (-3 : Int32))))) (nI (n - 1)) (nI (2 ^ (E + F))) (nI c))) ∧ ((r2 = 0) → (wp_X8_refuse (fun r10 u10 => (((r = r10) → K R u10) ∧ (¬ (r = r10) → False))) R (-1 : Int32))))) (nI (2 ^ (E + F + 1))) (nI c) := by
        intro r h1 h2 h3 h4
        refine c8y (by omega) hc ?_
        first | refine B1 (by decide) ?_ | refine B2 (by decide) ?_ | refine B3 (by decide) ?_ | refine B4 (by decide) ?_
        refine l8y h hc pl ?_
        first | refine B1 (by decide) ?_ | refine B2 (by decide) ?_ | refine B3 (by decide) ?_ | refine B4 (by decide) ?_
        refine X8_size (by omega) (by omega) ?_
        rw [eqL (y := 0) (b := 0) (by omega) (by omega) rfl, eqL (y := 1) (b := 1) (by omega) (by omega) rfl, nI_leI (by omega) (by omega), nI_1]
        refine ⟨fun q => ⟨fun w => ⟨fun z => ?_, fun z => ?_⟩, fun w => ?_⟩, fun q => ?_⟩
        · rw [h4 (by omega) w, show (1 : Int32) = nI 1 from rfl, pk_sub (by omega)]; exact E1 (hK _)
        · rw [h3 z w]; exact E1 (hK _)
        · rw [h2 q (by omega)]; exact E1 (hK _)
        · rw [h1 q]; exact E1 (hK _)
      have e1 : ¬ c % 2 ^ (E + F) = 0 → c < 2 ^ (E + F) → iI (stp (2 ^ (E + F)) c + 1) = nI (c + 1) := by
        intro _ w; unfold stp; rw [if_pos w, iI_N]; congr 1
      refine ⟨fun q => ⟨v1, K8 _ (fun w => ?_) e1 (fun w z => ?_) (fun w z => ?_)⟩, fun q => ⟨v1, K8 _ (fun w => ?_) (fun w z => ?_) (fun w z => ?_) (fun w z => ?_)⟩⟩
      · unfold stp
        by_cases z : c < 2 ^ (E + F)
        · rw [if_pos z] at md ⊢; rw [show (c : Int) + 1 = 1 by omega]; rfl
        · rw [if_neg z] at md ⊢; rw [show -((c : Int) - (2 ^ (E + F) : Nat)) + 1 = 1 by omega]; rfl
      · unfold stp; rw [if_neg (by omega)] at md ⊢; rw [show -((c : Int) - (2 ^ (E + F) : Nat)) + 1 = 0 by omega]; rfl
      · unfold stp at q; rw [if_neg (by omega)] at md q; omega
      · unfold stp at q
        by_cases z : c < 2 ^ (E + F)
        · rw [if_pos z] at q; omega
        · rw [if_neg z] at md q; omega
      · unfold stp at q; rw [if_pos z] at q; omega
      · unfold stp at q; rw [if_neg (by omega)] at md q; omega
      · unfold stp; rw [if_neg (by omega), iI_N, iI_sub, iI_N]; congr 1; omega
    · refine l7n h hc pl ?_
      first | refine B1 (by decide) ?_ | refine B2 (by decide) ?_ | refine B3 (by decide) ?_ | refine B4 (by decide) ?_
      refine x7r 3 rfl (by omega) ⟨v1, c8y (by omega) hc ?_⟩
      first | refine B1 (by decide) ?_ | refine B2 (by decide) ?_ | refine B3 (by decide) ?_ | refine B4 (by decide) ?_
      refine l8n h hc pl ?_
      first | refine B1 (by decide) ?_ | refine B2 (by decide) ?_ | refine B3 (by decide) ?_ | refine B4 (by decide) ?_
      exact x8r 3 rfl (by omega) (E1 (hK _))
  · refine c7n (by omega) i1 ?_
    first | refine B1 (by decide) ?_ | refine B2 (by decide) ?_ | refine B3 (by decide) ?_ | refine B4 (by decide) ?_
    refine x7r 1 rfl (by omega) ⟨v1, c8n (by omega) i1 ?_⟩
    first | refine B1 (by decide) ?_ | refine B2 (by decide) ?_ | refine B3 (by decide) ?_ | refine B4 (by decide) ?_
    exact x8r 1 rfl (by omega) (E1 (hK _))
theorem absv {z : Int} (h : sI z) (h2 : -2147483648 < z) : (if 0 ≤ iI z then iI z else 0 - iI z) = nI z.natAbs := by
  by_cases q : 0 ≤ z
  · rw [if_pos ((iI_0le h).mpr q), iI_N]; congr 1; omega
  · rw [if_neg (fun w => q ((iI_0le h).mp w)), show (0 : Int32) = iI 0 from rfl, iI_sub, iI_N]; congr 1; omega
theorem J_between {K : (Nat → Int32) → (Nat → Int32) → Prop} {V1 V2 : Prop} (v1 : V1) (v2 : V2) {E F b n : Nat} {low : Int} {R : Nat → Int32} {p1 p2 : Int32} (h : MK E F b n low) (hK : ∀ R', K R' R') :
    wp_X7_between (fun r u => V1 ∧ (V2 ∧ (wp_X8_between (fun r' w => ((r = r') → K u w) ∧ (¬ (r = r') → False)) (nI (2 ^ (E + F + 1))) (nI (n - 1)) (nI (2 ^ (E + F))) R p1 p2))) R (nI (2 ^ (E + F + 1))) (nI (2 ^ (E + F))) (nI n) p1 p2 := by
  obtain ⟨m1, m2, m3, m4, m5, m6⟩ := MK_N h
  have hE := h.1
  have hF := h.2.1
  unfold wp_X7_between wp_X8_between wp_X7_between_22 wp_X7_between_50 wp_X8_between_16 wp_X8_between_38
  by_cases i1 : IN p1 (2 ^ (E + F + 1))
  · obtain ⟨c, hc, rfl⟩ := i1
    refine c7y (by omega) hc ?_
    first | refine B1 (by decide) ?_ | refine B2 (by decide) ?_ | refine B3 (by decide) ?_ | refine B4 (by decide) ?_
    by_cases i2 : IN p2 (2 ^ (E + F + 1))
    · obtain ⟨d, hd, rfl⟩ := i2
      refine c7y (by omega) hd ?_
      first | refine B1 (by decide) ?_ | refine B2 (by decide) ?_ | refine B3 (by decide) ?_ | refine B4 (by decide) ?_
      by_cases pl : c % 2 ^ (E + F) < n
      · refine l7y h hc pl ?_
        first | refine B1 (by decide) ?_ | refine B2 (by decide) ?_ | refine B3 (by decide) ?_ | refine B4 (by decide) ?_
        by_cases pd : d % 2 ^ (E + F) < n
        · refine l7y h hd pd ?_
          first | refine B1 (by decide) ?_ | refine B2 (by decide) ?_ | refine B3 (by decide) ?_ | refine B4 (by decide) ?_
          refine X1_steps h hc (X1_steps h hd ?_)
          have b1 : -8192 ≤ stp (2 ^ (E + F)) c ∧ stp (2 ^ (E + F)) c ≤ 8192 := by unfold stp; split <;> exact ⟨by omega, by omega⟩
          have b2 : -8192 ≤ stp (2 ^ (E + F)) d ∧ stp (2 ^ (E + F)) d ≤ 8192 := by unfold stp; split <;> exact ⟨by omega, by omega⟩
          rw [iI_sub, absv ⟨by omega, by omega⟩ (by omega)]
          refine ⟨v1, v2, c8y (by omega) hc ?_⟩
          first | refine B1 (by decide) ?_ | refine B2 (by decide) ?_ | refine B3 (by decide) ?_ | refine B4 (by decide) ?_
          refine c8y (by omega) hd ?_
          first | refine B1 (by decide) ?_ | refine B2 (by decide) ?_ | refine B3 (by decide) ?_ | refine B4 (by decide) ?_
          refine l8y h hc pl ?_
          first | refine B1 (by decide) ?_ | refine B2 (by decide) ?_ | refine B3 (by decide) ?_ | refine B4 (by decide) ?_
          refine l8y h hd pd ?_
          first | refine B1 (by decide) ?_ | refine B2 (by decide) ?_ | refine B3 (by decide) ?_ | refine B4 (by decide) ?_
          refine X8_place h hc (X8_place h hd ?_)
          rw [iI_sub, absv ⟨by omega, by omega⟩ (by omega)]
          by_cases z : (stp (2 ^ (E + F)) c - stp (2 ^ (E + F)) d).natAbs = 0
          · rw [z]
            refine B3 rfl ?_
            exact E1 (hK _)
          · refine B4 (nI_ne0 (by omega) (by omega)) ?_
            rw [if_neg (by
              rw [show (stp (2 ^ (E + F)) c - stp (2 ^ (E + F)) d).natAbs = (stp (2 ^ (E + F)) c - stp (2 ^ (E + F)) d).natAbs - 1 + 1 by omega, nI_pred]
              exact nI_nlt0 (by omega))]
            exact E1 (hK _)
        · refine l7n h hd pd ?_
          first | refine B1 (by decide) ?_ | refine B2 (by decide) ?_ | refine B3 (by decide) ?_ | refine B4 (by decide) ?_
          refine x7r 3 rfl (by omega) ⟨v1, v2, c8y (by omega) hc ?_⟩
          first | refine B1 (by decide) ?_ | refine B2 (by decide) ?_ | refine B3 (by decide) ?_ | refine B4 (by decide) ?_
          refine c8y (by omega) hd ?_
          first | refine B1 (by decide) ?_ | refine B2 (by decide) ?_ | refine B3 (by decide) ?_ | refine B4 (by decide) ?_
          refine l8y h hc pl ?_
          first | refine B1 (by decide) ?_ | refine B2 (by decide) ?_ | refine B3 (by decide) ?_ | refine B4 (by decide) ?_
          refine l8n h hd pd ?_
          first | refine B1 (by decide) ?_ | refine B2 (by decide) ?_ | refine B3 (by decide) ?_ | refine B4 (by decide) ?_
          exact x8r 3 rfl (by omega) (E1 (hK _))
      · refine l7n h hc pl ?_
        first | refine B1 (by decide) ?_ | refine B2 (by decide) ?_ | refine B3 (by decide) ?_ | refine B4 (by decide) ?_
        refine x7r 3 rfl (by omega) ⟨v1, v2, c8y (by omega) hc ?_⟩
        first | refine B1 (by decide) ?_ | refine B2 (by decide) ?_ | refine B3 (by decide) ?_ | refine B4 (by decide) ?_
        refine c8y (by omega) hd ?_
        first | refine B1 (by decide) ?_ | refine B2 (by decide) ?_ | refine B3 (by decide) ?_ | refine B4 (by decide) ?_
        refine l8n h hc pl ?_
        first | refine B1 (by decide) ?_ | refine B2 (by decide) ?_ | refine B3 (by decide) ?_ | refine B4 (by decide) ?_
        exact x8r 3 rfl (by omega) (E1 (hK _))
    · refine c7n (by omega) i2 ?_
      first | refine B1 (by decide) ?_ | refine B2 (by decide) ?_ | refine B3 (by decide) ?_ | refine B4 (by decide) ?_
      refine x7r 1 rfl (by omega) ⟨v1, v2, c8y (by omega) hc ?_⟩
      first | refine B1 (by decide) ?_ | refine B2 (by decide) ?_ | refine B3 (by decide) ?_ | refine B4 (by decide) ?_
      refine c8n (by omega) i2 ?_
      first | refine B1 (by decide) ?_ | refine B2 (by decide) ?_ | refine B3 (by decide) ?_ | refine B4 (by decide) ?_
      exact x8r 1 rfl (by omega) (E1 (hK _))
  · refine c7n (by omega) i1 ?_
    first | refine B1 (by decide) ?_ | refine B2 (by decide) ?_ | refine B3 (by decide) ?_ | refine B4 (by decide) ?_
    refine x7r 1 rfl (by omega) ⟨v1, v2, c8n (by omega) i1 ?_⟩
    first | refine B1 (by decide) ?_ | refine B2 (by decide) ?_ | refine B3 (by decide) ?_ | refine B4 (by decide) ?_
    exact x8r 1 rfl (by omega) (E1 (hK _))
theorem J_round {K : (Nat → Int32) → Int32 → Int32 → Int32 → Int32 → Int32 → Int32 → Int64 → (Nat → Int32) → Prop} {V1 V2 V3 : Prop} (v1 : V1) (v2 : V2) (v3 : V3) {E F b n : Nat} {low : Int} {R : Nat → Int32} {p1 p2 p3 l1 l2 l3 l4 a1 a2 : Int32} {a3 : Int64} (h : MK E F b n low) (hK : ∀ R' l1 l2 l3 l4 a1 a2 a3, K R' l1 l2 l3 l4 a1 a2 a3 R') :
    wp_X7_round (fun r u1 u2 u3 u4 u5 => V1 ∧ (V2 ∧ (V3 ∧ (wp_X8_round (fun r' w1 w2 w3 w4 => ((r = r') → K u1 u2 u3 u4 u5 w1 w2 w3 w4) ∧ (¬ (r = r') → False)) (nI F) (nI (n - 1)) (nI (2 ^ (E + F))) (iI low) a1 a2 a3 R p1 p2 p3)))) R (nI F) (nI b) (nI (2 ^ (E + F))) (nI n) l1 l2 l3 l4 p1 p2 p3 := by
  obtain ⟨m1, m2, m3, m4, m5, m6⟩ := MK_N h
  obtain ⟨hE, hF, hb, hl, hn1, hn, hev, hns⟩ := id h
  unfold wp_X7_round wp_X8_round wp_X7_round_25 wp_X7_round_44 wp_X8_round_26 wp_X8_round_45
  by_cases i3 : IN p3 5
  · obtain ⟨r, hr, rfl⟩ := i3
    have vv3 : ∀ {A : Prop}, A → V1 ∧ (V2 ∧ (V3 ∧ A)) := fun a => ⟨v1, v2, v3, a⟩
    have rn : ∀ {post : Int32 → Prop}, post 1 → wp_X8_isIn post (nI r) 5 := fun hp => r8y hr hp
    refine r7y hr ?_
    first | refine B1 (by decide) ?_ | refine B2 (by decide) ?_ | refine B3 (by decide) ?_ | refine B4 (by decide) ?_
    by_cases q1 : p1 < -100000
    · first | refine B1 (q1) ?_ | refine B2 (q1) ?_ | refine B3 (q1) ?_ | refine B4 (q1) ?_
      refine x7r 4 rfl (by omega) (vv3 (rn ?_))
      first | refine B1 (by decide) ?_ | refine B2 (by decide) ?_ | refine B3 (by decide) ?_ | refine B4 (by decide) ?_
      first | refine B1 (q1) ?_ | refine B2 (q1) ?_ | refine B3 (q1) ?_ | refine B4 (q1) ?_
      exact x8r 4 rfl (by omega) (E1 (hK _ _ _ _ _ _ _ _))
    · by_cases q2 : -60 ≤ p2
      · by_cases q3 : 100000 < p1
        · first | refine B1 (q1) ?_ | refine B2 (q1) ?_ | refine B3 (q1) ?_ | refine B4 (q1) ?_
          first | refine B1 (q2) ?_ | refine B2 (q2) ?_ | refine B3 (q2) ?_ | refine B4 (q2) ?_
          first | refine B1 (q3) ?_ | refine B2 (q3) ?_ | refine B3 (q3) ?_ | refine B4 (q3) ?_
          refine x7r 6 rfl (by omega) (vv3 (rn ?_))
          first | refine B1 (by decide) ?_ | refine B2 (by decide) ?_ | refine B3 (by decide) ?_ | refine B4 (by decide) ?_
          first | refine B1 (q1) ?_ | refine B2 (q1) ?_ | refine B3 (q1) ?_ | refine B4 (q1) ?_
          first | refine B1 (q2) ?_ | refine B2 (q2) ?_ | refine B3 (q2) ?_ | refine B4 (q2) ?_
          first | refine B1 (q3) ?_ | refine B2 (q3) ?_ | refine B3 (q3) ?_ | refine B4 (q3) ?_
          exact x8r 6 rfl (by omega) (E1 (hK _ _ _ _ _ _ _ _))
        · by_cases q4 : p2 ≤ 60
          · by_cases q5 : p1 = 0
            · first | refine B1 (q1) ?_ | refine B2 (q1) ?_ | refine B3 (q1) ?_ | refine B4 (q1) ?_
              first | refine B1 (q2) ?_ | refine B2 (q2) ?_ | refine B3 (q2) ?_ | refine B4 (q2) ?_
              first | refine B1 (q3) ?_ | refine B2 (q3) ?_ | refine B3 (q3) ?_ | refine B4 (q3) ?_
              first | refine B1 (q4) ?_ | refine B2 (q4) ?_ | refine B3 (q4) ?_ | refine B4 (q4) ?_
              first | refine B1 (q5) ?_ | refine B2 (q5) ?_ | refine B3 (q5) ?_ | refine B4 (q5) ?_
              refine vv3 (rn ?_)
              first | refine B1 (by decide) ?_ | refine B2 (by decide) ?_ | refine B3 (by decide) ?_ | refine B4 (by decide) ?_
              first | refine B1 (q1) ?_ | refine B2 (q1) ?_ | refine B3 (q1) ?_ | refine B4 (q1) ?_
              first | refine B1 (q2) ?_ | refine B2 (q2) ?_ | refine B3 (q2) ?_ | refine B4 (q2) ?_
              first | refine B1 (q3) ?_ | refine B2 (q3) ?_ | refine B3 (q3) ?_ | refine B4 (q3) ?_
              first | refine B1 (q4) ?_ | refine B2 (q4) ?_ | refine B3 (q4) ?_ | refine B4 (q4) ?_
              first | refine B1 (q5) ?_ | refine B2 (q5) ?_ | refine B3 (q5) ?_ | refine B4 (q5) ?_
              exact E1 (hK _ _ _ _ _ _ _ _)
            · first | refine B1 (q1) ?_ | refine B2 (q1) ?_ | refine B3 (q1) ?_ | refine B4 (q1) ?_
              first | refine B1 (q2) ?_ | refine B2 (q2) ?_ | refine B3 (q2) ?_ | refine B4 (q2) ?_
              first | refine B1 (q3) ?_ | refine B2 (q3) ?_ | refine B3 (q3) ?_ | refine B4 (q3) ?_
              first | refine B1 (q4) ?_ | refine B2 (q4) ?_ | refine B3 (q4) ?_ | refine B4 (q4) ?_
              first | refine B1 (q5) ?_ | refine B2 (q5) ?_ | refine B3 (q5) ?_ | refine B4 (q5) ?_
              obtain ⟨z, hz, e1⟩ : ∃ z : Int, z = p1.toInt ∧ p1 = iI z := ⟨p1.toInt, rfl, (iI_of p1).symm⟩
              obtain ⟨x, hx, e2⟩ : ∃ z : Int, z = p2.toInt ∧ p2 = iI z := ⟨p2.toInt, rfl, (iI_of p2).symm⟩
              have c1 : (-100000 : Int32).toInt = -100000 := by decide
              have c2 : (100000 : Int32).toInt = 100000 := by decide
              have c3 : (-60 : Int32).toInt = -60 := by decide
              have c4 : (60 : Int32).toInt = 60 := by decide
              have z1 : -100000 ≤ z := by rw [Int32.lt_iff_toInt_lt] at q1; omega
              have z2 : z ≤ 100000 := by rw [Int32.lt_iff_toInt_lt] at q3; omega
              have x1 : -60 ≤ x := by rw [Int32.le_iff_toInt_le] at q2; omega
              have x2 : x ≤ 60 := by rw [Int32.le_iff_toInt_le] at q4; omega
              have z0 : z ≠ 0 := by intro w; rw [w] at e1; exact q5 (by rw [e1]; rfl)
              have ea : (if 0 ≤ p1 then p1 else 0 - p1).toInt64 = lN z.natAbs := by
                rw [e1, absv ⟨by omega, by omega⟩ (by omega), nI_l (by omega)]
              have e0 : 0 ≤ p1 ↔ 0 ≤ z := by rw [e1]; exact iI_0le ⟨by omega, by omega⟩
              rw [ea, e2]
              have L := LK_id (m := z.natAbs) (x := x) (by omega) (by omega) (by omega)
              have e8 : ∀ (post : Int32 → Int32 → Int32 → Int64 → (Nat → Int32) → Prop) (bl : Bool), post (nI (rd (2 ^ (E + F)) (false || los F low z.natAbs x) (decide (n ≤ cod F low z.natAbs x)) (wy F low z.natAbs x) (if n ≤ cod F low z.natAbs x then n - 1 else cod F low z.natAbs x) bl r)) (-1) (iI x) (lN z.natAbs) R → wp_X8_round_88 post (nI F) (nI (n - 1)) (nI (2 ^ (E + F))) (iI low) (-1) (iI x) (lN z.natAbs) R (bI bl) (nI r) := by
                intro post bl hp
                exact X8_rounded hF (by omega) (by omega) hn1 hn hev (MK_ex h) (by omega) L hr hp
              have f8 : ∀ t : Int32, (0 ≤ p1 → t = nI (rd (2 ^ (E + F)) (false || los F low z.natAbs x) (decide (n ≤ cod F low z.natAbs x)) (wy F low z.natAbs x) (if n ≤ cod F low z.natAbs x then n - 1 else cod F low z.natAbs x) false r)) → (¬ 0 ≤ p1 → t = nI (rd (2 ^ (E + F)) (false || los F low z.natAbs x) (decide (n ≤ cod F low z.natAbs x)) (wy F low z.natAbs x) (if n ≤ cod F low z.natAbs x then n - 1 else cod F low z.natAbs x) true r)) → ∀ l1 l2 l3 l4, ((0 ≤ p1) → (wp_X8_round_88 (fun r' w1 w2 w3 w4 => ((t = r') → K R l1 l2 l3 l4 w1 w2 w3 w4) ∧ (¬ (t = r') → False)) (nI F) (nI (n - 1)) (nI (2 ^ (E + F))) (iI low) (-1 : Int32) (iI x) (lN z.natAbs) R (0 : Int32) (nI r))) ∧ ((¬ (0 ≤ p1)) → (wp_X8_round_88 (fun r' w1 w2 w3 w4 => ((t = r') → K R l1 l2 l3 l4 w1 w2 w3 w4) ∧ (¬ (t = r') → False)) (nI F) (nI (n - 1)) (nI (2 ^ (E + F))) (iI low) (-1 : Int32) (iI x) (lN z.natAbs) R (1 : Int32) (nI r))) := by
                intro t t1 t2 l1 l2 l3 l4
                refine ⟨fun q => e8 _ false ?_, fun q => e8 _ true ?_⟩
                · rw [t1 q]; exact E1 (hK _ _ _ _ _ _ _ _)
                · rw [t2 q]; exact E1 (hK _ _ _ _ _ _ _ _)
              have wl : (wy F low z.natAbs x) < 1024 := Nat.mod_lt _ (by omega)
              have vl8 : (if n ≤ cod F low z.natAbs x then n - 1 else cod F low z.natAbs x) ≤ 8192 := by split <;> omega
              refine X3_lay (mo := false) hF hb hl hn1 hn (by omega) (by omega) (by omega) (by omega) ⟨fun q => ?_, fun q => ?_⟩
              · unfold wp_X7_round_84
                refine X3_rounded (below := false) wl vl8 hr (vv3 (rn ?_))
                first | refine B1 (by decide) ?_ | refine B2 (by decide) ?_ | refine B3 (by decide) ?_ | refine B4 (by decide) ?_
                first | refine B1 (q1) ?_ | refine B2 (q1) ?_ | refine B3 (q1) ?_ | refine B4 (q1) ?_
                rw [← e2]
                first | refine B1 (q2) ?_ | refine B2 (q2) ?_ | refine B3 (q2) ?_ | refine B4 (q2) ?_
                first | refine B1 (q3) ?_ | refine B2 (q3) ?_ | refine B3 (q3) ?_ | refine B4 (q3) ?_
                first | refine B1 (q4) ?_ | refine B2 (q4) ?_ | refine B3 (q4) ?_ | refine B4 (q4) ?_
                first | refine B1 (q5) ?_ | refine B2 (q5) ?_ | refine B3 (q5) ?_ | refine B4 (q5) ?_
                rw [e2]
                exact f8 _ (fun _ => rfl) (fun w => absurd q w) _ _ _ _
              · unfold wp_X7_round_84
                refine X3_rounded (below := true) wl vl8 hr (vv3 (rn ?_))
                first | refine B1 (by decide) ?_ | refine B2 (by decide) ?_ | refine B3 (by decide) ?_ | refine B4 (by decide) ?_
                first | refine B1 (q1) ?_ | refine B2 (q1) ?_ | refine B3 (q1) ?_ | refine B4 (q1) ?_
                rw [← e2]
                first | refine B1 (q2) ?_ | refine B2 (q2) ?_ | refine B3 (q2) ?_ | refine B4 (q2) ?_
                first | refine B1 (q3) ?_ | refine B2 (q3) ?_ | refine B3 (q3) ?_ | refine B4 (q3) ?_
                first | refine B1 (q4) ?_ | refine B2 (q4) ?_ | refine B3 (q4) ?_ | refine B4 (q4) ?_
                first | refine B1 (q5) ?_ | refine B2 (q5) ?_ | refine B3 (q5) ?_ | refine B4 (q5) ?_
                rw [e2]
                exact f8 _ (fun w => absurd w q) (fun _ => rfl) _ _ _ _
          · first | refine B1 (q1) ?_ | refine B2 (q1) ?_ | refine B3 (q1) ?_ | refine B4 (q1) ?_
            first | refine B1 (q2) ?_ | refine B2 (q2) ?_ | refine B3 (q2) ?_ | refine B4 (q2) ?_
            first | refine B1 (q3) ?_ | refine B2 (q3) ?_ | refine B3 (q3) ?_ | refine B4 (q3) ?_
            first | refine B1 (q4) ?_ | refine B2 (q4) ?_ | refine B3 (q4) ?_ | refine B4 (q4) ?_
            refine x7r 6 rfl (by omega) (vv3 (rn ?_))
            first | refine B1 (by decide) ?_ | refine B2 (by decide) ?_ | refine B3 (by decide) ?_ | refine B4 (by decide) ?_
            first | refine B1 (q1) ?_ | refine B2 (q1) ?_ | refine B3 (q1) ?_ | refine B4 (q1) ?_
            first | refine B1 (q2) ?_ | refine B2 (q2) ?_ | refine B3 (q2) ?_ | refine B4 (q2) ?_
            first | refine B1 (q3) ?_ | refine B2 (q3) ?_ | refine B3 (q3) ?_ | refine B4 (q3) ?_
            first | refine B1 (q4) ?_ | refine B2 (q4) ?_ | refine B3 (q4) ?_ | refine B4 (q4) ?_
            exact x8r 6 rfl (by omega) (E1 (hK _ _ _ _ _ _ _ _))
      · first | refine B1 (q1) ?_ | refine B2 (q1) ?_ | refine B3 (q1) ?_ | refine B4 (q1) ?_
        first | refine B1 (q2) ?_ | refine B2 (q2) ?_ | refine B3 (q2) ?_ | refine B4 (q2) ?_
        refine x7r 4 rfl (by omega) (vv3 (rn ?_))
        first | refine B1 (by decide) ?_ | refine B2 (by decide) ?_ | refine B3 (by decide) ?_ | refine B4 (by decide) ?_
        first | refine B1 (q1) ?_ | refine B2 (q1) ?_ | refine B3 (q1) ?_ | refine B4 (q1) ?_
        first | refine B1 (q2) ?_ | refine B2 (q2) ?_ | refine B3 (q2) ?_ | refine B4 (q2) ?_
        exact x8r 4 rfl (by omega) (E1 (hK _ _ _ _ _ _ _ _))
  · refine r7n i3 ?_
    first | refine B1 (by decide) ?_ | refine B2 (by decide) ?_ | refine B3 (by decide) ?_ | refine B4 (by decide) ?_
    refine x7r 1 rfl (by omega) ⟨v1, v2, v3, r8n i3 ?_⟩
    first | refine B1 (by decide) ?_ | refine B2 (by decide) ?_ | refine B3 (by decide) ?_ | refine B4 (by decide) ?_
    exact x8r 1 rfl (by omega) (E1 (hK _ _ _ _ _ _ _ _))
