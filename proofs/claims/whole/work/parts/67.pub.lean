/-! ===== fits, status ===== -/
def ffz (ok : Nat → Bool) : Nat → Nat → Int32
  | 0, _ => -9
  | d + 1, z => if ok z then ffz ok d (z + 1) else nI z
theorem fits7 {post : Int32 → (Nat → Int32) → Int64 → Int32 → Int32 → Int32 → Int32 → Int32 → Int32 → Int32 → Int32 → Int32 → Int32 → Prop} {E F b n fn r p t : Nat} {low : Int} {R : Nat → Int32} {p6 p7 p8 : Int32} {ok : Nat → Bool} (h : MK E F b n low) (hf : fn < 5) (hr : r < 5) (hpp : p * 2 ^ F + 2 ^ F ≤ n) (ht : t < 2 ^ F)
    (hok : ok = fun z => lg_cmp ((p6.toInt64 + (p7.toInt64 * (nI z).toInt64)) >>> (p8.toInt64 &&& 63)) (nI (RES E F n low fn (p * 2 ^ F + z) r)).toInt64 == 0) :
    ∀ (d z : Nat) (v1 : Int64) (v2 v3 v4 v5 v6 v7 v8 v9 v10 v11 : Int32), z + d = t + 1 → (∀ (v1 : Int64) (v2 v3 v4 v5 v6 v7 v8 v9 v10 v11 : Int32), post (ffz ok d z) R v1 v2 v3 v4 v5 v6 v7 v8 v9 v10 v11) → wp_X7_fits_126 post (nI F) (nI b) (nI (2 ^ (E + F))) (nI n) (nI fn) (nI r) (nI p) (nI t) p6 p7 p8 (d + 1) R v1 v2 v3 v4 v5 v6 v7 v8 v9 v10 v11 (nI z) := by
  obtain ⟨m1, m2, m3, m4, m5, m6⟩ := MK_N h
  have hF := h.2.1
  have hZ : 2 ^ F ≤ 2 ^ 8 := Nat.pow_le_pow_right (by omega) hF
  intro d
  induction d with
  | zero =>
    intro z v1 v2 v3 v4 v5 v6 v7 v8 v9 v10 v11 hz hp
    rw [wp_X7_fits_126_s]
    unfold wp_X7_fits_126_b
    rw [nI_ltI (by omega) (by omega)]
    exact ⟨fun _ => hp _ _ _ _ _ _ _ _ _ _ _, fun q => absurd (by omega) q⟩
  | succ d ih =>
    intro z v1 v2 v3 v4 v5 v6 v7 v8 v9 v10 v11 hz hp
    rw [wp_X7_fits_126_s]
    unfold wp_X7_fits_126_b
    rw [nI_ltI (by omega) (by omega)]
    refine ⟨fun q => by omega, fun _ => ?_⟩
    unfold wp_X1_codeOf wp_X2_onLine
    rw [sh_l (by omega) (by omega), nI_add, nI_1]
    refine MK_r h hf (by omega) hr (fun w1 w2 w3 w4 w5 w6 w7 w8 w9 w10 w11 => ?_)
    have e : ffz ok (d + 1) z = if ok z then ffz ok d (z + 1) else nI z := rfl
    refine ⟨fun q => ih (z + 1) w1 w2 w3 w4 w5 w6 w7 w8 w9 w10 w11 (by omega) ?_, fun q => ?_⟩
    · have o : ok z = true := by rw [hok]; simpa using q
      rw [o, if_pos rfl] at e
      rw [e] at hp
      exact hp
    · have o : ¬ ok z = true := by rw [hok]; simpa using q
      rw [if_neg o] at e
      rw [e] at hp
      exact hp _ _ _ _ _ _ _ _ _ _ _
theorem fits8 {post : Int32 → Int32 → Int32 → Int64 → (Nat → Int32) → Prop} {E F b n fn r p t : Nat} {low : Int} {R : Nat → Int32} {p6 p7 p8 : Int32} {ok : Nat → Bool} (h : MK E F b n low) (hf : fn < 5) (hr : r < 5) (hpp : p * 2 ^ F + 2 ^ F ≤ n) (ht : t < 2 ^ F)
    (hok : ok = fun z => lg_cmp ((p6.toInt64 + (p7.toInt64 * (nI z).toInt64)) >>> (p8.toInt64 &&& 63)) (nI (RES E F n low fn (p * 2 ^ F + z) r)).toInt64 == 0) :
    ∀ (d z : Nat) (a1 a2 : Int32) (a3 : Int64), z + d = t + 1 → (∀ a1 a2 a3, post (ffz ok d z) a1 a2 a3 R) → wp_X8_fits_122 post (nI F) (nI (n - 1)) (nI (2 ^ (E + F))) (iI low) (nI fn) (nI r) (nI p) (nI t) p6 p7 p8 (d + 1) a1 a2 a3 R (nI z) := by
  obtain ⟨m1, m2, m3, m4, m5, m6⟩ := MK_N h
  have hF := h.2.1
  have hZ : 2 ^ F ≤ 2 ^ 8 := Nat.pow_le_pow_right (by omega) hF
  intro d
  induction d with
  | zero =>
    intro z a1 a2 a3 hz hp
    rw [wp_X8_fits_122_s]
    unfold wp_X8_fits_122_b
    rw [nI_ltI (by omega) (by omega)]
    exact ⟨fun _ => hp _ _ _, fun q => absurd (by omega) q⟩
  | succ d ih =>
    intro z a1 a2 a3 hz hp
    rw [wp_X8_fits_122_s]
    unfold wp_X8_fits_122_b
    rw [nI_ltI (by omega) (by omega), sh_l (by omega) (by omega), nI_add, nI_1]
    refine ⟨fun q => by omega, fun _ => X8_rightOf h hf (by omega) hr (fun x1 x2 x3 => ?_)⟩
    have e : ffz ok (d + 1) z = if ok z then ffz ok d (z + 1) else nI z := rfl
    refine ⟨fun q => ih (z + 1) _ _ _ (by omega) ?_, fun q => ?_⟩
    · have o : ok z = true := by rw [hok]; simpa using q
      rw [o, if_pos rfl] at e
      rw [e] at hp
      exact hp
    · have o : ¬ ok z = true := by rw [hok]; simpa using q
      rw [if_neg o] at e
      rw [e] at hp
      exact hp _ _ _
theorem J_fits {K : (Nat → Int32) → Int64 → Int32 → Int32 → Int32 → Int32 → Int32 → Int32 → Int32 → Int32 → Int32 → Int32 → Int32 → Int32 → Int64 → (Nat → Int32) → Prop} {V1 V2 V3 V4 V5 V6 V7 V8 : Prop} (y1 : V1) (y2 : V2) (y3 : V3) (y4 : V4) (y5 : V5) (y6 : V6) (y7 : V7) (y8 : V8) {E F b n : Nat} {low : Int} {R : Nat → Int32} {p1 p2 p3 p4 p5 p6 p7 p8 a1 a2 : Int32} {a3 : Int64} {v1 : Int64} {v2 v3 v4 v5 v6 v7 v8 v9 v10 v11 : Int32} (h : MK E F b n low) (hnE : n = (2 ^ E - 1) * 2 ^ F) (hK : ∀ R' (v1 : Int64) (v2 v3 v4 v5 v6 v7 v8 v9 v10 v11 : Int32) a1 a2 a3, K R' v1 v2 v3 v4 v5 v6 v7 v8 v9 v10 v11 a1 a2 a3 R') :
    wp_X7_fits (fun r u w1 w2 w3 w4 w5 w6 w7 w8 w9 w10 w11 => V1 ∧ (V2 ∧ (V3 ∧ (V4 ∧ (V5 ∧ (V6 ∧ (V7 ∧ (V8 ∧ (wp_X8_fits (fun r' b1 b2 b3 b4 => ((r = r') → K u w1 w2 w3 w4 w5 w6 w7 w8 w9 w10 w11 b1 b2 b3 b4) ∧ (¬ (r = r') → False)) (nI E) (nI F) (nI (n - 1)) (nI (2 ^ (E + F))) (iI low) a1 a2 a3 R p1 p2 p3 p4 p5 p6 p7 p8))))))))) R (nI E) (nI F) (nI b) (nI (2 ^ (E + F))) (nI n) v1 v2 v3 v4 v5 v6 v7 v8 v9 v10 v11 p1 p2 p3 p4 p5 p6 p7 p8 := by
  have hE := h.1
  have hF := h.2.1
  have V : ∀ {A : Prop}, A → V1 ∧ (V2 ∧ (V3 ∧ (V4 ∧ (V5 ∧ (V6 ∧ (V7 ∧ (V8 ∧ A))))))) := fun a => ⟨y1, y2, y3, y4, y5, y6, y7, y8, a⟩
  have KK : ∀ R' (v1 : Int64) (v2 v3 v4 v5 v6 v7 v8 v9 v10 v11 : Int32) a1 a2 a3, K R' v1 v2 v3 v4 v5 v6 v7 v8 v9 v10 v11 a1 a2 a3 R' := hK
  unfold wp_X7_fits wp_X8_fits wp_X7_fits_25 wp_X7_fits_62 wp_X7_fits_87 wp_X7_fits_115 wp_X8_fits_58 wp_X8_fits_83 wp_X8_fits_111
  by_cases i1 : IN p1 5
  · obtain ⟨fn, hf, rfl⟩ := i1
    refine f7y hf ?_
    first | refine B1 (by decide) ?_ | refine B2 (by decide) ?_ | refine B3 (by decide) ?_ | refine B4 (by decide) ?_
    by_cases i2 : IN p2 5
    · obtain ⟨r, hr, rfl⟩ := i2
      refine r7y hr ?_
      first | refine B1 (by decide) ?_ | refine B2 (by decide) ?_ | refine B3 (by decide) ?_ | refine B4 (by decide) ?_
      by_cases i3 : PW p3 E
      · obtain ⟨p, hp1, hp2, rfl⟩ := i3
        refine p7y hE hp1 hp2 ?_
        first | refine B1 (by decide) ?_ | refine B2 (by decide) ?_ | refine B3 (by decide) ?_ | refine B4 (by decide) ?_
        by_cases i4 : IN p4 (2 ^ F)
        · obtain ⟨z, hz, rfl⟩ := i4
          refine z7y hF hz ?_
          first | refine B1 (by decide) ?_ | refine B2 (by decide) ?_ | refine B3 (by decide) ?_ | refine B4 (by decide) ?_
          by_cases i5 : IN p5 (2 ^ F)
          · obtain ⟨t, ht, rfl⟩ := i5
            refine z7y hF ht ?_
            first | refine B1 (by decide) ?_ | refine B2 (by decide) ?_ | refine B3 (by decide) ?_ | refine B4 (by decide) ?_
            by_cases q0 : nI z ≤ nI t
            · by_cases q1 : p6 < -1000000000
              · first | refine B1 (q0) ?_ | refine B2 (q0) ?_ | refine B3 (q0) ?_ | refine B4 (q0) ?_
                first | refine B1 (q1) ?_ | refine B2 (q1) ?_ | refine B3 (q1) ?_ | refine B4 (q1) ?_
                refine x7r 4 rfl (by omega) (V (f8y hf ?_))
                first | refine B1 (by decide) ?_ | refine B2 (by decide) ?_ | refine B3 (by decide) ?_ | refine B4 (by decide) ?_
                refine r8y hr ?_
                first | refine B1 (by decide) ?_ | refine B2 (by decide) ?_ | refine B3 (by decide) ?_ | refine B4 (by decide) ?_
                refine p8y hE hp1 hp2 ?_
                first | refine B1 (by decide) ?_ | refine B2 (by decide) ?_ | refine B3 (by decide) ?_ | refine B4 (by decide) ?_
                refine z8y hF hz ?_
                first | refine B1 (by decide) ?_ | refine B2 (by decide) ?_ | refine B3 (by decide) ?_ | refine B4 (by decide) ?_
                refine z8y hF ht ?_
                first | refine B1 (by decide) ?_ | refine B2 (by decide) ?_ | refine B3 (by decide) ?_ | refine B4 (by decide) ?_
                first | refine B1 (q0) ?_ | refine B2 (q0) ?_ | refine B3 (q0) ?_ | refine B4 (q0) ?_
                first | refine B1 (q1) ?_ | refine B2 (q1) ?_ | refine B3 (q1) ?_ | refine B4 (q1) ?_
                exact x8r 4 rfl (by omega) (E1 (KK _ _ _ _ _ _ _ _ _ _ _ _ _ _ _))
              · by_cases q2 : p7 < -1000000000
                · first | refine B1 (q0) ?_ | refine B2 (q0) ?_ | refine B3 (q0) ?_ | refine B4 (q0) ?_
                  first | refine B1 (q1) ?_ | refine B2 (q1) ?_ | refine B3 (q1) ?_ | refine B4 (q1) ?_
                  first | refine B1 (q2) ?_ | refine B2 (q2) ?_ | refine B3 (q2) ?_ | refine B4 (q2) ?_
                  refine x7r 4 rfl (by omega) (V (f8y hf ?_))
                  first | refine B1 (by decide) ?_ | refine B2 (by decide) ?_ | refine B3 (by decide) ?_ | refine B4 (by decide) ?_
                  refine r8y hr ?_
                  first | refine B1 (by decide) ?_ | refine B2 (by decide) ?_ | refine B3 (by decide) ?_ | refine B4 (by decide) ?_
                  refine p8y hE hp1 hp2 ?_
                  first | refine B1 (by decide) ?_ | refine B2 (by decide) ?_ | refine B3 (by decide) ?_ | refine B4 (by decide) ?_
                  refine z8y hF hz ?_
                  first | refine B1 (by decide) ?_ | refine B2 (by decide) ?_ | refine B3 (by decide) ?_ | refine B4 (by decide) ?_
                  refine z8y hF ht ?_
                  first | refine B1 (by decide) ?_ | refine B2 (by decide) ?_ | refine B3 (by decide) ?_ | refine B4 (by decide) ?_
                  first | refine B1 (q0) ?_ | refine B2 (q0) ?_ | refine B3 (q0) ?_ | refine B4 (q0) ?_
                  first | refine B1 (q1) ?_ | refine B2 (q1) ?_ | refine B3 (q1) ?_ | refine B4 (q1) ?_
                  first | refine B1 (q2) ?_ | refine B2 (q2) ?_ | refine B3 (q2) ?_ | refine B4 (q2) ?_
                  exact x8r 4 rfl (by omega) (E1 (KK _ _ _ _ _ _ _ _ _ _ _ _ _ _ _))
                · by_cases q3 : 0 ≤ p8
                  · by_cases q4 : 1000000000 < p6
                    · first | refine B1 (q0) ?_ | refine B2 (q0) ?_ | refine B3 (q0) ?_ | refine B4 (q0) ?_
                      first | refine B1 (q1) ?_ | refine B2 (q1) ?_ | refine B3 (q1) ?_ | refine B4 (q1) ?_
                      first | refine B1 (q2) ?_ | refine B2 (q2) ?_ | refine B3 (q2) ?_ | refine B4 (q2) ?_
                      first | refine B1 (q3) ?_ | refine B2 (q3) ?_ | refine B3 (q3) ?_ | refine B4 (q3) ?_
                      first | refine B1 (q4) ?_ | refine B2 (q4) ?_ | refine B3 (q4) ?_ | refine B4 (q4) ?_
                      refine x7r 6 rfl (by omega) (V (f8y hf ?_))
                      first | refine B1 (by decide) ?_ | refine B2 (by decide) ?_ | refine B3 (by decide) ?_ | refine B4 (by decide) ?_
                      refine r8y hr ?_
                      first | refine B1 (by decide) ?_ | refine B2 (by decide) ?_ | refine B3 (by decide) ?_ | refine B4 (by decide) ?_
                      refine p8y hE hp1 hp2 ?_
                      first | refine B1 (by decide) ?_ | refine B2 (by decide) ?_ | refine B3 (by decide) ?_ | refine B4 (by decide) ?_
                      refine z8y hF hz ?_
                      first | refine B1 (by decide) ?_ | refine B2 (by decide) ?_ | refine B3 (by decide) ?_ | refine B4 (by decide) ?_
                      refine z8y hF ht ?_
                      first | refine B1 (by decide) ?_ | refine B2 (by decide) ?_ | refine B3 (by decide) ?_ | refine B4 (by decide) ?_
                      first | refine B1 (q0) ?_ | refine B2 (q0) ?_ | refine B3 (q0) ?_ | refine B4 (q0) ?_
                      first | refine B1 (q1) ?_ | refine B2 (q1) ?_ | refine B3 (q1) ?_ | refine B4 (q1) ?_
                      first | refine B1 (q2) ?_ | refine B2 (q2) ?_ | refine B3 (q2) ?_ | refine B4 (q2) ?_
                      first | refine B1 (q3) ?_ | refine B2 (q3) ?_ | refine B3 (q3) ?_ | refine B4 (q3) ?_
                      first | refine B1 (q4) ?_ | refine B2 (q4) ?_ | refine B3 (q4) ?_ | refine B4 (q4) ?_
                      exact x8r 6 rfl (by omega) (E1 (KK _ _ _ _ _ _ _ _ _ _ _ _ _ _ _))
                    · by_cases q5 : 1000000000 < p7
                      · first | refine B1 (q0) ?_ | refine B2 (q0) ?_ | refine B3 (q0) ?_ | refine B4 (q0) ?_
                        first | refine B1 (q1) ?_ | refine B2 (q1) ?_ | refine B3 (q1) ?_ | refine B4 (q1) ?_
                        first | refine B1 (q2) ?_ | refine B2 (q2) ?_ | refine B3 (q2) ?_ | refine B4 (q2) ?_
                        first | refine B1 (q3) ?_ | refine B2 (q3) ?_ | refine B3 (q3) ?_ | refine B4 (q3) ?_
                        first | refine B1 (q4) ?_ | refine B2 (q4) ?_ | refine B3 (q4) ?_ | refine B4 (q4) ?_
                        first | refine B1 (q5) ?_ | refine B2 (q5) ?_ | refine B3 (q5) ?_ | refine B4 (q5) ?_
                        refine x7r 6 rfl (by omega) (V (f8y hf ?_))
                        first | refine B1 (by decide) ?_ | refine B2 (by decide) ?_ | refine B3 (by decide) ?_ | refine B4 (by decide) ?_
                        refine r8y hr ?_
                        first | refine B1 (by decide) ?_ | refine B2 (by decide) ?_ | refine B3 (by decide) ?_ | refine B4 (by decide) ?_
                        refine p8y hE hp1 hp2 ?_
                        first | refine B1 (by decide) ?_ | refine B2 (by decide) ?_ | refine B3 (by decide) ?_ | refine B4 (by decide) ?_
                        refine z8y hF hz ?_
                        first | refine B1 (by decide) ?_ | refine B2 (by decide) ?_ | refine B3 (by decide) ?_ | refine B4 (by decide) ?_
                        refine z8y hF ht ?_
                        first | refine B1 (by decide) ?_ | refine B2 (by decide) ?_ | refine B3 (by decide) ?_ | refine B4 (by decide) ?_
                        first | refine B1 (q0) ?_ | refine B2 (q0) ?_ | refine B3 (q0) ?_ | refine B4 (q0) ?_
                        first | refine B1 (q1) ?_ | refine B2 (q1) ?_ | refine B3 (q1) ?_ | refine B4 (q1) ?_
                        first | refine B1 (q2) ?_ | refine B2 (q2) ?_ | refine B3 (q2) ?_ | refine B4 (q2) ?_
                        first | refine B1 (q3) ?_ | refine B2 (q3) ?_ | refine B3 (q3) ?_ | refine B4 (q3) ?_
                        first | refine B1 (q4) ?_ | refine B2 (q4) ?_ | refine B3 (q4) ?_ | refine B4 (q4) ?_
                        first | refine B1 (q5) ?_ | refine B2 (q5) ?_ | refine B3 (q5) ?_ | refine B4 (q5) ?_
                        exact x8r 6 rfl (by omega) (E1 (KK _ _ _ _ _ _ _ _ _ _ _ _ _ _ _))
                      · by_cases q6 : p8 ≤ 10
                        · first | refine B1 (q0) ?_ | refine B2 (q0) ?_ | refine B3 (q0) ?_ | refine B4 (q0) ?_
                          first | refine B1 (q1) ?_ | refine B2 (q1) ?_ | refine B3 (q1) ?_ | refine B4 (q1) ?_
                          first | refine B1 (q2) ?_ | refine B2 (q2) ?_ | refine B3 (q2) ?_ | refine B4 (q2) ?_
                          first | refine B1 (q3) ?_ | refine B2 (q3) ?_ | refine B3 (q3) ?_ | refine B4 (q3) ?_
                          first | refine B1 (q4) ?_ | refine B2 (q4) ?_ | refine B3 (q4) ?_ | refine B4 (q4) ?_
                          first | refine B1 (q5) ?_ | refine B2 (q5) ?_ | refine B3 (q5) ?_ | refine B4 (q5) ?_
                          first | refine B1 (q6) ?_ | refine B2 (q6) ?_ | refine B3 (q6) ?_ | refine B4 (q6) ?_
                          have hZ : 2 ^ F ≤ 2 ^ 8 := Nat.pow_le_pow_right (by omega) hF
                          have hzt : z ≤ t := (nI_leI (by omega) (by omega)).mp q0
                          have hpp : p * 2 ^ F + 2 ^ F ≤ n := by
                            have : (p + 1) * 2 ^ F ≤ (2 ^ E - 1) * 2 ^ F := Nat.mul_le_mul_right _ (by omega)
                            rw [Nat.add_mul, Nat.one_mul] at this
                            omega
                          refine ⟨t + 1 - z + 1, fits7 h hf hr hpp ht rfl (t + 1 - z) z v1 v2 v3 v4 v5 v6 v7 v8 v9 v10 v11 (by omega) (fun w1 w2 w3 w4 w5 w6 w7 w8 w9 w10 w11 => V (f8y hf ?_))⟩
                          first | refine B1 (by decide) ?_ | refine B2 (by decide) ?_ | refine B3 (by decide) ?_ | refine B4 (by decide) ?_
                          refine r8y hr ?_
                          first | refine B1 (by decide) ?_ | refine B2 (by decide) ?_ | refine B3 (by decide) ?_ | refine B4 (by decide) ?_
                          refine p8y hE hp1 hp2 ?_
                          first | refine B1 (by decide) ?_ | refine B2 (by decide) ?_ | refine B3 (by decide) ?_ | refine B4 (by decide) ?_
                          refine z8y hF hz ?_
                          first | refine B1 (by decide) ?_ | refine B2 (by decide) ?_ | refine B3 (by decide) ?_ | refine B4 (by decide) ?_
                          refine z8y hF ht ?_
                          first | refine B1 (by decide) ?_ | refine B2 (by decide) ?_ | refine B3 (by decide) ?_ | refine B4 (by decide) ?_
                          first | refine B1 (q0) ?_ | refine B2 (q0) ?_ | refine B3 (q0) ?_ | refine B4 (q0) ?_
                          first | refine B1 (q1) ?_ | refine B2 (q1) ?_ | refine B3 (q1) ?_ | refine B4 (q1) ?_
                          first | refine B1 (q2) ?_ | refine B2 (q2) ?_ | refine B3 (q2) ?_ | refine B4 (q2) ?_
                          first | refine B1 (q3) ?_ | refine B2 (q3) ?_ | refine B3 (q3) ?_ | refine B4 (q3) ?_
                          first | refine B1 (q4) ?_ | refine B2 (q4) ?_ | refine B3 (q4) ?_ | refine B4 (q4) ?_
                          first | refine B1 (q5) ?_ | refine B2 (q5) ?_ | refine B3 (q5) ?_ | refine B4 (q5) ?_
                          first | refine B1 (q6) ?_ | refine B2 (q6) ?_ | refine B3 (q6) ?_ | refine B4 (q6) ?_
                          exact ⟨t + 1 - z + 1, fits8 h hf hr hpp ht rfl (t + 1 - z) z a1 a2 a3 (by omega) (fun x1 x2 x3 => E1 (KK _ _ _ _ _ _ _ _ _ _ _ _ _ _ _))⟩
                        · first | refine B1 (q0) ?_ | refine B2 (q0) ?_ | refine B3 (q0) ?_ | refine B4 (q0) ?_
                          first | refine B1 (q1) ?_ | refine B2 (q1) ?_ | refine B3 (q1) ?_ | refine B4 (q1) ?_
                          first | refine B1 (q2) ?_ | refine B2 (q2) ?_ | refine B3 (q2) ?_ | refine B4 (q2) ?_
                          first | refine B1 (q3) ?_ | refine B2 (q3) ?_ | refine B3 (q3) ?_ | refine B4 (q3) ?_
                          first | refine B1 (q4) ?_ | refine B2 (q4) ?_ | refine B3 (q4) ?_ | refine B4 (q4) ?_
                          first | refine B1 (q5) ?_ | refine B2 (q5) ?_ | refine B3 (q5) ?_ | refine B4 (q5) ?_
                          first | refine B1 (q6) ?_ | refine B2 (q6) ?_ | refine B3 (q6) ?_ | refine B4 (q6) ?_
                          refine x7r 6 rfl (by omega) (V (f8y hf ?_))
                          first | refine B1 (by decide) ?_ | refine B2 (by decide) ?_ | refine B3 (by decide) ?_ | refine B4 (by decide) ?_
                          refine r8y hr ?_
                          first | refine B1 (by decide) ?_ | refine B2 (by decide) ?_ | refine B3 (by decide) ?_ | refine B4 (by decide) ?_
                          refine p8y hE hp1 hp2 ?_
                          first | refine B1 (by decide) ?_ | refine B2 (by decide) ?_ | refine B3 (by decide) ?_ | refine B4 (by decide) ?_
                          refine z8y hF hz ?_
                          first | refine B1 (by decide) ?_ | refine B2 (by decide) ?_ | refine B3 (by decide) ?_ | refine B4 (by decide) ?_
                          refine z8y hF ht ?_
                          first | refine B1 (by decide) ?_ | refine B2 (by decide) ?_ | refine B3 (by decide) ?_ | refine B4 (by decide) ?_
                          first | refine B1 (q0) ?_ | refine B2 (q0) ?_ | refine B3 (q0) ?_ | refine B4 (q0) ?_
                          first | refine B1 (q1) ?_ | refine B2 (q1) ?_ | refine B3 (q1) ?_ | refine B4 (q1) ?_
                          first | refine B1 (q2) ?_ | refine B2 (q2) ?_ | refine B3 (q2) ?_ | refine B4 (q2) ?_
                          first | refine B1 (q3) ?_ | refine B2 (q3) ?_ | refine B3 (q3) ?_ | refine B4 (q3) ?_
                          first | refine B1 (q4) ?_ | refine B2 (q4) ?_ | refine B3 (q4) ?_ | refine B4 (q4) ?_
                          first | refine B1 (q5) ?_ | refine B2 (q5) ?_ | refine B3 (q5) ?_ | refine B4 (q5) ?_
                          first | refine B1 (q6) ?_ | refine B2 (q6) ?_ | refine B3 (q6) ?_ | refine B4 (q6) ?_
                          exact x8r 6 rfl (by omega) (E1 (KK _ _ _ _ _ _ _ _ _ _ _ _ _ _ _))
                  · first | refine B1 (q0) ?_ | refine B2 (q0) ?_ | refine B3 (q0) ?_ | refine B4 (q0) ?_
                    first | refine B1 (q1) ?_ | refine B2 (q1) ?_ | refine B3 (q1) ?_ | refine B4 (q1) ?_
                    first | refine B1 (q2) ?_ | refine B2 (q2) ?_ | refine B3 (q2) ?_ | refine B4 (q2) ?_
                    first | refine B1 (q3) ?_ | refine B2 (q3) ?_ | refine B3 (q3) ?_ | refine B4 (q3) ?_
                    refine x7r 4 rfl (by omega) (V (f8y hf ?_))
                    first | refine B1 (by decide) ?_ | refine B2 (by decide) ?_ | refine B3 (by decide) ?_ | refine B4 (by decide) ?_
                    refine r8y hr ?_
                    first | refine B1 (by decide) ?_ | refine B2 (by decide) ?_ | refine B3 (by decide) ?_ | refine B4 (by decide) ?_
                    refine p8y hE hp1 hp2 ?_
                    first | refine B1 (by decide) ?_ | refine B2 (by decide) ?_ | refine B3 (by decide) ?_ | refine B4 (by decide) ?_
                    refine z8y hF hz ?_
                    first | refine B1 (by decide) ?_ | refine B2 (by decide) ?_ | refine B3 (by decide) ?_ | refine B4 (by decide) ?_
                    refine z8y hF ht ?_
                    first | refine B1 (by decide) ?_ | refine B2 (by decide) ?_ | refine B3 (by decide) ?_ | refine B4 (by decide) ?_
                    first | refine B1 (q0) ?_ | refine B2 (q0) ?_ | refine B3 (q0) ?_ | refine B4 (q0) ?_
                    first | refine B1 (q1) ?_ | refine B2 (q1) ?_ | refine B3 (q1) ?_ | refine B4 (q1) ?_
                    first | refine B1 (q2) ?_ | refine B2 (q2) ?_ | refine B3 (q2) ?_ | refine B4 (q2) ?_
                    first | refine B1 (q3) ?_ | refine B2 (q3) ?_ | refine B3 (q3) ?_ | refine B4 (q3) ?_
                    exact x8r 4 rfl (by omega) (E1 (KK _ _ _ _ _ _ _ _ _ _ _ _ _ _ _))
            · first | refine B1 (q0) ?_ | refine B2 (q0) ?_ | refine B3 (q0) ?_ | refine B4 (q0) ?_
              refine x7r 1 rfl (by omega) (V (f8y hf ?_))
              first | refine B1 (by decide) ?_ | refine B2 (by decide) ?_ | refine B3 (by decide) ?_ | refine B4 (by decide) ?_
              refine r8y hr ?_
              first | refine B1 (by decide) ?_ | refine B2 (by decide) ?_ | refine B3 (by decide) ?_ | refine B4 (by decide) ?_
              refine p8y hE hp1 hp2 ?_
              first | refine B1 (by decide) ?_ | refine B2 (by decide) ?_ | refine B3 (by decide) ?_ | refine B4 (by decide) ?_
              refine z8y hF hz ?_
              first | refine B1 (by decide) ?_ | refine B2 (by decide) ?_ | refine B3 (by decide) ?_ | refine B4 (by decide) ?_
              refine z8y hF ht ?_
              first | refine B1 (by decide) ?_ | refine B2 (by decide) ?_ | refine B3 (by decide) ?_ | refine B4 (by decide) ?_
              first | refine B1 (q0) ?_ | refine B2 (q0) ?_ | refine B3 (q0) ?_ | refine B4 (q0) ?_
              exact x8r 1 rfl (by omega) (E1 (KK _ _ _ _ _ _ _ _ _ _ _ _ _ _ _))
          · refine z7n hF i5 ?_
            first | refine B1 (by decide) ?_ | refine B2 (by decide) ?_ | refine B3 (by decide) ?_ | refine B4 (by decide) ?_
            refine x7r 1 rfl (by omega) (V (f8y hf ?_))
            first | refine B1 (by decide) ?_ | refine B2 (by decide) ?_ | refine B3 (by decide) ?_ | refine B4 (by decide) ?_
            refine r8y hr ?_
            first | refine B1 (by decide) ?_ | refine B2 (by decide) ?_ | refine B3 (by decide) ?_ | refine B4 (by decide) ?_
            refine p8y hE hp1 hp2 ?_
            first | refine B1 (by decide) ?_ | refine B2 (by decide) ?_ | refine B3 (by decide) ?_ | refine B4 (by decide) ?_
            refine z8y hF hz ?_
            first | refine B1 (by decide) ?_ | refine B2 (by decide) ?_ | refine B3 (by decide) ?_ | refine B4 (by decide) ?_
            refine z8n hF i5 ?_
            first | refine B1 (by decide) ?_ | refine B2 (by decide) ?_ | refine B3 (by decide) ?_ | refine B4 (by decide) ?_
            exact x8r 1 rfl (by omega) (E1 (KK _ _ _ _ _ _ _ _ _ _ _ _ _ _ _))
        · refine z7n hF i4 ?_
          first | refine B1 (by decide) ?_ | refine B2 (by decide) ?_ | refine B3 (by decide) ?_ | refine B4 (by decide) ?_
          refine x7r 1 rfl (by omega) (V (f8y hf ?_))
          first | refine B1 (by decide) ?_ | refine B2 (by decide) ?_ | refine B3 (by decide) ?_ | refine B4 (by decide) ?_
          refine r8y hr ?_
          first | refine B1 (by decide) ?_ | refine B2 (by decide) ?_ | refine B3 (by decide) ?_ | refine B4 (by decide) ?_
          refine p8y hE hp1 hp2 ?_
          first | refine B1 (by decide) ?_ | refine B2 (by decide) ?_ | refine B3 (by decide) ?_ | refine B4 (by decide) ?_
          refine z8n hF i4 ?_
          first | refine B1 (by decide) ?_ | refine B2 (by decide) ?_ | refine B3 (by decide) ?_ | refine B4 (by decide) ?_
          exact x8r 1 rfl (by omega) (E1 (KK _ _ _ _ _ _ _ _ _ _ _ _ _ _ _))
      · refine p7n hE i3 ?_
        first | refine B1 (by decide) ?_ | refine B2 (by decide) ?_ | refine B3 (by decide) ?_ | refine B4 (by decide) ?_
        refine x7r 1 rfl (by omega) (V (f8y hf ?_))
        first | refine B1 (by decide) ?_ | refine B2 (by decide) ?_ | refine B3 (by decide) ?_ | refine B4 (by decide) ?_
        refine r8y hr ?_
        first | refine B1 (by decide) ?_ | refine B2 (by decide) ?_ | refine B3 (by decide) ?_ | refine B4 (by decide) ?_
        refine p8n hE i3 ?_
        first | refine B1 (by decide) ?_ | refine B2 (by decide) ?_ | refine B3 (by decide) ?_ | refine B4 (by decide) ?_
        exact x8r 1 rfl (by omega) (E1 (KK _ _ _ _ _ _ _ _ _ _ _ _ _ _ _))
    · refine r7n i2 ?_
      first | refine B1 (by decide) ?_ | refine B2 (by decide) ?_ | refine B3 (by decide) ?_ | refine B4 (by decide) ?_
      refine x7r 1 rfl (by omega) (V (f8y hf ?_))
      first | refine B1 (by decide) ?_ | refine B2 (by decide) ?_ | refine B3 (by decide) ?_ | refine B4 (by decide) ?_
      refine r8n i2 ?_
      first | refine B1 (by decide) ?_ | refine B2 (by decide) ?_ | refine B3 (by decide) ?_ | refine B4 (by decide) ?_
      exact x8r 1 rfl (by omega) (E1 (KK _ _ _ _ _ _ _ _ _ _ _ _ _ _ _))
  · refine f7n i1 ?_
    first | refine B1 (by decide) ?_ | refine B2 (by decide) ?_ | refine B3 (by decide) ?_ | refine B4 (by decide) ?_
    refine x7r 1 rfl (by omega) (V (f8n i1 ?_))
    first | refine B1 (by decide) ?_ | refine B2 (by decide) ?_ | refine B3 (by decide) ?_ | refine B4 (by decide) ?_
    exact x8r 1 rfl (by omega) (E1 (KK _ _ _ _ _ _ _ _ _ _ _ _ _ _ _))
theorem J_status {K V1 : Prop} (v1 : V1) {F : Nat} {R lF lA lB mP mQ : Nat → Int32} {mA mB : Nat → Int64} {e f c p1 lp ls mp ms : Int32} (hT : TJ F lp ls lF lA lB mp ms mP mQ mA mB) (hK : K) :
    wp_X7_status (fun r => V1 ∧ (wp_X8_status (fun r' => ((r = r') → K) ∧ (¬ (r = r') → False)) e f c mp R p1)) R e f c lp p1 := by
  obtain ⟨P, s, fr, A, B, hw, hx, hm⟩ := hT
  obtain ⟨t1, t2, t3, t4, t5⟩ := id hw
  obtain ⟨x1, x2, x3⟩ := id hx
  obtain ⟨y1, y2, y3⟩ := id hm
  unfold wp_X7_status wp_X8_status wp_X2_parts wp_X8_status_22
  by_cases q0 : p1 = 0
  · subst q0
    first | refine B1 (by decide) ?_ | refine B2 (by decide) ?_ | refine B3 (by decide) ?_ | refine B4 (by decide) ?_
    refine ⟨v1, ?_⟩
    first | refine B1 (by decide) ?_ | refine B2 (by decide) ?_ | refine B3 (by decide) ?_ | refine B4 (by decide) ?_
    first | refine B1 (by decide) ?_ | refine B2 (by decide) ?_ | refine B3 (by decide) ?_ | refine B4 (by decide) ?_
    exact E1 hK
  · first | refine B1 (q0) ?_ | refine B2 (q0) ?_ | refine B3 (q0) ?_ | refine B4 (q0) ?_
    by_cases q1 : p1 = 1
    · subst q1
      first | refine B1 (by decide) ?_ | refine B2 (by decide) ?_ | refine B3 (by decide) ?_ | refine B4 (by decide) ?_
      refine ⟨v1, ?_⟩
      first | refine B1 (by decide) ?_ | refine B2 (by decide) ?_ | refine B3 (by decide) ?_ | refine B4 (by decide) ?_
      first | refine B1 (by decide) ?_ | refine B2 (by decide) ?_ | refine B3 (by decide) ?_ | refine B4 (by decide) ?_
      first | refine B1 (by decide) ?_ | refine B2 (by decide) ?_ | refine B3 (by decide) ?_ | refine B4 (by decide) ?_
      exact E1 hK
    · first | refine B1 (q1) ?_ | refine B2 (q1) ?_ | refine B3 (q1) ?_ | refine B4 (q1) ?_
      by_cases q2 : p1 = 2
      · subst q2
        first | refine B1 (by decide) ?_ | refine B2 (by decide) ?_ | refine B3 (by decide) ?_ | refine B4 (by decide) ?_
        refine ⟨v1, ?_⟩
        first | refine B1 (by decide) ?_ | refine B2 (by decide) ?_ | refine B3 (by decide) ?_ | refine B4 (by decide) ?_
        first | refine B1 (by decide) ?_ | refine B2 (by decide) ?_ | refine B3 (by decide) ?_ | refine B4 (by decide) ?_
        first | refine B1 (by decide) ?_ | refine B2 (by decide) ?_ | refine B3 (by decide) ?_ | refine B4 (by decide) ?_
        first | refine B1 (by decide) ?_ | refine B2 (by decide) ?_ | refine B3 (by decide) ?_ | refine B4 (by decide) ?_
        exact E1 hK
      · first | refine B1 (q2) ?_ | refine B2 (q2) ?_ | refine B3 (q2) ?_ | refine B4 (q2) ?_
        by_cases q3 : p1 = 3
        · subst q3
          first | refine B1 (by decide) ?_ | refine B2 (by decide) ?_ | refine B3 (by decide) ?_ | refine B4 (by decide) ?_
          rw [x1]
          by_cases z : P = 0
          · rw [z]
            first | refine B1 (by decide) ?_ | refine B2 (by decide) ?_ | refine B3 (by decide) ?_ | refine B4 (by decide) ?_
            refine ⟨v1, ?_⟩
            first | refine B1 (by decide) ?_ | refine B2 (by decide) ?_ | refine B3 (by decide) ?_ | refine B4 (by decide) ?_
            first | refine B1 (by decide) ?_ | refine B2 (by decide) ?_ | refine B3 (by decide) ?_ | refine B4 (by decide) ?_
            first | refine B1 (by decide) ?_ | refine B2 (by decide) ?_ | refine B3 (by decide) ?_ | refine B4 (by decide) ?_
            first | refine B1 (by decide) ?_ | refine B2 (by decide) ?_ | refine B3 (by decide) ?_ | refine B4 (by decide) ?_
            first | refine B1 (by decide) ?_ | refine B2 (by decide) ?_ | refine B3 (by decide) ?_ | refine B4 (by decide) ?_
            rw [y1 z]
            first | refine B1 (by decide) ?_ | refine B2 (by decide) ?_ | refine B3 (by decide) ?_ | refine B4 (by decide) ?_
            exact E1 hK
          · refine B2 (nI_nle (by omega) (by omega)) ⟨v1, ?_⟩
            first | refine B1 (by decide) ?_ | refine B2 (by decide) ?_ | refine B3 (by decide) ?_ | refine B4 (by decide) ?_
            first | refine B1 (by decide) ?_ | refine B2 (by decide) ?_ | refine B3 (by decide) ?_ | refine B4 (by decide) ?_
            first | refine B1 (by decide) ?_ | refine B2 (by decide) ?_ | refine B3 (by decide) ?_ | refine B4 (by decide) ?_
            first | refine B1 (by decide) ?_ | refine B2 (by decide) ?_ | refine B3 (by decide) ?_ | refine B4 (by decide) ?_
            first | refine B1 (by decide) ?_ | refine B2 (by decide) ?_ | refine B3 (by decide) ?_ | refine B4 (by decide) ?_
            rw [(y2 (by omega)).1]
            refine B1 (nI_pos' (by omega)) ?_
            exact E1 hK
        · first | refine B1 (q3) ?_ | refine B2 (q3) ?_ | refine B3 (q3) ?_ | refine B4 (q3) ?_
          by_cases q4 : p1 = 4
          · subst q4
            first | refine B1 (by decide) ?_ | refine B2 (by decide) ?_ | refine B3 (by decide) ?_ | refine B4 (by decide) ?_
            refine ⟨v1, ?_⟩
            first | refine B1 (by decide) ?_ | refine B2 (by decide) ?_ | refine B3 (by decide) ?_ | refine B4 (by decide) ?_
            first | refine B1 (by decide) ?_ | refine B2 (by decide) ?_ | refine B3 (by decide) ?_ | refine B4 (by decide) ?_
            first | refine B1 (by decide) ?_ | refine B2 (by decide) ?_ | refine B3 (by decide) ?_ | refine B4 (by decide) ?_
            first | refine B1 (by decide) ?_ | refine B2 (by decide) ?_ | refine B3 (by decide) ?_ | refine B4 (by decide) ?_
            first | refine B1 (by decide) ?_ | refine B2 (by decide) ?_ | refine B3 (by decide) ?_ | refine B4 (by decide) ?_
            first | refine B1 (by decide) ?_ | refine B2 (by decide) ?_ | refine B3 (by decide) ?_ | refine B4 (by decide) ?_
            rw [x1]
            by_cases z : P = 0
            · rw [y1 z, z]
              exact E1 hK
            · rw [(y2 (by omega)).1, if_pos ((nI_0lt (by omega)).mpr (by omega))]
              exact E1 hK
          · first | refine B1 (q4) ?_ | refine B2 (q4) ?_ | refine B3 (q4) ?_ | refine B4 (q4) ?_
            have c11 : (11 : Int32).toInt = 11 := by decide
            have c10 : (10 : Int32).toInt = 10 := by decide
            have c16 : (16 : Int32).toInt = 16 := by decide
            have c17 : (17 : Int32).toInt = 17 := by decide
            by_cases w1 : p1 < 11
            · first | refine B1 (w1) ?_ | refine B2 (w1) ?_ | refine B3 (w1) ?_ | refine B4 (w1) ?_
              have w2 : p1 ≤ 10 := by rw [Int32.lt_iff_toInt_lt] at w1; rw [Int32.le_iff_toInt_le]; omega
              refine ⟨v1, ?_⟩
              first | refine B1 (w2) ?_ | refine B2 (w2) ?_ | refine B3 (w2) ?_ | refine B4 (w2) ?_
              exact B2 q0 (B2 q1 (B2 q2 (B2 q3 (B2 q4 (E1 hK)))))
            · first | refine B1 (w1) ?_ | refine B2 (w1) ?_ | refine B3 (w1) ?_ | refine B4 (w1) ?_
              have w2 : ¬ p1 ≤ 10 := by rw [Int32.lt_iff_toInt_lt] at w1; rw [Int32.le_iff_toInt_le]; omega
              by_cases w3 : 16 < p1
              · first | refine B1 (w3) ?_ | refine B2 (w3) ?_ | refine B3 (w3) ?_ | refine B4 (w3) ?_
                have w4 : 17 ≤ p1 := by rw [Int32.lt_iff_toInt_lt] at w3; rw [Int32.le_iff_toInt_le]; omega
                refine ⟨v1, ?_⟩
                first | refine B1 (w2) ?_ | refine B2 (w2) ?_ | refine B3 (w2) ?_ | refine B4 (w2) ?_
                first | refine B1 (w4) ?_ | refine B2 (w4) ?_ | refine B3 (w4) ?_ | refine B4 (w4) ?_
                exact B2 q0 (B2 q1 (B2 q2 (B2 q3 (B2 q4 (E1 hK)))))
              · first | refine B1 (w3) ?_ | refine B2 (w3) ?_ | refine B3 (w3) ?_ | refine B4 (w3) ?_
                have w4 : ¬ 17 ≤ p1 := by rw [Int32.lt_iff_toInt_lt] at w3; rw [Int32.le_iff_toInt_le]; omega
                have e9 : ∃ j : Nat, j < 7 ∧ p1 - 10 = nI j := by
                  refine ⟨(p1.toInt - 10).toNat, ?_, ?_⟩
                  · rw [Int32.lt_iff_toInt_lt] at w1 w3; omega
                  · rw [Int32.lt_iff_toInt_lt] at w1 w3
                    have : p1 = iI p1.toInt := (iI_of p1).symm
                    rw [this, show (10 : Int32) = iI 10 from rfl, iI_sub, iI_N, ← this]; congr 1; omega
                obtain ⟨j, hj, ej⟩ := e9
                rw [ej]
                refine X4_at hj (by omega) ⟨v1, ?_⟩
                first | refine B1 (w2) ?_ | refine B2 (w2) ?_ | refine B3 (w2) ?_ | refine B4 (w2) ?_
                first | refine B1 (w4) ?_ | refine B2 (w4) ?_ | refine B3 (w4) ?_ | refine B4 (w4) ?_
                rw [cl_nI (by omega)]
                exact ⟨vp_in_nI hj (by omega), E1 hK⟩
