/-! ===== make ===== -/
def bE (E : Nat) : Nat := 2 ^ (E - 1) - 1
def nE (E F : Nat) : Nat := (2 ^ E - 1) * 2 ^ F
def lE (E F : Nat) : Int := 1 - (bE E : Int) - F
theorem MK_of {E F : Nat} (e1 : 2 ≤ E) (e2 : E ≤ 5) (f1 : 1 ≤ F) (f2 : F ≤ 8) : MK E F (bE E) (nE E F) (lE E F) ∧ nE E F ≤ 7936 := by
  have a : 2 ^ (E - 1) ≤ 2 ^ 4 := Nat.pow_le_pow_right (by omega) (by omega)
  have b : 2 ^ E ≤ 2 ^ 5 := Nat.pow_le_pow_right (by omega) e2
  have c : 2 ^ F ≤ 2 ^ 8 := Nat.pow_le_pow_right (by omega) f2
  have d : 2 ^ 2 ≤ 2 ^ E := Nat.pow_le_pow_right (by omega) e1
  have g : 2 ^ 1 ≤ 2 ^ F := Nat.pow_le_pow_right (by omega) f1
  have n1 : nE E F ≤ 31 * 256 := Nat.mul_le_mul (by omega) (by omega)
  have n2 : 1 * 1 ≤ nE E F := Nat.mul_le_mul (by omega) (by omega)
  have n3 : nE E F ≤ 2 ^ E * 2 ^ F := Nat.mul_le_mul (by omega) (Nat.le_refl _)
  have n4 : 2 ^ F = 2 ^ (F - 1) * 2 := by rw [← Nat.pow_succ]; congr 1; omega
  have n5 : nE E F % 2 = 0 := by unfold nE; rw [n4, ← Nat.mul_assoc, Nat.mul_mod_left]
  rw [← Nat.pow_add] at n3
  exact ⟨⟨e2, f2, by unfold bE; omega, rfl, by omega, by omega, n5, n3⟩, by omega⟩
theorem become_v {E F : Nat} (e1 : 2 ≤ E) (e2 : E ≤ 5) (f1 : 1 ≤ F) (f2 : F ≤ 8) : (1 : Int32) <<< ((nI E - 1) &&& 31) = nI (2 ^ (E - 1)) ∧ (1 : Int32) <<< ((1 + nI E + nI F) &&& 31) = nI (2 ^ (E + F + 1)) ∧ (1 : Int32) <<< ((nI E + nI F) &&& 31) = nI (2 ^ (E + F)) ∧ ((1 : Int32) <<< (nI E &&& 31) - 1) <<< (nI F &&& 31) = nI (nE E F) := by
  have b : 2 ^ E ≤ 2 ^ 5 := Nat.pow_le_pow_right (by omega) e2
  have c : 2 ^ F ≤ 2 ^ 8 := Nat.pow_le_pow_right (by omega) f2
  have n1 : (2 ^ E - 1) * 2 ^ F ≤ 31 * 256 := Nat.mul_le_mul (by omega) (by omega)
  refine ⟨?_, ?_, ?_, ?_⟩
  · rw [show nI E - (1 : Int32) = nI (E - 1) from pk_sub (b := 1) (by omega), sh_1 (by omega)]
  · rw [show (1 : Int32) + nI E + nI F = nI (E + F + 1) by rw [show (1 : Int32) = nI 1 from rfl, nI_add, nI_add]; congr 1; omega, sh_1 (by omega)]
  · rw [nI_add, sh_1 (by omega)]
  · rw [pwt e2, sh_l (by omega) (by omega)]; rfl
theorem makes_loop {post : Int32 → Int32 → Int32 → Int32 → Int32 → Int32 → Int32 → Int32 → (Nat → Int32) → Prop} {a1 a2 a3 a4 a5 a6 a7 a8 : Int32} (hp : ∀ K, (∀ k, k < 5 → K k = 0) → post a1 a2 a3 a4 a5 a6 a7 a8 K) :
    ∀ (d k : Nat) (K : Nat → Int32), k + d = 5 → (∀ i, i < k → K i = 0) → wp_X8_makes_87 post (d + 1) a1 a2 a3 a4 a5 a6 a7 a8 K (nI k) := by
  intro d
  induction d with
  | zero =>
    intro k K hk hK
    rw [wp_X8_makes_87_s]
    unfold wp_X8_makes_87_b
    rw [show (5 : Int32) = nI 5 from rfl, nI_leI (by omega) (by omega)]
    exact ⟨fun _ => hp K (fun i hi => hK i (by omega)), fun q => absurd (by omega) q⟩
  | succ d ih =>
    intro k K hk hK
    rw [wp_X8_makes_87_s]
    unfold wp_X8_makes_87_b
    rw [show (5 : Int32) = nI 5 from rfl, nI_leI (by omega) (by omega), cl_nI (by omega), nI_1]
    refine ⟨fun q => by omega, fun _ => ⟨vp_in_nI (by omega) (by omega), ih (k + 1) _ (by omega) (fun i hi => ?_)⟩⟩
    by_cases e : i = k
    · rw [e, upd_s]; decide
    · rw [upd_n e]; exact hK i (by omega)
theorem J_make {K : (Nat → Int32) → Int32 → Int32 → Int32 → Int32 → Int32 → Int32 → (Nat → Int32) → (Nat → Int32) → (Nat → Int32) → (Nat → Int32) → (Nat → Int32) → (Nat → Int32) → (Nat → Int32) → Int32 → Int32 → Int32 → Int32 → Int32 → Int32 → Int32 → Int32 → Int32 → (Nat → Int32) → (Nat → Int32) → Prop} {V1 V2 : Prop} (v1 : V1) (v2 : V2) {E F : Nat} {R T S H G V sT sB Kn : Nat → Int32} {lp sf mp p1 p2 : Int32}
    (hC : CI E F (nE E F) (lE E F) T S H G V) (hP : PI E F (nE E F) (lE E F) sT sB) (he1 : 2 ≤ E) (he2 : E ≤ 5) (hf1 : 1 ≤ F) (hf2 : F ≤ 8)
    (hr : ∀ R', K R' (nI E) (nI F) (nI (bE E)) (nI (2 ^ (E + F + 1))) (nI (2 ^ (E + F))) (nI (nE E F)) T S H G V sT sB lp (nI E) (nI F) (nI (2 ^ (E + F + 1))) (nI (nE E F - 1)) (nI (2 ^ (E + F))) (iI (lE E F)) sf mp R' Kn)
    (hs : ∀ (E F : Nat) (T S H G V sT sB Kn : Nat → Int32), 2 ≤ E → E ≤ 5 → 1 ≤ F → F ≤ 8 → CI E F (nE E F) (lE E F) T S H G V → PI E F (nE E F) (lE E F) sT sB → (∀ k, k < 5 → Kn k = 0) → K R (nI E) (nI F) (nI (bE E)) (nI (2 ^ (E + F + 1))) (nI (2 ^ (E + F))) (nI (nE E F)) T S H G V sT sB 0 (nI E) (nI F) (nI (2 ^ (E + F + 1))) (nI (nE E F - 1)) (nI (2 ^ (E + F))) (iI (lE E F)) (-1) (-1) R Kn) :
    wp_X7_make (fun r u1 u2 u3 u4 u5 u6 u7 u8 u9 u10 u11 u12 u13 u14 u15 => V1 ∧ (V2 ∧ (wp_X8_make (fun r' w1 w2 w3 w4 w5 w6 w7 w8 w9 w10 => ((r = r') → K u1 u2 u3 u4 u5 u6 u7 u8 u9 u10 u11 u12 u13 u14 u15 w1 w2 w3 w4 w5 w6 w7 w8 w9 w10) ∧ (¬ (r = r') → False)) (nI E) (nI F) (nI (2 ^ (E + F + 1))) (nI (nE E F - 1)) (nI (2 ^ (E + F))) (iI (lE E F)) sf mp R Kn p1 p2))) R (nI E) (nI F) (nI (bE E)) (nI (2 ^ (E + F + 1))) (nI (2 ^ (E + F))) (nI (nE E F)) T S H G V sT sB lp p1 p2 := by
  unfold wp_X7_make wp_X8_make wp_X7_make_10 wp_X7_make_28 wp_X8_make_10 wp_X8_make_28
  by_cases q1 : p1 < 2
  · first | refine B1 (q1) ?_ | refine B2 (q1) ?_ | refine B3 (q1) ?_ | refine B4 (q1) ?_
    refine x7r 4 rfl (by omega) ⟨v1, v2, ?_⟩
    first | refine B1 (q1) ?_ | refine B2 (q1) ?_ | refine B3 (q1) ?_ | refine B4 (q1) ?_
    exact x8r 4 rfl (by omega) (E1 (hr _))
  · by_cases q2 : 1 ≤ p2
    · by_cases q3 : 5 < p1
      · first | refine B1 (q1) ?_ | refine B2 (q1) ?_ | refine B3 (q1) ?_ | refine B4 (q1) ?_
        first | refine B1 (q2) ?_ | refine B2 (q2) ?_ | refine B3 (q2) ?_ | refine B4 (q2) ?_
        first | refine B1 (q3) ?_ | refine B2 (q3) ?_ | refine B3 (q3) ?_ | refine B4 (q3) ?_
        refine x7r 6 rfl (by omega) ⟨v1, v2, ?_⟩
        first | refine B1 (q1) ?_ | refine B2 (q1) ?_ | refine B3 (q1) ?_ | refine B4 (q1) ?_
        first | refine B1 (q2) ?_ | refine B2 (q2) ?_ | refine B3 (q2) ?_ | refine B4 (q2) ?_
        first | refine B1 (q3) ?_ | refine B2 (q3) ?_ | refine B3 (q3) ?_ | refine B4 (q3) ?_
        exact x8r 6 rfl (by omega) (E1 (hr _))
      · by_cases q4 : p2 ≤ 8
        · have z1 : ¬ p1 < 0 := fun w => q1 (by rw [Int32.lt_iff_toInt_lt] at w ⊢; have e0 : (0 : Int32).toInt = 0 := by decide
                                                have e1 : (2 : Int32).toInt = 2 := by decide
                                                omega)
          have z2 : ¬ p2 < 0 := fun w => by
            rw [Int32.lt_iff_toInt_lt] at w; rw [Int32.le_iff_toInt_le] at q2
            have e0 : (0 : Int32).toInt = 0 := by decide
            have e1 : (1 : Int32).toInt = 1 := by decide
            omega
          obtain ⟨E', hE', x1⟩ := nI_of z1
          obtain ⟨F', hF', x2⟩ := nI_of z2
          subst x1
          subst x2
          have a1 : 2 ≤ E' := by rw [ltL (y := 2) (b := 2) (by omega) (by omega) rfl] at q1; omega
          have a2 : E' ≤ 5 := by rw [show (5 : Int32) = nI 5 from rfl, nI_ltI (by omega) (by omega)] at q3; omega
          have a3 : 1 ≤ F' := by rw [show (1 : Int32) = nI 1 from rfl, nI_leI (by omega) (by omega)] at q2; omega
          have a4 : F' ≤ 8 := by rw [leL (y := 8) (b := 8) (by omega) (by omega) rfl] at q4; omega
          obtain ⟨b1, b2, b3, b4⟩ := become_v a1 a2 a3 a4
          have hm := (MK_of a1 a2 a3 a4).1
          obtain ⟨m1, m2, m3, m4, m5, m6⟩ := MK_N hm
          have b5 : nI (2 ^ (E' - 1)) - 1 = nI (bE E') := pk_sub (b := 1) (p2p_ _)
          have b6 : nI (nE E' F') - 1 = nI (nE E' F' - 1) := pk_sub (b := 1) m5
          have b7 : nI (2 ^ (E' + F' + 1)) / 2 = nI (2 ^ (E' + F')) := by
            rw [show (2 : Int32) = nI 2 from rfl, pk_div (by omega) (by omega) (by omega)]; congr 1; omega
          have b8 : (2 : Int32) - nI (2 ^ (E' - 1)) - nI F' = iI (lE E' F') := by
            have := p2p_ (E' - 1)
            rw [show (2 : Int32) = iI 2 from rfl, iI_N, iI_N, iI_sub, iI_sub]; congr 1; unfold lE bE; omega
          have X8m : ∀ (T S H G V sT sB : Nat → Int32), CI E' F' (nE E' F') (lE E' F') T S H G V → PI E' F' (nE E' F') (lE E' F') sT sB → wp_X8_makes (fun u38_1 u38_2 u38_3 u38_4 u38_5 u38_6 u38_7 u38_8 u38_9 => ((nI (2 ^ (E' + F' + 1)) = u38_3) → K R (nI E') (nI F') (nI (bE E')) (nI (2 ^ (E' + F' + 1))) (nI (2 ^ (E' + F'))) (nI (nE E' F')) T S H G V sT sB 0 u38_1 u38_2 u38_3 u38_4 u38_5 u38_6 u38_7 u38_8 R u38_9) ∧ (¬ (nI (2 ^ (E' + F' + 1)) = u38_3) → False)) Kn (nI E') (nI F') := by
            intro T S H G V sT sB c1 c2
            unfold wp_X8_makes
            rw [b2, b4, b1, b6, b7, b8]
            exact ⟨6, makes_loop (fun K' hK' => E1 (hs E' F' T S H G V sT sB K' a1 a2 a3 a4 c1 c2 hK')) 5 0 Kn (by omega) (fun i hi => by omega)⟩
          have K57 : wp_X7_make_57 (fun r u1 u2 u3 u4 u5 u6 u7 u8 u9 u10 u11 u12 u13 u14 u15 => V1 ∧ (V2 ∧ (wp_X8_make (fun r' w1 w2 w3 w4 w5 w6 w7 w8 w9 w10 => ((r = r') → K u1 u2 u3 u4 u5 u6 u7 u8 u9 u10 u11 u12 u13 u14 u15 w1 w2 w3 w4 w5 w6 w7 w8 w9 w10) ∧ (¬ (r = r') → False)) (nI E) (nI F) (nI (2 ^ (E + F + 1))) (nI (nE E F - 1)) (nI (2 ^ (E + F))) (iI (lE E F)) sf mp R Kn (nI E') (nI F')))) R T S H G V sT sB (nI E') (nI F') := by
            unfold wp_X7_make_57 wp_X1_become
            rw [b2, b3, b4, b1, b5]
            refine X0_forget (fun T S H G V hc => X5_forget (fun sT sB hpp => ?_))
            unfold wp_X7_make_80 wp_X2_forget wp_X8_make
            refine ⟨v1, v2, B2 q1 (B1 q2 (B2 q3 (B1 q4 ?_)))⟩
            exact X8m T S H G V sT sB (hc _ _ _ _) (hpp _ _ _ _)
          unfold wp_X8_make wp_X8_make_10 wp_X8_make_28 at K57
          first | refine B1 (q1) ?_ | refine B2 (q1) ?_ | refine B3 (q1) ?_ | refine B4 (q1) ?_
          first | refine B1 (q2) ?_ | refine B2 (q2) ?_ | refine B3 (q2) ?_ | refine B4 (q2) ?_
          first | refine B1 (q3) ?_ | refine B2 (q3) ?_ | refine B3 (q3) ?_ | refine B4 (q3) ?_
          first | refine B1 (q4) ?_ | refine B2 (q4) ?_ | refine B3 (q4) ?_ | refine B4 (q4) ?_
          refine ⟨fun _ => K57, fun e1 => ⟨fun e2 => ?_, fun _ => K57⟩⟩
          have e1 : E' = E := (nI_eq (by omega) (by omega)).mp e1
          have e2 : F' = F := (nI_eq (by omega) (by omega)).mp e2
          subst e1
          subst e2
          unfold wp_X7_make_80 wp_X2_forget
          refine ⟨v1, v2, B2 q1 (B1 q2 (B2 q3 (B1 q4 ?_)))⟩
          exact X8m T S H G V sT sB hC hP
        · first | refine B1 (q1) ?_ | refine B2 (q1) ?_ | refine B3 (q1) ?_ | refine B4 (q1) ?_
          first | refine B1 (q2) ?_ | refine B2 (q2) ?_ | refine B3 (q2) ?_ | refine B4 (q2) ?_
          first | refine B1 (q3) ?_ | refine B2 (q3) ?_ | refine B3 (q3) ?_ | refine B4 (q3) ?_
          first | refine B1 (q4) ?_ | refine B2 (q4) ?_ | refine B3 (q4) ?_ | refine B4 (q4) ?_
          refine x7r 6 rfl (by omega) ⟨v1, v2, ?_⟩
          first | refine B1 (q1) ?_ | refine B2 (q1) ?_ | refine B3 (q1) ?_ | refine B4 (q1) ?_
          first | refine B1 (q2) ?_ | refine B2 (q2) ?_ | refine B3 (q2) ?_ | refine B4 (q2) ?_
          first | refine B1 (q3) ?_ | refine B2 (q3) ?_ | refine B3 (q3) ?_ | refine B4 (q3) ?_
          first | refine B1 (q4) ?_ | refine B2 (q4) ?_ | refine B3 (q4) ?_ | refine B4 (q4) ?_
          exact x8r 6 rfl (by omega) (E1 (hr _))
    · first | refine B1 (q1) ?_ | refine B2 (q1) ?_ | refine B3 (q1) ?_ | refine B4 (q1) ?_
      first | refine B1 (q2) ?_ | refine B2 (q2) ?_ | refine B3 (q2) ?_ | refine B4 (q2) ?_
      refine x7r 4 rfl (by omega) ⟨v1, v2, ?_⟩
      first | refine B1 (q1) ?_ | refine B2 (q1) ?_ | refine B3 (q1) ?_ | refine B4 (q1) ?_
      first | refine B1 (q2) ?_ | refine B2 (q2) ?_ | refine B3 (q2) ?_ | refine B4 (q2) ?_
      exact x8r 4 rfl (by omega) (E1 (hr _))
