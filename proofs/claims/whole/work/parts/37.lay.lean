theorem X3_lay_81 {post : Int32 → Int32 → Int32 → Int32 → Prop} {F b n e t : Nat} {q : Bool} {pw : Int} (hF : F ≤ 8) (hn1 : 1 ≤ n) (hn : n ≤ 8192) (hpw : pw + b - 1 = e) (he : e < 4096) (ht : t < 524288)
    (h : post (nI (if n ≤ e * 2 ^ F + t / 1024 then n - 1 else e * 2 ^ F + t / 1024)) (nI (t % 1024)) (bI q) (bI (decide (n ≤ e * 2 ^ F + t / 1024)))) : wp_X3_lay_81 post (nI F) (nI b) (nI n) (iI pw) (lN t) (bI q) := by
  have hp : 2 ^ F ≤ 256 := Nat.pow_le_pow_right (n := 2) (by omega) hF
  have hep : e * 2 ^ F ≤ 4096 * 256 := Nat.mul_le_mul (by omega) hp
  have e1 : iI pw + nI b - (1 : Int32) = nI e := by
    rw [iI_N, iI_N, show (1 : Int32) = iI 1 from rfl, iI_add, iI_sub, hpw]
  have e2 : (lN t >>> ((10 : Int32).toInt64 &&& 63)).toInt32 = nI (t / 1024) := by
    rw [pf_shr (d := 10) (by decide) (by omega), lN_i32]
  have e3 : (lN t).toInt32 &&& (1023 : Int32) = nI (t % 1024) := by
    rw [lN_i32, show (1023 : Int32) = nI (2 ^ 10 - 1) from rfl, an_m (by omega) (by omega)]
  unfold wp_X3_lay_81
  rw [e1, e2, e3, sh_l (by omega) (by omega), nI_add]
  have hcd : e * 2 ^ F + t / 1024 < 2147483648 := by omega
  generalize e * 2 ^ F + t / 1024 = cd at h hcd ⊢
  refine ⟨bI_01 q, X1_greatestPlain hn1 ⟨fun c => ?_, fun c => ?_⟩⟩
  · have c : cd ≤ n - 1 := (nI_leI (by omega) (by omega)).mp c
    rw [if_neg (by omega), show decide (n ≤ cd) = false by simp; omega] at h
    unfold wp_X3_lay_142
    exact ⟨Or.inl rfl, fun _ => h, fun q => absurd rfl q⟩
  · have c : ¬ cd ≤ n - 1 := mt (nI_leI (by omega) (by omega)).mpr c
    rw [if_pos (by omega), show decide (n ≤ cd) = true by simp; omega] at h
    unfold wp_X3_lay_142
    exact ⟨Or.inr rfl, fun q => absurd q (by decide), fun _ => X1_greatestPlain hn1 h⟩
theorem X3_lay {post : Int32 → Int32 → Int32 → Int32 → Prop} {F b n m : Nat} {x low : Int} {mo : Bool} (hF : F ≤ 8) (hb : b ≤ 15) (hl : low = 1 - b - F) (hn1 : 1 ≤ n) (hn : n ≤ 8192) (hm0 : 0 < m) (hm : m < 4611686018427387904) (hx1 : -1000 ≤ x) (hx2 : x ≤ 1000)
    (h : post (nI (if n ≤ cod F low m x then n - 1 else cod F low m x)) (nI (wy F low m x)) (bI (mo || los F low m x)) (bI (decide (n ≤ cod F low m x)))) : wp_X3_lay post (nI F) (nI b) (nI n) (lN m) (iI x) (bI mo) := by
  have hlog : m.log2 < 62 := (Nat.log2_lt (by omega)).mpr (by omega)
  have hT := tt_lt F low m x
  have hT2 : tt F low m x < 524288 := Nat.lt_of_lt_of_le hT (Nat.pow_le_pow_right (n := 2) (by omega) (show F + 11 ≤ 19 by omega))
  have hpw := pwr_ge F low m x
  have hpw2 : pwr F low m x ≤ 2000 := by
    unfold pwr
    by_cases hh : (m.log2 : Int) + x < low + F
    · rw [if_pos hh]; omega
    · rw [if_neg hh]; omega
  have etop : (63 : Int32) - nI (63 - m.log2) + iI x = iI ((m.log2 : Int) + x) := by
    rw [iI_N, show (63 : Int32) = iI 63 from rfl, iI_sub, iI_add]
    congr 1
    omega
  have elow : (1 : Int32) - nI b = iI (low + F) := by
    rw [iI_N, show (1 : Int32) = iI 1 from rfl, iI_sub]
    congr 1
    omega
  have epow : (if iI ((m.log2 : Int) + x) < iI (low + F) then iI (low + F) else iI ((m.log2 : Int) + x)) = iI (pwr F low m x) := by
    have q := iI_lt (a := (m.log2 : Int) + x) (b := low + F) ⟨by omega, by omega⟩ ⟨by omega, by omega⟩
    unfold pwr
    by_cases hh : (m.log2 : Int) + x < low + F
    · rw [if_pos hh, if_pos (q.mpr hh)]
    · rw [if_neg hh, if_neg (mt q.mp hh)]
  have esh : iI (pwr F low m x) - nI F - (10 : Int32) - iI x = iI (un F low m x - x) := by
    rw [iI_N, show (10 : Int32) = iI 10 from rfl, iI_sub, iI_sub, iI_sub]
    rfl
  unfold wp_X3_lay
  refine J13_nlz hm0 (by omega) ?_
  rw [etop, elow, epow, esh]
  have hu : un F low m x = pwr F low m x - F - 10 := rfl
  have et : tt F low m x = m * 2 ^ (x - un F low m x).toNat / 2 ^ (un F low m x - x).toNat := rfl
  have K : ∀ q : Bool, q = (mo || los F low m x) → wp_X3_lay_81 post (nI F) (nI b) (nI n) (iI (pwr F low m x)) (lN (tt F low m x)) (bI q) := by
    intro q hq
    subst hq
    exact X3_lay_81 (e := (pwr F low m x - low - F).toNat) hF hn1 hn (by omega) (by omega) hT2 h
  refine X3_shifted hm (by omega) (by omega) (fun q => ?_) (Or.inl hm0) ?_
  · rw [show (un F low m x - x).toNat = 0 by omega, Nat.pow_zero, Nat.div_one] at et
    rw [show -(un F low m x - x) = x - un F low m x by omega]
    omega
  rw [show -(un F low m x - x) = x - un F low m x by omega, ← et]
  refine ⟨fun c => ?_, fun c => ⟨fun q => ?_, fun q => ?_⟩⟩
  · have c : mo = true := by cases mo; exact absurd rfl c; rfl
    subst c
    exact K true (by simp)
  · have c := (bI_0 mo).mp c
    subst c
    refine K false ?_
    have q : un F low m x - x ≤ 0 := by
      rw [show (0 : Int32) = iI 0 from rfl, iI_le ⟨by omega, by omega⟩ ⟨by omega, by omega⟩] at q
      exact q
    unfold los
    rw [show (un F low m x - x).toNat = 0 by omega, Nat.pow_zero, Nat.div_one] at et
    rw [show (un F low m x - x).toNat = 0 by omega, Nat.pow_zero, Nat.mul_one, et]
    simp
  · have c := (bI_0 mo).mp c
    subst c
    have q : ¬ un F low m x - x ≤ 0 := by
      rw [show (0 : Int32) = iI 0 from rfl, iI_le ⟨by omega, by omega⟩ ⟨by omega, by omega⟩] at q
      exact q
    have hle : tt F low m x * 2 ^ (un F low m x - x).toNat ≤ m := by
      rw [et, show (x - un F low m x).toNat = 0 by omega, Nat.pow_zero, Nat.mul_one]
      exact Nat.div_mul_le_self _ _
    have el : los F low m x = decide (¬ tt F low m x * 2 ^ (un F low m x - x).toNat = m) := by
      unfold los
      rw [show (x - un F low m x).toNat = 0 by omega, Nat.pow_zero, Nat.mul_one]
    have fin : ∀ r : Int64, r = lN (tt F low m x * 2 ^ (un F low m x - x).toNat) → (((lg_cmp r (lN m)) = 0) → (wp_X3_lay_80 post (nI F) (nI b) (nI n) (iI (pwr F low m x)) (lN (tt F low m x)))) ∧ ((¬ ((lg_cmp r (lN m)) = 0)) → (wp_X3_lay_76 post (nI F) (nI b) (nI n) (iI (pwr F low m x)) (lN (tt F low m x)))) := by
      intro r hr
      subst hr
      rw [lc_eq, pk_lEQ (by omega) (by omega)]
      refine ⟨fun z => ?_, fun z => ?_⟩
      · exact K false (by rw [el]; simp [z])
      · exact K true (by rw [el]; simp [z])
    rw [iI_neg]
    by_cases hz : tt F low m x = 0
    · rw [hz] at fin ⊢
      rw [Nat.zero_mul] at fin
      unfold wp_X3_shifted
      refine ⟨fun _ => ⟨fun _ => ?_, fun z => ?_⟩, fun z => ?_⟩
      · exact fin _ (by rw [show lN 0 = 0 from rfl, Int64.zero_shiftLeft])
      · exact absurd (by rw [show (0 : Int32) = iI 0 from rfl, iI_lt ⟨by omega, by omega⟩ ⟨by omega, by omega⟩]; omega) z
      · exact absurd (by rw [show (62 : Int32) = iI 62 from rfl, iI_le ⟨by omega, by omega⟩ ⟨by omega, by omega⟩]; omega) z
    · refine X3_shifted (by omega) (by omega) (by omega) (fun _ => ?_) (Or.inl (by omega)) (fin _ ?_)
      · rw [Int.neg_neg]; omega
      · rw [Int.neg_neg, show (-(un F low m x - x)).toNat = 0 by omega, Nat.pow_zero, Nat.div_one]
