/-! ===== spans, span ===== -/
theorem J_spans {K : (Nat → Int32) → Int64 → Int32 → Int32 → Int32 → Int32 → Int32 → Int32 → Int32 → Int32 → Int32 → Int32 → (Nat → Int32) → (Nat → Int32) → Int32 → Int32 → Int64 → Int32 → Int32 → Int32 → (Nat → Int32) → (Nat → Int32) → (Nat → Int32) → Prop} {V1 V2 : Prop} (v1' : V1) (v2' : V2) {E F b n : Nat} {low : Int} {R T B X Y : Nat → Int32} {p1 p2 a1 a2 sf sr sm : Int32} {a3 : Int64} {v1 : Int64} {v2 v3 v4 v5 v6 v7 v8 v9 v10 v11 : Int32} (h : MK E F b n low) (hP : PI E F n low T B) (hI : FI E F n low sf sr sm X Y)
    (hK : ∀ R' (v1 : Int64) (v2 v3 v4 v5 v6 v7 v8 v9 v10 v11 : Int32) T B a1 a2 a3 sf sr sm X Y, PI E F n low T B → FI E F n low sf sr sm X Y → K R' v1 v2 v3 v4 v5 v6 v7 v8 v9 v10 v11 T B a1 a2 a3 sf sr sm R' X Y) :
    wp_X7_spans (fun r u w1 w2 w3 w4 w5 w6 w7 w8 w9 w10 w11 t1 t2 => V1 ∧ (V2 ∧ (wp_X8_spans (fun r' b1 b2 b3 b4 b5 b6 b7 b8 b9 => ((r = r') → K u w1 w2 w3 w4 w5 w6 w7 w8 w9 w10 w11 t1 t2 b1 b2 b3 b4 b5 b6 b7 b8 b9) ∧ (¬ (r = r') → False)) (nI F) (nI (n - 1)) (nI (2 ^ (E + F))) (iI low) a1 a2 a3 sf sr sm R X Y p1 p2))) R (nI F) (nI b) (nI (2 ^ (E + F))) (nI n) v1 v2 v3 v4 v5 v6 v7 v8 v9 v10 v11 T B p1 p2 := by
  unfold wp_X7_spans wp_X8_spans wp_X7_spans_14 wp_X8_spans_15
  by_cases i1 : IN p1 5
  · obtain ⟨fn, hf, rfl⟩ := i1
    refine f7y hf ?_
    first | refine B1 (by decide) ?_ | refine B2 (by decide) ?_ | refine B3 (by decide) ?_ | refine B4 (by decide) ?_
    by_cases i2 : IN p2 5
    · obtain ⟨r, hr, rfl⟩ := i2
      refine r7y hr ?_
      first | refine B1 (by decide) ?_ | refine B2 (by decide) ?_ | refine B3 (by decide) ?_ | refine B4 (by decide) ?_
      refine X5_take h hf hr hP (fun w1 w2 w3 w4 w5 w6 w7 w8 w9 w10 w11 T B c1 c2 => X5_total hf hr c2 ⟨v1', v2', f8y hf ?_⟩)
      first | refine B1 (by decide) ?_ | refine B2 (by decide) ?_ | refine B3 (by decide) ?_ | refine B4 (by decide) ?_
      refine r8y hr ?_
      first | refine B1 (by decide) ?_ | refine B2 (by decide) ?_ | refine B3 (by decide) ?_ | refine B4 (by decide) ?_
      exact X8_findSpans h hf hr hI (fun x1 x2 x3 X Y d1 d2 => E1 (hK _ _ _ _ _ _ _ _ _ _ _ _ _ _ _ _ _ _ _ _ _ _ c1 d1))
    · refine r7n i2 ?_
      first | refine B1 (by decide) ?_ | refine B2 (by decide) ?_ | refine B3 (by decide) ?_ | refine B4 (by decide) ?_
      refine x7r 1 rfl (by omega) ⟨v1', v2', f8y hf ?_⟩
      first | refine B1 (by decide) ?_ | refine B2 (by decide) ?_ | refine B3 (by decide) ?_ | refine B4 (by decide) ?_
      refine r8n i2 ?_
      first | refine B1 (by decide) ?_ | refine B2 (by decide) ?_ | refine B3 (by decide) ?_ | refine B4 (by decide) ?_
      exact x8r 1 rfl (by omega) (E1 (hK _ _ _ _ _ _ _ _ _ _ _ _ _ _ _ _ _ _ _ _ _ _ hP hI))
  · refine f7n i1 ?_
    first | refine B1 (by decide) ?_ | refine B2 (by decide) ?_ | refine B3 (by decide) ?_ | refine B4 (by decide) ?_
    refine x7r 1 rfl (by omega) ⟨v1', v2', f8n i1 ?_⟩
    first | refine B1 (by decide) ?_ | refine B2 (by decide) ?_ | refine B3 (by decide) ?_ | refine B4 (by decide) ?_
    exact x8r 1 rfl (by omega) (E1 (hK _ _ _ _ _ _ _ _ _ _ _ _ _ _ _ _ _ _ _ _ _ _ hP hI))
theorem J_span {K : (Nat → Int32) → Int64 → Int32 → Int32 → Int32 → Int32 → Int32 → Int32 → Int32 → Int32 → Int32 → Int32 → (Nat → Int32) → (Nat → Int32) → Int32 → Int32 → Int64 → Int32 → Int32 → Int32 → (Nat → Int32) → (Nat → Int32) → (Nat → Int32) → Prop} {V1 V2 V3 V4 : Prop} (v1' : V1) (v2' : V2) (v3' : V3) (v4' : V4) {E F b n : Nat} {low : Int} {R T B X Y : Nat → Int32} {p1 p2 p3 p4 a1 a2 sf sr sm : Int32} {a3 : Int64} {v1 : Int64} {v2 v3 v4 v5 v6 v7 v8 v9 v10 v11 : Int32} (h : MK E F b n low) (hP : PI E F n low T B) (hI : FI E F n low sf sr sm X Y)
    (hK : ∀ R' (v1 : Int64) (v2 v3 v4 v5 v6 v7 v8 v9 v10 v11 : Int32) T B a1 a2 a3 sf sr sm X Y, PI E F n low T B → FI E F n low sf sr sm X Y → K R' v1 v2 v3 v4 v5 v6 v7 v8 v9 v10 v11 T B a1 a2 a3 sf sr sm R' X Y) :
    wp_X7_span (fun r u w1 w2 w3 w4 w5 w6 w7 w8 w9 w10 w11 t1 t2 => V1 ∧ (V2 ∧ (V3 ∧ (V4 ∧ (wp_X8_span (fun r' b1 b2 b3 b4 b5 b6 b7 b8 b9 => ((r = r') → K u w1 w2 w3 w4 w5 w6 w7 w8 w9 w10 w11 t1 t2 b1 b2 b3 b4 b5 b6 b7 b8 b9) ∧ (¬ (r = r') → False)) (nI F) (nI (n - 1)) (nI (2 ^ (E + F))) (iI low) a1 a2 a3 sf sr sm R X Y p1 p2 p3 p4))))) R (nI F) (nI b) (nI (2 ^ (E + F))) (nI n) v1 v2 v3 v4 v5 v6 v7 v8 v9 v10 v11 T B p1 p2 p3 p4 := by
  obtain ⟨m1, m2, m3, m4, m5, m6⟩ := MK_N h
  have hev : n % 2 = 0 := h.2.2.2.2.2.2.1
  unfold wp_X7_span wp_X8_span wp_X7_span_14 wp_X8_span_15
  by_cases i1 : IN p1 5
  · obtain ⟨fn, hf, rfl⟩ := i1
    refine f7y hf ?_
    first | refine B1 (by decide) ?_ | refine B2 (by decide) ?_ | refine B3 (by decide) ?_ | refine B4 (by decide) ?_
    by_cases i2 : IN p2 5
    · obtain ⟨r, hr, rfl⟩ := i2
      refine r7y hr ?_
      first | refine B1 (by decide) ?_ | refine B2 (by decide) ?_ | refine B3 (by decide) ?_ | refine B4 (by decide) ?_
      refine X5_take h hf hr hP (fun w1 w2 w3 w4 w5 w6 w7 w8 w9 w10 w11 T B c1 c2 => ?_)
      have cb := cnt_le (ST (fun c => RES E F n low fn c r)) n
      have V : ∀ {A : Prop}, A → V1 ∧ (V2 ∧ (V3 ∧ (V4 ∧ A))) := fun a => ⟨v1', v2', v3', v4', a⟩
      by_cases i3 : IN p3 (cnt (ST (fun c => RES E F n low fn c r)) n)
      · obtain ⟨i, hi, rfl⟩ := i3
        refine B2 (nI_nlt0 (by omega)) ?_
        refine X5_total hf hr c2 ?_
        refine B1 ((nI_ltI (by omega) (by omega)).mpr hi) ?_
        by_cases i4 : IN p4 3
        · obtain ⟨t, ht, rfl⟩ := i4
          refine B2 (nI_nlt0 (by omega)) ?_
          refine B1 (by rw [leL (y := 2) (b := 2) (by omega) (by omega) rfl]; omega) ?_
          have tt : t = 0 ∨ t = 1 ∨ t = 2 := by omega
          rcases tt with q | q | q
          · subst q
            first | refine B1 (by decide) ?_ | refine B2 (by decide) ?_ | refine B3 (by decide) ?_ | refine B4 (by decide) ?_
            refine X5_firstCode h hf hr hi c2 (fun c w1 w2 w3 w4 w5 w6 w7 w8 w9 w10 w11 s1 s2 s3 => ?_)
            first | refine B1 (by decide) ?_ | refine B2 (by decide) ?_ | refine B3 (by decide) ?_ | refine B4 (by decide) ?_
            refine V (f8y hf ?_)
            first | refine B1 (by decide) ?_ | refine B2 (by decide) ?_ | refine B3 (by decide) ?_ | refine B4 (by decide) ?_
            refine r8y hr ?_
            first | refine B1 (by decide) ?_ | refine B2 (by decide) ?_ | refine B3 (by decide) ?_ | refine B4 (by decide) ?_
            refine X8_findSpans h hf hr hI (fun x1 x2 x3 X Y d1 d2 => ?_)
            refine iny rfl (by omega) hi ?_
            first | refine B1 (by decide) ?_ | refine B2 (by decide) ?_ | refine B3 (by decide) ?_ | refine B4 (by decide) ?_
            first | refine B1 (by decide) ?_ | refine B2 (by decide) ?_ | refine B3 (by decide) ?_ | refine B4 (by decide) ?_
            have e := d2.1 c s1 s2
            rw [s3] at e
            rw [cl_nI (by omega), e]
            exact ⟨vp_in_nI (by omega) (by omega), E1 (hK _ _ _ _ _ _ _ _ _ _ _ _ _ _ _ _ _ _ _ _ _ _ c1 d1)⟩
          · subst q
            first | refine B1 (by decide) ?_ | refine B2 (by decide) ?_ | refine B3 (by decide) ?_ | refine B4 (by decide) ?_
            refine X5_total hf hr c2 ?_
            rw [nI_1, nI_eq (by omega) (by omega)]
            unfold wp_X7_span_96
            refine ⟨fun q => ?_, fun q => ?_⟩
            · first | refine B1 (by decide) ?_ | refine B2 (by decide) ?_ | refine B3 (by decide) ?_ | refine B4 (by decide) ?_
              rw [nI_1]
              refine X5_firstCode h hf hr (by omega) c2 (fun c w1 w2 w3 w4 w5 w6 w7 w8 w9 w10 w11 s1 s2 s3 => ?_)
              have c2' : 2 ≤ c := by
                by_cases z : 2 ≤ c
                · exact z
                · have z : c = 0 ∨ c = 1 := by omega
                  rcases z with z | z
                  · rw [z] at s3; have : cnt (ST (fun c => RES E F n low fn c r)) 0 = 0 := rfl
                    omega
                  · rw [z] at s3; have : cnt (ST (fun c => RES E F n low fn c r)) 1 = 0 := rfl
                    omega
              refine V (f8y hf ?_)
              first | refine B1 (by decide) ?_ | refine B2 (by decide) ?_ | refine B3 (by decide) ?_ | refine B4 (by decide) ?_
              refine r8y hr ?_
              first | refine B1 (by decide) ?_ | refine B2 (by decide) ?_ | refine B3 (by decide) ?_ | refine B4 (by decide) ?_
              refine X8_findSpans h hf hr hI (fun x1 x2 x3 X Y d1 d2 => ?_)
              refine iny rfl (by omega) hi ?_
              first | refine B1 (by decide) ?_ | refine B2 (by decide) ?_ | refine B3 (by decide) ?_ | refine B4 (by decide) ?_
              first | refine B1 (by decide) ?_ | refine B2 (by decide) ?_ | refine B3 (by decide) ?_ | refine B4 (by decide) ?_
              first | refine B1 (by decide) ?_ | refine B2 (by decide) ?_ | refine B3 (by decide) ?_ | refine B4 (by decide) ?_
              have e := d2.2 (c - 1) (by omega) (by omega) (Or.inr (by rw [show c - 1 + 1 = c by omega]; exact s2))
              rw [show c - 1 + 1 = c by omega, s3, Nat.add_sub_cancel] at e
              rw [cl_nI (by omega), e, show (1 : Int32) = nI 1 from rfl, pk_sub (by omega)]
              exact ⟨vp_in_nI (by omega) (by omega), E1 (hK _ _ _ _ _ _ _ _ _ _ _ _ _ _ _ _ _ _ _ _ _ _ c1 d1)⟩
            · first | refine B1 (by decide) ?_ | refine B2 (by decide) ?_ | refine B3 (by decide) ?_ | refine B4 (by decide) ?_
              refine X1_greatestPlain m5 (V (f8y hf ?_))
              first | refine B1 (by decide) ?_ | refine B2 (by decide) ?_ | refine B3 (by decide) ?_ | refine B4 (by decide) ?_
              refine r8y hr ?_
              first | refine B1 (by decide) ?_ | refine B2 (by decide) ?_ | refine B3 (by decide) ?_ | refine B4 (by decide) ?_
              refine X8_findSpans h hf hr hI (fun x1 x2 x3 X Y d1 d2 => ?_)
              refine iny rfl (by omega) hi ?_
              first | refine B1 (by decide) ?_ | refine B2 (by decide) ?_ | refine B3 (by decide) ?_ | refine B4 (by decide) ?_
              first | refine B1 (by decide) ?_ | refine B2 (by decide) ?_ | refine B3 (by decide) ?_ | refine B4 (by decide) ?_
              first | refine B1 (by decide) ?_ | refine B2 (by decide) ?_ | refine B3 (by decide) ?_ | refine B4 (by decide) ?_
              have e := d2.2 (n - 1) (by omega) (by omega) (Or.inl (by omega))
              rw [show n - 1 + 1 = n by omega, ← q, Nat.add_sub_cancel] at e
              rw [cl_nI (by omega), e]
              exact ⟨vp_in_nI (by omega) (by omega), E1 (hK _ _ _ _ _ _ _ _ _ _ _ _ _ _ _ _ _ _ _ _ _ _ c1 d1)⟩
          · subst q
            first | refine B1 (by decide) ?_ | refine B2 (by decide) ?_ | refine B3 (by decide) ?_ | refine B4 (by decide) ?_
            refine X5_firstCode h hf hr hi c2 (fun c w1 w2 w3 w4 w5 w6 w7 w8 w9 w10 w11 s1 s2 s3 => ?_)
            first | refine B1 (by decide) ?_ | refine B2 (by decide) ?_ | refine B3 (by decide) ?_ | refine B4 (by decide) ?_
            refine MK_r h hf (by omega) hr (fun w1 w2 w3 w4 w5 w6 w7 w8 w9 w10 w11 => V (f8y hf ?_))
            first | refine B1 (by decide) ?_ | refine B2 (by decide) ?_ | refine B3 (by decide) ?_ | refine B4 (by decide) ?_
            refine r8y hr ?_
            first | refine B1 (by decide) ?_ | refine B2 (by decide) ?_ | refine B3 (by decide) ?_ | refine B4 (by decide) ?_
            refine X8_findSpans h hf hr hI (fun x1 x2 x3 X Y d1 d2 => ?_)
            refine iny rfl (by omega) hi ?_
            first | refine B1 (by decide) ?_ | refine B2 (by decide) ?_ | refine B3 (by decide) ?_ | refine B4 (by decide) ?_
            first | refine B1 (by decide) ?_ | refine B2 (by decide) ?_ | refine B3 (by decide) ?_ | refine B4 (by decide) ?_
            first | refine B1 (by decide) ?_ | refine B2 (by decide) ?_ | refine B3 (by decide) ?_ | refine B4 (by decide) ?_
            first | refine B1 (by decide) ?_ | refine B2 (by decide) ?_ | refine B3 (by decide) ?_ | refine B4 (by decide) ?_
            have e := d2.1 c s1 s2
            rw [s3] at e
            rw [cl_nI (by omega), e]
            exact ⟨vp_in_nI (by omega) (by omega), X8_rightOf h hf (by omega) hr (fun x1 x2 x3 => E1 (hK _ _ _ _ _ _ _ _ _ _ _ _ _ _ _ _ _ _ _ _ _ _ c1 d1))⟩
        · have n0 : ¬ p4 = 0 := fun w => i4 ⟨0, by omega, w⟩
          have n1 : ¬ p4 = 1 := fun w => i4 ⟨1, by omega, w⟩
          have n2 : ¬ p4 = 2 := fun w => i4 ⟨2, by omega, w⟩
          unfold wp_X7_span_63
          have K8 : wp_X7_refuse (fun r_1 u => V1 ∧ (V2 ∧ (V3 ∧ (V4 ∧ wp_X8_isFunction (fun r1 => (((r1 = 0) → (wp_X8_refuse (fun r17 u17 => (((r_1 = r17) → K u w1 w2 w3 w4 w5 w6 w7 w8 w9 w10 w11 T B a1 a2 a3 sf sr sm u17 X Y) ∧ (¬ (r_1 = r17) → False))) R (-1 : Int32))) ∧ ((¬ (r1 = 0)) → (wp_X8_isIn (fun r9 => (((¬ r9 = 0) → (wp_X8_findSpans (fun u24_1 u24_2 u24_3 u24_4 u24_5 u24_6 u24_7 u24_8 => (wp_X8_isIn (fun r32 => (((¬ r32 = 0) → (((p4 = (0 : Int32)) → ((vp_in (nI i) 16384) ∧ (((r_1 = u24_7 (nI i).toNatClampNeg) → K u w1 w2 w3 w4 w5 w6 w7 w8 w9 w10 w11 T B u24_1 u24_2 u24_3 u24_4 u24_5 u24_6 R u24_7 u24_8) ∧ (¬ (r_1 = u24_7 (nI i).toNatClampNeg) → False)))) ∧ ((¬ (p4 = (0 : Int32))) → (((p4 = (1 : Int32)) → ((vp_in (nI i) 16384) ∧ (((r_1 = u24_8 (nI i).toNatClampNeg) → K u w1 w2 w3 w4 w5 w6 w7 w8 w9 w10 w11 T B u24_1 u24_2 u24_3 u24_4 u24_5 u24_6 R u24_7 u24_8) ∧ (¬ (r_1 = u24_8 (nI i).toNatClampNeg) → False)))) ∧ ((¬ (p4 = (1 : Int32))) → (((p4 = (2 : Int32)) → ((vp_in (nI i) 16384) ∧ (wp_X8_rightOf (fun r95 u95_1 u95_2 u95_3 => (((r_1 = r95) → K u w1 w2 w3 w4 w5 w6 w7 w8 w9 w10 w11 T B u95_1 u95_2 u95_3 u24_4 u24_5 u24_6 R u24_7 u24_8) ∧ (¬ (r_1 = r95) → False))) (nI F) (nI (n - 1)) (nI (2 ^ (E + F))) (iI low) u24_1 u24_2 u24_3 (nI fn) (u24_7 (nI i).toNatClampNeg) (nI r)))) ∧ ((¬ (p4 = (2 : Int32))) → (wp_X8_refuse (fun r102 u102 => (((r_1 = r102) → K u w1 w2 w3 w4 w5 w6 w7 w8 w9 w10 w11 T B u24_1 u24_2 u24_3 u24_4 u24_5 u24_6 u102 u24_7 u24_8) ∧ (¬ (r_1 = r102) → False))) R (-2 : Int32))))))))) ∧ ((r32 = 0) → (wp_X8_refuse (fun r40 u40 => (((r_1 = r40) → K u w1 w2 w3 w4 w5 w6 w7 w8 w9 w10 w11 T B u24_1 u24_2 u24_3 u24_4 u24_5 u24_6 u40 u24_7 u24_8) ∧ (¬ (r_1 = r40) → False))) R (-1 : Int32))))) (nI i) u24_6)) (nI F) (nI (n - 1)) (nI (2 ^ (E + F))) (iI low) a1 a2 a3 sf sr sm X Y (nI fn) (nI r))) ∧ ((r9 = 0) → (wp_X8_refuse (fun r17 u17 => (((r_1 = r17) → K u w1 w2 w3 w4 w5 w6 w7 w8 w9 w10 w11 T B a1 a2 a3 sf sr sm u17 X Y) ∧ (¬ (r_1 = r17) → False))) R (-1 : Int32))))) (nI r) (5 : Int32))))) (nI fn))))) R (-2) := by
            refine x7r 2 rfl (by omega) (V (f8y hf ?_))
            first | refine B1 (by decide) ?_ | refine B2 (by decide) ?_ | refine B3 (by decide) ?_ | refine B4 (by decide) ?_
            refine r8y hr ?_
            first | refine B1 (by decide) ?_ | refine B2 (by decide) ?_ | refine B3 (by decide) ?_ | refine B4 (by decide) ?_
            refine X8_findSpans h hf hr hI (fun x1 x2 x3 X Y d1 d2 => ?_)
            refine iny rfl (by omega) hi ?_
            first | refine B1 (by decide) ?_ | refine B2 (by decide) ?_ | refine B3 (by decide) ?_ | refine B4 (by decide) ?_
            first | refine B1 (n0) ?_ | refine B2 (n0) ?_ | refine B3 (n0) ?_ | refine B4 (n0) ?_
            first | refine B1 (n1) ?_ | refine B2 (n1) ?_ | refine B3 (n1) ?_ | refine B4 (n1) ?_
            first | refine B1 (n2) ?_ | refine B2 (n2) ?_ | refine B3 (n2) ?_ | refine B4 (n2) ?_
            exact x8r 2 rfl (by omega) (E1 (hK _ _ _ _ _ _ _ _ _ _ _ _ _ _ _ _ _ _ _ _ _ _ c1 d1))
          rcases IN_n (by omega) i4 with w | ⟨w, w2⟩
          · first | refine B1 (w) ?_ | refine B2 (w) ?_ | refine B3 (w) ?_ | refine B4 (w) ?_
            exact K8
          · first | refine B1 (w) ?_ | refine B2 (w) ?_ | refine B3 (w) ?_ | refine B4 (w) ?_
            have w3 : ¬ p4 ≤ 2 := by
              obtain ⟨j, hj, e⟩ := nI_of w
              rw [e, nI_leI (by omega) (by omega)] at w2
              rw [e, leL (y := 2) (b := 2) (by omega) (by omega) rfl]
              omega
            first | refine B1 (w3) ?_ | refine B2 (w3) ?_ | refine B3 (w3) ?_ | refine B4 (w3) ?_
            exact K8
      · unfold wp_X7_span_46
        have K8 : ∀ R' : Nat → Int32, wp_X8_isFunction (fun r1 => (((r1 = 0) → (wp_X8_refuse (fun r17 u17 => ((((-1 : Int32) = r17) → K (bmp R 1) w1 w2 w3 w4 w5 w6 w7 w8 w9 w10 w11 T B a1 a2 a3 sf sr sm u17 X Y) ∧ (¬ ((-1 : Int32) = r17) → False))) R (-1 : Int32))) ∧ ((¬ (r1 = 0)) → (wp_X8_isIn (fun r9 => (((¬ r9 = 0) → (wp_X8_findSpans (fun u24_1 u24_2 u24_3 u24_4 u24_5 u24_6 u24_7 u24_8 => (wp_X8_isIn (fun r32 => (((¬ r32 = 0) → (((p4 = (0 : Int32)) → ((vp_in p3 16384) ∧ ((((-1 : Int32) = u24_7 p3.toNatClampNeg) → K (bmp R 1) w1 w2 w3 w4 w5 w6 w7 w8 w9 w10 w11 T B u24_1 u24_2 u24_3 u24_4 u24_5 u24_6 R u24_7 u24_8) ∧ (¬ ((-1 : Int32) = u24_7 p3.toNatClampNeg) → False)))) ∧ ((¬ (p4 = (0 : Int32))) → (((p4 = (1 : Int32)) → ((vp_in p3 16384) ∧ ((((-1 : Int32) = u24_8 p3.toNatClampNeg) → K (bmp R 1) w1 w2 w3 w4 w5 w6 w7 w8 w9 w10 w11 T B u24_1 u24_2 u24_3 u24_4 u24_5 u24_6 R u24_7 u24_8) ∧ (¬ ((-1 : Int32) = u24_8 p3.toNatClampNeg) → False)))) ∧ ((¬ (p4 = (1 : Int32))) → (((p4 = (2 : Int32)) → ((vp_in p3 16384) ∧ (wp_X8_rightOf (fun r95 u95_1 u95_2 u95_3 => ((((-1 : Int32) = r95) → K (bmp R 1) w1 w2 w3 w4 w5 w6 w7 w8 w9 w10 w11 T B u95_1 u95_2 u95_3 u24_4 u24_5 u24_6 R u24_7 u24_8) ∧ (¬ ((-1 : Int32) = r95) → False))) (nI F) (nI (n - 1)) (nI (2 ^ (E + F))) (iI low) u24_1 u24_2 u24_3 (nI fn) (u24_7 p3.toNatClampNeg) (nI r)))) ∧ ((¬ (p4 = (2 : Int32))) → (wp_X8_refuse (fun r102 u102 => ((((-1 : Int32) = r102) → K (bmp R 1) w1 w2 w3 w4 w5 w6 w7 w8 w9 w10 w11 T B u24_1 u24_2 u24_3 u24_4 u24_5 u24_6 u102 u24_7 u24_8) ∧ (¬ ((-1 : Int32) = r102) → False))) R (-2 : Int32))))))))) ∧ ((r32 = 0) → (wp_X8_refuse (fun r40 u40 => ((((-1 : Int32) = r40) → K (bmp R 1) w1 w2 w3 w4 w5 w6 w7 w8 w9 w10 w11 T B u24_1 u24_2 u24_3 u24_4 u24_5 u24_6 u40 u24_7 u24_8) ∧ (¬ ((-1 : Int32) = r40) → False))) R (-1 : Int32))))) p3 u24_6)) (nI F) (nI (n - 1)) (nI (2 ^ (E + F))) (iI low) a1 a2 a3 sf sr sm X Y (nI fn) (nI r))) ∧ ((r9 = 0) → (wp_X8_refuse (fun r17 u17 => ((((-1 : Int32) = r17) → K (bmp R 1) w1 w2 w3 w4 w5 w6 w7 w8 w9 w10 w11 T B a1 a2 a3 sf sr sm u17 X Y) ∧ (¬ ((-1 : Int32) = r17) → False))) R (-1 : Int32))))) (nI r) (5 : Int32))))) (nI fn) := by
          intro R'
          refine f8y hf ?_
          first | refine B1 (by decide) ?_ | refine B2 (by decide) ?_ | refine B3 (by decide) ?_ | refine B4 (by decide) ?_
          refine r8y hr ?_
          first | refine B1 (by decide) ?_ | refine B2 (by decide) ?_ | refine B3 (by decide) ?_ | refine B4 (by decide) ?_
          refine X8_findSpans h hf hr hI (fun x1 x2 x3 X Y d1 d2 => ?_)
          refine inn rfl (by omega) i3 ?_
          first | refine B1 (by decide) ?_ | refine B2 (by decide) ?_ | refine B3 (by decide) ?_ | refine B4 (by decide) ?_
          exact x8r 1 rfl (by omega) (E1 (hK _ _ _ _ _ _ _ _ _ _ _ _ _ _ _ _ _ _ _ _ _ _ c1 d1))
        rcases IN_n (by omega) i3 with w | ⟨w, w2⟩
        · first | refine B1 (w) ?_ | refine B2 (w) ?_ | refine B3 (w) ?_ | refine B4 (w) ?_
          exact x7r 1 rfl (by omega) (V (K8 R))
        · first | refine B1 (w) ?_ | refine B2 (w) ?_ | refine B3 (w) ?_ | refine B4 (w) ?_
          refine X5_total hf hr c2 ?_
          have w3 : ¬ p3 < nI (cnt (ST (fun c => RES E F n low fn c r)) n) := by rw [Int32.not_lt]; exact w2
          first | refine B1 (w3) ?_ | refine B2 (w3) ?_ | refine B3 (w3) ?_ | refine B4 (w3) ?_
          exact x7r 1 rfl (by omega) (V (K8 R))
    · refine r7n i2 ?_
      first | refine B1 (by decide) ?_ | refine B2 (by decide) ?_ | refine B3 (by decide) ?_ | refine B4 (by decide) ?_
      refine x7r 1 rfl (by omega) ⟨v1', v2', v3', v4', f8y hf ?_⟩
      first | refine B1 (by decide) ?_ | refine B2 (by decide) ?_ | refine B3 (by decide) ?_ | refine B4 (by decide) ?_
      refine r8n i2 ?_
      first | refine B1 (by decide) ?_ | refine B2 (by decide) ?_ | refine B3 (by decide) ?_ | refine B4 (by decide) ?_
      exact x8r 1 rfl (by omega) (E1 (hK _ _ _ _ _ _ _ _ _ _ _ _ _ _ _ _ _ _ _ _ _ _ hP hI))
  · refine f7n i1 ?_
    first | refine B1 (by decide) ?_ | refine B2 (by decide) ?_ | refine B3 (by decide) ?_ | refine B4 (by decide) ?_
    refine x7r 1 rfl (by omega) ⟨v1', v2', v3', v4', f8n i1 ?_⟩
    first | refine B1 (by decide) ?_ | refine B2 (by decide) ?_ | refine B3 (by decide) ?_ | refine B4 (by decide) ?_
    exact x8r 1 rfl (by omega) (E1 (hK _ _ _ _ _ _ _ _ _ _ _ _ _ _ _ _ _ _ _ _ _ _ hP hI))
