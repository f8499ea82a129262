/-! ===== table, part, look ===== -/
def TX (P s : Nat) (fr : Nat → Nat) (A B : Nat → Int) (lp ls : Int32) (lF lA lB : Nat → Int32) : Prop := lp = nI P ∧ (0 < P → ls = nI s) ∧ ∀ i, i < P → lF i = nI (fr i) ∧ lA i = iI (A i) ∧ lB i = iI (B i)
def TM (P s : Nat) (fr : Nat → Nat) (A B : Nat → Int) (mp ms : Int32) (mP mQ : Nat → Int32) (mA mB : Nat → Int64) : Prop := (P = 0 → mp = -1) ∧ (0 < P → mp = nI P ∧ ms = nI s) ∧ ∀ i, i < P → mP i = nI (fr i) ∧ mQ i = nI (fr (i + 1) - 1) ∧ mA i = lI (A i) ∧ mB i = lI (B i)
def TW (F P s : Nat) (fr : Nat → Nat) (A B : Nat → Int) : Prop := P ≤ 256 ∧ s ≤ 10 ∧ fr 0 = 0 ∧ (0 < P → fr P = 2 ^ F) ∧ ∀ i, i < P → fr i < fr (i + 1) ∧ fr (i + 1) ≤ 2 ^ F ∧ sI (A i) ∧ sI (B i)
def TJ (F : Nat) (lp ls : Int32) (lF lA lB : Nat → Int32) (mp ms : Int32) (mP mQ : Nat → Int32) (mA mB : Nat → Int64) : Prop := ∃ P s fr A B, TW F P s fr A B ∧ TX P s fr A B lp ls lF lA lB ∧ TM P s fr A B mp ms mP mQ mA mB
theorem TJ_0 (F : Nat) {ls ms : Int32} {lF lA lB mP mQ : Nat → Int32} {mA mB : Nat → Int64} : TJ F 0 ls lF lA lB (-1) ms mP mQ mA mB :=
  ⟨0, 0, fun _ => 0, fun _ => 0, fun _ => 0, ⟨by omega, by omega, rfl, fun w => by omega, fun i hi => by omega⟩, ⟨rfl, fun w => by omega, fun i hi => by omega⟩, ⟨fun _ => rfl, fun w => by omega, fun i hi => by omega⟩⟩
theorem RES_pos {E F b n fn c r : Nat} {low : Int} (h : MK E F b n low) (h1 : 0 < c) (h2 : c < n) : RES E F n low fn c r ≤ n := by
  obtain ⟨m1, m2, m3, m4, m5, m6⟩ := MK_N h
  have hm : c % 2 ^ (E + F) = c := Nat.mod_eq_of_lt (by omega)
  unfold RES
  rw [if_pos ⟨by omega, by omega, by omega⟩]
  have ev : aV F n low fn (c % 2 ^ (E + F)) ≤ n - 1 := by unfold aV; split <;> omega
  have ed : decide (fn ≠ 3 ∧ 2 ^ (E + F) ≤ c) = false := by simp; intro _; omega
  rw [ed]
  unfold rd
  split <;> simp <;> omega
theorem J_table {K : (Nat → Int32) → Int64 → Int32 → Int32 → Int32 → Int32 → Int32 → Int32 → Int32 → Int32 → Int32 → Int32 → Int32 → Int32 → Int64 → Int64 → (Nat → Int32) → (Nat → Int32) → (Nat → Int32) → (Nat → Int32) → Int32 → Int32 → Int64 → Int32 → Int32 → (Nat → Int32) → (Nat → Int32) → (Nat → Int32) → (Nat → Int64) → (Nat → Int64) → (Nat → Int64) → Prop} {V1 V2 V3 V4 V5 : Prop} (v1' : V1) (v2' : V2) (v3' : V3) (v4' : V4) (v5' : V5) {E F b n : Nat} {low : Int} {R lD lF lA lB mP mQ : Nat → Int32} {mA mB mD : Nat → Int64} {p1 p2 p3 p4 p5 a1 a2 lp ls mp ms : Int32} {a3 l g : Int64} {v1 : Int64} {v2 v3 v4 v5 v6 v7 v8 v9 v10 v11 : Int32} (h : MK E F b n low) (h79 : n ≤ 7936) (hnE : n = (2 ^ E - 1) * 2 ^ F) (hT : TJ F lp ls lF lA lB mp ms mP mQ mA mB)
    (hK : ∀ R' (v1 : Int64) (v2 v3 v4 v5 v6 v7 v8 v9 v10 v11 : Int32) lp ls l g lD lF lA lB a1 a2 a3 mp ms mP mQ mA mB mD, TJ F lp ls lF lA lB mp ms mP mQ mA mB → K R' v1 v2 v3 v4 v5 v6 v7 v8 v9 v10 v11 lp ls l g lD lF lA lB a1 a2 a3 mp ms R' mP mQ mA mB mD) :
    wp_X7_table (fun r u w1 w2 w3 w4 w5 w6 w7 w8 w9 w10 w11 t1 t2 t3 t4 t5 t6 t7 t8 => V1 ∧ (V2 ∧ (V3 ∧ (V4 ∧ (V5 ∧ (wp_X8_table (fun r' b1 b2 b3 b4 b5 b6 b7 b8 b9 b10 b11 => ((r = r') → K u w1 w2 w3 w4 w5 w6 w7 w8 w9 w10 w11 t1 t2 t3 t4 t5 t6 t7 t8 b1 b2 b3 b4 b5 b6 b7 b8 b9 b10 b11) ∧ (¬ (r = r') → False)) (nI E) (nI F) (nI (n - 1)) (nI (2 ^ (E + F))) (iI low) a1 a2 a3 mp ms R mP mQ mA mB mD p1 p2 p3 p4 p5)))))) R (nI E) (nI F) (nI b) (nI (2 ^ (E + F))) (nI n) v1 v2 v3 v4 v5 v6 v7 v8 v9 v10 v11 lp ls l g lD lF lA lB p1 p2 p3 p4 p5 := by
  obtain ⟨m1, m2, m3, m4, m5, m6⟩ := MK_N h
  have hE := h.1
  have hF := h.2.1
  have hZ : 2 ^ F ≤ 2 ^ 8 := Nat.pow_le_pow_right (by omega) hF
  have hZ0 := p2p F
  have V : ∀ {A : Prop}, A → V1 ∧ (V2 ∧ (V3 ∧ (V4 ∧ (V5 ∧ A)))) := fun a => ⟨v1', v2', v3', v4', v5', a⟩
  have KT : ∀ R', K R' v1 v2 v3 v4 v5 v6 v7 v8 v9 v10 v11 lp ls l g lD lF lA lB a1 a2 a3 mp ms R' mP mQ mA mB mD := fun R' => hK R' v1 v2 v3 v4 v5 v6 v7 v8 v9 v10 v11 lp ls l g lD lF lA lB a1 a2 a3 mp ms mP mQ mA mB mD hT
  unfold wp_X7_table wp_X8_table wp_X7_table_25 wp_X7_table_42 wp_X8_table_23
  by_cases i1 : IN p1 5
  · obtain ⟨fn, hf, rfl⟩ := i1
    refine f7y hf ?_
    first | refine B1 (by decide) ?_ | refine B2 (by decide) ?_ | refine B3 (by decide) ?_ | refine B4 (by decide) ?_
    by_cases i2 : IN p2 5
    · obtain ⟨r, hr, rfl⟩ := i2
      refine r7y hr ?_
      first | refine B1 (by decide) ?_ | refine B2 (by decide) ?_ | refine B3 (by decide) ?_ | refine B4 (by decide) ?_
      by_cases i3 : PW p3 E
      · obtain ⟨p, hp1, hp2, rfl⟩ := i3
        refine p7y hE hp1 hp2 ?_
        first | refine B1 (by decide) ?_ | refine B2 (by decide) ?_ | refine B3 (by decide) ?_ | refine B4 (by decide) ?_
        by_cases i4 : IN p4 2
        · obtain ⟨deg, hd, rfl⟩ := i4
          refine B2 (nI_nlt0 (by omega)) ?_
          refine B1 (by rw [leL (y := 1) (b := 1) (by omega) (by omega) rfl]; omega) ?_
          by_cases q : 0 ≤ p5
          · have q' : ¬ p5 < 0 := by rw [Int32.not_lt]; exact q
            obtain ⟨s, hs, rfl⟩ := nI_of q'
            by_cases q2 : s ≤ 10
            · have q3 : nI s ≤ 10 := by rw [leL (y := 10) (b := 10) (by omega) (by omega) rfl]; exact q2
              first | refine B1 (q) ?_ | refine B2 (q) ?_ | refine B3 (q) ?_ | refine B4 (q) ?_
              first | refine B1 (q3) ?_ | refine B2 (q3) ?_ | refine B3 (q3) ?_ | refine B4 (q3) ?_
              have hpp : p * 2 ^ F + 2 ^ F ≤ n := by
                have : (p + 1) * 2 ^ F ≤ (2 ^ E - 1) * 2 ^ F := Nat.mul_le_mul_right _ (by omega)
                rw [Nat.add_mul, Nat.one_mul] at this
                omega
              have hp0 : 1 * 2 ^ F ≤ p * 2 ^ F := Nat.mul_le_mul_right _ hp1
              obtain ⟨D, hDd⟩ : ∃ D : Nat → Nat, D = fun z => if z < 2 ^ F then RES E F n low fn (p * 2 ^ F + z) r else 0 := ⟨_, rfl⟩
              have hD : ∀ z, D z ≤ 7936 := by
                intro z
                rw [hDd]
                show (if z < 2 ^ F then RES E F n low fn (p * 2 ^ F + z) r else 0) ≤ 7936
                split
                · exact Nat.le_trans (RES_pos h (by omega) (by omega)) h79
                · omega
              have hDr : ∀ z, z < 2 ^ F → D z = RES E F n low fn (p * 2 ^ F + z) r := by
                intro z hz
                rw [hDd]
                show (if z < 2 ^ F then RES E F n low fn (p * 2 ^ F + z) r else 0) = _
                rw [if_pos hz]
              refine X2_readDue h hf hr hpp (fun w1 w2 w3 w4 w5 w6 w7 w8 w9 w10 w11 dr hdr => ?_)
              refine X2_cutParts (D := D) q2 hF hd hD (fun y hy => by rw [hDr y hy]; exact hdr y hy) (fun P fr l' g' Fr Ar Br c1 c2 c3 => ?_)
              unfold wp_X2_parts
              refine V (f8y hf ?_)
              first | refine B1 (by decide) ?_ | refine B2 (by decide) ?_ | refine B3 (by decide) ?_ | refine B4 (by decide) ?_
              refine r8y hr ?_
              first | refine B1 (by decide) ?_ | refine B2 (by decide) ?_ | refine B3 (by decide) ?_ | refine B4 (by decide) ?_
              refine p8y hE hp1 hp2 ?_
              first | refine B1 (by decide) ?_ | refine B2 (by decide) ?_ | refine B3 (by decide) ?_ | refine B4 (by decide) ?_
              refine iny (n := 2) rfl (by omega) hd ?_
              first | refine B1 (by decide) ?_ | refine B2 (by decide) ?_ | refine B3 (by decide) ?_ | refine B4 (by decide) ?_
              first | refine B1 (q) ?_ | refine B2 (q) ?_ | refine B3 (q) ?_ | refine B4 (q) ?_
              first | refine B1 (q3) ?_ | refine B2 (q3) ?_ | refine B3 (q3) ?_ | refine B4 (q3) ?_
              rw [sh_1 (by omega)]
              refine ⟨2 ^ F + 1, ?_⟩
              refine t93 h hf hr hpp q2 hd hD hDr (fun x1 x2 x3 P' fr' Pr Qr Ar' Br' Dr d1 d2 d3 => ?_) (2 ^ F) 0 a1 a2 a3 mD (by omega) (fun y hy => by omega)
              obtain ⟨u1, u2⟩ := uI_b q2
              obtain ⟨w1', w2'⟩ := wid_b deg
              obtain ⟨eP, efr⟩ := CH_uniq (fun _ _ => Iff.rfl) c1 d1 c2 d2
              subst eP
              refine E1 (hK _ _ _ _ _ _ _ _ _ _ _ _ _ _ _ _ _ _ _ _ _ _ _ _ _ _ _ _ _ _ ?_)
              have gP := CH_ge c1 P (Nat.le_refl _)
              refine ⟨P, s, fr, fun i => aa D (uI s) (wid deg) (fr i) (fr (i + 1)), fun i => bb D (uI s) (wid deg) (fr i) (fr (i + 1)), ⟨by omega, q2, c1.1, fun _ => c2, fun i hi => ?_⟩, ⟨rfl, fun _ => rfl, c3⟩, ⟨fun w => ?_, fun _ => ⟨rfl, rfl⟩, fun i hi => ?_⟩⟩
              · obtain ⟨e1, e2, e3, e4⟩ := c1.2 i hi
                have fk : fe D (uI s) (wid deg) (fr i) (fr (i + 1) - fr i - 1) := e3 _ (by omega)
                have bk := bb_b hD u1 u2 w1' fk
                have ak := am_b hD u1 u2 bk.1 bk.2 (a0 := MIN) (by decide) (fr i) (fr (i + 1) - fr i - 1) (by omega)
                rw [show fr (i + 1) - fr i - 1 + 1 = fr (i + 1) - fr i by omega] at ak
                refine ⟨e1, e2, ⟨?_, ?_⟩, ⟨?_, ?_⟩⟩
                · show _ ≤ am D (uI s) (bb D (uI s) (wid deg) (fr i) (fr (i + 1))) (fr i) MIN (fr (i + 1) - fr i); omega
                · show am D (uI s) (bb D (uI s) (wid deg) (fr i) (fr (i + 1))) (fr i) MIN (fr (i + 1) - fr i) < _; omega
                · show _ ≤ bb D (uI s) (wid deg) (fr i) (fr (i + 1)); omega
                · show bb D (uI s) (wid deg) (fr i) (fr (i + 1)) < _; omega
              · rw [w, c1.1] at c2; omega
              · have k := d3 i hi
                rw [← efr i (by omega), ← efr (i + 1) (by omega)] at k
                exact k
            · have q3 : ¬ nI s ≤ 10 := by rw [leL (y := 10) (b := 10) (by omega) (by omega) rfl]; exact q2
              first | refine B1 (q) ?_ | refine B2 (q) ?_ | refine B3 (q) ?_ | refine B4 (q) ?_
              first | refine B1 (q3) ?_ | refine B2 (q3) ?_ | refine B3 (q3) ?_ | refine B4 (q3) ?_
              refine x7r 6 rfl (by omega) (V (f8y hf ?_))
              first | refine B1 (by decide) ?_ | refine B2 (by decide) ?_ | refine B3 (by decide) ?_ | refine B4 (by decide) ?_
              refine r8y hr ?_
              first | refine B1 (by decide) ?_ | refine B2 (by decide) ?_ | refine B3 (by decide) ?_ | refine B4 (by decide) ?_
              refine p8y hE hp1 hp2 ?_
              first | refine B1 (by decide) ?_ | refine B2 (by decide) ?_ | refine B3 (by decide) ?_ | refine B4 (by decide) ?_
              refine iny (n := 2) rfl (by omega) hd ?_
              first | refine B1 (by decide) ?_ | refine B2 (by decide) ?_ | refine B3 (by decide) ?_ | refine B4 (by decide) ?_
              first | refine B1 (q) ?_ | refine B2 (q) ?_ | refine B3 (q) ?_ | refine B4 (q) ?_
              first | refine B1 (q3) ?_ | refine B2 (q3) ?_ | refine B3 (q3) ?_ | refine B4 (q3) ?_
              exact x8r 6 rfl (by omega) (E1 (KT _))
          · first | refine B1 (q) ?_ | refine B2 (q) ?_ | refine B3 (q) ?_ | refine B4 (q) ?_
            refine x7r 4 rfl (by omega) (V (f8y hf ?_))
            first | refine B1 (by decide) ?_ | refine B2 (by decide) ?_ | refine B3 (by decide) ?_ | refine B4 (by decide) ?_
            refine r8y hr ?_
            first | refine B1 (by decide) ?_ | refine B2 (by decide) ?_ | refine B3 (by decide) ?_ | refine B4 (by decide) ?_
            refine p8y hE hp1 hp2 ?_
            first | refine B1 (by decide) ?_ | refine B2 (by decide) ?_ | refine B3 (by decide) ?_ | refine B4 (by decide) ?_
            refine iny (n := 2) rfl (by omega) hd ?_
            first | refine B1 (by decide) ?_ | refine B2 (by decide) ?_ | refine B3 (by decide) ?_ | refine B4 (by decide) ?_
            first | refine B1 (q) ?_ | refine B2 (q) ?_ | refine B3 (q) ?_ | refine B4 (q) ?_
            exact x8r 4 rfl (by omega) (E1 (KT _))
        · rcases IN_n (by omega) i4 with w | ⟨w, w2⟩
          · first | refine B1 (w) ?_ | refine B2 (w) ?_ | refine B3 (w) ?_ | refine B4 (w) ?_
            refine x7r 2 rfl (by omega) (V (f8y hf ?_))
            first | refine B1 (by decide) ?_ | refine B2 (by decide) ?_ | refine B3 (by decide) ?_ | refine B4 (by decide) ?_
            refine r8y hr ?_
            first | refine B1 (by decide) ?_ | refine B2 (by decide) ?_ | refine B3 (by decide) ?_ | refine B4 (by decide) ?_
            refine p8y hE hp1 hp2 ?_
            first | refine B1 (by decide) ?_ | refine B2 (by decide) ?_ | refine B3 (by decide) ?_ | refine B4 (by decide) ?_
            refine inn (n := 2) rfl (by omega) i4 ?_
            first | refine B1 (by decide) ?_ | refine B2 (by decide) ?_ | refine B3 (by decide) ?_ | refine B4 (by decide) ?_
            exact x8r 2 rfl (by omega) (E1 (KT _))
          · first | refine B1 (w) ?_ | refine B2 (w) ?_ | refine B3 (w) ?_ | refine B4 (w) ?_
            have w3 : ¬ p4 ≤ 1 := by
              obtain ⟨i, hi, e⟩ := nI_of w
              rw [e, nI_leI (by omega) (by omega)] at w2
              rw [e, leL (y := 1) (b := 1) (by omega) (by omega) rfl]
              omega
            first | refine B1 (w3) ?_ | refine B2 (w3) ?_ | refine B3 (w3) ?_ | refine B4 (w3) ?_
            refine x7r 2 rfl (by omega) (V (f8y hf ?_))
            first | refine B1 (by decide) ?_ | refine B2 (by decide) ?_ | refine B3 (by decide) ?_ | refine B4 (by decide) ?_
            refine r8y hr ?_
            first | refine B1 (by decide) ?_ | refine B2 (by decide) ?_ | refine B3 (by decide) ?_ | refine B4 (by decide) ?_
            refine p8y hE hp1 hp2 ?_
            first | refine B1 (by decide) ?_ | refine B2 (by decide) ?_ | refine B3 (by decide) ?_ | refine B4 (by decide) ?_
            refine inn (n := 2) rfl (by omega) i4 ?_
            first | refine B1 (by decide) ?_ | refine B2 (by decide) ?_ | refine B3 (by decide) ?_ | refine B4 (by decide) ?_
            exact x8r 2 rfl (by omega) (E1 (KT _))
      · refine p7n hE i3 ?_
        first | refine B1 (by decide) ?_ | refine B2 (by decide) ?_ | refine B3 (by decide) ?_ | refine B4 (by decide) ?_
        refine x7r 1 rfl (by omega) (V (f8y hf ?_))
        first | refine B1 (by decide) ?_ | refine B2 (by decide) ?_ | refine B3 (by decide) ?_ | refine B4 (by decide) ?_
        refine r8y hr ?_
        first | refine B1 (by decide) ?_ | refine B2 (by decide) ?_ | refine B3 (by decide) ?_ | refine B4 (by decide) ?_
        refine p8n hE i3 ?_
        first | refine B1 (by decide) ?_ | refine B2 (by decide) ?_ | refine B3 (by decide) ?_ | refine B4 (by decide) ?_
        exact x8r 1 rfl (by omega) (E1 (KT _))
    · refine r7n i2 ?_
      first | refine B1 (by decide) ?_ | refine B2 (by decide) ?_ | refine B3 (by decide) ?_ | refine B4 (by decide) ?_
      refine x7r 1 rfl (by omega) (V (f8y hf ?_))
      first | refine B1 (by decide) ?_ | refine B2 (by decide) ?_ | refine B3 (by decide) ?_ | refine B4 (by decide) ?_
      refine r8n i2 ?_
      first | refine B1 (by decide) ?_ | refine B2 (by decide) ?_ | refine B3 (by decide) ?_ | refine B4 (by decide) ?_
      exact x8r 1 rfl (by omega) (E1 (KT _))
  · refine f7n i1 ?_
    first | refine B1 (by decide) ?_ | refine B2 (by decide) ?_ | refine B3 (by decide) ?_ | refine B4 (by decide) ?_
    refine x7r 1 rfl (by omega) (V (f8n i1 ?_))
    first | refine B1 (by decide) ?_ | refine B2 (by decide) ?_ | refine B3 (by decide) ?_ | refine B4 (by decide) ?_
    exact x8r 1 rfl (by omega) (E1 (KT _))
theorem X2_lastZ {post : Int32 → Prop} {F P s i : Nat} {fr : Nat → Nat} {A B : Nat → Int} {lp ls : Int32} {lF lA lB : Nat → Int32} (hF : F ≤ 8) (hw : TW F P s fr A B) (hx : TX P s fr A B lp ls lF lA lB) (hi : i < P) (hp : post (nI (fr (i + 1) - 1))) : wp_X2_lastZ post (nI F) lp lF (nI i) := by
  obtain ⟨t1, t2, t3, t4, t5⟩ := hw
  obtain ⟨x1, x2, x3⟩ := hx
  have hf := (t5 i hi).1
  unfold wp_X2_lastZ wp_X2_firstZ
  rw [x1, nI_1, nI_leI (by omega) (by omega), show (1 : Int32) = nI 1 from rfl]
  refine ⟨fun q => X1_zs (by omega) ?_, fun q => X4_at (by omega) (by omega) ?_⟩
  · rw [pk_sub (p2p_ F), ← t4 (by omega), show P = i + 1 by omega]
    exact hp
  · rw [(x3 (i + 1) (by omega)).1]
    show post (nI (fr (i + 1)) - nI 1)
    rw [pk_sub (by omega)]
    exact hp
theorem J_part {K : (Nat → Int32) → (Nat → Int32) → Prop} {V1 V2 : Prop} (v1 : V1) (v2 : V2) {F : Nat} {R lF lA lB mP mQ : Nat → Int32} {mA mB : Nat → Int64} {p1 p2 lp ls mp ms : Int32} (hF : F ≤ 8) (hT : TJ F lp ls lF lA lB mp ms mP mQ mA mB) (hK : ∀ R', K R' R') :
    wp_X7_part (fun r u => V1 ∧ (V2 ∧ (wp_X8_part (fun r' w => ((r = r') → K u w) ∧ (¬ (r = r') → False)) mp R mP mQ mA mB p1 p2))) R (nI F) lp lF lA lB p1 p2 := by
  obtain ⟨P, s, fr, A, B, hw, hx, hm⟩ := hT
  obtain ⟨t1, t2, t3, t4, t5⟩ := id hw
  obtain ⟨x1, x2, x3⟩ := id hx
  obtain ⟨y1, y2, y3⟩ := id hm
  unfold wp_X7_part wp_X8_part wp_X2_parts wp_X7_part_32 wp_X7_refuseAsTold wp_X8_refuseFar
  by_cases z : P = 0
  · rw [y1 z, x1, z]
    first | refine B1 (by decide) ?_ | refine B2 (by decide) ?_ | refine B3 (by decide) ?_ | refine B4 (by decide) ?_
    refine x7r 3 rfl (by omega) ⟨v1, v2, ?_⟩
    first | refine B1 (by decide) ?_ | refine B2 (by decide) ?_ | refine B3 (by decide) ?_ | refine B4 (by decide) ?_
    exact x8r 3 rfl (by omega) (E1 (hK _))
  · have m1 := (y2 (by omega)).1
    rw [m1]
    refine B4 (by rw [x1]; exact nI_ne0 (by omega) (by omega)) ?_
    have n0 : (0 : Int32) ≤ nI P := nI_pos' (by omega)
    by_cases i1 : IN p1 P
    · obtain ⟨i, hi, rfl⟩ := i1
      obtain ⟨a1, a2, a3⟩ := x3 i hi
      obtain ⟨b1, b2, b3, b4⟩ := y3 i hi
      have vi := vp_in_nI (n := i) (N := 256) (by omega) (by omega)
      refine B2 (nI_nlt0 (by omega)) ?_
      refine B1 (by rw [x1]; exact (nI_ltI (by omega) (by omega)).mpr hi) ?_
      have i8 : ∀ {post : Int32 → Prop}, post 1 → wp_X8_isIn post (nI i) (nI P) := fun hp => iny rfl (by omega) hi hp
      by_cases q0 : p2 = 0
      · first | refine B1 (q0) ?_ | refine B2 (q0) ?_ | refine B3 (q0) ?_ | refine B4 (q0) ?_
        unfold wp_X2_firstZ
        refine X4_at (by omega) (by omega) ⟨v1, v2, ?_⟩
        first | refine B1 (n0) ?_ | refine B2 (n0) ?_ | refine B3 (n0) ?_ | refine B4 (n0) ?_
        refine i8 ?_
        first | refine B1 (by decide) ?_ | refine B2 (by decide) ?_ | refine B3 (by decide) ?_ | refine B4 (by decide) ?_
        first | refine B1 (q0) ?_ | refine B2 (q0) ?_ | refine B3 (q0) ?_ | refine B4 (q0) ?_
        rw [cl_nI (by omega), a1, b1]
        exact ⟨vi, E1 (hK _)⟩
      · by_cases q1 : p2 = 1
        · first | refine B1 (q0) ?_ | refine B2 (q0) ?_ | refine B3 (q0) ?_ | refine B4 (q0) ?_
          first | refine B1 (q1) ?_ | refine B2 (q1) ?_ | refine B3 (q1) ?_ | refine B4 (q1) ?_
          refine X2_lastZ hF hw hx hi ⟨v1, v2, ?_⟩
          first | refine B1 (n0) ?_ | refine B2 (n0) ?_ | refine B3 (n0) ?_ | refine B4 (n0) ?_
          refine i8 ?_
          first | refine B1 (by decide) ?_ | refine B2 (by decide) ?_ | refine B3 (by decide) ?_ | refine B4 (by decide) ?_
          first | refine B1 (q0) ?_ | refine B2 (q0) ?_ | refine B3 (q0) ?_ | refine B4 (q0) ?_
          first | refine B1 (q1) ?_ | refine B2 (q1) ?_ | refine B3 (q1) ?_ | refine B4 (q1) ?_
          rw [cl_nI (by omega), b2]
          exact ⟨vi, E1 (hK _)⟩
        · by_cases q2 : p2 = 2
          · first | refine B1 (q0) ?_ | refine B2 (q0) ?_ | refine B3 (q0) ?_ | refine B4 (q0) ?_
            first | refine B1 (q1) ?_ | refine B2 (q1) ?_ | refine B3 (q1) ?_ | refine B4 (q1) ?_
            first | refine B1 (q2) ?_ | refine B2 (q2) ?_ | refine B3 (q2) ?_ | refine B4 (q2) ?_
            unfold wp_X2_lineStart
            refine X4_at (by omega) (by omega) ⟨v1, v2, ?_⟩
            first | refine B1 (n0) ?_ | refine B2 (n0) ?_ | refine B3 (n0) ?_ | refine B4 (n0) ?_
            refine i8 ?_
            first | refine B1 (by decide) ?_ | refine B2 (by decide) ?_ | refine B3 (by decide) ?_ | refine B4 (by decide) ?_
            first | refine B1 (q0) ?_ | refine B2 (q0) ?_ | refine B3 (q0) ?_ | refine B4 (q0) ?_
            first | refine B1 (q1) ?_ | refine B2 (q1) ?_ | refine B3 (q1) ?_ | refine B4 (q1) ?_
            first | refine B1 (q2) ?_ | refine B2 (q2) ?_ | refine B3 (q2) ?_ | refine B4 (q2) ?_
            rw [cl_nI (by omega), b3, lI_i, a2]
            exact ⟨vi, E1 (hK _)⟩
          · by_cases q3 : p2 = 3
            · first | refine B1 (q0) ?_ | refine B2 (q0) ?_ | refine B3 (q0) ?_ | refine B4 (q0) ?_
              first | refine B1 (q1) ?_ | refine B2 (q1) ?_ | refine B3 (q1) ?_ | refine B4 (q1) ?_
              first | refine B1 (q2) ?_ | refine B2 (q2) ?_ | refine B3 (q2) ?_ | refine B4 (q2) ?_
              first | refine B1 (q3) ?_ | refine B2 (q3) ?_ | refine B3 (q3) ?_ | refine B4 (q3) ?_
              unfold wp_X2_lineSlope
              refine X4_at (by omega) (by omega) ⟨v1, v2, ?_⟩
              first | refine B1 (n0) ?_ | refine B2 (n0) ?_ | refine B3 (n0) ?_ | refine B4 (n0) ?_
              refine i8 ?_
              first | refine B1 (by decide) ?_ | refine B2 (by decide) ?_ | refine B3 (by decide) ?_ | refine B4 (by decide) ?_
              first | refine B1 (q0) ?_ | refine B2 (q0) ?_ | refine B3 (q0) ?_ | refine B4 (q0) ?_
              first | refine B1 (q1) ?_ | refine B2 (q1) ?_ | refine B3 (q1) ?_ | refine B4 (q1) ?_
              first | refine B1 (q2) ?_ | refine B2 (q2) ?_ | refine B3 (q2) ?_ | refine B4 (q2) ?_
              first | refine B1 (q3) ?_ | refine B2 (q3) ?_ | refine B3 (q3) ?_ | refine B4 (q3) ?_
              rw [cl_nI (by omega), b4, lI_i, a3]
              exact ⟨vi, E1 (hK _)⟩
            · first | refine B1 (q0) ?_ | refine B2 (q0) ?_ | refine B3 (q0) ?_ | refine B4 (q0) ?_
              first | refine B1 (q1) ?_ | refine B2 (q1) ?_ | refine B3 (q1) ?_ | refine B4 (q1) ?_
              first | refine B1 (q2) ?_ | refine B2 (q2) ?_ | refine B3 (q2) ?_ | refine B4 (q2) ?_
              first | refine B1 (q3) ?_ | refine B2 (q3) ?_ | refine B3 (q3) ?_ | refine B4 (q3) ?_
              refine x7r 2 rfl (by omega) ⟨v1, v2, ?_⟩
              first | refine B1 (n0) ?_ | refine B2 (n0) ?_ | refine B3 (n0) ?_ | refine B4 (n0) ?_
              refine i8 ?_
              first | refine B1 (by decide) ?_ | refine B2 (by decide) ?_ | refine B3 (by decide) ?_ | refine B4 (by decide) ?_
              first | refine B1 (q0) ?_ | refine B2 (q0) ?_ | refine B3 (q0) ?_ | refine B4 (q0) ?_
              first | refine B1 (q1) ?_ | refine B2 (q1) ?_ | refine B3 (q1) ?_ | refine B4 (q1) ?_
              first | refine B1 (q2) ?_ | refine B2 (q2) ?_ | refine B3 (q2) ?_ | refine B4 (q2) ?_
              first | refine B1 (q3) ?_ | refine B2 (q3) ?_ | refine B3 (q3) ?_ | refine B4 (q3) ?_
              exact x8r 2 rfl (by omega) (E1 (hK _))
    · rcases IN_n (by omega) i1 with w | ⟨w, w2⟩
      · first | refine B1 (w) ?_ | refine B2 (w) ?_ | refine B3 (w) ?_ | refine B4 (w) ?_
        refine x7r 1 rfl (by omega) ⟨v1, v2, ?_⟩
        first | refine B1 (n0) ?_ | refine B2 (n0) ?_ | refine B3 (n0) ?_ | refine B4 (n0) ?_
        refine inn rfl (by omega) i1 ?_
        first | refine B1 (by decide) ?_ | refine B2 (by decide) ?_ | refine B3 (by decide) ?_ | refine B4 (by decide) ?_
        exact x8r 1 rfl (by omega) (E1 (hK _))
      · first | refine B1 (w) ?_ | refine B2 (w) ?_ | refine B3 (w) ?_ | refine B4 (w) ?_
        refine B2 (by rw [x1, Int32.not_lt]; exact w2) ?_
        refine x7r 1 rfl (by omega) ⟨v1, v2, ?_⟩
        first | refine B1 (n0) ?_ | refine B2 (n0) ?_ | refine B3 (n0) ?_ | refine B4 (n0) ?_
        refine inn rfl (by omega) i1 ?_
        first | refine B1 (by decide) ?_ | refine B2 (by decide) ?_ | refine B3 (by decide) ?_ | refine B4 (by decide) ?_
        exact x8r 1 rfl (by omega) (E1 (hK _))
def LV (s : Nat) (a b : Int) (z : Nat) : Int32 := ((lI a + lI b * (nI z).toInt64) >>> ((nI s).toInt64 &&& 63)).toInt32
theorem told_loop {post : Int32 → Prop} {F P s z : Nat} {fr : Nat → Nat} {A B : Nat → Int} {lp ls : Int32} {lF lA lB : Nat → Int32} (hF : F ≤ 8) (hw : TW F P s fr A B) (hx : TX P s fr A B lp ls lF lA lB) (hz : z < 2 ^ F)
    (hp : ∀ i, i < P → (∀ j, j < i → fr (j + 1) - 1 < z) → z ≤ fr (i + 1) - 1 → post (LV s (A i) (B i) z)) :
    ∀ (d i : Nat), i + d + 1 = P → (∀ j, j < i → fr (j + 1) - 1 < z) → wp_X2_toldFor_2 post (nI F) lp ls lF lA lB (nI z) (d + 1) (nI i) := by
  obtain ⟨t1, t2, t3, t4, t5⟩ := id hw
  obtain ⟨x1, x2, x3⟩ := id hx
  have hZ : 2 ^ F ≤ 2 ^ 8 := Nat.pow_le_pow_right (by omega) hF
  have K25 : ∀ i, i < P → (∀ j, j < i → fr (j + 1) - 1 < z) → z ≤ fr (i + 1) - 1 → wp_X2_toldFor_25 post ls lA lB (nI z) (nI i) := by
    intro i hi hj hle
    obtain ⟨a1, a2, a3⟩ := x3 i hi
    obtain ⟨f1, f2, f3, f4⟩ := t5 i hi
    unfold wp_X2_toldFor_25 wp_X2_lineStart wp_X2_lineSlope wp_X2_onLine
    refine X4_at (by omega) (by omega) (X4_at (by omega) (by omega) ?_)
    rw [a2, a3]
    show post (((iI (A i)).toInt64 + (iI (B i)).toInt64 * (nI z).toInt64) >>> (ls.toInt64 &&& 63)).toInt32
    rw [iI_l f3, iI_l f4, x2 (by omega)]
    exact hp i hi hj hle
  intro d
  induction d with
  | zero =>
    intro i hi hj
    rw [wp_X2_toldFor_2_s]
    unfold wp_X2_toldFor_2_b
    have e : fr (i + 1) = 2 ^ F := by rw [show i + 1 = P by omega]; exact t4 (by omega)
    refine B2 (by rw [x1, nI_leI (by omega) (by omega)]; omega) ?_
    refine X2_lastZ hF hw hx (by omega) ?_
    refine B1 (by rw [nI_leI (by omega) (by omega)]; omega) ?_
    exact K25 i (by omega) hj (by omega)
  | succ d ih =>
    intro i hi hj
    have f2 := (t5 i (by omega)).2.1
    rw [wp_X2_toldFor_2_s]
    unfold wp_X2_toldFor_2_b
    refine B2 (by rw [x1, nI_leI (by omega) (by omega)]; omega) ?_
    refine X2_lastZ hF hw hx (by omega) ?_
    rw [nI_leI (by omega) (by omega), nI_1]
    refine ⟨fun q => K25 i (by omega) hj q, fun q => ih (i + 1) (by omega) (fun j hjj => ?_)⟩
    by_cases e : j = i
    · rw [e]; omega
    · exact hj j (by omega)
theorem look_loop {post : Int32 → (Nat → Int32) → Prop} {F P s z : Nat} {fr : Nat → Nat} {A B : Nat → Int} {mp ms : Int32} {R mP mQ : Nat → Int32} {mA mB : Nat → Int64} (hF : F ≤ 8) (hw : TW F P s fr A B) (hx : TM P s fr A B mp ms mP mQ mA mB) (hz : z < 2 ^ F)
    (hp : ∀ i, i < P → (∀ j, j < i → fr (j + 1) - 1 < z) → z ≤ fr (i + 1) - 1 → post (LV s (A i) (B i) z) R) :
    ∀ (d i : Nat), i + d + 1 = P → (∀ j, j < i → fr (j + 1) - 1 < z) → wp_X8_look_35 post ms mQ mA mB (nI z) (d + 1) R (nI i) := by
  obtain ⟨t1, t2, t3, t4, t5⟩ := id hw
  obtain ⟨y1, y2, y3⟩ := id hx
  have hZ : 2 ^ F ≤ 2 ^ 8 := Nat.pow_le_pow_right (by omega) hF
  intro d
  induction d with
  | zero =>
    intro i hi hj
    obtain ⟨b1, b2, b3, b4⟩ := y3 i (by omega)
    have vi := vp_in_nI (n := i) (N := 256) (by omega) (by omega)
    have e : fr (i + 1) = 2 ^ F := by rw [show i + 1 = P by omega]; exact t4 (by omega)
    rw [wp_X8_look_35_s]
    unfold wp_X8_look_35_b
    rw [cl_nI (by omega), b2, b3, b4, (y2 (by omega)).2]
    refine ⟨vi, B1 (by rw [nI_leI (by omega) (by omega)]; omega) ⟨vi, vi, ?_⟩⟩
    exact hp i (by omega) hj (by omega)
  | succ d ih =>
    intro i hi hj
    obtain ⟨b1, b2, b3, b4⟩ := y3 i (by omega)
    have vi := vp_in_nI (n := i) (N := 256) (by omega) (by omega)
    have f2 := (t5 i (by omega)).2.1
    rw [wp_X8_look_35_s]
    unfold wp_X8_look_35_b
    have em := (y2 (by omega)).2
    rw [cl_nI (by omega), b2, b3, b4, nI_leI (by omega) (by omega), nI_1]
    refine ⟨vi, fun q => ⟨vi, vi, ?_⟩, fun q => ih (i + 1) (by omega) (fun j hjj => ?_)⟩
    · rw [em]; exact hp i (by omega) hj q
    · by_cases e : j = i
      · rw [e]; omega
      · exact hj j (by omega)
theorem J_look {K : (Nat → Int32) → (Nat → Int32) → Prop} {V1 : Prop} (v1 : V1) {F : Nat} {R lF lA lB mP mQ : Nat → Int32} {mA mB : Nat → Int64} {p1 lp ls mp ms : Int32} (hF : F ≤ 8) (hT : TJ F lp ls lF lA lB mp ms mP mQ mA mB) (hK : ∀ R', K R' R') :
    wp_X7_look (fun r u => V1 ∧ (wp_X8_look (fun r' w => ((r = r') → K u w) ∧ (¬ (r = r') → False)) (nI F) mp ms R mQ mA mB p1)) R (nI F) lp ls lF lA lB p1 := by
  obtain ⟨P, s, fr, A, B, hw, hx, hm⟩ := hT
  obtain ⟨t1, t2, t3, t4, t5⟩ := id hw
  obtain ⟨x1, x2, x3⟩ := id hx
  obtain ⟨y1, y2, y3⟩ := id hm
  unfold wp_X7_look wp_X8_look wp_X2_parts
  by_cases z : P = 0
  · rw [y1 z, x1, z]
    first | refine B1 (by decide) ?_ | refine B2 (by decide) ?_ | refine B3 (by decide) ?_ | refine B4 (by decide) ?_
    refine x7r 3 rfl (by omega) ⟨v1, ?_⟩
    first | refine B1 (by decide) ?_ | refine B2 (by decide) ?_ | refine B3 (by decide) ?_ | refine B4 (by decide) ?_
    exact x8r 3 rfl (by omega) (E1 (hK _))
  · have m1 := (y2 (by omega)).1
    refine B4 (by rw [x1]; exact nI_ne0 (by omega) (by omega)) ?_
    have n0 : (0 : Int32) ≤ mp := by rw [m1]; exact nI_pos' (by omega)
    by_cases i1 : IN p1 (2 ^ F)
    · obtain ⟨c, hc, rfl⟩ := i1
      refine z7y hF hc ?_
      first | refine B1 (by decide) ?_ | refine B2 (by decide) ?_ | refine B3 (by decide) ?_ | refine B4 (by decide) ?_
      refine ⟨P - 1 + 1, told_loop hF hw hx hc (fun i hi hj hle => ⟨v1, ?_⟩) (P - 1) 0 (by omega) (fun j hj => by omega)⟩
      first | refine B1 (n0) ?_ | refine B2 (n0) ?_ | refine B3 (n0) ?_ | refine B4 (n0) ?_
      refine z8y hF hc ?_
      first | refine B1 (by decide) ?_ | refine B2 (by decide) ?_ | refine B3 (by decide) ?_ | refine B4 (by decide) ?_
      refine ⟨P - 1 + 1, look_loop hF hw hm hc (fun i' hi' hj' hle' => ?_) (P - 1) 0 (by omega) (fun j hj => by omega)⟩
      have e : i = i' := by
        by_cases a : i < i'
        · have := hj' i a; omega
        · by_cases b : i' < i
          · have := hj i' b; omega
          · omega
      rw [e]
      exact E1 (hK _)
    · refine z7n hF i1 ?_
      first | refine B1 (by decide) ?_ | refine B2 (by decide) ?_ | refine B3 (by decide) ?_ | refine B4 (by decide) ?_
      refine x7r 1 rfl (by omega) ⟨v1, ?_⟩
      first | refine B1 (n0) ?_ | refine B2 (n0) ?_ | refine B3 (n0) ?_ | refine B4 (n0) ?_
      refine z8n hF i1 ?_
      first | refine B1 (by decide) ?_ | refine B2 (by decide) ?_ | refine B3 (by decide) ?_ | refine B4 (by decide) ?_
      exact x8r 1 rfl (by omega) (E1 (hK _))
