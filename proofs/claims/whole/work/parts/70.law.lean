/-! ===== the law ===== -/
theorem CI_0 (E F n : Nat) (low : Int) : CI E F n low (fun _ => 0) (fun _ => 0) (fun _ => 0) (fun _ => 0) (fun _ => 0) :=
  fun fn hf => ⟨fun _ => ⟨fun _ _ => rfl, fun _ _ => rfl, fun _ _ => ⟨rfl, rfl⟩⟩, fun w => absurd rfl w⟩
theorem PI_0 (E F n : Nat) (low : Int) : PI E F n low (fun _ => 0) (fun _ => 0) :=
  fun fn r hf hr => ⟨fun _ _ _ => rfl, fun w => absurd rfl w⟩
theorem KI_0 {E F n : Nat} {low : Int} {K H S : Nat → Int32} (h : ∀ k, k < 5 → K k = 0) : KI E F n low K H S :=
  fun fn hf w => absurd (h fn hf) w
theorem FI_0 {E F n : Nat} {low : Int} {sr sm : Int32} {X Y : Nat → Int32} : FI E F n low (-1) sr sm X Y := by
  intro fn r hf hr w
  have := nI_nlt0 (n := fn) (by omega)
  rw [← w] at this
  exact absurd (by decide) this
theorem law_all (L : Nat) (xs : Nat → Int32) (hL : L ≤ 4608) : ∀ (d : Nat) ⦃i E F : Nat⦄ ⦃R : Nat → Int32⦄ ⦃pl1 pl2 pl3 pl4 : Int32⦄ ⦃v1 : Int64⦄ ⦃v2 v3 v4 v5 v6 v7 v8 v9 v10 v11 : Int32⦄ ⦃T S H G V sT sB : Nat → Int32⦄ ⦃lp ls : Int32⦄ ⦃l g : Int64⦄ ⦃lD lF lA lB : Nat → Int32⦄ ⦃a1 a2 : Int32⦄ ⦃a3 : Int64⦄ ⦃sf sr sm mp ms : Int32⦄ ⦃Kn Hn Sn X Y mP mQ : Nat → Int32⦄ ⦃mA mB mD : Nat → Int64⦄,
    L ≤ i + 9 * d + 8 → i ≤ 5000 → 2 ≤ E → E ≤ 5 → 1 ≤ F → F ≤ 8 → CI E F (nE E F) (lE E F) T S H G V → PI E F (nE E F) (lE E F) sT sB → KI E F (nE E F) (lE E F) Kn Hn Sn → FI E F (nE E F) (lE E F) sf sr sm X Y → TJ F lp ls lF lA lB mp ms mP mQ mA mB →
    wp_L_law_18 () L xs (d + 1) R (nI E) (nI F) (nI (bE E)) (nI (2 ^ (E + F + 1))) (nI (2 ^ (E + F))) (nI (nE E F)) pl1 pl2 pl3 pl4 v1 v2 v3 v4 v5 v6 v7 v8 v9 v10 v11 T S H G V sT sB lp ls l g lD lF lA lB (nI E) (nI F) (nI (2 ^ (E + F + 1))) (nI (nE E F - 1)) (nI (2 ^ (E + F))) (iI (lE E F)) a1 a2 a3 sf sr sm mp ms R Kn Hn Sn X Y mP mQ mA mB mD (nI i) := by
  have e0 : ∀ i : Nat, i ≤ 5000 → (((Int32.ofNat L) - (9 : Int32)) < nI i ↔ (L : Int) - 9 < i) := by
    intro i hi
    rw [show Int32.ofNat L = iI (L : Int) from iI_N L, show (9 : Int32) = iI 9 from rfl, iI_sub, iI_N i]
    exact iI_lt ⟨by omega, by omega⟩ ⟨by omega, by omega⟩
  intro d
  induction d with
  | zero =>
    intro i E F R pl1 pl2 pl3 pl4 v1 v2 v3 v4 v5 v6 v7 v8 v9 v10 v11 T S H G V sT sB lp ls l g lD lF lA lB a1 a2 a3 sf sr sm mp ms Kn Hn Sn X Y mP mQ mA mB mD hi hi2 he1 he2 hf1 hf2 hC hP hI hFI hT
    rw [wp_L_law_18_s]
    unfold wp_L_law_18_b
    exact B1 ((e0 i hi2).mpr (by omega)) trivial
  | succ d ih =>
    intro i E F R pl1 pl2 pl3 pl4 v1 v2 v3 v4 v5 v6 v7 v8 v9 v10 v11 T S H G V sT sB lp ls l g lD lF lA lB a1 a2 a3 sf sr sm mp ms Kn Hn Sn X Y mP mQ mA mB mD hi hi2 he1 he2 hf1 hf2 hC hP hI hFI hT
    obtain ⟨hm, hn9⟩ := MK_of he1 he2 hf1 hf2
    rw [wp_L_law_18_s]
    unfold wp_L_law_18_b wp_L_law_857
    by_cases q : ((Int32.ofNat L) - (9 : Int32)) < nI i
    · exact B1 q trivial
    · refine B2 q ?_
      have hq : i + 9 ≤ L := by
        by_cases w : (L : Int) - 9 < i
        · exact absurd ((e0 i hi2).mpr w) q
        · omega
      have y0 : vp_in (nI i) L := vp_in_nI (by omega) (by omega)
      have y1 : vp_in (nI i + (1 : Int32)) L := by rw [show (1 : Int32) = nI 1 from rfl, nI_add]; exact vp_in_nI (by omega) (by omega)
      have y2 : vp_in (nI i + (2 : Int32)) L := by rw [show (2 : Int32) = nI 2 from rfl, nI_add]; exact vp_in_nI (by omega) (by omega)
      have y3 : vp_in (nI i + (3 : Int32)) L := by rw [show (3 : Int32) = nI 3 from rfl, nI_add]; exact vp_in_nI (by omega) (by omega)
      have y4 : vp_in (nI i + (4 : Int32)) L := by rw [show (4 : Int32) = nI 4 from rfl, nI_add]; exact vp_in_nI (by omega) (by omega)
      have y5 : vp_in (nI i + (5 : Int32)) L := by rw [show (5 : Int32) = nI 5 from rfl, nI_add]; exact vp_in_nI (by omega) (by omega)
      have y6 : vp_in (nI i + (6 : Int32)) L := by rw [show (6 : Int32) = nI 6 from rfl, nI_add]; exact vp_in_nI (by omega) (by omega)
      have y7 : vp_in (nI i + (7 : Int32)) L := by rw [show (7 : Int32) = nI 7 from rfl, nI_add]; exact vp_in_nI (by omega) (by omega)
      have y8 : vp_in (nI i + (8 : Int32)) L := by rw [show (8 : Int32) = nI 8 from rfl, nI_add]; exact vp_in_nI (by omega) (by omega)
      have e9 : nI i + (9 : Int32) = nI (i + 9) := by rw [show (9 : Int32) = nI 9 from rfl, nI_add]
      rw [e9]
      refine ⟨y0, fun _ => ⟨y1, y2, ?_⟩, fun _ => ⟨fun _ => ⟨y1, y2, ?_⟩, fun _ => ⟨fun _ => ⟨y1, ?_⟩, fun _ => ⟨fun _ => ⟨y1, y2, ?_⟩, fun _ => ⟨fun _ => ⟨y1, y2, y3, ?_⟩, fun _ => ⟨fun _ => ⟨y1, y2, y3, ?_⟩, fun _ => ⟨fun _ => ⟨y1, y2, ?_⟩, fun _ => ⟨fun _ => ⟨y1, y2, ?_⟩, fun _ => ⟨fun _ => ⟨y1, y2, ?_⟩, fun _ => ⟨fun _ => ⟨y1, y2, ?_⟩, fun _ => ⟨fun _ => ⟨y1, y2, ?_⟩, fun _ => ⟨fun _ => ⟨y1, y2, ?_⟩, fun _ => ⟨fun _ => ⟨y1, y2, ?_⟩, fun _ => ⟨fun _ => ⟨y1, y2, y3, y4, ?_⟩, fun _ => ⟨fun _ => ⟨y1, y2, y3, y4, y5, ?_⟩, fun _ => ⟨fun _ => ⟨y1, y2, ?_⟩, fun _ => ⟨fun _ => ⟨y1, ?_⟩, fun _ => ⟨fun _ => ⟨y1, y2, y3, y4, y5, y6, y7, y8, ?_⟩, fun _ => ⟨fun _ => ⟨y1, ?_⟩, fun _ => ?_⟩⟩⟩⟩⟩⟩⟩⟩⟩⟩⟩⟩⟩⟩⟩⟩⟩⟩⟩
      · exact J_make y1 y2 hC hP he1 he2 hf1 hf2 (fun R' => ih (by omega) (by omega) he1 he2 hf1 hf2 hC hP hI hFI hT) (fun E F T S H G V sT sB Kn b1 b2 b3 b4 c1 c2 c3 => ih (by omega) (by omega) b1 b2 b3 b4 c1 c2 (KI_0 c3) FI_0 (TJ_0 F))
      · exact J_about y1 y2 hm (fun R' => ih (by omega) (by omega) he1 he2 hf1 hf2 hC hP hI hFI hT)
      · exact J_next y1 hm (fun R' => ih (by omega) (by omega) he1 he2 hf1 hf2 hC hP hI hFI hT)
      · exact J_between y1 y2 hm (fun R' => ih (by omega) (by omega) he1 he2 hf1 hf2 hC hP hI hFI hT)
      · exact J_round y1 y2 y3 hm (fun R' x1 x2 x3 x4 x5 x6 x7 => ih (by omega) (by omega) he1 he2 hf1 hf2 hC hP hI hFI hT)
      · exact J_right y1 y2 y3 hm (fun R' w1 w2 w3 w4 w5 w6 w7 w8 w9 w10 w11 x1 x2 x3 => ih (by omega) (by omega) he1 he2 hf1 hf2 hC hP hI hFI hT)
      · exact J_sort y1 y2 hm (fun R' w1 w2 w3 w4 w5 w6 w7 w8 w9 w10 w11 x1 x2 x3 => ih (by omega) (by omega) he1 he2 hf1 hf2 hC hP hI hFI hT)
      · exact J_figures y1 y2 hm (fun R' w1 w2 w3 w4 w5 w6 w7 w8 w9 w10 w11 x1 x2 x3 => ih (by omega) (by omega) he1 he2 hf1 hf2 hC hP hI hFI hT)
      · exact J_hard y1 y2 hm (fun R' w1 w2 w3 w4 w5 w6 w7 w8 w9 w10 w11 x1 x2 x3 => ih (by omega) (by omega) he1 he2 hf1 hf2 hC hP hI hFI hT)
      · exact J_hardest y1 y2 hm hC hI (fun R' w1 w2 w3 w4 w5 w6 w7 w8 w9 w10 w11 T S H G V x1 x2 x3 Kn Hn Sn c1 c2 => ih (by omega) (by omega) he1 he2 hf1 hf2 c1 hP c2 hFI hT)
      · exact J_count y1 y2 hm hC hI (fun R' w1 w2 w3 w4 w5 w6 w7 w8 w9 w10 w11 T S H G V x1 x2 x3 Kn Hn Sn c1 c2 => ih (by omega) (by omega) he1 he2 hf1 hf2 c1 hP c2 hFI hT)
      · exact J_all y1 y2 hm hC hI (fun R' w1 w2 w3 w4 w5 w6 w7 w8 w9 w10 w11 T S H G V x1 x2 x3 Kn Hn Sn c1 c2 => ih (by omega) (by omega) he1 he2 hf1 hf2 c1 hP c2 hFI hT)
      · exact J_spans y1 y2 hm hP hFI (fun R' w1 w2 w3 w4 w5 w6 w7 w8 w9 w10 w11 T B x1 x2 x3 sf sr sm X Y c1 c2 => ih (by omega) (by omega) he1 he2 hf1 hf2 hC c1 hI c2 hT)
      · exact J_span y1 y2 y3 y4 hm hP hFI (fun R' w1 w2 w3 w4 w5 w6 w7 w8 w9 w10 w11 T B x1 x2 x3 sf sr sm X Y c1 c2 => ih (by omega) (by omega) he1 he2 hf1 hf2 hC c1 hI c2 hT)
      · exact J_table y1 y2 y3 y4 y5 hm hn9 rfl hT (fun R' w1 w2 w3 w4 w5 w6 w7 w8 w9 w10 w11 lp ls l g lD lF lA lB x1 x2 x3 mp ms mP mQ mA mB mD c1 => ih (by omega) (by omega) he1 he2 hf1 hf2 hC hP hI hFI c1)
      · exact J_part y1 y2 hf2 hT (fun R' => ih (by omega) (by omega) he1 he2 hf1 hf2 hC hP hI hFI hT)
      · exact J_look y1 hf2 hT (fun R' => ih (by omega) (by omega) he1 he2 hf1 hf2 hC hP hI hFI hT)
      · exact J_fits y1 y2 y3 y4 y5 y6 y7 y8 hm rfl (fun R' w1 w2 w3 w4 w5 w6 w7 w8 w9 w10 w11 x1 x2 x3 => ih (by omega) (by omega) he1 he2 hf1 hf2 hC hP hI hFI hT)
      · exact J_status y1 hT (ih (by omega) (by omega) he1 he2 hf1 hf2 hC hP hI hFI hT)
      · exact ih (by omega) (by omega) he1 he2 hf1 hf2 hC hP hI hFI hT
theorem law_pure : LawPure := by
  intro L xs kn hL hk
  refine ⟨L + 1, ?_⟩
  have k := law_all L xs hL L (i := 0) (E := 3) (F := 3) (R := fun _ => 0) (pl1 := 0) (pl2 := 0) (pl3 := 0) (pl4 := 0) (v1 := 0) (v2 := 0) (v3 := 0) (v4 := 0) (v5 := 0) (v6 := 0) (v7 := 0) (v8 := 0) (v9 := 0) (v10 := 0) (v11 := 0) (T := fun _ => 0) (S := fun _ => 0) (H := fun _ => 0) (G := fun _ => 0) (V := fun _ => 0) (sT := fun _ => 0) (sB := fun _ => 0) (lp := 0) (ls := 0) (l := 0) (g := 0) (lD := fun _ => 0) (lF := fun _ => 0) (lA := fun _ => 0) (lB := fun _ => 0) (a1 := 0) (a2 := 0) (a3 := 0) (sf := -1) (sr := 0) (sm := 0) (mp := -1) (ms := 0) (Kn := kn) (Hn := fun _ => 0) (Sn := fun _ => 0) (X := fun _ => 0) (Y := fun _ => 0) (mP := fun _ => 0) (mQ := fun _ => 0) (mA := fun _ => 0) (mB := fun _ => 0) (mD := fun _ => 0) (by omega) (by omega) (by omega) (by omega) (by omega) (by omega) (CI_0 _ _ _ _) (PI_0 _ _ _ _) (KI_0 hk) FI_0 (TJ_0 3)
  rw [show nI 3 = (3 : Int32) from rfl, show nI (bE 3) = (3 : Int32) by decide, show nI (2 ^ (3 + 3 + 1)) = (128 : Int32) by decide, show nI (2 ^ (3 + 3)) = (64 : Int32) by decide, show nI (nE 3 3 - 1) = (55 : Int32) by decide, show nI (nE 3 3) = (56 : Int32) by decide, show iI (lE 3 3) = (-5 : Int32) by decide, show nI 0 = (0 : Int32) from rfl] at k
  exact k
