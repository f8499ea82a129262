def w_X7_look : List Cond := .code yX7_look cX7_look 2 (some .int) :: wsL_law
set_option maxHeartbeats 4000000 in
set_option maxRecDepth 100000 in
theorem c_X7_look (l : Launch) (D : va_G) (cI cJ cZ : ClassId) (a_hb : Nat) (a_hbR : Nat) (a_fl : Nat) (a_pl : Nat) (a_va : Nat) (a_ce : Nat) (a_st : Nat) (a_li : Nat) (a_liD : Nat) (a_liF : Nat) (a_liA : Nat) (a_liB : Nat) (sz : Nat) (hbR_r : Nat → Int32) (fl_e : Int32) (fl_f : Int32) (fl_bias : Int32) (fl_codes : Int32) (fl_signBit : Int32) (fl_endless : Int32) (li_parts : Int32) (li_s : Int32) (li_least : Int64) (li_greatest : Int64) (liF_r : Nat → Int32) (liA_r : Nat → Int32) (liB_r : Nat → Int32) (p1 : Int32) (post : Int32 → (Nat → Int32) → Prop) (A : Nat → Prop) (hAe : A = va_A [(a_hb, oX7 a_fl a_pl a_va a_ce a_st a_li a_hbR), (a_hbR, .inl (cI, 7, .inl hbR_r)), (a_fl, oX1 fl_e fl_f fl_bias fl_codes fl_signBit fl_endless), (a_li, oX2 a_fl a_va a_liD a_liF a_liA a_liB li_parts li_s li_least li_greatest), (a_liF, .inl (cI, 256, .inl liF_r)), (a_liA, .inl (cI, 256, .inl liA_r)), (a_liB, .inl (cI, 256, .inl liB_r))] sz) (ho : wp_X7_look post hbR_r fl_f li_parts li_s liF_r liA_r liB_r p1) : Met l yX7_look w_X7_look ({ frames := 4, cells := 0, slots := 0, locals := 85 } : Room) (rw_P D [(cI, .int), (cJ, .long), (cZ, .boolean)] [.ref a_hb, .int p1] sz [(a_hb, oX7 a_fl a_pl a_va a_ce a_st a_li a_hbR), (a_hbR, .inl (cI, 7, .inl hbR_r)), (a_fl, oX1 fl_e fl_f fl_bias fl_codes fl_signBit fl_endless), (a_li, oX2 a_fl a_va a_liD a_liF a_liA a_liB li_parts li_s li_least li_greatest), (a_liF, .inl (cI, 256, .inl liF_r)), (a_liA, .inl (cI, 256, .inl liA_r)), (a_liB, .inl (cI, 256, .inl liB_r))]) (va_Qi (fun (r : Int32) (u : (Nat → Int32)) => post r u) (rw_B D A (fun (u : (Nat → Int32)) => [(a_hb, oX7 a_fl a_pl a_va a_ce a_st a_li a_hbR), (a_hbR, .inl (cI, 7, .inl u)), (a_fl, oX1 fl_e fl_f fl_bias fl_codes fl_signBit fl_endless), (a_li, oX2 a_fl a_va a_liD a_liF a_liA a_liB li_parts li_s li_least li_greatest), (a_liF, .inl (cI, 256, .inl liF_r)), (a_liA, .inl (cI, 256, .inl liA_r)), (a_liB, .inl (cI, 256, .inl liB_r))])) A) 0 0 A := by
  refine Met.ofW (cc := cX7_look) (maxL := 2) (ret := (some .int)) (by decide) rfl ?_
  intro p e s m args below meth c s₁ B hml hv
  obtain ⟨hargs, hsz, hP, hK, hN, hD0⟩ := hv
  have hx := B.exec
  have hb := B.bytes
  have hr := B.returns
  have hts : ∀ w ∈ wsL_law, w.before args s = true := fun w h => atoms_spec (ws := w_X7_look) B.pre w (List.mem_cons_of_mem _ h)
  have hown : s.vm.findClass RX7 = some m.cls := findClass_of_methodNamed B.named
  have hlocks := B.notSynchronized
  subst hsz
  have hD : va_D A [(a_hb, oX7 a_fl a_pl a_va a_ce a_st a_li a_hbR), (a_hbR, .inl (cI, 7, .inl hbR_r)), (a_fl, oX1 fl_e fl_f fl_bias fl_codes fl_signBit fl_endless), (a_li, oX2 a_fl a_va a_liD a_liF a_liA a_liB li_parts li_s li_least li_greatest), (a_liF, .inl (cI, 256, .inl liF_r)), (a_liA, .inl (cI, 256, .inl liA_r)), (a_liB, .inl (cI, 256, .inl liB_r))] := by rw [hAe]; exact hD0.self
  have hA : ∀ q : Nat, s.heap.size ≤ q → A q := fun q h => by rw [hAe]; exact Or.inr h
  have hS : va_S A s.heap s.heap [] := va_S.rf
  have hl := lv_entry ([.ref a_hb, .int p1]) (n := 2) (Nat.le_of_ble_eq_true rfl)
  rw [hargs, lg_entry_eq, ← hargs]
  generalize (lg_sl ([.ref a_hb, .int p1]) ++ List.replicate (2 - (lg_sl ([.ref a_hb, .int p1])).length) Slot.unset).toArray = ls at hl ⊢
  replace hl : lv_has ls 2 [(0, .ref a_hb), (1, .int p1)] := hl
  have hRf : ∀ n, n ≤ 4 → n ≤ (headSpec w_X7_look ({ frames := 4, cells := 0, slots := 0, locals := 85 } : Room)).room.frames := fun n h => h
  have hRl : ∀ n, n ≤ 85 → n ≤ (headSpec w_X7_look ({ frames := 4, cells := 0, slots := 0, locals := 85 } : Room)).room.locals := fun n h => h
  generalize (headSpec w_X7_look ({ frames := 4, cells := 0, slots := 0, locals := 85 } : Room)).room = R at hRf hRl ⊢
  generalize hQ : MQ below _ args s 0 0 _ = Q
  suffices main : ∀ (H : Heap) (locs : List Loc), va_P D vwCl [(a_hb, oX7 a_fl a_pl a_va a_ce a_st a_li a_hbR), (a_hbR, .inl (cI, 7, .inl hbR_r)), (a_fl, oX1 fl_e fl_f fl_bias fl_codes fl_signBit fl_endless), (a_li, oX2 a_fl a_va a_liD a_liF a_liA a_liB li_parts li_s li_least li_greatest), (a_liF, .inl (cI, 256, .inl liF_r)), (a_liA, .inl (cI, 256, .inl liA_r)), (a_liB, .inl (cI, 256, .inl liB_r))] H → va_S A s.heap H locs → W p l e R s m args below meth c H locs 0 0 Q (F0 m 0 ls []) from main _ _ hP hS
  intro H locs hP hS
  unfold wp_X7_look at ho
  refine lv_aload_n hx hb dX7_look_0 rfl (lv_at hl 0 rfl) ?_
  refine va_get (D := D) (ci := 6) (v := .ref a_li) (C := RX7) (T := TX7) (N := 7) hx hb hts inlX7 hown hK hP 0 rfl rfl 5 (by decide) (hts _ wl_35) (fun _ h9 => h9) rfl dX7_look_1 ?_
  refine ca_Vi (b := a_li) (As := []) (rest := []) ⟨hx, hb, hml, hown, hts⟩ (c_X2_parts l D cI cJ cZ a_fl a_va a_li a_liD a_liF a_liA a_liB li_parts li_s li_least li_greatest  _ ho) (cwV 0 hts (gdV wl_699 wl_700 wl_701 wl_34 wl_702) rfl rfl rfl (by decide +kernel) ⟨hRf _ (Nat.le_of_ble_eq_true rfl), hRl _ (Nat.le_of_ble_eq_true rfl)⟩) hK hN hP [3] rfl 0 2 rfl rfl rfl rfl hl.1 rfl (Nat.le_of_ble_eq_true rfl) dX7_look_4 ⟨Nat.zero_le _, Nat.zero_le _⟩ (fun r4 ho => ?_)
  refine lv_if_ne (tgt := 17) hx hb dX7_look_7 (by decide) (fun c_7 => ?_) (fun c_7 => ?_)
  · replace ho := ho.1 c_7
    refine lv_aload_n hx hb dX7_look_17 rfl (lv_at hl 0 rfl) ?_
    refine va_get (D := D) (ci := 6) (v := .ref a_fl) (C := RX7) (T := TX7) (N := 7) hx hb hts inlX7 hown hK hP 0 rfl rfl 0 (by decide) (hts _ wl_15) (fun _ h9 => h9) rfl dX7_look_18 ?_
    refine lv_iload_n hx hb dX7_look_21 rfl (lv_at hl 1 rfl) ?_
    refine ca_Vi (b := a_fl) (As := [.int p1]) (rest := []) ⟨hx, hb, hml, hown, hts⟩ (c_X1_isZ l D cI cJ cZ a_fl fl_e fl_f fl_bias fl_codes fl_signBit fl_endless p1 _ ho) (cwV 1 hts (gdV wl_758 wl_759 wl_760 wl_14 wl_761) rfl rfl rfl (by decide +kernel) ⟨hRf _ (Nat.le_of_ble_eq_true rfl), hRl _ (Nat.le_of_ble_eq_true rfl)⟩) hK hN hP [2] rfl 0 1 rfl rfl rfl rfl hl.1 rfl (Nat.le_of_ble_eq_true rfl) dX7_look_22 ⟨Nat.zero_le _, Nat.zero_le _⟩ (fun r22 ho => ?_)
    refine lv_if_ne (tgt := 34) hx hb dX7_look_25 (by decide) (fun c_25 => ?_) (fun c_25 => ?_)
    · replace ho := ho.1 c_25
      refine lv_aload_n hx hb dX7_look_34 rfl (lv_at hl 0 rfl) ?_
      refine va_get (D := D) (ci := 6) (v := .ref a_li) (C := RX7) (T := TX7) (N := 7) hx hb hts inlX7 hown hK hP 0 rfl rfl 5 (by decide) (hts _ wl_35) (fun _ h9 => h9) rfl dX7_look_35 ?_
      refine lv_iload_n hx hb dX7_look_38 rfl (lv_at hl 1 rfl) ?_
      refine ca_Vi (b := a_li) (As := [.int p1]) (rest := []) ⟨hx, hb, hml, hown, hts⟩ (c_X2_toldFor l D cI cJ cZ a_fl a_va a_li a_liD a_liF a_liA a_liB fl_e fl_f fl_bias fl_codes fl_signBit fl_endless li_parts li_s li_least li_greatest liF_r liA_r liB_r p1 _ ho) (cwV 1 hts (gdV wl_762 wl_763 wl_764 wl_34 wl_765) rfl rfl rfl (by decide +kernel) ⟨hRf _ (Nat.le_of_ble_eq_true rfl), hRl _ (Nat.le_of_ble_eq_true rfl)⟩) hK hN hP [2, 3, 4, 5, 6] rfl 1 2 rfl rfl rfl rfl hl.1 rfl (Nat.le_of_ble_eq_true rfl) dX7_look_39 ⟨Nat.zero_le _, Nat.zero_le _⟩ (fun r39 ho => ?_)
      subst hQ; exact W.iret (v := r39) hx hb hr (fun t ht hW => ⟨⟨r39, hbR_r, rfl, ho, by rw [ht]; exact hP, hD⟩, hS.F ht⟩) (fun q hq => hS.2.2 q hq) dX7_look_42
    · replace ho := ho.2 c_25
      refine lv_aload_n hx hb dX7_look_28 rfl (lv_at hl 0 rfl) ?_
      refine lv_iconst (v := (-1)) hx hb dX7_look_29 (by decide) ?_
      refine ca_Wi (b := a_hb) (As := [.int (-1 : Int32)]) (rest := []) (wr := [(a_fl, oX1 fl_e fl_f fl_bias fl_codes fl_signBit fl_endless), (a_li, oX2 a_fl a_va a_liD a_liF a_liA a_liB li_parts li_s li_least li_greatest), (a_liF, .inl (cI, 256, .inl liF_r)), (a_liA, .inl (cI, 256, .inl liA_r)), (a_liB, .inl (cI, 256, .inl liB_r))]) (wo := fun (u : (Nat → Int32)) => [(a_hb, oX7 a_fl a_pl a_va a_ce a_st a_li a_hbR), (a_hbR, .inl (cI, 7, .inl u))]) (wn := fun (u : (Nat → Int32)) => [(a_hb, oX7 a_fl a_pl a_va a_ce a_st a_li a_hbR), (a_hbR, .inl (cI, 7, .inl u)), (a_fl, oX1 fl_e fl_f fl_bias fl_codes fl_signBit fl_endless), (a_li, oX2 a_fl a_va a_liD a_liF a_liA a_liB li_parts li_s li_least li_greatest), (a_liF, .inl (cI, 256, .inl liF_r)), (a_liA, .inl (cI, 256, .inl liA_r)), (a_liB, .inl (cI, 256, .inl liB_r))]) ⟨hx, hb, hml, hown, hts⟩ (c_X7_refuse l D cI cJ cZ a_hb a_hbR a_fl a_pl a_va a_ce a_st a_li H.size hbR_r (-1 : Int32) _ _ rfl ho) (cwV 1 hts (gdV wl_128 wl_129 wl_130 wl_2 wl_131) rfl rfl rfl (by decide +kernel) ⟨hRf _ (Nat.le_of_ble_eq_true rfl), hRl _ (Nat.le_of_ble_eq_true rfl)⟩) hK hN hP hD hS hA [0, 1] [2, 3, 4, 5, 6] [5, 6, 0, 1, 2, 3, 4] rfl rfl (by decide) (by decide) (by decide) (by decide) (fun _ => rfl) 0 6 rfl rfl rfl rfl hl.1 rfl (Nat.le_of_ble_eq_true rfl) dX7_look_30 ⟨Nat.zero_le _, Nat.zero_le _⟩ (fun r30 u30 H locs ho hP hD hS => ?_)
      try dsimp only at ho
      replace hP : va_P D vwCl [(a_hb, oX7 a_fl a_pl a_va a_ce a_st a_li a_hbR), (a_hbR, .inl (cI, 7, .inl u30)), (a_fl, oX1 fl_e fl_f fl_bias fl_codes fl_signBit fl_endless), (a_li, oX2 a_fl a_va a_liD a_liF a_liA a_liB li_parts li_s li_least li_greatest), (a_liF, .inl (cI, 256, .inl liF_r)), (a_liA, .inl (cI, 256, .inl liA_r)), (a_liB, .inl (cI, 256, .inl liB_r))] H := hP
      replace hD : va_D A [(a_hb, oX7 a_fl a_pl a_va a_ce a_st a_li a_hbR), (a_hbR, .inl (cI, 7, .inl u30)), (a_fl, oX1 fl_e fl_f fl_bias fl_codes fl_signBit fl_endless), (a_li, oX2 a_fl a_va a_liD a_liF a_liA a_liB li_parts li_s li_least li_greatest), (a_liF, .inl (cI, 256, .inl liF_r)), (a_liA, .inl (cI, 256, .inl liA_r)), (a_liB, .inl (cI, 256, .inl liB_r))] := hD
      subst hQ; exact W.iret (v := r30) hx hb hr (fun t ht hW => ⟨⟨r30, u30, rfl, ho, by rw [ht]; exact hP, hD⟩, hS.F ht⟩) (fun q hq => hS.2.2 q hq) dX7_look_33
  · replace ho := ho.2 c_7
    refine lv_aload_n hx hb dX7_look_10 rfl (lv_at hl 0 rfl) ?_
    refine lv_bipush (v := (-3)) hx hb dX7_look_11 (by decide) ?_
    refine ca_Wi (b := a_hb) (As := [.int (-3 : Int32)]) (rest := []) (wr := [(a_fl, oX1 fl_e fl_f fl_bias fl_codes fl_signBit fl_endless), (a_li, oX2 a_fl a_va a_liD a_liF a_liA a_liB li_parts li_s li_least li_greatest), (a_liF, .inl (cI, 256, .inl liF_r)), (a_liA, .inl (cI, 256, .inl liA_r)), (a_liB, .inl (cI, 256, .inl liB_r))]) (wo := fun (u : (Nat → Int32)) => [(a_hb, oX7 a_fl a_pl a_va a_ce a_st a_li a_hbR), (a_hbR, .inl (cI, 7, .inl u))]) (wn := fun (u : (Nat → Int32)) => [(a_hb, oX7 a_fl a_pl a_va a_ce a_st a_li a_hbR), (a_hbR, .inl (cI, 7, .inl u)), (a_fl, oX1 fl_e fl_f fl_bias fl_codes fl_signBit fl_endless), (a_li, oX2 a_fl a_va a_liD a_liF a_liA a_liB li_parts li_s li_least li_greatest), (a_liF, .inl (cI, 256, .inl liF_r)), (a_liA, .inl (cI, 256, .inl liA_r)), (a_liB, .inl (cI, 256, .inl liB_r))]) ⟨hx, hb, hml, hown, hts⟩ (c_X7_refuse l D cI cJ cZ a_hb a_hbR a_fl a_pl a_va a_ce a_st a_li H.size hbR_r (-3 : Int32) _ _ rfl ho) (cwV 1 hts (gdV wl_128 wl_129 wl_130 wl_2 wl_131) rfl rfl rfl (by decide +kernel) ⟨hRf _ (Nat.le_of_ble_eq_true rfl), hRl _ (Nat.le_of_ble_eq_true rfl)⟩) hK hN hP hD hS hA [0, 1] [2, 3, 4, 5, 6] [5, 6, 0, 1, 2, 3, 4] rfl rfl (by decide) (by decide) (by decide) (by decide) (fun _ => rfl) 0 6 rfl rfl rfl rfl hl.1 rfl (Nat.le_of_ble_eq_true rfl) dX7_look_13 ⟨Nat.zero_le _, Nat.zero_le _⟩ (fun r13 u13 H locs ho hP hD hS => ?_)
    try dsimp only at ho
    replace hP : va_P D vwCl [(a_hb, oX7 a_fl a_pl a_va a_ce a_st a_li a_hbR), (a_hbR, .inl (cI, 7, .inl u13)), (a_fl, oX1 fl_e fl_f fl_bias fl_codes fl_signBit fl_endless), (a_li, oX2 a_fl a_va a_liD a_liF a_liA a_liB li_parts li_s li_least li_greatest), (a_liF, .inl (cI, 256, .inl liF_r)), (a_liA, .inl (cI, 256, .inl liA_r)), (a_liB, .inl (cI, 256, .inl liB_r))] H := hP
    replace hD : va_D A [(a_hb, oX7 a_fl a_pl a_va a_ce a_st a_li a_hbR), (a_hbR, .inl (cI, 7, .inl u13)), (a_fl, oX1 fl_e fl_f fl_bias fl_codes fl_signBit fl_endless), (a_li, oX2 a_fl a_va a_liD a_liF a_liA a_liB li_parts li_s li_least li_greatest), (a_liF, .inl (cI, 256, .inl liF_r)), (a_liA, .inl (cI, 256, .inl liA_r)), (a_liB, .inl (cI, 256, .inl liB_r))] := hD
    subst hQ; exact W.iret (v := r13) hx hb hr (fun t ht hW => ⟨⟨r13, u13, rfl, ho, by rw [ht]; exact hP, hD⟩, hS.F ht⟩) (fun q hq => hS.2.2 q hq) dX7_look_16

def w_X7_fits : List Cond := .code yX7_fits cX7_fits 12 (some .int) :: wsL_law
set_option maxHeartbeats 4000000 in
set_option maxRecDepth 100000 in
theorem c_X7_fits (l : Launch) (D : va_G) (cI cJ cZ : ClassId) (a_hb : Nat) (a_hbR : Nat) (a_fl : Nat) (a_pl : Nat) (a_va : Nat) (a_p2 : Nat) (a_ce : Nat) (a_st : Nat) (a_li : Nat) (sz : Nat) (hbR_r : Nat → Int32) (fl_e : Int32) (fl_f : Int32) (fl_bias : Int32) (fl_codes : Int32) (fl_signBit : Int32) (fl_endless : Int32) (va_m : Int64) (va_x : Int32) (va_more : Int32) (va_laid : Int32) (va_below : Int32) (va_settled : Int32) (va_sort : Int32) (p2_lower : Int32) (p2_way : Int32) (p2_more : Int32) (p2_beyond : Int32) (p1 : Int32) (p2 : Int32) (p3 : Int32) (p4 : Int32) (p5 : Int32) (p6 : Int32) (p7 : Int32) (p8 : Int32) (post : Int32 → (Nat → Int32) → Int64 → Int32 → Int32 → Int32 → Int32 → Int32 → Int32 → Int32 → Int32 → Int32 → Int32 → Prop) (A : Nat → Prop) (hAe : A = va_A [(a_hb, oX7 a_fl a_pl a_va a_ce a_st a_li a_hbR), (a_hbR, .inl (cI, 7, .inl hbR_r)), (a_fl, oX1 fl_e fl_f fl_bias fl_codes fl_signBit fl_endless), (a_va, oX6 a_fl a_p2 va_m va_x va_more va_laid va_below va_settled va_sort), (a_p2, oX3 a_fl p2_lower p2_way p2_more p2_beyond)] sz) (ho : wp_X7_fits post hbR_r fl_e fl_f fl_bias fl_signBit fl_endless va_m va_x va_more va_laid va_below va_settled va_sort p2_lower p2_way p2_more p2_beyond p1 p2 p3 p4 p5 p6 p7 p8) : Met l yX7_fits w_X7_fits ({ frames := 5, cells := 0, slots := 0, locals := 126 } : Room) (rw_P D [(cI, .int), (cJ, .long), (cZ, .boolean)] [.ref a_hb, .int p1, .int p2, .int p3, .int p4, .int p5, .int p6, .int p7, .int p8] sz [(a_hb, oX7 a_fl a_pl a_va a_ce a_st a_li a_hbR), (a_hbR, .inl (cI, 7, .inl hbR_r)), (a_fl, oX1 fl_e fl_f fl_bias fl_codes fl_signBit fl_endless), (a_va, oX6 a_fl a_p2 va_m va_x va_more va_laid va_below va_settled va_sort), (a_p2, oX3 a_fl p2_lower p2_way p2_more p2_beyond)]) (va_Qi (fun (r : Int32) (u : (Nat → Int32) × (Int64) × (Int32) × (Int32) × (Int32) × (Int32) × (Int32) × (Int32) × (Int32) × (Int32) × (Int32) × (Int32)) => post r u.1 u.2.1 u.2.2.1 u.2.2.2.1 u.2.2.2.2.1 u.2.2.2.2.2.1 u.2.2.2.2.2.2.1 u.2.2.2.2.2.2.2.1 u.2.2.2.2.2.2.2.2.1 u.2.2.2.2.2.2.2.2.2.1 u.2.2.2.2.2.2.2.2.2.2.1 u.2.2.2.2.2.2.2.2.2.2.2) (rw_B D A (fun (u : (Nat → Int32) × (Int64) × (Int32) × (Int32) × (Int32) × (Int32) × (Int32) × (Int32) × (Int32) × (Int32) × (Int32) × (Int32)) => [(a_hb, oX7 a_fl a_pl a_va a_ce a_st a_li a_hbR), (a_hbR, .inl (cI, 7, .inl u.1)), (a_fl, oX1 fl_e fl_f fl_bias fl_codes fl_signBit fl_endless), (a_va, oX6 a_fl a_p2 u.2.1 u.2.2.1 u.2.2.2.1 u.2.2.2.2.1 u.2.2.2.2.2.1 u.2.2.2.2.2.2.1 u.2.2.2.2.2.2.2.1), (a_p2, oX3 a_fl u.2.2.2.2.2.2.2.2.1 u.2.2.2.2.2.2.2.2.2.1 u.2.2.2.2.2.2.2.2.2.2.1 u.2.2.2.2.2.2.2.2.2.2.2)])) A) 0 0 A := by
  refine Met.ofW (cc := cX7_fits) (maxL := 12) (ret := (some .int)) (by decide) rfl ?_
  intro p e s m args below meth c s₁ B hml hv
  obtain ⟨hargs, hsz, hP, hK, hN, hD0⟩ := hv
  have hx := B.exec
  have hb := B.bytes
  have hr := B.returns
  have hts : ∀ w ∈ wsL_law, w.before args s = true := fun w h => atoms_spec (ws := w_X7_fits) B.pre w (List.mem_cons_of_mem _ h)
  have hown : s.vm.findClass RX7 = some m.cls := findClass_of_methodNamed B.named
  have hlocks := B.notSynchronized
  subst hsz
  have hD : va_D A [(a_hb, oX7 a_fl a_pl a_va a_ce a_st a_li a_hbR), (a_hbR, .inl (cI, 7, .inl hbR_r)), (a_fl, oX1 fl_e fl_f fl_bias fl_codes fl_signBit fl_endless), (a_va, oX6 a_fl a_p2 va_m va_x va_more va_laid va_below va_settled va_sort), (a_p2, oX3 a_fl p2_lower p2_way p2_more p2_beyond)] := by rw [hAe]; exact hD0.self
  have hA : ∀ q : Nat, s.heap.size ≤ q → A q := fun q h => by rw [hAe]; exact Or.inr h
  have hS : va_S A s.heap s.heap [] := va_S.rf
  have hl := lv_entry ([.ref a_hb, .int p1, .int p2, .int p3, .int p4, .int p5, .int p6, .int p7, .int p8]) (n := 12) (Nat.le_of_ble_eq_true rfl)
  rw [hargs, lg_entry_eq, ← hargs]
  generalize (lg_sl ([.ref a_hb, .int p1, .int p2, .int p3, .int p4, .int p5, .int p6, .int p7, .int p8]) ++ List.replicate (12 - (lg_sl ([.ref a_hb, .int p1, .int p2, .int p3, .int p4, .int p5, .int p6, .int p7, .int p8])).length) Slot.unset).toArray = ls at hl ⊢
  replace hl : lv_has ls 12 [(0, .ref a_hb), (1, .int p1), (2, .int p2), (3, .int p3), (4, .int p4), (5, .int p5), (6, .int p6), (7, .int p7), (8, .int p8)] := hl
  have hRf : ∀ n, n ≤ 5 → n ≤ (headSpec w_X7_fits ({ frames := 5, cells := 0, slots := 0, locals := 126 } : Room)).room.frames := fun n h => h
  have hRl : ∀ n, n ≤ 126 → n ≤ (headSpec w_X7_fits ({ frames := 5, cells := 0, slots := 0, locals := 126 } : Room)).room.locals := fun n h => h
  generalize (headSpec w_X7_fits ({ frames := 5, cells := 0, slots := 0, locals := 126 } : Room)).room = R at hRf hRl ⊢
  generalize hQ : MQ below _ args s 0 0 _ = Q
  have C_126 : ∀ n : Nat, ∀ (hbR_r : Nat → Int32) (va_m : Int64) (va_x : Int32) (va_more : Int32) (va_laid : Int32) (va_below : Int32) (va_settled : Int32) (va_sort : Int32) (p2_lower : Int32) (p2_way : Int32) (p2_more : Int32) (p2_beyond : Int32) (x9 : Int32) (H : Heap) (locs : List Loc) (ls : Array Slot), wp_X7_fits_126 post  fl_f fl_bias fl_signBit fl_endless p1 p2 p3 p5 p6 p7 p8 n hbR_r va_m va_x va_more va_laid va_below va_settled va_sort p2_lower p2_way p2_more p2_beyond x9 → va_P D vwCl [(a_hb, oX7 a_fl a_pl a_va a_ce a_st a_li a_hbR), (a_hbR, .inl (cI, 7, .inl hbR_r)), (a_fl, oX1 fl_e fl_f fl_bias fl_codes fl_signBit fl_endless), (a_va, oX6 a_fl a_p2 va_m va_x va_more va_laid va_below va_settled va_sort), (a_p2, oX3 a_fl p2_lower p2_way p2_more p2_beyond)] H → va_D A [(a_hb, oX7 a_fl a_pl a_va a_ce a_st a_li a_hbR), (a_hbR, .inl (cI, 7, .inl hbR_r)), (a_fl, oX1 fl_e fl_f fl_bias fl_codes fl_signBit fl_endless), (a_va, oX6 a_fl a_p2 va_m va_x va_more va_laid va_below va_settled va_sort), (a_p2, oX3 a_fl p2_lower p2_way p2_more p2_beyond)] → va_S A s.heap H locs → lv_has ls 12 [(0, .ref a_hb), (1, .int p1), (2, .int p2), (3, .int p3), (5, .int p5), (6, .int p6), (7, .int p7), (8, .int p8), (9, .int x9)] → W p l e R s m args below meth c H locs 0 0 Q (F0 m 126 ls []) := by
    intro n
    induction n with
    | zero => intro hbR_r va_m va_x va_more va_laid va_below va_settled va_sort p2_lower p2_way p2_more p2_beyond x9 H locs ls ho hP hD hS hl; exact ho.elim
    | succ n_126 ih_126 =>
      intro hbR_r va_m va_x va_more va_laid va_below va_settled va_sort p2_lower p2_way p2_more p2_beyond x9 H locs ls ho hP hD hS hl
      replace ho : wp_X7_fits_126_b post fl_f fl_bias fl_signBit fl_endless p1 p2 p3 p5 p6 p7 p8 (wp_X7_fits_126 post fl_f fl_bias fl_signBit fl_endless p1 p2 p3 p5 p6 p7 p8 n_126) hbR_r va_m va_x va_more va_laid va_below va_settled va_sort p2_lower p2_way p2_more p2_beyond x9 := ho
      unfold wp_X7_fits_126_b at ho
      refine lv_iload hx hb dX7_fits_126 (lv_at hl 8 rfl) ?_
      refine lv_iload hx hb dX7_fits_128 (lv_at hl 4 rfl) ?_
      refine lv_icmp_gt (tgt := 184) hx hb dX7_fits_130 (by decide) (fun c_130 => ?_) (fun c_130 => ?_)
      · replace ho := ho.1 c_130
        refine lv_bipush (v := (-9)) hx hb dX7_fits_184 (by decide) ?_
        subst hQ; exact W.iret (v := (-9 : Int32)) hx hb hr (fun t ht hW => ⟨⟨(-9 : Int32), (hbR_r, va_m, va_x, va_more, va_laid, va_below, va_settled, va_sort, p2_lower, p2_way, p2_more, p2_beyond), rfl, ho, by rw [ht]; exact hP, hD⟩, hS.F ht⟩) (fun q hq => hS.2.2 q hq) dX7_fits_186
      · replace ho := ho.2 c_130
        refine lv_aload_n hx hb dX7_fits_133 rfl (lv_at hl 0 rfl) ?_
        refine va_get (D := D) (ci := 6) (v := .ref a_va) (C := RX7) (T := TX7) (N := 7) hx hb hts inlX7 hown hK hP 0 rfl rfl 2 (by decide) (hts _ wl_23) (fun _ h9 => h9) rfl dX7_fits_134 ?_
        refine lv_iload_n hx hb dX7_fits_137 rfl (lv_at hl 1 rfl) ?_
        refine lv_aload_n hx hb dX7_fits_138 rfl (lv_at hl 0 rfl) ?_
        refine va_get (D := D) (ci := 6) (v := .ref a_fl) (C := RX7) (T := TX7) (N := 7) hx hb hts inlX7 hown hK hP 0 rfl rfl 0 (by decide) (hts _ wl_15) (fun _ h9 => h9) rfl dX7_fits_139 ?_
        refine lv_iload_n hx hb dX7_fits_142 rfl (lv_at hl 3 rfl) ?_
        refine lv_iload hx hb dX7_fits_143 (lv_at hl 8 rfl) ?_
        refine ca_Vi (b := a_fl) (As := [.int p3, .int x9]) (rest := [.int p1, .ref a_va]) ⟨hx, hb, hml, hown, hts⟩ (c_X1_codeOf l D cI cJ cZ a_fl fl_e fl_f fl_bias fl_codes fl_signBit fl_endless p3 x9 _ ho) (cwV 2 hts (gdV wl_781 wl_656 wl_657 wl_14 wl_658) rfl rfl rfl (by decide +kernel) ⟨hRf _ (Nat.le_of_ble_eq_true rfl), hRl _ (Nat.le_of_ble_eq_true rfl)⟩) hK hN hP [2] rfl 0 1 rfl rfl rfl rfl hl.1 rfl (Nat.le_of_ble_eq_true rfl) dX7_fits_145 ⟨Nat.zero_le _, Nat.zero_le _⟩ (fun r145 ho => ?_)
        refine lv_iload_n hx hb dX7_fits_148 rfl (lv_at hl 2 rfl) ?_
        refine ca_Wi (b := a_va) (As := [.int p1, .int r145, .int p2]) (rest := []) (wr := [(a_hb, oX7 a_fl a_pl a_va a_ce a_st a_li a_hbR), (a_hbR, .inl (cI, 7, .inl hbR_r))]) (wo := fun (u : (Int64) × (Int32) × (Int32) × (Int32) × (Int32) × (Int32) × (Int32) × (Int32) × (Int32) × (Int32) × (Int32)) => [(a_fl, oX1 fl_e fl_f fl_bias fl_codes fl_signBit fl_endless), (a_va, oX6 a_fl a_p2 u.1 u.2.1 u.2.2.1 u.2.2.2.1 u.2.2.2.2.1 u.2.2.2.2.2.1 u.2.2.2.2.2.2.1), (a_p2, oX3 a_fl u.2.2.2.2.2.2.2.1 u.2.2.2.2.2.2.2.2.1 u.2.2.2.2.2.2.2.2.2.1 u.2.2.2.2.2.2.2.2.2.2)]) (wn := fun (u : (Int64) × (Int32) × (Int32) × (Int32) × (Int32) × (Int32) × (Int32) × (Int32) × (Int32) × (Int32) × (Int32)) => [(a_hb, oX7 a_fl a_pl a_va a_ce a_st a_li a_hbR), (a_hbR, .inl (cI, 7, .inl hbR_r)), (a_fl, oX1 fl_e fl_f fl_bias fl_codes fl_signBit fl_endless), (a_va, oX6 a_fl a_p2 u.1 u.2.1 u.2.2.1 u.2.2.2.1 u.2.2.2.2.1 u.2.2.2.2.2.1 u.2.2.2.2.2.2.1), (a_p2, oX3 a_fl u.2.2.2.2.2.2.2.1 u.2.2.2.2.2.2.2.2.1 u.2.2.2.2.2.2.2.2.2.1 u.2.2.2.2.2.2.2.2.2.2)]) ⟨hx, hb, hml, hown, hts⟩ (c_X6_resultAt l D cI cJ cZ a_fl a_va a_p2 H.size fl_e fl_f fl_bias fl_codes fl_signBit fl_endless va_m va_x va_more va_laid va_below va_settled va_sort p2_lower p2_way p2_more p2_beyond p1 r145 p2 _ _ rfl ho) (cwV 3 hts (gdV wl_404 wl_405 wl_406 wl_22 wl_407) rfl rfl rfl (by decide +kernel) ⟨hRf _ (Nat.le_of_ble_eq_true rfl), hRl _ (Nat.le_of_ble_eq_true rfl)⟩) hK hN hP hD hS hA [2, 3, 4] [0, 1] [0, 1, 2, 3, 4] rfl rfl (by decide) (by decide) (by decide) (by decide) (fun _ => rfl) 1 5 rfl rfl rfl rfl hl.1 rfl (Nat.le_of_ble_eq_true rfl) dX7_fits_149 ⟨Nat.zero_le _, Nat.zero_le _⟩ (fun r149 u149 H locs ho hP hD hS => ?_)
        obtain ⟨u149_1, u149_2, u149_3, u149_4, u149_5, u149_6, u149_7, u149_8, u149_9, u149_10, u149_11⟩ := u149
        try dsimp only at ho
        replace hP : va_P D vwCl [(a_hb, oX7 a_fl a_pl a_va a_ce a_st a_li a_hbR), (a_hbR, .inl (cI, 7, .inl hbR_r)), (a_fl, oX1 fl_e fl_f fl_bias fl_codes fl_signBit fl_endless), (a_va, oX6 a_fl a_p2 u149_1 u149_2 u149_3 u149_4 u149_5 u149_6 u149_7), (a_p2, oX3 a_fl u149_8 u149_9 u149_10 u149_11)] H := hP
        replace hD : va_D A [(a_hb, oX7 a_fl a_pl a_va a_ce a_st a_li a_hbR), (a_hbR, .inl (cI, 7, .inl hbR_r)), (a_fl, oX1 fl_e fl_f fl_bias fl_codes fl_signBit fl_endless), (a_va, oX6 a_fl a_p2 u149_1 u149_2 u149_3 u149_4 u149_5 u149_6 u149_7), (a_p2, oX3 a_fl u149_8 u149_9 u149_10 u149_11)] := hD
        refine lv_i2l hx hb dX7_fits_152 rfl ?_
        refine lv_lstore (lv' := [(10, .long r149.toInt64), (0, .ref a_hb), (1, .int p1), (2, .int p2), (3, .int p3), (5, .int p5), (6, .int p6), (7, .int p7), (8, .int p8), (9, .int x9)]) hx hb dX7_fits_153 hl (by decide) rfl (fun ls hl => ?_)
        refine lv_iload hx hb dX7_fits_155 (lv_at hl 6 rfl) ?_
        refine lv_i2l hx hb dX7_fits_157 rfl ?_
        refine lv_iload hx hb dX7_fits_158 (lv_at hl 7 rfl) ?_
        refine lv_i2l hx hb dX7_fits_160 rfl ?_
        refine lv_iload hx hb dX7_fits_161 (lv_at hl 9 rfl) ?_
        refine lv_i2l hx hb dX7_fits_163 rfl ?_
        refine lv_iload hx hb dX7_fits_164 (lv_at hl 8 rfl) ?_
        refine ca_Sl (As := [.long p6.toInt64, .long p7.toInt64, .long x9.toInt64, .int p8]) (rest := []) ⟨hx, hb, hml, hown, hts⟩ (c_X2_onLine l D cI cJ cZ   p6.toInt64 p7.toInt64 x9.toInt64 p8 _ ho) (va_cwS 4 hts (gdS wl_782 wl_770 wl_34 wl_771) rfl rfl rfl (by decide +kernel) ⟨hRf _ (Nat.le_of_ble_eq_true rfl), hRl _ (Nat.le_of_ble_eq_true rfl)⟩) hK hN hP [] rfl rfl hl.1 rfl (Nat.le_of_ble_eq_true rfl) dX7_fits_166 ⟨Nat.zero_le _, Nat.zero_le _⟩ (fun r166 ho => ?_)
        refine lv_lload hx hb dX7_fits_169 (lv_at hl 0 rfl) ?_
        refine W.lcmp hx hb dX7_fits_171 ?_
        refine lv_if_eq (tgt := 178) hx hb dX7_fits_172 (by decide) (fun c_172 => ?_) (fun c_172 => ?_)
        · replace ho := ho.1 c_172
          refine lv_iinc (v := (x9 + (1 : Int32))) (lv' := [(9, .int (x9 + (1 : Int32))), (10, .long r149.toInt64), (0, .ref a_hb), (1, .int p1), (2, .int p2), (3, .int p3), (5, .int p5), (6, .int p6), (7, .int p7), (8, .int p8)]) hx hb dX7_fits_178 hl (k := 9) rfl rfl (by decide) rfl (fun ls hl => ?_)
          refine lv_goto (tgt := 126) hx hb dX7_fits_181 (by decide) ?_
          exact ih_126 hbR_r u149_1 u149_2 u149_3 u149_4 u149_5 u149_6 u149_7 u149_8 u149_9 u149_10 u149_11 (x9 + (1 : Int32)) H locs ls ho hP hD hS (lv_sub hl [2, 3, 4, 5, 6, 7, 8, 9, 0] rfl)
        · replace ho := ho.2 c_172
          refine lv_iload hx hb dX7_fits_175 (lv_at hl 9 rfl) ?_
          subst hQ; exact W.iret (v := x9) hx hb hr (fun t ht hW => ⟨⟨x9, (hbR_r, u149_1, u149_2, u149_3, u149_4, u149_5, u149_6, u149_7, u149_8, u149_9, u149_10, u149_11), rfl, ho, by rw [ht]; exact hP, hD⟩, hS.F ht⟩) (fun q hq => hS.2.2 q hq) dX7_fits_177
  have C_115 : ∀ (hbR_r : Nat → Int32) (va_m : Int64) (va_x : Int32) (va_more : Int32) (va_laid : Int32) (va_below : Int32) (va_settled : Int32) (va_sort : Int32) (p2_lower : Int32) (p2_way : Int32) (p2_more : Int32) (p2_beyond : Int32) (H : Heap) (locs : List Loc) (ls : Array Slot), wp_X7_fits_115 post  hbR_r va_m va_x va_more va_laid va_below va_settled va_sort p2_lower p2_way p2_more p2_beyond → va_P D vwCl [(a_hb, oX7 a_fl a_pl a_va a_ce a_st a_li a_hbR), (a_hbR, .inl (cI, 7, .inl hbR_r)), (a_fl, oX1 fl_e fl_f fl_bias fl_codes fl_signBit fl_endless), (a_va, oX6 a_fl a_p2 va_m va_x va_more va_laid va_below va_settled va_sort), (a_p2, oX3 a_fl p2_lower p2_way p2_more p2_beyond)] H → va_D A [(a_hb, oX7 a_fl a_pl a_va a_ce a_st a_li a_hbR), (a_hbR, .inl (cI, 7, .inl hbR_r)), (a_fl, oX1 fl_e fl_f fl_bias fl_codes fl_signBit fl_endless), (a_va, oX6 a_fl a_p2 va_m va_x va_more va_laid va_below va_settled va_sort), (a_p2, oX3 a_fl p2_lower p2_way p2_more p2_beyond)] → va_S A s.heap H locs → lv_has ls 12 [(0, .ref a_hb)] → W p l e R s m args below meth c H locs 0 0 Q (F0 m 115 ls []) := by
    intro hbR_r va_m va_x va_more va_laid va_below va_settled va_sort p2_lower p2_way p2_more p2_beyond H locs ls ho hP hD hS hl
    unfold wp_X7_fits_115 at ho
    refine lv_aload_n hx hb dX7_fits_115 rfl (lv_at hl 0 rfl) ?_
    refine lv_bipush (v := (-6)) hx hb dX7_fits_116 (by decide) ?_
    refine ca_Wi (b := a_hb) (As := [.int (-6 : Int32)]) (rest := []) (wr := [(a_fl, oX1 fl_e fl_f fl_bias fl_codes fl_signBit fl_endless), (a_va, oX6 a_fl a_p2 va_m va_x va_more va_laid va_below va_settled va_sort), (a_p2, oX3 a_fl p2_lower p2_way p2_more p2_beyond)]) (wo := fun (u : (Nat → Int32)) => [(a_hb, oX7 a_fl a_pl a_va a_ce a_st a_li a_hbR), (a_hbR, .inl (cI, 7, .inl u))]) (wn := fun (u : (Nat → Int32)) => [(a_hb, oX7 a_fl a_pl a_va a_ce a_st a_li a_hbR), (a_hbR, .inl (cI, 7, .inl u)), (a_fl, oX1 fl_e fl_f fl_bias fl_codes fl_signBit fl_endless), (a_va, oX6 a_fl a_p2 va_m va_x va_more va_laid va_below va_settled va_sort), (a_p2, oX3 a_fl p2_lower p2_way p2_more p2_beyond)]) ⟨hx, hb, hml, hown, hts⟩ (c_X7_refuse l D cI cJ cZ a_hb a_hbR a_fl a_pl a_va a_ce a_st a_li H.size hbR_r (-6 : Int32) _ _ rfl ho) (cwV 1 hts (gdV wl_128 wl_129 wl_130 wl_2 wl_131) rfl rfl rfl (by decide +kernel) ⟨hRf _ (Nat.le_of_ble_eq_true rfl), hRl _ (Nat.le_of_ble_eq_true rfl)⟩) hK hN hP hD hS hA [0, 1] [2, 3, 4] [3, 4, 0, 1, 2] rfl rfl (by decide) (by decide) (by decide) (by decide) (fun _ => rfl) 0 6 rfl rfl rfl rfl hl.1 rfl (Nat.le_of_ble_eq_true rfl) dX7_fits_118 ⟨Nat.zero_le _, Nat.zero_le _⟩ (fun r118 u118 H locs ho hP hD hS => ?_)
    try dsimp only at ho
    replace hP : va_P D vwCl [(a_hb, oX7 a_fl a_pl a_va a_ce a_st a_li a_hbR), (a_hbR, .inl (cI, 7, .inl u118)), (a_fl, oX1 fl_e fl_f fl_bias fl_codes fl_signBit fl_endless), (a_va, oX6 a_fl a_p2 va_m va_x va_more va_laid va_below va_settled va_sort), (a_p2, oX3 a_fl p2_lower p2_way p2_more p2_beyond)] H := hP
    replace hD : va_D A [(a_hb, oX7 a_fl a_pl a_va a_ce a_st a_li a_hbR), (a_hbR, .inl (cI, 7, .inl u118)), (a_fl, oX1 fl_e fl_f fl_bias fl_codes fl_signBit fl_endless), (a_va, oX6 a_fl a_p2 va_m va_x va_more va_laid va_below va_settled va_sort), (a_p2, oX3 a_fl p2_lower p2_way p2_more p2_beyond)] := hD
    subst hQ; exact W.iret (v := r118) hx hb hr (fun t ht hW => ⟨⟨r118, (u118, va_m, va_x, va_more, va_laid, va_below, va_settled, va_sort, p2_lower, p2_way, p2_more, p2_beyond), rfl, ho, by rw [ht]; exact hP, hD⟩, hS.F ht⟩) (fun q hq => hS.2.2 q hq) dX7_fits_121
  have C_87 : ∀ (hbR_r : Nat → Int32) (va_m : Int64) (va_x : Int32) (va_more : Int32) (va_laid : Int32) (va_below : Int32) (va_settled : Int32) (va_sort : Int32) (p2_lower : Int32) (p2_way : Int32) (p2_more : Int32) (p2_beyond : Int32) (H : Heap) (locs : List Loc) (ls : Array Slot), wp_X7_fits_87 post  hbR_r va_m va_x va_more va_laid va_below va_settled va_sort p2_lower p2_way p2_more p2_beyond → va_P D vwCl [(a_hb, oX7 a_fl a_pl a_va a_ce a_st a_li a_hbR), (a_hbR, .inl (cI, 7, .inl hbR_r)), (a_fl, oX1 fl_e fl_f fl_bias fl_codes fl_signBit fl_endless), (a_va, oX6 a_fl a_p2 va_m va_x va_more va_laid va_below va_settled va_sort), (a_p2, oX3 a_fl p2_lower p2_way p2_more p2_beyond)] H → va_D A [(a_hb, oX7 a_fl a_pl a_va a_ce a_st a_li a_hbR), (a_hbR, .inl (cI, 7, .inl hbR_r)), (a_fl, oX1 fl_e fl_f fl_bias fl_codes fl_signBit fl_endless), (a_va, oX6 a_fl a_p2 va_m va_x va_more va_laid va_below va_settled va_sort), (a_p2, oX3 a_fl p2_lower p2_way p2_more p2_beyond)] → va_S A s.heap H locs → lv_has ls 12 [(0, .ref a_hb)] → W p l e R s m args below meth c H locs 0 0 Q (F0 m 87 ls []) := by
    intro hbR_r va_m va_x va_more va_laid va_below va_settled va_sort p2_lower p2_way p2_more p2_beyond H locs ls ho hP hD hS hl
    unfold wp_X7_fits_87 at ho
    refine lv_aload_n hx hb dX7_fits_87 rfl (lv_at hl 0 rfl) ?_
    refine lv_bipush (v := (-4)) hx hb dX7_fits_88 (by decide) ?_
    refine ca_Wi (b := a_hb) (As := [.int (-4 : Int32)]) (rest := []) (wr := [(a_fl, oX1 fl_e fl_f fl_bias fl_codes fl_signBit fl_endless), (a_va, oX6 a_fl a_p2 va_m va_x va_more va_laid va_below va_settled va_sort), (a_p2, oX3 a_fl p2_lower p2_way p2_more p2_beyond)]) (wo := fun (u : (Nat → Int32)) => [(a_hb, oX7 a_fl a_pl a_va a_ce a_st a_li a_hbR), (a_hbR, .inl (cI, 7, .inl u))]) (wn := fun (u : (Nat → Int32)) => [(a_hb, oX7 a_fl a_pl a_va a_ce a_st a_li a_hbR), (a_hbR, .inl (cI, 7, .inl u)), (a_fl, oX1 fl_e fl_f fl_bias fl_codes fl_signBit fl_endless), (a_va, oX6 a_fl a_p2 va_m va_x va_more va_laid va_below va_settled va_sort), (a_p2, oX3 a_fl p2_lower p2_way p2_more p2_beyond)]) ⟨hx, hb, hml, hown, hts⟩ (c_X7_refuse l D cI cJ cZ a_hb a_hbR a_fl a_pl a_va a_ce a_st a_li H.size hbR_r (-4 : Int32) _ _ rfl ho) (cwV 1 hts (gdV wl_128 wl_129 wl_130 wl_2 wl_131) rfl rfl rfl (by decide +kernel) ⟨hRf _ (Nat.le_of_ble_eq_true rfl), hRl _ (Nat.le_of_ble_eq_true rfl)⟩) hK hN hP hD hS hA [0, 1] [2, 3, 4] [3, 4, 0, 1, 2] rfl rfl (by decide) (by decide) (by decide) (by decide) (fun _ => rfl) 0 6 rfl rfl rfl rfl hl.1 rfl (Nat.le_of_ble_eq_true rfl) dX7_fits_90 ⟨Nat.zero_le _, Nat.zero_le _⟩ (fun r90 u90 H locs ho hP hD hS => ?_)
    try dsimp only at ho
    replace hP : va_P D vwCl [(a_hb, oX7 a_fl a_pl a_va a_ce a_st a_li a_hbR), (a_hbR, .inl (cI, 7, .inl u90)), (a_fl, oX1 fl_e fl_f fl_bias fl_codes fl_signBit fl_endless), (a_va, oX6 a_fl a_p2 va_m va_x va_more va_laid va_below va_settled va_sort), (a_p2, oX3 a_fl p2_lower p2_way p2_more p2_beyond)] H := hP
    replace hD : va_D A [(a_hb, oX7 a_fl a_pl a_va a_ce a_st a_li a_hbR), (a_hbR, .inl (cI, 7, .inl u90)), (a_fl, oX1 fl_e fl_f fl_bias fl_codes fl_signBit fl_endless), (a_va, oX6 a_fl a_p2 va_m va_x va_more va_laid va_below va_settled va_sort), (a_p2, oX3 a_fl p2_lower p2_way p2_more p2_beyond)] := hD
    subst hQ; exact W.iret (v := r90) hx hb hr (fun t ht hW => ⟨⟨r90, (u90, va_m, va_x, va_more, va_laid, va_below, va_settled, va_sort, p2_lower, p2_way, p2_more, p2_beyond), rfl, ho, by rw [ht]; exact hP, hD⟩, hS.F ht⟩) (fun q hq => hS.2.2 q hq) dX7_fits_93
  have C_62 : ∀ (hbR_r : Nat → Int32) (va_m : Int64) (va_x : Int32) (va_more : Int32) (va_laid : Int32) (va_below : Int32) (va_settled : Int32) (va_sort : Int32) (p2_lower : Int32) (p2_way : Int32) (p2_more : Int32) (p2_beyond : Int32) (H : Heap) (locs : List Loc) (ls : Array Slot), wp_X7_fits_62 post  hbR_r va_m va_x va_more va_laid va_below va_settled va_sort p2_lower p2_way p2_more p2_beyond → va_P D vwCl [(a_hb, oX7 a_fl a_pl a_va a_ce a_st a_li a_hbR), (a_hbR, .inl (cI, 7, .inl hbR_r)), (a_fl, oX1 fl_e fl_f fl_bias fl_codes fl_signBit fl_endless), (a_va, oX6 a_fl a_p2 va_m va_x va_more va_laid va_below va_settled va_sort), (a_p2, oX3 a_fl p2_lower p2_way p2_more p2_beyond)] H → va_D A [(a_hb, oX7 a_fl a_pl a_va a_ce a_st a_li a_hbR), (a_hbR, .inl (cI, 7, .inl hbR_r)), (a_fl, oX1 fl_e fl_f fl_bias fl_codes fl_signBit fl_endless), (a_va, oX6 a_fl a_p2 va_m va_x va_more va_laid va_below va_settled va_sort), (a_p2, oX3 a_fl p2_lower p2_way p2_more p2_beyond)] → va_S A s.heap H locs → lv_has ls 12 [(0, .ref a_hb)] → W p l e R s m args below meth c H locs 0 0 Q (F0 m 62 ls []) := by
    intro hbR_r va_m va_x va_more va_laid va_below va_settled va_sort p2_lower p2_way p2_more p2_beyond H locs ls ho hP hD hS hl
    unfold wp_X7_fits_62 at ho
    refine lv_aload_n hx hb dX7_fits_62 rfl (lv_at hl 0 rfl) ?_
    refine lv_iconst (v := (-1)) hx hb dX7_fits_63 (by decide) ?_
    refine ca_Wi (b := a_hb) (As := [.int (-1 : Int32)]) (rest := []) (wr := [(a_fl, oX1 fl_e fl_f fl_bias fl_codes fl_signBit fl_endless), (a_va, oX6 a_fl a_p2 va_m va_x va_more va_laid va_below va_settled va_sort), (a_p2, oX3 a_fl p2_lower p2_way p2_more p2_beyond)]) (wo := fun (u : (Nat → Int32)) => [(a_hb, oX7 a_fl a_pl a_va a_ce a_st a_li a_hbR), (a_hbR, .inl (cI, 7, .inl u))]) (wn := fun (u : (Nat → Int32)) => [(a_hb, oX7 a_fl a_pl a_va a_ce a_st a_li a_hbR), (a_hbR, .inl (cI, 7, .inl u)), (a_fl, oX1 fl_e fl_f fl_bias fl_codes fl_signBit fl_endless), (a_va, oX6 a_fl a_p2 va_m va_x va_more va_laid va_below va_settled va_sort), (a_p2, oX3 a_fl p2_lower p2_way p2_more p2_beyond)]) ⟨hx, hb, hml, hown, hts⟩ (c_X7_refuse l D cI cJ cZ a_hb a_hbR a_fl a_pl a_va a_ce a_st a_li H.size hbR_r (-1 : Int32) _ _ rfl ho) (cwV 1 hts (gdV wl_128 wl_129 wl_130 wl_2 wl_131) rfl rfl rfl (by decide +kernel) ⟨hRf _ (Nat.le_of_ble_eq_true rfl), hRl _ (Nat.le_of_ble_eq_true rfl)⟩) hK hN hP hD hS hA [0, 1] [2, 3, 4] [3, 4, 0, 1, 2] rfl rfl (by decide) (by decide) (by decide) (by decide) (fun _ => rfl) 0 6 rfl rfl rfl rfl hl.1 rfl (Nat.le_of_ble_eq_true rfl) dX7_fits_64 ⟨Nat.zero_le _, Nat.zero_le _⟩ (fun r64 u64 H locs ho hP hD hS => ?_)
    try dsimp only at ho
    replace hP : va_P D vwCl [(a_hb, oX7 a_fl a_pl a_va a_ce a_st a_li a_hbR), (a_hbR, .inl (cI, 7, .inl u64)), (a_fl, oX1 fl_e fl_f fl_bias fl_codes fl_signBit fl_endless), (a_va, oX6 a_fl a_p2 va_m va_x va_more va_laid va_below va_settled va_sort), (a_p2, oX3 a_fl p2_lower p2_way p2_more p2_beyond)] H := hP
    replace hD : va_D A [(a_hb, oX7 a_fl a_pl a_va a_ce a_st a_li a_hbR), (a_hbR, .inl (cI, 7, .inl u64)), (a_fl, oX1 fl_e fl_f fl_bias fl_codes fl_signBit fl_endless), (a_va, oX6 a_fl a_p2 va_m va_x va_more va_laid va_below va_settled va_sort), (a_p2, oX3 a_fl p2_lower p2_way p2_more p2_beyond)] := hD
    subst hQ; exact W.iret (v := r64) hx hb hr (fun t ht hW => ⟨⟨r64, (u64, va_m, va_x, va_more, va_laid, va_below, va_settled, va_sort, p2_lower, p2_way, p2_more, p2_beyond), rfl, ho, by rw [ht]; exact hP, hD⟩, hS.F ht⟩) (fun q hq => hS.2.2 q hq) dX7_fits_67
  have C_25 : ∀ (hbR_r : Nat → Int32) (va_m : Int64) (va_x : Int32) (va_more : Int32) (va_laid : Int32) (va_below : Int32) (va_settled : Int32) (va_sort : Int32) (p2_lower : Int32) (p2_way : Int32) (p2_more : Int32) (p2_beyond : Int32) (H : Heap) (locs : List Loc) (ls : Array Slot), wp_X7_fits_25 post  hbR_r va_m va_x va_more va_laid va_below va_settled va_sort p2_lower p2_way p2_more p2_beyond → va_P D vwCl [(a_hb, oX7 a_fl a_pl a_va a_ce a_st a_li a_hbR), (a_hbR, .inl (cI, 7, .inl hbR_r)), (a_fl, oX1 fl_e fl_f fl_bias fl_codes fl_signBit fl_endless), (a_va, oX6 a_fl a_p2 va_m va_x va_more va_laid va_below va_settled va_sort), (a_p2, oX3 a_fl p2_lower p2_way p2_more p2_beyond)] H → va_D A [(a_hb, oX7 a_fl a_pl a_va a_ce a_st a_li a_hbR), (a_hbR, .inl (cI, 7, .inl hbR_r)), (a_fl, oX1 fl_e fl_f fl_bias fl_codes fl_signBit fl_endless), (a_va, oX6 a_fl a_p2 va_m va_x va_more va_laid va_below va_settled va_sort), (a_p2, oX3 a_fl p2_lower p2_way p2_more p2_beyond)] → va_S A s.heap H locs → lv_has ls 12 [(0, .ref a_hb)] → W p l e R s m args below meth c H locs 0 0 Q (F0 m 25 ls []) := by
    intro hbR_r va_m va_x va_more va_laid va_below va_settled va_sort p2_lower p2_way p2_more p2_beyond H locs ls ho hP hD hS hl
    unfold wp_X7_fits_25 at ho
    refine lv_aload_n hx hb dX7_fits_25 rfl (lv_at hl 0 rfl) ?_
    refine lv_iconst (v := (-1)) hx hb dX7_fits_26 (by decide) ?_
    refine ca_Wi (b := a_hb) (As := [.int (-1 : Int32)]) (rest := []) (wr := [(a_fl, oX1 fl_e fl_f fl_bias fl_codes fl_signBit fl_endless), (a_va, oX6 a_fl a_p2 va_m va_x va_more va_laid va_below va_settled va_sort), (a_p2, oX3 a_fl p2_lower p2_way p2_more p2_beyond)]) (wo := fun (u : (Nat → Int32)) => [(a_hb, oX7 a_fl a_pl a_va a_ce a_st a_li a_hbR), (a_hbR, .inl (cI, 7, .inl u))]) (wn := fun (u : (Nat → Int32)) => [(a_hb, oX7 a_fl a_pl a_va a_ce a_st a_li a_hbR), (a_hbR, .inl (cI, 7, .inl u)), (a_fl, oX1 fl_e fl_f fl_bias fl_codes fl_signBit fl_endless), (a_va, oX6 a_fl a_p2 va_m va_x va_more va_laid va_below va_settled va_sort), (a_p2, oX3 a_fl p2_lower p2_way p2_more p2_beyond)]) ⟨hx, hb, hml, hown, hts⟩ (c_X7_refuse l D cI cJ cZ a_hb a_hbR a_fl a_pl a_va a_ce a_st a_li H.size hbR_r (-1 : Int32) _ _ rfl ho) (cwV 1 hts (gdV wl_128 wl_129 wl_130 wl_2 wl_131) rfl rfl rfl (by decide +kernel) ⟨hRf _ (Nat.le_of_ble_eq_true rfl), hRl _ (Nat.le_of_ble_eq_true rfl)⟩) hK hN hP hD hS hA [0, 1] [2, 3, 4] [3, 4, 0, 1, 2] rfl rfl (by decide) (by decide) (by decide) (by decide) (fun _ => rfl) 0 6 rfl rfl rfl rfl hl.1 rfl (Nat.le_of_ble_eq_true rfl) dX7_fits_27 ⟨Nat.zero_le _, Nat.zero_le _⟩ (fun r27 u27 H locs ho hP hD hS => ?_)
    try dsimp only at ho
    replace hP : va_P D vwCl [(a_hb, oX7 a_fl a_pl a_va a_ce a_st a_li a_hbR), (a_hbR, .inl (cI, 7, .inl u27)), (a_fl, oX1 fl_e fl_f fl_bias fl_codes fl_signBit fl_endless), (a_va, oX6 a_fl a_p2 va_m va_x va_more va_laid va_below va_settled va_sort), (a_p2, oX3 a_fl p2_lower p2_way p2_more p2_beyond)] H := hP
    replace hD : va_D A [(a_hb, oX7 a_fl a_pl a_va a_ce a_st a_li a_hbR), (a_hbR, .inl (cI, 7, .inl u27)), (a_fl, oX1 fl_e fl_f fl_bias fl_codes fl_signBit fl_endless), (a_va, oX6 a_fl a_p2 va_m va_x va_more va_laid va_below va_settled va_sort), (a_p2, oX3 a_fl p2_lower p2_way p2_more p2_beyond)] := hD
    subst hQ; exact W.iret (v := r27) hx hb hr (fun t ht hW => ⟨⟨r27, (u27, va_m, va_x, va_more, va_laid, va_below, va_settled, va_sort, p2_lower, p2_way, p2_more, p2_beyond), rfl, ho, by rw [ht]; exact hP, hD⟩, hS.F ht⟩) (fun q hq => hS.2.2 q hq) dX7_fits_30
  suffices main : ∀ (H : Heap) (locs : List Loc), va_P D vwCl [(a_hb, oX7 a_fl a_pl a_va a_ce a_st a_li a_hbR), (a_hbR, .inl (cI, 7, .inl hbR_r)), (a_fl, oX1 fl_e fl_f fl_bias fl_codes fl_signBit fl_endless), (a_va, oX6 a_fl a_p2 va_m va_x va_more va_laid va_below va_settled va_sort), (a_p2, oX3 a_fl p2_lower p2_way p2_more p2_beyond)] H → va_S A s.heap H locs → W p l e R s m args below meth c H locs 0 0 Q (F0 m 0 ls []) from main _ _ hP hS
  intro H locs hP hS
  unfold wp_X7_fits at ho
  refine lv_iload_n hx hb dX7_fits_0 rfl (lv_at hl 1 rfl) ?_
  refine ca_Si (As := [.int p1]) (rest := []) ⟨hx, hb, hml, hown, hts⟩ (c_X7_isFunction l D cI cJ cZ   p1 _ ho) (va_cwS 1 hts (gdS wl_401 wl_402 wl_2 wl_403) rfl rfl rfl (by decide +kernel) ⟨hRf _ (Nat.le_of_ble_eq_true rfl), hRl _ (Nat.le_of_ble_eq_true rfl)⟩) hK hN hP [] rfl rfl hl.1 rfl (Nat.le_of_ble_eq_true rfl) dX7_fits_1 ⟨Nat.zero_le _, Nat.zero_le _⟩ (fun r1 ho => ?_)
  refine lv_if_eq (tgt := 25) hx hb dX7_fits_4 (by decide) (fun c_4 => ?_) (fun c_4 => ?_)
  · replace ho := ho.1 c_4
    exact C_25 hbR_r va_m va_x va_more va_laid va_below va_settled va_sort p2_lower p2_way p2_more p2_beyond H locs ls ho hP hD hS (lv_sub hl [0] rfl)
  · replace ho := ho.2 c_4
    refine lv_iload_n hx hb dX7_fits_7 rfl (lv_at hl 2 rfl) ?_
    refine ca_Si (As := [.int p2]) (rest := []) ⟨hx, hb, hml, hown, hts⟩ (c_X7_isRounding l D cI cJ cZ   p2 _ ho) (va_cwS 1 hts (gdS wl_323 wl_324 wl_2 wl_325) rfl rfl rfl (by decide +kernel) ⟨hRf _ (Nat.le_of_ble_eq_true rfl), hRl _ (Nat.le_of_ble_eq_true rfl)⟩) hK hN hP [] rfl rfl hl.1 rfl (Nat.le_of_ble_eq_true rfl) dX7_fits_8 ⟨Nat.zero_le _, Nat.zero_le _⟩ (fun r8 ho => ?_)
    refine lv_if_eq (tgt := 25) hx hb dX7_fits_11 (by decide) (fun c_11 => ?_) (fun c_11 => ?_)
    · replace ho := ho.1 c_11
      exact C_25 hbR_r va_m va_x va_more va_laid va_below va_settled va_sort p2_lower p2_way p2_more p2_beyond H locs ls ho hP hD hS (lv_sub hl [0] rfl)
    · replace ho := ho.2 c_11
      refine lv_aload_n hx hb dX7_fits_14 rfl (lv_at hl 0 rfl) ?_
      refine va_get (D := D) (ci := 6) (v := .ref a_fl) (C := RX7) (T := TX7) (N := 7) hx hb hts inlX7 hown hK hP 0 rfl rfl 0 (by decide) (hts _ wl_15) (fun _ h9 => h9) rfl dX7_fits_15 ?_
      refine lv_iload_n hx hb dX7_fits_18 rfl (lv_at hl 3 rfl) ?_
      refine ca_Vi (b := a_fl) (As := [.int p3]) (rest := []) ⟨hx, hb, hml, hown, hts⟩ (c_X1_isPower l D cI cJ cZ a_fl fl_e fl_f fl_bias fl_codes fl_signBit fl_endless p3 _ ho) (cwV 1 hts (gdV wl_646 wl_647 wl_648 wl_14 wl_649) rfl rfl rfl (by decide +kernel) ⟨hRf _ (Nat.le_of_ble_eq_true rfl), hRl _ (Nat.le_of_ble_eq_true rfl)⟩) hK hN hP [2] rfl 0 1 rfl rfl rfl rfl hl.1 rfl (Nat.le_of_ble_eq_true rfl) dX7_fits_19 ⟨Nat.zero_le _, Nat.zero_le _⟩ (fun r19 ho => ?_)
      refine lv_if_ne (tgt := 31) hx hb dX7_fits_22 (by decide) (fun c_22 => ?_) (fun c_22 => ?_)
      · replace ho := ho.1 c_22
        refine lv_aload_n hx hb dX7_fits_31 rfl (lv_at hl 0 rfl) ?_
        refine va_get (D := D) (ci := 6) (v := .ref a_fl) (C := RX7) (T := TX7) (N := 7) hx hb hts inlX7 hown hK hP 0 rfl rfl 0 (by decide) (hts _ wl_15) (fun _ h9 => h9) rfl dX7_fits_32 ?_
        refine lv_iload hx hb dX7_fits_35 (lv_at hl 4 rfl) ?_
        refine ca_Vi (b := a_fl) (As := [.int p4]) (rest := []) ⟨hx, hb, hml, hown, hts⟩ (c_X1_isZ l D cI cJ cZ a_fl fl_e fl_f fl_bias fl_codes fl_signBit fl_endless p4 _ ho) (cwV 1 hts (gdV wl_758 wl_759 wl_760 wl_14 wl_761) rfl rfl rfl (by decide +kernel) ⟨hRf _ (Nat.le_of_ble_eq_true rfl), hRl _ (Nat.le_of_ble_eq_true rfl)⟩) hK hN hP [2] rfl 0 1 rfl rfl rfl rfl hl.1 rfl (Nat.le_of_ble_eq_true rfl) dX7_fits_37 ⟨Nat.zero_le _, Nat.zero_le _⟩ (fun r37 ho => ?_)
        refine lv_if_eq (tgt := 62) hx hb dX7_fits_40 (by decide) (fun c_40 => ?_) (fun c_40 => ?_)
        · replace ho := ho.1 c_40
          exact C_62 hbR_r va_m va_x va_more va_laid va_below va_settled va_sort p2_lower p2_way p2_more p2_beyond H locs ls ho hP hD hS (lv_sub hl [0] rfl)
        · replace ho := ho.2 c_40
          refine lv_aload_n hx hb dX7_fits_43 rfl (lv_at hl 0 rfl) ?_
          refine va_get (D := D) (ci := 6) (v := .ref a_fl) (C := RX7) (T := TX7) (N := 7) hx hb hts inlX7 hown hK hP 0 rfl rfl 0 (by decide) (hts _ wl_15) (fun _ h9 => h9) rfl dX7_fits_44 ?_
          refine lv_iload hx hb dX7_fits_47 (lv_at hl 5 rfl) ?_
          refine ca_Vi (b := a_fl) (As := [.int p5]) (rest := []) ⟨hx, hb, hml, hown, hts⟩ (c_X1_isZ l D cI cJ cZ a_fl fl_e fl_f fl_bias fl_codes fl_signBit fl_endless p5 _ ho) (cwV 1 hts (gdV wl_758 wl_759 wl_760 wl_14 wl_761) rfl rfl rfl (by decide +kernel) ⟨hRf _ (Nat.le_of_ble_eq_true rfl), hRl _ (Nat.le_of_ble_eq_true rfl)⟩) hK hN hP [2] rfl 0 1 rfl rfl rfl rfl hl.1 rfl (Nat.le_of_ble_eq_true rfl) dX7_fits_49 ⟨Nat.zero_le _, Nat.zero_le _⟩ (fun r49 ho => ?_)
          refine lv_if_eq (tgt := 62) hx hb dX7_fits_52 (by decide) (fun c_52 => ?_) (fun c_52 => ?_)
          · replace ho := ho.1 c_52
            exact C_62 hbR_r va_m va_x va_more va_laid va_below va_settled va_sort p2_lower p2_way p2_more p2_beyond H locs ls ho hP hD hS (lv_sub hl [0] rfl)
          · replace ho := ho.2 c_52
            refine lv_iload hx hb dX7_fits_55 (lv_at hl 4 rfl) ?_
            refine lv_iload hx hb dX7_fits_57 (lv_at hl 5 rfl) ?_
            refine lv_icmp_le (tgt := 68) hx hb dX7_fits_59 (by decide) (fun c_59 => ?_) (fun c_59 => ?_)
            · replace ho := ho.1 c_59
              refine lv_iload hx hb dX7_fits_68 (lv_at hl 6 rfl) ?_
              refine lv_ldc hx hb hown (hts _ wl_780) dX7_fits_70 ?_
              refine lv_icmp_lt (tgt := 87) hx hb dX7_fits_72 (by decide) (fun c_72 => ?_) (fun c_72 => ?_)
              · replace ho := ho.1 c_72
                exact C_87 hbR_r va_m va_x va_more va_laid va_below va_settled va_sort p2_lower p2_way p2_more p2_beyond H locs ls ho hP hD hS (lv_sub hl [0] rfl)
              · replace ho := ho.2 c_72
                refine lv_iload hx hb dX7_fits_75 (lv_at hl 7 rfl) ?_
                refine lv_ldc hx hb hown (hts _ wl_780) dX7_fits_77 ?_
                refine lv_icmp_lt (tgt := 87) hx hb dX7_fits_79 (by decide) (fun c_79 => ?_) (fun c_79 => ?_)
                · replace ho := ho.1 c_79
                  exact C_87 hbR_r va_m va_x va_more va_laid va_below va_settled va_sort p2_lower p2_way p2_more p2_beyond H locs ls ho hP hD hS (lv_sub hl [0] rfl)
                · replace ho := ho.2 c_79
                  refine lv_iload hx hb dX7_fits_82 (lv_at hl 8 rfl) ?_
                  refine lv_if_ge (tgt := 94) hx hb dX7_fits_84 (by decide) (fun c_84 => ?_) (fun c_84 => ?_)
                  · replace ho := ho.1 c_84
                    refine lv_iload hx hb dX7_fits_94 (lv_at hl 6 rfl) ?_
                    refine lv_ldc hx hb hown (hts _ wl_181) dX7_fits_96 ?_
                    refine lv_icmp_gt (tgt := 115) hx hb dX7_fits_98 (by decide) (fun c_98 => ?_) (fun c_98 => ?_)
                    · replace ho := ho.1 c_98
                      exact C_115 hbR_r va_m va_x va_more va_laid va_below va_settled va_sort p2_lower p2_way p2_more p2_beyond H locs ls ho hP hD hS (lv_sub hl [0] rfl)
                    · replace ho := ho.2 c_98
                      refine lv_iload hx hb dX7_fits_101 (lv_at hl 7 rfl) ?_
                      refine lv_ldc hx hb hown (hts _ wl_181) dX7_fits_103 ?_
                      refine lv_icmp_gt (tgt := 115) hx hb dX7_fits_105 (by decide) (fun c_105 => ?_) (fun c_105 => ?_)
                      · replace ho := ho.1 c_105
                        exact C_115 hbR_r va_m va_x va_more va_laid va_below va_settled va_sort p2_lower p2_way p2_more p2_beyond H locs ls ho hP hD hS (lv_sub hl [0] rfl)
                      · replace ho := ho.2 c_105
                        refine lv_iload hx hb dX7_fits_108 (lv_at hl 8 rfl) ?_
                        refine lv_bipush (v := 10) hx hb dX7_fits_110 (by decide) ?_
                        refine lv_icmp_le (tgt := 122) hx hb dX7_fits_112 (by decide) (fun c_112 => ?_) (fun c_112 => ?_)
                        · replace ho := ho.1 c_112
                          refine lv_iload hx hb dX7_fits_122 (lv_at hl 4 rfl) ?_
                          refine lv_istore (lv' := [(9, .int p4), (0, .ref a_hb), (1, .int p1), (2, .int p2), (3, .int p3), (4, .int p4), (5, .int p5), (6, .int p6), (7, .int p7), (8, .int p8)]) hx hb dX7_fits_124 hl (by decide) rfl (fun ls hl => ?_)
                          obtain ⟨n_126, ho⟩ := ho
                          exact C_126 n_126 hbR_r va_m va_x va_more va_laid va_below va_settled va_sort p2_lower p2_way p2_more p2_beyond p4 H locs ls ho hP hD hS (lv_sub hl [1, 2, 3, 4, 6, 7, 8, 9, 0] rfl)
                        · replace ho := ho.2 c_112
                          exact C_115 hbR_r va_m va_x va_more va_laid va_below va_settled va_sort p2_lower p2_way p2_more p2_beyond H locs ls ho hP hD hS (lv_sub hl [0] rfl)
                  · replace ho := ho.2 c_84
                    exact C_87 hbR_r va_m va_x va_more va_laid va_below va_settled va_sort p2_lower p2_way p2_more p2_beyond H locs ls ho hP hD hS (lv_sub hl [0] rfl)
            · replace ho := ho.2 c_59
              exact C_62 hbR_r va_m va_x va_more va_laid va_below va_settled va_sort p2_lower p2_way p2_more p2_beyond H locs ls ho hP hD hS (lv_sub hl [0] rfl)
      · replace ho := ho.2 c_22
        exact C_25 hbR_r va_m va_x va_more va_laid va_below va_settled va_sort p2_lower p2_way p2_more p2_beyond H locs ls ho hP hD hS (lv_sub hl [0] rfl)

def w_X7_status : List Cond := .code yX7_status cX7_status 2 (some .int) :: wsL_law
set_option maxHeartbeats 4000000 in
set_option maxRecDepth 100000 in
theorem c_X7_status (l : Launch) (D : va_G) (cI cJ cZ : ClassId) (a_hb : Nat) (a_hbR : Nat) (a_fl : Nat) (a_pl : Nat) (a_va : Nat) (a_ce : Nat) (a_st : Nat) (a_li : Nat) (a_liD : Nat) (a_liF : Nat) (a_liA : Nat) (a_liB : Nat) (hbR_r : Nat → Int32) (fl_e : Int32) (fl_f : Int32) (fl_bias : Int32) (fl_codes : Int32) (fl_signBit : Int32) (fl_endless : Int32) (li_parts : Int32) (li_s : Int32) (li_least : Int64) (li_greatest : Int64) (p1 : Int32) (post : Int32 → Prop) (ho : wp_X7_status post hbR_r fl_e fl_f fl_codes li_parts p1) : Met l yX7_status w_X7_status ({ frames := 1, cells := 0, slots := 0, locals := 21 } : Room) (ro_P D [(cI, .int), (cJ, .long), (cZ, .boolean)] [.ref a_hb, .int p1] [(a_hb, oX7 a_fl a_pl a_va a_ce a_st a_li a_hbR), (a_hbR, .inl (cI, 7, .inl hbR_r)), (a_fl, oX1 fl_e fl_f fl_bias fl_codes fl_signBit fl_endless), (a_li, oX2 a_fl a_va a_liD a_liF a_liA a_liB li_parts li_s li_least li_greatest)]) (vp_Si post) 0 0 (fun _ => False) := by
  refine Met.ofW (cc := cX7_status) (maxL := 2) (ret := (some .int)) (by decide) rfl ?_
  intro p e s m args below meth c s₁ B hml hv
  obtain ⟨hargs, hP, hK, hN⟩ := hv
  have hx := B.exec
  have hb := B.bytes
  have hr := B.returns
  have hts : ∀ w ∈ wsL_law, w.before args s = true := fun w h => atoms_spec (ws := w_X7_status) B.pre w (List.mem_cons_of_mem _ h)
  have hown : s.vm.findClass RX7 = some m.cls := findClass_of_methodNamed B.named
  have hlocks := B.notSynchronized
  have hl := lv_entry ([.ref a_hb, .int p1]) (n := 2) (Nat.le_of_ble_eq_true rfl)
  rw [hargs, lg_entry_eq, ← hargs]
  generalize (lg_sl ([.ref a_hb, .int p1]) ++ List.replicate (2 - (lg_sl ([.ref a_hb, .int p1])).length) Slot.unset).toArray = ls at hl ⊢
  replace hl : lv_has ls 2 [(0, .ref a_hb), (1, .int p1)] := hl
  have hRf : ∀ n, n ≤ 1 → n ≤ (headSpec w_X7_status ({ frames := 1, cells := 0, slots := 0, locals := 21 } : Room)).room.frames := fun n h => h
  have hRl : ∀ n, n ≤ 21 → n ≤ (headSpec w_X7_status ({ frames := 1, cells := 0, slots := 0, locals := 21 } : Room)).room.locals := fun n h => h
  generalize (headSpec w_X7_status ({ frames := 1, cells := 0, slots := 0, locals := 21 } : Room)).room = R at hRf hRl ⊢
  generalize hQ : MQ below _ args s 0 0 _ = Q
  unfold wp_X7_status at ho
  refine lv_iload_n hx hb dX7_status_0 rfl (lv_at hl 1 rfl) ?_
  refine lv_topi (fun z_1 ez_1 => ?_)
  by_cases n_1_0 : z_1 = 0
  · replace ho := ho.1 (ez_1.symm.trans n_1_0)
    subst n_1_0
    refine lv_tableIn (tgt := 36) hx hb dX7_status_1 (by decide) (by decide) rfl (by decide) ?_
    refine lv_aload_n hx hb dX7_status_36 rfl (lv_at hl 0 rfl) ?_
    refine va_get (D := D) (ci := 6) (v := .ref a_fl) (C := RX7) (T := TX7) (N := 7) hx hb hts inlX7 hown hK hP 0 rfl rfl 0 (by decide) (hts _ wl_15) (fun _ h9 => h9) rfl dX7_status_37 ?_
    refine va_getN (D := D) (ci := 1) (v := .int fl_e) (C := RX1) (T := TX1) (N := 6) hx hb hts inlX1 hown hK hP 2 rfl rfl 0 (by decide) hN.fRX7_63 (fun _ h9 => h9) rfl dX7_status_40 ?_
    subst hQ; exact W.iret (v := fl_e) hx hb hr (fun t ht _ => ⟨fl_e, rfl, ho, ht⟩) (fun _ h => by cases h) dX7_status_43
  replace ho := ho.2 (fun h => n_1_0 (ez_1.trans h))
  by_cases n_1_1 : z_1 = 1
  · replace ho := ho.1 (ez_1.symm.trans n_1_1)
    subst n_1_1
    refine lv_tableIn (tgt := 44) hx hb dX7_status_1 (by decide) (by decide) rfl (by decide) ?_
    refine lv_aload_n hx hb dX7_status_44 rfl (lv_at hl 0 rfl) ?_
    refine va_get (D := D) (ci := 6) (v := .ref a_fl) (C := RX7) (T := TX7) (N := 7) hx hb hts inlX7 hown hK hP 0 rfl rfl 0 (by decide) (hts _ wl_15) (fun _ h9 => h9) rfl dX7_status_45 ?_
    refine va_getN (D := D) (ci := 1) (v := .int fl_f) (C := RX1) (T := TX1) (N := 6) hx hb hts inlX1 hown hK hP 2 rfl rfl 1 (by decide) hN.fRX7_67 (fun _ h9 => h9) rfl dX7_status_48 ?_
    subst hQ; exact W.iret (v := fl_f) hx hb hr (fun t ht _ => ⟨fl_f, rfl, ho, ht⟩) (fun _ h => by cases h) dX7_status_51
  replace ho := ho.2 (fun h => n_1_1 (ez_1.trans h))
  by_cases n_1_2 : z_1 = 2
  · replace ho := ho.1 (ez_1.symm.trans n_1_2)
    subst n_1_2
    refine lv_tableIn (tgt := 52) hx hb dX7_status_1 (by decide) (by decide) rfl (by decide) ?_
    refine lv_aload_n hx hb dX7_status_52 rfl (lv_at hl 0 rfl) ?_
    refine va_get (D := D) (ci := 6) (v := .ref a_fl) (C := RX7) (T := TX7) (N := 7) hx hb hts inlX7 hown hK hP 0 rfl rfl 0 (by decide) (hts _ wl_15) (fun _ h9 => h9) rfl dX7_status_53 ?_
    refine va_getN (D := D) (ci := 1) (v := .int fl_codes) (C := RX1) (T := TX1) (N := 6) hx hb hts inlX1 hown hK hP 2 rfl rfl 3 (by decide) hN.fRX7_79 (fun _ h9 => h9) rfl dX7_status_56 ?_
    subst hQ; exact W.iret (v := fl_codes) hx hb hr (fun t ht _ => ⟨fl_codes, rfl, ho, ht⟩) (fun _ h => by cases h) dX7_status_59
  replace ho := ho.2 (fun h => n_1_2 (ez_1.trans h))
  by_cases n_1_3 : z_1 = 3
  · replace ho := ho.1 (ez_1.symm.trans n_1_3)
    subst n_1_3
    refine lv_tableIn (tgt := 60) hx hb dX7_status_1 (by decide) (by decide) rfl (by decide) ?_
    refine lv_aload_n hx hb dX7_status_60 rfl (lv_at hl 0 rfl) ?_
    refine va_get (D := D) (ci := 6) (v := .ref a_li) (C := RX7) (T := TX7) (N := 7) hx hb hts inlX7 hown hK hP 0 rfl rfl 5 (by decide) (hts _ wl_35) (fun _ h9 => h9) rfl dX7_status_61 ?_
    refine ca_Vi (b := a_li) (As := []) (rest := []) ⟨hx, hb, hml, hown, hts⟩ (c_X2_parts l D cI cJ cZ a_fl a_va a_li a_liD a_liF a_liA a_liB li_parts li_s li_least li_greatest  _ ho) (cwV 0 hts (gdV wl_699 wl_700 wl_701 wl_34 wl_702) rfl rfl rfl (by decide +kernel) ⟨hRf _ (Nat.le_of_ble_eq_true rfl), hRl _ (Nat.le_of_ble_eq_true rfl)⟩) hK hN hP [3] rfl 0 2 rfl rfl rfl rfl hl.1 rfl (Nat.le_of_ble_eq_true rfl) dX7_status_64 ⟨Nat.zero_le _, Nat.zero_le _⟩ (fun r64 ho => ?_)
    refine lv_if_le (tgt := 74) hx hb dX7_status_67 (by decide) (fun c_67 => ?_) (fun c_67 => ?_)
    · replace ho := ho.1 c_67
      refine lv_iconst (v := 0) hx hb dX7_status_74 (by decide) ?_
      subst hQ; exact W.iret (v := (0 : Int32)) hx hb hr (fun t ht _ => ⟨(0 : Int32), rfl, ho, ht⟩) (fun _ h => by cases h) dX7_status_75
    · replace ho := ho.2 c_67
      refine lv_iconst (v := 1) hx hb dX7_status_70 (by decide) ?_
      refine lv_goto (tgt := 75) hx hb dX7_status_71 (by decide) ?_
      subst hQ; exact W.iret (v := (1 : Int32)) hx hb hr (fun t ht _ => ⟨(1 : Int32), rfl, ho, ht⟩) (fun _ h => by cases h) dX7_status_75
  replace ho := ho.2 (fun h => n_1_3 (ez_1.trans h))
  by_cases n_1_4 : z_1 = 4
  · replace ho := ho.1 (ez_1.symm.trans n_1_4)
    subst n_1_4
    refine lv_tableIn (tgt := 76) hx hb dX7_status_1 (by decide) (by decide) rfl (by decide) ?_
    refine lv_aload_n hx hb dX7_status_76 rfl (lv_at hl 0 rfl) ?_
    refine va_get (D := D) (ci := 6) (v := .ref a_li) (C := RX7) (T := TX7) (N := 7) hx hb hts inlX7 hown hK hP 0 rfl rfl 5 (by decide) (hts _ wl_35) (fun _ h9 => h9) rfl dX7_status_77 ?_
    refine ca_Vi (b := a_li) (As := []) (rest := []) ⟨hx, hb, hml, hown, hts⟩ (c_X2_parts l D cI cJ cZ a_fl a_va a_li a_liD a_liF a_liA a_liB li_parts li_s li_least li_greatest  _ ho) (cwV 0 hts (gdV wl_699 wl_700 wl_701 wl_34 wl_702) rfl rfl rfl (by decide +kernel) ⟨hRf _ (Nat.le_of_ble_eq_true rfl), hRl _ (Nat.le_of_ble_eq_true rfl)⟩) hK hN hP [3] rfl 0 2 rfl rfl rfl rfl hl.1 rfl (Nat.le_of_ble_eq_true rfl) dX7_status_80 ⟨Nat.zero_le _, Nat.zero_le _⟩ (fun r80 ho => ?_)
    subst hQ; exact W.iret (v := r80) hx hb hr (fun t ht _ => ⟨r80, rfl, ho, ht⟩) (fun _ h => by cases h) dX7_status_83
  replace ho := ho.2 (fun h => n_1_4 (ez_1.trans h))
  refine lv_tableOut (tgt := 84) hx hb dX7_status_1 (by have q_1_0 := lv_neT (a := 0) n_1_0 rfl; have q_1_1 := lv_neT (a := 1) n_1_1 rfl; have q_1_2 := lv_neT (a := 2) n_1_2 rfl; have q_1_3 := lv_neT (a := 3) n_1_3 rfl; have q_1_4 := lv_neT (a := 4) n_1_4 rfl; omega) (by decide) ?_
  refine lv_iload_n hx hb dX7_status_84 rfl (lv_at hl 1 rfl) ?_
  refine lv_bipush (v := 11) hx hb dX7_status_85 (by decide) ?_
  refine lv_icmp_lt (tgt := 110) hx hb dX7_status_87 (by decide) (fun c_87 => ?_) (fun c_87 => ?_)
  · replace ho := ho.1 c_87
    refine lv_bipush (v := (-9)) hx hb dX7_status_110 (by decide) ?_
    subst hQ; exact W.iret (v := (-9 : Int32)) hx hb hr (fun t ht _ => ⟨(-9 : Int32), rfl, ho, ht⟩) (fun _ h => by cases h) dX7_status_112
  · replace ho := ho.2 c_87
    refine lv_iload_n hx hb dX7_status_90 rfl (lv_at hl 1 rfl) ?_
    refine lv_bipush (v := 16) hx hb dX7_status_91 (by decide) ?_
    refine lv_icmp_gt (tgt := 110) hx hb dX7_status_93 (by decide) (fun c_93 => ?_) (fun c_93 => ?_)
    · replace ho := ho.1 c_93
      refine lv_bipush (v := (-9)) hx hb dX7_status_110 (by decide) ?_
      subst hQ; exact W.iret (v := (-9 : Int32)) hx hb hr (fun t ht _ => ⟨(-9 : Int32), rfl, ho, ht⟩) (fun _ h => by cases h) dX7_status_112
    · replace ho := ho.2 c_93
      refine lv_aload_n hx hb dX7_status_96 rfl (lv_at hl 0 rfl) ?_
      refine va_get (D := D) (ci := 6) (v := .ref a_hbR) (C := RX7) (T := TX7) (N := 7) hx hb hts inlX7 hown hK hP 0 rfl rfl 6 (by decide) (hts _ wl_37) (fun _ h9 => h9) rfl dX7_status_97 ?_
      refine lv_iload_n hx hb dX7_status_100 rfl (lv_at hl 1 rfl) ?_
      refine lv_bipush (v := 10) hx hb dX7_status_101 (by decide) ?_
      refine lv_isub hx hb dX7_status_103 ?_
      refine ca_Si (As := [.ref a_hbR, .int (p1 - (10 : Int32))]) (rest := []) ⟨hx, hb, hml, hown, hts⟩ (c_X4_at l D cI cJ cZ a_hbR 7 hbR_r (p1 - (10 : Int32)) _ ho) (va_cwS 2 hts (gdS wl_792 wl_137 wl_134 wl_138) rfl rfl rfl (by decide +kernel) ⟨hRf _ (Nat.le_of_ble_eq_true rfl), hRl _ (Nat.le_of_ble_eq_true rfl)⟩) hK hN hP [1] rfl rfl hl.1 rfl (Nat.le_of_ble_eq_true rfl) dX7_status_104 ⟨Nat.zero_le _, Nat.zero_le _⟩ (fun r104 ho => ?_)
      refine lv_goto (tgt := 112) hx hb dX7_status_107 (by decide) ?_
      subst hQ; exact W.iret (v := r104) hx hb hr (fun t ht _ => ⟨r104, rfl, ho, ht⟩) (fun _ h => by cases h) dX7_status_112
