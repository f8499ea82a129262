def w_X7_round : List Cond := .code yX7_round cX7_round 4 (some .int) :: wsL_law
set_option maxHeartbeats 4000000 in
set_option maxRecDepth 100000 in
theorem c_X7_round (l : Launch) (D : va_G) (cI cJ cZ : ClassId) (a_hb : Nat) (a_hbR : Nat) (a_fl : Nat) (a_pl : Nat) (a_va : Nat) (a_ce : Nat) (a_st : Nat) (a_li : Nat) (sz : Nat) (hbR_r : Nat → Int32) (fl_e : Int32) (fl_f : Int32) (fl_bias : Int32) (fl_codes : Int32) (fl_signBit : Int32) (fl_endless : Int32) (pl_lower : Int32) (pl_way : Int32) (pl_more : Int32) (pl_beyond : Int32) (p1 : Int32) (p2 : Int32) (p3 : Int32) (post : Int32 → (Nat → Int32) → Int32 → Int32 → Int32 → Int32 → Prop) (A : Nat → Prop) (hAe : A = va_A [(a_hb, oX7 a_fl a_pl a_va a_ce a_st a_li a_hbR), (a_hbR, .inl (cI, 7, .inl hbR_r)), (a_fl, oX1 fl_e fl_f fl_bias fl_codes fl_signBit fl_endless), (a_pl, oX3 a_fl pl_lower pl_way pl_more pl_beyond)] sz) (ho : wp_X7_round post hbR_r fl_f fl_bias fl_signBit fl_endless pl_lower pl_way pl_more pl_beyond p1 p2 p3) : Met l yX7_round w_X7_round ({ frames := 3, cells := 0, slots := 0, locals := 73 } : Room) (rw_P D [(cI, .int), (cJ, .long), (cZ, .boolean)] [.ref a_hb, .int p1, .int p2, .int p3] sz [(a_hb, oX7 a_fl a_pl a_va a_ce a_st a_li a_hbR), (a_hbR, .inl (cI, 7, .inl hbR_r)), (a_fl, oX1 fl_e fl_f fl_bias fl_codes fl_signBit fl_endless), (a_pl, oX3 a_fl pl_lower pl_way pl_more pl_beyond)]) (va_Qi (fun (r : Int32) (u : (Nat → Int32) × (Int32) × (Int32) × (Int32) × (Int32)) => post r u.1 u.2.1 u.2.2.1 u.2.2.2.1 u.2.2.2.2) (rw_B D A (fun (u : (Nat → Int32) × (Int32) × (Int32) × (Int32) × (Int32)) => [(a_hb, oX7 a_fl a_pl a_va a_ce a_st a_li a_hbR), (a_hbR, .inl (cI, 7, .inl u.1)), (a_fl, oX1 fl_e fl_f fl_bias fl_codes fl_signBit fl_endless), (a_pl, oX3 a_fl u.2.1 u.2.2.1 u.2.2.2.1 u.2.2.2.2)])) A) 0 0 A := by
  refine Met.ofW (cc := cX7_round) (maxL := 4) (ret := (some .int)) (by decide) rfl ?_
  intro p e s m args below meth c s₁ B hml hv
  obtain ⟨hargs, hsz, hP, hK, hN, hD0⟩ := hv
  have hx := B.exec
  have hb := B.bytes
  have hr := B.returns
  have hts : ∀ w ∈ wsL_law, w.before args s = true := fun w h => atoms_spec (ws := w_X7_round) B.pre w (List.mem_cons_of_mem _ h)
  have hown : s.vm.findClass RX7 = some m.cls := findClass_of_methodNamed B.named
  have hlocks := B.notSynchronized
  subst hsz
  have hD : va_D A [(a_hb, oX7 a_fl a_pl a_va a_ce a_st a_li a_hbR), (a_hbR, .inl (cI, 7, .inl hbR_r)), (a_fl, oX1 fl_e fl_f fl_bias fl_codes fl_signBit fl_endless), (a_pl, oX3 a_fl pl_lower pl_way pl_more pl_beyond)] := by rw [hAe]; exact hD0.self
  have hA : ∀ q : Nat, s.heap.size ≤ q → A q := fun q h => by rw [hAe]; exact Or.inr h
  have hS : va_S A s.heap s.heap [] := va_S.rf
  have hl := lv_entry ([.ref a_hb, .int p1, .int p2, .int p3]) (n := 4) (Nat.le_of_ble_eq_true rfl)
  rw [hargs, lg_entry_eq, ← hargs]
  generalize (lg_sl ([.ref a_hb, .int p1, .int p2, .int p3]) ++ List.replicate (4 - (lg_sl ([.ref a_hb, .int p1, .int p2, .int p3])).length) Slot.unset).toArray = ls at hl ⊢
  replace hl : lv_has ls 4 [(0, .ref a_hb), (1, .int p1), (2, .int p2), (3, .int p3)] := hl
  have hRf : ∀ n, n ≤ 3 → n ≤ (headSpec w_X7_round ({ frames := 3, cells := 0, slots := 0, locals := 73 } : Room)).room.frames := fun n h => h
  have hRl : ∀ n, n ≤ 73 → n ≤ (headSpec w_X7_round ({ frames := 3, cells := 0, slots := 0, locals := 73 } : Room)).room.locals := fun n h => h
  generalize (headSpec w_X7_round ({ frames := 3, cells := 0, slots := 0, locals := 73 } : Room)).room = R at hRf hRl ⊢
  generalize hQ : MQ below _ args s 0 0 _ = Q
  have C_84 : ∀ (hbR_r : Nat → Int32) (pl_lower : Int32) (pl_way : Int32) (pl_more : Int32) (pl_beyond : Int32) (y0 : Int32) (H : Heap) (locs : List Loc) (ls : Array Slot), wp_X7_round_84 post  hbR_r fl_signBit pl_lower pl_way pl_more pl_beyond p3 y0 → va_P D vwCl [(a_hb, oX7 a_fl a_pl a_va a_ce a_st a_li a_hbR), (a_hbR, .inl (cI, 7, .inl hbR_r)), (a_fl, oX1 fl_e fl_f fl_bias fl_codes fl_signBit fl_endless), (a_pl, oX3 a_fl pl_lower pl_way pl_more pl_beyond)] H → va_D A [(a_hb, oX7 a_fl a_pl a_va a_ce a_st a_li a_hbR), (a_hbR, .inl (cI, 7, .inl hbR_r)), (a_fl, oX1 fl_e fl_f fl_bias fl_codes fl_signBit fl_endless), (a_pl, oX3 a_fl pl_lower pl_way pl_more pl_beyond)] → va_S A s.heap H locs → lv_has ls 4 [(3, .int p3)] → W p l e R s m args below meth c H locs 0 0 Q (F0 m 84 ls [.int y0, .ref a_pl]) := by
    intro hbR_r pl_lower pl_way pl_more pl_beyond y0 H locs ls ho hP hD hS hl
    unfold wp_X7_round_84 at ho
    refine lv_iload_n hx hb dX7_round_84 rfl (lv_at hl 0 rfl) ?_
    refine ca_Vi (b := a_pl) (As := [.int y0, .int p3]) (rest := []) ⟨hx, hb, hml, hown, hts⟩ (c_X3_rounded l D cI cJ cZ a_fl a_pl fl_e fl_f fl_bias fl_codes fl_signBit fl_endless pl_lower pl_way pl_more pl_beyond y0 p3 _ ho) (cwV 2 hts (gdV wl_349 wl_350 wl_351 wl_18 wl_352) rfl rfl rfl (by decide +kernel) ⟨hRf _ (Nat.le_of_ble_eq_true rfl), hRl _ (Nat.le_of_ble_eq_true rfl)⟩) hK hN hP [2, 3] rfl 1 3 rfl rfl rfl rfl hl.1 rfl (Nat.le_of_ble_eq_true rfl) dX7_round_85 ⟨Nat.zero_le _, Nat.zero_le _⟩ (fun r85 ho => ?_)
    subst hQ; exact W.iret (v := r85) hx hb hr (fun t ht hW => ⟨⟨r85, (hbR_r, pl_lower, pl_way, pl_more, pl_beyond), rfl, ho, by rw [ht]; exact hP, hD⟩, hS.F ht⟩) (fun q hq => hS.2.2 q hq) dX7_round_88
  have C_44 : ∀ (hbR_r : Nat → Int32) (pl_lower : Int32) (pl_way : Int32) (pl_more : Int32) (pl_beyond : Int32) (H : Heap) (locs : List Loc) (ls : Array Slot), wp_X7_round_44 post  hbR_r pl_lower pl_way pl_more pl_beyond → va_P D vwCl [(a_hb, oX7 a_fl a_pl a_va a_ce a_st a_li a_hbR), (a_hbR, .inl (cI, 7, .inl hbR_r)), (a_fl, oX1 fl_e fl_f fl_bias fl_codes fl_signBit fl_endless), (a_pl, oX3 a_fl pl_lower pl_way pl_more pl_beyond)] H → va_D A [(a_hb, oX7 a_fl a_pl a_va a_ce a_st a_li a_hbR), (a_hbR, .inl (cI, 7, .inl hbR_r)), (a_fl, oX1 fl_e fl_f fl_bias fl_codes fl_signBit fl_endless), (a_pl, oX3 a_fl pl_lower pl_way pl_more pl_beyond)] → va_S A s.heap H locs → lv_has ls 4 [(0, .ref a_hb)] → W p l e R s m args below meth c H locs 0 0 Q (F0 m 44 ls []) := by
    intro hbR_r pl_lower pl_way pl_more pl_beyond H locs ls ho hP hD hS hl
    unfold wp_X7_round_44 at ho
    refine lv_aload_n hx hb dX7_round_44 rfl (lv_at hl 0 rfl) ?_
    refine lv_bipush (v := (-6)) hx hb dX7_round_45 (by decide) ?_
    refine ca_Wi (b := a_hb) (As := [.int (-6 : Int32)]) (rest := []) (wr := [(a_fl, oX1 fl_e fl_f fl_bias fl_codes fl_signBit fl_endless), (a_pl, oX3 a_fl pl_lower pl_way pl_more pl_beyond)]) (wo := fun (u : (Nat → Int32)) => [(a_hb, oX7 a_fl a_pl a_va a_ce a_st a_li a_hbR), (a_hbR, .inl (cI, 7, .inl u))]) (wn := fun (u : (Nat → Int32)) => [(a_hb, oX7 a_fl a_pl a_va a_ce a_st a_li a_hbR), (a_hbR, .inl (cI, 7, .inl u)), (a_fl, oX1 fl_e fl_f fl_bias fl_codes fl_signBit fl_endless), (a_pl, oX3 a_fl pl_lower pl_way pl_more pl_beyond)]) ⟨hx, hb, hml, hown, hts⟩ (c_X7_refuse l D cI cJ cZ a_hb a_hbR a_fl a_pl a_va a_ce a_st a_li H.size hbR_r (-6 : Int32) _ _ rfl ho) (cwV 1 hts (gdV wl_128 wl_129 wl_130 wl_2 wl_131) rfl rfl rfl (by decide +kernel) ⟨hRf _ (Nat.le_of_ble_eq_true rfl), hRl _ (Nat.le_of_ble_eq_true rfl)⟩) hK hN hP hD hS hA [0, 1] [2, 3] [2, 3, 0, 1] rfl rfl (by decide) (by decide) (by decide) (by decide) (fun _ => rfl) 0 6 rfl rfl rfl rfl hl.1 rfl (Nat.le_of_ble_eq_true rfl) dX7_round_47 ⟨Nat.zero_le _, Nat.zero_le _⟩ (fun r47 u47 H locs ho hP hD hS => ?_)
    try dsimp only at ho
    replace hP : va_P D vwCl [(a_hb, oX7 a_fl a_pl a_va a_ce a_st a_li a_hbR), (a_hbR, .inl (cI, 7, .inl u47)), (a_fl, oX1 fl_e fl_f fl_bias fl_codes fl_signBit fl_endless), (a_pl, oX3 a_fl pl_lower pl_way pl_more pl_beyond)] H := hP
    replace hD : va_D A [(a_hb, oX7 a_fl a_pl a_va a_ce a_st a_li a_hbR), (a_hbR, .inl (cI, 7, .inl u47)), (a_fl, oX1 fl_e fl_f fl_bias fl_codes fl_signBit fl_endless), (a_pl, oX3 a_fl pl_lower pl_way pl_more pl_beyond)] := hD
    subst hQ; exact W.iret (v := r47) hx hb hr (fun t ht hW => ⟨⟨r47, (u47, pl_lower, pl_way, pl_more, pl_beyond), rfl, ho, by rw [ht]; exact hP, hD⟩, hS.F ht⟩) (fun q hq => hS.2.2 q hq) dX7_round_50
  have C_25 : ∀ (hbR_r : Nat → Int32) (pl_lower : Int32) (pl_way : Int32) (pl_more : Int32) (pl_beyond : Int32) (H : Heap) (locs : List Loc) (ls : Array Slot), wp_X7_round_25 post  hbR_r pl_lower pl_way pl_more pl_beyond → va_P D vwCl [(a_hb, oX7 a_fl a_pl a_va a_ce a_st a_li a_hbR), (a_hbR, .inl (cI, 7, .inl hbR_r)), (a_fl, oX1 fl_e fl_f fl_bias fl_codes fl_signBit fl_endless), (a_pl, oX3 a_fl pl_lower pl_way pl_more pl_beyond)] H → va_D A [(a_hb, oX7 a_fl a_pl a_va a_ce a_st a_li a_hbR), (a_hbR, .inl (cI, 7, .inl hbR_r)), (a_fl, oX1 fl_e fl_f fl_bias fl_codes fl_signBit fl_endless), (a_pl, oX3 a_fl pl_lower pl_way pl_more pl_beyond)] → va_S A s.heap H locs → lv_has ls 4 [(0, .ref a_hb)] → W p l e R s m args below meth c H locs 0 0 Q (F0 m 25 ls []) := by
    intro hbR_r pl_lower pl_way pl_more pl_beyond H locs ls ho hP hD hS hl
    unfold wp_X7_round_25 at ho
    refine lv_aload_n hx hb dX7_round_25 rfl (lv_at hl 0 rfl) ?_
    refine lv_bipush (v := (-4)) hx hb dX7_round_26 (by decide) ?_
    refine ca_Wi (b := a_hb) (As := [.int (-4 : Int32)]) (rest := []) (wr := [(a_fl, oX1 fl_e fl_f fl_bias fl_codes fl_signBit fl_endless), (a_pl, oX3 a_fl pl_lower pl_way pl_more pl_beyond)]) (wo := fun (u : (Nat → Int32)) => [(a_hb, oX7 a_fl a_pl a_va a_ce a_st a_li a_hbR), (a_hbR, .inl (cI, 7, .inl u))]) (wn := fun (u : (Nat → Int32)) => [(a_hb, oX7 a_fl a_pl a_va a_ce a_st a_li a_hbR), (a_hbR, .inl (cI, 7, .inl u)), (a_fl, oX1 fl_e fl_f fl_bias fl_codes fl_signBit fl_endless), (a_pl, oX3 a_fl pl_lower pl_way pl_more pl_beyond)]) ⟨hx, hb, hml, hown, hts⟩ (c_X7_refuse l D cI cJ cZ a_hb a_hbR a_fl a_pl a_va a_ce a_st a_li H.size hbR_r (-4 : Int32) _ _ rfl ho) (cwV 1 hts (gdV wl_128 wl_129 wl_130 wl_2 wl_131) rfl rfl rfl (by decide +kernel) ⟨hRf _ (Nat.le_of_ble_eq_true rfl), hRl _ (Nat.le_of_ble_eq_true rfl)⟩) hK hN hP hD hS hA [0, 1] [2, 3] [2, 3, 0, 1] rfl rfl (by decide) (by decide) (by decide) (by decide) (fun _ => rfl) 0 6 rfl rfl rfl rfl hl.1 rfl (Nat.le_of_ble_eq_true rfl) dX7_round_28 ⟨Nat.zero_le _, Nat.zero_le _⟩ (fun r28 u28 H locs ho hP hD hS => ?_)
    try dsimp only at ho
    replace hP : va_P D vwCl [(a_hb, oX7 a_fl a_pl a_va a_ce a_st a_li a_hbR), (a_hbR, .inl (cI, 7, .inl u28)), (a_fl, oX1 fl_e fl_f fl_bias fl_codes fl_signBit fl_endless), (a_pl, oX3 a_fl pl_lower pl_way pl_more pl_beyond)] H := hP
    replace hD : va_D A [(a_hb, oX7 a_fl a_pl a_va a_ce a_st a_li a_hbR), (a_hbR, .inl (cI, 7, .inl u28)), (a_fl, oX1 fl_e fl_f fl_bias fl_codes fl_signBit fl_endless), (a_pl, oX3 a_fl pl_lower pl_way pl_more pl_beyond)] := hD
    subst hQ; exact W.iret (v := r28) hx hb hr (fun t ht hW => ⟨⟨r28, (u28, pl_lower, pl_way, pl_more, pl_beyond), rfl, ho, by rw [ht]; exact hP, hD⟩, hS.F ht⟩) (fun q hq => hS.2.2 q hq) dX7_round_31
  suffices main : ∀ (H : Heap) (locs : List Loc), va_P D vwCl [(a_hb, oX7 a_fl a_pl a_va a_ce a_st a_li a_hbR), (a_hbR, .inl (cI, 7, .inl hbR_r)), (a_fl, oX1 fl_e fl_f fl_bias fl_codes fl_signBit fl_endless), (a_pl, oX3 a_fl pl_lower pl_way pl_more pl_beyond)] H → va_S A s.heap H locs → W p l e R s m args below meth c H locs 0 0 Q (F0 m 0 ls []) from main _ _ hP hS
  intro H locs hP hS
  unfold wp_X7_round at ho
  refine lv_iload_n hx hb dX7_round_0 rfl (lv_at hl 3 rfl) ?_
  refine ca_Si (As := [.int p3]) (rest := []) ⟨hx, hb, hml, hown, hts⟩ (c_X7_isRounding l D cI cJ cZ   p3 _ ho) (va_cwS 1 hts (gdS wl_323 wl_324 wl_2 wl_325) rfl rfl rfl (by decide +kernel) ⟨hRf _ (Nat.le_of_ble_eq_true rfl), hRl _ (Nat.le_of_ble_eq_true rfl)⟩) hK hN hP [] rfl rfl hl.1 rfl (Nat.le_of_ble_eq_true rfl) dX7_round_1 ⟨Nat.zero_le _, Nat.zero_le _⟩ (fun r1 ho => ?_)
  refine lv_if_ne (tgt := 13) hx hb dX7_round_4 (by decide) (fun c_4 => ?_) (fun c_4 => ?_)
  · replace ho := ho.1 c_4
    refine lv_iload_n hx hb dX7_round_13 rfl (lv_at hl 1 rfl) ?_
    refine lv_ldc hx hb hown (hts _ wl_321) dX7_round_14 ?_
    refine lv_icmp_lt (tgt := 25) hx hb dX7_round_16 (by decide) (fun c_16 => ?_) (fun c_16 => ?_)
    · replace ho := ho.1 c_16
      exact C_25 hbR_r pl_lower pl_way pl_more pl_beyond H locs ls ho hP hD hS (lv_sub hl [0] rfl)
    · replace ho := ho.2 c_16
      refine lv_iload_n hx hb dX7_round_19 rfl (lv_at hl 2 rfl) ?_
      refine lv_bipush (v := (-60)) hx hb dX7_round_20 (by decide) ?_
      refine lv_icmp_ge (tgt := 32) hx hb dX7_round_22 (by decide) (fun c_22 => ?_) (fun c_22 => ?_)
      · replace ho := ho.1 c_22
        refine lv_iload_n hx hb dX7_round_32 rfl (lv_at hl 1 rfl) ?_
        refine lv_ldc hx hb hown (hts _ wl_322) dX7_round_33 ?_
        refine lv_icmp_gt (tgt := 44) hx hb dX7_round_35 (by decide) (fun c_35 => ?_) (fun c_35 => ?_)
        · replace ho := ho.1 c_35
          exact C_44 hbR_r pl_lower pl_way pl_more pl_beyond H locs ls ho hP hD hS (lv_sub hl [0] rfl)
        · replace ho := ho.2 c_35
          refine lv_iload_n hx hb dX7_round_38 rfl (lv_at hl 2 rfl) ?_
          refine lv_bipush (v := 60) hx hb dX7_round_39 (by decide) ?_
          refine lv_icmp_le (tgt := 51) hx hb dX7_round_41 (by decide) (fun c_41 => ?_) (fun c_41 => ?_)
          · replace ho := ho.1 c_41
            refine lv_iload_n hx hb dX7_round_51 rfl (lv_at hl 1 rfl) ?_
            refine lv_if_ne (tgt := 57) hx hb dX7_round_52 (by decide) (fun c_52 => ?_) (fun c_52 => ?_)
            · replace ho := ho.1 c_52
              refine lv_aload_n hx hb dX7_round_57 rfl (lv_at hl 0 rfl) ?_
              refine va_get (D := D) (ci := 6) (v := .ref a_pl) (C := RX7) (T := TX7) (N := 7) hx hb hts inlX7 hown hK hP 0 rfl rfl 1 (by decide) (hts _ wl_19) (fun _ h9 => h9) rfl dX7_round_58 ?_
              refine lv_iload_n hx hb dX7_round_61 rfl (lv_at hl 1 rfl) ?_
              refine va_mabs hx hb (hml.trans hl.1.symm) hown (hts _ wl_303) (hts _ wl_304) (hts _ wl_244) (hts _ wl_305) (hRf 1 (Nat.le_of_ble_eq_true rfl)) (hRl _ (Nat.le_of_ble_eq_true rfl)) (Nat.zero_le _) (Nat.zero_le _) dX7_round_62 ?_
              refine lv_i2l hx hb dX7_round_65 rfl ?_
              refine lv_iload_n hx hb dX7_round_66 rfl (lv_at hl 2 rfl) ?_
              refine lv_iconst (v := 0) hx hb dX7_round_67 (by decide) ?_
              refine ca_Wv (b := a_pl) (As := [.long ((if 0 ≤ p1 then p1 else 0 - p1).toInt64), .int p2, .int (0 : Int32)]) (rest := []) (wr := [(a_hb, oX7 a_fl a_pl a_va a_ce a_st a_li a_hbR), (a_hbR, .inl (cI, 7, .inl hbR_r))]) (wo := fun (u : (Int32) × (Int32) × (Int32) × (Int32)) => [(a_fl, oX1 fl_e fl_f fl_bias fl_codes fl_signBit fl_endless), (a_pl, oX3 a_fl u.1 u.2.1 u.2.2.1 u.2.2.2)]) (wn := fun (u : (Int32) × (Int32) × (Int32) × (Int32)) => [(a_hb, oX7 a_fl a_pl a_va a_ce a_st a_li a_hbR), (a_hbR, .inl (cI, 7, .inl hbR_r)), (a_fl, oX1 fl_e fl_f fl_bias fl_codes fl_signBit fl_endless), (a_pl, oX3 a_fl u.1 u.2.1 u.2.2.1 u.2.2.2)]) ⟨hx, hb, hml, hown, hts⟩ (c_X3_lay l D cI cJ cZ a_fl a_pl H.size fl_e fl_f fl_bias fl_codes fl_signBit fl_endless pl_lower pl_way pl_more pl_beyond ((if 0 ≤ p1 then p1 else 0 - p1).toInt64) p2 (0 : Int32) _ _ rfl ho) (cwV 3 hts (gdV wl_326 wl_327 wl_328 wl_18 wl_329) rfl rfl rfl (by decide +kernel) ⟨hRf _ (Nat.le_of_ble_eq_true rfl), hRl _ (Nat.le_of_ble_eq_true rfl)⟩) hK hN hP hD hS hA [2, 3] [0, 1] [0, 1, 2, 3] rfl rfl (by decide) (by decide) (by decide) (by decide) (fun _ => rfl) 1 3 rfl rfl rfl rfl hl.1 rfl (Nat.le_of_ble_eq_true rfl) dX7_round_68 ⟨Nat.zero_le _, Nat.zero_le _⟩ (fun  u68 H locs ho hP hD hS => ?_)
              obtain ⟨u68_1, u68_2, u68_3, u68_4⟩ := u68
              try dsimp only at ho
              replace hP : va_P D vwCl [(a_hb, oX7 a_fl a_pl a_va a_ce a_st a_li a_hbR), (a_hbR, .inl (cI, 7, .inl hbR_r)), (a_fl, oX1 fl_e fl_f fl_bias fl_codes fl_signBit fl_endless), (a_pl, oX3 a_fl u68_1 u68_2 u68_3 u68_4)] H := hP
              replace hD : va_D A [(a_hb, oX7 a_fl a_pl a_va a_ce a_st a_li a_hbR), (a_hbR, .inl (cI, 7, .inl hbR_r)), (a_fl, oX1 fl_e fl_f fl_bias fl_codes fl_signBit fl_endless), (a_pl, oX3 a_fl u68_1 u68_2 u68_3 u68_4)] := hD
              refine lv_aload_n hx hb dX7_round_71 rfl (lv_at hl 0 rfl) ?_
              refine va_get (D := D) (ci := 6) (v := .ref a_pl) (C := RX7) (T := TX7) (N := 7) hx hb hts inlX7 hown hK hP 0 rfl rfl 1 (by decide) (hts _ wl_19) (fun _ h9 => h9) rfl dX7_round_72 ?_
              refine lv_iload_n hx hb dX7_round_75 rfl (lv_at hl 1 rfl) ?_
              refine lv_if_ge (tgt := 83) hx hb dX7_round_76 (by decide) (fun c_76 => ?_) (fun c_76 => ?_)
              · replace ho := ho.1 c_76
                refine lv_iconst (v := 0) hx hb dX7_round_83 (by decide) ?_
                exact C_84 hbR_r u68_1 u68_2 u68_3 u68_4 (0 : Int32) H locs ls ho hP hD hS (lv_sub hl [3] rfl)
              · replace ho := ho.2 c_76
                refine lv_iconst (v := 1) hx hb dX7_round_79 (by decide) ?_
                refine lv_goto (tgt := 84) hx hb dX7_round_80 (by decide) ?_
                exact C_84 hbR_r u68_1 u68_2 u68_3 u68_4 (1 : Int32) H locs ls ho hP hD hS (lv_sub hl [3] rfl)
            · replace ho := ho.2 c_52
              refine lv_iconst (v := 0) hx hb dX7_round_55 (by decide) ?_
              subst hQ; exact W.iret (v := (0 : Int32)) hx hb hr (fun t ht hW => ⟨⟨(0 : Int32), (hbR_r, pl_lower, pl_way, pl_more, pl_beyond), rfl, ho, by rw [ht]; exact hP, hD⟩, hS.F ht⟩) (fun q hq => hS.2.2 q hq) dX7_round_56
          · replace ho := ho.2 c_41
            exact C_44 hbR_r pl_lower pl_way pl_more pl_beyond H locs ls ho hP hD hS (lv_sub hl [0] rfl)
      · replace ho := ho.2 c_22
        exact C_25 hbR_r pl_lower pl_way pl_more pl_beyond H locs ls ho hP hD hS (lv_sub hl [0] rfl)
  · replace ho := ho.2 c_4
    refine lv_aload_n hx hb dX7_round_7 rfl (lv_at hl 0 rfl) ?_
    refine lv_iconst (v := (-1)) hx hb dX7_round_8 (by decide) ?_
    refine ca_Wi (b := a_hb) (As := [.int (-1 : Int32)]) (rest := []) (wr := [(a_fl, oX1 fl_e fl_f fl_bias fl_codes fl_signBit fl_endless), (a_pl, oX3 a_fl pl_lower pl_way pl_more pl_beyond)]) (wo := fun (u : (Nat → Int32)) => [(a_hb, oX7 a_fl a_pl a_va a_ce a_st a_li a_hbR), (a_hbR, .inl (cI, 7, .inl u))]) (wn := fun (u : (Nat → Int32)) => [(a_hb, oX7 a_fl a_pl a_va a_ce a_st a_li a_hbR), (a_hbR, .inl (cI, 7, .inl u)), (a_fl, oX1 fl_e fl_f fl_bias fl_codes fl_signBit fl_endless), (a_pl, oX3 a_fl pl_lower pl_way pl_more pl_beyond)]) ⟨hx, hb, hml, hown, hts⟩ (c_X7_refuse l D cI cJ cZ a_hb a_hbR a_fl a_pl a_va a_ce a_st a_li H.size hbR_r (-1 : Int32) _ _ rfl ho) (cwV 1 hts (gdV wl_128 wl_129 wl_130 wl_2 wl_131) rfl rfl rfl (by decide +kernel) ⟨hRf _ (Nat.le_of_ble_eq_true rfl), hRl _ (Nat.le_of_ble_eq_true rfl)⟩) hK hN hP hD hS hA [0, 1] [2, 3] [2, 3, 0, 1] rfl rfl (by decide) (by decide) (by decide) (by decide) (fun _ => rfl) 0 6 rfl rfl rfl rfl hl.1 rfl (Nat.le_of_ble_eq_true rfl) dX7_round_9 ⟨Nat.zero_le _, Nat.zero_le _⟩ (fun r9 u9 H locs ho hP hD hS => ?_)
    try dsimp only at ho
    replace hP : va_P D vwCl [(a_hb, oX7 a_fl a_pl a_va a_ce a_st a_li a_hbR), (a_hbR, .inl (cI, 7, .inl u9)), (a_fl, oX1 fl_e fl_f fl_bias fl_codes fl_signBit fl_endless), (a_pl, oX3 a_fl pl_lower pl_way pl_more pl_beyond)] H := hP
    replace hD : va_D A [(a_hb, oX7 a_fl a_pl a_va a_ce a_st a_li a_hbR), (a_hbR, .inl (cI, 7, .inl u9)), (a_fl, oX1 fl_e fl_f fl_bias fl_codes fl_signBit fl_endless), (a_pl, oX3 a_fl pl_lower pl_way pl_more pl_beyond)] := hD
    subst hQ; exact W.iret (v := r9) hx hb hr (fun t ht hW => ⟨⟨r9, (u9, pl_lower, pl_way, pl_more, pl_beyond), rfl, ho, by rw [ht]; exact hP, hD⟩, hS.F ht⟩) (fun q hq => hS.2.2 q hq) dX7_round_12

def w_X7_isFunction : List Cond := .code yX7_isFunction cX7_isFunction 1 (some .boolean) :: wsL_law
set_option maxHeartbeats 4000000 in
set_option maxRecDepth 100000 in
theorem c_X7_isFunction (l : Launch) (D : va_G) (cI cJ cZ : ClassId)   (p1 : Int32) (post : Int32 → Prop) (ho : wp_X7_isFunction post p1) : Met l yX7_isFunction w_X7_isFunction ({ frames := 0, cells := 0, slots := 0, locals := 0 } : Room) (ro_P D [(cI, .int), (cJ, .long), (cZ, .boolean)] [.int p1] []) (vp_Si post) 0 0 (fun _ => False) := by
  refine Met.ofW (cc := cX7_isFunction) (maxL := 1) (ret := (some .boolean)) (by decide) rfl ?_
  intro p e s m args below meth c s₁ B hml hv
  obtain ⟨hargs, hP, hK, hN⟩ := hv
  have hx := B.exec
  have hb := B.bytes
  have hr := B.returns
  have hts : ∀ w ∈ wsL_law, w.before args s = true := fun w h => atoms_spec (ws := w_X7_isFunction) B.pre w (List.mem_cons_of_mem _ h)
  have hown : s.vm.findClass RX7 = some m.cls := findClass_of_methodNamed B.named
  have hlocks := B.notSynchronized
  have hl := lv_entry ([.int p1]) (n := 1) (Nat.le_of_ble_eq_true rfl)
  rw [hargs, lg_entry_eq, ← hargs]
  generalize (lg_sl ([.int p1]) ++ List.replicate (1 - (lg_sl ([.int p1])).length) Slot.unset).toArray = ls at hl ⊢
  replace hl : lv_has ls 1 [(0, .int p1)] := hl
  have hRf : ∀ n, n ≤ 0 → n ≤ (headSpec w_X7_isFunction ({ frames := 0, cells := 0, slots := 0, locals := 0 } : Room)).room.frames := fun n h => h
  have hRl : ∀ n, n ≤ 0 → n ≤ (headSpec w_X7_isFunction ({ frames := 0, cells := 0, slots := 0, locals := 0 } : Room)).room.locals := fun n h => h
  generalize (headSpec w_X7_isFunction ({ frames := 0, cells := 0, slots := 0, locals := 0 } : Room)).room = R at hRf hRl ⊢
  generalize hQ : MQ below _ args s 0 0 _ = Q
  unfold wp_X7_isFunction at ho
  refine lv_iload_n hx hb dX7_isFunction_0 rfl (lv_at hl 0 rfl) ?_
  refine lv_if_lt (tgt := 13) hx hb dX7_isFunction_1 (by decide) (fun c_1 => ?_) (fun c_1 => ?_)
  · replace ho := ho.1 c_1
    refine lv_iconst (v := 0) hx hb dX7_isFunction_13 (by decide) ?_
    subst hQ; exact W.zret (v := (0 : Int32)) hx hb hr rfl (fun t ht _ => ⟨(0 : Int32), rfl, ho, ht⟩) (fun _ h => by cases h) dX7_isFunction_14
  · replace ho := ho.2 c_1
    refine lv_iload_n hx hb dX7_isFunction_4 rfl (lv_at hl 0 rfl) ?_
    refine lv_iconst (v := 5) hx hb dX7_isFunction_5 (by decide) ?_
    refine lv_icmp_ge (tgt := 13) hx hb dX7_isFunction_6 (by decide) (fun c_6 => ?_) (fun c_6 => ?_)
    · replace ho := ho.1 c_6
      refine lv_iconst (v := 0) hx hb dX7_isFunction_13 (by decide) ?_
      subst hQ; exact W.zret (v := (0 : Int32)) hx hb hr rfl (fun t ht _ => ⟨(0 : Int32), rfl, ho, ht⟩) (fun _ h => by cases h) dX7_isFunction_14
    · replace ho := ho.2 c_6
      refine lv_iconst (v := 1) hx hb dX7_isFunction_9 (by decide) ?_
      refine lv_goto (tgt := 14) hx hb dX7_isFunction_10 (by decide) ?_
      subst hQ; exact W.zret (v := (1 : Int32)) hx hb hr rfl (fun t ht _ => ⟨(1 : Int32), rfl, ho, ht⟩) (fun _ h => by cases h) dX7_isFunction_14

def w_X7_right : List Cond := .code yX7_right cX7_right 4 (some .int) :: wsL_law
set_option maxHeartbeats 4000000 in
set_option maxRecDepth 100000 in
theorem c_X7_right (l : Launch) (D : va_G) (cI cJ cZ : ClassId) (a_hb : Nat) (a_hbR : Nat) (a_fl : Nat) (a_pl : Nat) (a_va : Nat) (a_p2 : Nat) (a_ce : Nat) (a_st : Nat) (a_li : Nat) (sz : Nat) (hbR_r : Nat → Int32) (fl_e : Int32) (fl_f : Int32) (fl_bias : Int32) (fl_codes : Int32) (fl_signBit : Int32) (fl_endless : Int32) (va_m : Int64) (va_x : Int32) (va_more : Int32) (va_laid : Int32) (va_below : Int32) (va_settled : Int32) (va_sort : Int32) (p2_lower : Int32) (p2_way : Int32) (p2_more : Int32) (p2_beyond : Int32) (p1 : Int32) (p2 : Int32) (p3 : Int32) (post : Int32 → (Nat → Int32) → Int64 → Int32 → Int32 → Int32 → Int32 → Int32 → Int32 → Int32 → Int32 → Int32 → Int32 → Prop) (A : Nat → Prop) (hAe : A = va_A [(a_hb, oX7 a_fl a_pl a_va a_ce a_st a_li a_hbR), (a_hbR, .inl (cI, 7, .inl hbR_r)), (a_fl, oX1 fl_e fl_f fl_bias fl_codes fl_signBit fl_endless), (a_va, oX6 a_fl a_p2 va_m va_x va_more va_laid va_below va_settled va_sort), (a_p2, oX3 a_fl p2_lower p2_way p2_more p2_beyond)] sz) (ho : wp_X7_right post hbR_r fl_f fl_bias fl_codes fl_signBit fl_endless va_m va_x va_more va_laid va_below va_settled va_sort p2_lower p2_way p2_more p2_beyond p1 p2 p3) : Met l yX7_right w_X7_right ({ frames := 5, cells := 0, slots := 0, locals := 126 } : Room) (rw_P D [(cI, .int), (cJ, .long), (cZ, .boolean)] [.ref a_hb, .int p1, .int p2, .int p3] sz [(a_hb, oX7 a_fl a_pl a_va a_ce a_st a_li a_hbR), (a_hbR, .inl (cI, 7, .inl hbR_r)), (a_fl, oX1 fl_e fl_f fl_bias fl_codes fl_signBit fl_endless), (a_va, oX6 a_fl a_p2 va_m va_x va_more va_laid va_below va_settled va_sort), (a_p2, oX3 a_fl p2_lower p2_way p2_more p2_beyond)]) (va_Qi (fun (r : Int32) (u : (Nat → Int32) × (Int64) × (Int32) × (Int32) × (Int32) × (Int32) × (Int32) × (Int32) × (Int32) × (Int32) × (Int32) × (Int32)) => post r u.1 u.2.1 u.2.2.1 u.2.2.2.1 u.2.2.2.2.1 u.2.2.2.2.2.1 u.2.2.2.2.2.2.1 u.2.2.2.2.2.2.2.1 u.2.2.2.2.2.2.2.2.1 u.2.2.2.2.2.2.2.2.2.1 u.2.2.2.2.2.2.2.2.2.2.1 u.2.2.2.2.2.2.2.2.2.2.2) (rw_B D A (fun (u : (Nat → Int32) × (Int64) × (Int32) × (Int32) × (Int32) × (Int32) × (Int32) × (Int32) × (Int32) × (Int32) × (Int32) × (Int32)) => [(a_hb, oX7 a_fl a_pl a_va a_ce a_st a_li a_hbR), (a_hbR, .inl (cI, 7, .inl u.1)), (a_fl, oX1 fl_e fl_f fl_bias fl_codes fl_signBit fl_endless), (a_va, oX6 a_fl a_p2 u.2.1 u.2.2.1 u.2.2.2.1 u.2.2.2.2.1 u.2.2.2.2.2.1 u.2.2.2.2.2.2.1 u.2.2.2.2.2.2.2.1), (a_p2, oX3 a_fl u.2.2.2.2.2.2.2.2.1 u.2.2.2.2.2.2.2.2.2.1 u.2.2.2.2.2.2.2.2.2.2.1 u.2.2.2.2.2.2.2.2.2.2.2)])) A) 0 0 A := by
  refine Met.ofW (cc := cX7_right) (maxL := 4) (ret := (some .int)) (by decide) rfl ?_
  intro p e s m args below meth c s₁ B hml hv
  obtain ⟨hargs, hsz, hP, hK, hN, hD0⟩ := hv
  have hx := B.exec
  have hb := B.bytes
  have hr := B.returns
  have hts : ∀ w ∈ wsL_law, w.before args s = true := fun w h => atoms_spec (ws := w_X7_right) B.pre w (List.mem_cons_of_mem _ h)
  have hown : s.vm.findClass RX7 = some m.cls := findClass_of_methodNamed B.named
  have hlocks := B.notSynchronized
  subst hsz
  have hD : va_D A [(a_hb, oX7 a_fl a_pl a_va a_ce a_st a_li a_hbR), (a_hbR, .inl (cI, 7, .inl hbR_r)), (a_fl, oX1 fl_e fl_f fl_bias fl_codes fl_signBit fl_endless), (a_va, oX6 a_fl a_p2 va_m va_x va_more va_laid va_below va_settled va_sort), (a_p2, oX3 a_fl p2_lower p2_way p2_more p2_beyond)] := by rw [hAe]; exact hD0.self
  have hA : ∀ q : Nat, s.heap.size ≤ q → A q := fun q h => by rw [hAe]; exact Or.inr h
  have hS : va_S A s.heap s.heap [] := va_S.rf
  have hl := lv_entry ([.ref a_hb, .int p1, .int p2, .int p3]) (n := 4) (Nat.le_of_ble_eq_true rfl)
  rw [hargs, lg_entry_eq, ← hargs]
  generalize (lg_sl ([.ref a_hb, .int p1, .int p2, .int p3]) ++ List.replicate (4 - (lg_sl ([.ref a_hb, .int p1, .int p2, .int p3])).length) Slot.unset).toArray = ls at hl ⊢
  replace hl : lv_has ls 4 [(0, .ref a_hb), (1, .int p1), (2, .int p2), (3, .int p3)] := hl
  have hRf : ∀ n, n ≤ 5 → n ≤ (headSpec w_X7_right ({ frames := 5, cells := 0, slots := 0, locals := 126 } : Room)).room.frames := fun n h => h
  have hRl : ∀ n, n ≤ 126 → n ≤ (headSpec w_X7_right ({ frames := 5, cells := 0, slots := 0, locals := 126 } : Room)).room.locals := fun n h => h
  generalize (headSpec w_X7_right ({ frames := 5, cells := 0, slots := 0, locals := 126 } : Room)).room = R at hRf hRl ⊢
  generalize hQ : MQ below _ args s 0 0 _ = Q
  have C_25 : ∀ (hbR_r : Nat → Int32) (va_m : Int64) (va_x : Int32) (va_more : Int32) (va_laid : Int32) (va_below : Int32) (va_settled : Int32) (va_sort : Int32) (p2_lower : Int32) (p2_way : Int32) (p2_more : Int32) (p2_beyond : Int32) (H : Heap) (locs : List Loc) (ls : Array Slot), wp_X7_right_25 post  hbR_r va_m va_x va_more va_laid va_below va_settled va_sort p2_lower p2_way p2_more p2_beyond → va_P D vwCl [(a_hb, oX7 a_fl a_pl a_va a_ce a_st a_li a_hbR), (a_hbR, .inl (cI, 7, .inl hbR_r)), (a_fl, oX1 fl_e fl_f fl_bias fl_codes fl_signBit fl_endless), (a_va, oX6 a_fl a_p2 va_m va_x va_more va_laid va_below va_settled va_sort), (a_p2, oX3 a_fl p2_lower p2_way p2_more p2_beyond)] H → va_D A [(a_hb, oX7 a_fl a_pl a_va a_ce a_st a_li a_hbR), (a_hbR, .inl (cI, 7, .inl hbR_r)), (a_fl, oX1 fl_e fl_f fl_bias fl_codes fl_signBit fl_endless), (a_va, oX6 a_fl a_p2 va_m va_x va_more va_laid va_below va_settled va_sort), (a_p2, oX3 a_fl p2_lower p2_way p2_more p2_beyond)] → va_S A s.heap H locs → lv_has ls 4 [(0, .ref a_hb)] → W p l e R s m args below meth c H locs 0 0 Q (F0 m 25 ls []) := by
    intro hbR_r va_m va_x va_more va_laid va_below va_settled va_sort p2_lower p2_way p2_more p2_beyond H locs ls ho hP hD hS hl
    unfold wp_X7_right_25 at ho
    refine lv_aload_n hx hb dX7_right_25 rfl (lv_at hl 0 rfl) ?_
    refine lv_iconst (v := (-1)) hx hb dX7_right_26 (by decide) ?_
    refine ca_Wi (b := a_hb) (As := [.int (-1 : Int32)]) (rest := []) (wr := [(a_fl, oX1 fl_e fl_f fl_bias fl_codes fl_signBit fl_endless), (a_va, oX6 a_fl a_p2 va_m va_x va_more va_laid va_below va_settled va_sort), (a_p2, oX3 a_fl p2_lower p2_way p2_more p2_beyond)]) (wo := fun (u : (Nat → Int32)) => [(a_hb, oX7 a_fl a_pl a_va a_ce a_st a_li a_hbR), (a_hbR, .inl (cI, 7, .inl u))]) (wn := fun (u : (Nat → Int32)) => [(a_hb, oX7 a_fl a_pl a_va a_ce a_st a_li a_hbR), (a_hbR, .inl (cI, 7, .inl u)), (a_fl, oX1 fl_e fl_f fl_bias fl_codes fl_signBit fl_endless), (a_va, oX6 a_fl a_p2 va_m va_x va_more va_laid va_below va_settled va_sort), (a_p2, oX3 a_fl p2_lower p2_way p2_more p2_beyond)]) ⟨hx, hb, hml, hown, hts⟩ (c_X7_refuse l D cI cJ cZ a_hb a_hbR a_fl a_pl a_va a_ce a_st a_li H.size hbR_r (-1 : Int32) _ _ rfl ho) (cwV 1 hts (gdV wl_128 wl_129 wl_130 wl_2 wl_131) rfl rfl rfl (by decide +kernel) ⟨hRf _ (Nat.le_of_ble_eq_true rfl), hRl _ (Nat.le_of_ble_eq_true rfl)⟩) hK hN hP hD hS hA [0, 1] [2, 3, 4] [3, 4, 0, 1, 2] rfl rfl (by decide) (by decide) (by decide) (by decide) (fun _ => rfl) 0 6 rfl rfl rfl rfl hl.1 rfl (Nat.le_of_ble_eq_true rfl) dX7_right_27 ⟨Nat.zero_le _, Nat.zero_le _⟩ (fun r27 u27 H locs ho hP hD hS => ?_)
    try dsimp only at ho
    replace hP : va_P D vwCl [(a_hb, oX7 a_fl a_pl a_va a_ce a_st a_li a_hbR), (a_hbR, .inl (cI, 7, .inl u27)), (a_fl, oX1 fl_e fl_f fl_bias fl_codes fl_signBit fl_endless), (a_va, oX6 a_fl a_p2 va_m va_x va_more va_laid va_below va_settled va_sort), (a_p2, oX3 a_fl p2_lower p2_way p2_more p2_beyond)] H := hP
    replace hD : va_D A [(a_hb, oX7 a_fl a_pl a_va a_ce a_st a_li a_hbR), (a_hbR, .inl (cI, 7, .inl u27)), (a_fl, oX1 fl_e fl_f fl_bias fl_codes fl_signBit fl_endless), (a_va, oX6 a_fl a_p2 va_m va_x va_more va_laid va_below va_settled va_sort), (a_p2, oX3 a_fl p2_lower p2_way p2_more p2_beyond)] := hD
    subst hQ; exact W.iret (v := r27) hx hb hr (fun t ht hW => ⟨⟨r27, (u27, va_m, va_x, va_more, va_laid, va_below, va_settled, va_sort, p2_lower, p2_way, p2_more, p2_beyond), rfl, ho, by rw [ht]; exact hP, hD⟩, hS.F ht⟩) (fun q hq => hS.2.2 q hq) dX7_right_30
  suffices main : ∀ (H : Heap) (locs : List Loc), va_P D vwCl [(a_hb, oX7 a_fl a_pl a_va a_ce a_st a_li a_hbR), (a_hbR, .inl (cI, 7, .inl hbR_r)), (a_fl, oX1 fl_e fl_f fl_bias fl_codes fl_signBit fl_endless), (a_va, oX6 a_fl a_p2 va_m va_x va_more va_laid va_below va_settled va_sort), (a_p2, oX3 a_fl p2_lower p2_way p2_more p2_beyond)] H → va_S A s.heap H locs → W p l e R s m args below meth c H locs 0 0 Q (F0 m 0 ls []) from main _ _ hP hS
  intro H locs hP hS
  unfold wp_X7_right at ho
  refine lv_iload_n hx hb dX7_right_0 rfl (lv_at hl 1 rfl) ?_
  refine ca_Si (As := [.int p1]) (rest := []) ⟨hx, hb, hml, hown, hts⟩ (c_X7_isFunction l D cI cJ cZ   p1 _ ho) (va_cwS 1 hts (gdS wl_401 wl_402 wl_2 wl_403) rfl rfl rfl (by decide +kernel) ⟨hRf _ (Nat.le_of_ble_eq_true rfl), hRl _ (Nat.le_of_ble_eq_true rfl)⟩) hK hN hP [] rfl rfl hl.1 rfl (Nat.le_of_ble_eq_true rfl) dX7_right_1 ⟨Nat.zero_le _, Nat.zero_le _⟩ (fun r1 ho => ?_)
  refine lv_if_eq (tgt := 25) hx hb dX7_right_4 (by decide) (fun c_4 => ?_) (fun c_4 => ?_)
  · replace ho := ho.1 c_4
    exact C_25 hbR_r va_m va_x va_more va_laid va_below va_settled va_sort p2_lower p2_way p2_more p2_beyond H locs ls ho hP hD hS (lv_sub hl [0] rfl)
  · replace ho := ho.2 c_4
    refine lv_aload_n hx hb dX7_right_7 rfl (lv_at hl 0 rfl) ?_
    refine va_get (D := D) (ci := 6) (v := .ref a_fl) (C := RX7) (T := TX7) (N := 7) hx hb hts inlX7 hown hK hP 0 rfl rfl 0 (by decide) (hts _ wl_15) (fun _ h9 => h9) rfl dX7_right_8 ?_
    refine lv_iload_n hx hb dX7_right_11 rfl (lv_at hl 2 rfl) ?_
    refine ca_Vi (b := a_fl) (As := [.int p2]) (rest := []) ⟨hx, hb, hml, hown, hts⟩ (c_X1_isCode l D cI cJ cZ a_fl fl_e fl_f fl_bias fl_codes fl_signBit fl_endless p2 _ ho) (cwV 1 hts (gdV wl_173 wl_174 wl_175 wl_14 wl_176) rfl rfl rfl (by decide +kernel) ⟨hRf _ (Nat.le_of_ble_eq_true rfl), hRl _ (Nat.le_of_ble_eq_true rfl)⟩) hK hN hP [2] rfl 0 1 rfl rfl rfl rfl hl.1 rfl (Nat.le_of_ble_eq_true rfl) dX7_right_12 ⟨Nat.zero_le _, Nat.zero_le _⟩ (fun r12 ho => ?_)
    refine lv_if_eq (tgt := 25) hx hb dX7_right_15 (by decide) (fun c_15 => ?_) (fun c_15 => ?_)
    · replace ho := ho.1 c_15
      exact C_25 hbR_r va_m va_x va_more va_laid va_below va_settled va_sort p2_lower p2_way p2_more p2_beyond H locs ls ho hP hD hS (lv_sub hl [0] rfl)
    · replace ho := ho.2 c_15
      refine lv_iload_n hx hb dX7_right_18 rfl (lv_at hl 3 rfl) ?_
      refine ca_Si (As := [.int p3]) (rest := []) ⟨hx, hb, hml, hown, hts⟩ (c_X7_isRounding l D cI cJ cZ   p3 _ ho) (va_cwS 1 hts (gdS wl_323 wl_324 wl_2 wl_325) rfl rfl rfl (by decide +kernel) ⟨hRf _ (Nat.le_of_ble_eq_true rfl), hRl _ (Nat.le_of_ble_eq_true rfl)⟩) hK hN hP [] rfl rfl hl.1 rfl (Nat.le_of_ble_eq_true rfl) dX7_right_19 ⟨Nat.zero_le _, Nat.zero_le _⟩ (fun r19 ho => ?_)
      refine lv_if_ne (tgt := 31) hx hb dX7_right_22 (by decide) (fun c_22 => ?_) (fun c_22 => ?_)
      · replace ho := ho.1 c_22
        refine lv_aload_n hx hb dX7_right_31 rfl (lv_at hl 0 rfl) ?_
        refine va_get (D := D) (ci := 6) (v := .ref a_va) (C := RX7) (T := TX7) (N := 7) hx hb hts inlX7 hown hK hP 0 rfl rfl 2 (by decide) (hts _ wl_23) (fun _ h9 => h9) rfl dX7_right_32 ?_
        refine lv_iload_n hx hb dX7_right_35 rfl (lv_at hl 1 rfl) ?_
        refine lv_iload_n hx hb dX7_right_36 rfl (lv_at hl 2 rfl) ?_
        refine lv_iload_n hx hb dX7_right_37 rfl (lv_at hl 3 rfl) ?_
        refine ca_Wi (b := a_va) (As := [.int p1, .int p2, .int p3]) (rest := []) (wr := [(a_hb, oX7 a_fl a_pl a_va a_ce a_st a_li a_hbR), (a_hbR, .inl (cI, 7, .inl hbR_r))]) (wo := fun (u : (Int64) × (Int32) × (Int32) × (Int32) × (Int32) × (Int32) × (Int32) × (Int32) × (Int32) × (Int32) × (Int32)) => [(a_fl, oX1 fl_e fl_f fl_bias fl_codes fl_signBit fl_endless), (a_va, oX6 a_fl a_p2 u.1 u.2.1 u.2.2.1 u.2.2.2.1 u.2.2.2.2.1 u.2.2.2.2.2.1 u.2.2.2.2.2.2.1), (a_p2, oX3 a_fl u.2.2.2.2.2.2.2.1 u.2.2.2.2.2.2.2.2.1 u.2.2.2.2.2.2.2.2.2.1 u.2.2.2.2.2.2.2.2.2.2)]) (wn := fun (u : (Int64) × (Int32) × (Int32) × (Int32) × (Int32) × (Int32) × (Int32) × (Int32) × (Int32) × (Int32) × (Int32)) => [(a_hb, oX7 a_fl a_pl a_va a_ce a_st a_li a_hbR), (a_hbR, .inl (cI, 7, .inl hbR_r)), (a_fl, oX1 fl_e fl_f fl_bias fl_codes fl_signBit fl_endless), (a_va, oX6 a_fl a_p2 u.1 u.2.1 u.2.2.1 u.2.2.2.1 u.2.2.2.2.1 u.2.2.2.2.2.1 u.2.2.2.2.2.2.1), (a_p2, oX3 a_fl u.2.2.2.2.2.2.2.1 u.2.2.2.2.2.2.2.2.1 u.2.2.2.2.2.2.2.2.2.1 u.2.2.2.2.2.2.2.2.2.2)]) ⟨hx, hb, hml, hown, hts⟩ (c_X6_resultAt l D cI cJ cZ a_fl a_va a_p2 H.size fl_e fl_f fl_bias fl_codes fl_signBit fl_endless va_m va_x va_more va_laid va_below va_settled va_sort p2_lower p2_way p2_more p2_beyond p1 p2 p3 _ _ rfl ho) (cwV 3 hts (gdV wl_404 wl_405 wl_406 wl_22 wl_407) rfl rfl rfl (by decide +kernel) ⟨hRf _ (Nat.le_of_ble_eq_true rfl), hRl _ (Nat.le_of_ble_eq_true rfl)⟩) hK hN hP hD hS hA [2, 3, 4] [0, 1] [0, 1, 2, 3, 4] rfl rfl (by decide) (by decide) (by decide) (by decide) (fun _ => rfl) 1 5 rfl rfl rfl rfl hl.1 rfl (Nat.le_of_ble_eq_true rfl) dX7_right_38 ⟨Nat.zero_le _, Nat.zero_le _⟩ (fun r38 u38 H locs ho hP hD hS => ?_)
        obtain ⟨u38_1, u38_2, u38_3, u38_4, u38_5, u38_6, u38_7, u38_8, u38_9, u38_10, u38_11⟩ := u38
        try dsimp only at ho
        replace hP : va_P D vwCl [(a_hb, oX7 a_fl a_pl a_va a_ce a_st a_li a_hbR), (a_hbR, .inl (cI, 7, .inl hbR_r)), (a_fl, oX1 fl_e fl_f fl_bias fl_codes fl_signBit fl_endless), (a_va, oX6 a_fl a_p2 u38_1 u38_2 u38_3 u38_4 u38_5 u38_6 u38_7), (a_p2, oX3 a_fl u38_8 u38_9 u38_10 u38_11)] H := hP
        replace hD : va_D A [(a_hb, oX7 a_fl a_pl a_va a_ce a_st a_li a_hbR), (a_hbR, .inl (cI, 7, .inl hbR_r)), (a_fl, oX1 fl_e fl_f fl_bias fl_codes fl_signBit fl_endless), (a_va, oX6 a_fl a_p2 u38_1 u38_2 u38_3 u38_4 u38_5 u38_6 u38_7), (a_p2, oX3 a_fl u38_8 u38_9 u38_10 u38_11)] := hD
        subst hQ; exact W.iret (v := r38) hx hb hr (fun t ht hW => ⟨⟨r38, (hbR_r, u38_1, u38_2, u38_3, u38_4, u38_5, u38_6, u38_7, u38_8, u38_9, u38_10, u38_11), rfl, ho, by rw [ht]; exact hP, hD⟩, hS.F ht⟩) (fun q hq => hS.2.2 q hq) dX7_right_41
      · replace ho := ho.2 c_22
        exact C_25 hbR_r va_m va_x va_more va_laid va_below va_settled va_sort p2_lower p2_way p2_more p2_beyond H locs ls ho hP hD hS (lv_sub hl [0] rfl)

def w_X7_sort : List Cond := .code yX7_sort cX7_sort 3 (some .int) :: wsL_law
set_option maxHeartbeats 4000000 in
set_option maxRecDepth 100000 in
theorem c_X7_sort (l : Launch) (D : va_G) (cI cJ cZ : ClassId) (a_hb : Nat) (a_hbR : Nat) (a_fl : Nat) (a_pl : Nat) (a_va : Nat) (a_p2 : Nat) (a_ce : Nat) (a_st : Nat) (a_li : Nat) (sz : Nat) (hbR_r : Nat → Int32) (fl_e : Int32) (fl_f : Int32) (fl_bias : Int32) (fl_codes : Int32) (fl_signBit : Int32) (fl_endless : Int32) (va_m : Int64) (va_x : Int32) (va_more : Int32) (va_laid : Int32) (va_below : Int32) (va_settled : Int32) (va_sort : Int32) (p2_lower : Int32) (p2_way : Int32) (p2_more : Int32) (p2_beyond : Int32) (p1 : Int32) (p2 : Int32) (post : Int32 → (Nat → Int32) → Int64 → Int32 → Int32 → Int32 → Int32 → Int32 → Int32 → Int32 → Int32 → Int32 → Int32 → Prop) (A : Nat → Prop) (hAe : A = va_A [(a_hb, oX7 a_fl a_pl a_va a_ce a_st a_li a_hbR), (a_hbR, .inl (cI, 7, .inl hbR_r)), (a_fl, oX1 fl_e fl_f fl_bias fl_codes fl_signBit fl_endless), (a_va, oX6 a_fl a_p2 va_m va_x va_more va_laid va_below va_settled va_sort), (a_p2, oX3 a_fl p2_lower p2_way p2_more p2_beyond)] sz) (ho : wp_X7_sort post hbR_r fl_f fl_bias fl_codes fl_signBit fl_endless va_m va_x va_more va_laid va_below va_settled va_sort p2_lower p2_way p2_more p2_beyond p1 p2) : Met l yX7_sort w_X7_sort ({ frames := 4, cells := 0, slots := 0, locals := 103 } : Room) (rw_P D [(cI, .int), (cJ, .long), (cZ, .boolean)] [.ref a_hb, .int p1, .int p2] sz [(a_hb, oX7 a_fl a_pl a_va a_ce a_st a_li a_hbR), (a_hbR, .inl (cI, 7, .inl hbR_r)), (a_fl, oX1 fl_e fl_f fl_bias fl_codes fl_signBit fl_endless), (a_va, oX6 a_fl a_p2 va_m va_x va_more va_laid va_below va_settled va_sort), (a_p2, oX3 a_fl p2_lower p2_way p2_more p2_beyond)]) (va_Qi (fun (r : Int32) (u : (Nat → Int32) × (Int64) × (Int32) × (Int32) × (Int32) × (Int32) × (Int32) × (Int32) × (Int32) × (Int32) × (Int32) × (Int32)) => post r u.1 u.2.1 u.2.2.1 u.2.2.2.1 u.2.2.2.2.1 u.2.2.2.2.2.1 u.2.2.2.2.2.2.1 u.2.2.2.2.2.2.2.1 u.2.2.2.2.2.2.2.2.1 u.2.2.2.2.2.2.2.2.2.1 u.2.2.2.2.2.2.2.2.2.2.1 u.2.2.2.2.2.2.2.2.2.2.2) (rw_B D A (fun (u : (Nat → Int32) × (Int64) × (Int32) × (Int32) × (Int32) × (Int32) × (Int32) × (Int32) × (Int32) × (Int32) × (Int32) × (Int32)) => [(a_hb, oX7 a_fl a_pl a_va a_ce a_st a_li a_hbR), (a_hbR, .inl (cI, 7, .inl u.1)), (a_fl, oX1 fl_e fl_f fl_bias fl_codes fl_signBit fl_endless), (a_va, oX6 a_fl a_p2 u.2.1 u.2.2.1 u.2.2.2.1 u.2.2.2.2.1 u.2.2.2.2.2.1 u.2.2.2.2.2.2.1 u.2.2.2.2.2.2.2.1), (a_p2, oX3 a_fl u.2.2.2.2.2.2.2.2.1 u.2.2.2.2.2.2.2.2.2.1 u.2.2.2.2.2.2.2.2.2.2.1 u.2.2.2.2.2.2.2.2.2.2.2)])) A) 0 0 A := by
  refine Met.ofW (cc := cX7_sort) (maxL := 3) (ret := (some .int)) (by decide) rfl ?_
  intro p e s m args below meth c s₁ B hml hv
  obtain ⟨hargs, hsz, hP, hK, hN, hD0⟩ := hv
  have hx := B.exec
  have hb := B.bytes
  have hr := B.returns
  have hts : ∀ w ∈ wsL_law, w.before args s = true := fun w h => atoms_spec (ws := w_X7_sort) B.pre w (List.mem_cons_of_mem _ h)
  have hown : s.vm.findClass RX7 = some m.cls := findClass_of_methodNamed B.named
  have hlocks := B.notSynchronized
  subst hsz
  have hD : va_D A [(a_hb, oX7 a_fl a_pl a_va a_ce a_st a_li a_hbR), (a_hbR, .inl (cI, 7, .inl hbR_r)), (a_fl, oX1 fl_e fl_f fl_bias fl_codes fl_signBit fl_endless), (a_va, oX6 a_fl a_p2 va_m va_x va_more va_laid va_below va_settled va_sort), (a_p2, oX3 a_fl p2_lower p2_way p2_more p2_beyond)] := by rw [hAe]; exact hD0.self
  have hA : ∀ q : Nat, s.heap.size ≤ q → A q := fun q h => by rw [hAe]; exact Or.inr h
  have hS : va_S A s.heap s.heap [] := va_S.rf
  have hl := lv_entry ([.ref a_hb, .int p1, .int p2]) (n := 3) (Nat.le_of_ble_eq_true rfl)
  rw [hargs, lg_entry_eq, ← hargs]
  generalize (lg_sl ([.ref a_hb, .int p1, .int p2]) ++ List.replicate (3 - (lg_sl ([.ref a_hb, .int p1, .int p2])).length) Slot.unset).toArray = ls at hl ⊢
  replace hl : lv_has ls 3 [(0, .ref a_hb), (1, .int p1), (2, .int p2)] := hl
  have hRf : ∀ n, n ≤ 4 → n ≤ (headSpec w_X7_sort ({ frames := 4, cells := 0, slots := 0, locals := 103 } : Room)).room.frames := fun n h => h
  have hRl : ∀ n, n ≤ 103 → n ≤ (headSpec w_X7_sort ({ frames := 4, cells := 0, slots := 0, locals := 103 } : Room)).room.locals := fun n h => h
  generalize (headSpec w_X7_sort ({ frames := 4, cells := 0, slots := 0, locals := 103 } : Room)).room = R at hRf hRl ⊢
  generalize hQ : MQ below _ args s 0 0 _ = Q
  have C_18 : ∀ (hbR_r : Nat → Int32) (va_m : Int64) (va_x : Int32) (va_more : Int32) (va_laid : Int32) (va_below : Int32) (va_settled : Int32) (va_sort : Int32) (p2_lower : Int32) (p2_way : Int32) (p2_more : Int32) (p2_beyond : Int32) (H : Heap) (locs : List Loc) (ls : Array Slot), wp_X7_sort_18 post  hbR_r va_m va_x va_more va_laid va_below va_settled va_sort p2_lower p2_way p2_more p2_beyond → va_P D vwCl [(a_hb, oX7 a_fl a_pl a_va a_ce a_st a_li a_hbR), (a_hbR, .inl (cI, 7, .inl hbR_r)), (a_fl, oX1 fl_e fl_f fl_bias fl_codes fl_signBit fl_endless), (a_va, oX6 a_fl a_p2 va_m va_x va_more va_laid va_below va_settled va_sort), (a_p2, oX3 a_fl p2_lower p2_way p2_more p2_beyond)] H → va_D A [(a_hb, oX7 a_fl a_pl a_va a_ce a_st a_li a_hbR), (a_hbR, .inl (cI, 7, .inl hbR_r)), (a_fl, oX1 fl_e fl_f fl_bias fl_codes fl_signBit fl_endless), (a_va, oX6 a_fl a_p2 va_m va_x va_more va_laid va_below va_settled va_sort), (a_p2, oX3 a_fl p2_lower p2_way p2_more p2_beyond)] → va_S A s.heap H locs → lv_has ls 3 [(0, .ref a_hb)] → W p l e R s m args below meth c H locs 0 0 Q (F0 m 18 ls []) := by
    intro hbR_r va_m va_x va_more va_laid va_below va_settled va_sort p2_lower p2_way p2_more p2_beyond H locs ls ho hP hD hS hl
    unfold wp_X7_sort_18 at ho
    refine lv_aload_n hx hb dX7_sort_18 rfl (lv_at hl 0 rfl) ?_
    refine lv_iconst (v := (-1)) hx hb dX7_sort_19 (by decide) ?_
    refine ca_Wi (b := a_hb) (As := [.int (-1 : Int32)]) (rest := []) (wr := [(a_fl, oX1 fl_e fl_f fl_bias fl_codes fl_signBit fl_endless), (a_va, oX6 a_fl a_p2 va_m va_x va_more va_laid va_below va_settled va_sort), (a_p2, oX3 a_fl p2_lower p2_way p2_more p2_beyond)]) (wo := fun (u : (Nat → Int32)) => [(a_hb, oX7 a_fl a_pl a_va a_ce a_st a_li a_hbR), (a_hbR, .inl (cI, 7, .inl u))]) (wn := fun (u : (Nat → Int32)) => [(a_hb, oX7 a_fl a_pl a_va a_ce a_st a_li a_hbR), (a_hbR, .inl (cI, 7, .inl u)), (a_fl, oX1 fl_e fl_f fl_bias fl_codes fl_signBit fl_endless), (a_va, oX6 a_fl a_p2 va_m va_x va_more va_laid va_below va_settled va_sort), (a_p2, oX3 a_fl p2_lower p2_way p2_more p2_beyond)]) ⟨hx, hb, hml, hown, hts⟩ (c_X7_refuse l D cI cJ cZ a_hb a_hbR a_fl a_pl a_va a_ce a_st a_li H.size hbR_r (-1 : Int32) _ _ rfl ho) (cwV 1 hts (gdV wl_128 wl_129 wl_130 wl_2 wl_131) rfl rfl rfl (by decide +kernel) ⟨hRf _ (Nat.le_of_ble_eq_true rfl), hRl _ (Nat.le_of_ble_eq_true rfl)⟩) hK hN hP hD hS hA [0, 1] [2, 3, 4] [3, 4, 0, 1, 2] rfl rfl (by decide) (by decide) (by decide) (by decide) (fun _ => rfl) 0 6 rfl rfl rfl rfl hl.1 rfl (Nat.le_of_ble_eq_true rfl) dX7_sort_20 ⟨Nat.zero_le _, Nat.zero_le _⟩ (fun r20 u20 H locs ho hP hD hS => ?_)
    try dsimp only at ho
    replace hP : va_P D vwCl [(a_hb, oX7 a_fl a_pl a_va a_ce a_st a_li a_hbR), (a_hbR, .inl (cI, 7, .inl u20)), (a_fl, oX1 fl_e fl_f fl_bias fl_codes fl_signBit fl_endless), (a_va, oX6 a_fl a_p2 va_m va_x va_more va_laid va_below va_settled va_sort), (a_p2, oX3 a_fl p2_lower p2_way p2_more p2_beyond)] H := hP
    replace hD : va_D A [(a_hb, oX7 a_fl a_pl a_va a_ce a_st a_li a_hbR), (a_hbR, .inl (cI, 7, .inl u20)), (a_fl, oX1 fl_e fl_f fl_bias fl_codes fl_signBit fl_endless), (a_va, oX6 a_fl a_p2 va_m va_x va_more va_laid va_below va_settled va_sort), (a_p2, oX3 a_fl p2_lower p2_way p2_more p2_beyond)] := hD
    subst hQ; exact W.iret (v := r20) hx hb hr (fun t ht hW => ⟨⟨r20, (u20, va_m, va_x, va_more, va_laid, va_below, va_settled, va_sort, p2_lower, p2_way, p2_more, p2_beyond), rfl, ho, by rw [ht]; exact hP, hD⟩, hS.F ht⟩) (fun q hq => hS.2.2 q hq) dX7_sort_23
  suffices main : ∀ (H : Heap) (locs : List Loc), va_P D vwCl [(a_hb, oX7 a_fl a_pl a_va a_ce a_st a_li a_hbR), (a_hbR, .inl (cI, 7, .inl hbR_r)), (a_fl, oX1 fl_e fl_f fl_bias fl_codes fl_signBit fl_endless), (a_va, oX6 a_fl a_p2 va_m va_x va_more va_laid va_below va_settled va_sort), (a_p2, oX3 a_fl p2_lower p2_way p2_more p2_beyond)] H → va_S A s.heap H locs → W p l e R s m args below meth c H locs 0 0 Q (F0 m 0 ls []) from main _ _ hP hS
  intro H locs hP hS
  unfold wp_X7_sort at ho
  refine lv_iload_n hx hb dX7_sort_0 rfl (lv_at hl 1 rfl) ?_
  refine ca_Si (As := [.int p1]) (rest := []) ⟨hx, hb, hml, hown, hts⟩ (c_X7_isFunction l D cI cJ cZ   p1 _ ho) (va_cwS 1 hts (gdS wl_401 wl_402 wl_2 wl_403) rfl rfl rfl (by decide +kernel) ⟨hRf _ (Nat.le_of_ble_eq_true rfl), hRl _ (Nat.le_of_ble_eq_true rfl)⟩) hK hN hP [] rfl rfl hl.1 rfl (Nat.le_of_ble_eq_true rfl) dX7_sort_1 ⟨Nat.zero_le _, Nat.zero_le _⟩ (fun r1 ho => ?_)
  refine lv_if_eq (tgt := 18) hx hb dX7_sort_4 (by decide) (fun c_4 => ?_) (fun c_4 => ?_)
  · replace ho := ho.1 c_4
    exact C_18 hbR_r va_m va_x va_more va_laid va_below va_settled va_sort p2_lower p2_way p2_more p2_beyond H locs ls ho hP hD hS (lv_sub hl [0] rfl)
  · replace ho := ho.2 c_4
    refine lv_aload_n hx hb dX7_sort_7 rfl (lv_at hl 0 rfl) ?_
    refine va_get (D := D) (ci := 6) (v := .ref a_fl) (C := RX7) (T := TX7) (N := 7) hx hb hts inlX7 hown hK hP 0 rfl rfl 0 (by decide) (hts _ wl_15) (fun _ h9 => h9) rfl dX7_sort_8 ?_
    refine lv_iload_n hx hb dX7_sort_11 rfl (lv_at hl 2 rfl) ?_
    refine ca_Vi (b := a_fl) (As := [.int p2]) (rest := []) ⟨hx, hb, hml, hown, hts⟩ (c_X1_isCode l D cI cJ cZ a_fl fl_e fl_f fl_bias fl_codes fl_signBit fl_endless p2 _ ho) (cwV 1 hts (gdV wl_173 wl_174 wl_175 wl_14 wl_176) rfl rfl rfl (by decide +kernel) ⟨hRf _ (Nat.le_of_ble_eq_true rfl), hRl _ (Nat.le_of_ble_eq_true rfl)⟩) hK hN hP [2] rfl 0 1 rfl rfl rfl rfl hl.1 rfl (Nat.le_of_ble_eq_true rfl) dX7_sort_12 ⟨Nat.zero_le _, Nat.zero_le _⟩ (fun r12 ho => ?_)
    refine lv_if_ne (tgt := 24) hx hb dX7_sort_15 (by decide) (fun c_15 => ?_) (fun c_15 => ?_)
    · replace ho := ho.1 c_15
      refine lv_aload_n hx hb dX7_sort_24 rfl (lv_at hl 0 rfl) ?_
      refine va_get (D := D) (ci := 6) (v := .ref a_va) (C := RX7) (T := TX7) (N := 7) hx hb hts inlX7 hown hK hP 0 rfl rfl 2 (by decide) (hts _ wl_23) (fun _ h9 => h9) rfl dX7_sort_25 ?_
      refine lv_iload_n hx hb dX7_sort_28 rfl (lv_at hl 1 rfl) ?_
      refine lv_iload_n hx hb dX7_sort_29 rfl (lv_at hl 2 rfl) ?_
      refine ca_Wv (b := a_va) (As := [.int p1, .int p2]) (rest := []) (wr := [(a_hb, oX7 a_fl a_pl a_va a_ce a_st a_li a_hbR), (a_hbR, .inl (cI, 7, .inl hbR_r))]) (wo := fun (u : (Int64) × (Int32) × (Int32) × (Int32) × (Int32) × (Int32) × (Int32) × (Int32) × (Int32) × (Int32) × (Int32)) => [(a_fl, oX1 fl_e fl_f fl_bias fl_codes fl_signBit fl_endless), (a_va, oX6 a_fl a_p2 u.1 u.2.1 u.2.2.1 u.2.2.2.1 u.2.2.2.2.1 u.2.2.2.2.2.1 u.2.2.2.2.2.2.1), (a_p2, oX3 a_fl u.2.2.2.2.2.2.2.1 u.2.2.2.2.2.2.2.2.1 u.2.2.2.2.2.2.2.2.2.1 u.2.2.2.2.2.2.2.2.2.2)]) (wn := fun (u : (Int64) × (Int32) × (Int32) × (Int32) × (Int32) × (Int32) × (Int32) × (Int32) × (Int32) × (Int32) × (Int32)) => [(a_hb, oX7 a_fl a_pl a_va a_ce a_st a_li a_hbR), (a_hbR, .inl (cI, 7, .inl hbR_r)), (a_fl, oX1 fl_e fl_f fl_bias fl_codes fl_signBit fl_endless), (a_va, oX6 a_fl a_p2 u.1 u.2.1 u.2.2.1 u.2.2.2.1 u.2.2.2.2.1 u.2.2.2.2.2.1 u.2.2.2.2.2.2.1), (a_p2, oX3 a_fl u.2.2.2.2.2.2.2.1 u.2.2.2.2.2.2.2.2.1 u.2.2.2.2.2.2.2.2.2.1 u.2.2.2.2.2.2.2.2.2.2)]) ⟨hx, hb, hml, hown, hts⟩ (c_X6_read l D cI cJ cZ a_fl a_va a_p2 H.size fl_e fl_f fl_bias fl_codes fl_signBit fl_endless va_m va_x va_more va_laid va_below va_settled va_sort p2_lower p2_way p2_more p2_beyond p1 p2 _ _ rfl ho) (cwV 2 hts (gdV wl_488 wl_412 wl_413 wl_22 wl_414) rfl rfl rfl (by decide +kernel) ⟨hRf _ (Nat.le_of_ble_eq_true rfl), hRl _ (Nat.le_of_ble_eq_true rfl)⟩) hK hN hP hD hS hA [2, 3, 4] [0, 1] [0, 1, 2, 3, 4] rfl rfl (by decide) (by decide) (by decide) (by decide) (fun _ => rfl) 1 5 rfl rfl rfl rfl hl.1 rfl (Nat.le_of_ble_eq_true rfl) dX7_sort_30 ⟨Nat.zero_le _, Nat.zero_le _⟩ (fun  u30 H locs ho hP hD hS => ?_)
      obtain ⟨u30_1, u30_2, u30_3, u30_4, u30_5, u30_6, u30_7, u30_8, u30_9, u30_10, u30_11⟩ := u30
      try dsimp only at ho
      replace hP : va_P D vwCl [(a_hb, oX7 a_fl a_pl a_va a_ce a_st a_li a_hbR), (a_hbR, .inl (cI, 7, .inl hbR_r)), (a_fl, oX1 fl_e fl_f fl_bias fl_codes fl_signBit fl_endless), (a_va, oX6 a_fl a_p2 u30_1 u30_2 u30_3 u30_4 u30_5 u30_6 u30_7), (a_p2, oX3 a_fl u30_8 u30_9 u30_10 u30_11)] H := hP
      replace hD : va_D A [(a_hb, oX7 a_fl a_pl a_va a_ce a_st a_li a_hbR), (a_hbR, .inl (cI, 7, .inl hbR_r)), (a_fl, oX1 fl_e fl_f fl_bias fl_codes fl_signBit fl_endless), (a_va, oX6 a_fl a_p2 u30_1 u30_2 u30_3 u30_4 u30_5 u30_6 u30_7), (a_p2, oX3 a_fl u30_8 u30_9 u30_10 u30_11)] := hD
      refine lv_aload_n hx hb dX7_sort_33 rfl (lv_at hl 0 rfl) ?_
      refine va_get (D := D) (ci := 6) (v := .ref a_va) (C := RX7) (T := TX7) (N := 7) hx hb hts inlX7 hown hK hP 0 rfl rfl 2 (by decide) (hts _ wl_23) (fun _ h9 => h9) rfl dX7_sort_34 ?_
      refine ca_Vi (b := a_va) (As := []) (rest := []) ⟨hx, hb, hml, hown, hts⟩ (c_X6_sortRead l D cI cJ cZ a_fl a_va a_p2 u30_1 u30_2 u30_3 u30_4 u30_5 u30_6 u30_7  _ ho) (cwV 0 hts (gdV wl_489 wl_490 wl_491 wl_22 wl_492) rfl rfl rfl (by decide +kernel) ⟨hRf _ (Nat.le_of_ble_eq_true rfl), hRl _ (Nat.le_of_ble_eq_true rfl)⟩) hK hN hP [3] rfl 0 5 rfl rfl rfl rfl hl.1 rfl (Nat.le_of_ble_eq_true rfl) dX7_sort_37 ⟨Nat.zero_le _, Nat.zero_le _⟩ (fun r37 ho => ?_)
      subst hQ; exact W.iret (v := r37) hx hb hr (fun t ht hW => ⟨⟨r37, (hbR_r, u30_1, u30_2, u30_3, u30_4, u30_5, u30_6, u30_7, u30_8, u30_9, u30_10, u30_11), rfl, ho, by rw [ht]; exact hP, hD⟩, hS.F ht⟩) (fun q hq => hS.2.2 q hq) dX7_sort_40
    · replace ho := ho.2 c_15
      exact C_18 hbR_r va_m va_x va_more va_laid va_below va_settled va_sort p2_lower p2_way p2_more p2_beyond H locs ls ho hP hD hS (lv_sub hl [0] rfl)
