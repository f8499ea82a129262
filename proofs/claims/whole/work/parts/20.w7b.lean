def w_X7_about : List Cond := .code yX7_about cX7_about 3 (some .int) :: wsL_law
set_option maxHeartbeats 4000000 in
set_option maxRecDepth 100000 in
theorem c_X7_about (l : Launch) (D : va_G) (cI cJ cZ : ClassId) (a_hb : Nat) (a_hbR : Nat) (a_fl : Nat) (a_pl : Nat) (a_va : Nat) (a_ce : Nat) (a_st : Nat) (a_li : Nat) (sz : Nat) (hbR_r : Nat → Int32) (fl_e : Int32) (fl_f : Int32) (fl_bias : Int32) (fl_codes : Int32) (fl_signBit : Int32) (fl_endless : Int32) (p1 : Int32) (p2 : Int32) (post : Int32 → (Nat → Int32) → Prop) (A : Nat → Prop) (hAe : A = va_A [(a_hb, oX7 a_fl a_pl a_va a_ce a_st a_li a_hbR), (a_hbR, .inl (cI, 7, .inl hbR_r)), (a_fl, oX1 fl_e fl_f fl_bias fl_codes fl_signBit fl_endless)] sz) (ho : wp_X7_about post hbR_r fl_f fl_bias fl_codes fl_signBit fl_endless p1 p2) : Met l yX7_about w_X7_about ({ frames := 4, cells := 0, slots := 0, locals := 85 } : Room) (rw_P D [(cI, .int), (cJ, .long), (cZ, .boolean)] [.ref a_hb, .int p1, .int p2] sz [(a_hb, oX7 a_fl a_pl a_va a_ce a_st a_li a_hbR), (a_hbR, .inl (cI, 7, .inl hbR_r)), (a_fl, oX1 fl_e fl_f fl_bias fl_codes fl_signBit fl_endless)]) (va_Qi (fun (r : Int32) (u : (Nat → Int32)) => post r u) (rw_B D A (fun (u : (Nat → Int32)) => [(a_hb, oX7 a_fl a_pl a_va a_ce a_st a_li a_hbR), (a_hbR, .inl (cI, 7, .inl u)), (a_fl, oX1 fl_e fl_f fl_bias fl_codes fl_signBit fl_endless)])) A) 0 0 A := by
  refine Met.ofW (cc := cX7_about) (maxL := 3) (ret := (some .int)) (by decide) rfl ?_
  intro p e s m args below meth c s₁ B hml hv
  obtain ⟨hargs, hsz, hP, hK, hN, hD0⟩ := hv
  have hx := B.exec
  have hb := B.bytes
  have hr := B.returns
  have hts : ∀ w ∈ wsL_law, w.before args s = true := fun w h => atoms_spec (ws := w_X7_about) B.pre w (List.mem_cons_of_mem _ h)
  have hown : s.vm.findClass RX7 = some m.cls := findClass_of_methodNamed B.named
  have hlocks := B.notSynchronized
  subst hsz
  have hD : va_D A [(a_hb, oX7 a_fl a_pl a_va a_ce a_st a_li a_hbR), (a_hbR, .inl (cI, 7, .inl hbR_r)), (a_fl, oX1 fl_e fl_f fl_bias fl_codes fl_signBit fl_endless)] := by rw [hAe]; exact hD0.self
  have hA : ∀ q : Nat, s.heap.size ≤ q → A q := fun q h => by rw [hAe]; exact Or.inr h
  have hS : va_S A s.heap s.heap [] := va_S.rf
  have hl := lv_entry ([.ref a_hb, .int p1, .int p2]) (n := 3) (Nat.le_of_ble_eq_true rfl)
  rw [hargs, lg_entry_eq, ← hargs]
  generalize (lg_sl ([.ref a_hb, .int p1, .int p2]) ++ List.replicate (3 - (lg_sl ([.ref a_hb, .int p1, .int p2])).length) Slot.unset).toArray = ls at hl ⊢
  replace hl : lv_has ls 3 [(0, .ref a_hb), (1, .int p1), (2, .int p2)] := hl
  have hRf : ∀ n, n ≤ 4 → n ≤ (headSpec w_X7_about ({ frames := 4, cells := 0, slots := 0, locals := 85 } : Room)).room.frames := fun n h => h
  have hRl : ∀ n, n ≤ 85 → n ≤ (headSpec w_X7_about ({ frames := 4, cells := 0, slots := 0, locals := 85 } : Room)).room.locals := fun n h => h
  generalize (headSpec w_X7_about ({ frames := 4, cells := 0, slots := 0, locals := 85 } : Room)).room = R at hRf hRl ⊢
  generalize hQ : MQ below _ args s 0 0 _ = Q
  have C_56 : ∀ (hbR_r : Nat → Int32) (H : Heap) (locs : List Loc) (ls : Array Slot), wp_X7_about_56 post  hbR_r fl_f fl_bias fl_signBit fl_endless p1 p2 → va_P D vwCl [(a_hb, oX7 a_fl a_pl a_va a_ce a_st a_li a_hbR), (a_hbR, .inl (cI, 7, .inl hbR_r)), (a_fl, oX1 fl_e fl_f fl_bias fl_codes fl_signBit fl_endless)] H → va_D A [(a_hb, oX7 a_fl a_pl a_va a_ce a_st a_li a_hbR), (a_hbR, .inl (cI, 7, .inl hbR_r)), (a_fl, oX1 fl_e fl_f fl_bias fl_codes fl_signBit fl_endless)] → va_S A s.heap H locs → lv_has ls 3 [(0, .ref a_hb), (1, .int p1), (2, .int p2)] → W p l e R s m args below meth c H locs 0 0 Q (F0 m 56 ls []) := by
    intro hbR_r H locs ls ho hP hD hS hl
    unfold wp_X7_about_56 at ho
    refine lv_iload_n hx hb dX7_about_56 rfl (lv_at hl 2 rfl) ?_
    refine lv_topi (fun z_57 ez_57 => ?_)
    by_cases n_57_0 : z_57 = 0
    · replace ho := ho.1 (ez_57.symm.trans n_57_0)
      subst n_57_0
      refine lv_tableIn (tgt := 92) hx hb dX7_about_57 (by decide) (by decide) rfl (by decide) ?_
      refine lv_aload_n hx hb dX7_about_92 rfl (lv_at hl 0 rfl) ?_
      refine va_get (D := D) (ci := 6) (v := .ref a_fl) (C := RX7) (T := TX7) (N := 7) hx hb hts inlX7 hown hK hP 0 rfl rfl 0 (by decide) (hts _ wl_15) (fun _ h9 => h9) rfl dX7_about_93 ?_
      refine lv_iload_n hx hb dX7_about_96 rfl (lv_at hl 1 rfl) ?_
      refine ca_Vi (b := a_fl) (As := [.int p1]) (rest := []) ⟨hx, hb, hml, hown, hts⟩ (c_X1_kindOf l D cI cJ cZ a_fl fl_e fl_f fl_bias fl_codes fl_signBit fl_endless p1 _ ho) (cwV 1 hts (gdV wl_190 wl_191 wl_192 wl_14 wl_193) rfl rfl rfl (by decide +kernel) ⟨hRf _ (Nat.le_of_ble_eq_true rfl), hRl _ (Nat.le_of_ble_eq_true rfl)⟩) hK hN hP [2] rfl 0 1 rfl rfl rfl rfl hl.1 rfl (Nat.le_of_ble_eq_true rfl) dX7_about_97 ⟨Nat.zero_le _, Nat.zero_le _⟩ (fun r97 ho => ?_)
      subst hQ; exact W.iret (v := r97) hx hb hr (fun t ht hW => ⟨⟨r97, hbR_r, rfl, ho, by rw [ht]; exact hP, hD⟩, hS.F ht⟩) (fun q hq => hS.2.2 q hq) dX7_about_100
    replace ho := ho.2 (fun h => n_57_0 (ez_57.trans h))
    by_cases n_57_1 : z_57 = 1
    · replace ho := ho.1 (ez_57.symm.trans n_57_1)
      subst n_57_1
      refine lv_tableIn (tgt := 101) hx hb dX7_about_57 (by decide) (by decide) rfl (by decide) ?_
      refine lv_aload_n hx hb dX7_about_101 rfl (lv_at hl 0 rfl) ?_
      refine va_get (D := D) (ci := 6) (v := .ref a_fl) (C := RX7) (T := TX7) (N := 7) hx hb hts inlX7 hown hK hP 0 rfl rfl 0 (by decide) (hts _ wl_15) (fun _ h9 => h9) rfl dX7_about_102 ?_
      refine lv_iload_n hx hb dX7_about_105 rfl (lv_at hl 1 rfl) ?_
      refine ca_Vi (b := a_fl) (As := [.int p1]) (rest := []) ⟨hx, hb, hml, hown, hts⟩ (c_X1_isBelow l D cI cJ cZ a_fl fl_e fl_f fl_bias fl_codes fl_signBit fl_endless p1 _ ho) (cwV 1 hts (gdV wl_203 wl_204 wl_205 wl_14 wl_206) rfl rfl rfl (by decide +kernel) ⟨hRf _ (Nat.le_of_ble_eq_true rfl), hRl _ (Nat.le_of_ble_eq_true rfl)⟩) hK hN hP [2] rfl 0 1 rfl rfl rfl rfl hl.1 rfl (Nat.le_of_ble_eq_true rfl) dX7_about_106 ⟨Nat.zero_le _, Nat.zero_le _⟩ (fun r106 ho => ?_)
      refine lv_if_eq (tgt := 116) hx hb dX7_about_109 (by decide) (fun c_109 => ?_) (fun c_109 => ?_)
      · replace ho := ho.1 c_109
        refine lv_iconst (v := 0) hx hb dX7_about_116 (by decide) ?_
        subst hQ; exact W.iret (v := (0 : Int32)) hx hb hr (fun t ht hW => ⟨⟨(0 : Int32), hbR_r, rfl, ho, by rw [ht]; exact hP, hD⟩, hS.F ht⟩) (fun q hq => hS.2.2 q hq) dX7_about_117
      · replace ho := ho.2 c_109
        refine lv_iconst (v := 1) hx hb dX7_about_112 (by decide) ?_
        refine lv_goto (tgt := 117) hx hb dX7_about_113 (by decide) ?_
        subst hQ; exact W.iret (v := (1 : Int32)) hx hb hr (fun t ht hW => ⟨⟨(1 : Int32), hbR_r, rfl, ho, by rw [ht]; exact hP, hD⟩, hS.F ht⟩) (fun q hq => hS.2.2 q hq) dX7_about_117
    replace ho := ho.2 (fun h => n_57_1 (ez_57.trans h))
    by_cases n_57_2 : z_57 = 2
    · replace ho := ho.1 (ez_57.symm.trans n_57_2)
      subst n_57_2
      refine lv_tableIn (tgt := 118) hx hb dX7_about_57 (by decide) (by decide) rfl (by decide) ?_
      refine lv_aload_n hx hb dX7_about_118 rfl (lv_at hl 0 rfl) ?_
      refine va_get (D := D) (ci := 6) (v := .ref a_fl) (C := RX7) (T := TX7) (N := 7) hx hb hts inlX7 hown hK hP 0 rfl rfl 0 (by decide) (hts _ wl_15) (fun _ h9 => h9) rfl dX7_about_119 ?_
      refine lv_iload_n hx hb dX7_about_122 rfl (lv_at hl 1 rfl) ?_
      refine ca_Vi (b := a_fl) (As := [.int p1]) (rest := []) ⟨hx, hb, hml, hown, hts⟩ (c_X1_powerBits l D cI cJ cZ a_fl fl_e fl_f fl_bias fl_codes fl_signBit fl_endless p1 _ ho) (cwV 1 hts (gdV wl_207 wl_208 wl_209 wl_14 wl_210) rfl rfl rfl (by decide +kernel) ⟨hRf _ (Nat.le_of_ble_eq_true rfl), hRl _ (Nat.le_of_ble_eq_true rfl)⟩) hK hN hP [2] rfl 0 1 rfl rfl rfl rfl hl.1 rfl (Nat.le_of_ble_eq_true rfl) dX7_about_123 ⟨Nat.zero_le _, Nat.zero_le _⟩ (fun r123 ho => ?_)
      subst hQ; exact W.iret (v := r123) hx hb hr (fun t ht hW => ⟨⟨r123, hbR_r, rfl, ho, by rw [ht]; exact hP, hD⟩, hS.F ht⟩) (fun q hq => hS.2.2 q hq) dX7_about_126
    replace ho := ho.2 (fun h => n_57_2 (ez_57.trans h))
    by_cases n_57_3 : z_57 = 3
    · replace ho := ho.1 (ez_57.symm.trans n_57_3)
      subst n_57_3
      refine lv_tableIn (tgt := 127) hx hb dX7_about_57 (by decide) (by decide) rfl (by decide) ?_
      refine lv_aload_n hx hb dX7_about_127 rfl (lv_at hl 0 rfl) ?_
      refine va_get (D := D) (ci := 6) (v := .ref a_fl) (C := RX7) (T := TX7) (N := 7) hx hb hts inlX7 hown hK hP 0 rfl rfl 0 (by decide) (hts _ wl_15) (fun _ h9 => h9) rfl dX7_about_128 ?_
      refine lv_iload_n hx hb dX7_about_131 rfl (lv_at hl 1 rfl) ?_
      refine ca_Vi (b := a_fl) (As := [.int p1]) (rest := []) ⟨hx, hb, hml, hown, hts⟩ (c_X1_figureBits l D cI cJ cZ a_fl fl_e fl_f fl_bias fl_codes fl_signBit fl_endless p1 _ ho) (cwV 1 hts (gdV wl_211 wl_212 wl_213 wl_14 wl_214) rfl rfl rfl (by decide +kernel) ⟨hRf _ (Nat.le_of_ble_eq_true rfl), hRl _ (Nat.le_of_ble_eq_true rfl)⟩) hK hN hP [2] rfl 0 1 rfl rfl rfl rfl hl.1 rfl (Nat.le_of_ble_eq_true rfl) dX7_about_132 ⟨Nat.zero_le _, Nat.zero_le _⟩ (fun r132 ho => ?_)
      subst hQ; exact W.iret (v := r132) hx hb hr (fun t ht hW => ⟨⟨r132, hbR_r, rfl, ho, by rw [ht]; exact hP, hD⟩, hS.F ht⟩) (fun q hq => hS.2.2 q hq) dX7_about_135
    replace ho := ho.2 (fun h => n_57_3 (ez_57.trans h))
    by_cases n_57_4 : z_57 = 4
    · replace ho := ho.1 (ez_57.symm.trans n_57_4)
      subst n_57_4
      refine lv_tableIn (tgt := 136) hx hb dX7_about_57 (by decide) (by decide) rfl (by decide) ?_
      refine lv_aload_n hx hb dX7_about_136 rfl (lv_at hl 0 rfl) ?_
      refine va_get (D := D) (ci := 6) (v := .ref a_fl) (C := RX7) (T := TX7) (N := 7) hx hb hts inlX7 hown hK hP 0 rfl rfl 0 (by decide) (hts _ wl_15) (fun _ h9 => h9) rfl dX7_about_137 ?_
      refine lv_iload_n hx hb dX7_about_140 rfl (lv_at hl 1 rfl) ?_
      refine ca_Vi (b := a_fl) (As := [.int p1]) (rest := []) ⟨hx, hb, hml, hown, hts⟩ (c_X1_oddFactor l D cI cJ cZ a_fl fl_e fl_f fl_bias fl_codes fl_signBit fl_endless p1 _ ho) (cwV 1 hts (gdV wl_219 wl_220 wl_221 wl_14 wl_222) rfl rfl rfl (by decide +kernel) ⟨hRf _ (Nat.le_of_ble_eq_true rfl), hRl _ (Nat.le_of_ble_eq_true rfl)⟩) hK hN hP [2] rfl 0 1 rfl rfl rfl rfl hl.1 rfl (Nat.le_of_ble_eq_true rfl) dX7_about_141 ⟨Nat.zero_le _, Nat.zero_le _⟩ (fun r141 ho => ?_)
      subst hQ; exact W.iret (v := r141) hx hb hr (fun t ht hW => ⟨⟨r141, hbR_r, rfl, ho, by rw [ht]; exact hP, hD⟩, hS.F ht⟩) (fun q hq => hS.2.2 q hq) dX7_about_144
    replace ho := ho.2 (fun h => n_57_4 (ez_57.trans h))
    refine lv_tableOut (tgt := 145) hx hb dX7_about_57 (by have q_57_0 := lv_neT (a := 0) n_57_0 rfl; have q_57_1 := lv_neT (a := 1) n_57_1 rfl; have q_57_2 := lv_neT (a := 2) n_57_2 rfl; have q_57_3 := lv_neT (a := 3) n_57_3 rfl; have q_57_4 := lv_neT (a := 4) n_57_4 rfl; omega) (by decide) ?_
    refine lv_aload_n hx hb dX7_about_145 rfl (lv_at hl 0 rfl) ?_
    refine va_get (D := D) (ci := 6) (v := .ref a_fl) (C := RX7) (T := TX7) (N := 7) hx hb hts inlX7 hown hK hP 0 rfl rfl 0 (by decide) (hts _ wl_15) (fun _ h9 => h9) rfl dX7_about_146 ?_
    refine lv_iload_n hx hb dX7_about_149 rfl (lv_at hl 1 rfl) ?_
    refine ca_Vi (b := a_fl) (As := [.int p1]) (rest := []) ⟨hx, hb, hml, hown, hts⟩ (c_X1_powerOfOddFactor l D cI cJ cZ a_fl fl_e fl_f fl_bias fl_codes fl_signBit fl_endless p1 _ ho) (cwV 1 hts (gdV wl_234 wl_235 wl_236 wl_14 wl_237) rfl rfl rfl (by decide +kernel) ⟨hRf _ (Nat.le_of_ble_eq_true rfl), hRl _ (Nat.le_of_ble_eq_true rfl)⟩) hK hN hP [2] rfl 0 1 rfl rfl rfl rfl hl.1 rfl (Nat.le_of_ble_eq_true rfl) dX7_about_150 ⟨Nat.zero_le _, Nat.zero_le _⟩ (fun r150 ho => ?_)
    subst hQ; exact W.iret (v := r150) hx hb hr (fun t ht hW => ⟨⟨r150, hbR_r, rfl, ho, by rw [ht]; exact hP, hD⟩, hS.F ht⟩) (fun q hq => hS.2.2 q hq) dX7_about_153
  have C_26 : ∀ (hbR_r : Nat → Int32) (H : Heap) (locs : List Loc) (ls : Array Slot), wp_X7_about_26 post  hbR_r → va_P D vwCl [(a_hb, oX7 a_fl a_pl a_va a_ce a_st a_li a_hbR), (a_hbR, .inl (cI, 7, .inl hbR_r)), (a_fl, oX1 fl_e fl_f fl_bias fl_codes fl_signBit fl_endless)] H → va_D A [(a_hb, oX7 a_fl a_pl a_va a_ce a_st a_li a_hbR), (a_hbR, .inl (cI, 7, .inl hbR_r)), (a_fl, oX1 fl_e fl_f fl_bias fl_codes fl_signBit fl_endless)] → va_S A s.heap H locs → lv_has ls 3 [(0, .ref a_hb)] → W p l e R s m args below meth c H locs 0 0 Q (F0 m 26 ls []) := by
    intro hbR_r H locs ls ho hP hD hS hl
    unfold wp_X7_about_26 at ho
    refine lv_aload_n hx hb dX7_about_26 rfl (lv_at hl 0 rfl) ?_
    refine lv_bipush (v := (-2)) hx hb dX7_about_27 (by decide) ?_
    refine ca_Wi (b := a_hb) (As := [.int (-2 : Int32)]) (rest := []) (wr := [(a_fl, oX1 fl_e fl_f fl_bias fl_codes fl_signBit fl_endless)]) (wo := fun (u : (Nat → Int32)) => [(a_hb, oX7 a_fl a_pl a_va a_ce a_st a_li a_hbR), (a_hbR, .inl (cI, 7, .inl u))]) (wn := fun (u : (Nat → Int32)) => [(a_hb, oX7 a_fl a_pl a_va a_ce a_st a_li a_hbR), (a_hbR, .inl (cI, 7, .inl u)), (a_fl, oX1 fl_e fl_f fl_bias fl_codes fl_signBit fl_endless)]) ⟨hx, hb, hml, hown, hts⟩ (c_X7_refuseAsTold l D cI cJ cZ a_hb a_hbR a_fl a_pl a_va a_ce a_st a_li H.size hbR_r (-2 : Int32) _ _ rfl ho) (cwV 1 hts (gdV wl_177 wl_178 wl_179 wl_2 wl_180) rfl rfl rfl (by decide +kernel) ⟨hRf _ (Nat.le_of_ble_eq_true rfl), hRl _ (Nat.le_of_ble_eq_true rfl)⟩) hK hN hP hD hS hA [0, 1] [2] [1, 2, 0] rfl rfl (by decide) (by decide) (by decide) (by decide) (fun _ => rfl) 0 6 rfl rfl rfl rfl hl.1 rfl (Nat.le_of_ble_eq_true rfl) dX7_about_29 ⟨Nat.zero_le _, Nat.zero_le _⟩ (fun r29 u29 H locs ho hP hD hS => ?_)
    try dsimp only at ho
    replace hP : va_P D vwCl [(a_hb, oX7 a_fl a_pl a_va a_ce a_st a_li a_hbR), (a_hbR, .inl (cI, 7, .inl u29)), (a_fl, oX1 fl_e fl_f fl_bias fl_codes fl_signBit fl_endless)] H := hP
    replace hD : va_D A [(a_hb, oX7 a_fl a_pl a_va a_ce a_st a_li a_hbR), (a_hbR, .inl (cI, 7, .inl u29)), (a_fl, oX1 fl_e fl_f fl_bias fl_codes fl_signBit fl_endless)] := hD
    subst hQ; exact W.iret (v := r29) hx hb hr (fun t ht hW => ⟨⟨r29, u29, rfl, ho, by rw [ht]; exact hP, hD⟩, hS.F ht⟩) (fun q hq => hS.2.2 q hq) dX7_about_32
  suffices main : ∀ (H : Heap) (locs : List Loc), va_P D vwCl [(a_hb, oX7 a_fl a_pl a_va a_ce a_st a_li a_hbR), (a_hbR, .inl (cI, 7, .inl hbR_r)), (a_fl, oX1 fl_e fl_f fl_bias fl_codes fl_signBit fl_endless)] H → va_S A s.heap H locs → W p l e R s m args below meth c H locs 0 0 Q (F0 m 0 ls []) from main _ _ hP hS
  intro H locs hP hS
  unfold wp_X7_about at ho
  refine lv_aload_n hx hb dX7_about_0 rfl (lv_at hl 0 rfl) ?_
  refine va_get (D := D) (ci := 6) (v := .ref a_fl) (C := RX7) (T := TX7) (N := 7) hx hb hts inlX7 hown hK hP 0 rfl rfl 0 (by decide) (hts _ wl_15) (fun _ h9 => h9) rfl dX7_about_1 ?_
  refine lv_iload_n hx hb dX7_about_4 rfl (lv_at hl 1 rfl) ?_
  refine ca_Vi (b := a_fl) (As := [.int p1]) (rest := []) ⟨hx, hb, hml, hown, hts⟩ (c_X1_isCode l D cI cJ cZ a_fl fl_e fl_f fl_bias fl_codes fl_signBit fl_endless p1 _ ho) (cwV 1 hts (gdV wl_173 wl_174 wl_175 wl_14 wl_176) rfl rfl rfl (by decide +kernel) ⟨hRf _ (Nat.le_of_ble_eq_true rfl), hRl _ (Nat.le_of_ble_eq_true rfl)⟩) hK hN hP [2] rfl 0 1 rfl rfl rfl rfl hl.1 rfl (Nat.le_of_ble_eq_true rfl) dX7_about_5 ⟨Nat.zero_le _, Nat.zero_le _⟩ (fun r5 ho => ?_)
  refine lv_if_ne (tgt := 17) hx hb dX7_about_8 (by decide) (fun c_8 => ?_) (fun c_8 => ?_)
  · replace ho := ho.1 c_8
    refine lv_iload_n hx hb dX7_about_17 rfl (lv_at hl 2 rfl) ?_
    refine lv_if_lt (tgt := 26) hx hb dX7_about_18 (by decide) (fun c_18 => ?_) (fun c_18 => ?_)
    · replace ho := ho.1 c_18
      exact C_26 hbR_r H locs ls ho hP hD hS (lv_sub hl [0] rfl)
    · replace ho := ho.2 c_18
      refine lv_iload_n hx hb dX7_about_21 rfl (lv_at hl 2 rfl) ?_
      refine lv_iconst (v := 5) hx hb dX7_about_22 (by decide) ?_
      refine lv_icmp_le (tgt := 33) hx hb dX7_about_23 (by decide) (fun c_23 => ?_) (fun c_23 => ?_)
      · replace ho := ho.1 c_23
        refine lv_iload_n hx hb dX7_about_33 rfl (lv_at hl 2 rfl) ?_
        refine lv_iconst (v := 4) hx hb dX7_about_34 (by decide) ?_
        refine lv_icmp_lt (tgt := 56) hx hb dX7_about_35 (by decide) (fun c_35 => ?_) (fun c_35 => ?_)
        · replace ho := ho.1 c_35
          exact C_56 hbR_r H locs ls ho hP hD hS (lv_sub hl [0, 1, 2] rfl)
        · replace ho := ho.2 c_35
          refine lv_aload_n hx hb dX7_about_38 rfl (lv_at hl 0 rfl) ?_
          refine va_get (D := D) (ci := 6) (v := .ref a_fl) (C := RX7) (T := TX7) (N := 7) hx hb hts inlX7 hown hK hP 0 rfl rfl 0 (by decide) (hts _ wl_15) (fun _ h9 => h9) rfl dX7_about_39 ?_
          refine lv_iload_n hx hb dX7_about_42 rfl (lv_at hl 1 rfl) ?_
          refine ca_Vi (b := a_fl) (As := [.int p1]) (rest := []) ⟨hx, hb, hml, hown, hts⟩ (c_X1_isPlain l D cI cJ cZ a_fl fl_e fl_f fl_bias fl_codes fl_signBit fl_endless p1 _ ho) (cwV 1 hts (gdV wl_182 wl_183 wl_184 wl_14 wl_185) rfl rfl rfl (by decide +kernel) ⟨hRf _ (Nat.le_of_ble_eq_true rfl), hRl _ (Nat.le_of_ble_eq_true rfl)⟩) hK hN hP [2] rfl 0 1 rfl rfl rfl rfl hl.1 rfl (Nat.le_of_ble_eq_true rfl) dX7_about_43 ⟨Nat.zero_le _, Nat.zero_le _⟩ (fun r43 ho => ?_)
          refine lv_if_ne (tgt := 56) hx hb dX7_about_46 (by decide) (fun c_46 => ?_) (fun c_46 => ?_)
          · replace ho := ho.1 c_46
            exact C_56 hbR_r H locs ls ho hP hD hS (lv_sub hl [0, 1, 2] rfl)
          · replace ho := ho.2 c_46
            refine lv_aload_n hx hb dX7_about_49 rfl (lv_at hl 0 rfl) ?_
            refine lv_bipush (v := (-3)) hx hb dX7_about_50 (by decide) ?_
            refine ca_Wi (b := a_hb) (As := [.int (-3 : Int32)]) (rest := []) (wr := [(a_fl, oX1 fl_e fl_f fl_bias fl_codes fl_signBit fl_endless)]) (wo := fun (u : (Nat → Int32)) => [(a_hb, oX7 a_fl a_pl a_va a_ce a_st a_li a_hbR), (a_hbR, .inl (cI, 7, .inl u))]) (wn := fun (u : (Nat → Int32)) => [(a_hb, oX7 a_fl a_pl a_va a_ce a_st a_li a_hbR), (a_hbR, .inl (cI, 7, .inl u)), (a_fl, oX1 fl_e fl_f fl_bias fl_codes fl_signBit fl_endless)]) ⟨hx, hb, hml, hown, hts⟩ (c_X7_refuseAsTold l D cI cJ cZ a_hb a_hbR a_fl a_pl a_va a_ce a_st a_li H.size hbR_r (-3 : Int32) _ _ rfl ho) (cwV 1 hts (gdV wl_177 wl_178 wl_179 wl_2 wl_180) rfl rfl rfl (by decide +kernel) ⟨hRf _ (Nat.le_of_ble_eq_true rfl), hRl _ (Nat.le_of_ble_eq_true rfl)⟩) hK hN hP hD hS hA [0, 1] [2] [1, 2, 0] rfl rfl (by decide) (by decide) (by decide) (by decide) (fun _ => rfl) 0 6 rfl rfl rfl rfl hl.1 rfl (Nat.le_of_ble_eq_true rfl) dX7_about_52 ⟨Nat.zero_le _, Nat.zero_le _⟩ (fun r52 u52 H locs ho hP hD hS => ?_)
            try dsimp only at ho
            replace hP : va_P D vwCl [(a_hb, oX7 a_fl a_pl a_va a_ce a_st a_li a_hbR), (a_hbR, .inl (cI, 7, .inl u52)), (a_fl, oX1 fl_e fl_f fl_bias fl_codes fl_signBit fl_endless)] H := hP
            replace hD : va_D A [(a_hb, oX7 a_fl a_pl a_va a_ce a_st a_li a_hbR), (a_hbR, .inl (cI, 7, .inl u52)), (a_fl, oX1 fl_e fl_f fl_bias fl_codes fl_signBit fl_endless)] := hD
            subst hQ; exact W.iret (v := r52) hx hb hr (fun t ht hW => ⟨⟨r52, u52, rfl, ho, by rw [ht]; exact hP, hD⟩, hS.F ht⟩) (fun q hq => hS.2.2 q hq) dX7_about_55
      · replace ho := ho.2 c_23
        exact C_26 hbR_r H locs ls ho hP hD hS (lv_sub hl [0] rfl)
  · replace ho := ho.2 c_8
    refine lv_aload_n hx hb dX7_about_11 rfl (lv_at hl 0 rfl) ?_
    refine lv_iconst (v := (-1)) hx hb dX7_about_12 (by decide) ?_
    refine ca_Wi (b := a_hb) (As := [.int (-1 : Int32)]) (rest := []) (wr := [(a_fl, oX1 fl_e fl_f fl_bias fl_codes fl_signBit fl_endless)]) (wo := fun (u : (Nat → Int32)) => [(a_hb, oX7 a_fl a_pl a_va a_ce a_st a_li a_hbR), (a_hbR, .inl (cI, 7, .inl u))]) (wn := fun (u : (Nat → Int32)) => [(a_hb, oX7 a_fl a_pl a_va a_ce a_st a_li a_hbR), (a_hbR, .inl (cI, 7, .inl u)), (a_fl, oX1 fl_e fl_f fl_bias fl_codes fl_signBit fl_endless)]) ⟨hx, hb, hml, hown, hts⟩ (c_X7_refuseAsTold l D cI cJ cZ a_hb a_hbR a_fl a_pl a_va a_ce a_st a_li H.size hbR_r (-1 : Int32) _ _ rfl ho) (cwV 1 hts (gdV wl_177 wl_178 wl_179 wl_2 wl_180) rfl rfl rfl (by decide +kernel) ⟨hRf _ (Nat.le_of_ble_eq_true rfl), hRl _ (Nat.le_of_ble_eq_true rfl)⟩) hK hN hP hD hS hA [0, 1] [2] [1, 2, 0] rfl rfl (by decide) (by decide) (by decide) (by decide) (fun _ => rfl) 0 6 rfl rfl rfl rfl hl.1 rfl (Nat.le_of_ble_eq_true rfl) dX7_about_13 ⟨Nat.zero_le _, Nat.zero_le _⟩ (fun r13 u13 H locs ho hP hD hS => ?_)
    try dsimp only at ho
    replace hP : va_P D vwCl [(a_hb, oX7 a_fl a_pl a_va a_ce a_st a_li a_hbR), (a_hbR, .inl (cI, 7, .inl u13)), (a_fl, oX1 fl_e fl_f fl_bias fl_codes fl_signBit fl_endless)] H := hP
    replace hD : va_D A [(a_hb, oX7 a_fl a_pl a_va a_ce a_st a_li a_hbR), (a_hbR, .inl (cI, 7, .inl u13)), (a_fl, oX1 fl_e fl_f fl_bias fl_codes fl_signBit fl_endless)] := hD
    subst hQ; exact W.iret (v := r13) hx hb hr (fun t ht hW => ⟨⟨r13, u13, rfl, ho, by rw [ht]; exact hP, hD⟩, hS.F ht⟩) (fun q hq => hS.2.2 q hq) dX7_about_16

def w_X7_next : List Cond := .code yX7_next cX7_next 2 (some .int) :: wsL_law
set_option maxHeartbeats 4000000 in
set_option maxRecDepth 100000 in
theorem c_X7_next (l : Launch) (D : va_G) (cI cJ cZ : ClassId) (a_hb : Nat) (a_hbR : Nat) (a_fl : Nat) (a_pl : Nat) (a_va : Nat) (a_ce : Nat) (a_st : Nat) (a_li : Nat) (sz : Nat) (hbR_r : Nat → Int32) (fl_e : Int32) (fl_f : Int32) (fl_bias : Int32) (fl_codes : Int32) (fl_signBit : Int32) (fl_endless : Int32) (p1 : Int32) (post : Int32 → (Nat → Int32) → Prop) (A : Nat → Prop) (hAe : A = va_A [(a_hb, oX7 a_fl a_pl a_va a_ce a_st a_li a_hbR), (a_hbR, .inl (cI, 7, .inl hbR_r)), (a_fl, oX1 fl_e fl_f fl_bias fl_codes fl_signBit fl_endless)] sz) (ho : wp_X7_next post hbR_r fl_codes fl_signBit fl_endless p1) : Met l yX7_next w_X7_next ({ frames := 3, cells := 0, slots := 0, locals := 64 } : Room) (rw_P D [(cI, .int), (cJ, .long), (cZ, .boolean)] [.ref a_hb, .int p1] sz [(a_hb, oX7 a_fl a_pl a_va a_ce a_st a_li a_hbR), (a_hbR, .inl (cI, 7, .inl hbR_r)), (a_fl, oX1 fl_e fl_f fl_bias fl_codes fl_signBit fl_endless)]) (va_Qi (fun (r : Int32) (u : (Nat → Int32)) => post r u) (rw_B D A (fun (u : (Nat → Int32)) => [(a_hb, oX7 a_fl a_pl a_va a_ce a_st a_li a_hbR), (a_hbR, .inl (cI, 7, .inl u)), (a_fl, oX1 fl_e fl_f fl_bias fl_codes fl_signBit fl_endless)])) A) 0 0 A := by
  refine Met.ofW (cc := cX7_next) (maxL := 2) (ret := (some .int)) (by decide) rfl ?_
  intro p e s m args below meth c s₁ B hml hv
  obtain ⟨hargs, hsz, hP, hK, hN, hD0⟩ := hv
  have hx := B.exec
  have hb := B.bytes
  have hr := B.returns
  have hts : ∀ w ∈ wsL_law, w.before args s = true := fun w h => atoms_spec (ws := w_X7_next) B.pre w (List.mem_cons_of_mem _ h)
  have hown : s.vm.findClass RX7 = some m.cls := findClass_of_methodNamed B.named
  have hlocks := B.notSynchronized
  subst hsz
  have hD : va_D A [(a_hb, oX7 a_fl a_pl a_va a_ce a_st a_li a_hbR), (a_hbR, .inl (cI, 7, .inl hbR_r)), (a_fl, oX1 fl_e fl_f fl_bias fl_codes fl_signBit fl_endless)] := by rw [hAe]; exact hD0.self
  have hA : ∀ q : Nat, s.heap.size ≤ q → A q := fun q h => by rw [hAe]; exact Or.inr h
  have hS : va_S A s.heap s.heap [] := va_S.rf
  have hl := lv_entry ([.ref a_hb, .int p1]) (n := 2) (Nat.le_of_ble_eq_true rfl)
  rw [hargs, lg_entry_eq, ← hargs]
  generalize (lg_sl ([.ref a_hb, .int p1]) ++ List.replicate (2 - (lg_sl ([.ref a_hb, .int p1])).length) Slot.unset).toArray = ls at hl ⊢
  replace hl : lv_has ls 2 [(0, .ref a_hb), (1, .int p1)] := hl
  have hRf : ∀ n, n ≤ 3 → n ≤ (headSpec w_X7_next ({ frames := 3, cells := 0, slots := 0, locals := 64 } : Room)).room.frames := fun n h => h
  have hRl : ∀ n, n ≤ 64 → n ≤ (headSpec w_X7_next ({ frames := 3, cells := 0, slots := 0, locals := 64 } : Room)).room.locals := fun n h => h
  generalize (headSpec w_X7_next ({ frames := 3, cells := 0, slots := 0, locals := 64 } : Room)).room = R at hRf hRl ⊢
  generalize hQ : MQ below _ args s 0 0 _ = Q
  suffices main : ∀ (H : Heap) (locs : List Loc), va_P D vwCl [(a_hb, oX7 a_fl a_pl a_va a_ce a_st a_li a_hbR), (a_hbR, .inl (cI, 7, .inl hbR_r)), (a_fl, oX1 fl_e fl_f fl_bias fl_codes fl_signBit fl_endless)] H → va_S A s.heap H locs → W p l e R s m args below meth c H locs 0 0 Q (F0 m 0 ls []) from main _ _ hP hS
  intro H locs hP hS
  unfold wp_X7_next at ho
  refine lv_aload_n hx hb dX7_next_0 rfl (lv_at hl 0 rfl) ?_
  refine va_get (D := D) (ci := 6) (v := .ref a_fl) (C := RX7) (T := TX7) (N := 7) hx hb hts inlX7 hown hK hP 0 rfl rfl 0 (by decide) (hts _ wl_15) (fun _ h9 => h9) rfl dX7_next_1 ?_
  refine lv_iload_n hx hb dX7_next_4 rfl (lv_at hl 1 rfl) ?_
  refine ca_Vi (b := a_fl) (As := [.int p1]) (rest := []) ⟨hx, hb, hml, hown, hts⟩ (c_X1_isCode l D cI cJ cZ a_fl fl_e fl_f fl_bias fl_codes fl_signBit fl_endless p1 _ ho) (cwV 1 hts (gdV wl_173 wl_174 wl_175 wl_14 wl_176) rfl rfl rfl (by decide +kernel) ⟨hRf _ (Nat.le_of_ble_eq_true rfl), hRl _ (Nat.le_of_ble_eq_true rfl)⟩) hK hN hP [2] rfl 0 1 rfl rfl rfl rfl hl.1 rfl (Nat.le_of_ble_eq_true rfl) dX7_next_5 ⟨Nat.zero_le _, Nat.zero_le _⟩ (fun r5 ho => ?_)
  refine lv_if_ne (tgt := 17) hx hb dX7_next_8 (by decide) (fun c_8 => ?_) (fun c_8 => ?_)
  · replace ho := ho.1 c_8
    refine lv_aload_n hx hb dX7_next_17 rfl (lv_at hl 0 rfl) ?_
    refine va_get (D := D) (ci := 6) (v := .ref a_fl) (C := RX7) (T := TX7) (N := 7) hx hb hts inlX7 hown hK hP 0 rfl rfl 0 (by decide) (hts _ wl_15) (fun _ h9 => h9) rfl dX7_next_18 ?_
    refine lv_iload_n hx hb dX7_next_21 rfl (lv_at hl 1 rfl) ?_
    refine ca_Vi (b := a_fl) (As := [.int p1]) (rest := []) ⟨hx, hb, hml, hown, hts⟩ (c_X1_isPlain l D cI cJ cZ a_fl fl_e fl_f fl_bias fl_codes fl_signBit fl_endless p1 _ ho) (cwV 1 hts (gdV wl_182 wl_183 wl_184 wl_14 wl_185) rfl rfl rfl (by decide +kernel) ⟨hRf _ (Nat.le_of_ble_eq_true rfl), hRl _ (Nat.le_of_ble_eq_true rfl)⟩) hK hN hP [2] rfl 0 1 rfl rfl rfl rfl hl.1 rfl (Nat.le_of_ble_eq_true rfl) dX7_next_22 ⟨Nat.zero_le _, Nat.zero_le _⟩ (fun r22 ho => ?_)
    refine lv_if_ne (tgt := 35) hx hb dX7_next_25 (by decide) (fun c_25 => ?_) (fun c_25 => ?_)
    · replace ho := ho.1 c_25
      refine lv_aload_n hx hb dX7_next_35 rfl (lv_at hl 0 rfl) ?_
      refine va_get (D := D) (ci := 6) (v := .ref a_fl) (C := RX7) (T := TX7) (N := 7) hx hb hts inlX7 hown hK hP 0 rfl rfl 0 (by decide) (hts _ wl_15) (fun _ h9 => h9) rfl dX7_next_36 ?_
      refine lv_iload_n hx hb dX7_next_39 rfl (lv_at hl 1 rfl) ?_
      refine ca_Vi (b := a_fl) (As := [.int p1]) (rest := []) ⟨hx, hb, hml, hown, hts⟩ (c_X1_codeAbove l D cI cJ cZ a_fl fl_e fl_f fl_bias fl_codes fl_signBit fl_endless p1 _ ho) (cwV 1 hts (gdV wl_286 wl_287 wl_288 wl_14 wl_289) rfl rfl rfl (by decide +kernel) ⟨hRf _ (Nat.le_of_ble_eq_true rfl), hRl _ (Nat.le_of_ble_eq_true rfl)⟩) hK hN hP [2] rfl 0 1 rfl rfl rfl rfl hl.1 rfl (Nat.le_of_ble_eq_true rfl) dX7_next_40 ⟨Nat.zero_le _, Nat.zero_le _⟩ (fun r40 ho => ?_)
      subst hQ; exact W.iret (v := r40) hx hb hr (fun t ht hW => ⟨⟨r40, hbR_r, rfl, ho, by rw [ht]; exact hP, hD⟩, hS.F ht⟩) (fun q hq => hS.2.2 q hq) dX7_next_43
    · replace ho := ho.2 c_25
      refine lv_aload_n hx hb dX7_next_28 rfl (lv_at hl 0 rfl) ?_
      refine lv_bipush (v := (-3)) hx hb dX7_next_29 (by decide) ?_
      refine ca_Wi (b := a_hb) (As := [.int (-3 : Int32)]) (rest := []) (wr := [(a_fl, oX1 fl_e fl_f fl_bias fl_codes fl_signBit fl_endless)]) (wo := fun (u : (Nat → Int32)) => [(a_hb, oX7 a_fl a_pl a_va a_ce a_st a_li a_hbR), (a_hbR, .inl (cI, 7, .inl u))]) (wn := fun (u : (Nat → Int32)) => [(a_hb, oX7 a_fl a_pl a_va a_ce a_st a_li a_hbR), (a_hbR, .inl (cI, 7, .inl u)), (a_fl, oX1 fl_e fl_f fl_bias fl_codes fl_signBit fl_endless)]) ⟨hx, hb, hml, hown, hts⟩ (c_X7_refuse l D cI cJ cZ a_hb a_hbR a_fl a_pl a_va a_ce a_st a_li H.size hbR_r (-3 : Int32) _ _ rfl ho) (cwV 1 hts (gdV wl_128 wl_129 wl_130 wl_2 wl_131) rfl rfl rfl (by decide +kernel) ⟨hRf _ (Nat.le_of_ble_eq_true rfl), hRl _ (Nat.le_of_ble_eq_true rfl)⟩) hK hN hP hD hS hA [0, 1] [2] [1, 2, 0] rfl rfl (by decide) (by decide) (by decide) (by decide) (fun _ => rfl) 0 6 rfl rfl rfl rfl hl.1 rfl (Nat.le_of_ble_eq_true rfl) dX7_next_31 ⟨Nat.zero_le _, Nat.zero_le _⟩ (fun r31 u31 H locs ho hP hD hS => ?_)
      try dsimp only at ho
      replace hP : va_P D vwCl [(a_hb, oX7 a_fl a_pl a_va a_ce a_st a_li a_hbR), (a_hbR, .inl (cI, 7, .inl u31)), (a_fl, oX1 fl_e fl_f fl_bias fl_codes fl_signBit fl_endless)] H := hP
      replace hD : va_D A [(a_hb, oX7 a_fl a_pl a_va a_ce a_st a_li a_hbR), (a_hbR, .inl (cI, 7, .inl u31)), (a_fl, oX1 fl_e fl_f fl_bias fl_codes fl_signBit fl_endless)] := hD
      subst hQ; exact W.iret (v := r31) hx hb hr (fun t ht hW => ⟨⟨r31, u31, rfl, ho, by rw [ht]; exact hP, hD⟩, hS.F ht⟩) (fun q hq => hS.2.2 q hq) dX7_next_34
  · replace ho := ho.2 c_8
    refine lv_aload_n hx hb dX7_next_11 rfl (lv_at hl 0 rfl) ?_
    refine lv_iconst (v := (-1)) hx hb dX7_next_12 (by decide) ?_
    refine ca_Wi (b := a_hb) (As := [.int (-1 : Int32)]) (rest := []) (wr := [(a_fl, oX1 fl_e fl_f fl_bias fl_codes fl_signBit fl_endless)]) (wo := fun (u : (Nat → Int32)) => [(a_hb, oX7 a_fl a_pl a_va a_ce a_st a_li a_hbR), (a_hbR, .inl (cI, 7, .inl u))]) (wn := fun (u : (Nat → Int32)) => [(a_hb, oX7 a_fl a_pl a_va a_ce a_st a_li a_hbR), (a_hbR, .inl (cI, 7, .inl u)), (a_fl, oX1 fl_e fl_f fl_bias fl_codes fl_signBit fl_endless)]) ⟨hx, hb, hml, hown, hts⟩ (c_X7_refuse l D cI cJ cZ a_hb a_hbR a_fl a_pl a_va a_ce a_st a_li H.size hbR_r (-1 : Int32) _ _ rfl ho) (cwV 1 hts (gdV wl_128 wl_129 wl_130 wl_2 wl_131) rfl rfl rfl (by decide +kernel) ⟨hRf _ (Nat.le_of_ble_eq_true rfl), hRl _ (Nat.le_of_ble_eq_true rfl)⟩) hK hN hP hD hS hA [0, 1] [2] [1, 2, 0] rfl rfl (by decide) (by decide) (by decide) (by decide) (fun _ => rfl) 0 6 rfl rfl rfl rfl hl.1 rfl (Nat.le_of_ble_eq_true rfl) dX7_next_13 ⟨Nat.zero_le _, Nat.zero_le _⟩ (fun r13 u13 H locs ho hP hD hS => ?_)
    try dsimp only at ho
    replace hP : va_P D vwCl [(a_hb, oX7 a_fl a_pl a_va a_ce a_st a_li a_hbR), (a_hbR, .inl (cI, 7, .inl u13)), (a_fl, oX1 fl_e fl_f fl_bias fl_codes fl_signBit fl_endless)] H := hP
    replace hD : va_D A [(a_hb, oX7 a_fl a_pl a_va a_ce a_st a_li a_hbR), (a_hbR, .inl (cI, 7, .inl u13)), (a_fl, oX1 fl_e fl_f fl_bias fl_codes fl_signBit fl_endless)] := hD
    subst hQ; exact W.iret (v := r13) hx hb hr (fun t ht hW => ⟨⟨r13, u13, rfl, ho, by rw [ht]; exact hP, hD⟩, hS.F ht⟩) (fun q hq => hS.2.2 q hq) dX7_next_16

def w_X7_between : List Cond := .code yX7_between cX7_between 4 (some .int) :: wsL_law
set_option maxHeartbeats 4000000 in
set_option maxRecDepth 100000 in
theorem c_X7_between (l : Launch) (D : va_G) (cI cJ cZ : ClassId) (a_hb : Nat) (a_hbR : Nat) (a_fl : Nat) (a_pl : Nat) (a_va : Nat) (a_ce : Nat) (a_st : Nat) (a_li : Nat) (sz : Nat) (hbR_r : Nat → Int32) (fl_e : Int32) (fl_f : Int32) (fl_bias : Int32) (fl_codes : Int32) (fl_signBit : Int32) (fl_endless : Int32) (p1 : Int32) (p2 : Int32) (post : Int32 → (Nat → Int32) → Prop) (A : Nat → Prop) (hAe : A = va_A [(a_hb, oX7 a_fl a_pl a_va a_ce a_st a_li a_hbR), (a_hbR, .inl (cI, 7, .inl hbR_r)), (a_fl, oX1 fl_e fl_f fl_bias fl_codes fl_signBit fl_endless)] sz) (ho : wp_X7_between post hbR_r fl_codes fl_signBit fl_endless p1 p2) : Met l yX7_between w_X7_between ({ frames := 3, cells := 0, slots := 0, locals := 64 } : Room) (rw_P D [(cI, .int), (cJ, .long), (cZ, .boolean)] [.ref a_hb, .int p1, .int p2] sz [(a_hb, oX7 a_fl a_pl a_va a_ce a_st a_li a_hbR), (a_hbR, .inl (cI, 7, .inl hbR_r)), (a_fl, oX1 fl_e fl_f fl_bias fl_codes fl_signBit fl_endless)]) (va_Qi (fun (r : Int32) (u : (Nat → Int32)) => post r u) (rw_B D A (fun (u : (Nat → Int32)) => [(a_hb, oX7 a_fl a_pl a_va a_ce a_st a_li a_hbR), (a_hbR, .inl (cI, 7, .inl u)), (a_fl, oX1 fl_e fl_f fl_bias fl_codes fl_signBit fl_endless)])) A) 0 0 A := by
  refine Met.ofW (cc := cX7_between) (maxL := 4) (ret := (some .int)) (by decide) rfl ?_
  intro p e s m args below meth c s₁ B hml hv
  obtain ⟨hargs, hsz, hP, hK, hN, hD0⟩ := hv
  have hx := B.exec
  have hb := B.bytes
  have hr := B.returns
  have hts : ∀ w ∈ wsL_law, w.before args s = true := fun w h => atoms_spec (ws := w_X7_between) B.pre w (List.mem_cons_of_mem _ h)
  have hown : s.vm.findClass RX7 = some m.cls := findClass_of_methodNamed B.named
  have hlocks := B.notSynchronized
  subst hsz
  have hD : va_D A [(a_hb, oX7 a_fl a_pl a_va a_ce a_st a_li a_hbR), (a_hbR, .inl (cI, 7, .inl hbR_r)), (a_fl, oX1 fl_e fl_f fl_bias fl_codes fl_signBit fl_endless)] := by rw [hAe]; exact hD0.self
  have hA : ∀ q : Nat, s.heap.size ≤ q → A q := fun q h => by rw [hAe]; exact Or.inr h
  have hS : va_S A s.heap s.heap [] := va_S.rf
  have hl := lv_entry ([.ref a_hb, .int p1, .int p2]) (n := 4) (Nat.le_of_ble_eq_true rfl)
  rw [hargs, lg_entry_eq, ← hargs]
  generalize (lg_sl ([.ref a_hb, .int p1, .int p2]) ++ List.replicate (4 - (lg_sl ([.ref a_hb, .int p1, .int p2])).length) Slot.unset).toArray = ls at hl ⊢
  replace hl : lv_has ls 4 [(0, .ref a_hb), (1, .int p1), (2, .int p2)] := hl
  have hRf : ∀ n, n ≤ 3 → n ≤ (headSpec w_X7_between ({ frames := 3, cells := 0, slots := 0, locals := 64 } : Room)).room.frames := fun n h => h
  have hRl : ∀ n, n ≤ 64 → n ≤ (headSpec w_X7_between ({ frames := 3, cells := 0, slots := 0, locals := 64 } : Room)).room.locals := fun n h => h
  generalize (headSpec w_X7_between ({ frames := 3, cells := 0, slots := 0, locals := 64 } : Room)).room = R at hRf hRl ⊢
  generalize hQ : MQ below _ args s 0 0 _ = Q
  have C_50 : ∀ (hbR_r : Nat → Int32) (H : Heap) (locs : List Loc) (ls : Array Slot), wp_X7_between_50 post  hbR_r → va_P D vwCl [(a_hb, oX7 a_fl a_pl a_va a_ce a_st a_li a_hbR), (a_hbR, .inl (cI, 7, .inl hbR_r)), (a_fl, oX1 fl_e fl_f fl_bias fl_codes fl_signBit fl_endless)] H → va_D A [(a_hb, oX7 a_fl a_pl a_va a_ce a_st a_li a_hbR), (a_hbR, .inl (cI, 7, .inl hbR_r)), (a_fl, oX1 fl_e fl_f fl_bias fl_codes fl_signBit fl_endless)] → va_S A s.heap H locs → lv_has ls 4 [(0, .ref a_hb)] → W p l e R s m args below meth c H locs 0 0 Q (F0 m 50 ls []) := by
    intro hbR_r H locs ls ho hP hD hS hl
    unfold wp_X7_between_50 at ho
    refine lv_aload_n hx hb dX7_between_50 rfl (lv_at hl 0 rfl) ?_
    refine lv_bipush (v := (-3)) hx hb dX7_between_51 (by decide) ?_
    refine ca_Wi (b := a_hb) (As := [.int (-3 : Int32)]) (rest := []) (wr := [(a_fl, oX1 fl_e fl_f fl_bias fl_codes fl_signBit fl_endless)]) (wo := fun (u : (Nat → Int32)) => [(a_hb, oX7 a_fl a_pl a_va a_ce a_st a_li a_hbR), (a_hbR, .inl (cI, 7, .inl u))]) (wn := fun (u : (Nat → Int32)) => [(a_hb, oX7 a_fl a_pl a_va a_ce a_st a_li a_hbR), (a_hbR, .inl (cI, 7, .inl u)), (a_fl, oX1 fl_e fl_f fl_bias fl_codes fl_signBit fl_endless)]) ⟨hx, hb, hml, hown, hts⟩ (c_X7_refuse l D cI cJ cZ a_hb a_hbR a_fl a_pl a_va a_ce a_st a_li H.size hbR_r (-3 : Int32) _ _ rfl ho) (cwV 1 hts (gdV wl_128 wl_129 wl_130 wl_2 wl_131) rfl rfl rfl (by decide +kernel) ⟨hRf _ (Nat.le_of_ble_eq_true rfl), hRl _ (Nat.le_of_ble_eq_true rfl)⟩) hK hN hP hD hS hA [0, 1] [2] [1, 2, 0] rfl rfl (by decide) (by decide) (by decide) (by decide) (fun _ => rfl) 0 6 rfl rfl rfl rfl hl.1 rfl (Nat.le_of_ble_eq_true rfl) dX7_between_53 ⟨Nat.zero_le _, Nat.zero_le _⟩ (fun r53 u53 H locs ho hP hD hS => ?_)
    try dsimp only at ho
    replace hP : va_P D vwCl [(a_hb, oX7 a_fl a_pl a_va a_ce a_st a_li a_hbR), (a_hbR, .inl (cI, 7, .inl u53)), (a_fl, oX1 fl_e fl_f fl_bias fl_codes fl_signBit fl_endless)] H := hP
    replace hD : va_D A [(a_hb, oX7 a_fl a_pl a_va a_ce a_st a_li a_hbR), (a_hbR, .inl (cI, 7, .inl u53)), (a_fl, oX1 fl_e fl_f fl_bias fl_codes fl_signBit fl_endless)] := hD
    subst hQ; exact W.iret (v := r53) hx hb hr (fun t ht hW => ⟨⟨r53, u53, rfl, ho, by rw [ht]; exact hP, hD⟩, hS.F ht⟩) (fun q hq => hS.2.2 q hq) dX7_between_56
  have C_22 : ∀ (hbR_r : Nat → Int32) (H : Heap) (locs : List Loc) (ls : Array Slot), wp_X7_between_22 post  hbR_r → va_P D vwCl [(a_hb, oX7 a_fl a_pl a_va a_ce a_st a_li a_hbR), (a_hbR, .inl (cI, 7, .inl hbR_r)), (a_fl, oX1 fl_e fl_f fl_bias fl_codes fl_signBit fl_endless)] H → va_D A [(a_hb, oX7 a_fl a_pl a_va a_ce a_st a_li a_hbR), (a_hbR, .inl (cI, 7, .inl hbR_r)), (a_fl, oX1 fl_e fl_f fl_bias fl_codes fl_signBit fl_endless)] → va_S A s.heap H locs → lv_has ls 4 [(0, .ref a_hb)] → W p l e R s m args below meth c H locs 0 0 Q (F0 m 22 ls []) := by
    intro hbR_r H locs ls ho hP hD hS hl
    unfold wp_X7_between_22 at ho
    refine lv_aload_n hx hb dX7_between_22 rfl (lv_at hl 0 rfl) ?_
    refine lv_iconst (v := (-1)) hx hb dX7_between_23 (by decide) ?_
    refine ca_Wi (b := a_hb) (As := [.int (-1 : Int32)]) (rest := []) (wr := [(a_fl, oX1 fl_e fl_f fl_bias fl_codes fl_signBit fl_endless)]) (wo := fun (u : (Nat → Int32)) => [(a_hb, oX7 a_fl a_pl a_va a_ce a_st a_li a_hbR), (a_hbR, .inl (cI, 7, .inl u))]) (wn := fun (u : (Nat → Int32)) => [(a_hb, oX7 a_fl a_pl a_va a_ce a_st a_li a_hbR), (a_hbR, .inl (cI, 7, .inl u)), (a_fl, oX1 fl_e fl_f fl_bias fl_codes fl_signBit fl_endless)]) ⟨hx, hb, hml, hown, hts⟩ (c_X7_refuse l D cI cJ cZ a_hb a_hbR a_fl a_pl a_va a_ce a_st a_li H.size hbR_r (-1 : Int32) _ _ rfl ho) (cwV 1 hts (gdV wl_128 wl_129 wl_130 wl_2 wl_131) rfl rfl rfl (by decide +kernel) ⟨hRf _ (Nat.le_of_ble_eq_true rfl), hRl _ (Nat.le_of_ble_eq_true rfl)⟩) hK hN hP hD hS hA [0, 1] [2] [1, 2, 0] rfl rfl (by decide) (by decide) (by decide) (by decide) (fun _ => rfl) 0 6 rfl rfl rfl rfl hl.1 rfl (Nat.le_of_ble_eq_true rfl) dX7_between_24 ⟨Nat.zero_le _, Nat.zero_le _⟩ (fun r24 u24 H locs ho hP hD hS => ?_)
    try dsimp only at ho
    replace hP : va_P D vwCl [(a_hb, oX7 a_fl a_pl a_va a_ce a_st a_li a_hbR), (a_hbR, .inl (cI, 7, .inl u24)), (a_fl, oX1 fl_e fl_f fl_bias fl_codes fl_signBit fl_endless)] H := hP
    replace hD : va_D A [(a_hb, oX7 a_fl a_pl a_va a_ce a_st a_li a_hbR), (a_hbR, .inl (cI, 7, .inl u24)), (a_fl, oX1 fl_e fl_f fl_bias fl_codes fl_signBit fl_endless)] := hD
    subst hQ; exact W.iret (v := r24) hx hb hr (fun t ht hW => ⟨⟨r24, u24, rfl, ho, by rw [ht]; exact hP, hD⟩, hS.F ht⟩) (fun q hq => hS.2.2 q hq) dX7_between_27
  suffices main : ∀ (H : Heap) (locs : List Loc), va_P D vwCl [(a_hb, oX7 a_fl a_pl a_va a_ce a_st a_li a_hbR), (a_hbR, .inl (cI, 7, .inl hbR_r)), (a_fl, oX1 fl_e fl_f fl_bias fl_codes fl_signBit fl_endless)] H → va_S A s.heap H locs → W p l e R s m args below meth c H locs 0 0 Q (F0 m 0 ls []) from main _ _ hP hS
  intro H locs hP hS
  unfold wp_X7_between at ho
  refine lv_aload_n hx hb dX7_between_0 rfl (lv_at hl 0 rfl) ?_
  refine va_get (D := D) (ci := 6) (v := .ref a_fl) (C := RX7) (T := TX7) (N := 7) hx hb hts inlX7 hown hK hP 0 rfl rfl 0 (by decide) (hts _ wl_15) (fun _ h9 => h9) rfl dX7_between_1 ?_
  refine lv_iload_n hx hb dX7_between_4 rfl (lv_at hl 1 rfl) ?_
  refine ca_Vi (b := a_fl) (As := [.int p1]) (rest := []) ⟨hx, hb, hml, hown, hts⟩ (c_X1_isCode l D cI cJ cZ a_fl fl_e fl_f fl_bias fl_codes fl_signBit fl_endless p1 _ ho) (cwV 1 hts (gdV wl_173 wl_174 wl_175 wl_14 wl_176) rfl rfl rfl (by decide +kernel) ⟨hRf _ (Nat.le_of_ble_eq_true rfl), hRl _ (Nat.le_of_ble_eq_true rfl)⟩) hK hN hP [2] rfl 0 1 rfl rfl rfl rfl hl.1 rfl (Nat.le_of_ble_eq_true rfl) dX7_between_5 ⟨Nat.zero_le _, Nat.zero_le _⟩ (fun r5 ho => ?_)
  refine lv_if_eq (tgt := 22) hx hb dX7_between_8 (by decide) (fun c_8 => ?_) (fun c_8 => ?_)
  · replace ho := ho.1 c_8
    exact C_22 hbR_r H locs ls ho hP hD hS (lv_sub hl [0] rfl)
  · replace ho := ho.2 c_8
    refine lv_aload_n hx hb dX7_between_11 rfl (lv_at hl 0 rfl) ?_
    refine va_get (D := D) (ci := 6) (v := .ref a_fl) (C := RX7) (T := TX7) (N := 7) hx hb hts inlX7 hown hK hP 0 rfl rfl 0 (by decide) (hts _ wl_15) (fun _ h9 => h9) rfl dX7_between_12 ?_
    refine lv_iload_n hx hb dX7_between_15 rfl (lv_at hl 2 rfl) ?_
    refine ca_Vi (b := a_fl) (As := [.int p2]) (rest := []) ⟨hx, hb, hml, hown, hts⟩ (c_X1_isCode l D cI cJ cZ a_fl fl_e fl_f fl_bias fl_codes fl_signBit fl_endless p2 _ ho) (cwV 1 hts (gdV wl_173 wl_174 wl_175 wl_14 wl_176) rfl rfl rfl (by decide +kernel) ⟨hRf _ (Nat.le_of_ble_eq_true rfl), hRl _ (Nat.le_of_ble_eq_true rfl)⟩) hK hN hP [2] rfl 0 1 rfl rfl rfl rfl hl.1 rfl (Nat.le_of_ble_eq_true rfl) dX7_between_16 ⟨Nat.zero_le _, Nat.zero_le _⟩ (fun r16 ho => ?_)
    refine lv_if_ne (tgt := 28) hx hb dX7_between_19 (by decide) (fun c_19 => ?_) (fun c_19 => ?_)
    · replace ho := ho.1 c_19
      refine lv_aload_n hx hb dX7_between_28 rfl (lv_at hl 0 rfl) ?_
      refine va_get (D := D) (ci := 6) (v := .ref a_fl) (C := RX7) (T := TX7) (N := 7) hx hb hts inlX7 hown hK hP 0 rfl rfl 0 (by decide) (hts _ wl_15) (fun _ h9 => h9) rfl dX7_between_29 ?_
      refine lv_iload_n hx hb dX7_between_32 rfl (lv_at hl 1 rfl) ?_
      refine ca_Vi (b := a_fl) (As := [.int p1]) (rest := []) ⟨hx, hb, hml, hown, hts⟩ (c_X1_isPlain l D cI cJ cZ a_fl fl_e fl_f fl_bias fl_codes fl_signBit fl_endless p1 _ ho) (cwV 1 hts (gdV wl_182 wl_183 wl_184 wl_14 wl_185) rfl rfl rfl (by decide +kernel) ⟨hRf _ (Nat.le_of_ble_eq_true rfl), hRl _ (Nat.le_of_ble_eq_true rfl)⟩) hK hN hP [2] rfl 0 1 rfl rfl rfl rfl hl.1 rfl (Nat.le_of_ble_eq_true rfl) dX7_between_33 ⟨Nat.zero_le _, Nat.zero_le _⟩ (fun r33 ho => ?_)
      refine lv_if_eq (tgt := 50) hx hb dX7_between_36 (by decide) (fun c_36 => ?_) (fun c_36 => ?_)
      · replace ho := ho.1 c_36
        exact C_50 hbR_r H locs ls ho hP hD hS (lv_sub hl [0] rfl)
      · replace ho := ho.2 c_36
        refine lv_aload_n hx hb dX7_between_39 rfl (lv_at hl 0 rfl) ?_
        refine va_get (D := D) (ci := 6) (v := .ref a_fl) (C := RX7) (T := TX7) (N := 7) hx hb hts inlX7 hown hK hP 0 rfl rfl 0 (by decide) (hts _ wl_15) (fun _ h9 => h9) rfl dX7_between_40 ?_
        refine lv_iload_n hx hb dX7_between_43 rfl (lv_at hl 2 rfl) ?_
        refine ca_Vi (b := a_fl) (As := [.int p2]) (rest := []) ⟨hx, hb, hml, hown, hts⟩ (c_X1_isPlain l D cI cJ cZ a_fl fl_e fl_f fl_bias fl_codes fl_signBit fl_endless p2 _ ho) (cwV 1 hts (gdV wl_182 wl_183 wl_184 wl_14 wl_185) rfl rfl rfl (by decide +kernel) ⟨hRf _ (Nat.le_of_ble_eq_true rfl), hRl _ (Nat.le_of_ble_eq_true rfl)⟩) hK hN hP [2] rfl 0 1 rfl rfl rfl rfl hl.1 rfl (Nat.le_of_ble_eq_true rfl) dX7_between_44 ⟨Nat.zero_le _, Nat.zero_le _⟩ (fun r44 ho => ?_)
        refine lv_if_ne (tgt := 57) hx hb dX7_between_47 (by decide) (fun c_47 => ?_) (fun c_47 => ?_)
        · replace ho := ho.1 c_47
          refine lv_aload_n hx hb dX7_between_57 rfl (lv_at hl 0 rfl) ?_
          refine va_get (D := D) (ci := 6) (v := .ref a_fl) (C := RX7) (T := TX7) (N := 7) hx hb hts inlX7 hown hK hP 0 rfl rfl 0 (by decide) (hts _ wl_15) (fun _ h9 => h9) rfl dX7_between_58 ?_
          refine lv_iload_n hx hb dX7_between_61 rfl (lv_at hl 1 rfl) ?_
          refine ca_Vi (b := a_fl) (As := [.int p1]) (rest := []) ⟨hx, hb, hml, hown, hts⟩ (c_X1_stepsFromZero l D cI cJ cZ a_fl fl_e fl_f fl_bias fl_codes fl_signBit fl_endless p1 _ ho) (cwV 1 hts (gdV wl_307 wl_291 wl_292 wl_14 wl_293) rfl rfl rfl (by decide +kernel) ⟨hRf _ (Nat.le_of_ble_eq_true rfl), hRl _ (Nat.le_of_ble_eq_true rfl)⟩) hK hN hP [2] rfl 0 1 rfl rfl rfl rfl hl.1 rfl (Nat.le_of_ble_eq_true rfl) dX7_between_62 ⟨Nat.zero_le _, Nat.zero_le _⟩ (fun r62 ho => ?_)
          refine lv_aload_n hx hb dX7_between_65 rfl (lv_at hl 0 rfl) ?_
          refine va_get (D := D) (ci := 6) (v := .ref a_fl) (C := RX7) (T := TX7) (N := 7) hx hb hts inlX7 hown hK hP 0 rfl rfl 0 (by decide) (hts _ wl_15) (fun _ h9 => h9) rfl dX7_between_66 ?_
          refine lv_iload_n hx hb dX7_between_69 rfl (lv_at hl 2 rfl) ?_
          refine ca_Vi (b := a_fl) (As := [.int p2]) (rest := [.int r62]) ⟨hx, hb, hml, hown, hts⟩ (c_X1_stepsFromZero l D cI cJ cZ a_fl fl_e fl_f fl_bias fl_codes fl_signBit fl_endless p2 _ ho) (cwV 1 hts (gdV wl_307 wl_291 wl_292 wl_14 wl_293) rfl rfl rfl (by decide +kernel) ⟨hRf _ (Nat.le_of_ble_eq_true rfl), hRl _ (Nat.le_of_ble_eq_true rfl)⟩) hK hN hP [2] rfl 0 1 rfl rfl rfl rfl hl.1 rfl (Nat.le_of_ble_eq_true rfl) dX7_between_70 ⟨Nat.zero_le _, Nat.zero_le _⟩ (fun r70 ho => ?_)
          refine lv_isub hx hb dX7_between_73 ?_
          refine va_mabs hx hb (hml.trans hl.1.symm) hown (hts _ wl_303) (hts _ wl_304) (hts _ wl_244) (hts _ wl_305) (hRf 1 (Nat.le_of_ble_eq_true rfl)) (hRl _ (Nat.le_of_ble_eq_true rfl)) (Nat.zero_le _) (Nat.zero_le _) dX7_between_74 ?_
          refine lv_istore_n (lv' := [(3, .int (if 0 ≤ (r62 - r70) then (r62 - r70) else 0 - (r62 - r70))), (0, .ref a_hb), (1, .int p1), (2, .int p2)]) hx hb dX7_between_77 rfl hl (by decide) rfl (fun ls hl => ?_)
          refine lv_iload_n hx hb dX7_between_78 rfl (lv_at hl 0 rfl) ?_
          refine lv_iconst (v := 1) hx hb dX7_between_79 (by decide) ?_
          refine lv_isub hx hb dX7_between_80 ?_
          refine lv_iconst (v := 0) hx hb dX7_between_81 (by decide) ?_
          refine va_mmax hx hb (hml.trans hl.1.symm) hown (hts _ wl_306) (hts _ wl_243) (hts _ wl_244) (hts _ wl_245) (hRf 1 (Nat.le_of_ble_eq_true rfl)) (hRl _ (Nat.le_of_ble_eq_true rfl)) (Nat.zero_le _) (Nat.zero_le _) dX7_between_82 ?_
          subst hQ; exact W.iret (v := (if ((if 0 ≤ (r62 - r70) then (r62 - r70) else 0 - (r62 - r70)) - (1 : Int32)) < (0 : Int32) then (0 : Int32) else ((if 0 ≤ (r62 - r70) then (r62 - r70) else 0 - (r62 - r70)) - (1 : Int32)))) hx hb hr (fun t ht hW => ⟨⟨(if ((if 0 ≤ (r62 - r70) then (r62 - r70) else 0 - (r62 - r70)) - (1 : Int32)) < (0 : Int32) then (0 : Int32) else ((if 0 ≤ (r62 - r70) then (r62 - r70) else 0 - (r62 - r70)) - (1 : Int32))), hbR_r, rfl, ho, by rw [ht]; exact hP, hD⟩, hS.F ht⟩) (fun q hq => hS.2.2 q hq) dX7_between_85
        · replace ho := ho.2 c_47
          exact C_50 hbR_r H locs ls ho hP hD hS (lv_sub hl [0] rfl)
    · replace ho := ho.2 c_19
      exact C_22 hbR_r H locs ls ho hP hD hS (lv_sub hl [0] rfl)

def w_X7_isRounding : List Cond := .code yX7_isRounding cX7_isRounding 1 (some .boolean) :: wsL_law
set_option maxHeartbeats 4000000 in
set_option maxRecDepth 100000 in
theorem c_X7_isRounding (l : Launch) (D : va_G) (cI cJ cZ : ClassId)   (p1 : Int32) (post : Int32 → Prop) (ho : wp_X7_isRounding post p1) : Met l yX7_isRounding w_X7_isRounding ({ frames := 0, cells := 0, slots := 0, locals := 0 } : Room) (ro_P D [(cI, .int), (cJ, .long), (cZ, .boolean)] [.int p1] []) (vp_Si post) 0 0 (fun _ => False) := by
  refine Met.ofW (cc := cX7_isRounding) (maxL := 1) (ret := (some .boolean)) (by decide) rfl ?_
  intro p e s m args below meth c s₁ B hml hv
  obtain ⟨hargs, hP, hK, hN⟩ := hv
  have hx := B.exec
  have hb := B.bytes
  have hr := B.returns
  have hts : ∀ w ∈ wsL_law, w.before args s = true := fun w h => atoms_spec (ws := w_X7_isRounding) B.pre w (List.mem_cons_of_mem _ h)
  have hown : s.vm.findClass RX7 = some m.cls := findClass_of_methodNamed B.named
  have hlocks := B.notSynchronized
  have hl := lv_entry ([.int p1]) (n := 1) (Nat.le_of_ble_eq_true rfl)
  rw [hargs, lg_entry_eq, ← hargs]
  generalize (lg_sl ([.int p1]) ++ List.replicate (1 - (lg_sl ([.int p1])).length) Slot.unset).toArray = ls at hl ⊢
  replace hl : lv_has ls 1 [(0, .int p1)] := hl
  have hRf : ∀ n, n ≤ 0 → n ≤ (headSpec w_X7_isRounding ({ frames := 0, cells := 0, slots := 0, locals := 0 } : Room)).room.frames := fun n h => h
  have hRl : ∀ n, n ≤ 0 → n ≤ (headSpec w_X7_isRounding ({ frames := 0, cells := 0, slots := 0, locals := 0 } : Room)).room.locals := fun n h => h
  generalize (headSpec w_X7_isRounding ({ frames := 0, cells := 0, slots := 0, locals := 0 } : Room)).room = R at hRf hRl ⊢
  generalize hQ : MQ below _ args s 0 0 _ = Q
  unfold wp_X7_isRounding at ho
  refine lv_iload_n hx hb dX7_isRounding_0 rfl (lv_at hl 0 rfl) ?_
  refine lv_if_lt (tgt := 13) hx hb dX7_isRounding_1 (by decide) (fun c_1 => ?_) (fun c_1 => ?_)
  · replace ho := ho.1 c_1
    refine lv_iconst (v := 0) hx hb dX7_isRounding_13 (by decide) ?_
    subst hQ; exact W.zret (v := (0 : Int32)) hx hb hr rfl (fun t ht _ => ⟨(0 : Int32), rfl, ho, ht⟩) (fun _ h => by cases h) dX7_isRounding_14
  · replace ho := ho.2 c_1
    refine lv_iload_n hx hb dX7_isRounding_4 rfl (lv_at hl 0 rfl) ?_
    refine lv_iconst (v := 5) hx hb dX7_isRounding_5 (by decide) ?_
    refine lv_icmp_ge (tgt := 13) hx hb dX7_isRounding_6 (by decide) (fun c_6 => ?_) (fun c_6 => ?_)
    · replace ho := ho.1 c_6
      refine lv_iconst (v := 0) hx hb dX7_isRounding_13 (by decide) ?_
      subst hQ; exact W.zret (v := (0 : Int32)) hx hb hr rfl (fun t ht _ => ⟨(0 : Int32), rfl, ho, ht⟩) (fun _ h => by cases h) dX7_isRounding_14
    · replace ho := ho.2 c_6
      refine lv_iconst (v := 1) hx hb dX7_isRounding_9 (by decide) ?_
      refine lv_goto (tgt := 14) hx hb dX7_isRounding_10 (by decide) ?_
      subst hQ; exact W.zret (v := (1 : Int32)) hx hb hr rfl (fun t ht _ => ⟨(1 : Int32), rfl, ho, ht⟩) (fun _ h => by cases h) dX7_isRounding_14
