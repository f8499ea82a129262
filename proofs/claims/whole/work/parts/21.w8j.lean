def w_X8_span : List Cond := .code yX8_span cX8_span 5 (some .int) :: wsL_law
set_option maxHeartbeats 4000000 in
set_option maxRecDepth 100000 in
theorem c_X8_span (l : Launch) (D : va_G) (cI cJ cZ : ClassId) (a_mo : Nat) (a_moR : Nat) (a_moK : Nat) (a_moH : Nat) (a_moS : Nat) (a_moF : Nat) (a_moT : Nat) (a_moP : Nat) (a_moQ : Nat) (a_moA : Nat) (a_moB : Nat) (a_moD : Nat) (sz : Nat) (mo_e : Int32) (mo_f : Int32) (mo_codes : Int32) (mo_most : Int32) (mo_minus : Int32) (mo_low : Int32) (mo_function : Int32) (mo_atX : Int32) (mo_atM : Int64) (mo_spanFunction : Int32) (mo_spanRounding : Int32) (mo_spanMany : Int32) (mo_parts : Int32) (mo_shift : Int32) (moR_r : Nat → Int32) (moF_r : Nat → Int32) (moT_r : Nat → Int32) (p1 : Int32) (p2 : Int32) (p3 : Int32) (p4 : Int32) (post : Int32 → Int32 → Int32 → Int64 → Int32 → Int32 → Int32 → (Nat → Int32) → (Nat → Int32) → (Nat → Int32) → Prop) (A : Nat → Prop) (hAe : A = va_A [(a_mo, oX8 a_moR mo_e mo_f mo_codes mo_most mo_minus mo_low mo_function mo_atX mo_atM a_moK a_moH a_moS mo_spanFunction mo_spanRounding mo_spanMany a_moF a_moT mo_parts mo_shift a_moP a_moQ a_moA a_moB a_moD), (a_moR, .inl (cI, 7, .inl moR_r)), (a_moF, .inl (cI, 16384, .inl moF_r)), (a_moT, .inl (cI, 16384, .inl moT_r))] sz) (ho : wp_X8_span post mo_f mo_most mo_minus mo_low mo_function mo_atX mo_atM mo_spanFunction mo_spanRounding mo_spanMany moR_r moF_r moT_r p1 p2 p3 p4) : Met l yX8_span w_X8_span ({ frames := 7, cells := 0, slots := 0, locals := 176 } : Room) (rw_P D [(cI, .int), (cJ, .long), (cZ, .boolean)] [.ref a_mo, .int p1, .int p2, .int p3, .int p4] sz [(a_mo, oX8 a_moR mo_e mo_f mo_codes mo_most mo_minus mo_low mo_function mo_atX mo_atM a_moK a_moH a_moS mo_spanFunction mo_spanRounding mo_spanMany a_moF a_moT mo_parts mo_shift a_moP a_moQ a_moA a_moB a_moD), (a_moR, .inl (cI, 7, .inl moR_r)), (a_moF, .inl (cI, 16384, .inl moF_r)), (a_moT, .inl (cI, 16384, .inl moT_r))]) (va_Qi (fun (r : Int32) (u : (Int32) × (Int32) × (Int64) × (Int32) × (Int32) × (Int32) × (Nat → Int32) × (Nat → Int32) × (Nat → Int32)) => post r u.1 u.2.1 u.2.2.1 u.2.2.2.1 u.2.2.2.2.1 u.2.2.2.2.2.1 u.2.2.2.2.2.2.1 u.2.2.2.2.2.2.2.1 u.2.2.2.2.2.2.2.2) (rw_B D A (fun (u : (Int32) × (Int32) × (Int64) × (Int32) × (Int32) × (Int32) × (Nat → Int32) × (Nat → Int32) × (Nat → Int32)) => [(a_mo, oX8 a_moR mo_e mo_f mo_codes mo_most mo_minus mo_low u.1 u.2.1 u.2.2.1 a_moK a_moH a_moS u.2.2.2.1 u.2.2.2.2.1 u.2.2.2.2.2.1 a_moF a_moT mo_parts mo_shift a_moP a_moQ a_moA a_moB a_moD), (a_moR, .inl (cI, 7, .inl u.2.2.2.2.2.2.1)), (a_moF, .inl (cI, 16384, .inl u.2.2.2.2.2.2.2.1)), (a_moT, .inl (cI, 16384, .inl u.2.2.2.2.2.2.2.2))])) A) 0 0 A := by
  refine Met.ofW (cc := cX8_span) (maxL := 5) (ret := (some .int)) (by decide) rfl ?_
  intro p e s m args below meth c s₁ B hml hv
  obtain ⟨hargs, hsz, hP, hK, hN, hD0⟩ := hv
  have hx := B.exec
  have hb := B.bytes
  have hr := B.returns
  have hts : ∀ w ∈ wsL_law, w.before args s = true := fun w h => atoms_spec (ws := w_X8_span) B.pre w (List.mem_cons_of_mem _ h)
  have hown : s.vm.findClass RX8 = some m.cls := findClass_of_methodNamed B.named
  have hlocks := B.notSynchronized
  subst hsz
  have hD : va_D A [(a_mo, oX8 a_moR mo_e mo_f mo_codes mo_most mo_minus mo_low mo_function mo_atX mo_atM a_moK a_moH a_moS mo_spanFunction mo_spanRounding mo_spanMany a_moF a_moT mo_parts mo_shift a_moP a_moQ a_moA a_moB a_moD), (a_moR, .inl (cI, 7, .inl moR_r)), (a_moF, .inl (cI, 16384, .inl moF_r)), (a_moT, .inl (cI, 16384, .inl moT_r))] := by rw [hAe]; exact hD0.self
  have hA : ∀ q : Nat, s.heap.size ≤ q → A q := fun q h => by rw [hAe]; exact Or.inr h
  have hS : va_S A s.heap s.heap [] := va_S.rf
  have hl := lv_entry ([.ref a_mo, .int p1, .int p2, .int p3, .int p4]) (n := 5) (Nat.le_of_ble_eq_true rfl)
  rw [hargs, lg_entry_eq, ← hargs]
  generalize (lg_sl ([.ref a_mo, .int p1, .int p2, .int p3, .int p4]) ++ List.replicate (5 - (lg_sl ([.ref a_mo, .int p1, .int p2, .int p3, .int p4])).length) Slot.unset).toArray = ls at hl ⊢
  replace hl : lv_has ls 5 [(0, .ref a_mo), (1, .int p1), (2, .int p2), (3, .int p3), (4, .int p4)] := hl
  have hRf : ∀ n, n ≤ 7 → n ≤ (headSpec w_X8_span ({ frames := 7, cells := 0, slots := 0, locals := 176 } : Room)).room.frames := fun n h => h
  have hRl : ∀ n, n ≤ 176 → n ≤ (headSpec w_X8_span ({ frames := 7, cells := 0, slots := 0, locals := 176 } : Room)).room.locals := fun n h => h
  generalize (headSpec w_X8_span ({ frames := 7, cells := 0, slots := 0, locals := 176 } : Room)).room = R at hRf hRl ⊢
  generalize hQ : MQ below _ args s 0 0 _ = Q
  have C_15 : ∀ (mo_function : Int32) (mo_atX : Int32) (mo_atM : Int64) (mo_spanFunction : Int32) (mo_spanRounding : Int32) (mo_spanMany : Int32) (moR_r : Nat → Int32) (moF_r : Nat → Int32) (moT_r : Nat → Int32) (H : Heap) (locs : List Loc) (ls : Array Slot), wp_X8_span_15 post  mo_function mo_atX mo_atM mo_spanFunction mo_spanRounding mo_spanMany moR_r moF_r moT_r → va_P D vwCl [(a_mo, oX8 a_moR mo_e mo_f mo_codes mo_most mo_minus mo_low mo_function mo_atX mo_atM a_moK a_moH a_moS mo_spanFunction mo_spanRounding mo_spanMany a_moF a_moT mo_parts mo_shift a_moP a_moQ a_moA a_moB a_moD), (a_moR, .inl (cI, 7, .inl moR_r)), (a_moF, .inl (cI, 16384, .inl moF_r)), (a_moT, .inl (cI, 16384, .inl moT_r))] H → va_D A [(a_mo, oX8 a_moR mo_e mo_f mo_codes mo_most mo_minus mo_low mo_function mo_atX mo_atM a_moK a_moH a_moS mo_spanFunction mo_spanRounding mo_spanMany a_moF a_moT mo_parts mo_shift a_moP a_moQ a_moA a_moB a_moD), (a_moR, .inl (cI, 7, .inl moR_r)), (a_moF, .inl (cI, 16384, .inl moF_r)), (a_moT, .inl (cI, 16384, .inl moT_r))] → va_S A s.heap H locs → lv_has ls 5 [(0, .ref a_mo)] → W p l e R s m args below meth c H locs 0 0 Q (F0 m 15 ls []) := by
    intro mo_function mo_atX mo_atM mo_spanFunction mo_spanRounding mo_spanMany moR_r moF_r moT_r H locs ls ho hP hD hS hl
    unfold wp_X8_span_15 at ho
    refine lv_aload_n hx hb dX8_span_15 rfl (lv_at hl 0 rfl) ?_
    refine lv_iconst (v := (-1)) hx hb dX8_span_16 (by decide) ?_
    refine ca_Wi (b := a_mo) (As := [.int (-1 : Int32)]) (rest := []) (wr := [(a_moF, .inl (cI, 16384, .inl moF_r)), (a_moT, .inl (cI, 16384, .inl moT_r))]) (wo := fun (u : (Nat → Int32)) => [(a_mo, oX8 a_moR mo_e mo_f mo_codes mo_most mo_minus mo_low mo_function mo_atX mo_atM a_moK a_moH a_moS mo_spanFunction mo_spanRounding mo_spanMany a_moF a_moT mo_parts mo_shift a_moP a_moQ a_moA a_moB a_moD), (a_moR, .inl (cI, 7, .inl u))]) (wn := fun (u : (Nat → Int32)) => [(a_mo, oX8 a_moR mo_e mo_f mo_codes mo_most mo_minus mo_low mo_function mo_atX mo_atM a_moK a_moH a_moS mo_spanFunction mo_spanRounding mo_spanMany a_moF a_moT mo_parts mo_shift a_moP a_moQ a_moA a_moB a_moD), (a_moR, .inl (cI, 7, .inl u)), (a_moF, .inl (cI, 16384, .inl moF_r)), (a_moT, .inl (cI, 16384, .inl moT_r))]) ⟨hx, hb, hml, hown, hts⟩ (c_X8_refuse l D cI cJ cZ a_mo a_moR a_moK a_moH a_moS a_moF a_moT a_moP a_moQ a_moA a_moB a_moD H.size mo_e mo_f mo_codes mo_most mo_minus mo_low mo_function mo_atX mo_atM mo_spanFunction mo_spanRounding mo_spanMany mo_parts mo_shift moR_r (-1 : Int32) _ _ rfl ho) (cwV 1 hts (gdV wl_165 wl_166 wl_167 wl_5 wl_168) rfl rfl rfl (by decide +kernel) ⟨hRf _ (Nat.le_of_ble_eq_true rfl), hRl _ (Nat.le_of_ble_eq_true rfl)⟩) hK hN hP hD hS hA [0, 1] [2, 3] [2, 3, 0, 1] rfl rfl (by decide) (by decide) (by decide) (by decide) (fun _ => rfl) 0 7 rfl rfl rfl rfl hl.1 rfl (Nat.le_of_ble_eq_true rfl) dX8_span_17 ⟨Nat.zero_le _, Nat.zero_le _⟩ (fun r17 u17 H locs ho hP hD hS => ?_)
    try dsimp only at ho
    replace hP : va_P D vwCl [(a_mo, oX8 a_moR mo_e mo_f mo_codes mo_most mo_minus mo_low mo_function mo_atX mo_atM a_moK a_moH a_moS mo_spanFunction mo_spanRounding mo_spanMany a_moF a_moT mo_parts mo_shift a_moP a_moQ a_moA a_moB a_moD), (a_moR, .inl (cI, 7, .inl u17)), (a_moF, .inl (cI, 16384, .inl moF_r)), (a_moT, .inl (cI, 16384, .inl moT_r))] H := hP
    replace hD : va_D A [(a_mo, oX8 a_moR mo_e mo_f mo_codes mo_most mo_minus mo_low mo_function mo_atX mo_atM a_moK a_moH a_moS mo_spanFunction mo_spanRounding mo_spanMany a_moF a_moT mo_parts mo_shift a_moP a_moQ a_moA a_moB a_moD), (a_moR, .inl (cI, 7, .inl u17)), (a_moF, .inl (cI, 16384, .inl moF_r)), (a_moT, .inl (cI, 16384, .inl moT_r))] := hD
    subst hQ; exact W.iret (v := r17) hx hb hr (fun t ht hW => ⟨⟨r17, (mo_function, mo_atX, mo_atM, mo_spanFunction, mo_spanRounding, mo_spanMany, u17, moF_r, moT_r), rfl, ho, by rw [ht]; exact hP, hD⟩, hS.F ht⟩) (fun q hq => hS.2.2 q hq) dX8_span_20
  suffices main : ∀ (H : Heap) (locs : List Loc), va_P D vwCl [(a_mo, oX8 a_moR mo_e mo_f mo_codes mo_most mo_minus mo_low mo_function mo_atX mo_atM a_moK a_moH a_moS mo_spanFunction mo_spanRounding mo_spanMany a_moF a_moT mo_parts mo_shift a_moP a_moQ a_moA a_moB a_moD), (a_moR, .inl (cI, 7, .inl moR_r)), (a_moF, .inl (cI, 16384, .inl moF_r)), (a_moT, .inl (cI, 16384, .inl moT_r))] H → va_S A s.heap H locs → W p l e R s m args below meth c H locs 0 0 Q (F0 m 0 ls []) from main _ _ hP hS
  intro H locs hP hS
  unfold wp_X8_span at ho
  refine lv_iload_n hx hb dX8_span_0 rfl (lv_at hl 1 rfl) ?_
  refine ca_Si (As := [.int p1]) (rest := []) ⟨hx, hb, hml, hown, hts⟩ (c_X8_isFunction l D cI cJ cZ   p1 _ ho) (va_cwS 1 hts (gdS wl_469 wl_470 wl_5 wl_471) rfl rfl rfl (by decide +kernel) ⟨hRf _ (Nat.le_of_ble_eq_true rfl), hRl _ (Nat.le_of_ble_eq_true rfl)⟩) hK hN hP [] rfl rfl hl.1 rfl (Nat.le_of_ble_eq_true rfl) dX8_span_1 ⟨Nat.zero_le _, Nat.zero_le _⟩ (fun r1 ho => ?_)
  refine lv_if_eq (tgt := 15) hx hb dX8_span_4 (by decide) (fun c_4 => ?_) (fun c_4 => ?_)
  · replace ho := ho.1 c_4
    exact C_15 mo_function mo_atX mo_atM mo_spanFunction mo_spanRounding mo_spanMany moR_r moF_r moT_r H locs ls ho hP hD hS (lv_sub hl [0] rfl)
  · replace ho := ho.2 c_4
    refine lv_iload_n hx hb dX8_span_7 rfl (lv_at hl 2 rfl) ?_
    refine lv_iconst (v := 5) hx hb dX8_span_8 (by decide) ?_
    refine ca_Si (As := [.int p2, .int (5 : Int32)]) (rest := []) ⟨hx, hb, hml, hown, hts⟩ (c_X8_isIn l D cI cJ cZ   p2 (5 : Int32) _ ho) (va_cwS 2 hts (gdS wl_254 wl_255 wl_5 wl_256) rfl rfl rfl (by decide +kernel) ⟨hRf _ (Nat.le_of_ble_eq_true rfl), hRl _ (Nat.le_of_ble_eq_true rfl)⟩) hK hN hP [] rfl rfl hl.1 rfl (Nat.le_of_ble_eq_true rfl) dX8_span_9 ⟨Nat.zero_le _, Nat.zero_le _⟩ (fun r9 ho => ?_)
    refine lv_if_ne (tgt := 21) hx hb dX8_span_12 (by decide) (fun c_12 => ?_) (fun c_12 => ?_)
    · replace ho := ho.1 c_12
      refine lv_aload_n hx hb dX8_span_21 rfl (lv_at hl 0 rfl) ?_
      refine lv_iload_n hx hb dX8_span_22 rfl (lv_at hl 1 rfl) ?_
      refine lv_iload_n hx hb dX8_span_23 rfl (lv_at hl 2 rfl) ?_
      refine ca_Wv (b := a_mo) (As := [.int p1, .int p2]) (rest := []) (wr := [(a_moR, .inl (cI, 7, .inl moR_r))]) (wo := fun (u : (Int32) × (Int32) × (Int64) × (Int32) × (Int32) × (Int32) × (Nat → Int32) × (Nat → Int32)) => [(a_mo, oX8 a_moR mo_e mo_f mo_codes mo_most mo_minus mo_low u.1 u.2.1 u.2.2.1 a_moK a_moH a_moS u.2.2.2.1 u.2.2.2.2.1 u.2.2.2.2.2.1 a_moF a_moT mo_parts mo_shift a_moP a_moQ a_moA a_moB a_moD), (a_moF, .inl (cI, 16384, .inl u.2.2.2.2.2.2.1)), (a_moT, .inl (cI, 16384, .inl u.2.2.2.2.2.2.2))]) (wn := fun (u : (Int32) × (Int32) × (Int64) × (Int32) × (Int32) × (Int32) × (Nat → Int32) × (Nat → Int32)) => [(a_mo, oX8 a_moR mo_e mo_f mo_codes mo_most mo_minus mo_low u.1 u.2.1 u.2.2.1 a_moK a_moH a_moS u.2.2.2.1 u.2.2.2.2.1 u.2.2.2.2.2.1 a_moF a_moT mo_parts mo_shift a_moP a_moQ a_moA a_moB a_moD), (a_moR, .inl (cI, 7, .inl moR_r)), (a_moF, .inl (cI, 16384, .inl u.2.2.2.2.2.2.1)), (a_moT, .inl (cI, 16384, .inl u.2.2.2.2.2.2.2))]) ⟨hx, hb, hml, hown, hts⟩ (c_X8_findSpans l D cI cJ cZ a_mo a_moR a_moK a_moH a_moS a_moF a_moT a_moP a_moQ a_moA a_moB a_moD H.size mo_e mo_f mo_codes mo_most mo_minus mo_low mo_function mo_atX mo_atM mo_spanFunction mo_spanRounding mo_spanMany mo_parts mo_shift moF_r moT_r p1 p2 _ _ rfl ho) (cwV 2 hts (gdV wl_623 wl_624 wl_625 wl_5 wl_626) rfl rfl rfl (by decide +kernel) ⟨hRf _ (Nat.le_of_ble_eq_true rfl), hRl _ (Nat.le_of_ble_eq_true rfl)⟩) hK hN hP hD hS hA [0, 2, 3] [1] [1, 0, 2, 3] rfl rfl (by decide) (by decide) (by decide) (by decide) (fun _ => rfl) 0 7 rfl rfl rfl rfl hl.1 rfl (Nat.le_of_ble_eq_true rfl) dX8_span_24 ⟨Nat.zero_le _, Nat.zero_le _⟩ (fun  u24 H locs ho hP hD hS => ?_)
      obtain ⟨u24_1, u24_2, u24_3, u24_4, u24_5, u24_6, u24_7, u24_8⟩ := u24
      try dsimp only at ho
      replace hP : va_P D vwCl [(a_mo, oX8 a_moR mo_e mo_f mo_codes mo_most mo_minus mo_low u24_1 u24_2 u24_3 a_moK a_moH a_moS u24_4 u24_5 u24_6 a_moF a_moT mo_parts mo_shift a_moP a_moQ a_moA a_moB a_moD), (a_moR, .inl (cI, 7, .inl moR_r)), (a_moF, .inl (cI, 16384, .inl u24_7)), (a_moT, .inl (cI, 16384, .inl u24_8))] H := hP
      replace hD : va_D A [(a_mo, oX8 a_moR mo_e mo_f mo_codes mo_most mo_minus mo_low u24_1 u24_2 u24_3 a_moK a_moH a_moS u24_4 u24_5 u24_6 a_moF a_moT mo_parts mo_shift a_moP a_moQ a_moA a_moB a_moD), (a_moR, .inl (cI, 7, .inl moR_r)), (a_moF, .inl (cI, 16384, .inl u24_7)), (a_moT, .inl (cI, 16384, .inl u24_8))] := hD
      refine lv_iload_n hx hb dX8_span_27 rfl (lv_at hl 3 rfl) ?_
      refine lv_aload_n hx hb dX8_span_28 rfl (lv_at hl 0 rfl) ?_
      refine va_get (D := D) (ci := 7) (v := .int u24_6) (C := RX8) (T := TX8) (N := 25) hx hb hts inlX8 hown hK hP 0 rfl rfl 15 (by decide) (hts _ wl_622) (fun _ h9 => h9) rfl dX8_span_29 ?_
      refine ca_Si (As := [.int p3, .int u24_6]) (rest := []) ⟨hx, hb, hml, hown, hts⟩ (c_X8_isIn l D cI cJ cZ   p3 u24_6 _ ho) (va_cwS 2 hts (gdS wl_254 wl_255 wl_5 wl_256) rfl rfl rfl (by decide +kernel) ⟨hRf _ (Nat.le_of_ble_eq_true rfl), hRl _ (Nat.le_of_ble_eq_true rfl)⟩) hK hN hP [] rfl rfl hl.1 rfl (Nat.le_of_ble_eq_true rfl) dX8_span_32 ⟨Nat.zero_le _, Nat.zero_le _⟩ (fun r32 ho => ?_)
      refine lv_if_ne (tgt := 44) hx hb dX8_span_35 (by decide) (fun c_35 => ?_) (fun c_35 => ?_)
      · replace ho := ho.1 c_35
        refine lv_iload hx hb dX8_span_44 (lv_at hl 4 rfl) ?_
        refine lv_topi (fun z_46 ez_46 => ?_)
        by_cases n_46_0 : z_46 = 0
        · replace ho := ho.1 (ez_46.symm.trans n_46_0)
          subst n_46_0
          refine lv_tableIn (tgt := 72) hx hb dX8_span_46 (by decide) (by decide) rfl (by decide) ?_
          refine lv_aload_n hx hb dX8_span_72 rfl (lv_at hl 0 rfl) ?_
          refine va_get (D := D) (ci := 7) (v := .ref a_moF) (C := RX8) (T := TX8) (N := 25) hx hb hts inlX8 hown hK hP 0 rfl rfl 16 (by decide) (hts _ wl_104) (fun _ h9 => h9) rfl dX8_span_73 ?_
          refine lv_iload_n hx hb dX8_span_76 rfl (lv_at hl 3 rfl) ?_
          have o_77 := ho.1
          replace ho := ho.2
          refine va_iald hx hb hK hP 2 0 rfl rfl o_77 dX8_span_77 ?_
          subst hQ; exact W.iret (v := (u24_7 p3.toNatClampNeg)) hx hb hr (fun t ht hW => ⟨⟨(u24_7 p3.toNatClampNeg), (u24_1, u24_2, u24_3, u24_4, u24_5, u24_6, moR_r, u24_7, u24_8), rfl, ho, by rw [ht]; exact hP, hD⟩, hS.F ht⟩) (fun q hq => hS.2.2 q hq) dX8_span_78
        replace ho := ho.2 (fun h => n_46_0 (ez_46.trans h))
        by_cases n_46_1 : z_46 = 1
        · replace ho := ho.1 (ez_46.symm.trans n_46_1)
          subst n_46_1
          refine lv_tableIn (tgt := 79) hx hb dX8_span_46 (by decide) (by decide) rfl (by decide) ?_
          refine lv_aload_n hx hb dX8_span_79 rfl (lv_at hl 0 rfl) ?_
          refine va_get (D := D) (ci := 7) (v := .ref a_moT) (C := RX8) (T := TX8) (N := 25) hx hb hts inlX8 hown hK hP 0 rfl rfl 17 (by decide) (hts _ wl_105) (fun _ h9 => h9) rfl dX8_span_80 ?_
          refine lv_iload_n hx hb dX8_span_83 rfl (lv_at hl 3 rfl) ?_
          have o_84 := ho.1
          replace ho := ho.2
          refine va_iald hx hb hK hP 3 0 rfl rfl o_84 dX8_span_84 ?_
          subst hQ; exact W.iret (v := (u24_8 p3.toNatClampNeg)) hx hb hr (fun t ht hW => ⟨⟨(u24_8 p3.toNatClampNeg), (u24_1, u24_2, u24_3, u24_4, u24_5, u24_6, moR_r, u24_7, u24_8), rfl, ho, by rw [ht]; exact hP, hD⟩, hS.F ht⟩) (fun q hq => hS.2.2 q hq) dX8_span_85
        replace ho := ho.2 (fun h => n_46_1 (ez_46.trans h))
        by_cases n_46_2 : z_46 = 2
        · replace ho := ho.1 (ez_46.symm.trans n_46_2)
          subst n_46_2
          refine lv_tableIn (tgt := 86) hx hb dX8_span_46 (by decide) (by decide) rfl (by decide) ?_
          refine lv_aload_n hx hb dX8_span_86 rfl (lv_at hl 0 rfl) ?_
          refine lv_iload_n hx hb dX8_span_87 rfl (lv_at hl 1 rfl) ?_
          refine lv_aload_n hx hb dX8_span_88 rfl (lv_at hl 0 rfl) ?_
          refine va_get (D := D) (ci := 7) (v := .ref a_moF) (C := RX8) (T := TX8) (N := 25) hx hb hts inlX8 hown hK hP 0 rfl rfl 16 (by decide) (hts _ wl_104) (fun _ h9 => h9) rfl dX8_span_89 ?_
          refine lv_iload_n hx hb dX8_span_92 rfl (lv_at hl 3 rfl) ?_
          have o_93 := ho.1
          replace ho := ho.2
          refine va_iald hx hb hK hP 2 0 rfl rfl o_93 dX8_span_93 ?_
          refine lv_iload_n hx hb dX8_span_94 rfl (lv_at hl 2 rfl) ?_
          refine ca_Wi (b := a_mo) (As := [.int p1, .int (u24_7 p3.toNatClampNeg), .int p2]) (rest := []) (wr := [(a_moR, .inl (cI, 7, .inl moR_r)), (a_moF, .inl (cI, 16384, .inl u24_7)), (a_moT, .inl (cI, 16384, .inl u24_8))]) (wo := fun (u : (Int32) × (Int32) × (Int64)) => [(a_mo, oX8 a_moR mo_e mo_f mo_codes mo_most mo_minus mo_low u.1 u.2.1 u.2.2 a_moK a_moH a_moS u24_4 u24_5 u24_6 a_moF a_moT mo_parts mo_shift a_moP a_moQ a_moA a_moB a_moD)]) (wn := fun (u : (Int32) × (Int32) × (Int64)) => [(a_mo, oX8 a_moR mo_e mo_f mo_codes mo_most mo_minus mo_low u.1 u.2.1 u.2.2 a_moK a_moH a_moS u24_4 u24_5 u24_6 a_moF a_moT mo_parts mo_shift a_moP a_moQ a_moA a_moB a_moD), (a_moR, .inl (cI, 7, .inl moR_r)), (a_moF, .inl (cI, 16384, .inl u24_7)), (a_moT, .inl (cI, 16384, .inl u24_8))]) ⟨hx, hb, hml, hown, hts⟩ (c_X8_rightOf l D cI cJ cZ a_mo a_moR a_moK a_moH a_moS a_moF a_moT a_moP a_moQ a_moA a_moB a_moD H.size mo_e mo_f mo_codes mo_most mo_minus mo_low u24_1 u24_2 u24_3 u24_4 u24_5 u24_6 mo_parts mo_shift p1 (u24_7 p3.toNatClampNeg) p2 _ _ rfl ho) (cwV 3 hts (gdV wl_472 wl_473 wl_474 wl_5 wl_475) rfl rfl rfl (by decide +kernel) ⟨hRf _ (Nat.le_of_ble_eq_true rfl), hRl _ (Nat.le_of_ble_eq_true rfl)⟩) hK hN hP hD hS hA [0] [1, 2, 3] [3, 0, 1, 2] rfl rfl (by decide) (by decide) (by decide) (by decide) (fun _ => rfl) 0 7 rfl rfl rfl rfl hl.1 rfl (Nat.le_of_ble_eq_true rfl) dX8_span_95 ⟨Nat.zero_le _, Nat.zero_le _⟩ (fun r95 u95 H locs ho hP hD hS => ?_)
          obtain ⟨u95_1, u95_2, u95_3⟩ := u95
          try dsimp only at ho
          replace hP : va_P D vwCl [(a_mo, oX8 a_moR mo_e mo_f mo_codes mo_most mo_minus mo_low u95_1 u95_2 u95_3 a_moK a_moH a_moS u24_4 u24_5 u24_6 a_moF a_moT mo_parts mo_shift a_moP a_moQ a_moA a_moB a_moD), (a_moR, .inl (cI, 7, .inl moR_r)), (a_moF, .inl (cI, 16384, .inl u24_7)), (a_moT, .inl (cI, 16384, .inl u24_8))] H := hP
          replace hD : va_D A [(a_mo, oX8 a_moR mo_e mo_f mo_codes mo_most mo_minus mo_low u95_1 u95_2 u95_3 a_moK a_moH a_moS u24_4 u24_5 u24_6 a_moF a_moT mo_parts mo_shift a_moP a_moQ a_moA a_moB a_moD), (a_moR, .inl (cI, 7, .inl moR_r)), (a_moF, .inl (cI, 16384, .inl u24_7)), (a_moT, .inl (cI, 16384, .inl u24_8))] := hD
          subst hQ; exact W.iret (v := r95) hx hb hr (fun t ht hW => ⟨⟨r95, (u95_1, u95_2, u95_3, u24_4, u24_5, u24_6, moR_r, u24_7, u24_8), rfl, ho, by rw [ht]; exact hP, hD⟩, hS.F ht⟩) (fun q hq => hS.2.2 q hq) dX8_span_98
        replace ho := ho.2 (fun h => n_46_2 (ez_46.trans h))
        refine lv_tableOut (tgt := 99) hx hb dX8_span_46 (by have q_46_0 := lv_neT (a := 0) n_46_0 rfl; have q_46_1 := lv_neT (a := 1) n_46_1 rfl; have q_46_2 := lv_neT (a := 2) n_46_2 rfl; omega) (by decide) ?_
        refine lv_aload_n hx hb dX8_span_99 rfl (lv_at hl 0 rfl) ?_
        refine lv_bipush (v := (-2)) hx hb dX8_span_100 (by decide) ?_
        refine ca_Wi (b := a_mo) (As := [.int (-2 : Int32)]) (rest := []) (wr := [(a_moF, .inl (cI, 16384, .inl u24_7)), (a_moT, .inl (cI, 16384, .inl u24_8))]) (wo := fun (u : (Nat → Int32)) => [(a_mo, oX8 a_moR mo_e mo_f mo_codes mo_most mo_minus mo_low u24_1 u24_2 u24_3 a_moK a_moH a_moS u24_4 u24_5 u24_6 a_moF a_moT mo_parts mo_shift a_moP a_moQ a_moA a_moB a_moD), (a_moR, .inl (cI, 7, .inl u))]) (wn := fun (u : (Nat → Int32)) => [(a_mo, oX8 a_moR mo_e mo_f mo_codes mo_most mo_minus mo_low u24_1 u24_2 u24_3 a_moK a_moH a_moS u24_4 u24_5 u24_6 a_moF a_moT mo_parts mo_shift a_moP a_moQ a_moA a_moB a_moD), (a_moR, .inl (cI, 7, .inl u)), (a_moF, .inl (cI, 16384, .inl u24_7)), (a_moT, .inl (cI, 16384, .inl u24_8))]) ⟨hx, hb, hml, hown, hts⟩ (c_X8_refuse l D cI cJ cZ a_mo a_moR a_moK a_moH a_moS a_moF a_moT a_moP a_moQ a_moA a_moB a_moD H.size mo_e mo_f mo_codes mo_most mo_minus mo_low u24_1 u24_2 u24_3 u24_4 u24_5 u24_6 mo_parts mo_shift moR_r (-2 : Int32) _ _ rfl ho) (cwV 1 hts (gdV wl_165 wl_166 wl_167 wl_5 wl_168) rfl rfl rfl (by decide +kernel) ⟨hRf _ (Nat.le_of_ble_eq_true rfl), hRl _ (Nat.le_of_ble_eq_true rfl)⟩) hK hN hP hD hS hA [0, 1] [2, 3] [2, 3, 0, 1] rfl rfl (by decide) (by decide) (by decide) (by decide) (fun _ => rfl) 0 7 rfl rfl rfl rfl hl.1 rfl (Nat.le_of_ble_eq_true rfl) dX8_span_102 ⟨Nat.zero_le _, Nat.zero_le _⟩ (fun r102 u102 H locs ho hP hD hS => ?_)
        try dsimp only at ho
        replace hP : va_P D vwCl [(a_mo, oX8 a_moR mo_e mo_f mo_codes mo_most mo_minus mo_low u24_1 u24_2 u24_3 a_moK a_moH a_moS u24_4 u24_5 u24_6 a_moF a_moT mo_parts mo_shift a_moP a_moQ a_moA a_moB a_moD), (a_moR, .inl (cI, 7, .inl u102)), (a_moF, .inl (cI, 16384, .inl u24_7)), (a_moT, .inl (cI, 16384, .inl u24_8))] H := hP
        replace hD : va_D A [(a_mo, oX8 a_moR mo_e mo_f mo_codes mo_most mo_minus mo_low u24_1 u24_2 u24_3 a_moK a_moH a_moS u24_4 u24_5 u24_6 a_moF a_moT mo_parts mo_shift a_moP a_moQ a_moA a_moB a_moD), (a_moR, .inl (cI, 7, .inl u102)), (a_moF, .inl (cI, 16384, .inl u24_7)), (a_moT, .inl (cI, 16384, .inl u24_8))] := hD
        subst hQ; exact W.iret (v := r102) hx hb hr (fun t ht hW => ⟨⟨r102, (u24_1, u24_2, u24_3, u24_4, u24_5, u24_6, u102, u24_7, u24_8), rfl, ho, by rw [ht]; exact hP, hD⟩, hS.F ht⟩) (fun q hq => hS.2.2 q hq) dX8_span_105
      · replace ho := ho.2 c_35
        refine lv_aload_n hx hb dX8_span_38 rfl (lv_at hl 0 rfl) ?_
        refine lv_iconst (v := (-1)) hx hb dX8_span_39 (by decide) ?_
        refine ca_Wi (b := a_mo) (As := [.int (-1 : Int32)]) (rest := []) (wr := [(a_moF, .inl (cI, 16384, .inl u24_7)), (a_moT, .inl (cI, 16384, .inl u24_8))]) (wo := fun (u : (Nat → Int32)) => [(a_mo, oX8 a_moR mo_e mo_f mo_codes mo_most mo_minus mo_low u24_1 u24_2 u24_3 a_moK a_moH a_moS u24_4 u24_5 u24_6 a_moF a_moT mo_parts mo_shift a_moP a_moQ a_moA a_moB a_moD), (a_moR, .inl (cI, 7, .inl u))]) (wn := fun (u : (Nat → Int32)) => [(a_mo, oX8 a_moR mo_e mo_f mo_codes mo_most mo_minus mo_low u24_1 u24_2 u24_3 a_moK a_moH a_moS u24_4 u24_5 u24_6 a_moF a_moT mo_parts mo_shift a_moP a_moQ a_moA a_moB a_moD), (a_moR, .inl (cI, 7, .inl u)), (a_moF, .inl (cI, 16384, .inl u24_7)), (a_moT, .inl (cI, 16384, .inl u24_8))]) ⟨hx, hb, hml, hown, hts⟩ (c_X8_refuse l D cI cJ cZ a_mo a_moR a_moK a_moH a_moS a_moF a_moT a_moP a_moQ a_moA a_moB a_moD H.size mo_e mo_f mo_codes mo_most mo_minus mo_low u24_1 u24_2 u24_3 u24_4 u24_5 u24_6 mo_parts mo_shift moR_r (-1 : Int32) _ _ rfl ho) (cwV 1 hts (gdV wl_165 wl_166 wl_167 wl_5 wl_168) rfl rfl rfl (by decide +kernel) ⟨hRf _ (Nat.le_of_ble_eq_true rfl), hRl _ (Nat.le_of_ble_eq_true rfl)⟩) hK hN hP hD hS hA [0, 1] [2, 3] [2, 3, 0, 1] rfl rfl (by decide) (by decide) (by decide) (by decide) (fun _ => rfl) 0 7 rfl rfl rfl rfl hl.1 rfl (Nat.le_of_ble_eq_true rfl) dX8_span_40 ⟨Nat.zero_le _, Nat.zero_le _⟩ (fun r40 u40 H locs ho hP hD hS => ?_)
        try dsimp only at ho
        replace hP : va_P D vwCl [(a_mo, oX8 a_moR mo_e mo_f mo_codes mo_most mo_minus mo_low u24_1 u24_2 u24_3 a_moK a_moH a_moS u24_4 u24_5 u24_6 a_moF a_moT mo_parts mo_shift a_moP a_moQ a_moA a_moB a_moD), (a_moR, .inl (cI, 7, .inl u40)), (a_moF, .inl (cI, 16384, .inl u24_7)), (a_moT, .inl (cI, 16384, .inl u24_8))] H := hP
        replace hD : va_D A [(a_mo, oX8 a_moR mo_e mo_f mo_codes mo_most mo_minus mo_low u24_1 u24_2 u24_3 a_moK a_moH a_moS u24_4 u24_5 u24_6 a_moF a_moT mo_parts mo_shift a_moP a_moQ a_moA a_moB a_moD), (a_moR, .inl (cI, 7, .inl u40)), (a_moF, .inl (cI, 16384, .inl u24_7)), (a_moT, .inl (cI, 16384, .inl u24_8))] := hD
        subst hQ; exact W.iret (v := r40) hx hb hr (fun t ht hW => ⟨⟨r40, (u24_1, u24_2, u24_3, u24_4, u24_5, u24_6, u40, u24_7, u24_8), rfl, ho, by rw [ht]; exact hP, hD⟩, hS.F ht⟩) (fun q hq => hS.2.2 q hq) dX8_span_43
    · replace ho := ho.2 c_12
      exact C_15 mo_function mo_atX mo_atM mo_spanFunction mo_spanRounding mo_spanMany moR_r moF_r moT_r H locs ls ho hP hD hS (lv_sub hl [0] rfl)

def w_X8_isPower : List Cond := .code yX8_isPower cX8_isPower 2 (some .boolean) :: wsL_law
set_option maxHeartbeats 4000000 in
set_option maxRecDepth 100000 in
theorem c_X8_isPower (l : Launch) (D : va_G) (cI cJ cZ : ClassId) (a_mo : Nat) (a_moR : Nat) (a_moK : Nat) (a_moH : Nat) (a_moS : Nat) (a_moF : Nat) (a_moT : Nat) (a_moP : Nat) (a_moQ : Nat) (a_moA : Nat) (a_moB : Nat) (a_moD : Nat) (mo_e : Int32) (mo_f : Int32) (mo_codes : Int32) (mo_most : Int32) (mo_minus : Int32) (mo_low : Int32) (mo_function : Int32) (mo_atX : Int32) (mo_atM : Int64) (mo_spanFunction : Int32) (mo_spanRounding : Int32) (mo_spanMany : Int32) (mo_parts : Int32) (mo_shift : Int32) (p1 : Int32) (post : Int32 → Prop) (ho : wp_X8_isPower post mo_e p1) : Met l yX8_isPower w_X8_isPower ({ frames := 0, cells := 0, slots := 0, locals := 0 } : Room) (ro_P D [(cI, .int), (cJ, .long), (cZ, .boolean)] [.ref a_mo, .int p1] [(a_mo, oX8 a_moR mo_e mo_f mo_codes mo_most mo_minus mo_low mo_function mo_atX mo_atM a_moK a_moH a_moS mo_spanFunction mo_spanRounding mo_spanMany a_moF a_moT mo_parts mo_shift a_moP a_moQ a_moA a_moB a_moD)]) (vp_Si post) 0 0 (fun _ => False) := by
  refine Met.ofW (cc := cX8_isPower) (maxL := 2) (ret := (some .boolean)) (by decide) rfl ?_
  intro p e s m args below meth c s₁ B hml hv
  obtain ⟨hargs, hP, hK, hN⟩ := hv
  have hx := B.exec
  have hb := B.bytes
  have hr := B.returns
  have hts : ∀ w ∈ wsL_law, w.before args s = true := fun w h => atoms_spec (ws := w_X8_isPower) B.pre w (List.mem_cons_of_mem _ h)
  have hown : s.vm.findClass RX8 = some m.cls := findClass_of_methodNamed B.named
  have hlocks := B.notSynchronized
  have hl := lv_entry ([.ref a_mo, .int p1]) (n := 2) (Nat.le_of_ble_eq_true rfl)
  rw [hargs, lg_entry_eq, ← hargs]
  generalize (lg_sl ([.ref a_mo, .int p1]) ++ List.replicate (2 - (lg_sl ([.ref a_mo, .int p1])).length) Slot.unset).toArray = ls at hl ⊢
  replace hl : lv_has ls 2 [(0, .ref a_mo), (1, .int p1)] := hl
  have hRf : ∀ n, n ≤ 0 → n ≤ (headSpec w_X8_isPower ({ frames := 0, cells := 0, slots := 0, locals := 0 } : Room)).room.frames := fun n h => h
  have hRl : ∀ n, n ≤ 0 → n ≤ (headSpec w_X8_isPower ({ frames := 0, cells := 0, slots := 0, locals := 0 } : Room)).room.locals := fun n h => h
  generalize (headSpec w_X8_isPower ({ frames := 0, cells := 0, slots := 0, locals := 0 } : Room)).room = R at hRf hRl ⊢
  generalize hQ : MQ below _ args s 0 0 _ = Q
  unfold wp_X8_isPower at ho
  refine lv_iload_n hx hb dX8_isPower_0 rfl (lv_at hl 1 rfl) ?_
  refine lv_if_le (tgt := 20) hx hb dX8_isPower_1 (by decide) (fun c_1 => ?_) (fun c_1 => ?_)
  · replace ho := ho.1 c_1
    refine lv_iconst (v := 0) hx hb dX8_isPower_20 (by decide) ?_
    subst hQ; exact W.zret (v := (0 : Int32)) hx hb hr rfl (fun t ht _ => ⟨(0 : Int32), rfl, ho, ht⟩) (fun _ h => by cases h) dX8_isPower_21
  · replace ho := ho.2 c_1
    refine lv_iload_n hx hb dX8_isPower_4 rfl (lv_at hl 1 rfl) ?_
    refine lv_iconst (v := 1) hx hb dX8_isPower_5 (by decide) ?_
    refine lv_aload_n hx hb dX8_isPower_6 rfl (lv_at hl 0 rfl) ?_
    refine va_get (D := D) (ci := 7) (v := .int mo_e) (C := RX8) (T := TX8) (N := 25) hx hb hts inlX8 hown hK hP 0 rfl rfl 1 (by decide) (hts _ wl_116) (fun _ h9 => h9) rfl dX8_isPower_7 ?_
    refine lv_ishl hx hb dX8_isPower_10 ?_
    refine lv_iconst (v := 1) hx hb dX8_isPower_11 (by decide) ?_
    refine lv_isub hx hb dX8_isPower_12 ?_
    refine lv_icmp_ge (tgt := 20) hx hb dX8_isPower_13 (by decide) (fun c_13 => ?_) (fun c_13 => ?_)
    · replace ho := ho.1 c_13
      refine lv_iconst (v := 0) hx hb dX8_isPower_20 (by decide) ?_
      subst hQ; exact W.zret (v := (0 : Int32)) hx hb hr rfl (fun t ht _ => ⟨(0 : Int32), rfl, ho, ht⟩) (fun _ h => by cases h) dX8_isPower_21
    · replace ho := ho.2 c_13
      refine lv_iconst (v := 1) hx hb dX8_isPower_16 (by decide) ?_
      refine lv_goto (tgt := 21) hx hb dX8_isPower_17 (by decide) ?_
      subst hQ; exact W.zret (v := (1 : Int32)) hx hb hr rfl (fun t ht _ => ⟨(1 : Int32), rfl, ho, ht⟩) (fun _ h => by cases h) dX8_isPower_21

def w_X8_lays : List Cond := .code yX8_lays cX8_lays 7 none :: wsL_law
set_option maxHeartbeats 4000000 in
set_option maxRecDepth 100000 in
theorem c_X8_lays (l : Launch) (D : va_G) (cI cJ cZ : ClassId) (a_mo : Nat) (a_moR : Nat) (a_moK : Nat) (a_moH : Nat) (a_moS : Nat) (a_moF : Nat) (a_moT : Nat) (a_moP : Nat) (a_moQ : Nat) (a_moA : Nat) (a_moB : Nat) (a_moD : Nat) (sz : Nat) (mo_e : Int32) (mo_f : Int32) (mo_codes : Int32) (mo_most : Int32) (mo_minus : Int32) (mo_low : Int32) (mo_function : Int32) (mo_atX : Int32) (mo_atM : Int64) (mo_spanFunction : Int32) (mo_spanRounding : Int32) (mo_spanMany : Int32) (mo_parts : Int32) (mo_shift : Int32) (moP_r : Nat → Int32) (moQ_r : Nat → Int32) (moA_r : Nat → Int64) (moB_r : Nat → Int64) (p1 : Int32) (p2 : Int32) (p3 : Int64) (p4 : Int64) (post : (Nat → Int32) → (Nat → Int32) → (Nat → Int64) → (Nat → Int64) → Prop) (A : Nat → Prop) (hAe : A = va_A [(a_mo, oX8 a_moR mo_e mo_f mo_codes mo_most mo_minus mo_low mo_function mo_atX mo_atM a_moK a_moH a_moS mo_spanFunction mo_spanRounding mo_spanMany a_moF a_moT mo_parts mo_shift a_moP a_moQ a_moA a_moB a_moD), (a_moP, .inl (cI, 256, .inl moP_r)), (a_moQ, .inl (cI, 256, .inl moQ_r)), (a_moA, .inl (cJ, 256, .inr (.inl moA_r))), (a_moB, .inl (cJ, 256, .inr (.inl moB_r)))] sz) (ho : wp_X8_lays post mo_parts moP_r moQ_r moA_r moB_r p1 p2 p3 p4) : Met l yX8_lays w_X8_lays ({ frames := 0, cells := 0, slots := 0, locals := 0 } : Room) (rw_P D [(cI, .int), (cJ, .long), (cZ, .boolean)] [.ref a_mo, .int p1, .int p2, .long p3, .long p4] sz [(a_mo, oX8 a_moR mo_e mo_f mo_codes mo_most mo_minus mo_low mo_function mo_atX mo_atM a_moK a_moH a_moS mo_spanFunction mo_spanRounding mo_spanMany a_moF a_moT mo_parts mo_shift a_moP a_moQ a_moA a_moB a_moD), (a_moP, .inl (cI, 256, .inl moP_r)), (a_moQ, .inl (cI, 256, .inl moQ_r)), (a_moA, .inl (cJ, 256, .inr (.inl moA_r))), (a_moB, .inl (cJ, 256, .inr (.inl moB_r)))]) (va_Qv (fun (u : (Nat → Int32) × (Nat → Int32) × (Nat → Int64) × (Nat → Int64)) => post u.1 u.2.1 u.2.2.1 u.2.2.2) (rw_B D A (fun (u : (Nat → Int32) × (Nat → Int32) × (Nat → Int64) × (Nat → Int64)) => [(a_mo, oX8 a_moR mo_e mo_f mo_codes mo_most mo_minus mo_low mo_function mo_atX mo_atM a_moK a_moH a_moS mo_spanFunction mo_spanRounding mo_spanMany a_moF a_moT mo_parts mo_shift a_moP a_moQ a_moA a_moB a_moD), (a_moP, .inl (cI, 256, .inl u.1)), (a_moQ, .inl (cI, 256, .inl u.2.1)), (a_moA, .inl (cJ, 256, .inr (.inl u.2.2.1))), (a_moB, .inl (cJ, 256, .inr (.inl u.2.2.2)))])) A) 0 0 A := by
  refine Met.ofW (cc := cX8_lays) (maxL := 7) (ret := none) (by decide) rfl ?_
  intro p e s m args below meth c s₁ B hml hv
  obtain ⟨hargs, hsz, hP, hK, hN, hD0⟩ := hv
  have hx := B.exec
  have hb := B.bytes
  have hr := B.returns
  have hts : ∀ w ∈ wsL_law, w.before args s = true := fun w h => atoms_spec (ws := w_X8_lays) B.pre w (List.mem_cons_of_mem _ h)
  have hown : s.vm.findClass RX8 = some m.cls := findClass_of_methodNamed B.named
  have hlocks := B.notSynchronized
  subst hsz
  have hD : va_D A [(a_mo, oX8 a_moR mo_e mo_f mo_codes mo_most mo_minus mo_low mo_function mo_atX mo_atM a_moK a_moH a_moS mo_spanFunction mo_spanRounding mo_spanMany a_moF a_moT mo_parts mo_shift a_moP a_moQ a_moA a_moB a_moD), (a_moP, .inl (cI, 256, .inl moP_r)), (a_moQ, .inl (cI, 256, .inl moQ_r)), (a_moA, .inl (cJ, 256, .inr (.inl moA_r))), (a_moB, .inl (cJ, 256, .inr (.inl moB_r)))] := by rw [hAe]; exact hD0.self
  have hA : ∀ q : Nat, s.heap.size ≤ q → A q := fun q h => by rw [hAe]; exact Or.inr h
  have hS : va_S A s.heap s.heap [] := va_S.rf
  have hl := lv_entry ([.ref a_mo, .int p1, .int p2, .long p3, .long p4]) (n := 7) (Nat.le_of_ble_eq_true rfl)
  rw [hargs, lg_entry_eq, ← hargs]
  generalize (lg_sl ([.ref a_mo, .int p1, .int p2, .long p3, .long p4]) ++ List.replicate (7 - (lg_sl ([.ref a_mo, .int p1, .int p2, .long p3, .long p4])).length) Slot.unset).toArray = ls at hl ⊢
  replace hl : lv_has ls 7 [(0, .ref a_mo), (1, .int p1), (2, .int p2), (3, .long p3), (5, .long p4)] := hl
  have hRf : ∀ n, n ≤ 0 → n ≤ (headSpec w_X8_lays ({ frames := 0, cells := 0, slots := 0, locals := 0 } : Room)).room.frames := fun n h => h
  have hRl : ∀ n, n ≤ 0 → n ≤ (headSpec w_X8_lays ({ frames := 0, cells := 0, slots := 0, locals := 0 } : Room)).room.locals := fun n h => h
  generalize (headSpec w_X8_lays ({ frames := 0, cells := 0, slots := 0, locals := 0 } : Room)).room = R at hRf hRl ⊢
  generalize hQ : MQ below _ args s 0 0 _ = Q
  suffices main : ∀ (H : Heap) (locs : List Loc), va_P D vwCl [(a_mo, oX8 a_moR mo_e mo_f mo_codes mo_most mo_minus mo_low mo_function mo_atX mo_atM a_moK a_moH a_moS mo_spanFunction mo_spanRounding mo_spanMany a_moF a_moT mo_parts mo_shift a_moP a_moQ a_moA a_moB a_moD), (a_moP, .inl (cI, 256, .inl moP_r)), (a_moQ, .inl (cI, 256, .inl moQ_r)), (a_moA, .inl (cJ, 256, .inr (.inl moA_r))), (a_moB, .inl (cJ, 256, .inr (.inl moB_r)))] H → va_S A s.heap H locs → W p l e R s m args below meth c H locs 0 0 Q (F0 m 0 ls []) from main _ _ hP hS
  intro H locs hP hS
  unfold wp_X8_lays at ho
  refine lv_aload_n hx hb dX8_lays_0 rfl (lv_at hl 0 rfl) ?_
  refine va_get (D := D) (ci := 7) (v := .ref a_moP) (C := RX8) (T := TX8) (N := 25) hx hb hts inlX8 hown hK hP 0 rfl rfl 20 (by decide) (hts _ wl_106) (fun _ h9 => h9) rfl dX8_lays_1 ?_
  refine lv_aload_n hx hb dX8_lays_4 rfl (lv_at hl 0 rfl) ?_
  refine va_get (D := D) (ci := 7) (v := .int mo_parts) (C := RX8) (T := TX8) (N := 25) hx hb hts inlX8 hown hK hP 0 rfl rfl 18 (by decide) (hts _ wl_122) (fun _ h9 => h9) rfl dX8_lays_5 ?_
  refine lv_iload_n hx hb dX8_lays_8 rfl (lv_at hl 1 rfl) ?_
  have o_9 := ho.1
  replace ho := ho.2
  refine va_iast hx hb hK hP hD hS 1 0 rfl rfl o_9 dX8_lays_9 (fun H locs hP hD hS => ?_)
  replace hP : va_P D vwCl [(a_mo, oX8 a_moR mo_e mo_f mo_codes mo_most mo_minus mo_low mo_function mo_atX mo_atM a_moK a_moH a_moS mo_spanFunction mo_spanRounding mo_spanMany a_moF a_moT mo_parts mo_shift a_moP a_moQ a_moA a_moB a_moD), (a_moP, .inl (cI, 256, .inl (upd moP_r mo_parts.toNatClampNeg p1))), (a_moQ, .inl (cI, 256, .inl moQ_r)), (a_moA, .inl (cJ, 256, .inr (.inl moA_r))), (a_moB, .inl (cJ, 256, .inr (.inl moB_r)))] H := hP
  replace hD : va_D A [(a_mo, oX8 a_moR mo_e mo_f mo_codes mo_most mo_minus mo_low mo_function mo_atX mo_atM a_moK a_moH a_moS mo_spanFunction mo_spanRounding mo_spanMany a_moF a_moT mo_parts mo_shift a_moP a_moQ a_moA a_moB a_moD), (a_moP, .inl (cI, 256, .inl (upd moP_r mo_parts.toNatClampNeg p1))), (a_moQ, .inl (cI, 256, .inl moQ_r)), (a_moA, .inl (cJ, 256, .inr (.inl moA_r))), (a_moB, .inl (cJ, 256, .inr (.inl moB_r)))] := hD
  refine lv_aload_n hx hb dX8_lays_10 rfl (lv_at hl 0 rfl) ?_
  refine va_get (D := D) (ci := 7) (v := .ref a_moQ) (C := RX8) (T := TX8) (N := 25) hx hb hts inlX8 hown hK hP 0 rfl rfl 21 (by decide) (hts _ wl_107) (fun _ h9 => h9) rfl dX8_lays_11 ?_
  refine lv_aload_n hx hb dX8_lays_14 rfl (lv_at hl 0 rfl) ?_
  refine va_get (D := D) (ci := 7) (v := .int mo_parts) (C := RX8) (T := TX8) (N := 25) hx hb hts inlX8 hown hK hP 0 rfl rfl 18 (by decide) (hts _ wl_122) (fun _ h9 => h9) rfl dX8_lays_15 ?_
  refine lv_iload_n hx hb dX8_lays_18 rfl (lv_at hl 2 rfl) ?_
  have o_19 := ho.1
  replace ho := ho.2
  refine va_iast hx hb hK hP hD hS 2 0 rfl rfl o_19 dX8_lays_19 (fun H locs hP hD hS => ?_)
  replace hP : va_P D vwCl [(a_mo, oX8 a_moR mo_e mo_f mo_codes mo_most mo_minus mo_low mo_function mo_atX mo_atM a_moK a_moH a_moS mo_spanFunction mo_spanRounding mo_spanMany a_moF a_moT mo_parts mo_shift a_moP a_moQ a_moA a_moB a_moD), (a_moP, .inl (cI, 256, .inl (upd moP_r mo_parts.toNatClampNeg p1))), (a_moQ, .inl (cI, 256, .inl (upd moQ_r mo_parts.toNatClampNeg p2))), (a_moA, .inl (cJ, 256, .inr (.inl moA_r))), (a_moB, .inl (cJ, 256, .inr (.inl moB_r)))] H := hP
  replace hD : va_D A [(a_mo, oX8 a_moR mo_e mo_f mo_codes mo_most mo_minus mo_low mo_function mo_atX mo_atM a_moK a_moH a_moS mo_spanFunction mo_spanRounding mo_spanMany a_moF a_moT mo_parts mo_shift a_moP a_moQ a_moA a_moB a_moD), (a_moP, .inl (cI, 256, .inl (upd moP_r mo_parts.toNatClampNeg p1))), (a_moQ, .inl (cI, 256, .inl (upd moQ_r mo_parts.toNatClampNeg p2))), (a_moA, .inl (cJ, 256, .inr (.inl moA_r))), (a_moB, .inl (cJ, 256, .inr (.inl moB_r)))] := hD
  refine lv_aload_n hx hb dX8_lays_20 rfl (lv_at hl 0 rfl) ?_
  refine va_get (D := D) (ci := 7) (v := .ref a_moA) (C := RX8) (T := TX8) (N := 25) hx hb hts inlX8 hown hK hP 0 rfl rfl 22 (by decide) (hts _ wl_109) (fun _ h9 => h9) rfl dX8_lays_21 ?_
  refine lv_aload_n hx hb dX8_lays_24 rfl (lv_at hl 0 rfl) ?_
  refine va_get (D := D) (ci := 7) (v := .int mo_parts) (C := RX8) (T := TX8) (N := 25) hx hb hts inlX8 hown hK hP 0 rfl rfl 18 (by decide) (hts _ wl_122) (fun _ h9 => h9) rfl dX8_lays_25 ?_
  refine lv_lload_n hx hb dX8_lays_28 rfl (lv_at hl 3 rfl) ?_
  have o_29 := ho.1
  replace ho := ho.2
  refine va_last hx hb hK hP hD hS 3 1 rfl rfl o_29 dX8_lays_29 (fun H locs hP hD hS => ?_)
  replace hP : va_P D vwCl [(a_mo, oX8 a_moR mo_e mo_f mo_codes mo_most mo_minus mo_low mo_function mo_atX mo_atM a_moK a_moH a_moS mo_spanFunction mo_spanRounding mo_spanMany a_moF a_moT mo_parts mo_shift a_moP a_moQ a_moA a_moB a_moD), (a_moP, .inl (cI, 256, .inl (upd moP_r mo_parts.toNatClampNeg p1))), (a_moQ, .inl (cI, 256, .inl (upd moQ_r mo_parts.toNatClampNeg p2))), (a_moA, .inl (cJ, 256, .inr (.inl (vp_updL moA_r mo_parts.toNatClampNeg p3)))), (a_moB, .inl (cJ, 256, .inr (.inl moB_r)))] H := hP
  replace hD : va_D A [(a_mo, oX8 a_moR mo_e mo_f mo_codes mo_most mo_minus mo_low mo_function mo_atX mo_atM a_moK a_moH a_moS mo_spanFunction mo_spanRounding mo_spanMany a_moF a_moT mo_parts mo_shift a_moP a_moQ a_moA a_moB a_moD), (a_moP, .inl (cI, 256, .inl (upd moP_r mo_parts.toNatClampNeg p1))), (a_moQ, .inl (cI, 256, .inl (upd moQ_r mo_parts.toNatClampNeg p2))), (a_moA, .inl (cJ, 256, .inr (.inl (vp_updL moA_r mo_parts.toNatClampNeg p3)))), (a_moB, .inl (cJ, 256, .inr (.inl moB_r)))] := hD
  refine lv_aload_n hx hb dX8_lays_30 rfl (lv_at hl 0 rfl) ?_
  refine va_get (D := D) (ci := 7) (v := .ref a_moB) (C := RX8) (T := TX8) (N := 25) hx hb hts inlX8 hown hK hP 0 rfl rfl 23 (by decide) (hts _ wl_110) (fun _ h9 => h9) rfl dX8_lays_31 ?_
  refine lv_aload_n hx hb dX8_lays_34 rfl (lv_at hl 0 rfl) ?_
  refine va_get (D := D) (ci := 7) (v := .int mo_parts) (C := RX8) (T := TX8) (N := 25) hx hb hts inlX8 hown hK hP 0 rfl rfl 18 (by decide) (hts _ wl_122) (fun _ h9 => h9) rfl dX8_lays_35 ?_
  refine lv_lload hx hb dX8_lays_38 (lv_at hl 4 rfl) ?_
  have o_40 := ho.1
  replace ho := ho.2
  refine va_last hx hb hK hP hD hS 4 1 rfl rfl o_40 dX8_lays_40 (fun H locs hP hD hS => ?_)
  replace hP : va_P D vwCl [(a_mo, oX8 a_moR mo_e mo_f mo_codes mo_most mo_minus mo_low mo_function mo_atX mo_atM a_moK a_moH a_moS mo_spanFunction mo_spanRounding mo_spanMany a_moF a_moT mo_parts mo_shift a_moP a_moQ a_moA a_moB a_moD), (a_moP, .inl (cI, 256, .inl (upd moP_r mo_parts.toNatClampNeg p1))), (a_moQ, .inl (cI, 256, .inl (upd moQ_r mo_parts.toNatClampNeg p2))), (a_moA, .inl (cJ, 256, .inr (.inl (vp_updL moA_r mo_parts.toNatClampNeg p3)))), (a_moB, .inl (cJ, 256, .inr (.inl (vp_updL moB_r mo_parts.toNatClampNeg p4))))] H := hP
  replace hD : va_D A [(a_mo, oX8 a_moR mo_e mo_f mo_codes mo_most mo_minus mo_low mo_function mo_atX mo_atM a_moK a_moH a_moS mo_spanFunction mo_spanRounding mo_spanMany a_moF a_moT mo_parts mo_shift a_moP a_moQ a_moA a_moB a_moD), (a_moP, .inl (cI, 256, .inl (upd moP_r mo_parts.toNatClampNeg p1))), (a_moQ, .inl (cI, 256, .inl (upd moQ_r mo_parts.toNatClampNeg p2))), (a_moA, .inl (cJ, 256, .inr (.inl (vp_updL moA_r mo_parts.toNatClampNeg p3)))), (a_moB, .inl (cJ, 256, .inr (.inl (vp_updL moB_r mo_parts.toNatClampNeg p4))))] := hD
  subst hQ; exact W.vret hx hb hr (fun t ht hW => ⟨⟨((upd moP_r mo_parts.toNatClampNeg p1), (upd moQ_r mo_parts.toNatClampNeg p2), (vp_updL moA_r mo_parts.toNatClampNeg p3), (vp_updL moB_r mo_parts.toNatClampNeg p4)), rfl, ho, by rw [ht]; exact hP, hD⟩, hS.F ht⟩) (fun q hq => hS.2.2 q hq) dX8_lays_41

def w_X8_flat : List Cond := .code yX8_flat cX8_flat 4 (some .int) :: wsL_law
set_option maxHeartbeats 4000000 in
set_option maxRecDepth 100000 in
theorem c_X8_flat (l : Launch) (D : va_G) (cI cJ cZ : ClassId) (a_mo : Nat) (a_moR : Nat) (a_moK : Nat) (a_moH : Nat) (a_moS : Nat) (a_moF : Nat) (a_moT : Nat) (a_moP : Nat) (a_moQ : Nat) (a_moA : Nat) (a_moB : Nat) (a_moD : Nat) (sz : Nat) (mo_e : Int32) (mo_f : Int32) (mo_codes : Int32) (mo_most : Int32) (mo_minus : Int32) (mo_low : Int32) (mo_function : Int32) (mo_atX : Int32) (mo_atM : Int64) (mo_spanFunction : Int32) (mo_spanRounding : Int32) (mo_spanMany : Int32) (mo_parts : Int32) (mo_shift : Int32) (moP_r : Nat → Int32) (moQ_r : Nat → Int32) (moA_r : Nat → Int64) (moB_r : Nat → Int64) (moD_r : Nat → Int64) (p1 : Int32) (p2 : Int32) (post : Int32 → (Nat → Int32) → (Nat → Int32) → (Nat → Int64) → (Nat → Int64) → Prop) (A : Nat → Prop) (hAe : A = va_A [(a_mo, oX8 a_moR mo_e mo_f mo_codes mo_most mo_minus mo_low mo_function mo_atX mo_atM a_moK a_moH a_moS mo_spanFunction mo_spanRounding mo_spanMany a_moF a_moT mo_parts mo_shift a_moP a_moQ a_moA a_moB a_moD), (a_moP, .inl (cI, 256, .inl moP_r)), (a_moQ, .inl (cI, 256, .inl moQ_r)), (a_moA, .inl (cJ, 256, .inr (.inl moA_r))), (a_moB, .inl (cJ, 256, .inr (.inl moB_r))), (a_moD, .inl (cJ, 256, .inr (.inl moD_r)))] sz) (ho : wp_X8_flat post mo_parts moP_r moQ_r moA_r moB_r moD_r p1 p2) : Met l yX8_flat w_X8_flat ({ frames := 1, cells := 0, slots := 0, locals := 26 } : Room) (rw_P D [(cI, .int), (cJ, .long), (cZ, .boolean)] [.ref a_mo, .int p1, .int p2] sz [(a_mo, oX8 a_moR mo_e mo_f mo_codes mo_most mo_minus mo_low mo_function mo_atX mo_atM a_moK a_moH a_moS mo_spanFunction mo_spanRounding mo_spanMany a_moF a_moT mo_parts mo_shift a_moP a_moQ a_moA a_moB a_moD), (a_moP, .inl (cI, 256, .inl moP_r)), (a_moQ, .inl (cI, 256, .inl moQ_r)), (a_moA, .inl (cJ, 256, .inr (.inl moA_r))), (a_moB, .inl (cJ, 256, .inr (.inl moB_r))), (a_moD, .inl (cJ, 256, .inr (.inl moD_r)))]) (va_Qi (fun (r : Int32) (u : (Nat → Int32) × (Nat → Int32) × (Nat → Int64) × (Nat → Int64)) => post r u.1 u.2.1 u.2.2.1 u.2.2.2) (rw_B D A (fun (u : (Nat → Int32) × (Nat → Int32) × (Nat → Int64) × (Nat → Int64)) => [(a_mo, oX8 a_moR mo_e mo_f mo_codes mo_most mo_minus mo_low mo_function mo_atX mo_atM a_moK a_moH a_moS mo_spanFunction mo_spanRounding mo_spanMany a_moF a_moT mo_parts mo_shift a_moP a_moQ a_moA a_moB a_moD), (a_moP, .inl (cI, 256, .inl u.1)), (a_moQ, .inl (cI, 256, .inl u.2.1)), (a_moA, .inl (cJ, 256, .inr (.inl u.2.2.1))), (a_moB, .inl (cJ, 256, .inr (.inl u.2.2.2))), (a_moD, .inl (cJ, 256, .inr (.inl moD_r)))])) A) 0 0 A := by
  refine Met.ofW (cc := cX8_flat) (maxL := 4) (ret := (some .int)) (by decide) rfl ?_
  intro p e s m args below meth c s₁ B hml hv
  obtain ⟨hargs, hsz, hP, hK, hN, hD0⟩ := hv
  have hx := B.exec
  have hb := B.bytes
  have hr := B.returns
  have hts : ∀ w ∈ wsL_law, w.before args s = true := fun w h => atoms_spec (ws := w_X8_flat) B.pre w (List.mem_cons_of_mem _ h)
  have hown : s.vm.findClass RX8 = some m.cls := findClass_of_methodNamed B.named
  have hlocks := B.notSynchronized
  subst hsz
  have hD : va_D A [(a_mo, oX8 a_moR mo_e mo_f mo_codes mo_most mo_minus mo_low mo_function mo_atX mo_atM a_moK a_moH a_moS mo_spanFunction mo_spanRounding mo_spanMany a_moF a_moT mo_parts mo_shift a_moP a_moQ a_moA a_moB a_moD), (a_moP, .inl (cI, 256, .inl moP_r)), (a_moQ, .inl (cI, 256, .inl moQ_r)), (a_moA, .inl (cJ, 256, .inr (.inl moA_r))), (a_moB, .inl (cJ, 256, .inr (.inl moB_r))), (a_moD, .inl (cJ, 256, .inr (.inl moD_r)))] := by rw [hAe]; exact hD0.self
  have hA : ∀ q : Nat, s.heap.size ≤ q → A q := fun q h => by rw [hAe]; exact Or.inr h
  have hS : va_S A s.heap s.heap [] := va_S.rf
  have hl := lv_entry ([.ref a_mo, .int p1, .int p2]) (n := 4) (Nat.le_of_ble_eq_true rfl)
  rw [hargs, lg_entry_eq, ← hargs]
  generalize (lg_sl ([.ref a_mo, .int p1, .int p2]) ++ List.replicate (4 - (lg_sl ([.ref a_mo, .int p1, .int p2])).length) Slot.unset).toArray = ls at hl ⊢
  replace hl : lv_has ls 4 [(0, .ref a_mo), (1, .int p1), (2, .int p2)] := hl
  have hRf : ∀ n, n ≤ 1 → n ≤ (headSpec w_X8_flat ({ frames := 1, cells := 0, slots := 0, locals := 26 } : Room)).room.frames := fun n h => h
  have hRl : ∀ n, n ≤ 26 → n ≤ (headSpec w_X8_flat ({ frames := 1, cells := 0, slots := 0, locals := 26 } : Room)).room.locals := fun n h => h
  generalize (headSpec w_X8_flat ({ frames := 1, cells := 0, slots := 0, locals := 26 } : Room)).room = R at hRf hRl ⊢
  generalize hQ : MQ below _ args s 0 0 _ = Q
  have C_29 : ∀ (moP_r : Nat → Int32) (moQ_r : Nat → Int32) (moA_r : Nat → Int64) (moB_r : Nat → Int64) (x3 : Int32) (H : Heap) (locs : List Loc) (ls : Array Slot), wp_X8_flat_29 post  mo_parts moP_r moQ_r moA_r moB_r moD_r p1 x3 → va_P D vwCl [(a_mo, oX8 a_moR mo_e mo_f mo_codes mo_most mo_minus mo_low mo_function mo_atX mo_atM a_moK a_moH a_moS mo_spanFunction mo_spanRounding mo_spanMany a_moF a_moT mo_parts mo_shift a_moP a_moQ a_moA a_moB a_moD), (a_moP, .inl (cI, 256, .inl moP_r)), (a_moQ, .inl (cI, 256, .inl moQ_r)), (a_moA, .inl (cJ, 256, .inr (.inl moA_r))), (a_moB, .inl (cJ, 256, .inr (.inl moB_r))), (a_moD, .inl (cJ, 256, .inr (.inl moD_r)))] H → va_D A [(a_mo, oX8 a_moR mo_e mo_f mo_codes mo_most mo_minus mo_low mo_function mo_atX mo_atM a_moK a_moH a_moS mo_spanFunction mo_spanRounding mo_spanMany a_moF a_moT mo_parts mo_shift a_moP a_moQ a_moA a_moB a_moD), (a_moP, .inl (cI, 256, .inl moP_r)), (a_moQ, .inl (cI, 256, .inl moQ_r)), (a_moA, .inl (cJ, 256, .inr (.inl moA_r))), (a_moB, .inl (cJ, 256, .inr (.inl moB_r))), (a_moD, .inl (cJ, 256, .inr (.inl moD_r)))] → va_S A s.heap H locs → lv_has ls 4 [(0, .ref a_mo), (1, .int p1), (3, .int x3)] → W p l e R s m args below meth c H locs 0 0 Q (F0 m 29 ls []) := by
    intro moP_r moQ_r moA_r moB_r x3 H locs ls ho hP hD hS hl
    unfold wp_X8_flat_29 at ho
    refine lv_aload_n hx hb dX8_flat_29 rfl (lv_at hl 0 rfl) ?_
    refine lv_iload_n hx hb dX8_flat_30 rfl (lv_at hl 1 rfl) ?_
    refine lv_iload_n hx hb dX8_flat_31 rfl (lv_at hl 2 rfl) ?_
    refine lv_iconst (v := 1) hx hb dX8_flat_32 (by decide) ?_
    refine lv_isub hx hb dX8_flat_33 ?_
    refine lv_aload_n hx hb dX8_flat_34 rfl (lv_at hl 0 rfl) ?_
    refine va_get (D := D) (ci := 7) (v := .ref a_moD) (C := RX8) (T := TX8) (N := 25) hx hb hts inlX8 hown hK hP 0 rfl rfl 24 (by decide) (hts _ wl_111) (fun _ h9 => h9) rfl dX8_flat_35 ?_
    refine lv_iload_n hx hb dX8_flat_38 rfl (lv_at hl 1 rfl) ?_
    have o_39 := ho.1
    replace ho := ho.2
    refine va_lald hx hb hK hP 5 1 rfl rfl o_39 dX8_flat_39 ?_
    refine lv_lconst (v := 0) hx hb dX8_flat_40 (by decide) ?_
    refine ca_Wv (b := a_mo) (As := [.int p1, .int (x3 - (1 : Int32)), .long (moD_r p1.toNatClampNeg), .long (0 : Int64)]) (rest := []) (wr := [(a_moD, .inl (cJ, 256, .inr (.inl moD_r)))]) (wo := fun (u : (Nat → Int32) × (Nat → Int32) × (Nat → Int64) × (Nat → Int64)) => [(a_mo, oX8 a_moR mo_e mo_f mo_codes mo_most mo_minus mo_low mo_function mo_atX mo_atM a_moK a_moH a_moS mo_spanFunction mo_spanRounding mo_spanMany a_moF a_moT mo_parts mo_shift a_moP a_moQ a_moA a_moB a_moD), (a_moP, .inl (cI, 256, .inl u.1)), (a_moQ, .inl (cI, 256, .inl u.2.1)), (a_moA, .inl (cJ, 256, .inr (.inl u.2.2.1))), (a_moB, .inl (cJ, 256, .inr (.inl u.2.2.2)))]) (wn := fun (u : (Nat → Int32) × (Nat → Int32) × (Nat → Int64) × (Nat → Int64)) => [(a_mo, oX8 a_moR mo_e mo_f mo_codes mo_most mo_minus mo_low mo_function mo_atX mo_atM a_moK a_moH a_moS mo_spanFunction mo_spanRounding mo_spanMany a_moF a_moT mo_parts mo_shift a_moP a_moQ a_moA a_moB a_moD), (a_moP, .inl (cI, 256, .inl u.1)), (a_moQ, .inl (cI, 256, .inl u.2.1)), (a_moA, .inl (cJ, 256, .inr (.inl u.2.2.1))), (a_moB, .inl (cJ, 256, .inr (.inl u.2.2.2))), (a_moD, .inl (cJ, 256, .inr (.inl moD_r)))]) ⟨hx, hb, hml, hown, hts⟩ (c_X8_lays l D cI cJ cZ a_mo a_moR a_moK a_moH a_moS a_moF a_moT a_moP a_moQ a_moA a_moB a_moD H.size mo_e mo_f mo_codes mo_most mo_minus mo_low mo_function mo_atX mo_atM mo_spanFunction mo_spanRounding mo_spanMany mo_parts mo_shift moP_r moQ_r moA_r moB_r p1 (x3 - (1 : Int32)) (moD_r p1.toNatClampNeg) (0 : Int64) _ _ rfl ho) (cwV 4 hts (gdV wl_716 wl_717 wl_718 wl_5 wl_719) rfl rfl rfl (by decide +kernel) ⟨hRf _ (Nat.le_of_ble_eq_true rfl), hRl _ (Nat.le_of_ble_eq_true rfl)⟩) hK hN hP hD hS hA [0, 1, 2, 3, 4] [5] [1, 2, 3, 4, 5, 0] rfl rfl (by decide) (by decide) (by decide) (by decide) (fun _ => rfl) 0 7 rfl rfl rfl rfl hl.1 rfl (Nat.le_of_ble_eq_true rfl) dX8_flat_41 ⟨Nat.zero_le _, Nat.zero_le _⟩ (fun  u41 H locs ho hP hD hS => ?_)
    obtain ⟨u41_1, u41_2, u41_3, u41_4⟩ := u41
    try dsimp only at ho
    replace hP : va_P D vwCl [(a_mo, oX8 a_moR mo_e mo_f mo_codes mo_most mo_minus mo_low mo_function mo_atX mo_atM a_moK a_moH a_moS mo_spanFunction mo_spanRounding mo_spanMany a_moF a_moT mo_parts mo_shift a_moP a_moQ a_moA a_moB a_moD), (a_moP, .inl (cI, 256, .inl u41_1)), (a_moQ, .inl (cI, 256, .inl u41_2)), (a_moA, .inl (cJ, 256, .inr (.inl u41_3))), (a_moB, .inl (cJ, 256, .inr (.inl u41_4))), (a_moD, .inl (cJ, 256, .inr (.inl moD_r)))] H := hP
    replace hD : va_D A [(a_mo, oX8 a_moR mo_e mo_f mo_codes mo_most mo_minus mo_low mo_function mo_atX mo_atM a_moK a_moH a_moS mo_spanFunction mo_spanRounding mo_spanMany a_moF a_moT mo_parts mo_shift a_moP a_moQ a_moA a_moB a_moD), (a_moP, .inl (cI, 256, .inl u41_1)), (a_moQ, .inl (cI, 256, .inl u41_2)), (a_moA, .inl (cJ, 256, .inr (.inl u41_3))), (a_moB, .inl (cJ, 256, .inr (.inl u41_4))), (a_moD, .inl (cJ, 256, .inr (.inl moD_r)))] := hD
    refine lv_iload_n hx hb dX8_flat_44 rfl (lv_at hl 2 rfl) ?_
    subst hQ; exact W.iret (v := x3) hx hb hr (fun t ht hW => ⟨⟨x3, (u41_1, u41_2, u41_3, u41_4), rfl, ho, by rw [ht]; exact hP, hD⟩, hS.F ht⟩) (fun q hq => hS.2.2 q hq) dX8_flat_45
  have C_2 : ∀ n : Nat, ∀ (moP_r : Nat → Int32) (moQ_r : Nat → Int32) (moA_r : Nat → Int64) (moB_r : Nat → Int64) (x3 : Int32) (H : Heap) (locs : List Loc) (ls : Array Slot), wp_X8_flat_2 post  mo_parts moD_r p1 p2 n moP_r moQ_r moA_r moB_r x3 → va_P D vwCl [(a_mo, oX8 a_moR mo_e mo_f mo_codes mo_most mo_minus mo_low mo_function mo_atX mo_atM a_moK a_moH a_moS mo_spanFunction mo_spanRounding mo_spanMany a_moF a_moT mo_parts mo_shift a_moP a_moQ a_moA a_moB a_moD), (a_moP, .inl (cI, 256, .inl moP_r)), (a_moQ, .inl (cI, 256, .inl moQ_r)), (a_moA, .inl (cJ, 256, .inr (.inl moA_r))), (a_moB, .inl (cJ, 256, .inr (.inl moB_r))), (a_moD, .inl (cJ, 256, .inr (.inl moD_r)))] H → va_D A [(a_mo, oX8 a_moR mo_e mo_f mo_codes mo_most mo_minus mo_low mo_function mo_atX mo_atM a_moK a_moH a_moS mo_spanFunction mo_spanRounding mo_spanMany a_moF a_moT mo_parts mo_shift a_moP a_moQ a_moA a_moB a_moD), (a_moP, .inl (cI, 256, .inl moP_r)), (a_moQ, .inl (cI, 256, .inl moQ_r)), (a_moA, .inl (cJ, 256, .inr (.inl moA_r))), (a_moB, .inl (cJ, 256, .inr (.inl moB_r))), (a_moD, .inl (cJ, 256, .inr (.inl moD_r)))] → va_S A s.heap H locs → lv_has ls 4 [(0, .ref a_mo), (1, .int p1), (2, .int p2), (3, .int x3)] → W p l e R s m args below meth c H locs 0 0 Q (F0 m 2 ls []) := by
    intro n
    induction n with
    | zero => intro moP_r moQ_r moA_r moB_r x3 H locs ls ho hP hD hS hl; exact ho.elim
    | succ n_2 ih_2 =>
      intro moP_r moQ_r moA_r moB_r x3 H locs ls ho hP hD hS hl
      replace ho : wp_X8_flat_2_b post mo_parts moD_r p1 p2 (wp_X8_flat_2 post mo_parts moD_r p1 p2 n_2) moP_r moQ_r moA_r moB_r x3 := ho
      unfold wp_X8_flat_2_b at ho
      refine lv_iload_n hx hb dX8_flat_2 rfl (lv_at hl 3 rfl) ?_
      refine lv_iload_n hx hb dX8_flat_3 rfl (lv_at hl 2 rfl) ?_
      refine lv_icmp_ge (tgt := 29) hx hb dX8_flat_4 (by decide) (fun c_4 => ?_) (fun c_4 => ?_)
      · replace ho := ho.1 c_4
        exact C_29 moP_r moQ_r moA_r moB_r x3 H locs ls ho hP hD hS (lv_sub hl [0, 1, 3] rfl)
      · replace ho := ho.2 c_4
        refine lv_aload_n hx hb dX8_flat_7 rfl (lv_at hl 0 rfl) ?_
        refine va_get (D := D) (ci := 7) (v := .ref a_moD) (C := RX8) (T := TX8) (N := 25) hx hb hts inlX8 hown hK hP 0 rfl rfl 24 (by decide) (hts _ wl_111) (fun _ h9 => h9) rfl dX8_flat_8 ?_
        refine lv_iload_n hx hb dX8_flat_11 rfl (lv_at hl 3 rfl) ?_
        have o_12 := ho.1
        replace ho := ho.2
        refine va_lald hx hb hK hP 5 1 rfl rfl o_12 dX8_flat_12 ?_
        refine lv_aload_n hx hb dX8_flat_13 rfl (lv_at hl 0 rfl) ?_
        refine va_get (D := D) (ci := 7) (v := .ref a_moD) (C := RX8) (T := TX8) (N := 25) hx hb hts inlX8 hown hK hP 0 rfl rfl 24 (by decide) (hts _ wl_111) (fun _ h9 => h9) rfl dX8_flat_14 ?_
        refine lv_iload_n hx hb dX8_flat_17 rfl (lv_at hl 1 rfl) ?_
        have o_18 := ho.1
        replace ho := ho.2
        refine va_lald hx hb hK hP 5 1 rfl rfl o_18 dX8_flat_18 ?_
        refine W.lcmp hx hb dX8_flat_19 ?_
        refine lv_if_ne (tgt := 29) hx hb dX8_flat_20 (by decide) (fun c_20 => ?_) (fun c_20 => ?_)
        · replace ho := ho.1 c_20
          exact C_29 moP_r moQ_r moA_r moB_r x3 H locs ls ho hP hD hS (lv_sub hl [0, 1, 3] rfl)
        · replace ho := ho.2 c_20
          refine lv_iinc (v := (x3 + (1 : Int32))) (lv' := [(3, .int (x3 + (1 : Int32))), (0, .ref a_mo), (1, .int p1), (2, .int p2)]) hx hb dX8_flat_23 hl (k := 3) rfl rfl (by decide) rfl (fun ls hl => ?_)
          refine lv_goto (tgt := 2) hx hb dX8_flat_26 (by decide) ?_
          exact ih_2 moP_r moQ_r moA_r moB_r (x3 + (1 : Int32)) H locs ls ho hP hD hS (lv_sub hl [1, 2, 3, 0] rfl)
  suffices main : ∀ (H : Heap) (locs : List Loc), va_P D vwCl [(a_mo, oX8 a_moR mo_e mo_f mo_codes mo_most mo_minus mo_low mo_function mo_atX mo_atM a_moK a_moH a_moS mo_spanFunction mo_spanRounding mo_spanMany a_moF a_moT mo_parts mo_shift a_moP a_moQ a_moA a_moB a_moD), (a_moP, .inl (cI, 256, .inl moP_r)), (a_moQ, .inl (cI, 256, .inl moQ_r)), (a_moA, .inl (cJ, 256, .inr (.inl moA_r))), (a_moB, .inl (cJ, 256, .inr (.inl moB_r))), (a_moD, .inl (cJ, 256, .inr (.inl moD_r)))] H → va_S A s.heap H locs → W p l e R s m args below meth c H locs 0 0 Q (F0 m 0 ls []) from main _ _ hP hS
  intro H locs hP hS
  unfold wp_X8_flat at ho
  refine lv_iload_n hx hb dX8_flat_0 rfl (lv_at hl 1 rfl) ?_
  refine lv_istore_n (lv' := [(3, .int p1), (0, .ref a_mo), (1, .int p1), (2, .int p2)]) hx hb dX8_flat_1 rfl hl (by decide) rfl (fun ls hl => ?_)
  obtain ⟨n_2, ho⟩ := ho
  exact C_2 n_2 moP_r moQ_r moA_r moB_r p1 H locs ls ho hP hD hS (lv_sub hl [1, 2, 3, 0] rfl)
