def w_X8_part : List Cond := .code yX8_part cX8_part 3 (some .int) :: wsL_law
set_option maxHeartbeats 4000000 in
set_option maxRecDepth 100000 in
theorem c_X8_part (l : Launch) (D : va_G) (cI cJ cZ : ClassId) (a_mo : Nat) (a_moR : Nat) (a_moK : Nat) (a_moH : Nat) (a_moS : Nat) (a_moF : Nat) (a_moT : Nat) (a_moP : Nat) (a_moQ : Nat) (a_moA : Nat) (a_moB : Nat) (a_moD : Nat) (sz : Nat) (mo_e : Int32) (mo_f : Int32) (mo_codes : Int32) (mo_most : Int32) (mo_minus : Int32) (mo_low : Int32) (mo_function : Int32) (mo_atX : Int32) (mo_atM : Int64) (mo_spanFunction : Int32) (mo_spanRounding : Int32) (mo_spanMany : Int32) (mo_parts : Int32) (mo_shift : Int32) (moR_r : Nat → Int32) (moP_r : Nat → Int32) (moQ_r : Nat → Int32) (moA_r : Nat → Int64) (moB_r : Nat → Int64) (p1 : Int32) (p2 : Int32) (post : Int32 → (Nat → Int32) → Prop) (A : Nat → Prop) (hAe : A = va_A [(a_mo, oX8 a_moR mo_e mo_f mo_codes mo_most mo_minus mo_low mo_function mo_atX mo_atM a_moK a_moH a_moS mo_spanFunction mo_spanRounding mo_spanMany a_moF a_moT mo_parts mo_shift a_moP a_moQ a_moA a_moB a_moD), (a_moR, .inl (cI, 7, .inl moR_r)), (a_moP, .inl (cI, 256, .inl moP_r)), (a_moQ, .inl (cI, 256, .inl moQ_r)), (a_moA, .inl (cJ, 256, .inr (.inl moA_r))), (a_moB, .inl (cJ, 256, .inr (.inl moB_r)))] sz) (ho : wp_X8_part post mo_parts moR_r moP_r moQ_r moA_r moB_r p1 p2) : Met l yX8_part w_X8_part ({ frames := 2, cells := 0, slots := 0, locals := 42 } : Room) (rw_P D [(cI, .int), (cJ, .long), (cZ, .boolean)] [.ref a_mo, .int p1, .int p2] sz [(a_mo, oX8 a_moR mo_e mo_f mo_codes mo_most mo_minus mo_low mo_function mo_atX mo_atM a_moK a_moH a_moS mo_spanFunction mo_spanRounding mo_spanMany a_moF a_moT mo_parts mo_shift a_moP a_moQ a_moA a_moB a_moD), (a_moR, .inl (cI, 7, .inl moR_r)), (a_moP, .inl (cI, 256, .inl moP_r)), (a_moQ, .inl (cI, 256, .inl moQ_r)), (a_moA, .inl (cJ, 256, .inr (.inl moA_r))), (a_moB, .inl (cJ, 256, .inr (.inl moB_r)))]) (va_Qi (fun (r : Int32) (u : (Nat → Int32)) => post r u) (rw_B D A (fun (u : (Nat → Int32)) => [(a_mo, oX8 a_moR mo_e mo_f mo_codes mo_most mo_minus mo_low mo_function mo_atX mo_atM a_moK a_moH a_moS mo_spanFunction mo_spanRounding mo_spanMany a_moF a_moT mo_parts mo_shift a_moP a_moQ a_moA a_moB a_moD), (a_moR, .inl (cI, 7, .inl u)), (a_moP, .inl (cI, 256, .inl moP_r)), (a_moQ, .inl (cI, 256, .inl moQ_r)), (a_moA, .inl (cJ, 256, .inr (.inl moA_r))), (a_moB, .inl (cJ, 256, .inr (.inl moB_r)))])) A) 0 0 A := by
  refine Met.ofW (cc := cX8_part) (maxL := 3) (ret := (some .int)) (by decide) rfl ?_
  intro p e s m args below meth c s₁ B hml hv
  obtain ⟨hargs, hsz, hP, hK, hN, hD0⟩ := hv
  have hx := B.exec
  have hb := B.bytes
  have hr := B.returns
  have hts : ∀ w ∈ wsL_law, w.before args s = true := fun w h => atoms_spec (ws := w_X8_part) B.pre w (List.mem_cons_of_mem _ h)
  have hown : s.vm.findClass RX8 = some m.cls := findClass_of_methodNamed B.named
  have hlocks := B.notSynchronized
  subst hsz
  have hD : va_D A [(a_mo, oX8 a_moR mo_e mo_f mo_codes mo_most mo_minus mo_low mo_function mo_atX mo_atM a_moK a_moH a_moS mo_spanFunction mo_spanRounding mo_spanMany a_moF a_moT mo_parts mo_shift a_moP a_moQ a_moA a_moB a_moD), (a_moR, .inl (cI, 7, .inl moR_r)), (a_moP, .inl (cI, 256, .inl moP_r)), (a_moQ, .inl (cI, 256, .inl moQ_r)), (a_moA, .inl (cJ, 256, .inr (.inl moA_r))), (a_moB, .inl (cJ, 256, .inr (.inl moB_r)))] := by rw [hAe]; exact hD0.self
  have hA : ∀ q : Nat, s.heap.size ≤ q → A q := fun q h => by rw [hAe]; exact Or.inr h
  have hS : va_S A s.heap s.heap [] := va_S.rf
  have hl := lv_entry ([.ref a_mo, .int p1, .int p2]) (n := 3) (Nat.le_of_ble_eq_true rfl)
  rw [hargs, lg_entry_eq, ← hargs]
  generalize (lg_sl ([.ref a_mo, .int p1, .int p2]) ++ List.replicate (3 - (lg_sl ([.ref a_mo, .int p1, .int p2])).length) Slot.unset).toArray = ls at hl ⊢
  replace hl : lv_has ls 3 [(0, .ref a_mo), (1, .int p1), (2, .int p2)] := hl
  have hRf : ∀ n, n ≤ 2 → n ≤ (headSpec w_X8_part ({ frames := 2, cells := 0, slots := 0, locals := 42 } : Room)).room.frames := fun n h => h
  have hRl : ∀ n, n ≤ 42 → n ≤ (headSpec w_X8_part ({ frames := 2, cells := 0, slots := 0, locals := 42 } : Room)).room.locals := fun n h => h
  generalize (headSpec w_X8_part ({ frames := 2, cells := 0, slots := 0, locals := 42 } : Room)).room = R at hRf hRl ⊢
  generalize hQ : MQ below _ args s 0 0 _ = Q
  suffices main : ∀ (H : Heap) (locs : List Loc), va_P D vwCl [(a_mo, oX8 a_moR mo_e mo_f mo_codes mo_most mo_minus mo_low mo_function mo_atX mo_atM a_moK a_moH a_moS mo_spanFunction mo_spanRounding mo_spanMany a_moF a_moT mo_parts mo_shift a_moP a_moQ a_moA a_moB a_moD), (a_moR, .inl (cI, 7, .inl moR_r)), (a_moP, .inl (cI, 256, .inl moP_r)), (a_moQ, .inl (cI, 256, .inl moQ_r)), (a_moA, .inl (cJ, 256, .inr (.inl moA_r))), (a_moB, .inl (cJ, 256, .inr (.inl moB_r)))] H → va_S A s.heap H locs → W p l e R s m args below meth c H locs 0 0 Q (F0 m 0 ls []) from main _ _ hP hS
  intro H locs hP hS
  unfold wp_X8_part at ho
  refine lv_aload_n hx hb dX8_part_0 rfl (lv_at hl 0 rfl) ?_
  refine va_get (D := D) (ci := 7) (v := .int mo_parts) (C := RX8) (T := TX8) (N := 25) hx hb hts inlX8 hown hK hP 0 rfl rfl 18 (by decide) (hts _ wl_122) (fun _ h9 => h9) rfl dX8_part_1 ?_
  refine lv_if_ge (tgt := 14) hx hb dX8_part_4 (by decide) (fun c_4 => ?_) (fun c_4 => ?_)
  · replace ho := ho.1 c_4
    refine lv_iload_n hx hb dX8_part_14 rfl (lv_at hl 1 rfl) ?_
    refine lv_aload_n hx hb dX8_part_15 rfl (lv_at hl 0 rfl) ?_
    refine va_get (D := D) (ci := 7) (v := .int mo_parts) (C := RX8) (T := TX8) (N := 25) hx hb hts inlX8 hown hK hP 0 rfl rfl 18 (by decide) (hts _ wl_122) (fun _ h9 => h9) rfl dX8_part_16 ?_
    refine ca_Si (As := [.int p1, .int mo_parts]) (rest := []) ⟨hx, hb, hml, hown, hts⟩ (c_X8_isIn l D cI cJ cZ   p1 mo_parts _ ho) (va_cwS 2 hts (gdS wl_254 wl_255 wl_5 wl_256) rfl rfl rfl (by decide +kernel) ⟨hRf _ (Nat.le_of_ble_eq_true rfl), hRl _ (Nat.le_of_ble_eq_true rfl)⟩) hK hN hP [] rfl rfl hl.1 rfl (Nat.le_of_ble_eq_true rfl) dX8_part_19 ⟨Nat.zero_le _, Nat.zero_le _⟩ (fun r19 ho => ?_)
    refine lv_if_ne (tgt := 31) hx hb dX8_part_22 (by decide) (fun c_22 => ?_) (fun c_22 => ?_)
    · replace ho := ho.1 c_22
      refine lv_iload_n hx hb dX8_part_31 rfl (lv_at hl 2 rfl) ?_
      refine lv_topi (fun z_32 ez_32 => ?_)
      by_cases n_32_0 : z_32 = 0
      · replace ho := ho.1 (ez_32.symm.trans n_32_0)
        subst n_32_0
        refine lv_tableIn (tgt := 64) hx hb dX8_part_32 (by decide) (by decide) rfl (by decide) ?_
        refine lv_aload_n hx hb dX8_part_64 rfl (lv_at hl 0 rfl) ?_
        refine va_get (D := D) (ci := 7) (v := .ref a_moP) (C := RX8) (T := TX8) (N := 25) hx hb hts inlX8 hown hK hP 0 rfl rfl 20 (by decide) (hts _ wl_106) (fun _ h9 => h9) rfl dX8_part_65 ?_
        refine lv_iload_n hx hb dX8_part_68 rfl (lv_at hl 1 rfl) ?_
        have o_69 := ho.1
        replace ho := ho.2
        refine va_iald hx hb hK hP 2 0 rfl rfl o_69 dX8_part_69 ?_
        subst hQ; exact W.iret (v := (moP_r p1.toNatClampNeg)) hx hb hr (fun t ht hW => ⟨⟨(moP_r p1.toNatClampNeg), moR_r, rfl, ho, by rw [ht]; exact hP, hD⟩, hS.F ht⟩) (fun q hq => hS.2.2 q hq) dX8_part_70
      replace ho := ho.2 (fun h => n_32_0 (ez_32.trans h))
      by_cases n_32_1 : z_32 = 1
      · replace ho := ho.1 (ez_32.symm.trans n_32_1)
        subst n_32_1
        refine lv_tableIn (tgt := 71) hx hb dX8_part_32 (by decide) (by decide) rfl (by decide) ?_
        refine lv_aload_n hx hb dX8_part_71 rfl (lv_at hl 0 rfl) ?_
        refine va_get (D := D) (ci := 7) (v := .ref a_moQ) (C := RX8) (T := TX8) (N := 25) hx hb hts inlX8 hown hK hP 0 rfl rfl 21 (by decide) (hts _ wl_107) (fun _ h9 => h9) rfl dX8_part_72 ?_
        refine lv_iload_n hx hb dX8_part_75 rfl (lv_at hl 1 rfl) ?_
        have o_76 := ho.1
        replace ho := ho.2
        refine va_iald hx hb hK hP 3 0 rfl rfl o_76 dX8_part_76 ?_
        subst hQ; exact W.iret (v := (moQ_r p1.toNatClampNeg)) hx hb hr (fun t ht hW => ⟨⟨(moQ_r p1.toNatClampNeg), moR_r, rfl, ho, by rw [ht]; exact hP, hD⟩, hS.F ht⟩) (fun q hq => hS.2.2 q hq) dX8_part_77
      replace ho := ho.2 (fun h => n_32_1 (ez_32.trans h))
      by_cases n_32_2 : z_32 = 2
      · replace ho := ho.1 (ez_32.symm.trans n_32_2)
        subst n_32_2
        refine lv_tableIn (tgt := 78) hx hb dX8_part_32 (by decide) (by decide) rfl (by decide) ?_
        refine lv_aload_n hx hb dX8_part_78 rfl (lv_at hl 0 rfl) ?_
        refine va_get (D := D) (ci := 7) (v := .ref a_moA) (C := RX8) (T := TX8) (N := 25) hx hb hts inlX8 hown hK hP 0 rfl rfl 22 (by decide) (hts _ wl_109) (fun _ h9 => h9) rfl dX8_part_79 ?_
        refine lv_iload_n hx hb dX8_part_82 rfl (lv_at hl 1 rfl) ?_
        have o_83 := ho.1
        replace ho := ho.2
        refine va_lald hx hb hK hP 4 1 rfl rfl o_83 dX8_part_83 ?_
        refine lv_l2i hx hb dX8_part_84 rfl ?_
        subst hQ; exact W.iret (v := (moA_r p1.toNatClampNeg).toInt32) hx hb hr (fun t ht hW => ⟨⟨(moA_r p1.toNatClampNeg).toInt32, moR_r, rfl, ho, by rw [ht]; exact hP, hD⟩, hS.F ht⟩) (fun q hq => hS.2.2 q hq) dX8_part_85
      replace ho := ho.2 (fun h => n_32_2 (ez_32.trans h))
      by_cases n_32_3 : z_32 = 3
      · replace ho := ho.1 (ez_32.symm.trans n_32_3)
        subst n_32_3
        refine lv_tableIn (tgt := 86) hx hb dX8_part_32 (by decide) (by decide) rfl (by decide) ?_
        refine lv_aload_n hx hb dX8_part_86 rfl (lv_at hl 0 rfl) ?_
        refine va_get (D := D) (ci := 7) (v := .ref a_moB) (C := RX8) (T := TX8) (N := 25) hx hb hts inlX8 hown hK hP 0 rfl rfl 23 (by decide) (hts _ wl_110) (fun _ h9 => h9) rfl dX8_part_87 ?_
        refine lv_iload_n hx hb dX8_part_90 rfl (lv_at hl 1 rfl) ?_
        have o_91 := ho.1
        replace ho := ho.2
        refine va_lald hx hb hK hP 5 1 rfl rfl o_91 dX8_part_91 ?_
        refine lv_l2i hx hb dX8_part_92 rfl ?_
        subst hQ; exact W.iret (v := (moB_r p1.toNatClampNeg).toInt32) hx hb hr (fun t ht hW => ⟨⟨(moB_r p1.toNatClampNeg).toInt32, moR_r, rfl, ho, by rw [ht]; exact hP, hD⟩, hS.F ht⟩) (fun q hq => hS.2.2 q hq) dX8_part_93
      replace ho := ho.2 (fun h => n_32_3 (ez_32.trans h))
      refine lv_tableOut (tgt := 94) hx hb dX8_part_32 (by have q_32_0 := lv_neT (a := 0) n_32_0 rfl; have q_32_1 := lv_neT (a := 1) n_32_1 rfl; have q_32_2 := lv_neT (a := 2) n_32_2 rfl; have q_32_3 := lv_neT (a := 3) n_32_3 rfl; omega) (by decide) ?_
      refine lv_aload_n hx hb dX8_part_94 rfl (lv_at hl 0 rfl) ?_
      refine lv_bipush (v := (-2)) hx hb dX8_part_95 (by decide) ?_
      refine ca_Wi (b := a_mo) (As := [.int (-2 : Int32)]) (rest := []) (wr := [(a_moP, .inl (cI, 256, .inl moP_r)), (a_moQ, .inl (cI, 256, .inl moQ_r)), (a_moA, .inl (cJ, 256, .inr (.inl moA_r))), (a_moB, .inl (cJ, 256, .inr (.inl moB_r)))]) (wo := fun (u : (Nat → Int32)) => [(a_mo, oX8 a_moR mo_e mo_f mo_codes mo_most mo_minus mo_low mo_function mo_atX mo_atM a_moK a_moH a_moS mo_spanFunction mo_spanRounding mo_spanMany a_moF a_moT mo_parts mo_shift a_moP a_moQ a_moA a_moB a_moD), (a_moR, .inl (cI, 7, .inl u))]) (wn := fun (u : (Nat → Int32)) => [(a_mo, oX8 a_moR mo_e mo_f mo_codes mo_most mo_minus mo_low mo_function mo_atX mo_atM a_moK a_moH a_moS mo_spanFunction mo_spanRounding mo_spanMany a_moF a_moT mo_parts mo_shift a_moP a_moQ a_moA a_moB a_moD), (a_moR, .inl (cI, 7, .inl u)), (a_moP, .inl (cI, 256, .inl moP_r)), (a_moQ, .inl (cI, 256, .inl moQ_r)), (a_moA, .inl (cJ, 256, .inr (.inl moA_r))), (a_moB, .inl (cJ, 256, .inr (.inl moB_r)))]) ⟨hx, hb, hml, hown, hts⟩ (c_X8_refuseFar l D cI cJ cZ a_mo a_moR a_moK a_moH a_moS a_moF a_moT a_moP a_moQ a_moA a_moB a_moD H.size mo_e mo_f mo_codes mo_most mo_minus mo_low mo_function mo_atX mo_atM mo_spanFunction mo_spanRounding mo_spanMany mo_parts mo_shift moR_r (-2 : Int32) _ _ rfl ho) (cwV 1 hts (gdV wl_257 wl_258 wl_259 wl_5 wl_260) rfl rfl rfl (by decide +kernel) ⟨hRf _ (Nat.le_of_ble_eq_true rfl), hRl _ (Nat.le_of_ble_eq_true rfl)⟩) hK hN hP hD hS hA [0, 1] [2, 3, 4, 5] [4, 5, 0, 1, 2, 3] rfl rfl (by decide) (by decide) (by decide) (by decide) (fun _ => rfl) 0 7 rfl rfl rfl rfl hl.1 rfl (Nat.le_of_ble_eq_true rfl) dX8_part_97 ⟨Nat.zero_le _, Nat.zero_le _⟩ (fun r97 u97 H locs ho hP hD hS => ?_)
      try dsimp only at ho
      replace hP : va_P D vwCl [(a_mo, oX8 a_moR mo_e mo_f mo_codes mo_most mo_minus mo_low mo_function mo_atX mo_atM a_moK a_moH a_moS mo_spanFunction mo_spanRounding mo_spanMany a_moF a_moT mo_parts mo_shift a_moP a_moQ a_moA a_moB a_moD), (a_moR, .inl (cI, 7, .inl u97)), (a_moP, .inl (cI, 256, .inl moP_r)), (a_moQ, .inl (cI, 256, .inl moQ_r)), (a_moA, .inl (cJ, 256, .inr (.inl moA_r))), (a_moB, .inl (cJ, 256, .inr (.inl moB_r)))] H := hP
      replace hD : va_D A [(a_mo, oX8 a_moR mo_e mo_f mo_codes mo_most mo_minus mo_low mo_function mo_atX mo_atM a_moK a_moH a_moS mo_spanFunction mo_spanRounding mo_spanMany a_moF a_moT mo_parts mo_shift a_moP a_moQ a_moA a_moB a_moD), (a_moR, .inl (cI, 7, .inl u97)), (a_moP, .inl (cI, 256, .inl moP_r)), (a_moQ, .inl (cI, 256, .inl moQ_r)), (a_moA, .inl (cJ, 256, .inr (.inl moA_r))), (a_moB, .inl (cJ, 256, .inr (.inl moB_r)))] := hD
      subst hQ; exact W.iret (v := r97) hx hb hr (fun t ht hW => ⟨⟨r97, u97, rfl, ho, by rw [ht]; exact hP, hD⟩, hS.F ht⟩) (fun q hq => hS.2.2 q hq) dX8_part_100
    · replace ho := ho.2 c_22
      refine lv_aload_n hx hb dX8_part_25 rfl (lv_at hl 0 rfl) ?_
      refine lv_iconst (v := (-1)) hx hb dX8_part_26 (by decide) ?_
      refine ca_Wi (b := a_mo) (As := [.int (-1 : Int32)]) (rest := []) (wr := [(a_moP, .inl (cI, 256, .inl moP_r)), (a_moQ, .inl (cI, 256, .inl moQ_r)), (a_moA, .inl (cJ, 256, .inr (.inl moA_r))), (a_moB, .inl (cJ, 256, .inr (.inl moB_r)))]) (wo := fun (u : (Nat → Int32)) => [(a_mo, oX8 a_moR mo_e mo_f mo_codes mo_most mo_minus mo_low mo_function mo_atX mo_atM a_moK a_moH a_moS mo_spanFunction mo_spanRounding mo_spanMany a_moF a_moT mo_parts mo_shift a_moP a_moQ a_moA a_moB a_moD), (a_moR, .inl (cI, 7, .inl u))]) (wn := fun (u : (Nat → Int32)) => [(a_mo, oX8 a_moR mo_e mo_f mo_codes mo_most mo_minus mo_low mo_function mo_atX mo_atM a_moK a_moH a_moS mo_spanFunction mo_spanRounding mo_spanMany a_moF a_moT mo_parts mo_shift a_moP a_moQ a_moA a_moB a_moD), (a_moR, .inl (cI, 7, .inl u)), (a_moP, .inl (cI, 256, .inl moP_r)), (a_moQ, .inl (cI, 256, .inl moQ_r)), (a_moA, .inl (cJ, 256, .inr (.inl moA_r))), (a_moB, .inl (cJ, 256, .inr (.inl moB_r)))]) ⟨hx, hb, hml, hown, hts⟩ (c_X8_refuseFar l D cI cJ cZ a_mo a_moR a_moK a_moH a_moS a_moF a_moT a_moP a_moQ a_moA a_moB a_moD H.size mo_e mo_f mo_codes mo_most mo_minus mo_low mo_function mo_atX mo_atM mo_spanFunction mo_spanRounding mo_spanMany mo_parts mo_shift moR_r (-1 : Int32) _ _ rfl ho) (cwV 1 hts (gdV wl_257 wl_258 wl_259 wl_5 wl_260) rfl rfl rfl (by decide +kernel) ⟨hRf _ (Nat.le_of_ble_eq_true rfl), hRl _ (Nat.le_of_ble_eq_true rfl)⟩) hK hN hP hD hS hA [0, 1] [2, 3, 4, 5] [4, 5, 0, 1, 2, 3] rfl rfl (by decide) (by decide) (by decide) (by decide) (fun _ => rfl) 0 7 rfl rfl rfl rfl hl.1 rfl (Nat.le_of_ble_eq_true rfl) dX8_part_27 ⟨Nat.zero_le _, Nat.zero_le _⟩ (fun r27 u27 H locs ho hP hD hS => ?_)
      try dsimp only at ho
      replace hP : va_P D vwCl [(a_mo, oX8 a_moR mo_e mo_f mo_codes mo_most mo_minus mo_low mo_function mo_atX mo_atM a_moK a_moH a_moS mo_spanFunction mo_spanRounding mo_spanMany a_moF a_moT mo_parts mo_shift a_moP a_moQ a_moA a_moB a_moD), (a_moR, .inl (cI, 7, .inl u27)), (a_moP, .inl (cI, 256, .inl moP_r)), (a_moQ, .inl (cI, 256, .inl moQ_r)), (a_moA, .inl (cJ, 256, .inr (.inl moA_r))), (a_moB, .inl (cJ, 256, .inr (.inl moB_r)))] H := hP
      replace hD : va_D A [(a_mo, oX8 a_moR mo_e mo_f mo_codes mo_most mo_minus mo_low mo_function mo_atX mo_atM a_moK a_moH a_moS mo_spanFunction mo_spanRounding mo_spanMany a_moF a_moT mo_parts mo_shift a_moP a_moQ a_moA a_moB a_moD), (a_moR, .inl (cI, 7, .inl u27)), (a_moP, .inl (cI, 256, .inl moP_r)), (a_moQ, .inl (cI, 256, .inl moQ_r)), (a_moA, .inl (cJ, 256, .inr (.inl moA_r))), (a_moB, .inl (cJ, 256, .inr (.inl moB_r)))] := hD
      subst hQ; exact W.iret (v := r27) hx hb hr (fun t ht hW => ⟨⟨r27, u27, rfl, ho, by rw [ht]; exact hP, hD⟩, hS.F ht⟩) (fun q hq => hS.2.2 q hq) dX8_part_30
  · replace ho := ho.2 c_4
    refine lv_aload_n hx hb dX8_part_7 rfl (lv_at hl 0 rfl) ?_
    refine lv_bipush (v := (-3)) hx hb dX8_part_8 (by decide) ?_
    refine ca_Wi (b := a_mo) (As := [.int (-3 : Int32)]) (rest := []) (wr := [(a_moP, .inl (cI, 256, .inl moP_r)), (a_moQ, .inl (cI, 256, .inl moQ_r)), (a_moA, .inl (cJ, 256, .inr (.inl moA_r))), (a_moB, .inl (cJ, 256, .inr (.inl moB_r)))]) (wo := fun (u : (Nat → Int32)) => [(a_mo, oX8 a_moR mo_e mo_f mo_codes mo_most mo_minus mo_low mo_function mo_atX mo_atM a_moK a_moH a_moS mo_spanFunction mo_spanRounding mo_spanMany a_moF a_moT mo_parts mo_shift a_moP a_moQ a_moA a_moB a_moD), (a_moR, .inl (cI, 7, .inl u))]) (wn := fun (u : (Nat → Int32)) => [(a_mo, oX8 a_moR mo_e mo_f mo_codes mo_most mo_minus mo_low mo_function mo_atX mo_atM a_moK a_moH a_moS mo_spanFunction mo_spanRounding mo_spanMany a_moF a_moT mo_parts mo_shift a_moP a_moQ a_moA a_moB a_moD), (a_moR, .inl (cI, 7, .inl u)), (a_moP, .inl (cI, 256, .inl moP_r)), (a_moQ, .inl (cI, 256, .inl moQ_r)), (a_moA, .inl (cJ, 256, .inr (.inl moA_r))), (a_moB, .inl (cJ, 256, .inr (.inl moB_r)))]) ⟨hx, hb, hml, hown, hts⟩ (c_X8_refuseFar l D cI cJ cZ a_mo a_moR a_moK a_moH a_moS a_moF a_moT a_moP a_moQ a_moA a_moB a_moD H.size mo_e mo_f mo_codes mo_most mo_minus mo_low mo_function mo_atX mo_atM mo_spanFunction mo_spanRounding mo_spanMany mo_parts mo_shift moR_r (-3 : Int32) _ _ rfl ho) (cwV 1 hts (gdV wl_257 wl_258 wl_259 wl_5 wl_260) rfl rfl rfl (by decide +kernel) ⟨hRf _ (Nat.le_of_ble_eq_true rfl), hRl _ (Nat.le_of_ble_eq_true rfl)⟩) hK hN hP hD hS hA [0, 1] [2, 3, 4, 5] [4, 5, 0, 1, 2, 3] rfl rfl (by decide) (by decide) (by decide) (by decide) (fun _ => rfl) 0 7 rfl rfl rfl rfl hl.1 rfl (Nat.le_of_ble_eq_true rfl) dX8_part_10 ⟨Nat.zero_le _, Nat.zero_le _⟩ (fun r10 u10 H locs ho hP hD hS => ?_)
    try dsimp only at ho
    replace hP : va_P D vwCl [(a_mo, oX8 a_moR mo_e mo_f mo_codes mo_most mo_minus mo_low mo_function mo_atX mo_atM a_moK a_moH a_moS mo_spanFunction mo_spanRounding mo_spanMany a_moF a_moT mo_parts mo_shift a_moP a_moQ a_moA a_moB a_moD), (a_moR, .inl (cI, 7, .inl u10)), (a_moP, .inl (cI, 256, .inl moP_r)), (a_moQ, .inl (cI, 256, .inl moQ_r)), (a_moA, .inl (cJ, 256, .inr (.inl moA_r))), (a_moB, .inl (cJ, 256, .inr (.inl moB_r)))] H := hP
    replace hD : va_D A [(a_mo, oX8 a_moR mo_e mo_f mo_codes mo_most mo_minus mo_low mo_function mo_atX mo_atM a_moK a_moH a_moS mo_spanFunction mo_spanRounding mo_spanMany a_moF a_moT mo_parts mo_shift a_moP a_moQ a_moA a_moB a_moD), (a_moR, .inl (cI, 7, .inl u10)), (a_moP, .inl (cI, 256, .inl moP_r)), (a_moQ, .inl (cI, 256, .inl moQ_r)), (a_moA, .inl (cJ, 256, .inr (.inl moA_r))), (a_moB, .inl (cJ, 256, .inr (.inl moB_r)))] := hD
    subst hQ; exact W.iret (v := r10) hx hb hr (fun t ht hW => ⟨⟨r10, u10, rfl, ho, by rw [ht]; exact hP, hD⟩, hS.F ht⟩) (fun q hq => hS.2.2 q hq) dX8_part_13

def w_X8_look : List Cond := .code yX8_look cX8_look 3 (some .int) :: wsL_law
set_option maxHeartbeats 4000000 in
set_option maxRecDepth 100000 in
theorem c_X8_look (l : Launch) (D : va_G) (cI cJ cZ : ClassId) (a_mo : Nat) (a_moR : Nat) (a_moK : Nat) (a_moH : Nat) (a_moS : Nat) (a_moF : Nat) (a_moT : Nat) (a_moP : Nat) (a_moQ : Nat) (a_moA : Nat) (a_moB : Nat) (a_moD : Nat) (sz : Nat) (mo_e : Int32) (mo_f : Int32) (mo_codes : Int32) (mo_most : Int32) (mo_minus : Int32) (mo_low : Int32) (mo_function : Int32) (mo_atX : Int32) (mo_atM : Int64) (mo_spanFunction : Int32) (mo_spanRounding : Int32) (mo_spanMany : Int32) (mo_parts : Int32) (mo_shift : Int32) (moR_r : Nat → Int32) (moQ_r : Nat → Int32) (moA_r : Nat → Int64) (moB_r : Nat → Int64) (p1 : Int32) (post : Int32 → (Nat → Int32) → Prop) (A : Nat → Prop) (hAe : A = va_A [(a_mo, oX8 a_moR mo_e mo_f mo_codes mo_most mo_minus mo_low mo_function mo_atX mo_atM a_moK a_moH a_moS mo_spanFunction mo_spanRounding mo_spanMany a_moF a_moT mo_parts mo_shift a_moP a_moQ a_moA a_moB a_moD), (a_moR, .inl (cI, 7, .inl moR_r)), (a_moQ, .inl (cI, 256, .inl moQ_r)), (a_moA, .inl (cJ, 256, .inr (.inl moA_r))), (a_moB, .inl (cJ, 256, .inr (.inl moB_r)))] sz) (ho : wp_X8_look post mo_f mo_parts mo_shift moR_r moQ_r moA_r moB_r p1) : Met l yX8_look w_X8_look ({ frames := 1, cells := 0, slots := 0, locals := 21 } : Room) (rw_P D [(cI, .int), (cJ, .long), (cZ, .boolean)] [.ref a_mo, .int p1] sz [(a_mo, oX8 a_moR mo_e mo_f mo_codes mo_most mo_minus mo_low mo_function mo_atX mo_atM a_moK a_moH a_moS mo_spanFunction mo_spanRounding mo_spanMany a_moF a_moT mo_parts mo_shift a_moP a_moQ a_moA a_moB a_moD), (a_moR, .inl (cI, 7, .inl moR_r)), (a_moQ, .inl (cI, 256, .inl moQ_r)), (a_moA, .inl (cJ, 256, .inr (.inl moA_r))), (a_moB, .inl (cJ, 256, .inr (.inl moB_r)))]) (va_Qi (fun (r : Int32) (u : (Nat → Int32)) => post r u) (rw_B D A (fun (u : (Nat → Int32)) => [(a_mo, oX8 a_moR mo_e mo_f mo_codes mo_most mo_minus mo_low mo_function mo_atX mo_atM a_moK a_moH a_moS mo_spanFunction mo_spanRounding mo_spanMany a_moF a_moT mo_parts mo_shift a_moP a_moQ a_moA a_moB a_moD), (a_moR, .inl (cI, 7, .inl u)), (a_moQ, .inl (cI, 256, .inl moQ_r)), (a_moA, .inl (cJ, 256, .inr (.inl moA_r))), (a_moB, .inl (cJ, 256, .inr (.inl moB_r)))])) A) 0 0 A := by
  refine Met.ofW (cc := cX8_look) (maxL := 3) (ret := (some .int)) (by decide) rfl ?_
  intro p e s m args below meth c s₁ B hml hv
  obtain ⟨hargs, hsz, hP, hK, hN, hD0⟩ := hv
  have hx := B.exec
  have hb := B.bytes
  have hr := B.returns
  have hts : ∀ w ∈ wsL_law, w.before args s = true := fun w h => atoms_spec (ws := w_X8_look) B.pre w (List.mem_cons_of_mem _ h)
  have hown : s.vm.findClass RX8 = some m.cls := findClass_of_methodNamed B.named
  have hlocks := B.notSynchronized
  subst hsz
  have hD : va_D A [(a_mo, oX8 a_moR mo_e mo_f mo_codes mo_most mo_minus mo_low mo_function mo_atX mo_atM a_moK a_moH a_moS mo_spanFunction mo_spanRounding mo_spanMany a_moF a_moT mo_parts mo_shift a_moP a_moQ a_moA a_moB a_moD), (a_moR, .inl (cI, 7, .inl moR_r)), (a_moQ, .inl (cI, 256, .inl moQ_r)), (a_moA, .inl (cJ, 256, .inr (.inl moA_r))), (a_moB, .inl (cJ, 256, .inr (.inl moB_r)))] := by rw [hAe]; exact hD0.self
  have hA : ∀ q : Nat, s.heap.size ≤ q → A q := fun q h => by rw [hAe]; exact Or.inr h
  have hS : va_S A s.heap s.heap [] := va_S.rf
  have hl := lv_entry ([.ref a_mo, .int p1]) (n := 3) (Nat.le_of_ble_eq_true rfl)
  rw [hargs, lg_entry_eq, ← hargs]
  generalize (lg_sl ([.ref a_mo, .int p1]) ++ List.replicate (3 - (lg_sl ([.ref a_mo, .int p1])).length) Slot.unset).toArray = ls at hl ⊢
  replace hl : lv_has ls 3 [(0, .ref a_mo), (1, .int p1)] := hl
  have hRf : ∀ n, n ≤ 1 → n ≤ (headSpec w_X8_look ({ frames := 1, cells := 0, slots := 0, locals := 21 } : Room)).room.frames := fun n h => h
  have hRl : ∀ n, n ≤ 21 → n ≤ (headSpec w_X8_look ({ frames := 1, cells := 0, slots := 0, locals := 21 } : Room)).room.locals := fun n h => h
  generalize (headSpec w_X8_look ({ frames := 1, cells := 0, slots := 0, locals := 21 } : Room)).room = R at hRf hRl ⊢
  generalize hQ : MQ below _ args s 0 0 _ = Q
  have C_35 : ∀ n : Nat, ∀ (moR_r : Nat → Int32) (x2 : Int32) (H : Heap) (locs : List Loc) (ls : Array Slot), wp_X8_look_35 post  mo_shift moQ_r moA_r moB_r p1 n moR_r x2 → va_P D vwCl [(a_mo, oX8 a_moR mo_e mo_f mo_codes mo_most mo_minus mo_low mo_function mo_atX mo_atM a_moK a_moH a_moS mo_spanFunction mo_spanRounding mo_spanMany a_moF a_moT mo_parts mo_shift a_moP a_moQ a_moA a_moB a_moD), (a_moR, .inl (cI, 7, .inl moR_r)), (a_moQ, .inl (cI, 256, .inl moQ_r)), (a_moA, .inl (cJ, 256, .inr (.inl moA_r))), (a_moB, .inl (cJ, 256, .inr (.inl moB_r)))] H → va_D A [(a_mo, oX8 a_moR mo_e mo_f mo_codes mo_most mo_minus mo_low mo_function mo_atX mo_atM a_moK a_moH a_moS mo_spanFunction mo_spanRounding mo_spanMany a_moF a_moT mo_parts mo_shift a_moP a_moQ a_moA a_moB a_moD), (a_moR, .inl (cI, 7, .inl moR_r)), (a_moQ, .inl (cI, 256, .inl moQ_r)), (a_moA, .inl (cJ, 256, .inr (.inl moA_r))), (a_moB, .inl (cJ, 256, .inr (.inl moB_r)))] → va_S A s.heap H locs → lv_has ls 3 [(0, .ref a_mo), (1, .int p1), (2, .int x2)] → W p l e R s m args below meth c H locs 0 0 Q (F0 m 35 ls []) := by
    intro n
    induction n with
    | zero => intro moR_r x2 H locs ls ho hP hD hS hl; exact ho.elim
    | succ n_35 ih_35 =>
      intro moR_r x2 H locs ls ho hP hD hS hl
      replace ho : wp_X8_look_35_b post mo_shift moQ_r moA_r moB_r p1 (wp_X8_look_35 post mo_shift moQ_r moA_r moB_r p1 n_35) moR_r x2 := ho
      unfold wp_X8_look_35_b at ho
      refine lv_aload_n hx hb dX8_look_35 rfl (lv_at hl 0 rfl) ?_
      refine va_get (D := D) (ci := 7) (v := .ref a_moQ) (C := RX8) (T := TX8) (N := 25) hx hb hts inlX8 hown hK hP 0 rfl rfl 21 (by decide) (hts _ wl_107) (fun _ h9 => h9) rfl dX8_look_36 ?_
      refine lv_iload_n hx hb dX8_look_39 rfl (lv_at hl 2 rfl) ?_
      have o_40 := ho.1
      replace ho := ho.2
      refine va_iald hx hb hK hP 2 0 rfl rfl o_40 dX8_look_40 ?_
      refine lv_iload_n hx hb dX8_look_41 rfl (lv_at hl 1 rfl) ?_
      refine lv_icmp_ge (tgt := 51) hx hb dX8_look_42 (by decide) (fun c_42 => ?_) (fun c_42 => ?_)
      · replace ho := ho.1 c_42
        refine lv_aload_n hx hb dX8_look_51 rfl (lv_at hl 0 rfl) ?_
        refine va_get (D := D) (ci := 7) (v := .ref a_moA) (C := RX8) (T := TX8) (N := 25) hx hb hts inlX8 hown hK hP 0 rfl rfl 22 (by decide) (hts _ wl_109) (fun _ h9 => h9) rfl dX8_look_52 ?_
        refine lv_iload_n hx hb dX8_look_55 rfl (lv_at hl 2 rfl) ?_
        have o_56 := ho.1
        replace ho := ho.2
        refine va_lald hx hb hK hP 3 1 rfl rfl o_56 dX8_look_56 ?_
        refine lv_aload_n hx hb dX8_look_57 rfl (lv_at hl 0 rfl) ?_
        refine va_get (D := D) (ci := 7) (v := .ref a_moB) (C := RX8) (T := TX8) (N := 25) hx hb hts inlX8 hown hK hP 0 rfl rfl 23 (by decide) (hts _ wl_110) (fun _ h9 => h9) rfl dX8_look_58 ?_
        refine lv_iload_n hx hb dX8_look_61 rfl (lv_at hl 2 rfl) ?_
        have o_62 := ho.1
        replace ho := ho.2
        refine va_lald hx hb hK hP 4 1 rfl rfl o_62 dX8_look_62 ?_
        refine lv_iload_n hx hb dX8_look_63 rfl (lv_at hl 1 rfl) ?_
        refine lv_i2l hx hb dX8_look_64 rfl ?_
        refine lv_lmul hx hb dX8_look_65 ?_
        refine lv_ladd hx hb dX8_look_66 ?_
        refine lv_aload_n hx hb dX8_look_67 rfl (lv_at hl 0 rfl) ?_
        refine va_get (D := D) (ci := 7) (v := .int mo_shift) (C := RX8) (T := TX8) (N := 25) hx hb hts inlX8 hown hK hP 0 rfl rfl 19 (by decide) (hts _ wl_707) (fun _ h9 => h9) rfl dX8_look_68 ?_
        refine lv_lshr hx hb dX8_look_71 rfl ?_
        refine lv_l2i hx hb dX8_look_72 rfl ?_
        subst hQ; exact W.iret (v := (((moA_r x2.toNatClampNeg) + ((moB_r x2.toNatClampNeg) * p1.toInt64)) >>> (mo_shift.toInt64 &&& 63)).toInt32) hx hb hr (fun t ht hW => ⟨⟨(((moA_r x2.toNatClampNeg) + ((moB_r x2.toNatClampNeg) * p1.toInt64)) >>> (mo_shift.toInt64 &&& 63)).toInt32, moR_r, rfl, ho, by rw [ht]; exact hP, hD⟩, hS.F ht⟩) (fun q hq => hS.2.2 q hq) dX8_look_73
      · replace ho := ho.2 c_42
        refine lv_iinc (v := (x2 + (1 : Int32))) (lv' := [(2, .int (x2 + (1 : Int32))), (0, .ref a_mo), (1, .int p1)]) hx hb dX8_look_45 hl (k := 2) rfl rfl (by decide) rfl (fun ls hl => ?_)
        refine lv_goto (tgt := 35) hx hb dX8_look_48 (by decide) ?_
        exact ih_35 moR_r (x2 + (1 : Int32)) H locs ls ho hP hD hS (lv_sub hl [1, 2, 0] rfl)
  suffices main : ∀ (H : Heap) (locs : List Loc), va_P D vwCl [(a_mo, oX8 a_moR mo_e mo_f mo_codes mo_most mo_minus mo_low mo_function mo_atX mo_atM a_moK a_moH a_moS mo_spanFunction mo_spanRounding mo_spanMany a_moF a_moT mo_parts mo_shift a_moP a_moQ a_moA a_moB a_moD), (a_moR, .inl (cI, 7, .inl moR_r)), (a_moQ, .inl (cI, 256, .inl moQ_r)), (a_moA, .inl (cJ, 256, .inr (.inl moA_r))), (a_moB, .inl (cJ, 256, .inr (.inl moB_r)))] H → va_S A s.heap H locs → W p l e R s m args below meth c H locs 0 0 Q (F0 m 0 ls []) from main _ _ hP hS
  intro H locs hP hS
  unfold wp_X8_look at ho
  refine lv_aload_n hx hb dX8_look_0 rfl (lv_at hl 0 rfl) ?_
  refine va_get (D := D) (ci := 7) (v := .int mo_parts) (C := RX8) (T := TX8) (N := 25) hx hb hts inlX8 hown hK hP 0 rfl rfl 18 (by decide) (hts _ wl_122) (fun _ h9 => h9) rfl dX8_look_1 ?_
  refine lv_if_ge (tgt := 14) hx hb dX8_look_4 (by decide) (fun c_4 => ?_) (fun c_4 => ?_)
  · replace ho := ho.1 c_4
    refine lv_iload_n hx hb dX8_look_14 rfl (lv_at hl 1 rfl) ?_
    refine lv_iconst (v := 1) hx hb dX8_look_15 (by decide) ?_
    refine lv_aload_n hx hb dX8_look_16 rfl (lv_at hl 0 rfl) ?_
    refine va_get (D := D) (ci := 7) (v := .int mo_f) (C := RX8) (T := TX8) (N := 25) hx hb hts inlX8 hown hK hP 0 rfl rfl 2 (by decide) (hts _ wl_117) (fun _ h9 => h9) rfl dX8_look_17 ?_
    refine lv_ishl hx hb dX8_look_20 ?_
    refine ca_Si (As := [.int p1, .int ((1 : Int32) <<< (mo_f &&& 31))]) (rest := []) ⟨hx, hb, hml, hown, hts⟩ (c_X8_isIn l D cI cJ cZ   p1 ((1 : Int32) <<< (mo_f &&& 31)) _ ho) (va_cwS 2 hts (gdS wl_254 wl_255 wl_5 wl_256) rfl rfl rfl (by decide +kernel) ⟨hRf _ (Nat.le_of_ble_eq_true rfl), hRl _ (Nat.le_of_ble_eq_true rfl)⟩) hK hN hP [] rfl rfl hl.1 rfl (Nat.le_of_ble_eq_true rfl) dX8_look_21 ⟨Nat.zero_le _, Nat.zero_le _⟩ (fun r21 ho => ?_)
    refine lv_if_ne (tgt := 33) hx hb dX8_look_24 (by decide) (fun c_24 => ?_) (fun c_24 => ?_)
    · replace ho := ho.1 c_24
      refine lv_iconst (v := 0) hx hb dX8_look_33 (by decide) ?_
      refine lv_istore_n (lv' := [(2, .int (0 : Int32)), (0, .ref a_mo), (1, .int p1)]) hx hb dX8_look_34 rfl hl (by decide) rfl (fun ls hl => ?_)
      obtain ⟨n_35, ho⟩ := ho
      exact C_35 n_35 moR_r (0 : Int32) H locs ls ho hP hD hS (lv_sub hl [1, 2, 0] rfl)
    · replace ho := ho.2 c_24
      refine lv_aload_n hx hb dX8_look_27 rfl (lv_at hl 0 rfl) ?_
      refine lv_iconst (v := (-1)) hx hb dX8_look_28 (by decide) ?_
      refine ca_Wi (b := a_mo) (As := [.int (-1 : Int32)]) (rest := []) (wr := [(a_moQ, .inl (cI, 256, .inl moQ_r)), (a_moA, .inl (cJ, 256, .inr (.inl moA_r))), (a_moB, .inl (cJ, 256, .inr (.inl moB_r)))]) (wo := fun (u : (Nat → Int32)) => [(a_mo, oX8 a_moR mo_e mo_f mo_codes mo_most mo_minus mo_low mo_function mo_atX mo_atM a_moK a_moH a_moS mo_spanFunction mo_spanRounding mo_spanMany a_moF a_moT mo_parts mo_shift a_moP a_moQ a_moA a_moB a_moD), (a_moR, .inl (cI, 7, .inl u))]) (wn := fun (u : (Nat → Int32)) => [(a_mo, oX8 a_moR mo_e mo_f mo_codes mo_most mo_minus mo_low mo_function mo_atX mo_atM a_moK a_moH a_moS mo_spanFunction mo_spanRounding mo_spanMany a_moF a_moT mo_parts mo_shift a_moP a_moQ a_moA a_moB a_moD), (a_moR, .inl (cI, 7, .inl u)), (a_moQ, .inl (cI, 256, .inl moQ_r)), (a_moA, .inl (cJ, 256, .inr (.inl moA_r))), (a_moB, .inl (cJ, 256, .inr (.inl moB_r)))]) ⟨hx, hb, hml, hown, hts⟩ (c_X8_refuse l D cI cJ cZ a_mo a_moR a_moK a_moH a_moS a_moF a_moT a_moP a_moQ a_moA a_moB a_moD H.size mo_e mo_f mo_codes mo_most mo_minus mo_low mo_function mo_atX mo_atM mo_spanFunction mo_spanRounding mo_spanMany mo_parts mo_shift moR_r (-1 : Int32) _ _ rfl ho) (cwV 1 hts (gdV wl_165 wl_166 wl_167 wl_5 wl_168) rfl rfl rfl (by decide +kernel) ⟨hRf _ (Nat.le_of_ble_eq_true rfl), hRl _ (Nat.le_of_ble_eq_true rfl)⟩) hK hN hP hD hS hA [0, 1] [2, 3, 4] [3, 4, 0, 1, 2] rfl rfl (by decide) (by decide) (by decide) (by decide) (fun _ => rfl) 0 7 rfl rfl rfl rfl hl.1 rfl (Nat.le_of_ble_eq_true rfl) dX8_look_29 ⟨Nat.zero_le _, Nat.zero_le _⟩ (fun r29 u29 H locs ho hP hD hS => ?_)
      try dsimp only at ho
      replace hP : va_P D vwCl [(a_mo, oX8 a_moR mo_e mo_f mo_codes mo_most mo_minus mo_low mo_function mo_atX mo_atM a_moK a_moH a_moS mo_spanFunction mo_spanRounding mo_spanMany a_moF a_moT mo_parts mo_shift a_moP a_moQ a_moA a_moB a_moD), (a_moR, .inl (cI, 7, .inl u29)), (a_moQ, .inl (cI, 256, .inl moQ_r)), (a_moA, .inl (cJ, 256, .inr (.inl moA_r))), (a_moB, .inl (cJ, 256, .inr (.inl moB_r)))] H := hP
      replace hD : va_D A [(a_mo, oX8 a_moR mo_e mo_f mo_codes mo_most mo_minus mo_low mo_function mo_atX mo_atM a_moK a_moH a_moS mo_spanFunction mo_spanRounding mo_spanMany a_moF a_moT mo_parts mo_shift a_moP a_moQ a_moA a_moB a_moD), (a_moR, .inl (cI, 7, .inl u29)), (a_moQ, .inl (cI, 256, .inl moQ_r)), (a_moA, .inl (cJ, 256, .inr (.inl moA_r))), (a_moB, .inl (cJ, 256, .inr (.inl moB_r)))] := hD
      subst hQ; exact W.iret (v := r29) hx hb hr (fun t ht hW => ⟨⟨r29, u29, rfl, ho, by rw [ht]; exact hP, hD⟩, hS.F ht⟩) (fun q hq => hS.2.2 q hq) dX8_look_32
  · replace ho := ho.2 c_4
    refine lv_aload_n hx hb dX8_look_7 rfl (lv_at hl 0 rfl) ?_
    refine lv_bipush (v := (-3)) hx hb dX8_look_8 (by decide) ?_
    refine ca_Wi (b := a_mo) (As := [.int (-3 : Int32)]) (rest := []) (wr := [(a_moQ, .inl (cI, 256, .inl moQ_r)), (a_moA, .inl (cJ, 256, .inr (.inl moA_r))), (a_moB, .inl (cJ, 256, .inr (.inl moB_r)))]) (wo := fun (u : (Nat → Int32)) => [(a_mo, oX8 a_moR mo_e mo_f mo_codes mo_most mo_minus mo_low mo_function mo_atX mo_atM a_moK a_moH a_moS mo_spanFunction mo_spanRounding mo_spanMany a_moF a_moT mo_parts mo_shift a_moP a_moQ a_moA a_moB a_moD), (a_moR, .inl (cI, 7, .inl u))]) (wn := fun (u : (Nat → Int32)) => [(a_mo, oX8 a_moR mo_e mo_f mo_codes mo_most mo_minus mo_low mo_function mo_atX mo_atM a_moK a_moH a_moS mo_spanFunction mo_spanRounding mo_spanMany a_moF a_moT mo_parts mo_shift a_moP a_moQ a_moA a_moB a_moD), (a_moR, .inl (cI, 7, .inl u)), (a_moQ, .inl (cI, 256, .inl moQ_r)), (a_moA, .inl (cJ, 256, .inr (.inl moA_r))), (a_moB, .inl (cJ, 256, .inr (.inl moB_r)))]) ⟨hx, hb, hml, hown, hts⟩ (c_X8_refuse l D cI cJ cZ a_mo a_moR a_moK a_moH a_moS a_moF a_moT a_moP a_moQ a_moA a_moB a_moD H.size mo_e mo_f mo_codes mo_most mo_minus mo_low mo_function mo_atX mo_atM mo_spanFunction mo_spanRounding mo_spanMany mo_parts mo_shift moR_r (-3 : Int32) _ _ rfl ho) (cwV 1 hts (gdV wl_165 wl_166 wl_167 wl_5 wl_168) rfl rfl rfl (by decide +kernel) ⟨hRf _ (Nat.le_of_ble_eq_true rfl), hRl _ (Nat.le_of_ble_eq_true rfl)⟩) hK hN hP hD hS hA [0, 1] [2, 3, 4] [3, 4, 0, 1, 2] rfl rfl (by decide) (by decide) (by decide) (by decide) (fun _ => rfl) 0 7 rfl rfl rfl rfl hl.1 rfl (Nat.le_of_ble_eq_true rfl) dX8_look_10 ⟨Nat.zero_le _, Nat.zero_le _⟩ (fun r10 u10 H locs ho hP hD hS => ?_)
    try dsimp only at ho
    replace hP : va_P D vwCl [(a_mo, oX8 a_moR mo_e mo_f mo_codes mo_most mo_minus mo_low mo_function mo_atX mo_atM a_moK a_moH a_moS mo_spanFunction mo_spanRounding mo_spanMany a_moF a_moT mo_parts mo_shift a_moP a_moQ a_moA a_moB a_moD), (a_moR, .inl (cI, 7, .inl u10)), (a_moQ, .inl (cI, 256, .inl moQ_r)), (a_moA, .inl (cJ, 256, .inr (.inl moA_r))), (a_moB, .inl (cJ, 256, .inr (.inl moB_r)))] H := hP
    replace hD : va_D A [(a_mo, oX8 a_moR mo_e mo_f mo_codes mo_most mo_minus mo_low mo_function mo_atX mo_atM a_moK a_moH a_moS mo_spanFunction mo_spanRounding mo_spanMany a_moF a_moT mo_parts mo_shift a_moP a_moQ a_moA a_moB a_moD), (a_moR, .inl (cI, 7, .inl u10)), (a_moQ, .inl (cI, 256, .inl moQ_r)), (a_moA, .inl (cJ, 256, .inr (.inl moA_r))), (a_moB, .inl (cJ, 256, .inr (.inl moB_r)))] := hD
    subst hQ; exact W.iret (v := r10) hx hb hr (fun t ht hW => ⟨⟨r10, u10, rfl, ho, by rw [ht]; exact hP, hD⟩, hS.F ht⟩) (fun q hq => hS.2.2 q hq) dX8_look_13
