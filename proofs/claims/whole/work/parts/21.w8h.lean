def w_X8_count : List Cond := .code yX8_count cX8_count 5 (some .int) :: wsL_law
set_option maxHeartbeats 4000000 in
set_option maxRecDepth 100000 in
theorem c_X8_count (l : Launch) (D : va_G) (cI cJ cZ : ClassId) (a_mo : Nat) (a_moR : Nat) (a_moK : Nat) (a_moH : Nat) (a_moS : Nat) (a_moF : Nat) (a_moT : Nat) (a_moP : Nat) (a_moQ : Nat) (a_moA : Nat) (a_moB : Nat) (a_moD : Nat) (sz : Nat) (mo_e : Int32) (mo_f : Int32) (mo_codes : Int32) (mo_most : Int32) (mo_minus : Int32) (mo_low : Int32) (mo_function : Int32) (mo_atX : Int32) (mo_atM : Int64) (mo_spanFunction : Int32) (mo_spanRounding : Int32) (mo_spanMany : Int32) (mo_parts : Int32) (mo_shift : Int32) (moR_r : Nat → Int32) (moK_r : Nat → Int32) (moH_r : Nat → Int32) (moS_r : Nat → Int32) (p1 : Int32) (p2 : Int32) (post : Int32 → Int32 → Int32 → Int64 → (Nat → Int32) → (Nat → Int32) → (Nat → Int32) → (Nat → Int32) → Prop) (A : Nat → Prop) (hAe : A = va_A [(a_mo, oX8 a_moR mo_e mo_f mo_codes mo_most mo_minus mo_low mo_function mo_atX mo_atM a_moK a_moH a_moS mo_spanFunction mo_spanRounding mo_spanMany a_moF a_moT mo_parts mo_shift a_moP a_moQ a_moA a_moB a_moD), (a_moR, .inl (cI, 7, .inl moR_r)), (a_moK, .inl (cZ, 5, .inl moK_r)), (a_moH, .inl (cI, 81920, .inl moH_r)), (a_moS, .inl (cI, 81920, .inl moS_r))] sz) (ho : wp_X8_count post mo_f mo_codes mo_most mo_minus mo_low mo_function mo_atX mo_atM moR_r moK_r moH_r moS_r p1 p2) : Met l yX8_count w_X8_count ({ frames := 7, cells := 0, slots := 0, locals := 175 } : Room) (rw_P D [(cI, .int), (cJ, .long), (cZ, .boolean)] [.ref a_mo, .int p1, .int p2] sz [(a_mo, oX8 a_moR mo_e mo_f mo_codes mo_most mo_minus mo_low mo_function mo_atX mo_atM a_moK a_moH a_moS mo_spanFunction mo_spanRounding mo_spanMany a_moF a_moT mo_parts mo_shift a_moP a_moQ a_moA a_moB a_moD), (a_moR, .inl (cI, 7, .inl moR_r)), (a_moK, .inl (cZ, 5, .inl moK_r)), (a_moH, .inl (cI, 81920, .inl moH_r)), (a_moS, .inl (cI, 81920, .inl moS_r))]) (va_Qi (fun (r : Int32) (u : (Int32) × (Int32) × (Int64) × (Nat → Int32) × (Nat → Int32) × (Nat → Int32) × (Nat → Int32)) => post r u.1 u.2.1 u.2.2.1 u.2.2.2.1 u.2.2.2.2.1 u.2.2.2.2.2.1 u.2.2.2.2.2.2) (rw_B D A (fun (u : (Int32) × (Int32) × (Int64) × (Nat → Int32) × (Nat → Int32) × (Nat → Int32) × (Nat → Int32)) => [(a_mo, oX8 a_moR mo_e mo_f mo_codes mo_most mo_minus mo_low u.1 u.2.1 u.2.2.1 a_moK a_moH a_moS mo_spanFunction mo_spanRounding mo_spanMany a_moF a_moT mo_parts mo_shift a_moP a_moQ a_moA a_moB a_moD), (a_moR, .inl (cI, 7, .inl u.2.2.2.1)), (a_moK, .inl (cZ, 5, .inl u.2.2.2.2.1)), (a_moH, .inl (cI, 81920, .inl u.2.2.2.2.2.1)), (a_moS, .inl (cI, 81920, .inl u.2.2.2.2.2.2))])) A) 0 0 A := by
  refine Met.ofW (cc := cX8_count) (maxL := 5) (ret := (some .int)) (by decide) rfl ?_
  intro p e s m args below meth c s₁ B hml hv
  obtain ⟨hargs, hsz, hP, hK, hN, hD0⟩ := hv
  have hx := B.exec
  have hb := B.bytes
  have hr := B.returns
  have hts : ∀ w ∈ wsL_law, w.before args s = true := fun w h => atoms_spec (ws := w_X8_count) B.pre w (List.mem_cons_of_mem _ h)
  have hown : s.vm.findClass RX8 = some m.cls := findClass_of_methodNamed B.named
  have hlocks := B.notSynchronized
  subst hsz
  have hD : va_D A [(a_mo, oX8 a_moR mo_e mo_f mo_codes mo_most mo_minus mo_low mo_function mo_atX mo_atM a_moK a_moH a_moS mo_spanFunction mo_spanRounding mo_spanMany a_moF a_moT mo_parts mo_shift a_moP a_moQ a_moA a_moB a_moD), (a_moR, .inl (cI, 7, .inl moR_r)), (a_moK, .inl (cZ, 5, .inl moK_r)), (a_moH, .inl (cI, 81920, .inl moH_r)), (a_moS, .inl (cI, 81920, .inl moS_r))] := by rw [hAe]; exact hD0.self
  have hA : ∀ q : Nat, s.heap.size ≤ q → A q := fun q h => by rw [hAe]; exact Or.inr h
  have hS : va_S A s.heap s.heap [] := va_S.rf
  have hl := lv_entry ([.ref a_mo, .int p1, .int p2]) (n := 5) (Nat.le_of_ble_eq_true rfl)
  rw [hargs, lg_entry_eq, ← hargs]
  generalize (lg_sl ([.ref a_mo, .int p1, .int p2]) ++ List.replicate (5 - (lg_sl ([.ref a_mo, .int p1, .int p2])).length) Slot.unset).toArray = ls at hl ⊢
  replace hl : lv_has ls 5 [(0, .ref a_mo), (1, .int p1), (2, .int p2)] := hl
  have hRf : ∀ n, n ≤ 7 → n ≤ (headSpec w_X8_count ({ frames := 7, cells := 0, slots := 0, locals := 175 } : Room)).room.frames := fun n h => h
  have hRl : ∀ n, n ≤ 175 → n ≤ (headSpec w_X8_count ({ frames := 7, cells := 0, slots := 0, locals := 175 } : Room)).room.locals := fun n h => h
  generalize (headSpec w_X8_count ({ frames := 7, cells := 0, slots := 0, locals := 175 } : Room)).room = R at hRf hRl ⊢
  generalize hQ : MQ below _ args s 0 0 _ = Q
  have C_47 : ∀ n : Nat, ∀ (mo_function : Int32) (mo_atX : Int32) (mo_atM : Int64) (moR_r : Nat → Int32) (moK_r : Nat → Int32) (moH_r : Nat → Int32) (moS_r : Nat → Int32) (x3 : Int32) (x4 : Int32) (H : Heap) (locs : List Loc) (ls : Array Slot), wp_X8_count_47 post  mo_codes p1 p2 n mo_function mo_atX mo_atM moR_r moK_r moH_r moS_r x3 x4 → va_P D vwCl [(a_mo, oX8 a_moR mo_e mo_f mo_codes mo_most mo_minus mo_low mo_function mo_atX mo_atM a_moK a_moH a_moS mo_spanFunction mo_spanRounding mo_spanMany a_moF a_moT mo_parts mo_shift a_moP a_moQ a_moA a_moB a_moD), (a_moR, .inl (cI, 7, .inl moR_r)), (a_moK, .inl (cZ, 5, .inl moK_r)), (a_moH, .inl (cI, 81920, .inl moH_r)), (a_moS, .inl (cI, 81920, .inl moS_r))] H → va_D A [(a_mo, oX8 a_moR mo_e mo_f mo_codes mo_most mo_minus mo_low mo_function mo_atX mo_atM a_moK a_moH a_moS mo_spanFunction mo_spanRounding mo_spanMany a_moF a_moT mo_parts mo_shift a_moP a_moQ a_moA a_moB a_moD), (a_moR, .inl (cI, 7, .inl moR_r)), (a_moK, .inl (cZ, 5, .inl moK_r)), (a_moH, .inl (cI, 81920, .inl moH_r)), (a_moS, .inl (cI, 81920, .inl moS_r))] → va_S A s.heap H locs → lv_has ls 5 [(0, .ref a_mo), (1, .int p1), (2, .int p2), (3, .int x3), (4, .int x4)] → W p l e R s m args below meth c H locs 0 0 Q (F0 m 47 ls []) := by
    intro n
    induction n with
    | zero => intro mo_function mo_atX mo_atM moR_r moK_r moH_r moS_r x3 x4 H locs ls ho hP hD hS hl; exact ho.elim
    | succ n_47 ih_47 =>
      have C_79 : ∀ (mo_function : Int32) (mo_atX : Int32) (mo_atM : Int64) (moR_r : Nat → Int32) (moK_r : Nat → Int32) (moH_r : Nat → Int32) (moS_r : Nat → Int32) (x4 : Int32) (y0 : Int32) (y1 : Int32) (H : Heap) (locs : List Loc) (ls : Array Slot), wp_X8_count_79 post (wp_X8_count_47 post mo_codes p1 p2 n_47) mo_function mo_atX mo_atM moR_r moK_r moH_r moS_r x4 y0 y1 → va_P D vwCl [(a_mo, oX8 a_moR mo_e mo_f mo_codes mo_most mo_minus mo_low mo_function mo_atX mo_atM a_moK a_moH a_moS mo_spanFunction mo_spanRounding mo_spanMany a_moF a_moT mo_parts mo_shift a_moP a_moQ a_moA a_moB a_moD), (a_moR, .inl (cI, 7, .inl moR_r)), (a_moK, .inl (cZ, 5, .inl moK_r)), (a_moH, .inl (cI, 81920, .inl moH_r)), (a_moS, .inl (cI, 81920, .inl moS_r))] H → va_D A [(a_mo, oX8 a_moR mo_e mo_f mo_codes mo_most mo_minus mo_low mo_function mo_atX mo_atM a_moK a_moH a_moS mo_spanFunction mo_spanRounding mo_spanMany a_moF a_moT mo_parts mo_shift a_moP a_moQ a_moA a_moB a_moD), (a_moR, .inl (cI, 7, .inl moR_r)), (a_moK, .inl (cZ, 5, .inl moK_r)), (a_moH, .inl (cI, 81920, .inl moH_r)), (a_moS, .inl (cI, 81920, .inl moS_r))] → va_S A s.heap H locs → lv_has ls 5 [(0, .ref a_mo), (1, .int p1), (2, .int p2), (4, .int x4)] → W p l e R s m args below meth c H locs 0 0 Q (F0 m 79 ls [.int y0, .int y1]) := by
        intro mo_function mo_atX mo_atM moR_r moK_r moH_r moS_r x4 y0 y1 H locs ls ho hP hD hS hl
        unfold wp_X8_count_79 at ho
        refine lv_iadd hx hb dX8_count_79 ?_
        refine lv_istore_n (lv' := [(3, .int (y1 + y0)), (0, .ref a_mo), (1, .int p1), (2, .int p2), (4, .int x4)]) hx hb dX8_count_80 rfl hl (by decide) rfl (fun ls hl => ?_)
        refine lv_iinc (v := (x4 + (1 : Int32))) (lv' := [(4, .int (x4 + (1 : Int32))), (3, .int (y1 + y0)), (0, .ref a_mo), (1, .int p1), (2, .int p2)]) hx hb dX8_count_81 hl (k := 4) rfl rfl (by decide) rfl (fun ls hl => ?_)
        refine lv_goto (tgt := 47) hx hb dX8_count_84 (by decide) ?_
        exact ih_47 mo_function mo_atX mo_atM moR_r moK_r moH_r moS_r (y1 + y0) (x4 + (1 : Int32)) H locs ls ho hP hD hS (lv_sub hl [2, 3, 4, 1, 0] rfl)
      intro mo_function mo_atX mo_atM moR_r moK_r moH_r moS_r x3 x4 H locs ls ho hP hD hS hl
      replace ho : wp_X8_count_47_b post mo_codes p1 p2 (wp_X8_count_47 post mo_codes p1 p2 n_47) mo_function mo_atX mo_atM moR_r moK_r moH_r moS_r x3 x4 := ho
      unfold wp_X8_count_47_b at ho
      refine lv_iload hx hb dX8_count_47 (lv_at hl 4 rfl) ?_
      refine lv_aload_n hx hb dX8_count_49 rfl (lv_at hl 0 rfl) ?_
      refine va_get (D := D) (ci := 7) (v := .int mo_codes) (C := RX8) (T := TX8) (N := 25) hx hb hts inlX8 hown hK hP 0 rfl rfl 3 (by decide) (hts _ wl_118) (fun _ h9 => h9) rfl dX8_count_50 ?_
      refine lv_icmp_ge (tgt := 87) hx hb dX8_count_53 (by decide) (fun c_53 => ?_) (fun c_53 => ?_)
      · replace ho := ho.1 c_53
        refine lv_iload_n hx hb dX8_count_87 rfl (lv_at hl 3 rfl) ?_
        subst hQ; exact W.iret (v := x3) hx hb hr (fun t ht hW => ⟨⟨x3, (mo_function, mo_atX, mo_atM, moR_r, moK_r, moH_r, moS_r), rfl, ho, by rw [ht]; exact hP, hD⟩, hS.F ht⟩) (fun q hq => hS.2.2 q hq) dX8_count_88
      · replace ho := ho.2 c_53
        refine lv_iload_n hx hb dX8_count_56 rfl (lv_at hl 3 rfl) ?_
        refine lv_aload_n hx hb dX8_count_57 rfl (lv_at hl 0 rfl) ?_
        refine va_get (D := D) (ci := 7) (v := .ref a_moH) (C := RX8) (T := TX8) (N := 25) hx hb hts inlX8 hown hK hP 0 rfl rfl 11 (by decide) (hts _ wl_102) (fun _ h9 => h9) rfl dX8_count_58 ?_
        refine lv_sipush (v := 16384) hx hb dX8_count_61 (by decide) ?_
        refine lv_iload_n hx hb dX8_count_64 rfl (lv_at hl 1 rfl) ?_
        refine lv_imul hx hb dX8_count_65 ?_
        refine lv_iload hx hb dX8_count_66 (lv_at hl 4 rfl) ?_
        refine lv_iadd hx hb dX8_count_68 ?_
        have o_69 := ho.1
        replace ho := ho.2
        refine va_iald hx hb hK hP 3 0 rfl rfl o_69 dX8_count_69 ?_
        refine lv_iload_n hx hb dX8_count_70 rfl (lv_at hl 2 rfl) ?_
        refine lv_icmp_ne (tgt := 78) hx hb dX8_count_71 (by decide) (fun c_71 => ?_) (fun c_71 => ?_)
        · replace ho := ho.1 c_71
          refine lv_iconst (v := 0) hx hb dX8_count_78 (by decide) ?_
          exact C_79 mo_function mo_atX mo_atM moR_r moK_r moH_r moS_r x4 (0 : Int32) x3 H locs ls ho hP hD hS (lv_sub hl [0, 1, 2, 4] rfl)
        · replace ho := ho.2 c_71
          refine lv_iconst (v := 1) hx hb dX8_count_74 (by decide) ?_
          refine lv_goto (tgt := 79) hx hb dX8_count_75 (by decide) ?_
          exact C_79 mo_function mo_atX mo_atM moR_r moK_r moH_r moS_r x4 (1 : Int32) x3 H locs ls ho hP hD hS (lv_sub hl [0, 1, 2, 4] rfl)
  suffices main : ∀ (H : Heap) (locs : List Loc), va_P D vwCl [(a_mo, oX8 a_moR mo_e mo_f mo_codes mo_most mo_minus mo_low mo_function mo_atX mo_atM a_moK a_moH a_moS mo_spanFunction mo_spanRounding mo_spanMany a_moF a_moT mo_parts mo_shift a_moP a_moQ a_moA a_moB a_moD), (a_moR, .inl (cI, 7, .inl moR_r)), (a_moK, .inl (cZ, 5, .inl moK_r)), (a_moH, .inl (cI, 81920, .inl moH_r)), (a_moS, .inl (cI, 81920, .inl moS_r))] H → va_S A s.heap H locs → W p l e R s m args below meth c H locs 0 0 Q (F0 m 0 ls []) from main _ _ hP hS
  intro H locs hP hS
  unfold wp_X8_count at ho
  refine lv_iload_n hx hb dX8_count_0 rfl (lv_at hl 1 rfl) ?_
  refine ca_Si (As := [.int p1]) (rest := []) ⟨hx, hb, hml, hown, hts⟩ (c_X8_isFunction l D cI cJ cZ   p1 _ ho) (va_cwS 1 hts (gdS wl_469 wl_470 wl_5 wl_471) rfl rfl rfl (by decide +kernel) ⟨hRf _ (Nat.le_of_ble_eq_true rfl), hRl _ (Nat.le_of_ble_eq_true rfl)⟩) hK hN hP [] rfl rfl hl.1 rfl (Nat.le_of_ble_eq_true rfl) dX8_count_1 ⟨Nat.zero_le _, Nat.zero_le _⟩ (fun r1 ho => ?_)
  refine lv_if_ne (tgt := 13) hx hb dX8_count_4 (by decide) (fun c_4 => ?_) (fun c_4 => ?_)
  · replace ho := ho.1 c_4
    refine lv_iload_n hx hb dX8_count_13 rfl (lv_at hl 2 rfl) ?_
    refine lv_if_ge (tgt := 24) hx hb dX8_count_14 (by decide) (fun c_14 => ?_) (fun c_14 => ?_)
    · replace ho := ho.1 c_14
      refine lv_iload_n hx hb dX8_count_24 rfl (lv_at hl 2 rfl) ?_
      refine lv_bipush (v := 9) hx hb dX8_count_25 (by decide) ?_
      refine lv_icmp_le (tgt := 37) hx hb dX8_count_27 (by decide) (fun c_27 => ?_) (fun c_27 => ?_)
      · replace ho := ho.1 c_27
        refine lv_aload_n hx hb dX8_count_37 rfl (lv_at hl 0 rfl) ?_
        refine lv_iload_n hx hb dX8_count_38 rfl (lv_at hl 1 rfl) ?_
        refine ca_Wv (b := a_mo) (As := [.int p1]) (rest := []) (wr := [(a_moR, .inl (cI, 7, .inl moR_r))]) (wo := fun (u : (Int32) × (Int32) × (Int64) × (Nat → Int32) × (Nat → Int32) × (Nat → Int32)) => [(a_mo, oX8 a_moR mo_e mo_f mo_codes mo_most mo_minus mo_low u.1 u.2.1 u.2.2.1 a_moK a_moH a_moS mo_spanFunction mo_spanRounding mo_spanMany a_moF a_moT mo_parts mo_shift a_moP a_moQ a_moA a_moB a_moD), (a_moK, .inl (cZ, 5, .inl u.2.2.2.1)), (a_moH, .inl (cI, 81920, .inl u.2.2.2.2.1)), (a_moS, .inl (cI, 81920, .inl u.2.2.2.2.2))]) (wn := fun (u : (Int32) × (Int32) × (Int64) × (Nat → Int32) × (Nat → Int32) × (Nat → Int32)) => [(a_mo, oX8 a_moR mo_e mo_f mo_codes mo_most mo_minus mo_low u.1 u.2.1 u.2.2.1 a_moK a_moH a_moS mo_spanFunction mo_spanRounding mo_spanMany a_moF a_moT mo_parts mo_shift a_moP a_moQ a_moA a_moB a_moD), (a_moR, .inl (cI, 7, .inl moR_r)), (a_moK, .inl (cZ, 5, .inl u.2.2.2.1)), (a_moH, .inl (cI, 81920, .inl u.2.2.2.2.1)), (a_moS, .inl (cI, 81920, .inl u.2.2.2.2.2))]) ⟨hx, hb, hml, hown, hts⟩ (c_X8_know l D cI cJ cZ a_mo a_moR a_moK a_moH a_moS a_moF a_moT a_moP a_moQ a_moA a_moB a_moD H.size mo_e mo_f mo_codes mo_most mo_minus mo_low mo_function mo_atX mo_atM mo_spanFunction mo_spanRounding mo_spanMany mo_parts mo_shift moK_r moH_r moS_r p1 _ _ rfl ho) (cwV 1 hts (gdV wl_577 wl_578 wl_579 wl_5 wl_580) rfl rfl rfl (by decide +kernel) ⟨hRf _ (Nat.le_of_ble_eq_true rfl), hRl _ (Nat.le_of_ble_eq_true rfl)⟩) hK hN hP hD hS hA [0, 2, 3, 4] [1] [1, 0, 2, 3, 4] rfl rfl (by decide) (by decide) (by decide) (by decide) (fun _ => rfl) 0 7 rfl rfl rfl rfl hl.1 rfl (Nat.le_of_ble_eq_true rfl) dX8_count_39 ⟨Nat.zero_le _, Nat.zero_le _⟩ (fun  u39 H locs ho hP hD hS => ?_)
        obtain ⟨u39_1, u39_2, u39_3, u39_4, u39_5, u39_6⟩ := u39
        try dsimp only at ho
        replace hP : va_P D vwCl [(a_mo, oX8 a_moR mo_e mo_f mo_codes mo_most mo_minus mo_low u39_1 u39_2 u39_3 a_moK a_moH a_moS mo_spanFunction mo_spanRounding mo_spanMany a_moF a_moT mo_parts mo_shift a_moP a_moQ a_moA a_moB a_moD), (a_moR, .inl (cI, 7, .inl moR_r)), (a_moK, .inl (cZ, 5, .inl u39_4)), (a_moH, .inl (cI, 81920, .inl u39_5)), (a_moS, .inl (cI, 81920, .inl u39_6))] H := hP
        replace hD : va_D A [(a_mo, oX8 a_moR mo_e mo_f mo_codes mo_most mo_minus mo_low u39_1 u39_2 u39_3 a_moK a_moH a_moS mo_spanFunction mo_spanRounding mo_spanMany a_moF a_moT mo_parts mo_shift a_moP a_moQ a_moA a_moB a_moD), (a_moR, .inl (cI, 7, .inl moR_r)), (a_moK, .inl (cZ, 5, .inl u39_4)), (a_moH, .inl (cI, 81920, .inl u39_5)), (a_moS, .inl (cI, 81920, .inl u39_6))] := hD
        refine lv_iconst (v := 0) hx hb dX8_count_42 (by decide) ?_
        refine lv_istore_n (lv' := [(3, .int (0 : Int32)), (0, .ref a_mo), (1, .int p1), (2, .int p2)]) hx hb dX8_count_43 rfl hl (by decide) rfl (fun ls hl => ?_)
        refine lv_iconst (v := 0) hx hb dX8_count_44 (by decide) ?_
        refine lv_istore (lv' := [(4, .int (0 : Int32)), (3, .int (0 : Int32)), (0, .ref a_mo), (1, .int p1), (2, .int p2)]) hx hb dX8_count_45 hl (by decide) rfl (fun ls hl => ?_)
        obtain ⟨n_47, ho⟩ := ho
        exact C_47 n_47 u39_1 u39_2 u39_3 moR_r u39_4 u39_5 u39_6 (0 : Int32) (0 : Int32) H locs ls ho hP hD hS (lv_sub hl [2, 3, 4, 1, 0] rfl)
      · replace ho := ho.2 c_27
        refine lv_aload_n hx hb dX8_count_30 rfl (lv_at hl 0 rfl) ?_
        refine lv_bipush (v := (-6)) hx hb dX8_count_31 (by decide) ?_
        refine ca_Wi (b := a_mo) (As := [.int (-6 : Int32)]) (rest := []) (wr := [(a_moK, .inl (cZ, 5, .inl moK_r)), (a_moH, .inl (cI, 81920, .inl moH_r)), (a_moS, .inl (cI, 81920, .inl moS_r))]) (wo := fun (u : (Nat → Int32)) => [(a_mo, oX8 a_moR mo_e mo_f mo_codes mo_most mo_minus mo_low mo_function mo_atX mo_atM a_moK a_moH a_moS mo_spanFunction mo_spanRounding mo_spanMany a_moF a_moT mo_parts mo_shift a_moP a_moQ a_moA a_moB a_moD), (a_moR, .inl (cI, 7, .inl u))]) (wn := fun (u : (Nat → Int32)) => [(a_mo, oX8 a_moR mo_e mo_f mo_codes mo_most mo_minus mo_low mo_function mo_atX mo_atM a_moK a_moH a_moS mo_spanFunction mo_spanRounding mo_spanMany a_moF a_moT mo_parts mo_shift a_moP a_moQ a_moA a_moB a_moD), (a_moR, .inl (cI, 7, .inl u)), (a_moK, .inl (cZ, 5, .inl moK_r)), (a_moH, .inl (cI, 81920, .inl moH_r)), (a_moS, .inl (cI, 81920, .inl moS_r))]) ⟨hx, hb, hml, hown, hts⟩ (c_X8_refuse l D cI cJ cZ a_mo a_moR a_moK a_moH a_moS a_moF a_moT a_moP a_moQ a_moA a_moB a_moD H.size mo_e mo_f mo_codes mo_most mo_minus mo_low mo_function mo_atX mo_atM mo_spanFunction mo_spanRounding mo_spanMany mo_parts mo_shift moR_r (-6 : Int32) _ _ rfl ho) (cwV 1 hts (gdV wl_165 wl_166 wl_167 wl_5 wl_168) rfl rfl rfl (by decide +kernel) ⟨hRf _ (Nat.le_of_ble_eq_true rfl), hRl _ (Nat.le_of_ble_eq_true rfl)⟩) hK hN hP hD hS hA [0, 1] [2, 3, 4] [3, 4, 0, 1, 2] rfl rfl (by decide) (by decide) (by decide) (by decide) (fun _ => rfl) 0 7 rfl rfl rfl rfl hl.1 rfl (Nat.le_of_ble_eq_true rfl) dX8_count_33 ⟨Nat.zero_le _, Nat.zero_le _⟩ (fun r33 u33 H locs ho hP hD hS => ?_)
        try dsimp only at ho
        replace hP : va_P D vwCl [(a_mo, oX8 a_moR mo_e mo_f mo_codes mo_most mo_minus mo_low mo_function mo_atX mo_atM a_moK a_moH a_moS mo_spanFunction mo_spanRounding mo_spanMany a_moF a_moT mo_parts mo_shift a_moP a_moQ a_moA a_moB a_moD), (a_moR, .inl (cI, 7, .inl u33)), (a_moK, .inl (cZ, 5, .inl moK_r)), (a_moH, .inl (cI, 81920, .inl moH_r)), (a_moS, .inl (cI, 81920, .inl moS_r))] H := hP
        replace hD : va_D A [(a_mo, oX8 a_moR mo_e mo_f mo_codes mo_most mo_minus mo_low mo_function mo_atX mo_atM a_moK a_moH a_moS mo_spanFunction mo_spanRounding mo_spanMany a_moF a_moT mo_parts mo_shift a_moP a_moQ a_moA a_moB a_moD), (a_moR, .inl (cI, 7, .inl u33)), (a_moK, .inl (cZ, 5, .inl moK_r)), (a_moH, .inl (cI, 81920, .inl moH_r)), (a_moS, .inl (cI, 81920, .inl moS_r))] := hD
        subst hQ; exact W.iret (v := r33) hx hb hr (fun t ht hW => ⟨⟨r33, (mo_function, mo_atX, mo_atM, u33, moK_r, moH_r, moS_r), rfl, ho, by rw [ht]; exact hP, hD⟩, hS.F ht⟩) (fun q hq => hS.2.2 q hq) dX8_count_36
    · replace ho := ho.2 c_14
      refine lv_aload_n hx hb dX8_count_17 rfl (lv_at hl 0 rfl) ?_
      refine lv_bipush (v := (-4)) hx hb dX8_count_18 (by decide) ?_
      refine ca_Wi (b := a_mo) (As := [.int (-4 : Int32)]) (rest := []) (wr := [(a_moK, .inl (cZ, 5, .inl moK_r)), (a_moH, .inl (cI, 81920, .inl moH_r)), (a_moS, .inl (cI, 81920, .inl moS_r))]) (wo := fun (u : (Nat → Int32)) => [(a_mo, oX8 a_moR mo_e mo_f mo_codes mo_most mo_minus mo_low mo_function mo_atX mo_atM a_moK a_moH a_moS mo_spanFunction mo_spanRounding mo_spanMany a_moF a_moT mo_parts mo_shift a_moP a_moQ a_moA a_moB a_moD), (a_moR, .inl (cI, 7, .inl u))]) (wn := fun (u : (Nat → Int32)) => [(a_mo, oX8 a_moR mo_e mo_f mo_codes mo_most mo_minus mo_low mo_function mo_atX mo_atM a_moK a_moH a_moS mo_spanFunction mo_spanRounding mo_spanMany a_moF a_moT mo_parts mo_shift a_moP a_moQ a_moA a_moB a_moD), (a_moR, .inl (cI, 7, .inl u)), (a_moK, .inl (cZ, 5, .inl moK_r)), (a_moH, .inl (cI, 81920, .inl moH_r)), (a_moS, .inl (cI, 81920, .inl moS_r))]) ⟨hx, hb, hml, hown, hts⟩ (c_X8_refuse l D cI cJ cZ a_mo a_moR a_moK a_moH a_moS a_moF a_moT a_moP a_moQ a_moA a_moB a_moD H.size mo_e mo_f mo_codes mo_most mo_minus mo_low mo_function mo_atX mo_atM mo_spanFunction mo_spanRounding mo_spanMany mo_parts mo_shift moR_r (-4 : Int32) _ _ rfl ho) (cwV 1 hts (gdV wl_165 wl_166 wl_167 wl_5 wl_168) rfl rfl rfl (by decide +kernel) ⟨hRf _ (Nat.le_of_ble_eq_true rfl), hRl _ (Nat.le_of_ble_eq_true rfl)⟩) hK hN hP hD hS hA [0, 1] [2, 3, 4] [3, 4, 0, 1, 2] rfl rfl (by decide) (by decide) (by decide) (by decide) (fun _ => rfl) 0 7 rfl rfl rfl rfl hl.1 rfl (Nat.le_of_ble_eq_true rfl) dX8_count_20 ⟨Nat.zero_le _, Nat.zero_le _⟩ (fun r20 u20 H locs ho hP hD hS => ?_)
      try dsimp only at ho
      replace hP : va_P D vwCl [(a_mo, oX8 a_moR mo_e mo_f mo_codes mo_most mo_minus mo_low mo_function mo_atX mo_atM a_moK a_moH a_moS mo_spanFunction mo_spanRounding mo_spanMany a_moF a_moT mo_parts mo_shift a_moP a_moQ a_moA a_moB a_moD), (a_moR, .inl (cI, 7, .inl u20)), (a_moK, .inl (cZ, 5, .inl moK_r)), (a_moH, .inl (cI, 81920, .inl moH_r)), (a_moS, .inl (cI, 81920, .inl moS_r))] H := hP
      replace hD : va_D A [(a_mo, oX8 a_moR mo_e mo_f mo_codes mo_most mo_minus mo_low mo_function mo_atX mo_atM a_moK a_moH a_moS mo_spanFunction mo_spanRounding mo_spanMany a_moF a_moT mo_parts mo_shift a_moP a_moQ a_moA a_moB a_moD), (a_moR, .inl (cI, 7, .inl u20)), (a_moK, .inl (cZ, 5, .inl moK_r)), (a_moH, .inl (cI, 81920, .inl moH_r)), (a_moS, .inl (cI, 81920, .inl moS_r))] := hD
      subst hQ; exact W.iret (v := r20) hx hb hr (fun t ht hW => ⟨⟨r20, (mo_function, mo_atX, mo_atM, u20, moK_r, moH_r, moS_r), rfl, ho, by rw [ht]; exact hP, hD⟩, hS.F ht⟩) (fun q hq => hS.2.2 q hq) dX8_count_23
  · replace ho := ho.2 c_4
    refine lv_aload_n hx hb dX8_count_7 rfl (lv_at hl 0 rfl) ?_
    refine lv_iconst (v := (-1)) hx hb dX8_count_8 (by decide) ?_
    refine ca_Wi (b := a_mo) (As := [.int (-1 : Int32)]) (rest := []) (wr := [(a_moK, .inl (cZ, 5, .inl moK_r)), (a_moH, .inl (cI, 81920, .inl moH_r)), (a_moS, .inl (cI, 81920, .inl moS_r))]) (wo := fun (u : (Nat → Int32)) => [(a_mo, oX8 a_moR mo_e mo_f mo_codes mo_most mo_minus mo_low mo_function mo_atX mo_atM a_moK a_moH a_moS mo_spanFunction mo_spanRounding mo_spanMany a_moF a_moT mo_parts mo_shift a_moP a_moQ a_moA a_moB a_moD), (a_moR, .inl (cI, 7, .inl u))]) (wn := fun (u : (Nat → Int32)) => [(a_mo, oX8 a_moR mo_e mo_f mo_codes mo_most mo_minus mo_low mo_function mo_atX mo_atM a_moK a_moH a_moS mo_spanFunction mo_spanRounding mo_spanMany a_moF a_moT mo_parts mo_shift a_moP a_moQ a_moA a_moB a_moD), (a_moR, .inl (cI, 7, .inl u)), (a_moK, .inl (cZ, 5, .inl moK_r)), (a_moH, .inl (cI, 81920, .inl moH_r)), (a_moS, .inl (cI, 81920, .inl moS_r))]) ⟨hx, hb, hml, hown, hts⟩ (c_X8_refuse l D cI cJ cZ a_mo a_moR a_moK a_moH a_moS a_moF a_moT a_moP a_moQ a_moA a_moB a_moD H.size mo_e mo_f mo_codes mo_most mo_minus mo_low mo_function mo_atX mo_atM mo_spanFunction mo_spanRounding mo_spanMany mo_parts mo_shift moR_r (-1 : Int32) _ _ rfl ho) (cwV 1 hts (gdV wl_165 wl_166 wl_167 wl_5 wl_168) rfl rfl rfl (by decide +kernel) ⟨hRf _ (Nat.le_of_ble_eq_true rfl), hRl _ (Nat.le_of_ble_eq_true rfl)⟩) hK hN hP hD hS hA [0, 1] [2, 3, 4] [3, 4, 0, 1, 2] rfl rfl (by decide) (by decide) (by decide) (by decide) (fun _ => rfl) 0 7 rfl rfl rfl rfl hl.1 rfl (Nat.le_of_ble_eq_true rfl) dX8_count_9 ⟨Nat.zero_le _, Nat.zero_le _⟩ (fun r9 u9 H locs ho hP hD hS => ?_)
    try dsimp only at ho
    replace hP : va_P D vwCl [(a_mo, oX8 a_moR mo_e mo_f mo_codes mo_most mo_minus mo_low mo_function mo_atX mo_atM a_moK a_moH a_moS mo_spanFunction mo_spanRounding mo_spanMany a_moF a_moT mo_parts mo_shift a_moP a_moQ a_moA a_moB a_moD), (a_moR, .inl (cI, 7, .inl u9)), (a_moK, .inl (cZ, 5, .inl moK_r)), (a_moH, .inl (cI, 81920, .inl moH_r)), (a_moS, .inl (cI, 81920, .inl moS_r))] H := hP
    replace hD : va_D A [(a_mo, oX8 a_moR mo_e mo_f mo_codes mo_most mo_minus mo_low mo_function mo_atX mo_atM a_moK a_moH a_moS mo_spanFunction mo_spanRounding mo_spanMany a_moF a_moT mo_parts mo_shift a_moP a_moQ a_moA a_moB a_moD), (a_moR, .inl (cI, 7, .inl u9)), (a_moK, .inl (cZ, 5, .inl moK_r)), (a_moH, .inl (cI, 81920, .inl moH_r)), (a_moS, .inl (cI, 81920, .inl moS_r))] := hD
    subst hQ; exact W.iret (v := r9) hx hb hr (fun t ht hW => ⟨⟨r9, (mo_function, mo_atX, mo_atM, u9, moK_r, moH_r, moS_r), rfl, ho, by rw [ht]; exact hP, hD⟩, hS.F ht⟩) (fun q hq => hS.2.2 q hq) dX8_count_12

def w_X8_all : List Cond := .code yX8_all cX8_all 5 (some .int) :: wsL_law
set_option maxHeartbeats 4000000 in
set_option maxRecDepth 100000 in
theorem c_X8_all (l : Launch) (D : va_G) (cI cJ cZ : ClassId) (a_mo : Nat) (a_moR : Nat) (a_moK : Nat) (a_moH : Nat) (a_moS : Nat) (a_moF : Nat) (a_moT : Nat) (a_moP : Nat) (a_moQ : Nat) (a_moA : Nat) (a_moB : Nat) (a_moD : Nat) (sz : Nat) (mo_e : Int32) (mo_f : Int32) (mo_codes : Int32) (mo_most : Int32) (mo_minus : Int32) (mo_low : Int32) (mo_function : Int32) (mo_atX : Int32) (mo_atM : Int64) (mo_spanFunction : Int32) (mo_spanRounding : Int32) (mo_spanMany : Int32) (mo_parts : Int32) (mo_shift : Int32) (moR_r : Nat → Int32) (moK_r : Nat → Int32) (moH_r : Nat → Int32) (moS_r : Nat → Int32) (p1 : Int32) (p2 : Int32) (post : Int32 → Int32 → Int32 → Int64 → (Nat → Int32) → (Nat → Int32) → (Nat → Int32) → (Nat → Int32) → Prop) (A : Nat → Prop) (hAe : A = va_A [(a_mo, oX8 a_moR mo_e mo_f mo_codes mo_most mo_minus mo_low mo_function mo_atX mo_atM a_moK a_moH a_moS mo_spanFunction mo_spanRounding mo_spanMany a_moF a_moT mo_parts mo_shift a_moP a_moQ a_moA a_moB a_moD), (a_moR, .inl (cI, 7, .inl moR_r)), (a_moK, .inl (cZ, 5, .inl moK_r)), (a_moH, .inl (cI, 81920, .inl moH_r)), (a_moS, .inl (cI, 81920, .inl moS_r))] sz) (ho : wp_X8_all post mo_f mo_codes mo_most mo_minus mo_low mo_function mo_atX mo_atM moR_r moK_r moH_r moS_r p1 p2) : Met l yX8_all w_X8_all ({ frames := 7, cells := 0, slots := 0, locals := 175 } : Room) (rw_P D [(cI, .int), (cJ, .long), (cZ, .boolean)] [.ref a_mo, .int p1, .int p2] sz [(a_mo, oX8 a_moR mo_e mo_f mo_codes mo_most mo_minus mo_low mo_function mo_atX mo_atM a_moK a_moH a_moS mo_spanFunction mo_spanRounding mo_spanMany a_moF a_moT mo_parts mo_shift a_moP a_moQ a_moA a_moB a_moD), (a_moR, .inl (cI, 7, .inl moR_r)), (a_moK, .inl (cZ, 5, .inl moK_r)), (a_moH, .inl (cI, 81920, .inl moH_r)), (a_moS, .inl (cI, 81920, .inl moS_r))]) (va_Qi (fun (r : Int32) (u : (Int32) × (Int32) × (Int64) × (Nat → Int32) × (Nat → Int32) × (Nat → Int32) × (Nat → Int32)) => post r u.1 u.2.1 u.2.2.1 u.2.2.2.1 u.2.2.2.2.1 u.2.2.2.2.2.1 u.2.2.2.2.2.2) (rw_B D A (fun (u : (Int32) × (Int32) × (Int64) × (Nat → Int32) × (Nat → Int32) × (Nat → Int32) × (Nat → Int32)) => [(a_mo, oX8 a_moR mo_e mo_f mo_codes mo_most mo_minus mo_low u.1 u.2.1 u.2.2.1 a_moK a_moH a_moS mo_spanFunction mo_spanRounding mo_spanMany a_moF a_moT mo_parts mo_shift a_moP a_moQ a_moA a_moB a_moD), (a_moR, .inl (cI, 7, .inl u.2.2.2.1)), (a_moK, .inl (cZ, 5, .inl u.2.2.2.2.1)), (a_moH, .inl (cI, 81920, .inl u.2.2.2.2.2.1)), (a_moS, .inl (cI, 81920, .inl u.2.2.2.2.2.2))])) A) 0 0 A := by
  refine Met.ofW (cc := cX8_all) (maxL := 5) (ret := (some .int)) (by decide) rfl ?_
  intro p e s m args below meth c s₁ B hml hv
  obtain ⟨hargs, hsz, hP, hK, hN, hD0⟩ := hv
  have hx := B.exec
  have hb := B.bytes
  have hr := B.returns
  have hts : ∀ w ∈ wsL_law, w.before args s = true := fun w h => atoms_spec (ws := w_X8_all) B.pre w (List.mem_cons_of_mem _ h)
  have hown : s.vm.findClass RX8 = some m.cls := findClass_of_methodNamed B.named
  have hlocks := B.notSynchronized
  subst hsz
  have hD : va_D A [(a_mo, oX8 a_moR mo_e mo_f mo_codes mo_most mo_minus mo_low mo_function mo_atX mo_atM a_moK a_moH a_moS mo_spanFunction mo_spanRounding mo_spanMany a_moF a_moT mo_parts mo_shift a_moP a_moQ a_moA a_moB a_moD), (a_moR, .inl (cI, 7, .inl moR_r)), (a_moK, .inl (cZ, 5, .inl moK_r)), (a_moH, .inl (cI, 81920, .inl moH_r)), (a_moS, .inl (cI, 81920, .inl moS_r))] := by rw [hAe]; exact hD0.self
  have hA : ∀ q : Nat, s.heap.size ≤ q → A q := fun q h => by rw [hAe]; exact Or.inr h
  have hS : va_S A s.heap s.heap [] := va_S.rf
  have hl := lv_entry ([.ref a_mo, .int p1, .int p2]) (n := 5) (Nat.le_of_ble_eq_true rfl)
  rw [hargs, lg_entry_eq, ← hargs]
  generalize (lg_sl ([.ref a_mo, .int p1, .int p2]) ++ List.replicate (5 - (lg_sl ([.ref a_mo, .int p1, .int p2])).length) Slot.unset).toArray = ls at hl ⊢
  replace hl : lv_has ls 5 [(0, .ref a_mo), (1, .int p1), (2, .int p2)] := hl
  have hRf : ∀ n, n ≤ 7 → n ≤ (headSpec w_X8_all ({ frames := 7, cells := 0, slots := 0, locals := 175 } : Room)).room.frames := fun n h => h
  have hRl : ∀ n, n ≤ 175 → n ≤ (headSpec w_X8_all ({ frames := 7, cells := 0, slots := 0, locals := 175 } : Room)).room.locals := fun n h => h
  generalize (headSpec w_X8_all ({ frames := 7, cells := 0, slots := 0, locals := 175 } : Room)).room = R at hRf hRl ⊢
  generalize hQ : MQ below _ args s 0 0 _ = Q
  have C_38 : ∀ n : Nat, ∀ (mo_function : Int32) (mo_atX : Int32) (mo_atM : Int64) (moR_r : Nat → Int32) (moK_r : Nat → Int32) (moH_r : Nat → Int32) (moS_r : Nat → Int32) (x3 : Int32) (x4 : Int32) (H : Heap) (locs : List Loc) (ls : Array Slot), wp_X8_all_38 post  mo_codes p1 p2 n mo_function mo_atX mo_atM moR_r moK_r moH_r moS_r x3 x4 → va_P D vwCl [(a_mo, oX8 a_moR mo_e mo_f mo_codes mo_most mo_minus mo_low mo_function mo_atX mo_atM a_moK a_moH a_moS mo_spanFunction mo_spanRounding mo_spanMany a_moF a_moT mo_parts mo_shift a_moP a_moQ a_moA a_moB a_moD), (a_moR, .inl (cI, 7, .inl moR_r)), (a_moK, .inl (cZ, 5, .inl moK_r)), (a_moH, .inl (cI, 81920, .inl moH_r)), (a_moS, .inl (cI, 81920, .inl moS_r))] H → va_D A [(a_mo, oX8 a_moR mo_e mo_f mo_codes mo_most mo_minus mo_low mo_function mo_atX mo_atM a_moK a_moH a_moS mo_spanFunction mo_spanRounding mo_spanMany a_moF a_moT mo_parts mo_shift a_moP a_moQ a_moA a_moB a_moD), (a_moR, .inl (cI, 7, .inl moR_r)), (a_moK, .inl (cZ, 5, .inl moK_r)), (a_moH, .inl (cI, 81920, .inl moH_r)), (a_moS, .inl (cI, 81920, .inl moS_r))] → va_S A s.heap H locs → lv_has ls 5 [(0, .ref a_mo), (1, .int p1), (2, .int p2), (3, .int x3), (4, .int x4)] → W p l e R s m args below meth c H locs 0 0 Q (F0 m 38 ls []) := by
    intro n
    induction n with
    | zero => intro mo_function mo_atX mo_atM moR_r moK_r moH_r moS_r x3 x4 H locs ls ho hP hD hS hl; exact ho.elim
    | succ n_38 ih_38 =>
      have C_70 : ∀ (mo_function : Int32) (mo_atX : Int32) (mo_atM : Int64) (moR_r : Nat → Int32) (moK_r : Nat → Int32) (moH_r : Nat → Int32) (moS_r : Nat → Int32) (x4 : Int32) (y0 : Int32) (y1 : Int32) (H : Heap) (locs : List Loc) (ls : Array Slot), wp_X8_all_70 post (wp_X8_all_38 post mo_codes p1 p2 n_38) mo_function mo_atX mo_atM moR_r moK_r moH_r moS_r x4 y0 y1 → va_P D vwCl [(a_mo, oX8 a_moR mo_e mo_f mo_codes mo_most mo_minus mo_low mo_function mo_atX mo_atM a_moK a_moH a_moS mo_spanFunction mo_spanRounding mo_spanMany a_moF a_moT mo_parts mo_shift a_moP a_moQ a_moA a_moB a_moD), (a_moR, .inl (cI, 7, .inl moR_r)), (a_moK, .inl (cZ, 5, .inl moK_r)), (a_moH, .inl (cI, 81920, .inl moH_r)), (a_moS, .inl (cI, 81920, .inl moS_r))] H → va_D A [(a_mo, oX8 a_moR mo_e mo_f mo_codes mo_most mo_minus mo_low mo_function mo_atX mo_atM a_moK a_moH a_moS mo_spanFunction mo_spanRounding mo_spanMany a_moF a_moT mo_parts mo_shift a_moP a_moQ a_moA a_moB a_moD), (a_moR, .inl (cI, 7, .inl moR_r)), (a_moK, .inl (cZ, 5, .inl moK_r)), (a_moH, .inl (cI, 81920, .inl moH_r)), (a_moS, .inl (cI, 81920, .inl moS_r))] → va_S A s.heap H locs → lv_has ls 5 [(0, .ref a_mo), (1, .int p1), (2, .int p2), (4, .int x4)] → W p l e R s m args below meth c H locs 0 0 Q (F0 m 70 ls [.int y0, .int y1]) := by
        intro mo_function mo_atX mo_atM moR_r moK_r moH_r moS_r x4 y0 y1 H locs ls ho hP hD hS hl
        unfold wp_X8_all_70 at ho
        refine lv_iadd hx hb dX8_all_70 ?_
        refine lv_istore_n (lv' := [(3, .int (y1 + y0)), (0, .ref a_mo), (1, .int p1), (2, .int p2), (4, .int x4)]) hx hb dX8_all_71 rfl hl (by decide) rfl (fun ls hl => ?_)
        refine lv_iinc (v := (x4 + (1 : Int32))) (lv' := [(4, .int (x4 + (1 : Int32))), (3, .int (y1 + y0)), (0, .ref a_mo), (1, .int p1), (2, .int p2)]) hx hb dX8_all_72 hl (k := 4) rfl rfl (by decide) rfl (fun ls hl => ?_)
        refine lv_goto (tgt := 38) hx hb dX8_all_75 (by decide) ?_
        exact ih_38 mo_function mo_atX mo_atM moR_r moK_r moH_r moS_r (y1 + y0) (x4 + (1 : Int32)) H locs ls ho hP hD hS (lv_sub hl [2, 3, 4, 1, 0] rfl)
      intro mo_function mo_atX mo_atM moR_r moK_r moH_r moS_r x3 x4 H locs ls ho hP hD hS hl
      replace ho : wp_X8_all_38_b post mo_codes p1 p2 (wp_X8_all_38 post mo_codes p1 p2 n_38) mo_function mo_atX mo_atM moR_r moK_r moH_r moS_r x3 x4 := ho
      unfold wp_X8_all_38_b at ho
      refine lv_iload hx hb dX8_all_38 (lv_at hl 4 rfl) ?_
      refine lv_aload_n hx hb dX8_all_40 rfl (lv_at hl 0 rfl) ?_
      refine va_get (D := D) (ci := 7) (v := .int mo_codes) (C := RX8) (T := TX8) (N := 25) hx hb hts inlX8 hown hK hP 0 rfl rfl 3 (by decide) (hts _ wl_118) (fun _ h9 => h9) rfl dX8_all_41 ?_
      refine lv_icmp_ge (tgt := 78) hx hb dX8_all_44 (by decide) (fun c_44 => ?_) (fun c_44 => ?_)
      · replace ho := ho.1 c_44
        refine lv_iload_n hx hb dX8_all_78 rfl (lv_at hl 3 rfl) ?_
        subst hQ; exact W.iret (v := x3) hx hb hr (fun t ht hW => ⟨⟨x3, (mo_function, mo_atX, mo_atM, moR_r, moK_r, moH_r, moS_r), rfl, ho, by rw [ht]; exact hP, hD⟩, hS.F ht⟩) (fun q hq => hS.2.2 q hq) dX8_all_79
      · replace ho := ho.2 c_44
        refine lv_iload_n hx hb dX8_all_47 rfl (lv_at hl 3 rfl) ?_
        refine lv_aload_n hx hb dX8_all_48 rfl (lv_at hl 0 rfl) ?_
        refine va_get (D := D) (ci := 7) (v := .ref a_moS) (C := RX8) (T := TX8) (N := 25) hx hb hts inlX8 hown hK hP 0 rfl rfl 12 (by decide) (hts _ wl_103) (fun _ h9 => h9) rfl dX8_all_49 ?_
        refine lv_sipush (v := 16384) hx hb dX8_all_52 (by decide) ?_
        refine lv_iload_n hx hb dX8_all_55 rfl (lv_at hl 1 rfl) ?_
        refine lv_imul hx hb dX8_all_56 ?_
        refine lv_iload hx hb dX8_all_57 (lv_at hl 4 rfl) ?_
        refine lv_iadd hx hb dX8_all_59 ?_
        have o_60 := ho.1
        replace ho := ho.2
        refine va_iald hx hb hK hP 4 0 rfl rfl o_60 dX8_all_60 ?_
        refine lv_iload_n hx hb dX8_all_61 rfl (lv_at hl 2 rfl) ?_
        refine lv_icmp_ne (tgt := 69) hx hb dX8_all_62 (by decide) (fun c_62 => ?_) (fun c_62 => ?_)
        · replace ho := ho.1 c_62
          refine lv_iconst (v := 0) hx hb dX8_all_69 (by decide) ?_
          exact C_70 mo_function mo_atX mo_atM moR_r moK_r moH_r moS_r x4 (0 : Int32) x3 H locs ls ho hP hD hS (lv_sub hl [0, 1, 2, 4] rfl)
        · replace ho := ho.2 c_62
          refine lv_iconst (v := 1) hx hb dX8_all_65 (by decide) ?_
          refine lv_goto (tgt := 70) hx hb dX8_all_66 (by decide) ?_
          exact C_70 mo_function mo_atX mo_atM moR_r moK_r moH_r moS_r x4 (1 : Int32) x3 H locs ls ho hP hD hS (lv_sub hl [0, 1, 2, 4] rfl)
  suffices main : ∀ (H : Heap) (locs : List Loc), va_P D vwCl [(a_mo, oX8 a_moR mo_e mo_f mo_codes mo_most mo_minus mo_low mo_function mo_atX mo_atM a_moK a_moH a_moS mo_spanFunction mo_spanRounding mo_spanMany a_moF a_moT mo_parts mo_shift a_moP a_moQ a_moA a_moB a_moD), (a_moR, .inl (cI, 7, .inl moR_r)), (a_moK, .inl (cZ, 5, .inl moK_r)), (a_moH, .inl (cI, 81920, .inl moH_r)), (a_moS, .inl (cI, 81920, .inl moS_r))] H → va_S A s.heap H locs → W p l e R s m args below meth c H locs 0 0 Q (F0 m 0 ls []) from main _ _ hP hS
  intro H locs hP hS
  unfold wp_X8_all at ho
  refine lv_iload_n hx hb dX8_all_0 rfl (lv_at hl 1 rfl) ?_
  refine ca_Si (As := [.int p1]) (rest := []) ⟨hx, hb, hml, hown, hts⟩ (c_X8_isFunction l D cI cJ cZ   p1 _ ho) (va_cwS 1 hts (gdS wl_469 wl_470 wl_5 wl_471) rfl rfl rfl (by decide +kernel) ⟨hRf _ (Nat.le_of_ble_eq_true rfl), hRl _ (Nat.le_of_ble_eq_true rfl)⟩) hK hN hP [] rfl rfl hl.1 rfl (Nat.le_of_ble_eq_true rfl) dX8_all_1 ⟨Nat.zero_le _, Nat.zero_le _⟩ (fun r1 ho => ?_)
  refine lv_if_ne (tgt := 13) hx hb dX8_all_4 (by decide) (fun c_4 => ?_) (fun c_4 => ?_)
  · replace ho := ho.1 c_4
    refine lv_iload_n hx hb dX8_all_13 rfl (lv_at hl 2 rfl) ?_
    refine lv_iconst (v := 4) hx hb dX8_all_14 (by decide) ?_
    refine ca_Si (As := [.int p2, .int (4 : Int32)]) (rest := []) ⟨hx, hb, hml, hown, hts⟩ (c_X8_isIn l D cI cJ cZ   p2 (4 : Int32) _ ho) (va_cwS 2 hts (gdS wl_254 wl_255 wl_5 wl_256) rfl rfl rfl (by decide +kernel) ⟨hRf _ (Nat.le_of_ble_eq_true rfl), hRl _ (Nat.le_of_ble_eq_true rfl)⟩) hK hN hP [] rfl rfl hl.1 rfl (Nat.le_of_ble_eq_true rfl) dX8_all_15 ⟨Nat.zero_le _, Nat.zero_le _⟩ (fun r15 ho => ?_)
    refine lv_if_ne (tgt := 28) hx hb dX8_all_18 (by decide) (fun c_18 => ?_) (fun c_18 => ?_)
    · replace ho := ho.1 c_18
      refine lv_aload_n hx hb dX8_all_28 rfl (lv_at hl 0 rfl) ?_
      refine lv_iload_n hx hb dX8_all_29 rfl (lv_at hl 1 rfl) ?_
      refine ca_Wv (b := a_mo) (As := [.int p1]) (rest := []) (wr := [(a_moR, .inl (cI, 7, .inl moR_r))]) (wo := fun (u : (Int32) × (Int32) × (Int64) × (Nat → Int32) × (Nat → Int32) × (Nat → Int32)) => [(a_mo, oX8 a_moR mo_e mo_f mo_codes mo_most mo_minus mo_low u.1 u.2.1 u.2.2.1 a_moK a_moH a_moS mo_spanFunction mo_spanRounding mo_spanMany a_moF a_moT mo_parts mo_shift a_moP a_moQ a_moA a_moB a_moD), (a_moK, .inl (cZ, 5, .inl u.2.2.2.1)), (a_moH, .inl (cI, 81920, .inl u.2.2.2.2.1)), (a_moS, .inl (cI, 81920, .inl u.2.2.2.2.2))]) (wn := fun (u : (Int32) × (Int32) × (Int64) × (Nat → Int32) × (Nat → Int32) × (Nat → Int32)) => [(a_mo, oX8 a_moR mo_e mo_f mo_codes mo_most mo_minus mo_low u.1 u.2.1 u.2.2.1 a_moK a_moH a_moS mo_spanFunction mo_spanRounding mo_spanMany a_moF a_moT mo_parts mo_shift a_moP a_moQ a_moA a_moB a_moD), (a_moR, .inl (cI, 7, .inl moR_r)), (a_moK, .inl (cZ, 5, .inl u.2.2.2.1)), (a_moH, .inl (cI, 81920, .inl u.2.2.2.2.1)), (a_moS, .inl (cI, 81920, .inl u.2.2.2.2.2))]) ⟨hx, hb, hml, hown, hts⟩ (c_X8_know l D cI cJ cZ a_mo a_moR a_moK a_moH a_moS a_moF a_moT a_moP a_moQ a_moA a_moB a_moD H.size mo_e mo_f mo_codes mo_most mo_minus mo_low mo_function mo_atX mo_atM mo_spanFunction mo_spanRounding mo_spanMany mo_parts mo_shift moK_r moH_r moS_r p1 _ _ rfl ho) (cwV 1 hts (gdV wl_577 wl_578 wl_579 wl_5 wl_580) rfl rfl rfl (by decide +kernel) ⟨hRf _ (Nat.le_of_ble_eq_true rfl), hRl _ (Nat.le_of_ble_eq_true rfl)⟩) hK hN hP hD hS hA [0, 2, 3, 4] [1] [1, 0, 2, 3, 4] rfl rfl (by decide) (by decide) (by decide) (by decide) (fun _ => rfl) 0 7 rfl rfl rfl rfl hl.1 rfl (Nat.le_of_ble_eq_true rfl) dX8_all_30 ⟨Nat.zero_le _, Nat.zero_le _⟩ (fun  u30 H locs ho hP hD hS => ?_)
      obtain ⟨u30_1, u30_2, u30_3, u30_4, u30_5, u30_6⟩ := u30
      try dsimp only at ho
      replace hP : va_P D vwCl [(a_mo, oX8 a_moR mo_e mo_f mo_codes mo_most mo_minus mo_low u30_1 u30_2 u30_3 a_moK a_moH a_moS mo_spanFunction mo_spanRounding mo_spanMany a_moF a_moT mo_parts mo_shift a_moP a_moQ a_moA a_moB a_moD), (a_moR, .inl (cI, 7, .inl moR_r)), (a_moK, .inl (cZ, 5, .inl u30_4)), (a_moH, .inl (cI, 81920, .inl u30_5)), (a_moS, .inl (cI, 81920, .inl u30_6))] H := hP
      replace hD : va_D A [(a_mo, oX8 a_moR mo_e mo_f mo_codes mo_most mo_minus mo_low u30_1 u30_2 u30_3 a_moK a_moH a_moS mo_spanFunction mo_spanRounding mo_spanMany a_moF a_moT mo_parts mo_shift a_moP a_moQ a_moA a_moB a_moD), (a_moR, .inl (cI, 7, .inl moR_r)), (a_moK, .inl (cZ, 5, .inl u30_4)), (a_moH, .inl (cI, 81920, .inl u30_5)), (a_moS, .inl (cI, 81920, .inl u30_6))] := hD
      refine lv_iconst (v := 0) hx hb dX8_all_33 (by decide) ?_
      refine lv_istore_n (lv' := [(3, .int (0 : Int32)), (0, .ref a_mo), (1, .int p1), (2, .int p2)]) hx hb dX8_all_34 rfl hl (by decide) rfl (fun ls hl => ?_)
      refine lv_iconst (v := 0) hx hb dX8_all_35 (by decide) ?_
      refine lv_istore (lv' := [(4, .int (0 : Int32)), (3, .int (0 : Int32)), (0, .ref a_mo), (1, .int p1), (2, .int p2)]) hx hb dX8_all_36 hl (by decide) rfl (fun ls hl => ?_)
      obtain ⟨n_38, ho⟩ := ho
      exact C_38 n_38 u30_1 u30_2 u30_3 moR_r u30_4 u30_5 u30_6 (0 : Int32) (0 : Int32) H locs ls ho hP hD hS (lv_sub hl [2, 3, 4, 1, 0] rfl)
    · replace ho := ho.2 c_18
      refine lv_aload_n hx hb dX8_all_21 rfl (lv_at hl 0 rfl) ?_
      refine lv_bipush (v := (-2)) hx hb dX8_all_22 (by decide) ?_
      refine ca_Wi (b := a_mo) (As := [.int (-2 : Int32)]) (rest := []) (wr := [(a_moK, .inl (cZ, 5, .inl moK_r)), (a_moH, .inl (cI, 81920, .inl moH_r)), (a_moS, .inl (cI, 81920, .inl moS_r))]) (wo := fun (u : (Nat → Int32)) => [(a_mo, oX8 a_moR mo_e mo_f mo_codes mo_most mo_minus mo_low mo_function mo_atX mo_atM a_moK a_moH a_moS mo_spanFunction mo_spanRounding mo_spanMany a_moF a_moT mo_parts mo_shift a_moP a_moQ a_moA a_moB a_moD), (a_moR, .inl (cI, 7, .inl u))]) (wn := fun (u : (Nat → Int32)) => [(a_mo, oX8 a_moR mo_e mo_f mo_codes mo_most mo_minus mo_low mo_function mo_atX mo_atM a_moK a_moH a_moS mo_spanFunction mo_spanRounding mo_spanMany a_moF a_moT mo_parts mo_shift a_moP a_moQ a_moA a_moB a_moD), (a_moR, .inl (cI, 7, .inl u)), (a_moK, .inl (cZ, 5, .inl moK_r)), (a_moH, .inl (cI, 81920, .inl moH_r)), (a_moS, .inl (cI, 81920, .inl moS_r))]) ⟨hx, hb, hml, hown, hts⟩ (c_X8_refuse l D cI cJ cZ a_mo a_moR a_moK a_moH a_moS a_moF a_moT a_moP a_moQ a_moA a_moB a_moD H.size mo_e mo_f mo_codes mo_most mo_minus mo_low mo_function mo_atX mo_atM mo_spanFunction mo_spanRounding mo_spanMany mo_parts mo_shift moR_r (-2 : Int32) _ _ rfl ho) (cwV 1 hts (gdV wl_165 wl_166 wl_167 wl_5 wl_168) rfl rfl rfl (by decide +kernel) ⟨hRf _ (Nat.le_of_ble_eq_true rfl), hRl _ (Nat.le_of_ble_eq_true rfl)⟩) hK hN hP hD hS hA [0, 1] [2, 3, 4] [3, 4, 0, 1, 2] rfl rfl (by decide) (by decide) (by decide) (by decide) (fun _ => rfl) 0 7 rfl rfl rfl rfl hl.1 rfl (Nat.le_of_ble_eq_true rfl) dX8_all_24 ⟨Nat.zero_le _, Nat.zero_le _⟩ (fun r24 u24 H locs ho hP hD hS => ?_)
      try dsimp only at ho
      replace hP : va_P D vwCl [(a_mo, oX8 a_moR mo_e mo_f mo_codes mo_most mo_minus mo_low mo_function mo_atX mo_atM a_moK a_moH a_moS mo_spanFunction mo_spanRounding mo_spanMany a_moF a_moT mo_parts mo_shift a_moP a_moQ a_moA a_moB a_moD), (a_moR, .inl (cI, 7, .inl u24)), (a_moK, .inl (cZ, 5, .inl moK_r)), (a_moH, .inl (cI, 81920, .inl moH_r)), (a_moS, .inl (cI, 81920, .inl moS_r))] H := hP
      replace hD : va_D A [(a_mo, oX8 a_moR mo_e mo_f mo_codes mo_most mo_minus mo_low mo_function mo_atX mo_atM a_moK a_moH a_moS mo_spanFunction mo_spanRounding mo_spanMany a_moF a_moT mo_parts mo_shift a_moP a_moQ a_moA a_moB a_moD), (a_moR, .inl (cI, 7, .inl u24)), (a_moK, .inl (cZ, 5, .inl moK_r)), (a_moH, .inl (cI, 81920, .inl moH_r)), (a_moS, .inl (cI, 81920, .inl moS_r))] := hD
      subst hQ; exact W.iret (v := r24) hx hb hr (fun t ht hW => ⟨⟨r24, (mo_function, mo_atX, mo_atM, u24, moK_r, moH_r, moS_r), rfl, ho, by rw [ht]; exact hP, hD⟩, hS.F ht⟩) (fun q hq => hS.2.2 q hq) dX8_all_27
  · replace ho := ho.2 c_4
    refine lv_aload_n hx hb dX8_all_7 rfl (lv_at hl 0 rfl) ?_
    refine lv_iconst (v := (-1)) hx hb dX8_all_8 (by decide) ?_
    refine ca_Wi (b := a_mo) (As := [.int (-1 : Int32)]) (rest := []) (wr := [(a_moK, .inl (cZ, 5, .inl moK_r)), (a_moH, .inl (cI, 81920, .inl moH_r)), (a_moS, .inl (cI, 81920, .inl moS_r))]) (wo := fun (u : (Nat → Int32)) => [(a_mo, oX8 a_moR mo_e mo_f mo_codes mo_most mo_minus mo_low mo_function mo_atX mo_atM a_moK a_moH a_moS mo_spanFunction mo_spanRounding mo_spanMany a_moF a_moT mo_parts mo_shift a_moP a_moQ a_moA a_moB a_moD), (a_moR, .inl (cI, 7, .inl u))]) (wn := fun (u : (Nat → Int32)) => [(a_mo, oX8 a_moR mo_e mo_f mo_codes mo_most mo_minus mo_low mo_function mo_atX mo_atM a_moK a_moH a_moS mo_spanFunction mo_spanRounding mo_spanMany a_moF a_moT mo_parts mo_shift a_moP a_moQ a_moA a_moB a_moD), (a_moR, .inl (cI, 7, .inl u)), (a_moK, .inl (cZ, 5, .inl moK_r)), (a_moH, .inl (cI, 81920, .inl moH_r)), (a_moS, .inl (cI, 81920, .inl moS_r))]) ⟨hx, hb, hml, hown, hts⟩ (c_X8_refuse l D cI cJ cZ a_mo a_moR a_moK a_moH a_moS a_moF a_moT a_moP a_moQ a_moA a_moB a_moD H.size mo_e mo_f mo_codes mo_most mo_minus mo_low mo_function mo_atX mo_atM mo_spanFunction mo_spanRounding mo_spanMany mo_parts mo_shift moR_r (-1 : Int32) _ _ rfl ho) (cwV 1 hts (gdV wl_165 wl_166 wl_167 wl_5 wl_168) rfl rfl rfl (by decide +kernel) ⟨hRf _ (Nat.le_of_ble_eq_true rfl), hRl _ (Nat.le_of_ble_eq_true rfl)⟩) hK hN hP hD hS hA [0, 1] [2, 3, 4] [3, 4, 0, 1, 2] rfl rfl (by decide) (by decide) (by decide) (by decide) (fun _ => rfl) 0 7 rfl rfl rfl rfl hl.1 rfl (Nat.le_of_ble_eq_true rfl) dX8_all_9 ⟨Nat.zero_le _, Nat.zero_le _⟩ (fun r9 u9 H locs ho hP hD hS => ?_)
    try dsimp only at ho
    replace hP : va_P D vwCl [(a_mo, oX8 a_moR mo_e mo_f mo_codes mo_most mo_minus mo_low mo_function mo_atX mo_atM a_moK a_moH a_moS mo_spanFunction mo_spanRounding mo_spanMany a_moF a_moT mo_parts mo_shift a_moP a_moQ a_moA a_moB a_moD), (a_moR, .inl (cI, 7, .inl u9)), (a_moK, .inl (cZ, 5, .inl moK_r)), (a_moH, .inl (cI, 81920, .inl moH_r)), (a_moS, .inl (cI, 81920, .inl moS_r))] H := hP
    replace hD : va_D A [(a_mo, oX8 a_moR mo_e mo_f mo_codes mo_most mo_minus mo_low mo_function mo_atX mo_atM a_moK a_moH a_moS mo_spanFunction mo_spanRounding mo_spanMany a_moF a_moT mo_parts mo_shift a_moP a_moQ a_moA a_moB a_moD), (a_moR, .inl (cI, 7, .inl u9)), (a_moK, .inl (cZ, 5, .inl moK_r)), (a_moH, .inl (cI, 81920, .inl moH_r)), (a_moS, .inl (cI, 81920, .inl moS_r))] := hD
    subst hQ; exact W.iret (v := r9) hx hb hr (fun t ht hW => ⟨⟨r9, (mo_function, mo_atX, mo_atM, u9, moK_r, moH_r, moS_r), rfl, ho, by rw [ht]; exact hP, hD⟩, hS.F ht⟩) (fun q hq => hS.2.2 q hq) dX8_all_12
