def w_X8_fits : List Cond := .code yX8_fits cX8_fits 10 (some .int) :: wsL_law
set_option maxHeartbeats 4000000 in
set_option maxRecDepth 100000 in
theorem c_X8_fits (l : Launch) (D : va_G) (cI cJ cZ : ClassId) (a_mo : Nat) (a_moR : Nat) (a_moK : Nat) (a_moH : Nat) (a_moS : Nat) (a_moF : Nat) (a_moT : Nat) (a_moP : Nat) (a_moQ : Nat) (a_moA : Nat) (a_moB : Nat) (a_moD : Nat) (sz : Nat) (mo_e : Int32) (mo_f : Int32) (mo_codes : Int32) (mo_most : Int32) (mo_minus : Int32) (mo_low : Int32) (mo_function : Int32) (mo_atX : Int32) (mo_atM : Int64) (mo_spanFunction : Int32) (mo_spanRounding : Int32) (mo_spanMany : Int32) (mo_parts : Int32) (mo_shift : Int32) (moR_r : Nat → Int32) (p1 : Int32) (p2 : Int32) (p3 : Int32) (p4 : Int32) (p5 : Int32) (p6 : Int32) (p7 : Int32) (p8 : Int32) (post : Int32 → Int32 → Int32 → Int64 → (Nat → Int32) → Prop) (A : Nat → Prop) (hAe : A = va_A [(a_mo, oX8 a_moR mo_e mo_f mo_codes mo_most mo_minus mo_low mo_function mo_atX mo_atM a_moK a_moH a_moS mo_spanFunction mo_spanRounding mo_spanMany a_moF a_moT mo_parts mo_shift a_moP a_moQ a_moA a_moB a_moD), (a_moR, .inl (cI, 7, .inl moR_r))] sz) (ho : wp_X8_fits post mo_e mo_f mo_most mo_minus mo_low mo_function mo_atX mo_atM moR_r p1 p2 p3 p4 p5 p6 p7 p8) : Met l yX8_fits w_X8_fits ({ frames := 6, cells := 0, slots := 0, locals := 151 } : Room) (rw_P D [(cI, .int), (cJ, .long), (cZ, .boolean)] [.ref a_mo, .int p1, .int p2, .int p3, .int p4, .int p5, .int p6, .int p7, .int p8] sz [(a_mo, oX8 a_moR mo_e mo_f mo_codes mo_most mo_minus mo_low mo_function mo_atX mo_atM a_moK a_moH a_moS mo_spanFunction mo_spanRounding mo_spanMany a_moF a_moT mo_parts mo_shift a_moP a_moQ a_moA a_moB a_moD), (a_moR, .inl (cI, 7, .inl moR_r))]) (va_Qi (fun (r : Int32) (u : (Int32) × (Int32) × (Int64) × (Nat → Int32)) => post r u.1 u.2.1 u.2.2.1 u.2.2.2) (rw_B D A (fun (u : (Int32) × (Int32) × (Int64) × (Nat → Int32)) => [(a_mo, oX8 a_moR mo_e mo_f mo_codes mo_most mo_minus mo_low u.1 u.2.1 u.2.2.1 a_moK a_moH a_moS mo_spanFunction mo_spanRounding mo_spanMany a_moF a_moT mo_parts mo_shift a_moP a_moQ a_moA a_moB a_moD), (a_moR, .inl (cI, 7, .inl u.2.2.2))])) A) 0 0 A := by
  refine Met.ofW (cc := cX8_fits) (maxL := 10) (ret := (some .int)) (by decide) rfl ?_
  intro p e s m args below meth c s₁ B hml hv
  obtain ⟨hargs, hsz, hP, hK, hN, hD0⟩ := hv
  have hx := B.exec
  have hb := B.bytes
  have hr := B.returns
  have hts : ∀ w ∈ wsL_law, w.before args s = true := fun w h => atoms_spec (ws := w_X8_fits) B.pre w (List.mem_cons_of_mem _ h)
  have hown : s.vm.findClass RX8 = some m.cls := findClass_of_methodNamed B.named
  have hlocks := B.notSynchronized
  subst hsz
  have hD : va_D A [(a_mo, oX8 a_moR mo_e mo_f mo_codes mo_most mo_minus mo_low mo_function mo_atX mo_atM a_moK a_moH a_moS mo_spanFunction mo_spanRounding mo_spanMany a_moF a_moT mo_parts mo_shift a_moP a_moQ a_moA a_moB a_moD), (a_moR, .inl (cI, 7, .inl moR_r))] := by rw [hAe]; exact hD0.self
  have hA : ∀ q : Nat, s.heap.size ≤ q → A q := fun q h => by rw [hAe]; exact Or.inr h
  have hS : va_S A s.heap s.heap [] := va_S.rf
  have hl := lv_entry ([.ref a_mo, .int p1, .int p2, .int p3, .int p4, .int p5, .int p6, .int p7, .int p8]) (n := 10) (Nat.le_of_ble_eq_true rfl)
  rw [hargs, lg_entry_eq, ← hargs]
  generalize (lg_sl ([.ref a_mo, .int p1, .int p2, .int p3, .int p4, .int p5, .int p6, .int p7, .int p8]) ++ List.replicate (10 - (lg_sl ([.ref a_mo, .int p1, .int p2, .int p3, .int p4, .int p5, .int p6, .int p7, .int p8])).length) Slot.unset).toArray = ls at hl ⊢
  replace hl : lv_has ls 10 [(0, .ref a_mo), (1, .int p1), (2, .int p2), (3, .int p3), (4, .int p4), (5, .int p5), (6, .int p6), (7, .int p7), (8, .int p8)] := hl
  have hRf : ∀ n, n ≤ 6 → n ≤ (headSpec w_X8_fits ({ frames := 6, cells := 0, slots := 0, locals := 151 } : Room)).room.frames := fun n h => h
  have hRl : ∀ n, n ≤ 151 → n ≤ (headSpec w_X8_fits ({ frames := 6, cells := 0, slots := 0, locals := 151 } : Room)).room.locals := fun n h => h
  generalize (headSpec w_X8_fits ({ frames := 6, cells := 0, slots := 0, locals := 151 } : Room)).room = R at hRf hRl ⊢
  generalize hQ : MQ below _ args s 0 0 _ = Q
  have C_122 : ∀ n : Nat, ∀ (mo_function : Int32) (mo_atX : Int32) (mo_atM : Int64) (moR_r : Nat → Int32) (x9 : Int32) (H : Heap) (locs : List Loc) (ls : Array Slot), wp_X8_fits_122 post  mo_f mo_most mo_minus mo_low p1 p2 p3 p5 p6 p7 p8 n mo_function mo_atX mo_atM moR_r x9 → va_P D vwCl [(a_mo, oX8 a_moR mo_e mo_f mo_codes mo_most mo_minus mo_low mo_function mo_atX mo_atM a_moK a_moH a_moS mo_spanFunction mo_spanRounding mo_spanMany a_moF a_moT mo_parts mo_shift a_moP a_moQ a_moA a_moB a_moD), (a_moR, .inl (cI, 7, .inl moR_r))] H → va_D A [(a_mo, oX8 a_moR mo_e mo_f mo_codes mo_most mo_minus mo_low mo_function mo_atX mo_atM a_moK a_moH a_moS mo_spanFunction mo_spanRounding mo_spanMany a_moF a_moT mo_parts mo_shift a_moP a_moQ a_moA a_moB a_moD), (a_moR, .inl (cI, 7, .inl moR_r))] → va_S A s.heap H locs → lv_has ls 10 [(0, .ref a_mo), (1, .int p1), (2, .int p2), (3, .int p3), (5, .int p5), (6, .int p6), (7, .int p7), (8, .int p8), (9, .int x9)] → W p l e R s m args below meth c H locs 0 0 Q (F0 m 122 ls []) := by
    intro n
    induction n with
    | zero => intro mo_function mo_atX mo_atM moR_r x9 H locs ls ho hP hD hS hl; exact ho.elim
    | succ n_122 ih_122 =>
      intro mo_function mo_atX mo_atM moR_r x9 H locs ls ho hP hD hS hl
      replace ho : wp_X8_fits_122_b post mo_f mo_most mo_minus mo_low p1 p2 p3 p5 p6 p7 p8 (wp_X8_fits_122 post mo_f mo_most mo_minus mo_low p1 p2 p3 p5 p6 p7 p8 n_122) mo_function mo_atX mo_atM moR_r x9 := ho
      unfold wp_X8_fits_122_b at ho
      refine lv_iload hx hb dX8_fits_122 (lv_at hl 8 rfl) ?_
      refine lv_iload hx hb dX8_fits_124 (lv_at hl 4 rfl) ?_
      refine lv_icmp_gt (tgt := 172) hx hb dX8_fits_126 (by decide) (fun c_126 => ?_) (fun c_126 => ?_)
      · replace ho := ho.1 c_126
        refine lv_bipush (v := (-9)) hx hb dX8_fits_172 (by decide) ?_
        subst hQ; exact W.iret (v := (-9 : Int32)) hx hb hr (fun t ht hW => ⟨⟨(-9 : Int32), (mo_function, mo_atX, mo_atM, moR_r), rfl, ho, by rw [ht]; exact hP, hD⟩, hS.F ht⟩) (fun q hq => hS.2.2 q hq) dX8_fits_174
      · replace ho := ho.2 c_126
        refine lv_iload hx hb dX8_fits_129 (lv_at hl 5 rfl) ?_
        refine lv_i2l hx hb dX8_fits_131 rfl ?_
        refine lv_iload hx hb dX8_fits_132 (lv_at hl 6 rfl) ?_
        refine lv_i2l hx hb dX8_fits_134 rfl ?_
        refine lv_iload hx hb dX8_fits_135 (lv_at hl 8 rfl) ?_
        refine lv_i2l hx hb dX8_fits_137 rfl ?_
        refine lv_lmul hx hb dX8_fits_138 ?_
        refine lv_ladd hx hb dX8_fits_139 ?_
        refine lv_iload hx hb dX8_fits_140 (lv_at hl 7 rfl) ?_
        refine lv_lshr hx hb dX8_fits_142 rfl ?_
        refine lv_aload_n hx hb dX8_fits_143 rfl (lv_at hl 0 rfl) ?_
        refine lv_iload_n hx hb dX8_fits_144 rfl (lv_at hl 1 rfl) ?_
        refine lv_iload_n hx hb dX8_fits_145 rfl (lv_at hl 3 rfl) ?_
        refine lv_aload_n hx hb dX8_fits_146 rfl (lv_at hl 0 rfl) ?_
        refine va_get (D := D) (ci := 7) (v := .int mo_f) (C := RX8) (T := TX8) (N := 25) hx hb hts inlX8 hown hK hP 0 rfl rfl 2 (by decide) (hts _ wl_117) (fun _ h9 => h9) rfl dX8_fits_147 ?_
        refine lv_ishl hx hb dX8_fits_150 ?_
        refine lv_iload hx hb dX8_fits_151 (lv_at hl 8 rfl) ?_
        refine lv_iadd hx hb dX8_fits_153 ?_
        refine lv_iload_n hx hb dX8_fits_154 rfl (lv_at hl 2 rfl) ?_
        refine ca_Wi (b := a_mo) (As := [.int p1, .int ((p3 <<< (mo_f &&& 31)) + x9), .int p2]) (rest := [.long ((p6.toInt64 + (p7.toInt64 * x9.toInt64)) >>> (p8.toInt64 &&& 63))]) (wr := [(a_moR, .inl (cI, 7, .inl moR_r))]) (wo := fun (u : (Int32) × (Int32) × (Int64)) => [(a_mo, oX8 a_moR mo_e mo_f mo_codes mo_most mo_minus mo_low u.1 u.2.1 u.2.2 a_moK a_moH a_moS mo_spanFunction mo_spanRounding mo_spanMany a_moF a_moT mo_parts mo_shift a_moP a_moQ a_moA a_moB a_moD)]) (wn := fun (u : (Int32) × (Int32) × (Int64)) => [(a_mo, oX8 a_moR mo_e mo_f mo_codes mo_most mo_minus mo_low u.1 u.2.1 u.2.2 a_moK a_moH a_moS mo_spanFunction mo_spanRounding mo_spanMany a_moF a_moT mo_parts mo_shift a_moP a_moQ a_moA a_moB a_moD), (a_moR, .inl (cI, 7, .inl moR_r))]) ⟨hx, hb, hml, hown, hts⟩ (c_X8_rightOf l D cI cJ cZ a_mo a_moR a_moK a_moH a_moS a_moF a_moT a_moP a_moQ a_moA a_moB a_moD H.size mo_e mo_f mo_codes mo_most mo_minus mo_low mo_function mo_atX mo_atM mo_spanFunction mo_spanRounding mo_spanMany mo_parts mo_shift p1 ((p3 <<< (mo_f &&& 31)) + x9) p2 _ _ rfl ho) (cwV 3 hts (gdV wl_472 wl_473 wl_474 wl_5 wl_475) rfl rfl rfl (by decide +kernel) ⟨hRf _ (Nat.le_of_ble_eq_true rfl), hRl _ (Nat.le_of_ble_eq_true rfl)⟩) hK hN hP hD hS hA [0] [1] [1, 0] rfl rfl (by decide) (by decide) (by decide) (by decide) (fun _ => rfl) 0 7 rfl rfl rfl rfl hl.1 rfl (Nat.le_of_ble_eq_true rfl) dX8_fits_155 ⟨Nat.zero_le _, Nat.zero_le _⟩ (fun r155 u155 H locs ho hP hD hS => ?_)
        obtain ⟨u155_1, u155_2, u155_3⟩ := u155
        try dsimp only at ho
        replace hP : va_P D vwCl [(a_mo, oX8 a_moR mo_e mo_f mo_codes mo_most mo_minus mo_low u155_1 u155_2 u155_3 a_moK a_moH a_moS mo_spanFunction mo_spanRounding mo_spanMany a_moF a_moT mo_parts mo_shift a_moP a_moQ a_moA a_moB a_moD), (a_moR, .inl (cI, 7, .inl moR_r))] H := hP
        replace hD : va_D A [(a_mo, oX8 a_moR mo_e mo_f mo_codes mo_most mo_minus mo_low u155_1 u155_2 u155_3 a_moK a_moH a_moS mo_spanFunction mo_spanRounding mo_spanMany a_moF a_moT mo_parts mo_shift a_moP a_moQ a_moA a_moB a_moD), (a_moR, .inl (cI, 7, .inl moR_r))] := hD
        refine lv_i2l hx hb dX8_fits_158 rfl ?_
        refine W.lcmp hx hb dX8_fits_159 ?_
        refine lv_if_eq (tgt := 166) hx hb dX8_fits_160 (by decide) (fun c_160 => ?_) (fun c_160 => ?_)
        · replace ho := ho.1 c_160
          refine lv_iinc (v := (x9 + (1 : Int32))) (lv' := [(9, .int (x9 + (1 : Int32))), (0, .ref a_mo), (1, .int p1), (2, .int p2), (3, .int p3), (5, .int p5), (6, .int p6), (7, .int p7), (8, .int p8)]) hx hb dX8_fits_166 hl (k := 8) rfl rfl (by decide) rfl (fun ls hl => ?_)
          refine lv_goto (tgt := 122) hx hb dX8_fits_169 (by decide) ?_
          exact ih_122 u155_1 u155_2 u155_3 moR_r (x9 + (1 : Int32)) H locs ls ho hP hD hS (lv_sub hl [1, 2, 3, 4, 5, 6, 7, 8, 0] rfl)
        · replace ho := ho.2 c_160
          refine lv_iload hx hb dX8_fits_163 (lv_at hl 8 rfl) ?_
          subst hQ; exact W.iret (v := x9) hx hb hr (fun t ht hW => ⟨⟨x9, (u155_1, u155_2, u155_3, moR_r), rfl, ho, by rw [ht]; exact hP, hD⟩, hS.F ht⟩) (fun q hq => hS.2.2 q hq) dX8_fits_165
  have C_111 : ∀ (mo_function : Int32) (mo_atX : Int32) (mo_atM : Int64) (moR_r : Nat → Int32) (H : Heap) (locs : List Loc) (ls : Array Slot), wp_X8_fits_111 post  mo_function mo_atX mo_atM moR_r → va_P D vwCl [(a_mo, oX8 a_moR mo_e mo_f mo_codes mo_most mo_minus mo_low mo_function mo_atX mo_atM a_moK a_moH a_moS mo_spanFunction mo_spanRounding mo_spanMany a_moF a_moT mo_parts mo_shift a_moP a_moQ a_moA a_moB a_moD), (a_moR, .inl (cI, 7, .inl moR_r))] H → va_D A [(a_mo, oX8 a_moR mo_e mo_f mo_codes mo_most mo_minus mo_low mo_function mo_atX mo_atM a_moK a_moH a_moS mo_spanFunction mo_spanRounding mo_spanMany a_moF a_moT mo_parts mo_shift a_moP a_moQ a_moA a_moB a_moD), (a_moR, .inl (cI, 7, .inl moR_r))] → va_S A s.heap H locs → lv_has ls 10 [(0, .ref a_mo)] → W p l e R s m args below meth c H locs 0 0 Q (F0 m 111 ls []) := by
    intro mo_function mo_atX mo_atM moR_r H locs ls ho hP hD hS hl
    unfold wp_X8_fits_111 at ho
    refine lv_aload_n hx hb dX8_fits_111 rfl (lv_at hl 0 rfl) ?_
    refine lv_bipush (v := (-6)) hx hb dX8_fits_112 (by decide) ?_
    refine ca_Wi (b := a_mo) (As := [.int (-6 : Int32)]) (rest := []) (wr := []) (wo := fun (u : (Nat → Int32)) => [(a_mo, oX8 a_moR mo_e mo_f mo_codes mo_most mo_minus mo_low mo_function mo_atX mo_atM a_moK a_moH a_moS mo_spanFunction mo_spanRounding mo_spanMany a_moF a_moT mo_parts mo_shift a_moP a_moQ a_moA a_moB a_moD), (a_moR, .inl (cI, 7, .inl u))]) (wn := fun (u : (Nat → Int32)) => [(a_mo, oX8 a_moR mo_e mo_f mo_codes mo_most mo_minus mo_low mo_function mo_atX mo_atM a_moK a_moH a_moS mo_spanFunction mo_spanRounding mo_spanMany a_moF a_moT mo_parts mo_shift a_moP a_moQ a_moA a_moB a_moD), (a_moR, .inl (cI, 7, .inl u))]) ⟨hx, hb, hml, hown, hts⟩ (c_X8_refuse l D cI cJ cZ a_mo a_moR a_moK a_moH a_moS a_moF a_moT a_moP a_moQ a_moA a_moB a_moD H.size mo_e mo_f mo_codes mo_most mo_minus mo_low mo_function mo_atX mo_atM mo_spanFunction mo_spanRounding mo_spanMany mo_parts mo_shift moR_r (-6 : Int32) _ _ rfl ho) (cwV 1 hts (gdV wl_165 wl_166 wl_167 wl_5 wl_168) rfl rfl rfl (by decide +kernel) ⟨hRf _ (Nat.le_of_ble_eq_true rfl), hRl _ (Nat.le_of_ble_eq_true rfl)⟩) hK hN hP hD hS hA [0, 1] [] [0, 1] rfl rfl (by decide) (by decide) (by decide) (by decide) (fun _ => rfl) 0 7 rfl rfl rfl rfl hl.1 rfl (Nat.le_of_ble_eq_true rfl) dX8_fits_114 ⟨Nat.zero_le _, Nat.zero_le _⟩ (fun r114 u114 H locs ho hP hD hS => ?_)
    try dsimp only at ho
    replace hP : va_P D vwCl [(a_mo, oX8 a_moR mo_e mo_f mo_codes mo_most mo_minus mo_low mo_function mo_atX mo_atM a_moK a_moH a_moS mo_spanFunction mo_spanRounding mo_spanMany a_moF a_moT mo_parts mo_shift a_moP a_moQ a_moA a_moB a_moD), (a_moR, .inl (cI, 7, .inl u114))] H := hP
    replace hD : va_D A [(a_mo, oX8 a_moR mo_e mo_f mo_codes mo_most mo_minus mo_low mo_function mo_atX mo_atM a_moK a_moH a_moS mo_spanFunction mo_spanRounding mo_spanMany a_moF a_moT mo_parts mo_shift a_moP a_moQ a_moA a_moB a_moD), (a_moR, .inl (cI, 7, .inl u114))] := hD
    subst hQ; exact W.iret (v := r114) hx hb hr (fun t ht hW => ⟨⟨r114, (mo_function, mo_atX, mo_atM, u114), rfl, ho, by rw [ht]; exact hP, hD⟩, hS.F ht⟩) (fun q hq => hS.2.2 q hq) dX8_fits_117
  have C_83 : ∀ (mo_function : Int32) (mo_atX : Int32) (mo_atM : Int64) (moR_r : Nat → Int32) (H : Heap) (locs : List Loc) (ls : Array Slot), wp_X8_fits_83 post  mo_function mo_atX mo_atM moR_r → va_P D vwCl [(a_mo, oX8 a_moR mo_e mo_f mo_codes mo_most mo_minus mo_low mo_function mo_atX mo_atM a_moK a_moH a_moS mo_spanFunction mo_spanRounding mo_spanMany a_moF a_moT mo_parts mo_shift a_moP a_moQ a_moA a_moB a_moD), (a_moR, .inl (cI, 7, .inl moR_r))] H → va_D A [(a_mo, oX8 a_moR mo_e mo_f mo_codes mo_most mo_minus mo_low mo_function mo_atX mo_atM a_moK a_moH a_moS mo_spanFunction mo_spanRounding mo_spanMany a_moF a_moT mo_parts mo_shift a_moP a_moQ a_moA a_moB a_moD), (a_moR, .inl (cI, 7, .inl moR_r))] → va_S A s.heap H locs → lv_has ls 10 [(0, .ref a_mo)] → W p l e R s m args below meth c H locs 0 0 Q (F0 m 83 ls []) := by
    intro mo_function mo_atX mo_atM moR_r H locs ls ho hP hD hS hl
    unfold wp_X8_fits_83 at ho
    refine lv_aload_n hx hb dX8_fits_83 rfl (lv_at hl 0 rfl) ?_
    refine lv_bipush (v := (-4)) hx hb dX8_fits_84 (by decide) ?_
    refine ca_Wi (b := a_mo) (As := [.int (-4 : Int32)]) (rest := []) (wr := []) (wo := fun (u : (Nat → Int32)) => [(a_mo, oX8 a_moR mo_e mo_f mo_codes mo_most mo_minus mo_low mo_function mo_atX mo_atM a_moK a_moH a_moS mo_spanFunction mo_spanRounding mo_spanMany a_moF a_moT mo_parts mo_shift a_moP a_moQ a_moA a_moB a_moD), (a_moR, .inl (cI, 7, .inl u))]) (wn := fun (u : (Nat → Int32)) => [(a_mo, oX8 a_moR mo_e mo_f mo_codes mo_most mo_minus mo_low mo_function mo_atX mo_atM a_moK a_moH a_moS mo_spanFunction mo_spanRounding mo_spanMany a_moF a_moT mo_parts mo_shift a_moP a_moQ a_moA a_moB a_moD), (a_moR, .inl (cI, 7, .inl u))]) ⟨hx, hb, hml, hown, hts⟩ (c_X8_refuse l D cI cJ cZ a_mo a_moR a_moK a_moH a_moS a_moF a_moT a_moP a_moQ a_moA a_moB a_moD H.size mo_e mo_f mo_codes mo_most mo_minus mo_low mo_function mo_atX mo_atM mo_spanFunction mo_spanRounding mo_spanMany mo_parts mo_shift moR_r (-4 : Int32) _ _ rfl ho) (cwV 1 hts (gdV wl_165 wl_166 wl_167 wl_5 wl_168) rfl rfl rfl (by decide +kernel) ⟨hRf _ (Nat.le_of_ble_eq_true rfl), hRl _ (Nat.le_of_ble_eq_true rfl)⟩) hK hN hP hD hS hA [0, 1] [] [0, 1] rfl rfl (by decide) (by decide) (by decide) (by decide) (fun _ => rfl) 0 7 rfl rfl rfl rfl hl.1 rfl (Nat.le_of_ble_eq_true rfl) dX8_fits_86 ⟨Nat.zero_le _, Nat.zero_le _⟩ (fun r86 u86 H locs ho hP hD hS => ?_)
    try dsimp only at ho
    replace hP : va_P D vwCl [(a_mo, oX8 a_moR mo_e mo_f mo_codes mo_most mo_minus mo_low mo_function mo_atX mo_atM a_moK a_moH a_moS mo_spanFunction mo_spanRounding mo_spanMany a_moF a_moT mo_parts mo_shift a_moP a_moQ a_moA a_moB a_moD), (a_moR, .inl (cI, 7, .inl u86))] H := hP
    replace hD : va_D A [(a_mo, oX8 a_moR mo_e mo_f mo_codes mo_most mo_minus mo_low mo_function mo_atX mo_atM a_moK a_moH a_moS mo_spanFunction mo_spanRounding mo_spanMany a_moF a_moT mo_parts mo_shift a_moP a_moQ a_moA a_moB a_moD), (a_moR, .inl (cI, 7, .inl u86))] := hD
    subst hQ; exact W.iret (v := r86) hx hb hr (fun t ht hW => ⟨⟨r86, (mo_function, mo_atX, mo_atM, u86), rfl, ho, by rw [ht]; exact hP, hD⟩, hS.F ht⟩) (fun q hq => hS.2.2 q hq) dX8_fits_89
  have C_58 : ∀ (mo_function : Int32) (mo_atX : Int32) (mo_atM : Int64) (moR_r : Nat → Int32) (H : Heap) (locs : List Loc) (ls : Array Slot), wp_X8_fits_58 post  mo_function mo_atX mo_atM moR_r → va_P D vwCl [(a_mo, oX8 a_moR mo_e mo_f mo_codes mo_most mo_minus mo_low mo_function mo_atX mo_atM a_moK a_moH a_moS mo_spanFunction mo_spanRounding mo_spanMany a_moF a_moT mo_parts mo_shift a_moP a_moQ a_moA a_moB a_moD), (a_moR, .inl (cI, 7, .inl moR_r))] H → va_D A [(a_mo, oX8 a_moR mo_e mo_f mo_codes mo_most mo_minus mo_low mo_function mo_atX mo_atM a_moK a_moH a_moS mo_spanFunction mo_spanRounding mo_spanMany a_moF a_moT mo_parts mo_shift a_moP a_moQ a_moA a_moB a_moD), (a_moR, .inl (cI, 7, .inl moR_r))] → va_S A s.heap H locs → lv_has ls 10 [(0, .ref a_mo)] → W p l e R s m args below meth c H locs 0 0 Q (F0 m 58 ls []) := by
    intro mo_function mo_atX mo_atM moR_r H locs ls ho hP hD hS hl
    unfold wp_X8_fits_58 at ho
    refine lv_aload_n hx hb dX8_fits_58 rfl (lv_at hl 0 rfl) ?_
    refine lv_iconst (v := (-1)) hx hb dX8_fits_59 (by decide) ?_
    refine ca_Wi (b := a_mo) (As := [.int (-1 : Int32)]) (rest := []) (wr := []) (wo := fun (u : (Nat → Int32)) => [(a_mo, oX8 a_moR mo_e mo_f mo_codes mo_most mo_minus mo_low mo_function mo_atX mo_atM a_moK a_moH a_moS mo_spanFunction mo_spanRounding mo_spanMany a_moF a_moT mo_parts mo_shift a_moP a_moQ a_moA a_moB a_moD), (a_moR, .inl (cI, 7, .inl u))]) (wn := fun (u : (Nat → Int32)) => [(a_mo, oX8 a_moR mo_e mo_f mo_codes mo_most mo_minus mo_low mo_function mo_atX mo_atM a_moK a_moH a_moS mo_spanFunction mo_spanRounding mo_spanMany a_moF a_moT mo_parts mo_shift a_moP a_moQ a_moA a_moB a_moD), (a_moR, .inl (cI, 7, .inl u))]) ⟨hx, hb, hml, hown, hts⟩ (c_X8_refuse l D cI cJ cZ a_mo a_moR a_moK a_moH a_moS a_moF a_moT a_moP a_moQ a_moA a_moB a_moD H.size mo_e mo_f mo_codes mo_most mo_minus mo_low mo_function mo_atX mo_atM mo_spanFunction mo_spanRounding mo_spanMany mo_parts mo_shift moR_r (-1 : Int32) _ _ rfl ho) (cwV 1 hts (gdV wl_165 wl_166 wl_167 wl_5 wl_168) rfl rfl rfl (by decide +kernel) ⟨hRf _ (Nat.le_of_ble_eq_true rfl), hRl _ (Nat.le_of_ble_eq_true rfl)⟩) hK hN hP hD hS hA [0, 1] [] [0, 1] rfl rfl (by decide) (by decide) (by decide) (by decide) (fun _ => rfl) 0 7 rfl rfl rfl rfl hl.1 rfl (Nat.le_of_ble_eq_true rfl) dX8_fits_60 ⟨Nat.zero_le _, Nat.zero_le _⟩ (fun r60 u60 H locs ho hP hD hS => ?_)
    try dsimp only at ho
    replace hP : va_P D vwCl [(a_mo, oX8 a_moR mo_e mo_f mo_codes mo_most mo_minus mo_low mo_function mo_atX mo_atM a_moK a_moH a_moS mo_spanFunction mo_spanRounding mo_spanMany a_moF a_moT mo_parts mo_shift a_moP a_moQ a_moA a_moB a_moD), (a_moR, .inl (cI, 7, .inl u60))] H := hP
    replace hD : va_D A [(a_mo, oX8 a_moR mo_e mo_f mo_codes mo_most mo_minus mo_low mo_function mo_atX mo_atM a_moK a_moH a_moS mo_spanFunction mo_spanRounding mo_spanMany a_moF a_moT mo_parts mo_shift a_moP a_moQ a_moA a_moB a_moD), (a_moR, .inl (cI, 7, .inl u60))] := hD
    subst hQ; exact W.iret (v := r60) hx hb hr (fun t ht hW => ⟨⟨r60, (mo_function, mo_atX, mo_atM, u60), rfl, ho, by rw [ht]; exact hP, hD⟩, hS.F ht⟩) (fun q hq => hS.2.2 q hq) dX8_fits_63
  suffices main : ∀ (H : Heap) (locs : List Loc), va_P D vwCl [(a_mo, oX8 a_moR mo_e mo_f mo_codes mo_most mo_minus mo_low mo_function mo_atX mo_atM a_moK a_moH a_moS mo_spanFunction mo_spanRounding mo_spanMany a_moF a_moT mo_parts mo_shift a_moP a_moQ a_moA a_moB a_moD), (a_moR, .inl (cI, 7, .inl moR_r))] H → va_S A s.heap H locs → W p l e R s m args below meth c H locs 0 0 Q (F0 m 0 ls []) from main _ _ hP hS
  intro H locs hP hS
  unfold wp_X8_fits at ho
  refine lv_iload_n hx hb dX8_fits_0 rfl (lv_at hl 1 rfl) ?_
  refine ca_Si (As := [.int p1]) (rest := []) ⟨hx, hb, hml, hown, hts⟩ (c_X8_isFunction l D cI cJ cZ   p1 _ ho) (va_cwS 1 hts (gdS wl_469 wl_470 wl_5 wl_471) rfl rfl rfl (by decide +kernel) ⟨hRf _ (Nat.le_of_ble_eq_true rfl), hRl _ (Nat.le_of_ble_eq_true rfl)⟩) hK hN hP [] rfl rfl hl.1 rfl (Nat.le_of_ble_eq_true rfl) dX8_fits_1 ⟨Nat.zero_le _, Nat.zero_le _⟩ (fun r1 ho => ?_)
  refine lv_if_eq (tgt := 58) hx hb dX8_fits_4 (by decide) (fun c_4 => ?_) (fun c_4 => ?_)
  · replace ho := ho.1 c_4
    exact C_58 mo_function mo_atX mo_atM moR_r H locs ls ho hP hD hS (lv_sub hl [0] rfl)
  · replace ho := ho.2 c_4
    refine lv_iload_n hx hb dX8_fits_7 rfl (lv_at hl 2 rfl) ?_
    refine lv_iconst (v := 5) hx hb dX8_fits_8 (by decide) ?_
    refine ca_Si (As := [.int p2, .int (5 : Int32)]) (rest := []) ⟨hx, hb, hml, hown, hts⟩ (c_X8_isIn l D cI cJ cZ   p2 (5 : Int32) _ ho) (va_cwS 2 hts (gdS wl_254 wl_255 wl_5 wl_256) rfl rfl rfl (by decide +kernel) ⟨hRf _ (Nat.le_of_ble_eq_true rfl), hRl _ (Nat.le_of_ble_eq_true rfl)⟩) hK hN hP [] rfl rfl hl.1 rfl (Nat.le_of_ble_eq_true rfl) dX8_fits_9 ⟨Nat.zero_le _, Nat.zero_le _⟩ (fun r9 ho => ?_)
    refine lv_if_eq (tgt := 58) hx hb dX8_fits_12 (by decide) (fun c_12 => ?_) (fun c_12 => ?_)
    · replace ho := ho.1 c_12
      exact C_58 mo_function mo_atX mo_atM moR_r H locs ls ho hP hD hS (lv_sub hl [0] rfl)
    · replace ho := ho.2 c_12
      refine lv_aload_n hx hb dX8_fits_15 rfl (lv_at hl 0 rfl) ?_
      refine lv_iload_n hx hb dX8_fits_16 rfl (lv_at hl 3 rfl) ?_
      refine ca_Vi (b := a_mo) (As := [.int p3]) (rest := []) ⟨hx, hb, hml, hown, hts⟩ (c_X8_isPower l D cI cJ cZ a_mo a_moR a_moK a_moH a_moS a_moF a_moT a_moP a_moQ a_moA a_moB a_moD mo_e mo_f mo_codes mo_most mo_minus mo_low mo_function mo_atX mo_atM mo_spanFunction mo_spanRounding mo_spanMany mo_parts mo_shift p3 _ ho) (cwV 1 hts (gdV wl_708 wl_709 wl_710 wl_5 wl_711) rfl rfl rfl (by decide +kernel) ⟨hRf _ (Nat.le_of_ble_eq_true rfl), hRl _ (Nat.le_of_ble_eq_true rfl)⟩) hK hN hP [0] rfl 0 7 rfl rfl rfl rfl hl.1 rfl (Nat.le_of_ble_eq_true rfl) dX8_fits_17 ⟨Nat.zero_le _, Nat.zero_le _⟩ (fun r17 ho => ?_)
      refine lv_if_eq (tgt := 58) hx hb dX8_fits_20 (by decide) (fun c_20 => ?_) (fun c_20 => ?_)
      · replace ho := ho.1 c_20
        exact C_58 mo_function mo_atX mo_atM moR_r H locs ls ho hP hD hS (lv_sub hl [0] rfl)
      · replace ho := ho.2 c_20
        refine lv_iload hx hb dX8_fits_23 (lv_at hl 4 rfl) ?_
        refine lv_iconst (v := 1) hx hb dX8_fits_25 (by decide) ?_
        refine lv_aload_n hx hb dX8_fits_26 rfl (lv_at hl 0 rfl) ?_
        refine va_get (D := D) (ci := 7) (v := .int mo_f) (C := RX8) (T := TX8) (N := 25) hx hb hts inlX8 hown hK hP 0 rfl rfl 2 (by decide) (hts _ wl_117) (fun _ h9 => h9) rfl dX8_fits_27 ?_
        refine lv_ishl hx hb dX8_fits_30 ?_
        refine ca_Si (As := [.int p4, .int ((1 : Int32) <<< (mo_f &&& 31))]) (rest := []) ⟨hx, hb, hml, hown, hts⟩ (c_X8_isIn l D cI cJ cZ   p4 ((1 : Int32) <<< (mo_f &&& 31)) _ ho) (va_cwS 2 hts (gdS wl_254 wl_255 wl_5 wl_256) rfl rfl rfl (by decide +kernel) ⟨hRf _ (Nat.le_of_ble_eq_true rfl), hRl _ (Nat.le_of_ble_eq_true rfl)⟩) hK hN hP [] rfl rfl hl.1 rfl (Nat.le_of_ble_eq_true rfl) dX8_fits_31 ⟨Nat.zero_le _, Nat.zero_le _⟩ (fun r31 ho => ?_)
        refine lv_if_eq (tgt := 58) hx hb dX8_fits_34 (by decide) (fun c_34 => ?_) (fun c_34 => ?_)
        · replace ho := ho.1 c_34
          exact C_58 mo_function mo_atX mo_atM moR_r H locs ls ho hP hD hS (lv_sub hl [0] rfl)
        · replace ho := ho.2 c_34
          refine lv_iload hx hb dX8_fits_37 (lv_at hl 5 rfl) ?_
          refine lv_iconst (v := 1) hx hb dX8_fits_39 (by decide) ?_
          refine lv_aload_n hx hb dX8_fits_40 rfl (lv_at hl 0 rfl) ?_
          refine va_get (D := D) (ci := 7) (v := .int mo_f) (C := RX8) (T := TX8) (N := 25) hx hb hts inlX8 hown hK hP 0 rfl rfl 2 (by decide) (hts _ wl_117) (fun _ h9 => h9) rfl dX8_fits_41 ?_
          refine lv_ishl hx hb dX8_fits_44 ?_
          refine ca_Si (As := [.int p5, .int ((1 : Int32) <<< (mo_f &&& 31))]) (rest := []) ⟨hx, hb, hml, hown, hts⟩ (c_X8_isIn l D cI cJ cZ   p5 ((1 : Int32) <<< (mo_f &&& 31)) _ ho) (va_cwS 2 hts (gdS wl_254 wl_255 wl_5 wl_256) rfl rfl rfl (by decide +kernel) ⟨hRf _ (Nat.le_of_ble_eq_true rfl), hRl _ (Nat.le_of_ble_eq_true rfl)⟩) hK hN hP [] rfl rfl hl.1 rfl (Nat.le_of_ble_eq_true rfl) dX8_fits_45 ⟨Nat.zero_le _, Nat.zero_le _⟩ (fun r45 ho => ?_)
          refine lv_if_eq (tgt := 58) hx hb dX8_fits_48 (by decide) (fun c_48 => ?_) (fun c_48 => ?_)
          · replace ho := ho.1 c_48
            exact C_58 mo_function mo_atX mo_atM moR_r H locs ls ho hP hD hS (lv_sub hl [0] rfl)
          · replace ho := ho.2 c_48
            refine lv_iload hx hb dX8_fits_51 (lv_at hl 4 rfl) ?_
            refine lv_iload hx hb dX8_fits_53 (lv_at hl 5 rfl) ?_
            refine lv_icmp_le (tgt := 64) hx hb dX8_fits_55 (by decide) (fun c_55 => ?_) (fun c_55 => ?_)
            · replace ho := ho.1 c_55
              refine lv_iload hx hb dX8_fits_64 (lv_at hl 6 rfl) ?_
              refine lv_ldc hx hb hown (hts _ wl_787) dX8_fits_66 ?_
              refine lv_icmp_lt (tgt := 83) hx hb dX8_fits_68 (by decide) (fun c_68 => ?_) (fun c_68 => ?_)
              · replace ho := ho.1 c_68
                exact C_83 mo_function mo_atX mo_atM moR_r H locs ls ho hP hD hS (lv_sub hl [0] rfl)
              · replace ho := ho.2 c_68
                refine lv_iload hx hb dX8_fits_71 (lv_at hl 7 rfl) ?_
                refine lv_ldc hx hb hown (hts _ wl_787) dX8_fits_73 ?_
                refine lv_icmp_lt (tgt := 83) hx hb dX8_fits_75 (by decide) (fun c_75 => ?_) (fun c_75 => ?_)
                · replace ho := ho.1 c_75
                  exact C_83 mo_function mo_atX mo_atM moR_r H locs ls ho hP hD hS (lv_sub hl [0] rfl)
                · replace ho := ho.2 c_75
                  refine lv_iload hx hb dX8_fits_78 (lv_at hl 8 rfl) ?_
                  refine lv_if_ge (tgt := 90) hx hb dX8_fits_80 (by decide) (fun c_80 => ?_) (fun c_80 => ?_)
                  · replace ho := ho.1 c_80
                    refine lv_iload hx hb dX8_fits_90 (lv_at hl 6 rfl) ?_
                    refine lv_ldc hx hb hown (hts _ wl_261) dX8_fits_92 ?_
                    refine lv_icmp_gt (tgt := 111) hx hb dX8_fits_94 (by decide) (fun c_94 => ?_) (fun c_94 => ?_)
                    · replace ho := ho.1 c_94
                      exact C_111 mo_function mo_atX mo_atM moR_r H locs ls ho hP hD hS (lv_sub hl [0] rfl)
                    · replace ho := ho.2 c_94
                      refine lv_iload hx hb dX8_fits_97 (lv_at hl 7 rfl) ?_
                      refine lv_ldc hx hb hown (hts _ wl_261) dX8_fits_99 ?_
                      refine lv_icmp_gt (tgt := 111) hx hb dX8_fits_101 (by decide) (fun c_101 => ?_) (fun c_101 => ?_)
                      · replace ho := ho.1 c_101
                        exact C_111 mo_function mo_atX mo_atM moR_r H locs ls ho hP hD hS (lv_sub hl [0] rfl)
                      · replace ho := ho.2 c_101
                        refine lv_iload hx hb dX8_fits_104 (lv_at hl 8 rfl) ?_
                        refine lv_bipush (v := 10) hx hb dX8_fits_106 (by decide) ?_
                        refine lv_icmp_le (tgt := 118) hx hb dX8_fits_108 (by decide) (fun c_108 => ?_) (fun c_108 => ?_)
                        · replace ho := ho.1 c_108
                          refine lv_iload hx hb dX8_fits_118 (lv_at hl 4 rfl) ?_
                          refine lv_istore (lv' := [(9, .int p4), (0, .ref a_mo), (1, .int p1), (2, .int p2), (3, .int p3), (4, .int p4), (5, .int p5), (6, .int p6), (7, .int p7), (8, .int p8)]) hx hb dX8_fits_120 hl (by decide) rfl (fun ls hl => ?_)
                          obtain ⟨n_122, ho⟩ := ho
                          exact C_122 n_122 mo_function mo_atX mo_atM moR_r p4 H locs ls ho hP hD hS (lv_sub hl [1, 2, 3, 4, 6, 7, 8, 9, 0] rfl)
                        · replace ho := ho.2 c_108
                          exact C_111 mo_function mo_atX mo_atM moR_r H locs ls ho hP hD hS (lv_sub hl [0] rfl)
                  · replace ho := ho.2 c_80
                    exact C_83 mo_function mo_atX mo_atM moR_r H locs ls ho hP hD hS (lv_sub hl [0] rfl)
            · replace ho := ho.2 c_55
              exact C_58 mo_function mo_atX mo_atM moR_r H locs ls ho hP hD hS (lv_sub hl [0] rfl)

def w_X8_status : List Cond := .code yX8_status cX8_status 2 (some .int) :: wsL_law
set_option maxHeartbeats 4000000 in
set_option maxRecDepth 100000 in
theorem c_X8_status (l : Launch) (D : va_G) (cI cJ cZ : ClassId) (a_mo : Nat) (a_moR : Nat) (a_moK : Nat) (a_moH : Nat) (a_moS : Nat) (a_moF : Nat) (a_moT : Nat) (a_moP : Nat) (a_moQ : Nat) (a_moA : Nat) (a_moB : Nat) (a_moD : Nat) (mo_e : Int32) (mo_f : Int32) (mo_codes : Int32) (mo_most : Int32) (mo_minus : Int32) (mo_low : Int32) (mo_function : Int32) (mo_atX : Int32) (mo_atM : Int64) (mo_spanFunction : Int32) (mo_spanRounding : Int32) (mo_spanMany : Int32) (mo_parts : Int32) (mo_shift : Int32) (moR_r : Nat → Int32) (p1 : Int32) (post : Int32 → Prop) (ho : wp_X8_status post mo_e mo_f mo_codes mo_parts moR_r p1) : Met l yX8_status w_X8_status ({ frames := 1, cells := 0, slots := 0, locals := 21 } : Room) (ro_P D [(cI, .int), (cJ, .long), (cZ, .boolean)] [.ref a_mo, .int p1] [(a_mo, oX8 a_moR mo_e mo_f mo_codes mo_most mo_minus mo_low mo_function mo_atX mo_atM a_moK a_moH a_moS mo_spanFunction mo_spanRounding mo_spanMany a_moF a_moT mo_parts mo_shift a_moP a_moQ a_moA a_moB a_moD), (a_moR, .inl (cI, 7, .inl moR_r))]) (vp_Si post) 0 0 (fun _ => False) := by
  refine Met.ofW (cc := cX8_status) (maxL := 2) (ret := (some .int)) (by decide) rfl ?_
  intro p e s m args below meth c s₁ B hml hv
  obtain ⟨hargs, hP, hK, hN⟩ := hv
  have hx := B.exec
  have hb := B.bytes
  have hr := B.returns
  have hts : ∀ w ∈ wsL_law, w.before args s = true := fun w h => atoms_spec (ws := w_X8_status) B.pre w (List.mem_cons_of_mem _ h)
  have hown : s.vm.findClass RX8 = some m.cls := findClass_of_methodNamed B.named
  have hlocks := B.notSynchronized
  have hl := lv_entry ([.ref a_mo, .int p1]) (n := 2) (Nat.le_of_ble_eq_true rfl)
  rw [hargs, lg_entry_eq, ← hargs]
  generalize (lg_sl ([.ref a_mo, .int p1]) ++ List.replicate (2 - (lg_sl ([.ref a_mo, .int p1])).length) Slot.unset).toArray = ls at hl ⊢
  replace hl : lv_has ls 2 [(0, .ref a_mo), (1, .int p1)] := hl
  have hRf : ∀ n, n ≤ 1 → n ≤ (headSpec w_X8_status ({ frames := 1, cells := 0, slots := 0, locals := 21 } : Room)).room.frames := fun n h => h
  have hRl : ∀ n, n ≤ 21 → n ≤ (headSpec w_X8_status ({ frames := 1, cells := 0, slots := 0, locals := 21 } : Room)).room.locals := fun n h => h
  generalize (headSpec w_X8_status ({ frames := 1, cells := 0, slots := 0, locals := 21 } : Room)).room = R at hRf hRl ⊢
  generalize hQ : MQ below _ args s 0 0 _ = Q
  have C_22 : ∀  (ls : Array Slot), wp_X8_status_22 post  mo_e mo_f mo_codes mo_parts p1 → lv_has ls 2 [(0, .ref a_mo), (1, .int p1)] → W p l e R s m args below meth c s.heap [] 0 0 Q (F0 m 22 ls []) := by
    intro  ls ho hl
    unfold wp_X8_status_22 at ho
    refine lv_iload_n hx hb dX8_status_22 rfl (lv_at hl 1 rfl) ?_
    refine lv_topi (fun z_23 ez_23 => ?_)
    by_cases n_23_0 : z_23 = 0
    · replace ho := ho.1 (ez_23.symm.trans n_23_0)
      subst n_23_0
      refine lv_tableIn (tgt := 56) hx hb dX8_status_23 (by decide) (by decide) rfl (by decide) ?_
      refine lv_aload_n hx hb dX8_status_56 rfl (lv_at hl 0 rfl) ?_
      refine va_get (D := D) (ci := 7) (v := .int mo_e) (C := RX8) (T := TX8) (N := 25) hx hb hts inlX8 hown hK hP 0 rfl rfl 1 (by decide) (hts _ wl_116) (fun _ h9 => h9) rfl dX8_status_57 ?_
      subst hQ; exact W.iret (v := mo_e) hx hb hr (fun t ht _ => ⟨mo_e, rfl, ho, ht⟩) (fun _ h => by cases h) dX8_status_60
    replace ho := ho.2 (fun h => n_23_0 (ez_23.trans h))
    by_cases n_23_1 : z_23 = 1
    · replace ho := ho.1 (ez_23.symm.trans n_23_1)
      subst n_23_1
      refine lv_tableIn (tgt := 61) hx hb dX8_status_23 (by decide) (by decide) rfl (by decide) ?_
      refine lv_aload_n hx hb dX8_status_61 rfl (lv_at hl 0 rfl) ?_
      refine va_get (D := D) (ci := 7) (v := .int mo_f) (C := RX8) (T := TX8) (N := 25) hx hb hts inlX8 hown hK hP 0 rfl rfl 2 (by decide) (hts _ wl_117) (fun _ h9 => h9) rfl dX8_status_62 ?_
      subst hQ; exact W.iret (v := mo_f) hx hb hr (fun t ht _ => ⟨mo_f, rfl, ho, ht⟩) (fun _ h => by cases h) dX8_status_65
    replace ho := ho.2 (fun h => n_23_1 (ez_23.trans h))
    by_cases n_23_2 : z_23 = 2
    · replace ho := ho.1 (ez_23.symm.trans n_23_2)
      subst n_23_2
      refine lv_tableIn (tgt := 66) hx hb dX8_status_23 (by decide) (by decide) rfl (by decide) ?_
      refine lv_aload_n hx hb dX8_status_66 rfl (lv_at hl 0 rfl) ?_
      refine va_get (D := D) (ci := 7) (v := .int mo_codes) (C := RX8) (T := TX8) (N := 25) hx hb hts inlX8 hown hK hP 0 rfl rfl 3 (by decide) (hts _ wl_118) (fun _ h9 => h9) rfl dX8_status_67 ?_
      subst hQ; exact W.iret (v := mo_codes) hx hb hr (fun t ht _ => ⟨mo_codes, rfl, ho, ht⟩) (fun _ h => by cases h) dX8_status_70
    replace ho := ho.2 (fun h => n_23_2 (ez_23.trans h))
    by_cases n_23_3 : z_23 = 3
    · replace ho := ho.1 (ez_23.symm.trans n_23_3)
      subst n_23_3
      refine lv_tableIn (tgt := 71) hx hb dX8_status_23 (by decide) (by decide) rfl (by decide) ?_
      refine lv_aload_n hx hb dX8_status_71 rfl (lv_at hl 0 rfl) ?_
      refine va_get (D := D) (ci := 7) (v := .int mo_parts) (C := RX8) (T := TX8) (N := 25) hx hb hts inlX8 hown hK hP 0 rfl rfl 18 (by decide) (hts _ wl_122) (fun _ h9 => h9) rfl dX8_status_72 ?_
      refine lv_if_ge (tgt := 82) hx hb dX8_status_75 (by decide) (fun c_75 => ?_) (fun c_75 => ?_)
      · replace ho := ho.1 c_75
        refine lv_iconst (v := 1) hx hb dX8_status_82 (by decide) ?_
        subst hQ; exact W.iret (v := (1 : Int32)) hx hb hr (fun t ht _ => ⟨(1 : Int32), rfl, ho, ht⟩) (fun _ h => by cases h) dX8_status_83
      · replace ho := ho.2 c_75
        refine lv_iconst (v := 0) hx hb dX8_status_78 (by decide) ?_
        refine lv_goto (tgt := 83) hx hb dX8_status_79 (by decide) ?_
        subst hQ; exact W.iret (v := (0 : Int32)) hx hb hr (fun t ht _ => ⟨(0 : Int32), rfl, ho, ht⟩) (fun _ h => by cases h) dX8_status_83
    replace ho := ho.2 (fun h => n_23_3 (ez_23.trans h))
    by_cases n_23_4 : z_23 = 4
    · replace ho := ho.1 (ez_23.symm.trans n_23_4)
      subst n_23_4
      refine lv_tableIn (tgt := 84) hx hb dX8_status_23 (by decide) (by decide) rfl (by decide) ?_
      refine lv_iconst (v := 0) hx hb dX8_status_84 (by decide) ?_
      refine lv_aload_n hx hb dX8_status_85 rfl (lv_at hl 0 rfl) ?_
      refine va_get (D := D) (ci := 7) (v := .int mo_parts) (C := RX8) (T := TX8) (N := 25) hx hb hts inlX8 hown hK hP 0 rfl rfl 18 (by decide) (hts _ wl_122) (fun _ h9 => h9) rfl dX8_status_86 ?_
      refine va_mmax hx hb (hml.trans hl.1.symm) hown (hts _ wl_576) (hts _ wl_243) (hts _ wl_244) (hts _ wl_245) (hRf 1 (Nat.le_of_ble_eq_true rfl)) (hRl _ (Nat.le_of_ble_eq_true rfl)) (Nat.zero_le _) (Nat.zero_le _) dX8_status_89 ?_
      subst hQ; exact W.iret (v := (if (0 : Int32) < mo_parts then mo_parts else (0 : Int32))) hx hb hr (fun t ht _ => ⟨(if (0 : Int32) < mo_parts then mo_parts else (0 : Int32)), rfl, ho, ht⟩) (fun _ h => by cases h) dX8_status_92
    replace ho := ho.2 (fun h => n_23_4 (ez_23.trans h))
    refine lv_tableOut (tgt := 93) hx hb dX8_status_23 (by have q_23_0 := lv_neT (a := 0) n_23_0 rfl; have q_23_1 := lv_neT (a := 1) n_23_1 rfl; have q_23_2 := lv_neT (a := 2) n_23_2 rfl; have q_23_3 := lv_neT (a := 3) n_23_3 rfl; have q_23_4 := lv_neT (a := 4) n_23_4 rfl; omega) (by decide) ?_
    refine lv_bipush (v := (-9)) hx hb dX8_status_93 (by decide) ?_
    subst hQ; exact W.iret (v := (-9 : Int32)) hx hb hr (fun t ht _ => ⟨(-9 : Int32), rfl, ho, ht⟩) (fun _ h => by cases h) dX8_status_95
  unfold wp_X8_status at ho
  refine lv_iload_n hx hb dX8_status_0 rfl (lv_at hl 1 rfl) ?_
  refine lv_bipush (v := 10) hx hb dX8_status_1 (by decide) ?_
  refine lv_icmp_le (tgt := 22) hx hb dX8_status_3 (by decide) (fun c_3 => ?_) (fun c_3 => ?_)
  · replace ho := ho.1 c_3
    exact C_22  ls ho (lv_sub hl [0, 1] rfl)
  · replace ho := ho.2 c_3
    refine lv_iload_n hx hb dX8_status_6 rfl (lv_at hl 1 rfl) ?_
    refine lv_bipush (v := 17) hx hb dX8_status_7 (by decide) ?_
    refine lv_icmp_ge (tgt := 22) hx hb dX8_status_9 (by decide) (fun c_9 => ?_) (fun c_9 => ?_)
    · replace ho := ho.1 c_9
      exact C_22  ls ho (lv_sub hl [0, 1] rfl)
    · replace ho := ho.2 c_9
      refine lv_aload_n hx hb dX8_status_12 rfl (lv_at hl 0 rfl) ?_
      refine va_get (D := D) (ci := 7) (v := .ref a_moR) (C := RX8) (T := TX8) (N := 25) hx hb hts inlX8 hown hK hP 0 rfl rfl 0 (by decide) (hts _ wl_98) (fun _ h9 => h9) rfl dX8_status_13 ?_
      refine lv_iload_n hx hb dX8_status_16 rfl (lv_at hl 1 rfl) ?_
      refine lv_bipush (v := 10) hx hb dX8_status_17 (by decide) ?_
      refine lv_isub hx hb dX8_status_19 ?_
      have o_20 := ho.1
      replace ho := ho.2
      refine va_iald hx hb hK hP 1 0 rfl rfl o_20 dX8_status_20 ?_
      subst hQ; exact W.iret (v := (moR_r (p1 - (10 : Int32)).toNatClampNeg)) hx hb hr (fun t ht _ => ⟨(moR_r (p1 - (10 : Int32)).toNatClampNeg), rfl, ho, ht⟩) (fun _ h => by cases h) dX8_status_21
