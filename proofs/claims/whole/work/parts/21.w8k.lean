def w_X8_line : List Cond := .code yX8_line cX8_line 18 (some .int) :: wsL_law
set_option maxHeartbeats 4000000 in
set_option maxRecDepth 100000 in
theorem c_X8_line (l : Launch) (D : va_G) (cI cJ cZ : ClassId) (a_mo : Nat) (a_moR : Nat) (a_moK : Nat) (a_moH : Nat) (a_moS : Nat) (a_moF : Nat) (a_moT : Nat) (a_moP : Nat) (a_moQ : Nat) (a_moA : Nat) (a_moB : Nat) (a_moD : Nat) (sz : Nat) (mo_e : Int32) (mo_f : Int32) (mo_codes : Int32) (mo_most : Int32) (mo_minus : Int32) (mo_low : Int32) (mo_function : Int32) (mo_atX : Int32) (mo_atM : Int64) (mo_spanFunction : Int32) (mo_spanRounding : Int32) (mo_spanMany : Int32) (mo_parts : Int32) (mo_shift : Int32) (moP_r : Nat → Int32) (moQ_r : Nat → Int32) (moA_r : Nat → Int64) (moB_r : Nat → Int64) (moD_r : Nat → Int64) (p1 : Int32) (p2 : Int32) (post : Int32 → (Nat → Int32) → (Nat → Int32) → (Nat → Int64) → (Nat → Int64) → Prop) (A : Nat → Prop) (hAe : A = va_A [(a_mo, oX8 a_moR mo_e mo_f mo_codes mo_most mo_minus mo_low mo_function mo_atX mo_atM a_moK a_moH a_moS mo_spanFunction mo_spanRounding mo_spanMany a_moF a_moT mo_parts mo_shift a_moP a_moQ a_moA a_moB a_moD), (a_moP, .inl (cI, 256, .inl moP_r)), (a_moQ, .inl (cI, 256, .inl moQ_r)), (a_moA, .inl (cJ, 256, .inr (.inl moA_r))), (a_moB, .inl (cJ, 256, .inr (.inl moB_r))), (a_moD, .inl (cJ, 256, .inr (.inl moD_r)))] sz) (ho : wp_X8_line post mo_parts mo_shift moP_r moQ_r moA_r moB_r moD_r p1 p2) : Met l yX8_line w_X8_line ({ frames := 1, cells := 0, slots := 0, locals := 26 } : Room) (rw_P D [(cI, .int), (cJ, .long), (cZ, .boolean)] [.ref a_mo, .int p1, .int p2] sz [(a_mo, oX8 a_moR mo_e mo_f mo_codes mo_most mo_minus mo_low mo_function mo_atX mo_atM a_moK a_moH a_moS mo_spanFunction mo_spanRounding mo_spanMany a_moF a_moT mo_parts mo_shift a_moP a_moQ a_moA a_moB a_moD), (a_moP, .inl (cI, 256, .inl moP_r)), (a_moQ, .inl (cI, 256, .inl moQ_r)), (a_moA, .inl (cJ, 256, .inr (.inl moA_r))), (a_moB, .inl (cJ, 256, .inr (.inl moB_r))), (a_moD, .inl (cJ, 256, .inr (.inl moD_r)))]) (va_Qi (fun (r : Int32) (u : (Nat → Int32) × (Nat → Int32) × (Nat → Int64) × (Nat → Int64)) => post r u.1 u.2.1 u.2.2.1 u.2.2.2) (rw_B D A (fun (u : (Nat → Int32) × (Nat → Int32) × (Nat → Int64) × (Nat → Int64)) => [(a_mo, oX8 a_moR mo_e mo_f mo_codes mo_most mo_minus mo_low mo_function mo_atX mo_atM a_moK a_moH a_moS mo_spanFunction mo_spanRounding mo_spanMany a_moF a_moT mo_parts mo_shift a_moP a_moQ a_moA a_moB a_moD), (a_moP, .inl (cI, 256, .inl u.1)), (a_moQ, .inl (cI, 256, .inl u.2.1)), (a_moA, .inl (cJ, 256, .inr (.inl u.2.2.1))), (a_moB, .inl (cJ, 256, .inr (.inl u.2.2.2))), (a_moD, .inl (cJ, 256, .inr (.inl moD_r)))])) A) 0 0 A := by
  refine Met.ofW (cc := cX8_line) (maxL := 18) (ret := (some .int)) (by decide) rfl ?_
  intro p e s m args below meth c s₁ B hml hv
  obtain ⟨hargs, hsz, hP, hK, hN, hD0⟩ := hv
  have hx := B.exec
  have hb := B.bytes
  have hr := B.returns
  have hts : ∀ w ∈ wsL_law, w.before args s = true := fun w h => atoms_spec (ws := w_X8_line) B.pre w (List.mem_cons_of_mem _ h)
  have hown : s.vm.findClass RX8 = some m.cls := findClass_of_methodNamed B.named
  have hlocks := B.notSynchronized
  subst hsz
  have hD : va_D A [(a_mo, oX8 a_moR mo_e mo_f mo_codes mo_most mo_minus mo_low mo_function mo_atX mo_atM a_moK a_moH a_moS mo_spanFunction mo_spanRounding mo_spanMany a_moF a_moT mo_parts mo_shift a_moP a_moQ a_moA a_moB a_moD), (a_moP, .inl (cI, 256, .inl moP_r)), (a_moQ, .inl (cI, 256, .inl moQ_r)), (a_moA, .inl (cJ, 256, .inr (.inl moA_r))), (a_moB, .inl (cJ, 256, .inr (.inl moB_r))), (a_moD, .inl (cJ, 256, .inr (.inl moD_r)))] := by rw [hAe]; exact hD0.self
  have hA : ∀ q : Nat, s.heap.size ≤ q → A q := fun q h => by rw [hAe]; exact Or.inr h
  have hS : va_S A s.heap s.heap [] := va_S.rf
  have hl := lv_entry ([.ref a_mo, .int p1, .int p2]) (n := 18) (Nat.le_of_ble_eq_true rfl)
  rw [hargs, lg_entry_eq, ← hargs]
  generalize (lg_sl ([.ref a_mo, .int p1, .int p2]) ++ List.replicate (18 - (lg_sl ([.ref a_mo, .int p1, .int p2])).length) Slot.unset).toArray = ls at hl ⊢
  replace hl : lv_has ls 18 [(0, .ref a_mo), (1, .int p1), (2, .int p2)] := hl
  have hRf : ∀ n, n ≤ 1 → n ≤ (headSpec w_X8_line ({ frames := 1, cells := 0, slots := 0, locals := 26 } : Room)).room.frames := fun n h => h
  have hRl : ∀ n, n ≤ 26 → n ≤ (headSpec w_X8_line ({ frames := 1, cells := 0, slots := 0, locals := 26 } : Room)).room.locals := fun n h => h
  generalize (headSpec w_X8_line ({ frames := 1, cells := 0, slots := 0, locals := 26 } : Room)).room = R at hRf hRl ⊢
  generalize hQ : MQ below _ args s 0 0 _ = Q
  have C_230 : ∀ n : Nat, ∀ (moP_r : Nat → Int32) (moQ_r : Nat → Int32) (moA_r : Nat → Int64) (moB_r : Nat → Int64) (x9 : Int32) (x11 : Int64) (x13 : Int64) (x15 : Int32) (H : Heap) (locs : List Loc) (ls : Array Slot), wp_X8_line_230 post  mo_parts moD_r p1 n moP_r moQ_r moA_r moB_r x9 x11 x13 x15 → va_P D vwCl [(a_mo, oX8 a_moR mo_e mo_f mo_codes mo_most mo_minus mo_low mo_function mo_atX mo_atM a_moK a_moH a_moS mo_spanFunction mo_spanRounding mo_spanMany a_moF a_moT mo_parts mo_shift a_moP a_moQ a_moA a_moB a_moD), (a_moP, .inl (cI, 256, .inl moP_r)), (a_moQ, .inl (cI, 256, .inl moQ_r)), (a_moA, .inl (cJ, 256, .inr (.inl moA_r))), (a_moB, .inl (cJ, 256, .inr (.inl moB_r))), (a_moD, .inl (cJ, 256, .inr (.inl moD_r)))] H → va_D A [(a_mo, oX8 a_moR mo_e mo_f mo_codes mo_most mo_minus mo_low mo_function mo_atX mo_atM a_moK a_moH a_moS mo_spanFunction mo_spanRounding mo_spanMany a_moF a_moT mo_parts mo_shift a_moP a_moQ a_moA a_moB a_moD), (a_moP, .inl (cI, 256, .inl moP_r)), (a_moQ, .inl (cI, 256, .inl moQ_r)), (a_moA, .inl (cJ, 256, .inr (.inl moA_r))), (a_moB, .inl (cJ, 256, .inr (.inl moB_r))), (a_moD, .inl (cJ, 256, .inr (.inl moD_r)))] → va_S A s.heap H locs → lv_has ls 18 [(0, .ref a_mo), (1, .int p1), (9, .int x9), (11, .long x11), (13, .long x13), (15, .int x15)] → W p l e R s m args below meth c H locs 0 0 Q (F0 m 230 ls []) := by
    intro n
    induction n with
    | zero => intro moP_r moQ_r moA_r moB_r x9 x11 x13 x15 H locs ls ho hP hD hS hl; exact ho.elim
    | succ n_230 ih_230 =>
      intro moP_r moQ_r moA_r moB_r x9 x11 x13 x15 H locs ls ho hP hD hS hl
      replace ho : wp_X8_line_230_b post mo_parts moD_r p1 (wp_X8_line_230 post mo_parts moD_r p1 n_230) moP_r moQ_r moA_r moB_r x9 x11 x13 x15 := ho
      unfold wp_X8_line_230_b at ho
      refine lv_iload hx hb dX8_line_230 (lv_at hl 5 rfl) ?_
      refine lv_iload hx hb dX8_line_232 (lv_at hl 2 rfl) ?_
      refine lv_icmp_ge (tgt := 264) hx hb dX8_line_234 (by decide) (fun c_234 => ?_) (fun c_234 => ?_)
      · replace ho := ho.1 c_234
        refine lv_aload_n hx hb dX8_line_264 rfl (lv_at hl 0 rfl) ?_
        refine lv_iload_n hx hb dX8_line_265 rfl (lv_at hl 1 rfl) ?_
        refine lv_iload hx hb dX8_line_266 (lv_at hl 2 rfl) ?_
        refine lv_iconst (v := 1) hx hb dX8_line_268 (by decide) ?_
        refine lv_isub hx hb dX8_line_269 ?_
        refine lv_lload hx hb dX8_line_270 (lv_at hl 4 rfl) ?_
        refine lv_lload hx hb dX8_line_272 (lv_at hl 3 rfl) ?_
        refine ca_Wv (b := a_mo) (As := [.int p1, .int (x9 - (1 : Int32)), .long x13, .long x11]) (rest := []) (wr := [(a_moD, .inl (cJ, 256, .inr (.inl moD_r)))]) (wo := fun (u : (Nat → Int32) × (Nat → Int32) × (Nat → Int64) × (Nat → Int64)) => [(a_mo, oX8 a_moR mo_e mo_f mo_codes mo_most mo_minus mo_low mo_function mo_atX mo_atM a_moK a_moH a_moS mo_spanFunction mo_spanRounding mo_spanMany a_moF a_moT mo_parts mo_shift a_moP a_moQ a_moA a_moB a_moD), (a_moP, .inl (cI, 256, .inl u.1)), (a_moQ, .inl (cI, 256, .inl u.2.1)), (a_moA, .inl (cJ, 256, .inr (.inl u.2.2.1))), (a_moB, .inl (cJ, 256, .inr (.inl u.2.2.2)))]) (wn := fun (u : (Nat → Int32) × (Nat → Int32) × (Nat → Int64) × (Nat → Int64)) => [(a_mo, oX8 a_moR mo_e mo_f mo_codes mo_most mo_minus mo_low mo_function mo_atX mo_atM a_moK a_moH a_moS mo_spanFunction mo_spanRounding mo_spanMany a_moF a_moT mo_parts mo_shift a_moP a_moQ a_moA a_moB a_moD), (a_moP, .inl (cI, 256, .inl u.1)), (a_moQ, .inl (cI, 256, .inl u.2.1)), (a_moA, .inl (cJ, 256, .inr (.inl u.2.2.1))), (a_moB, .inl (cJ, 256, .inr (.inl u.2.2.2))), (a_moD, .inl (cJ, 256, .inr (.inl moD_r)))]) ⟨hx, hb, hml, hown, hts⟩ (c_X8_lays l D cI cJ cZ a_mo a_moR a_moK a_moH a_moS a_moF a_moT a_moP a_moQ a_moA a_moB a_moD H.size mo_e mo_f mo_codes mo_most mo_minus mo_low mo_function mo_atX mo_atM mo_spanFunction mo_spanRounding mo_spanMany mo_parts mo_shift moP_r moQ_r moA_r moB_r p1 (x9 - (1 : Int32)) x13 x11 _ _ rfl ho) (cwV 4 hts (gdV wl_716 wl_717 wl_718 wl_5 wl_719) rfl rfl rfl (by decide +kernel) ⟨hRf _ (Nat.le_of_ble_eq_true rfl), hRl _ (Nat.le_of_ble_eq_true rfl)⟩) hK hN hP hD hS hA [0, 1, 2, 3, 4] [5] [1, 2, 3, 4, 5, 0] rfl rfl (by decide) (by decide) (by decide) (by decide) (fun _ => rfl) 0 7 rfl rfl rfl rfl hl.1 rfl (Nat.le_of_ble_eq_true rfl) dX8_line_274 ⟨Nat.zero_le _, Nat.zero_le _⟩ (fun  u274 H locs ho hP hD hS => ?_)
        obtain ⟨u274_1, u274_2, u274_3, u274_4⟩ := u274
        try dsimp only at ho
        replace hP : va_P D vwCl [(a_mo, oX8 a_moR mo_e mo_f mo_codes mo_most mo_minus mo_low mo_function mo_atX mo_atM a_moK a_moH a_moS mo_spanFunction mo_spanRounding mo_spanMany a_moF a_moT mo_parts mo_shift a_moP a_moQ a_moA a_moB a_moD), (a_moP, .inl (cI, 256, .inl u274_1)), (a_moQ, .inl (cI, 256, .inl u274_2)), (a_moA, .inl (cJ, 256, .inr (.inl u274_3))), (a_moB, .inl (cJ, 256, .inr (.inl u274_4))), (a_moD, .inl (cJ, 256, .inr (.inl moD_r)))] H := hP
        replace hD : va_D A [(a_mo, oX8 a_moR mo_e mo_f mo_codes mo_most mo_minus mo_low mo_function mo_atX mo_atM a_moK a_moH a_moS mo_spanFunction mo_spanRounding mo_spanMany a_moF a_moT mo_parts mo_shift a_moP a_moQ a_moA a_moB a_moD), (a_moP, .inl (cI, 256, .inl u274_1)), (a_moQ, .inl (cI, 256, .inl u274_2)), (a_moA, .inl (cJ, 256, .inr (.inl u274_3))), (a_moB, .inl (cJ, 256, .inr (.inl u274_4))), (a_moD, .inl (cJ, 256, .inr (.inl moD_r)))] := hD
        refine lv_iload hx hb dX8_line_277 (lv_at hl 2 rfl) ?_
        subst hQ; exact W.iret (v := x9) hx hb hr (fun t ht hW => ⟨⟨x9, (u274_1, u274_2, u274_3, u274_4), rfl, ho, by rw [ht]; exact hP, hD⟩, hS.F ht⟩) (fun q hq => hS.2.2 q hq) dX8_line_279
      · replace ho := ho.2 c_234
        refine lv_lload hx hb dX8_line_237 (lv_at hl 4 rfl) ?_
        refine lv_aload_n hx hb dX8_line_239 rfl (lv_at hl 0 rfl) ?_
        refine va_get (D := D) (ci := 7) (v := .ref a_moD) (C := RX8) (T := TX8) (N := 25) hx hb hts inlX8 hown hK hP 0 rfl rfl 24 (by decide) (hts _ wl_111) (fun _ h9 => h9) rfl dX8_line_240 ?_
        refine lv_iload hx hb dX8_line_243 (lv_at hl 5 rfl) ?_
        have o_245 := ho.1
        replace ho := ho.2
        refine va_lald hx hb hK hP 5 1 rfl rfl o_245 dX8_line_245 ?_
        refine lv_lload hx hb dX8_line_246 (lv_at hl 3 rfl) ?_
        refine lv_iload hx hb dX8_line_248 (lv_at hl 5 rfl) ?_
        refine lv_i2l hx hb dX8_line_250 rfl ?_
        refine lv_lmul hx hb dX8_line_251 ?_
        refine lv_lsub hx hb dX8_line_252 ?_
        refine va_mmax_long hx hb (hml.trans hl.1.symm) hown (hts _ wl_727) (hts _ wl_679) (hts _ wl_244) (hts _ wl_680) (hRf 1 (Nat.le_of_ble_eq_true rfl)) (hRl _ (Nat.le_of_ble_eq_true rfl)) (Nat.zero_le _) (Nat.zero_le _) dX8_line_253 ?_
        refine lv_lstore (lv' := [(13, .long (if ((moD_r x15.toNatClampNeg) - (x11 * x15.toInt64)) < x13 then x13 else ((moD_r x15.toNatClampNeg) - (x11 * x15.toInt64)))), (0, .ref a_mo), (1, .int p1), (9, .int x9), (11, .long x11), (15, .int x15)]) hx hb dX8_line_256 hl (by decide) rfl (fun ls hl => ?_)
        refine lv_iinc (v := (x15 + (1 : Int32))) (lv' := [(15, .int (x15 + (1 : Int32))), (13, .long (if ((moD_r x15.toNatClampNeg) - (x11 * x15.toInt64)) < x13 then x13 else ((moD_r x15.toNatClampNeg) - (x11 * x15.toInt64)))), (0, .ref a_mo), (1, .int p1), (9, .int x9), (11, .long x11)]) hx hb dX8_line_258 hl (k := 5) rfl rfl (by decide) rfl (fun ls hl => ?_)
        refine lv_goto (tgt := 230) hx hb dX8_line_261 (by decide) ?_
        exact ih_230 moP_r moQ_r moA_r moB_r x9 x11 (if ((moD_r x15.toNatClampNeg) - (x11 * x15.toInt64)) < x13 then x13 else ((moD_r x15.toNatClampNeg) - (x11 * x15.toInt64))) (x15 + (1 : Int32)) H locs ls ho hP hD hS (lv_sub hl [2, 3, 4, 5, 1, 0] rfl)
  have C_211 : ∀ (moP_r : Nat → Int32) (moQ_r : Nat → Int32) (moA_r : Nat → Int64) (moB_r : Nat → Int64) (x9 : Int32) (y0 : Int64) (H : Heap) (locs : List Loc) (ls : Array Slot), wp_X8_line_211 post  mo_parts moP_r moQ_r moA_r moB_r moD_r p1 x9 y0 → va_P D vwCl [(a_mo, oX8 a_moR mo_e mo_f mo_codes mo_most mo_minus mo_low mo_function mo_atX mo_atM a_moK a_moH a_moS mo_spanFunction mo_spanRounding mo_spanMany a_moF a_moT mo_parts mo_shift a_moP a_moQ a_moA a_moB a_moD), (a_moP, .inl (cI, 256, .inl moP_r)), (a_moQ, .inl (cI, 256, .inl moQ_r)), (a_moA, .inl (cJ, 256, .inr (.inl moA_r))), (a_moB, .inl (cJ, 256, .inr (.inl moB_r))), (a_moD, .inl (cJ, 256, .inr (.inl moD_r)))] H → va_D A [(a_mo, oX8 a_moR mo_e mo_f mo_codes mo_most mo_minus mo_low mo_function mo_atX mo_atM a_moK a_moH a_moS mo_spanFunction mo_spanRounding mo_spanMany a_moF a_moT mo_parts mo_shift a_moP a_moQ a_moA a_moB a_moD), (a_moP, .inl (cI, 256, .inl moP_r)), (a_moQ, .inl (cI, 256, .inl moQ_r)), (a_moA, .inl (cJ, 256, .inr (.inl moA_r))), (a_moB, .inl (cJ, 256, .inr (.inl moB_r))), (a_moD, .inl (cJ, 256, .inr (.inl moD_r)))] → va_S A s.heap H locs → lv_has ls 18 [(0, .ref a_mo), (1, .int p1), (9, .int x9)] → W p l e R s m args below meth c H locs 0 0 Q (F0 m 211 ls [.long y0]) := by
    intro moP_r moQ_r moA_r moB_r x9 y0 H locs ls ho hP hD hS hl
    unfold wp_X8_line_211 at ho
    refine lv_lstore (lv' := [(11, .long y0), (0, .ref a_mo), (1, .int p1), (9, .int x9)]) hx hb dX8_line_211 hl (by decide) rfl (fun ls hl => ?_)
    refine lv_aload_n hx hb dX8_line_213 rfl (lv_at hl 1 rfl) ?_
    refine va_get (D := D) (ci := 7) (v := .ref a_moD) (C := RX8) (T := TX8) (N := 25) hx hb hts inlX8 hown hK hP 0 rfl rfl 24 (by decide) (hts _ wl_111) (fun _ h9 => h9) rfl dX8_line_214 ?_
    refine lv_iload_n hx hb dX8_line_217 rfl (lv_at hl 2 rfl) ?_
    have o_218 := ho.1
    replace ho := ho.2
    refine va_lald hx hb hK hP 5 1 rfl rfl o_218 dX8_line_218 ?_
    refine lv_lload hx hb dX8_line_219 (lv_at hl 0 rfl) ?_
    refine lv_iload_n hx hb dX8_line_221 rfl (lv_at hl 2 rfl) ?_
    refine lv_i2l hx hb dX8_line_222 rfl ?_
    refine lv_lmul hx hb dX8_line_223 ?_
    refine lv_lsub hx hb dX8_line_224 ?_
    refine lv_lstore (lv' := [(13, .long ((moD_r p1.toNatClampNeg) - (y0 * p1.toInt64))), (11, .long y0), (0, .ref a_mo), (1, .int p1), (9, .int x9)]) hx hb dX8_line_225 hl (by decide) rfl (fun ls hl => ?_)
    refine lv_iload_n hx hb dX8_line_227 rfl (lv_at hl 3 rfl) ?_
    refine lv_istore (lv' := [(15, .int p1), (13, .long ((moD_r p1.toNatClampNeg) - (y0 * p1.toInt64))), (11, .long y0), (0, .ref a_mo), (1, .int p1), (9, .int x9)]) hx hb dX8_line_228 hl (by decide) rfl (fun ls hl => ?_)
    obtain ⟨n_230, ho⟩ := ho
    exact C_230 n_230 moP_r moQ_r moA_r moB_r x9 y0 ((moD_r p1.toNatClampNeg) - (y0 * p1.toInt64)) p1 H locs ls ho hP hD hS (lv_sub hl [3, 4, 5, 2, 1, 0] rfl)
  have C_35 : ∀ n : Nat, ∀ (moP_r : Nat → Int32) (moQ_r : Nat → Int32) (moA_r : Nat → Int64) (moB_r : Nat → Int64) (x3 : Int64) (x5 : Int64) (x7 : Int64) (x9 : Int32) (x10 : Int32) (H : Heap) (locs : List Loc) (ls : Array Slot), wp_X8_line_35 post  mo_parts moD_r p1 p2 n moP_r moQ_r moA_r moB_r x3 x5 x7 x9 x10 → va_P D vwCl [(a_mo, oX8 a_moR mo_e mo_f mo_codes mo_most mo_minus mo_low mo_function mo_atX mo_atM a_moK a_moH a_moS mo_spanFunction mo_spanRounding mo_spanMany a_moF a_moT mo_parts mo_shift a_moP a_moQ a_moA a_moB a_moD), (a_moP, .inl (cI, 256, .inl moP_r)), (a_moQ, .inl (cI, 256, .inl moQ_r)), (a_moA, .inl (cJ, 256, .inr (.inl moA_r))), (a_moB, .inl (cJ, 256, .inr (.inl moB_r))), (a_moD, .inl (cJ, 256, .inr (.inl moD_r)))] H → va_D A [(a_mo, oX8 a_moR mo_e mo_f mo_codes mo_most mo_minus mo_low mo_function mo_atX mo_atM a_moK a_moH a_moS mo_spanFunction mo_spanRounding mo_spanMany a_moF a_moT mo_parts mo_shift a_moP a_moQ a_moA a_moB a_moD), (a_moP, .inl (cI, 256, .inl moP_r)), (a_moQ, .inl (cI, 256, .inl moQ_r)), (a_moA, .inl (cJ, 256, .inr (.inl moA_r))), (a_moB, .inl (cJ, 256, .inr (.inl moB_r))), (a_moD, .inl (cJ, 256, .inr (.inl moD_r)))] → va_S A s.heap H locs → lv_has ls 18 [(0, .ref a_mo), (1, .int p1), (2, .int p2), (3, .long x3), (5, .long x5), (7, .long x7), (9, .int x9), (10, .int x10)] → W p l e R s m args below meth c H locs 0 0 Q (F0 m 35 ls []) := by
    intro n
    induction n with
    | zero => intro moP_r moQ_r moA_r moB_r x3 x5 x7 x9 x10 H locs ls ho hP hD hS hl; exact ho.elim
    | succ n_35 ih_35 =>
      have C_181 : ∀ (moP_r : Nat → Int32) (moQ_r : Nat → Int32) (moA_r : Nat → Int64) (moB_r : Nat → Int64) (x3 : Int64) (x5 : Int64) (x7 : Int64) (x9 : Int32) (y0 : Int32) (H : Heap) (locs : List Loc) (ls : Array Slot), wp_X8_line_181 post (wp_X8_line_35 post mo_parts moD_r p1 p2 n_35) moP_r moQ_r moA_r moB_r x3 x5 x7 x9 y0 → va_P D vwCl [(a_mo, oX8 a_moR mo_e mo_f mo_codes mo_most mo_minus mo_low mo_function mo_atX mo_atM a_moK a_moH a_moS mo_spanFunction mo_spanRounding mo_spanMany a_moF a_moT mo_parts mo_shift a_moP a_moQ a_moA a_moB a_moD), (a_moP, .inl (cI, 256, .inl moP_r)), (a_moQ, .inl (cI, 256, .inl moQ_r)), (a_moA, .inl (cJ, 256, .inr (.inl moA_r))), (a_moB, .inl (cJ, 256, .inr (.inl moB_r))), (a_moD, .inl (cJ, 256, .inr (.inl moD_r)))] H → va_D A [(a_mo, oX8 a_moR mo_e mo_f mo_codes mo_most mo_minus mo_low mo_function mo_atX mo_atM a_moK a_moH a_moS mo_spanFunction mo_spanRounding mo_spanMany a_moF a_moT mo_parts mo_shift a_moP a_moQ a_moA a_moB a_moD), (a_moP, .inl (cI, 256, .inl moP_r)), (a_moQ, .inl (cI, 256, .inl moQ_r)), (a_moA, .inl (cJ, 256, .inr (.inl moA_r))), (a_moB, .inl (cJ, 256, .inr (.inl moB_r))), (a_moD, .inl (cJ, 256, .inr (.inl moD_r)))] → va_S A s.heap H locs → lv_has ls 18 [(0, .ref a_mo), (1, .int p1), (2, .int p2), (3, .long x3), (5, .long x5), (7, .long x7), (9, .int x9)] → W p l e R s m args below meth c H locs 0 0 Q (F0 m 181 ls [.int y0]) := by
        intro moP_r moQ_r moA_r moB_r x3 x5 x7 x9 y0 H locs ls ho hP hD hS hl
        unfold wp_X8_line_181 at ho
        refine lv_istore (lv' := [(10, .int y0), (0, .ref a_mo), (1, .int p1), (2, .int p2), (3, .long x3), (5, .long x5), (7, .long x7), (9, .int x9)]) hx hb dX8_line_181 hl (by decide) rfl (fun ls hl => ?_)
        refine lv_goto (tgt := 35) hx hb dX8_line_183 (by decide) ?_
        exact ih_35 moP_r moQ_r moA_r moB_r x3 x5 x7 x9 y0 H locs ls ho hP hD hS (lv_sub hl [1, 2, 3, 4, 5, 6, 7, 0] rfl)
      have C_149 : ∀ (moP_r : Nat → Int32) (moQ_r : Nat → Int32) (moA_r : Nat → Int64) (moB_r : Nat → Int64) (x3 : Int64) (x5 : Int64) (x7 : Int64) (x9 : Int32) (x11 : Int64) (x13 : Int64) (y0 : Int32) (H : Heap) (locs : List Loc) (ls : Array Slot), wp_X8_line_149 post (wp_X8_line_35 post mo_parts moD_r p1 p2 n_35) moP_r moQ_r moA_r moB_r p2 x3 x5 x7 x9 x11 x13 y0 → va_P D vwCl [(a_mo, oX8 a_moR mo_e mo_f mo_codes mo_most mo_minus mo_low mo_function mo_atX mo_atM a_moK a_moH a_moS mo_spanFunction mo_spanRounding mo_spanMany a_moF a_moT mo_parts mo_shift a_moP a_moQ a_moA a_moB a_moD), (a_moP, .inl (cI, 256, .inl moP_r)), (a_moQ, .inl (cI, 256, .inl moQ_r)), (a_moA, .inl (cJ, 256, .inr (.inl moA_r))), (a_moB, .inl (cJ, 256, .inr (.inl moB_r))), (a_moD, .inl (cJ, 256, .inr (.inl moD_r)))] H → va_D A [(a_mo, oX8 a_moR mo_e mo_f mo_codes mo_most mo_minus mo_low mo_function mo_atX mo_atM a_moK a_moH a_moS mo_spanFunction mo_spanRounding mo_spanMany a_moF a_moT mo_parts mo_shift a_moP a_moQ a_moA a_moB a_moD), (a_moP, .inl (cI, 256, .inl moP_r)), (a_moQ, .inl (cI, 256, .inl moQ_r)), (a_moA, .inl (cJ, 256, .inr (.inl moA_r))), (a_moB, .inl (cJ, 256, .inr (.inl moB_r))), (a_moD, .inl (cJ, 256, .inr (.inl moD_r)))] → va_S A s.heap H locs → lv_has ls 18 [(0, .ref a_mo), (1, .int p1), (2, .int p2), (3, .long x3), (5, .long x5), (7, .long x7), (9, .int x9), (11, .long x11), (13, .long x13)] → W p l e R s m args below meth c H locs 0 0 Q (F0 m 149 ls [.int y0]) := by
        intro moP_r moQ_r moA_r moB_r x3 x5 x7 x9 x11 x13 y0 H locs ls ho hP hD hS hl
        unfold wp_X8_line_149 at ho
        refine lv_istore (lv' := [(10, .int y0), (0, .ref a_mo), (1, .int p1), (2, .int p2), (3, .long x3), (5, .long x5), (7, .long x7), (9, .int x9), (11, .long x11), (13, .long x13)]) hx hb dX8_line_149 hl (by decide) rfl (fun ls hl => ?_)
        refine lv_iload hx hb dX8_line_151 (lv_at hl 0 rfl) ?_
        refine lv_if_ne (tgt := 159) hx hb dX8_line_153 (by decide) (fun c_153 => ?_) (fun c_153 => ?_)
        · replace ho := ho.1 c_153
          refine lv_lload hx hb dX8_line_159 (lv_at hl 8 rfl) ?_
          refine lv_lstore (lv' := [(5, .long x11), (10, .int y0), (0, .ref a_mo), (1, .int p1), (2, .int p2), (3, .long x3), (7, .long x7), (9, .int x9), (11, .long x11), (13, .long x13)]) hx hb dX8_line_161 hl (by decide) rfl (fun ls hl => ?_)
          refine lv_lload hx hb dX8_line_163 (lv_at hl 9 rfl) ?_
          refine lv_lstore (lv' := [(7, .long x13), (5, .long x11), (10, .int y0), (0, .ref a_mo), (1, .int p1), (2, .int p2), (3, .long x3), (9, .int x9), (11, .long x11), (13, .long x13)]) hx hb dX8_line_165 hl (by decide) rfl (fun ls hl => ?_)
          refine lv_iinc (v := (x9 + (1 : Int32))) (lv' := [(9, .int (x9 + (1 : Int32))), (7, .long x13), (5, .long x11), (10, .int y0), (0, .ref a_mo), (1, .int p1), (2, .int p2), (3, .long x3), (11, .long x11), (13, .long x13)]) hx hb dX8_line_167 hl (k := 7) rfl rfl (by decide) rfl (fun ls hl => ?_)
          refine lv_iload hx hb dX8_line_170 (lv_at hl 0 rfl) ?_
          refine lv_iload_n hx hb dX8_line_172 rfl (lv_at hl 6 rfl) ?_
          refine lv_icmp_ge (tgt := 180) hx hb dX8_line_173 (by decide) (fun c_173 => ?_) (fun c_173 => ?_)
          · replace ho := ho.1 c_173
            refine lv_iconst (v := 0) hx hb dX8_line_180 (by decide) ?_
            exact C_181 moP_r moQ_r moA_r moB_r x3 x11 x13 (x9 + (1 : Int32)) (0 : Int32) H locs ls ho hP hD hS (lv_sub hl [4, 5, 6, 7, 2, 1, 0] rfl)
          · replace ho := ho.2 c_173
            refine lv_iconst (v := 1) hx hb dX8_line_176 (by decide) ?_
            refine lv_goto (tgt := 181) hx hb dX8_line_177 (by decide) ?_
            exact C_181 moP_r moQ_r moA_r moB_r x3 x11 x13 (x9 + (1 : Int32)) (1 : Int32) H locs ls ho hP hD hS (lv_sub hl [4, 5, 6, 7, 2, 1, 0] rfl)
        · replace ho := ho.2 c_153
          refine lv_goto (tgt := 35) hx hb dX8_line_156 (by decide) ?_
          exact ih_35 moP_r moQ_r moA_r moB_r x3 x5 x7 x9 y0 H locs ls ho hP hD hS (lv_sub hl [1, 2, 3, 4, 5, 6, 7, 0] rfl)
      have C_51 : ∀ n : Nat, ∀ (moP_r : Nat → Int32) (moQ_r : Nat → Int32) (moA_r : Nat → Int64) (moB_r : Nat → Int64) (x3 : Int64) (x5 : Int64) (x7 : Int64) (x9 : Int32) (x11 : Int64) (x13 : Int64) (x15 : Int32) (H : Heap) (locs : List Loc) (ls : Array Slot), wp_X8_line_51 post (wp_X8_line_35 post mo_parts moD_r p1 p2 n_35) moD_r p2 n moP_r moQ_r moA_r moB_r x3 x5 x7 x9 x11 x13 x15 → va_P D vwCl [(a_mo, oX8 a_moR mo_e mo_f mo_codes mo_most mo_minus mo_low mo_function mo_atX mo_atM a_moK a_moH a_moS mo_spanFunction mo_spanRounding mo_spanMany a_moF a_moT mo_parts mo_shift a_moP a_moQ a_moA a_moB a_moD), (a_moP, .inl (cI, 256, .inl moP_r)), (a_moQ, .inl (cI, 256, .inl moQ_r)), (a_moA, .inl (cJ, 256, .inr (.inl moA_r))), (a_moB, .inl (cJ, 256, .inr (.inl moB_r))), (a_moD, .inl (cJ, 256, .inr (.inl moD_r)))] H → va_D A [(a_mo, oX8 a_moR mo_e mo_f mo_codes mo_most mo_minus mo_low mo_function mo_atX mo_atM a_moK a_moH a_moS mo_spanFunction mo_spanRounding mo_spanMany a_moF a_moT mo_parts mo_shift a_moP a_moQ a_moA a_moB a_moD), (a_moP, .inl (cI, 256, .inl moP_r)), (a_moQ, .inl (cI, 256, .inl moQ_r)), (a_moA, .inl (cJ, 256, .inr (.inl moA_r))), (a_moB, .inl (cJ, 256, .inr (.inl moB_r))), (a_moD, .inl (cJ, 256, .inr (.inl moD_r)))] → va_S A s.heap H locs → lv_has ls 18 [(0, .ref a_mo), (1, .int p1), (2, .int p2), (3, .long x3), (5, .long x5), (7, .long x7), (9, .int x9), (11, .long x11), (13, .long x13), (15, .int x15)] → W p l e R s m args below meth c H locs 0 0 Q (F0 m 51 ls []) := by
        intro n
        induction n with
        | zero => intro moP_r moQ_r moA_r moB_r x3 x5 x7 x9 x11 x13 x15 H locs ls ho hP hD hS hl; exact ho.elim
        | succ n_51 ih_51 =>
          intro moP_r moQ_r moA_r moB_r x3 x5 x7 x9 x11 x13 x15 H locs ls ho hP hD hS hl
          replace ho : wp_X8_line_51_b post (wp_X8_line_35 post mo_parts moD_r p1 p2 n_35) moD_r p2 (wp_X8_line_51 post (wp_X8_line_35 post mo_parts moD_r p1 p2 n_35) moD_r p2 n_51) moP_r moQ_r moA_r moB_r x3 x5 x7 x9 x11 x13 x15 := ho
          unfold wp_X8_line_51_b at ho
          refine lv_iload hx hb dX8_line_51 (lv_at hl 9 rfl) ?_
          refine lv_iload hx hb dX8_line_53 (lv_at hl 6 rfl) ?_
          refine lv_icmp_ge (tgt := 136) hx hb dX8_line_55 (by decide) (fun c_55 => ?_) (fun c_55 => ?_)
          · replace ho := ho.1 c_55
            refine lv_lload hx hb dX8_line_136 (lv_at hl 7 rfl) ?_
            refine lv_lload hx hb dX8_line_138 (lv_at hl 8 rfl) ?_
            refine W.lcmp hx hb dX8_line_140 ?_
            refine lv_if_gt (tgt := 148) hx hb dX8_line_141 (by decide) (fun c_141 => ?_) (fun c_141 => ?_)
            · replace ho := ho.1 c_141
              refine lv_iconst (v := 0) hx hb dX8_line_148 (by decide) ?_
              exact C_149 moP_r moQ_r moA_r moB_r x3 x5 x7 x9 x11 x13 (0 : Int32) H locs ls ho hP hD hS (lv_sub hl [0, 1, 2, 3, 4, 5, 6, 7, 8] rfl)
            · replace ho := ho.2 c_141
              refine lv_iconst (v := 1) hx hb dX8_line_144 (by decide) ?_
              refine lv_goto (tgt := 149) hx hb dX8_line_145 (by decide) ?_
              exact C_149 moP_r moQ_r moA_r moB_r x3 x5 x7 x9 x11 x13 (1 : Int32) H locs ls ho hP hD hS (lv_sub hl [0, 1, 2, 3, 4, 5, 6, 7, 8] rfl)
          · replace ho := ho.2 c_55
            refine lv_iload hx hb dX8_line_58 (lv_at hl 6 rfl) ?_
            refine lv_iload hx hb dX8_line_60 (lv_at hl 9 rfl) ?_
            refine lv_isub hx hb dX8_line_62 ?_
            refine lv_i2l hx hb dX8_line_63 rfl ?_
            refine lv_lstore (lv' := [(16, .long ((x9 - x15).toInt64)), (0, .ref a_mo), (1, .int p1), (2, .int p2), (3, .long x3), (5, .long x5), (7, .long x7), (9, .int x9), (11, .long x11), (13, .long x13), (15, .int x15)]) hx hb dX8_line_64 hl (by decide) rfl (fun ls hl => ?_)
            refine lv_lload hx hb dX8_line_66 (lv_at hl 9 rfl) ?_
            refine lv_aload_n hx hb dX8_line_68 rfl (lv_at hl 1 rfl) ?_
            refine va_get (D := D) (ci := 7) (v := .ref a_moD) (C := RX8) (T := TX8) (N := 25) hx hb hts inlX8 hown hK hP 0 rfl rfl 24 (by decide) (hts _ wl_111) (fun _ h9 => h9) rfl dX8_line_69 ?_
            refine lv_iload hx hb dX8_line_72 (lv_at hl 7 rfl) ?_
            have o_74 := ho.1
            replace ho := ho.2
            refine va_lald hx hb hK hP 5 1 rfl rfl o_74 dX8_line_74 ?_
            refine lv_aload_n hx hb dX8_line_75 rfl (lv_at hl 1 rfl) ?_
            refine va_get (D := D) (ci := 7) (v := .ref a_moD) (C := RX8) (T := TX8) (N := 25) hx hb hts inlX8 hown hK hP 0 rfl rfl 24 (by decide) (hts _ wl_111) (fun _ h9 => h9) rfl dX8_line_76 ?_
            refine lv_iload hx hb dX8_line_79 (lv_at hl 10 rfl) ?_
            have o_81 := ho.1
            replace ho := ho.2
            refine va_lald hx hb hK hP 5 1 rfl rfl o_81 dX8_line_81 ?_
            refine lv_lsub hx hb dX8_line_82 ?_
            refine lv_lload_n hx hb dX8_line_83 rfl (lv_at hl 4 rfl) ?_
            refine lv_ladd hx hb dX8_line_84 ?_
            refine lv_lconst (v := 1) hx hb dX8_line_85 (by decide) ?_
            refine lv_lsub hx hb dX8_line_86 ?_
            refine lv_lload hx hb dX8_line_87 (lv_at hl 0 rfl) ?_
            refine ca_Sl (As := [.long ((((moD_r x9.toNatClampNeg) - (moD_r x15.toNatClampNeg)) + x3) - (1 : Int64)), .long ((x9 - x15).toInt64)]) (rest := [.long x13]) ⟨hx, hb, hml, hown, hts⟩ (c_J9_floorDiv_f86c9 l D cI cJ cZ   ((((moD_r x9.toNatClampNeg) - (moD_r x15.toNatClampNeg)) + x3) - (1 : Int64)) ((x9 - x15).toInt64) _ ho) (va_cwS 2 hts (gdS wl_728 wl_689 wl_244 wl_690) rfl rfl rfl (by decide +kernel) ⟨hRf _ (Nat.le_of_ble_eq_true rfl), hRl _ (Nat.le_of_ble_eq_true rfl)⟩) hK hN hP [] rfl rfl hl.1 rfl (Nat.le_of_ble_eq_true rfl) dX8_line_89 ⟨Nat.zero_le _, Nat.zero_le _⟩ (fun r89 ho => ?_)
            refine va_mmin_long hx hb (hml.trans hl.1.symm) hown (hts _ wl_726) (hts _ wl_682) (hts _ wl_244) (hts _ wl_683) (hRf 1 (Nat.le_of_ble_eq_true rfl)) (hRl _ (Nat.le_of_ble_eq_true rfl)) (Nat.zero_le _) (Nat.zero_le _) dX8_line_92 ?_
            refine lv_lstore (lv' := [(13, .long (if r89 < x13 then r89 else x13)), (16, .long ((x9 - x15).toInt64)), (0, .ref a_mo), (1, .int p1), (2, .int p2), (3, .long x3), (5, .long x5), (7, .long x7), (9, .int x9), (11, .long x11), (15, .int x15)]) hx hb dX8_line_95 hl (by decide) rfl (fun ls hl => ?_)
            refine lv_lload hx hb dX8_line_97 (lv_at hl 9 rfl) ?_
            refine lv_aload_n hx hb dX8_line_99 rfl (lv_at hl 2 rfl) ?_
            refine va_get (D := D) (ci := 7) (v := .ref a_moD) (C := RX8) (T := TX8) (N := 25) hx hb hts inlX8 hown hK hP 0 rfl rfl 24 (by decide) (hts _ wl_111) (fun _ h9 => h9) rfl dX8_line_100 ?_
            refine lv_iload hx hb dX8_line_103 (lv_at hl 8 rfl) ?_
            have o_105 := ho.1
            replace ho := ho.2
            refine va_lald hx hb hK hP 5 1 rfl rfl o_105 dX8_line_105 ?_
            refine lv_aload_n hx hb dX8_line_106 rfl (lv_at hl 2 rfl) ?_
            refine va_get (D := D) (ci := 7) (v := .ref a_moD) (C := RX8) (T := TX8) (N := 25) hx hb hts inlX8 hown hK hP 0 rfl rfl 24 (by decide) (hts _ wl_111) (fun _ h9 => h9) rfl dX8_line_107 ?_
            refine lv_iload hx hb dX8_line_110 (lv_at hl 10 rfl) ?_
            have o_112 := ho.1
            replace ho := ho.2
            refine va_lald hx hb hK hP 5 1 rfl rfl o_112 dX8_line_112 ?_
            refine lv_lsub hx hb dX8_line_113 ?_
            refine lv_lload_n hx hb dX8_line_114 rfl (lv_at hl 5 rfl) ?_
            refine lv_lsub hx hb dX8_line_115 ?_
            refine lv_lconst (v := 1) hx hb dX8_line_116 (by decide) ?_
            refine lv_ladd hx hb dX8_line_117 ?_
            refine lv_lneg hx hb dX8_line_118 ?_
            refine lv_lload hx hb dX8_line_119 (lv_at hl 1 rfl) ?_
            refine ca_Sl (As := [.long (-((((moD_r x9.toNatClampNeg) - (moD_r x15.toNatClampNeg)) - x3) + (1 : Int64))), .long ((x9 - x15).toInt64)]) (rest := [.long x11]) ⟨hx, hb, hml, hown, hts⟩ (c_J9_floorDiv_f86c9 l D cI cJ cZ   (-((((moD_r x9.toNatClampNeg) - (moD_r x15.toNatClampNeg)) - x3) + (1 : Int64))) ((x9 - x15).toInt64) _ ho) (va_cwS 2 hts (gdS wl_728 wl_689 wl_244 wl_690) rfl rfl rfl (by decide +kernel) ⟨hRf _ (Nat.le_of_ble_eq_true rfl), hRl _ (Nat.le_of_ble_eq_true rfl)⟩) hK hN hP [] rfl rfl hl.1 rfl (Nat.le_of_ble_eq_true rfl) dX8_line_121 ⟨Nat.zero_le _, Nat.zero_le _⟩ (fun r121 ho => ?_)
            refine lv_lneg hx hb dX8_line_124 ?_
            refine va_mmax_long hx hb (hml.trans hl.1.symm) hown (hts _ wl_727) (hts _ wl_679) (hts _ wl_244) (hts _ wl_680) (hRf 1 (Nat.le_of_ble_eq_true rfl)) (hRl _ (Nat.le_of_ble_eq_true rfl)) (Nat.zero_le _) (Nat.zero_le _) dX8_line_125 ?_
            refine lv_lstore (lv' := [(11, .long (if (-r121) < x11 then x11 else (-r121))), (13, .long (if r89 < x13 then r89 else x13)), (16, .long ((x9 - x15).toInt64)), (0, .ref a_mo), (1, .int p1), (2, .int p2), (3, .long x3), (5, .long x5), (7, .long x7), (9, .int x9), (15, .int x15)]) hx hb dX8_line_128 hl (by decide) rfl (fun ls hl => ?_)
            refine lv_iinc (v := (x15 + (1 : Int32))) (lv' := [(15, .int (x15 + (1 : Int32))), (11, .long (if (-r121) < x11 then x11 else (-r121))), (13, .long (if r89 < x13 then r89 else x13)), (16, .long ((x9 - x15).toInt64)), (0, .ref a_mo), (1, .int p1), (2, .int p2), (3, .long x3), (5, .long x5), (7, .long x7), (9, .int x9)]) hx hb dX8_line_130 hl (k := 10) rfl rfl (by decide) rfl (fun ls hl => ?_)
            refine lv_goto (tgt := 51) hx hb dX8_line_133 (by decide) ?_
            exact ih_51 moP_r moQ_r moA_r moB_r x3 x5 x7 x9 (if (-r121) < x11 then x11 else (-r121)) (if r89 < x13 then r89 else x13) (x15 + (1 : Int32)) H locs ls ho hP hD hS (lv_sub hl [4, 5, 6, 7, 8, 9, 10, 1, 2, 0] rfl)
      intro moP_r moQ_r moA_r moB_r x3 x5 x7 x9 x10 H locs ls ho hP hD hS hl
      replace ho : wp_X8_line_35_b post mo_parts moD_r p1 p2 (wp_X8_line_35 post mo_parts moD_r p1 p2 n_35) moP_r moQ_r moA_r moB_r x3 x5 x7 x9 x10 := ho
      unfold wp_X8_line_35_b at ho
      refine lv_iload hx hb dX8_line_35 (lv_at hl 7 rfl) ?_
      refine lv_if_eq (tgt := 186) hx hb dX8_line_37 (by decide) (fun c_37 => ?_) (fun c_37 => ?_)
      · replace ho := ho.1 c_37
        refine lv_lload hx hb dX8_line_186 (lv_at hl 4 rfl) ?_
        refine lv_lconst (v := 0) hx hb dX8_line_188 (by decide) ?_
        refine W.lcmp hx hb dX8_line_189 ?_
        refine lv_if_le (tgt := 198) hx hb dX8_line_190 (by decide) (fun c_190 => ?_) (fun c_190 => ?_)
        · replace ho := ho.1 c_190
          refine lv_lload hx hb dX8_line_198 (lv_at hl 5 rfl) ?_
          refine lv_lconst (v := 0) hx hb dX8_line_200 (by decide) ?_
          refine W.lcmp hx hb dX8_line_201 ?_
          refine lv_if_ge (tgt := 210) hx hb dX8_line_202 (by decide) (fun c_202 => ?_) (fun c_202 => ?_)
          · replace ho := ho.1 c_202
            refine lv_lconst (v := 0) hx hb dX8_line_210 (by decide) ?_
            exact C_211 moP_r moQ_r moA_r moB_r x9 (0 : Int64) H locs ls ho hP hD hS (lv_sub hl [0, 1, 6] rfl)
          · replace ho := ho.2 c_202
            refine lv_lload hx hb dX8_line_205 (lv_at hl 5 rfl) ?_
            refine lv_goto (tgt := 211) hx hb dX8_line_207 (by decide) ?_
            exact C_211 moP_r moQ_r moA_r moB_r x9 x7 H locs ls ho hP hD hS (lv_sub hl [0, 1, 6] rfl)
        · replace ho := ho.2 c_190
          refine lv_lload hx hb dX8_line_193 (lv_at hl 4 rfl) ?_
          refine lv_goto (tgt := 211) hx hb dX8_line_195 (by decide) ?_
          exact C_211 moP_r moQ_r moA_r moB_r x9 x5 H locs ls ho hP hD hS (lv_sub hl [0, 1, 6] rfl)
      · replace ho := ho.2 c_37
        refine lv_lload hx hb dX8_line_40 (lv_at hl 4 rfl) ?_
        refine lv_lstore (lv' := [(11, .long x5), (0, .ref a_mo), (1, .int p1), (2, .int p2), (3, .long x3), (5, .long x5), (7, .long x7), (9, .int x9), (10, .int x10)]) hx hb dX8_line_42 hl (by decide) rfl (fun ls hl => ?_)
        refine lv_lload hx hb dX8_line_44 (lv_at hl 6 rfl) ?_
        refine lv_lstore (lv' := [(13, .long x7), (11, .long x5), (0, .ref a_mo), (1, .int p1), (2, .int p2), (3, .long x3), (5, .long x5), (7, .long x7), (9, .int x9), (10, .int x10)]) hx hb dX8_line_46 hl (by decide) rfl (fun ls hl => ?_)
        refine lv_iload_n hx hb dX8_line_48 rfl (lv_at hl 3 rfl) ?_
        refine lv_istore (lv' := [(15, .int p1), (13, .long x7), (11, .long x5), (0, .ref a_mo), (1, .int p1), (2, .int p2), (3, .long x3), (5, .long x5), (7, .long x7), (9, .int x9), (10, .int x10)]) hx hb dX8_line_49 hl (by decide) rfl (fun ls hl => ?_)
        obtain ⟨n_51, ho⟩ := ho
        exact C_51 n_51 moP_r moQ_r moA_r moB_r x3 x5 x7 x9 x5 x7 p1 H locs ls ho hP hD hS (lv_sub hl [3, 4, 5, 6, 7, 8, 9, 2, 1, 0] rfl)
  have C_33 : ∀ (moP_r : Nat → Int32) (moQ_r : Nat → Int32) (moA_r : Nat → Int64) (moB_r : Nat → Int64) (x3 : Int64) (x5 : Int64) (x7 : Int64) (x9 : Int32) (y0 : Int32) (H : Heap) (locs : List Loc) (ls : Array Slot), wp_X8_line_33 post  mo_parts moP_r moQ_r moA_r moB_r moD_r p1 p2 x3 x5 x7 x9 y0 → va_P D vwCl [(a_mo, oX8 a_moR mo_e mo_f mo_codes mo_most mo_minus mo_low mo_function mo_atX mo_atM a_moK a_moH a_moS mo_spanFunction mo_spanRounding mo_spanMany a_moF a_moT mo_parts mo_shift a_moP a_moQ a_moA a_moB a_moD), (a_moP, .inl (cI, 256, .inl moP_r)), (a_moQ, .inl (cI, 256, .inl moQ_r)), (a_moA, .inl (cJ, 256, .inr (.inl moA_r))), (a_moB, .inl (cJ, 256, .inr (.inl moB_r))), (a_moD, .inl (cJ, 256, .inr (.inl moD_r)))] H → va_D A [(a_mo, oX8 a_moR mo_e mo_f mo_codes mo_most mo_minus mo_low mo_function mo_atX mo_atM a_moK a_moH a_moS mo_spanFunction mo_spanRounding mo_spanMany a_moF a_moT mo_parts mo_shift a_moP a_moQ a_moA a_moB a_moD), (a_moP, .inl (cI, 256, .inl moP_r)), (a_moQ, .inl (cI, 256, .inl moQ_r)), (a_moA, .inl (cJ, 256, .inr (.inl moA_r))), (a_moB, .inl (cJ, 256, .inr (.inl moB_r))), (a_moD, .inl (cJ, 256, .inr (.inl moD_r)))] → va_S A s.heap H locs → lv_has ls 18 [(0, .ref a_mo), (1, .int p1), (2, .int p2), (3, .long x3), (5, .long x5), (7, .long x7), (9, .int x9)] → W p l e R s m args below meth c H locs 0 0 Q (F0 m 33 ls [.int y0]) := by
    intro moP_r moQ_r moA_r moB_r x3 x5 x7 x9 y0 H locs ls ho hP hD hS hl
    unfold wp_X8_line_33 at ho
    refine lv_istore (lv' := [(10, .int y0), (0, .ref a_mo), (1, .int p1), (2, .int p2), (3, .long x3), (5, .long x5), (7, .long x7), (9, .int x9)]) hx hb dX8_line_33 hl (by decide) rfl (fun ls hl => ?_)
    obtain ⟨n_35, ho⟩ := ho
    exact C_35 n_35 moP_r moQ_r moA_r moB_r x3 x5 x7 x9 y0 H locs ls ho hP hD hS (lv_sub hl [1, 2, 3, 4, 5, 6, 7, 0] rfl)
  suffices main : ∀ (H : Heap) (locs : List Loc), va_P D vwCl [(a_mo, oX8 a_moR mo_e mo_f mo_codes mo_most mo_minus mo_low mo_function mo_atX mo_atM a_moK a_moH a_moS mo_spanFunction mo_spanRounding mo_spanMany a_moF a_moT mo_parts mo_shift a_moP a_moQ a_moA a_moB a_moD), (a_moP, .inl (cI, 256, .inl moP_r)), (a_moQ, .inl (cI, 256, .inl moQ_r)), (a_moA, .inl (cJ, 256, .inr (.inl moA_r))), (a_moB, .inl (cJ, 256, .inr (.inl moB_r))), (a_moD, .inl (cJ, 256, .inr (.inl moD_r)))] H → va_S A s.heap H locs → W p l e R s m args below meth c H locs 0 0 Q (F0 m 0 ls []) from main _ _ hP hS
  intro H locs hP hS
  unfold wp_X8_line at ho
  refine lv_lconst (v := 1) hx hb dX8_line_0 (by decide) ?_
  refine lv_aload_n hx hb dX8_line_1 rfl (lv_at hl 0 rfl) ?_
  refine va_get (D := D) (ci := 7) (v := .int mo_shift) (C := RX8) (T := TX8) (N := 25) hx hb hts inlX8 hown hK hP 0 rfl rfl 19 (by decide) (hts _ wl_707) (fun _ h9 => h9) rfl dX8_line_2 ?_
  refine lv_lshl hx hb dX8_line_5 rfl ?_
  refine lv_lstore_n (lv' := [(3, .long ((1 : Int64) <<< (mo_shift.toInt64 &&& 63))), (0, .ref a_mo), (1, .int p1), (2, .int p2)]) hx hb dX8_line_6 rfl hl (by decide) rfl (fun ls hl => ?_)
  refine lv_ldc2 hx hb hown (hts _ wl_724) dX8_line_7 ?_
  refine lv_lstore (lv' := [(5, .long (-1000000000000 : Int64)), (3, .long ((1 : Int64) <<< (mo_shift.toInt64 &&& 63))), (0, .ref a_mo), (1, .int p1), (2, .int p2)]) hx hb dX8_line_10 hl (by decide) rfl (fun ls hl => ?_)
  refine lv_ldc2 hx hb hown (hts _ wl_725) dX8_line_12 ?_
  refine lv_lstore (lv' := [(7, .long (1000000000000 : Int64)), (5, .long (-1000000000000 : Int64)), (3, .long ((1 : Int64) <<< (mo_shift.toInt64 &&& 63))), (0, .ref a_mo), (1, .int p1), (2, .int p2)]) hx hb dX8_line_15 hl (by decide) rfl (fun ls hl => ?_)
  refine lv_iload_n hx hb dX8_line_17 rfl (lv_at hl 4 rfl) ?_
  refine lv_iconst (v := 1) hx hb dX8_line_18 (by decide) ?_
  refine lv_iadd hx hb dX8_line_19 ?_
  refine lv_istore (lv' := [(9, .int (p1 + (1 : Int32))), (7, .long (1000000000000 : Int64)), (5, .long (-1000000000000 : Int64)), (3, .long ((1 : Int64) <<< (mo_shift.toInt64 &&& 63))), (0, .ref a_mo), (1, .int p1), (2, .int p2)]) hx hb dX8_line_20 hl (by decide) rfl (fun ls hl => ?_)
  refine lv_iload hx hb dX8_line_22 (lv_at hl 0 rfl) ?_
  refine lv_iload_n hx hb dX8_line_24 rfl (lv_at hl 6 rfl) ?_
  refine lv_icmp_ge (tgt := 32) hx hb dX8_line_25 (by decide) (fun c_25 => ?_) (fun c_25 => ?_)
  · replace ho := ho.1 c_25
    refine lv_iconst (v := 0) hx hb dX8_line_32 (by decide) ?_
    exact C_33 moP_r moQ_r moA_r moB_r ((1 : Int64) <<< (mo_shift.toInt64 &&& 63)) (-1000000000000 : Int64) (1000000000000 : Int64) (p1 + (1 : Int32)) (0 : Int32) H locs ls ho hP hD hS (lv_sub hl [4, 5, 6, 3, 2, 1, 0] rfl)
  · replace ho := ho.2 c_25
    refine lv_iconst (v := 1) hx hb dX8_line_28 (by decide) ?_
    refine lv_goto (tgt := 33) hx hb dX8_line_29 (by decide) ?_
    exact C_33 moP_r moQ_r moA_r moB_r ((1 : Int64) <<< (mo_shift.toInt64 &&& 63)) (-1000000000000 : Int64) (1000000000000 : Int64) (p1 + (1 : Int32)) (1 : Int32) H locs ls ho hP hD hS (lv_sub hl [4, 5, 6, 3, 2, 1, 0] rfl)
