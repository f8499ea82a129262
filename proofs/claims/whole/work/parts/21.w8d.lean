def w_X8_isFloat : List Cond := .code yX8_isFloat cX8_isFloat 2 (some .boolean) :: wsL_law
set_option maxHeartbeats 4000000 in
set_option maxRecDepth 100000 in
theorem c_X8_isFloat (l : Launch) (D : va_G) (cI cJ cZ : ClassId) (a_mo : Nat) (a_moR : Nat) (a_moK : Nat) (a_moH : Nat) (a_moS : Nat) (a_moF : Nat) (a_moT : Nat) (a_moP : Nat) (a_moQ : Nat) (a_moA : Nat) (a_moB : Nat) (a_moD : Nat) (mo_e : Int32) (mo_f : Int32) (mo_codes : Int32) (mo_most : Int32) (mo_minus : Int32) (mo_low : Int32) (mo_function : Int32) (mo_atX : Int32) (mo_atM : Int64) (mo_spanFunction : Int32) (mo_spanRounding : Int32) (mo_spanMany : Int32) (mo_parts : Int32) (mo_shift : Int32) (p1 : Int32) (post : Int32 → Prop) (ho : wp_X8_isFloat post mo_f mo_low mo_function mo_atX mo_atM p1) : Met l yX8_isFloat w_X8_isFloat ({ frames := 3, cells := 0, slots := 0, locals := 78 } : Room) (ro_P D [(cI, .int), (cJ, .long), (cZ, .boolean)] [.ref a_mo, .int p1] [(a_mo, oX8 a_moR mo_e mo_f mo_codes mo_most mo_minus mo_low mo_function mo_atX mo_atM a_moK a_moH a_moS mo_spanFunction mo_spanRounding mo_spanMany a_moF a_moT mo_parts mo_shift a_moP a_moQ a_moA a_moB a_moD)]) (vp_Si post) 0 0 (fun _ => False) := by
  refine Met.ofW (cc := cX8_isFloat) (maxL := 2) (ret := (some .boolean)) (by decide) rfl ?_
  intro p e s m args below meth c s₁ B hml hv
  obtain ⟨hargs, hP, hK, hN⟩ := hv
  have hx := B.exec
  have hb := B.bytes
  have hr := B.returns
  have hts : ∀ w ∈ wsL_law, w.before args s = true := fun w h => atoms_spec (ws := w_X8_isFloat) B.pre w (List.mem_cons_of_mem _ h)
  have hown : s.vm.findClass RX8 = some m.cls := findClass_of_methodNamed B.named
  have hlocks := B.notSynchronized
  have hl := lv_entry ([.ref a_mo, .int p1]) (n := 2) (Nat.le_of_ble_eq_true rfl)
  rw [hargs, lg_entry_eq, ← hargs]
  generalize (lg_sl ([.ref a_mo, .int p1]) ++ List.replicate (2 - (lg_sl ([.ref a_mo, .int p1])).length) Slot.unset).toArray = ls at hl ⊢
  replace hl : lv_has ls 2 [(0, .ref a_mo), (1, .int p1)] := hl
  have hRf : ∀ n, n ≤ 3 → n ≤ (headSpec w_X8_isFloat ({ frames := 3, cells := 0, slots := 0, locals := 78 } : Room)).room.frames := fun n h => h
  have hRl : ∀ n, n ≤ 78 → n ≤ (headSpec w_X8_isFloat ({ frames := 3, cells := 0, slots := 0, locals := 78 } : Room)).room.locals := fun n h => h
  generalize (headSpec w_X8_isFloat ({ frames := 3, cells := 0, slots := 0, locals := 78 } : Room)).room = R at hRf hRl ⊢
  generalize hQ : MQ below _ args s 0 0 _ = Q
  unfold wp_X8_isFloat at ho
  refine lv_iload_n hx hb dX8_isFloat_0 rfl (lv_at hl 1 rfl) ?_
  refine lv_if_le (tgt := 26) hx hb dX8_isFloat_1 (by decide) (fun c_1 => ?_) (fun c_1 => ?_)
  · replace ho := ho.1 c_1
    refine lv_iconst (v := 0) hx hb dX8_isFloat_26 (by decide) ?_
    subst hQ; exact W.zret (v := (0 : Int32)) hx hb hr rfl (fun t ht _ => ⟨(0 : Int32), rfl, ho, ht⟩) (fun _ h => by cases h) dX8_isFloat_27
  · replace ho := ho.2 c_1
    refine lv_aload_n hx hb dX8_isFloat_4 rfl (lv_at hl 0 rfl) ?_
    refine lv_aload_n hx hb dX8_isFloat_5 rfl (lv_at hl 0 rfl) ?_
    refine lv_iload_n hx hb dX8_isFloat_6 rfl (lv_at hl 1 rfl) ?_
    refine ca_Vi (b := a_mo) (As := [.int p1]) (rest := [.ref a_mo]) ⟨hx, hb, hml, hown, hts⟩ (c_X8_figure l D cI cJ cZ a_mo a_moR a_moK a_moH a_moS a_moF a_moT a_moP a_moQ a_moA a_moB a_moD mo_e mo_f mo_codes mo_most mo_minus mo_low mo_function mo_atX mo_atM mo_spanFunction mo_spanRounding mo_spanMany mo_parts mo_shift p1 _ ho) (cwV 1 hts (gdV wl_274 wl_275 wl_276 wl_5 wl_277) rfl rfl rfl (by decide +kernel) ⟨hRf _ (Nat.le_of_ble_eq_true rfl), hRl _ (Nat.le_of_ble_eq_true rfl)⟩) hK hN hP [0] rfl 0 7 rfl rfl rfl rfl hl.1 rfl (Nat.le_of_ble_eq_true rfl) dX8_isFloat_7 ⟨Nat.zero_le _, Nat.zero_le _⟩ (fun r7 ho => ?_)
    refine lv_i2l hx hb dX8_isFloat_10 rfl ?_
    refine lv_aload_n hx hb dX8_isFloat_11 rfl (lv_at hl 0 rfl) ?_
    refine lv_iload_n hx hb dX8_isFloat_12 rfl (lv_at hl 1 rfl) ?_
    refine ca_Vi (b := a_mo) (As := [.int p1]) (rest := [.long r7.toInt64, .ref a_mo]) ⟨hx, hb, hml, hown, hts⟩ (c_X8_power l D cI cJ cZ a_mo a_moR a_moK a_moH a_moS a_moF a_moT a_moP a_moQ a_moA a_moB a_moD mo_e mo_f mo_codes mo_most mo_minus mo_low mo_function mo_atX mo_atM mo_spanFunction mo_spanRounding mo_spanMany mo_parts mo_shift p1 _ ho) (cwV 1 hts (gdV wl_278 wl_279 wl_280 wl_5 wl_281) rfl rfl rfl (by decide +kernel) ⟨hRf _ (Nat.le_of_ble_eq_true rfl), hRl _ (Nat.le_of_ble_eq_true rfl)⟩) hK hN hP [0] rfl 0 7 rfl rfl rfl rfl hl.1 rfl (Nat.le_of_ble_eq_true rfl) dX8_isFloat_13 ⟨Nat.zero_le _, Nat.zero_le _⟩ (fun r13 ho => ?_)
    refine ca_Vi (b := a_mo) (As := [.long r7.toInt64, .int r13]) (rest := []) ⟨hx, hb, hml, hown, hts⟩ (c_X8_stands l D cI cJ cZ a_mo a_moR a_moK a_moH a_moS a_moF a_moT a_moP a_moQ a_moA a_moB a_moD mo_e mo_f mo_codes mo_most mo_minus mo_low mo_function mo_atX mo_atM mo_spanFunction mo_spanRounding mo_spanMany mo_parts mo_shift r7.toInt64 r13 _ ho) (cwV 2 hts (gdV wl_378 wl_379 wl_380 wl_5 wl_381) rfl rfl rfl (by decide +kernel) ⟨hRf _ (Nat.le_of_ble_eq_true rfl), hRl _ (Nat.le_of_ble_eq_true rfl)⟩) hK hN hP [0] rfl 0 7 rfl rfl rfl rfl hl.1 rfl (Nat.le_of_ble_eq_true rfl) dX8_isFloat_16 ⟨Nat.zero_le _, Nat.zero_le _⟩ (fun r16 ho => ?_)
    refine lv_if_ne (tgt := 26) hx hb dX8_isFloat_19 (by decide) (fun c_19 => ?_) (fun c_19 => ?_)
    · replace ho := ho.1 c_19
      refine lv_iconst (v := 0) hx hb dX8_isFloat_26 (by decide) ?_
      subst hQ; exact W.zret (v := (0 : Int32)) hx hb hr rfl (fun t ht _ => ⟨(0 : Int32), rfl, ho, ht⟩) (fun _ h => by cases h) dX8_isFloat_27
    · replace ho := ho.2 c_19
      refine lv_iconst (v := 1) hx hb dX8_isFloat_22 (by decide) ?_
      refine lv_goto (tgt := 27) hx hb dX8_isFloat_23 (by decide) ?_
      subst hQ; exact W.zret (v := (1 : Int32)) hx hb hr rfl (fun t ht _ => ⟨(1 : Int32), rfl, ho, ht⟩) (fun _ h => by cases h) dX8_isFloat_27

def w_X8_middle : List Cond := .code yX8_middle cX8_middle 2 (some .int) :: wsL_law
set_option maxHeartbeats 4000000 in
set_option maxRecDepth 100000 in
theorem c_X8_middle (l : Launch) (D : va_G) (cI cJ cZ : ClassId) (a_mo : Nat) (a_moR : Nat) (a_moK : Nat) (a_moH : Nat) (a_moS : Nat) (a_moF : Nat) (a_moT : Nat) (a_moP : Nat) (a_moQ : Nat) (a_moA : Nat) (a_moB : Nat) (a_moD : Nat) (mo_e : Int32) (mo_f : Int32) (mo_codes : Int32) (mo_most : Int32) (mo_minus : Int32) (mo_low : Int32) (mo_function : Int32) (mo_atX : Int32) (mo_atM : Int64) (mo_spanFunction : Int32) (mo_spanRounding : Int32) (mo_spanMany : Int32) (mo_parts : Int32) (mo_shift : Int32) (p1 : Int32) (post : Int32 → Prop) (ho : wp_X8_middle post mo_f mo_low mo_function mo_atX mo_atM p1) : Met l yX8_middle w_X8_middle ({ frames := 3, cells := 0, slots := 0, locals := 78 } : Room) (ro_P D [(cI, .int), (cJ, .long), (cZ, .boolean)] [.ref a_mo, .int p1] [(a_mo, oX8 a_moR mo_e mo_f mo_codes mo_most mo_minus mo_low mo_function mo_atX mo_atM a_moK a_moH a_moS mo_spanFunction mo_spanRounding mo_spanMany a_moF a_moT mo_parts mo_shift a_moP a_moQ a_moA a_moB a_moD)]) (vp_Si post) 0 0 (fun _ => False) := by
  refine Met.ofW (cc := cX8_middle) (maxL := 2) (ret := (some .int)) (by decide) rfl ?_
  intro p e s m args below meth c s₁ B hml hv
  obtain ⟨hargs, hP, hK, hN⟩ := hv
  have hx := B.exec
  have hb := B.bytes
  have hr := B.returns
  have hts : ∀ w ∈ wsL_law, w.before args s = true := fun w h => atoms_spec (ws := w_X8_middle) B.pre w (List.mem_cons_of_mem _ h)
  have hown : s.vm.findClass RX8 = some m.cls := findClass_of_methodNamed B.named
  have hlocks := B.notSynchronized
  have hl := lv_entry ([.ref a_mo, .int p1]) (n := 2) (Nat.le_of_ble_eq_true rfl)
  rw [hargs, lg_entry_eq, ← hargs]
  generalize (lg_sl ([.ref a_mo, .int p1]) ++ List.replicate (2 - (lg_sl ([.ref a_mo, .int p1])).length) Slot.unset).toArray = ls at hl ⊢
  replace hl : lv_has ls 2 [(0, .ref a_mo), (1, .int p1)] := hl
  have hRf : ∀ n, n ≤ 3 → n ≤ (headSpec w_X8_middle ({ frames := 3, cells := 0, slots := 0, locals := 78 } : Room)).room.frames := fun n h => h
  have hRl : ∀ n, n ≤ 78 → n ≤ (headSpec w_X8_middle ({ frames := 3, cells := 0, slots := 0, locals := 78 } : Room)).room.locals := fun n h => h
  generalize (headSpec w_X8_middle ({ frames := 3, cells := 0, slots := 0, locals := 78 } : Room)).room = R at hRf hRl ⊢
  generalize hQ : MQ below _ args s 0 0 _ = Q
  unfold wp_X8_middle at ho
  refine lv_aload_n hx hb dX8_middle_0 rfl (lv_at hl 0 rfl) ?_
  refine lv_ldc2 hx hb hown (hts _ wl_396) dX8_middle_1 ?_
  refine lv_aload_n hx hb dX8_middle_4 rfl (lv_at hl 0 rfl) ?_
  refine lv_iload_n hx hb dX8_middle_5 rfl (lv_at hl 1 rfl) ?_
  refine ca_Vi (b := a_mo) (As := [.int p1]) (rest := [.long (2 : Int64), .ref a_mo]) ⟨hx, hb, hml, hown, hts⟩ (c_X8_figure l D cI cJ cZ a_mo a_moR a_moK a_moH a_moS a_moF a_moT a_moP a_moQ a_moA a_moB a_moD mo_e mo_f mo_codes mo_most mo_minus mo_low mo_function mo_atX mo_atM mo_spanFunction mo_spanRounding mo_spanMany mo_parts mo_shift p1 _ ho) (cwV 1 hts (gdV wl_274 wl_275 wl_276 wl_5 wl_277) rfl rfl rfl (by decide +kernel) ⟨hRf _ (Nat.le_of_ble_eq_true rfl), hRl _ (Nat.le_of_ble_eq_true rfl)⟩) hK hN hP [0] rfl 0 7 rfl rfl rfl rfl hl.1 rfl (Nat.le_of_ble_eq_true rfl) dX8_middle_6 ⟨Nat.zero_le _, Nat.zero_le _⟩ (fun r6 ho => ?_)
  refine lv_i2l hx hb dX8_middle_9 rfl ?_
  refine lv_lmul hx hb dX8_middle_10 ?_
  refine lv_lconst (v := 1) hx hb dX8_middle_11 (by decide) ?_
  refine lv_ladd hx hb dX8_middle_12 ?_
  refine lv_aload_n hx hb dX8_middle_13 rfl (lv_at hl 0 rfl) ?_
  refine lv_iload_n hx hb dX8_middle_14 rfl (lv_at hl 1 rfl) ?_
  refine ca_Vi (b := a_mo) (As := [.int p1]) (rest := [.long (((2 : Int64) * r6.toInt64) + (1 : Int64)), .ref a_mo]) ⟨hx, hb, hml, hown, hts⟩ (c_X8_power l D cI cJ cZ a_mo a_moR a_moK a_moH a_moS a_moF a_moT a_moP a_moQ a_moA a_moB a_moD mo_e mo_f mo_codes mo_most mo_minus mo_low mo_function mo_atX mo_atM mo_spanFunction mo_spanRounding mo_spanMany mo_parts mo_shift p1 _ ho) (cwV 1 hts (gdV wl_278 wl_279 wl_280 wl_5 wl_281) rfl rfl rfl (by decide +kernel) ⟨hRf _ (Nat.le_of_ble_eq_true rfl), hRl _ (Nat.le_of_ble_eq_true rfl)⟩) hK hN hP [0] rfl 0 7 rfl rfl rfl rfl hl.1 rfl (Nat.le_of_ble_eq_true rfl) dX8_middle_15 ⟨Nat.zero_le _, Nat.zero_le _⟩ (fun r15 ho => ?_)
  refine lv_iconst (v := 1) hx hb dX8_middle_18 (by decide) ?_
  refine lv_isub hx hb dX8_middle_19 ?_
  refine ca_Vi (b := a_mo) (As := [.long (((2 : Int64) * r6.toInt64) + (1 : Int64)), .int (r15 - (1 : Int32))]) (rest := []) ⟨hx, hb, hml, hown, hts⟩ (c_X8_stands l D cI cJ cZ a_mo a_moR a_moK a_moH a_moS a_moF a_moT a_moP a_moQ a_moA a_moB a_moD mo_e mo_f mo_codes mo_most mo_minus mo_low mo_function mo_atX mo_atM mo_spanFunction mo_spanRounding mo_spanMany mo_parts mo_shift (((2 : Int64) * r6.toInt64) + (1 : Int64)) (r15 - (1 : Int32)) _ ho) (cwV 2 hts (gdV wl_378 wl_379 wl_380 wl_5 wl_381) rfl rfl rfl (by decide +kernel) ⟨hRf _ (Nat.le_of_ble_eq_true rfl), hRl _ (Nat.le_of_ble_eq_true rfl)⟩) hK hN hP [0] rfl 0 7 rfl rfl rfl rfl hl.1 rfl (Nat.le_of_ble_eq_true rfl) dX8_middle_20 ⟨Nat.zero_le _, Nat.zero_le _⟩ (fun r20 ho => ?_)
  subst hQ; exact W.iret (v := r20) hx hb hr (fun t ht _ => ⟨r20, rfl, ho, ht⟩) (fun _ h => by cases h) dX8_middle_23

def w_X8_rounded : List Cond := .code yX8_rounded cX8_rounded 7 (some .int) :: wsL_law
set_option maxHeartbeats 4000000 in
set_option maxRecDepth 100000 in
theorem c_X8_rounded (l : Launch) (D : va_G) (cI cJ cZ : ClassId) (a_mo : Nat) (a_moR : Nat) (a_moK : Nat) (a_moH : Nat) (a_moS : Nat) (a_moF : Nat) (a_moT : Nat) (a_moP : Nat) (a_moQ : Nat) (a_moA : Nat) (a_moB : Nat) (a_moD : Nat) (mo_e : Int32) (mo_f : Int32) (mo_codes : Int32) (mo_most : Int32) (mo_minus : Int32) (mo_low : Int32) (mo_function : Int32) (mo_atX : Int32) (mo_atM : Int64) (mo_spanFunction : Int32) (mo_spanRounding : Int32) (mo_spanMany : Int32) (mo_parts : Int32) (mo_shift : Int32) (p1 : Int32) (p2 : Int32) (post : Int32 → Prop) (ho : wp_X8_rounded post mo_f mo_most mo_minus mo_low mo_function mo_atX mo_atM p1 p2) : Met l yX8_rounded w_X8_rounded ({ frames := 4, cells := 0, slots := 0, locals := 101 } : Room) (ro_P D [(cI, .int), (cJ, .long), (cZ, .boolean)] [.ref a_mo, .int p1, .int p2] [(a_mo, oX8 a_moR mo_e mo_f mo_codes mo_most mo_minus mo_low mo_function mo_atX mo_atM a_moK a_moH a_moS mo_spanFunction mo_spanRounding mo_spanMany a_moF a_moT mo_parts mo_shift a_moP a_moQ a_moA a_moB a_moD)]) (vp_Si post) 0 0 (fun _ => False) := by
  refine Met.ofW (cc := cX8_rounded) (maxL := 7) (ret := (some .int)) (by decide) rfl ?_
  intro p e s m args below meth c s₁ B hml hv
  obtain ⟨hargs, hP, hK, hN⟩ := hv
  have hx := B.exec
  have hb := B.bytes
  have hr := B.returns
  have hts : ∀ w ∈ wsL_law, w.before args s = true := fun w h => atoms_spec (ws := w_X8_rounded) B.pre w (List.mem_cons_of_mem _ h)
  have hown : s.vm.findClass RX8 = some m.cls := findClass_of_methodNamed B.named
  have hlocks := B.notSynchronized
  have hl := lv_entry ([.ref a_mo, .int p1, .int p2]) (n := 7) (Nat.le_of_ble_eq_true rfl)
  rw [hargs, lg_entry_eq, ← hargs]
  generalize (lg_sl ([.ref a_mo, .int p1, .int p2]) ++ List.replicate (7 - (lg_sl ([.ref a_mo, .int p1, .int p2])).length) Slot.unset).toArray = ls at hl ⊢
  replace hl : lv_has ls 7 [(0, .ref a_mo), (1, .int p1), (2, .int p2)] := hl
  have hRf : ∀ n, n ≤ 4 → n ≤ (headSpec w_X8_rounded ({ frames := 4, cells := 0, slots := 0, locals := 101 } : Room)).room.frames := fun n h => h
  have hRl : ∀ n, n ≤ 101 → n ≤ (headSpec w_X8_rounded ({ frames := 4, cells := 0, slots := 0, locals := 101 } : Room)).room.locals := fun n h => h
  generalize (headSpec w_X8_rounded ({ frames := 4, cells := 0, slots := 0, locals := 101 } : Room)).room = R at hRf hRl ⊢
  generalize hQ : MQ below _ args s 0 0 _ = Q
  have C_118 : ∀ (x3 : Int32) (y0 : Int32) (ls : Array Slot), wp_X8_rounded_118 post  x3 y0 → lv_has ls 7 [(3, .int x3)] → W p l e R s m args below meth c s.heap [] 0 0 Q (F0 m 118 ls [.int y0]) := by
    intro x3 y0 ls ho hl
    unfold wp_X8_rounded_118 at ho
    refine lv_iload_n hx hb dX8_rounded_118 rfl (lv_at hl 0 rfl) ?_
    refine lv_iconst (v := 1) hx hb dX8_rounded_119 (by decide) ?_
    refine lv_iadd hx hb dX8_rounded_120 ?_
    refine lv_goto (tgt := 125) hx hb dX8_rounded_121 (by decide) ?_
    refine lv_iadd hx hb dX8_rounded_125 ?_
    subst hQ; exact W.iret (v := (y0 + (x3 + (1 : Int32)))) hx hb hr (fun t ht _ => ⟨(y0 + (x3 + (1 : Int32))), rfl, ho, ht⟩) (fun _ h => by cases h) dX8_rounded_126
  have C_53 : ∀ (x3 : Int32) (x4 : Int32) (y0 : Int32) (ls : Array Slot), wp_X8_rounded_53 post  mo_f mo_most mo_low mo_function mo_atX mo_atM x3 x4 y0 → lv_has ls 7 [(0, .ref a_mo), (3, .int x3), (4, .int x4)] → W p l e R s m args below meth c s.heap [] 0 0 Q (F0 m 53 ls [.int y0]) := by
    intro x3 x4 y0 ls ho hl
    unfold wp_X8_rounded_53 at ho
    refine lv_istore (lv' := [(5, .int y0), (0, .ref a_mo), (3, .int x3), (4, .int x4)]) hx hb dX8_rounded_53 hl (by decide) rfl (fun ls hl => ?_)
    refine lv_iload hx hb dX8_rounded_55 (lv_at hl 0 rfl) ?_
    refine lv_topi (fun z_57 ez_57 => ?_)
    by_cases n_57_0 : z_57 = 0
    · replace ho := ho.1 (ez_57.symm.trans n_57_0)
      subst n_57_0
      refine lv_tableIn (tgt := 92) hx hb dX8_rounded_57 (by decide) (by decide) rfl (by decide) ?_
      refine lv_aload_n hx hb dX8_rounded_92 rfl (lv_at hl 1 rfl) ?_
      refine lv_iload_n hx hb dX8_rounded_93 rfl (lv_at hl 2 rfl) ?_
      refine ca_Vi (b := a_mo) (As := [.int x3]) (rest := []) ⟨hx, hb, hml, hown, hts⟩ (c_X8_middle l D cI cJ cZ a_mo a_moR a_moK a_moH a_moS a_moF a_moT a_moP a_moQ a_moA a_moB a_moD mo_e mo_f mo_codes mo_most mo_minus mo_low mo_function mo_atX mo_atM mo_spanFunction mo_spanRounding mo_spanMany mo_parts mo_shift x3 _ ho) (cwV 1 hts (gdV wl_392 wl_393 wl_394 wl_5 wl_395) rfl rfl rfl (by decide +kernel) ⟨hRf _ (Nat.le_of_ble_eq_true rfl), hRl _ (Nat.le_of_ble_eq_true rfl)⟩) hK hN hP [0] rfl 0 7 rfl rfl rfl rfl hl.1 rfl (Nat.le_of_ble_eq_true rfl) dX8_rounded_94 ⟨Nat.zero_le _, Nat.zero_le _⟩ (fun r94 ho => ?_)
      refine lv_istore (lv' := [(6, .int r94), (5, .int y0), (0, .ref a_mo), (3, .int x3), (4, .int x4)]) hx hb dX8_rounded_97 hl (by decide) rfl (fun ls hl => ?_)
      refine lv_iload hx hb dX8_rounded_99 (lv_at hl 4 rfl) ?_
      refine lv_iload hx hb dX8_rounded_101 (lv_at hl 0 rfl) ?_
      refine lv_if_gt (tgt := 118) hx hb dX8_rounded_103 (by decide) (fun c_103 => ?_) (fun c_103 => ?_)
      · replace ho := ho.1 c_103
        exact C_118 x3 x4 ls ho (lv_sub hl [3] rfl)
      · replace ho := ho.2 c_103
        refine lv_iload hx hb dX8_rounded_106 (lv_at hl 0 rfl) ?_
        refine lv_if_ne (tgt := 124) hx hb dX8_rounded_108 (by decide) (fun c_108 => ?_) (fun c_108 => ?_)
        · replace ho := ho.1 c_108
          refine lv_iload_n hx hb dX8_rounded_124 rfl (lv_at hl 3 rfl) ?_
          refine lv_iadd hx hb dX8_rounded_125 ?_
          subst hQ; exact W.iret (v := (x4 + x3)) hx hb hr (fun t ht _ => ⟨(x4 + x3), rfl, ho, ht⟩) (fun _ h => by cases h) dX8_rounded_126
        · replace ho := ho.2 c_108
          refine lv_iload_n hx hb dX8_rounded_111 rfl (lv_at hl 3 rfl) ?_
          refine lv_iconst (v := 2) hx hb dX8_rounded_112 (by decide) ?_
          refine lv_irem hx hb dX8_rounded_113 (by decide) ?_
          refine lv_iconst (v := 1) hx hb dX8_rounded_114 (by decide) ?_
          refine lv_icmp_ne (tgt := 124) hx hb dX8_rounded_115 (by decide) (fun c_115 => ?_) (fun c_115 => ?_)
          · replace ho := ho.1 c_115
            refine lv_iload_n hx hb dX8_rounded_124 rfl (lv_at hl 3 rfl) ?_
            refine lv_iadd hx hb dX8_rounded_125 ?_
            subst hQ; exact W.iret (v := (x4 + x3)) hx hb hr (fun t ht _ => ⟨(x4 + x3), rfl, ho, ht⟩) (fun _ h => by cases h) dX8_rounded_126
          · replace ho := ho.2 c_115
            exact C_118 x3 x4 ls ho (lv_sub hl [3] rfl)
    replace ho := ho.2 (fun h => n_57_0 (ez_57.trans h))
    by_cases n_57_2 : z_57 = 2
    · replace ho := ho.1 (ez_57.symm.trans n_57_2)
      subst n_57_2
      refine lv_tableIn (tgt := 127) hx hb dX8_rounded_57 (by decide) (by decide) rfl (by decide) ?_
      refine lv_iload hx hb dX8_rounded_127 (lv_at hl 3 rfl) ?_
      refine lv_iload_n hx hb dX8_rounded_129 rfl (lv_at hl 2 rfl) ?_
      refine lv_iadd hx hb dX8_rounded_130 ?_
      refine lv_iconst (v := 1) hx hb dX8_rounded_131 (by decide) ?_
      refine lv_iadd hx hb dX8_rounded_132 ?_
      subst hQ; exact W.iret (v := ((x4 + x3) + (1 : Int32))) hx hb hr (fun t ht _ => ⟨((x4 + x3) + (1 : Int32)), rfl, ho, ht⟩) (fun _ h => by cases h) dX8_rounded_133
    replace ho := ho.2 (fun h => n_57_2 (ez_57.trans h))
    by_cases n_57_4 : z_57 = 4
    · replace ho := ho.1 (ez_57.symm.trans n_57_4)
      subst n_57_4
      refine lv_tableIn (tgt := 134) hx hb dX8_rounded_57 (by decide) (by decide) rfl (by decide) ?_
      refine lv_iload hx hb dX8_rounded_134 (lv_at hl 3 rfl) ?_
      refine lv_iload_n hx hb dX8_rounded_136 rfl (lv_at hl 2 rfl) ?_
      refine lv_iconst (v := 2) hx hb dX8_rounded_137 (by decide) ?_
      refine lv_irem hx hb dX8_rounded_138 (by decide) ?_
      refine lv_iconst (v := 1) hx hb dX8_rounded_139 (by decide) ?_
      refine lv_icmp_ne (tgt := 147) hx hb dX8_rounded_140 (by decide) (fun c_140 => ?_) (fun c_140 => ?_)
      · replace ho := ho.1 c_140
        refine lv_iload_n hx hb dX8_rounded_147 rfl (lv_at hl 2 rfl) ?_
        refine lv_aload_n hx hb dX8_rounded_148 rfl (lv_at hl 1 rfl) ?_
        refine va_get (D := D) (ci := 7) (v := .int mo_most) (C := RX8) (T := TX8) (N := 25) hx hb hts inlX8 hown hK hP 0 rfl rfl 4 (by decide) (hts _ wl_120) (fun _ h9 => h9) rfl dX8_rounded_149 ?_
        refine lv_icmp_ne (tgt := 159) hx hb dX8_rounded_152 (by decide) (fun c_152 => ?_) (fun c_152 => ?_)
        · replace ho := ho.1 c_152
          refine lv_iload_n hx hb dX8_rounded_159 rfl (lv_at hl 2 rfl) ?_
          refine lv_iconst (v := 1) hx hb dX8_rounded_160 (by decide) ?_
          refine lv_iadd hx hb dX8_rounded_161 ?_
          refine lv_iadd hx hb dX8_rounded_162 ?_
          subst hQ; exact W.iret (v := (x4 + (x3 + (1 : Int32)))) hx hb hr (fun t ht _ => ⟨(x4 + (x3 + (1 : Int32))), rfl, ho, ht⟩) (fun _ h => by cases h) dX8_rounded_163
        · replace ho := ho.2 c_152
          refine lv_iload_n hx hb dX8_rounded_155 rfl (lv_at hl 2 rfl) ?_
          refine lv_goto (tgt := 162) hx hb dX8_rounded_156 (by decide) ?_
          refine lv_iadd hx hb dX8_rounded_162 ?_
          subst hQ; exact W.iret (v := (x4 + x3)) hx hb hr (fun t ht _ => ⟨(x4 + x3), rfl, ho, ht⟩) (fun _ h => by cases h) dX8_rounded_163
      · replace ho := ho.2 c_140
        refine lv_iload_n hx hb dX8_rounded_143 rfl (lv_at hl 2 rfl) ?_
        refine lv_goto (tgt := 162) hx hb dX8_rounded_144 (by decide) ?_
        refine lv_iadd hx hb dX8_rounded_162 ?_
        subst hQ; exact W.iret (v := (x4 + x3)) hx hb hr (fun t ht _ => ⟨(x4 + x3), rfl, ho, ht⟩) (fun _ h => by cases h) dX8_rounded_163
    replace ho := ho.2 (fun h => n_57_4 (ez_57.trans h))
    by_cases n_57_1 : z_57 = 1
    · subst n_57_1
      refine lv_tableIn (tgt := 164) hx hb dX8_rounded_57 (by decide) (by decide) rfl (by decide) ?_
      refine lv_iload hx hb dX8_rounded_164 (lv_at hl 3 rfl) ?_
      refine lv_iload_n hx hb dX8_rounded_166 rfl (lv_at hl 2 rfl) ?_
      refine lv_iadd hx hb dX8_rounded_167 ?_
      subst hQ; exact W.iret (v := (x4 + x3)) hx hb hr (fun t ht _ => ⟨(x4 + x3), rfl, ho, ht⟩) (fun _ h => by cases h) dX8_rounded_168
    by_cases n_57_3 : z_57 = 3
    · subst n_57_3
      refine lv_tableIn (tgt := 164) hx hb dX8_rounded_57 (by decide) (by decide) rfl (by decide) ?_
      refine lv_iload hx hb dX8_rounded_164 (lv_at hl 3 rfl) ?_
      refine lv_iload_n hx hb dX8_rounded_166 rfl (lv_at hl 2 rfl) ?_
      refine lv_iadd hx hb dX8_rounded_167 ?_
      subst hQ; exact W.iret (v := (x4 + x3)) hx hb hr (fun t ht _ => ⟨(x4 + x3), rfl, ho, ht⟩) (fun _ h => by cases h) dX8_rounded_168
    refine lv_tableOut (tgt := 164) hx hb dX8_rounded_57 (by have q_57_0 := lv_neT (a := 0) n_57_0 rfl; have q_57_1 := lv_neT (a := 1) n_57_1 rfl; have q_57_2 := lv_neT (a := 2) n_57_2 rfl; have q_57_3 := lv_neT (a := 3) n_57_3 rfl; have q_57_4 := lv_neT (a := 4) n_57_4 rfl; omega) (by decide) ?_
    refine lv_iload hx hb dX8_rounded_164 (lv_at hl 3 rfl) ?_
    refine lv_iload_n hx hb dX8_rounded_166 rfl (lv_at hl 2 rfl) ?_
    refine lv_iadd hx hb dX8_rounded_167 ?_
    subst hQ; exact W.iret (v := (x4 + x3)) hx hb hr (fun t ht _ => ⟨(x4 + x3), rfl, ho, ht⟩) (fun _ h => by cases h) dX8_rounded_168
  have C_52 : ∀ (x3 : Int32) (x4 : Int32) (ls : Array Slot), wp_X8_rounded_52 post  mo_f mo_most mo_low mo_function mo_atX mo_atM p1 x3 x4 → lv_has ls 7 [(0, .ref a_mo), (1, .int p1), (3, .int x3), (4, .int x4)] → W p l e R s m args below meth c s.heap [] 0 0 Q (F0 m 52 ls []) := by
    intro x3 x4 ls ho hl
    unfold wp_X8_rounded_52 at ho
    refine lv_iload_n hx hb dX8_rounded_52 rfl (lv_at hl 1 rfl) ?_
    exact C_53 x3 x4 p1 ls ho (lv_sub hl [0, 2, 3] rfl)
  have C_17 : ∀ (x3 : Int32) (y0 : Int32) (ls : Array Slot), wp_X8_rounded_17 post  mo_f mo_most mo_low mo_function mo_atX mo_atM p1 p2 x3 y0 → lv_has ls 7 [(0, .ref a_mo), (1, .int p1), (2, .int p2), (3, .int x3)] → W p l e R s m args below meth c s.heap [] 0 0 Q (F0 m 17 ls [.int y0]) := by
    intro x3 y0 ls ho hl
    unfold wp_X8_rounded_17 at ho
    refine lv_istore (lv' := [(4, .int y0), (0, .ref a_mo), (1, .int p1), (2, .int p2), (3, .int x3)]) hx hb dX8_rounded_17 hl (by decide) rfl (fun ls hl => ?_)
    refine lv_aload_n hx hb dX8_rounded_19 rfl (lv_at hl 1 rfl) ?_
    refine lv_iload_n hx hb dX8_rounded_20 rfl (lv_at hl 4 rfl) ?_
    refine ca_Vi (b := a_mo) (As := [.int x3]) (rest := []) ⟨hx, hb, hml, hown, hts⟩ (c_X8_isFloat l D cI cJ cZ a_mo a_moR a_moK a_moH a_moS a_moF a_moT a_moP a_moQ a_moA a_moB a_moD mo_e mo_f mo_codes mo_most mo_minus mo_low mo_function mo_atX mo_atM mo_spanFunction mo_spanRounding mo_spanMany mo_parts mo_shift x3 _ ho) (cwV 1 hts (gdV wl_388 wl_389 wl_390 wl_5 wl_391) rfl rfl rfl (by decide +kernel) ⟨hRf _ (Nat.le_of_ble_eq_true rfl), hRl _ (Nat.le_of_ble_eq_true rfl)⟩) hK hN hP [0] rfl 0 7 rfl rfl rfl rfl hl.1 rfl (Nat.le_of_ble_eq_true rfl) dX8_rounded_21 ⟨Nat.zero_le _, Nat.zero_le _⟩ (fun r21 ho => ?_)
    refine lv_if_eq (tgt := 32) hx hb dX8_rounded_24 (by decide) (fun c_24 => ?_) (fun c_24 => ?_)
    · replace ho := ho.1 c_24
      refine lv_iload_n hx hb dX8_rounded_32 rfl (lv_at hl 3 rfl) ?_
      refine lv_if_eq (tgt := 52) hx hb dX8_rounded_33 (by decide) (fun c_33 => ?_) (fun c_33 => ?_)
      · replace ho := ho.1 c_33
        exact C_52 x3 y0 ls ho (lv_sub hl [1, 2, 4, 0] rfl)
      · replace ho := ho.2 c_33
        refine lv_iload_n hx hb dX8_rounded_36 rfl (lv_at hl 2 rfl) ?_
        refine lv_iconst (v := 1) hx hb dX8_rounded_37 (by decide) ?_
        refine lv_icmp_le (tgt := 52) hx hb dX8_rounded_38 (by decide) (fun c_38 => ?_) (fun c_38 => ?_)
        · replace ho := ho.1 c_38
          exact C_52 x3 y0 ls ho (lv_sub hl [1, 2, 4, 0] rfl)
        · replace ho := ho.2 c_38
          refine lv_iload_n hx hb dX8_rounded_41 rfl (lv_at hl 2 rfl) ?_
          refine lv_iconst (v := 4) hx hb dX8_rounded_42 (by decide) ?_
          refine lv_icmp_ge (tgt := 52) hx hb dX8_rounded_43 (by decide) (fun c_43 => ?_) (fun c_43 => ?_)
          · replace ho := ho.1 c_43
            exact C_52 x3 y0 ls ho (lv_sub hl [1, 2, 4, 0] rfl)
          · replace ho := ho.2 c_43
            refine lv_iconst (v := 5) hx hb dX8_rounded_46 (by decide) ?_
            refine lv_iload_n hx hb dX8_rounded_47 rfl (lv_at hl 2 rfl) ?_
            refine lv_isub hx hb dX8_rounded_48 ?_
            refine lv_goto (tgt := 53) hx hb dX8_rounded_49 (by decide) ?_
            exact C_53 x3 y0 ((5 : Int32) - p1) ls ho (lv_sub hl [1, 4, 0] rfl)
    · replace ho := ho.2 c_24
      refine lv_iload hx hb dX8_rounded_27 (lv_at hl 0 rfl) ?_
      refine lv_iload_n hx hb dX8_rounded_29 rfl (lv_at hl 4 rfl) ?_
      refine lv_iadd hx hb dX8_rounded_30 ?_
      subst hQ; exact W.iret (v := (y0 + x3)) hx hb hr (fun t ht _ => ⟨(y0 + x3), rfl, ho, ht⟩) (fun _ h => by cases h) dX8_rounded_31
  unfold wp_X8_rounded at ho
  refine lv_aload_n hx hb dX8_rounded_0 rfl (lv_at hl 0 rfl) ?_
  refine ca_Vi (b := a_mo) (As := []) (rest := []) ⟨hx, hb, hml, hown, hts⟩ (c_X8_floor l D cI cJ cZ a_mo a_moR a_moK a_moH a_moS a_moF a_moT a_moP a_moQ a_moA a_moB a_moD mo_e mo_f mo_codes mo_most mo_minus mo_low mo_function mo_atX mo_atM mo_spanFunction mo_spanRounding mo_spanMany mo_parts mo_shift  _ ho) (cwV 0 hts (gdV wl_374 wl_375 wl_376 wl_5 wl_377) rfl rfl rfl (by decide +kernel) ⟨hRf _ (Nat.le_of_ble_eq_true rfl), hRl _ (Nat.le_of_ble_eq_true rfl)⟩) hK hN hP [0] rfl 0 7 rfl rfl rfl rfl hl.1 rfl (Nat.le_of_ble_eq_true rfl) dX8_rounded_1 ⟨Nat.zero_le _, Nat.zero_le _⟩ (fun r1 ho => ?_)
  refine lv_istore_n (lv' := [(3, .int r1), (0, .ref a_mo), (1, .int p1), (2, .int p2)]) hx hb dX8_rounded_4 rfl hl (by decide) rfl (fun ls hl => ?_)
  refine lv_iload_n hx hb dX8_rounded_5 rfl (lv_at hl 3 rfl) ?_
  refine lv_if_eq (tgt := 16) hx hb dX8_rounded_6 (by decide) (fun c_6 => ?_) (fun c_6 => ?_)
  · replace ho := ho.1 c_6
    refine lv_iconst (v := 0) hx hb dX8_rounded_16 (by decide) ?_
    exact C_17 r1 (0 : Int32) ls ho (lv_sub hl [1, 2, 3, 0] rfl)
  · replace ho := ho.2 c_6
    refine lv_aload_n hx hb dX8_rounded_9 rfl (lv_at hl 1 rfl) ?_
    refine va_get (D := D) (ci := 7) (v := .int mo_minus) (C := RX8) (T := TX8) (N := 25) hx hb hts inlX8 hown hK hP 0 rfl rfl 5 (by decide) (hts _ wl_119) (fun _ h9 => h9) rfl dX8_rounded_10 ?_
    refine lv_goto (tgt := 17) hx hb dX8_rounded_13 (by decide) ?_
    exact C_17 r1 mo_minus ls ho (lv_sub hl [1, 2, 3, 0] rfl)

def w_X8_round : List Cond := .code yX8_round cX8_round 4 (some .int) :: wsL_law
set_option maxHeartbeats 4000000 in
set_option maxRecDepth 100000 in
theorem c_X8_round (l : Launch) (D : va_G) (cI cJ cZ : ClassId) (a_mo : Nat) (a_moR : Nat) (a_moK : Nat) (a_moH : Nat) (a_moS : Nat) (a_moF : Nat) (a_moT : Nat) (a_moP : Nat) (a_moQ : Nat) (a_moA : Nat) (a_moB : Nat) (a_moD : Nat) (sz : Nat) (mo_e : Int32) (mo_f : Int32) (mo_codes : Int32) (mo_most : Int32) (mo_minus : Int32) (mo_low : Int32) (mo_function : Int32) (mo_atX : Int32) (mo_atM : Int64) (mo_spanFunction : Int32) (mo_spanRounding : Int32) (mo_spanMany : Int32) (mo_parts : Int32) (mo_shift : Int32) (moR_r : Nat → Int32) (p1 : Int32) (p2 : Int32) (p3 : Int32) (post : Int32 → Int32 → Int32 → Int64 → (Nat → Int32) → Prop) (A : Nat → Prop) (hAe : A = va_A [(a_mo, oX8 a_moR mo_e mo_f mo_codes mo_most mo_minus mo_low mo_function mo_atX mo_atM a_moK a_moH a_moS mo_spanFunction mo_spanRounding mo_spanMany a_moF a_moT mo_parts mo_shift a_moP a_moQ a_moA a_moB a_moD), (a_moR, .inl (cI, 7, .inl moR_r))] sz) (ho : wp_X8_round post mo_f mo_most mo_minus mo_low mo_function mo_atX mo_atM moR_r p1 p2 p3) : Met l yX8_round w_X8_round ({ frames := 5, cells := 0, slots := 0, locals := 127 } : Room) (rw_P D [(cI, .int), (cJ, .long), (cZ, .boolean)] [.ref a_mo, .int p1, .int p2, .int p3] sz [(a_mo, oX8 a_moR mo_e mo_f mo_codes mo_most mo_minus mo_low mo_function mo_atX mo_atM a_moK a_moH a_moS mo_spanFunction mo_spanRounding mo_spanMany a_moF a_moT mo_parts mo_shift a_moP a_moQ a_moA a_moB a_moD), (a_moR, .inl (cI, 7, .inl moR_r))]) (va_Qi (fun (r : Int32) (u : (Int32) × (Int32) × (Int64) × (Nat → Int32)) => post r u.1 u.2.1 u.2.2.1 u.2.2.2) (rw_B D A (fun (u : (Int32) × (Int32) × (Int64) × (Nat → Int32)) => [(a_mo, oX8 a_moR mo_e mo_f mo_codes mo_most mo_minus mo_low u.1 u.2.1 u.2.2.1 a_moK a_moH a_moS mo_spanFunction mo_spanRounding mo_spanMany a_moF a_moT mo_parts mo_shift a_moP a_moQ a_moA a_moB a_moD), (a_moR, .inl (cI, 7, .inl u.2.2.2))])) A) 0 0 A := by
  refine Met.ofW (cc := cX8_round) (maxL := 4) (ret := (some .int)) (by decide) rfl ?_
  intro p e s m args below meth c s₁ B hml hv
  obtain ⟨hargs, hsz, hP, hK, hN, hD0⟩ := hv
  have hx := B.exec
  have hb := B.bytes
  have hr := B.returns
  have hts : ∀ w ∈ wsL_law, w.before args s = true := fun w h => atoms_spec (ws := w_X8_round) B.pre w (List.mem_cons_of_mem _ h)
  have hown : s.vm.findClass RX8 = some m.cls := findClass_of_methodNamed B.named
  have hlocks := B.notSynchronized
  subst hsz
  have hD : va_D A [(a_mo, oX8 a_moR mo_e mo_f mo_codes mo_most mo_minus mo_low mo_function mo_atX mo_atM a_moK a_moH a_moS mo_spanFunction mo_spanRounding mo_spanMany a_moF a_moT mo_parts mo_shift a_moP a_moQ a_moA a_moB a_moD), (a_moR, .inl (cI, 7, .inl moR_r))] := by rw [hAe]; exact hD0.self
  have hA : ∀ q : Nat, s.heap.size ≤ q → A q := fun q h => by rw [hAe]; exact Or.inr h
  have hS : va_S A s.heap s.heap [] := va_S.rf
  have hl := lv_entry ([.ref a_mo, .int p1, .int p2, .int p3]) (n := 4) (Nat.le_of_ble_eq_true rfl)
  rw [hargs, lg_entry_eq, ← hargs]
  generalize (lg_sl ([.ref a_mo, .int p1, .int p2, .int p3]) ++ List.replicate (4 - (lg_sl ([.ref a_mo, .int p1, .int p2, .int p3])).length) Slot.unset).toArray = ls at hl ⊢
  replace hl : lv_has ls 4 [(0, .ref a_mo), (1, .int p1), (2, .int p2), (3, .int p3)] := hl
  have hRf : ∀ n, n ≤ 5 → n ≤ (headSpec w_X8_round ({ frames := 5, cells := 0, slots := 0, locals := 127 } : Room)).room.frames := fun n h => h
  have hRl : ∀ n, n ≤ 127 → n ≤ (headSpec w_X8_round ({ frames := 5, cells := 0, slots := 0, locals := 127 } : Room)).room.locals := fun n h => h
  generalize (headSpec w_X8_round ({ frames := 5, cells := 0, slots := 0, locals := 127 } : Room)).room = R at hRf hRl ⊢
  generalize hQ : MQ below _ args s 0 0 _ = Q
  have C_88 : ∀ (mo_function : Int32) (mo_atX : Int32) (mo_atM : Int64) (moR_r : Nat → Int32) (y0 : Int32) (y1 : Int32) (H : Heap) (locs : List Loc) (ls : Array Slot), wp_X8_round_88 post  mo_f mo_most mo_minus mo_low mo_function mo_atX mo_atM moR_r y0 y1 → va_P D vwCl [(a_mo, oX8 a_moR mo_e mo_f mo_codes mo_most mo_minus mo_low mo_function mo_atX mo_atM a_moK a_moH a_moS mo_spanFunction mo_spanRounding mo_spanMany a_moF a_moT mo_parts mo_shift a_moP a_moQ a_moA a_moB a_moD), (a_moR, .inl (cI, 7, .inl moR_r))] H → va_D A [(a_mo, oX8 a_moR mo_e mo_f mo_codes mo_most mo_minus mo_low mo_function mo_atX mo_atM a_moK a_moH a_moS mo_spanFunction mo_spanRounding mo_spanMany a_moF a_moT mo_parts mo_shift a_moP a_moQ a_moA a_moB a_moD), (a_moR, .inl (cI, 7, .inl moR_r))] → va_S A s.heap H locs → lv_has ls 4 [] → W p l e R s m args below meth c H locs 0 0 Q (F0 m 88 ls [.int y0, .int y1, .ref a_mo]) := by
    intro mo_function mo_atX mo_atM moR_r y0 y1 H locs ls ho hP hD hS hl
    unfold wp_X8_round_88 at ho
    refine ca_Vi (b := a_mo) (As := [.int y1, .int y0]) (rest := []) ⟨hx, hb, hml, hown, hts⟩ (c_X8_rounded l D cI cJ cZ a_mo a_moR a_moK a_moH a_moS a_moF a_moT a_moP a_moQ a_moA a_moB a_moD mo_e mo_f mo_codes mo_most mo_minus mo_low mo_function mo_atX mo_atM mo_spanFunction mo_spanRounding mo_spanMany mo_parts mo_shift y1 y0 _ ho) (cwV 2 hts (gdV wl_370 wl_371 wl_372 wl_5 wl_373) rfl rfl rfl (by decide +kernel) ⟨hRf _ (Nat.le_of_ble_eq_true rfl), hRl _ (Nat.le_of_ble_eq_true rfl)⟩) hK hN hP [0] rfl 0 7 rfl rfl rfl rfl hl.1 rfl (Nat.le_of_ble_eq_true rfl) dX8_round_88 ⟨Nat.zero_le _, Nat.zero_le _⟩ (fun r88 ho => ?_)
    subst hQ; exact W.iret (v := r88) hx hb hr (fun t ht hW => ⟨⟨r88, (mo_function, mo_atX, mo_atM, moR_r), rfl, ho, by rw [ht]; exact hP, hD⟩, hS.F ht⟩) (fun q hq => hS.2.2 q hq) dX8_round_91
  have C_45 : ∀ (mo_function : Int32) (mo_atX : Int32) (mo_atM : Int64) (moR_r : Nat → Int32) (H : Heap) (locs : List Loc) (ls : Array Slot), wp_X8_round_45 post  mo_function mo_atX mo_atM moR_r → va_P D vwCl [(a_mo, oX8 a_moR mo_e mo_f mo_codes mo_most mo_minus mo_low mo_function mo_atX mo_atM a_moK a_moH a_moS mo_spanFunction mo_spanRounding mo_spanMany a_moF a_moT mo_parts mo_shift a_moP a_moQ a_moA a_moB a_moD), (a_moR, .inl (cI, 7, .inl moR_r))] H → va_D A [(a_mo, oX8 a_moR mo_e mo_f mo_codes mo_most mo_minus mo_low mo_function mo_atX mo_atM a_moK a_moH a_moS mo_spanFunction mo_spanRounding mo_spanMany a_moF a_moT mo_parts mo_shift a_moP a_moQ a_moA a_moB a_moD), (a_moR, .inl (cI, 7, .inl moR_r))] → va_S A s.heap H locs → lv_has ls 4 [(0, .ref a_mo)] → W p l e R s m args below meth c H locs 0 0 Q (F0 m 45 ls []) := by
    intro mo_function mo_atX mo_atM moR_r H locs ls ho hP hD hS hl
    unfold wp_X8_round_45 at ho
    refine lv_aload_n hx hb dX8_round_45 rfl (lv_at hl 0 rfl) ?_
    refine lv_bipush (v := (-6)) hx hb dX8_round_46 (by decide) ?_
    refine ca_Wi (b := a_mo) (As := [.int (-6 : Int32)]) (rest := []) (wr := []) (wo := fun (u : (Nat → Int32)) => [(a_mo, oX8 a_moR mo_e mo_f mo_codes mo_most mo_minus mo_low mo_function mo_atX mo_atM a_moK a_moH a_moS mo_spanFunction mo_spanRounding mo_spanMany a_moF a_moT mo_parts mo_shift a_moP a_moQ a_moA a_moB a_moD), (a_moR, .inl (cI, 7, .inl u))]) (wn := fun (u : (Nat → Int32)) => [(a_mo, oX8 a_moR mo_e mo_f mo_codes mo_most mo_minus mo_low mo_function mo_atX mo_atM a_moK a_moH a_moS mo_spanFunction mo_spanRounding mo_spanMany a_moF a_moT mo_parts mo_shift a_moP a_moQ a_moA a_moB a_moD), (a_moR, .inl (cI, 7, .inl u))]) ⟨hx, hb, hml, hown, hts⟩ (c_X8_refuse l D cI cJ cZ a_mo a_moR a_moK a_moH a_moS a_moF a_moT a_moP a_moQ a_moA a_moB a_moD H.size mo_e mo_f mo_codes mo_most mo_minus mo_low mo_function mo_atX mo_atM mo_spanFunction mo_spanRounding mo_spanMany mo_parts mo_shift moR_r (-6 : Int32) _ _ rfl ho) (cwV 1 hts (gdV wl_165 wl_166 wl_167 wl_5 wl_168) rfl rfl rfl (by decide +kernel) ⟨hRf _ (Nat.le_of_ble_eq_true rfl), hRl _ (Nat.le_of_ble_eq_true rfl)⟩) hK hN hP hD hS hA [0, 1] [] [0, 1] rfl rfl (by decide) (by decide) (by decide) (by decide) (fun _ => rfl) 0 7 rfl rfl rfl rfl hl.1 rfl (Nat.le_of_ble_eq_true rfl) dX8_round_48 ⟨Nat.zero_le _, Nat.zero_le _⟩ (fun r48 u48 H locs ho hP hD hS => ?_)
    try dsimp only at ho
    replace hP : va_P D vwCl [(a_mo, oX8 a_moR mo_e mo_f mo_codes mo_most mo_minus mo_low mo_function mo_atX mo_atM a_moK a_moH a_moS mo_spanFunction mo_spanRounding mo_spanMany a_moF a_moT mo_parts mo_shift a_moP a_moQ a_moA a_moB a_moD), (a_moR, .inl (cI, 7, .inl u48))] H := hP
    replace hD : va_D A [(a_mo, oX8 a_moR mo_e mo_f mo_codes mo_most mo_minus mo_low mo_function mo_atX mo_atM a_moK a_moH a_moS mo_spanFunction mo_spanRounding mo_spanMany a_moF a_moT mo_parts mo_shift a_moP a_moQ a_moA a_moB a_moD), (a_moR, .inl (cI, 7, .inl u48))] := hD
    subst hQ; exact W.iret (v := r48) hx hb hr (fun t ht hW => ⟨⟨r48, (mo_function, mo_atX, mo_atM, u48), rfl, ho, by rw [ht]; exact hP, hD⟩, hS.F ht⟩) (fun q hq => hS.2.2 q hq) dX8_round_51
  have C_26 : ∀ (mo_function : Int32) (mo_atX : Int32) (mo_atM : Int64) (moR_r : Nat → Int32) (H : Heap) (locs : List Loc) (ls : Array Slot), wp_X8_round_26 post  mo_function mo_atX mo_atM moR_r → va_P D vwCl [(a_mo, oX8 a_moR mo_e mo_f mo_codes mo_most mo_minus mo_low mo_function mo_atX mo_atM a_moK a_moH a_moS mo_spanFunction mo_spanRounding mo_spanMany a_moF a_moT mo_parts mo_shift a_moP a_moQ a_moA a_moB a_moD), (a_moR, .inl (cI, 7, .inl moR_r))] H → va_D A [(a_mo, oX8 a_moR mo_e mo_f mo_codes mo_most mo_minus mo_low mo_function mo_atX mo_atM a_moK a_moH a_moS mo_spanFunction mo_spanRounding mo_spanMany a_moF a_moT mo_parts mo_shift a_moP a_moQ a_moA a_moB a_moD), (a_moR, .inl (cI, 7, .inl moR_r))] → va_S A s.heap H locs → lv_has ls 4 [(0, .ref a_mo)] → W p l e R s m args below meth c H locs 0 0 Q (F0 m 26 ls []) := by
    intro mo_function mo_atX mo_atM moR_r H locs ls ho hP hD hS hl
    unfold wp_X8_round_26 at ho
    refine lv_aload_n hx hb dX8_round_26 rfl (lv_at hl 0 rfl) ?_
    refine lv_bipush (v := (-4)) hx hb dX8_round_27 (by decide) ?_
    refine ca_Wi (b := a_mo) (As := [.int (-4 : Int32)]) (rest := []) (wr := []) (wo := fun (u : (Nat → Int32)) => [(a_mo, oX8 a_moR mo_e mo_f mo_codes mo_most mo_minus mo_low mo_function mo_atX mo_atM a_moK a_moH a_moS mo_spanFunction mo_spanRounding mo_spanMany a_moF a_moT mo_parts mo_shift a_moP a_moQ a_moA a_moB a_moD), (a_moR, .inl (cI, 7, .inl u))]) (wn := fun (u : (Nat → Int32)) => [(a_mo, oX8 a_moR mo_e mo_f mo_codes mo_most mo_minus mo_low mo_function mo_atX mo_atM a_moK a_moH a_moS mo_spanFunction mo_spanRounding mo_spanMany a_moF a_moT mo_parts mo_shift a_moP a_moQ a_moA a_moB a_moD), (a_moR, .inl (cI, 7, .inl u))]) ⟨hx, hb, hml, hown, hts⟩ (c_X8_refuse l D cI cJ cZ a_mo a_moR a_moK a_moH a_moS a_moF a_moT a_moP a_moQ a_moA a_moB a_moD H.size mo_e mo_f mo_codes mo_most mo_minus mo_low mo_function mo_atX mo_atM mo_spanFunction mo_spanRounding mo_spanMany mo_parts mo_shift moR_r (-4 : Int32) _ _ rfl ho) (cwV 1 hts (gdV wl_165 wl_166 wl_167 wl_5 wl_168) rfl rfl rfl (by decide +kernel) ⟨hRf _ (Nat.le_of_ble_eq_true rfl), hRl _ (Nat.le_of_ble_eq_true rfl)⟩) hK hN hP hD hS hA [0, 1] [] [0, 1] rfl rfl (by decide) (by decide) (by decide) (by decide) (fun _ => rfl) 0 7 rfl rfl rfl rfl hl.1 rfl (Nat.le_of_ble_eq_true rfl) dX8_round_29 ⟨Nat.zero_le _, Nat.zero_le _⟩ (fun r29 u29 H locs ho hP hD hS => ?_)
    try dsimp only at ho
    replace hP : va_P D vwCl [(a_mo, oX8 a_moR mo_e mo_f mo_codes mo_most mo_minus mo_low mo_function mo_atX mo_atM a_moK a_moH a_moS mo_spanFunction mo_spanRounding mo_spanMany a_moF a_moT mo_parts mo_shift a_moP a_moQ a_moA a_moB a_moD), (a_moR, .inl (cI, 7, .inl u29))] H := hP
    replace hD : va_D A [(a_mo, oX8 a_moR mo_e mo_f mo_codes mo_most mo_minus mo_low mo_function mo_atX mo_atM a_moK a_moH a_moS mo_spanFunction mo_spanRounding mo_spanMany a_moF a_moT mo_parts mo_shift a_moP a_moQ a_moA a_moB a_moD), (a_moR, .inl (cI, 7, .inl u29))] := hD
    subst hQ; exact W.iret (v := r29) hx hb hr (fun t ht hW => ⟨⟨r29, (mo_function, mo_atX, mo_atM, u29), rfl, ho, by rw [ht]; exact hP, hD⟩, hS.F ht⟩) (fun q hq => hS.2.2 q hq) dX8_round_32
  suffices main : ∀ (H : Heap) (locs : List Loc), va_P D vwCl [(a_mo, oX8 a_moR mo_e mo_f mo_codes mo_most mo_minus mo_low mo_function mo_atX mo_atM a_moK a_moH a_moS mo_spanFunction mo_spanRounding mo_spanMany a_moF a_moT mo_parts mo_shift a_moP a_moQ a_moA a_moB a_moD), (a_moR, .inl (cI, 7, .inl moR_r))] H → va_S A s.heap H locs → W p l e R s m args below meth c H locs 0 0 Q (F0 m 0 ls []) from main _ _ hP hS
  intro H locs hP hS
  unfold wp_X8_round at ho
  refine lv_iload_n hx hb dX8_round_0 rfl (lv_at hl 3 rfl) ?_
  refine lv_iconst (v := 5) hx hb dX8_round_1 (by decide) ?_
  refine ca_Si (As := [.int p3, .int (5 : Int32)]) (rest := []) ⟨hx, hb, hml, hown, hts⟩ (c_X8_isIn l D cI cJ cZ   p3 (5 : Int32) _ ho) (va_cwS 2 hts (gdS wl_254 wl_255 wl_5 wl_256) rfl rfl rfl (by decide +kernel) ⟨hRf _ (Nat.le_of_ble_eq_true rfl), hRl _ (Nat.le_of_ble_eq_true rfl)⟩) hK hN hP [] rfl rfl hl.1 rfl (Nat.le_of_ble_eq_true rfl) dX8_round_2 ⟨Nat.zero_le _, Nat.zero_le _⟩ (fun r2 ho => ?_)
  refine lv_if_ne (tgt := 14) hx hb dX8_round_5 (by decide) (fun c_5 => ?_) (fun c_5 => ?_)
  · replace ho := ho.1 c_5
    refine lv_iload_n hx hb dX8_round_14 rfl (lv_at hl 1 rfl) ?_
    refine lv_ldc hx hb hown (hts _ wl_365) dX8_round_15 ?_
    refine lv_icmp_lt (tgt := 26) hx hb dX8_round_17 (by decide) (fun c_17 => ?_) (fun c_17 => ?_)
    · replace ho := ho.1 c_17
      exact C_26 mo_function mo_atX mo_atM moR_r H locs ls ho hP hD hS (lv_sub hl [0] rfl)
    · replace ho := ho.2 c_17
      refine lv_iload_n hx hb dX8_round_20 rfl (lv_at hl 2 rfl) ?_
      refine lv_bipush (v := (-60)) hx hb dX8_round_21 (by decide) ?_
      refine lv_icmp_ge (tgt := 33) hx hb dX8_round_23 (by decide) (fun c_23 => ?_) (fun c_23 => ?_)
      · replace ho := ho.1 c_23
        refine lv_iload_n hx hb dX8_round_33 rfl (lv_at hl 1 rfl) ?_
        refine lv_ldc hx hb hown (hts _ wl_366) dX8_round_34 ?_
        refine lv_icmp_gt (tgt := 45) hx hb dX8_round_36 (by decide) (fun c_36 => ?_) (fun c_36 => ?_)
        · replace ho := ho.1 c_36
          exact C_45 mo_function mo_atX mo_atM moR_r H locs ls ho hP hD hS (lv_sub hl [0] rfl)
        · replace ho := ho.2 c_36
          refine lv_iload_n hx hb dX8_round_39 rfl (lv_at hl 2 rfl) ?_
          refine lv_bipush (v := 60) hx hb dX8_round_40 (by decide) ?_
          refine lv_icmp_le (tgt := 52) hx hb dX8_round_42 (by decide) (fun c_42 => ?_) (fun c_42 => ?_)
          · replace ho := ho.1 c_42
            refine lv_iload_n hx hb dX8_round_52 rfl (lv_at hl 1 rfl) ?_
            refine lv_if_ne (tgt := 58) hx hb dX8_round_53 (by decide) (fun c_53 => ?_) (fun c_53 => ?_)
            · replace ho := ho.1 c_53
              refine lv_aload_n hx hb dX8_round_58 rfl (lv_at hl 0 rfl) ?_
              refine lv_iconst (v := (-1)) hx hb dX8_round_59 (by decide) ?_
              refine va_put (D := D) (ci := 7) (v := .int (-1 : Int32)) (ty := .int) (C := RX8) (T := TX8) (N := 25) hx hb hts inlX8 tyX8 tyX8_ok nmX8 hown hK hP hD hS 0 rfl rfl 7 (by decide) (hts _ wl_367) (fun _ h9 => h9) rfl (by decide +kernel) rfl rfl (Nat.le_of_ble_eq_true rfl) dX8_round_60 (fun H locs hP hD hS => ?_)
              replace hP : va_P D vwCl [(a_mo, oX8 a_moR mo_e mo_f mo_codes mo_most mo_minus mo_low (-1 : Int32) mo_atX mo_atM a_moK a_moH a_moS mo_spanFunction mo_spanRounding mo_spanMany a_moF a_moT mo_parts mo_shift a_moP a_moQ a_moA a_moB a_moD), (a_moR, .inl (cI, 7, .inl moR_r))] H := hP
              replace hD : va_D A [(a_mo, oX8 a_moR mo_e mo_f mo_codes mo_most mo_minus mo_low (-1 : Int32) mo_atX mo_atM a_moK a_moH a_moS mo_spanFunction mo_spanRounding mo_spanMany a_moF a_moT mo_parts mo_shift a_moP a_moQ a_moA a_moB a_moD), (a_moR, .inl (cI, 7, .inl moR_r))] := hD
              refine lv_aload_n hx hb dX8_round_63 rfl (lv_at hl 0 rfl) ?_
              refine lv_iload_n hx hb dX8_round_64 rfl (lv_at hl 1 rfl) ?_
              refine va_mabs hx hb (hml.trans hl.1.symm) hown (hts _ wl_312) (hts _ wl_304) (hts _ wl_244) (hts _ wl_305) (hRf 1 (Nat.le_of_ble_eq_true rfl)) (hRl _ (Nat.le_of_ble_eq_true rfl)) (Nat.zero_le _) (Nat.zero_le _) dX8_round_65 ?_
              refine lv_i2l hx hb dX8_round_68 rfl ?_
              refine va_put (D := D) (ci := 7) (v := .long ((if 0 ≤ p1 then p1 else 0 - p1).toInt64)) (ty := .long) (C := RX8) (T := TX8) (N := 25) hx hb hts inlX8 tyX8 tyX8_ok nmX8 hown hK hP hD hS 0 rfl rfl 9 (by decide) (hts _ wl_368) (fun _ h9 => h9) rfl (by decide +kernel) rfl rfl (Nat.le_of_ble_eq_true rfl) dX8_round_69 (fun H locs hP hD hS => ?_)
              replace hP : va_P D vwCl [(a_mo, oX8 a_moR mo_e mo_f mo_codes mo_most mo_minus mo_low (-1 : Int32) mo_atX ((if 0 ≤ p1 then p1 else 0 - p1).toInt64) a_moK a_moH a_moS mo_spanFunction mo_spanRounding mo_spanMany a_moF a_moT mo_parts mo_shift a_moP a_moQ a_moA a_moB a_moD), (a_moR, .inl (cI, 7, .inl moR_r))] H := hP
              replace hD : va_D A [(a_mo, oX8 a_moR mo_e mo_f mo_codes mo_most mo_minus mo_low (-1 : Int32) mo_atX ((if 0 ≤ p1 then p1 else 0 - p1).toInt64) a_moK a_moH a_moS mo_spanFunction mo_spanRounding mo_spanMany a_moF a_moT mo_parts mo_shift a_moP a_moQ a_moA a_moB a_moD), (a_moR, .inl (cI, 7, .inl moR_r))] := hD
              refine lv_aload_n hx hb dX8_round_72 rfl (lv_at hl 0 rfl) ?_
              refine lv_iload_n hx hb dX8_round_73 rfl (lv_at hl 2 rfl) ?_
              refine va_put (D := D) (ci := 7) (v := .int p2) (ty := .int) (C := RX8) (T := TX8) (N := 25) hx hb hts inlX8 tyX8 tyX8_ok nmX8 hown hK hP hD hS 0 rfl rfl 8 (by decide) (hts _ wl_369) (fun _ h9 => h9) rfl (by decide +kernel) rfl rfl (Nat.le_of_ble_eq_true rfl) dX8_round_74 (fun H locs hP hD hS => ?_)
              replace hP : va_P D vwCl [(a_mo, oX8 a_moR mo_e mo_f mo_codes mo_most mo_minus mo_low (-1 : Int32) p2 ((if 0 ≤ p1 then p1 else 0 - p1).toInt64) a_moK a_moH a_moS mo_spanFunction mo_spanRounding mo_spanMany a_moF a_moT mo_parts mo_shift a_moP a_moQ a_moA a_moB a_moD), (a_moR, .inl (cI, 7, .inl moR_r))] H := hP
              replace hD : va_D A [(a_mo, oX8 a_moR mo_e mo_f mo_codes mo_most mo_minus mo_low (-1 : Int32) p2 ((if 0 ≤ p1 then p1 else 0 - p1).toInt64) a_moK a_moH a_moS mo_spanFunction mo_spanRounding mo_spanMany a_moF a_moT mo_parts mo_shift a_moP a_moQ a_moA a_moB a_moD), (a_moR, .inl (cI, 7, .inl moR_r))] := hD
              refine lv_aload_n hx hb dX8_round_77 rfl (lv_at hl 0 rfl) ?_
              refine lv_iload_n hx hb dX8_round_78 rfl (lv_at hl 3 rfl) ?_
              refine lv_iload_n hx hb dX8_round_79 rfl (lv_at hl 1 rfl) ?_
              refine lv_if_ge (tgt := 87) hx hb dX8_round_80 (by decide) (fun c_80 => ?_) (fun c_80 => ?_)
              · replace ho := ho.1 c_80
                refine lv_iconst (v := 0) hx hb dX8_round_87 (by decide) ?_
                exact C_88 (-1 : Int32) p2 ((if 0 ≤ p1 then p1 else 0 - p1).toInt64) moR_r (0 : Int32) p3 H locs ls ho hP hD hS (lv_sub hl [] rfl)
              · replace ho := ho.2 c_80
                refine lv_iconst (v := 1) hx hb dX8_round_83 (by decide) ?_
                refine lv_goto (tgt := 88) hx hb dX8_round_84 (by decide) ?_
                exact C_88 (-1 : Int32) p2 ((if 0 ≤ p1 then p1 else 0 - p1).toInt64) moR_r (1 : Int32) p3 H locs ls ho hP hD hS (lv_sub hl [] rfl)
            · replace ho := ho.2 c_53
              refine lv_iconst (v := 0) hx hb dX8_round_56 (by decide) ?_
              subst hQ; exact W.iret (v := (0 : Int32)) hx hb hr (fun t ht hW => ⟨⟨(0 : Int32), (mo_function, mo_atX, mo_atM, moR_r), rfl, ho, by rw [ht]; exact hP, hD⟩, hS.F ht⟩) (fun q hq => hS.2.2 q hq) dX8_round_57
          · replace ho := ho.2 c_42
            exact C_45 mo_function mo_atX mo_atM moR_r H locs ls ho hP hD hS (lv_sub hl [0] rfl)
      · replace ho := ho.2 c_23
        exact C_26 mo_function mo_atX mo_atM moR_r H locs ls ho hP hD hS (lv_sub hl [0] rfl)
  · replace ho := ho.2 c_5
    refine lv_aload_n hx hb dX8_round_8 rfl (lv_at hl 0 rfl) ?_
    refine lv_iconst (v := (-1)) hx hb dX8_round_9 (by decide) ?_
    refine ca_Wi (b := a_mo) (As := [.int (-1 : Int32)]) (rest := []) (wr := []) (wo := fun (u : (Nat → Int32)) => [(a_mo, oX8 a_moR mo_e mo_f mo_codes mo_most mo_minus mo_low mo_function mo_atX mo_atM a_moK a_moH a_moS mo_spanFunction mo_spanRounding mo_spanMany a_moF a_moT mo_parts mo_shift a_moP a_moQ a_moA a_moB a_moD), (a_moR, .inl (cI, 7, .inl u))]) (wn := fun (u : (Nat → Int32)) => [(a_mo, oX8 a_moR mo_e mo_f mo_codes mo_most mo_minus mo_low mo_function mo_atX mo_atM a_moK a_moH a_moS mo_spanFunction mo_spanRounding mo_spanMany a_moF a_moT mo_parts mo_shift a_moP a_moQ a_moA a_moB a_moD), (a_moR, .inl (cI, 7, .inl u))]) ⟨hx, hb, hml, hown, hts⟩ (c_X8_refuse l D cI cJ cZ a_mo a_moR a_moK a_moH a_moS a_moF a_moT a_moP a_moQ a_moA a_moB a_moD H.size mo_e mo_f mo_codes mo_most mo_minus mo_low mo_function mo_atX mo_atM mo_spanFunction mo_spanRounding mo_spanMany mo_parts mo_shift moR_r (-1 : Int32) _ _ rfl ho) (cwV 1 hts (gdV wl_165 wl_166 wl_167 wl_5 wl_168) rfl rfl rfl (by decide +kernel) ⟨hRf _ (Nat.le_of_ble_eq_true rfl), hRl _ (Nat.le_of_ble_eq_true rfl)⟩) hK hN hP hD hS hA [0, 1] [] [0, 1] rfl rfl (by decide) (by decide) (by decide) (by decide) (fun _ => rfl) 0 7 rfl rfl rfl rfl hl.1 rfl (Nat.le_of_ble_eq_true rfl) dX8_round_10 ⟨Nat.zero_le _, Nat.zero_le _⟩ (fun r10 u10 H locs ho hP hD hS => ?_)
    try dsimp only at ho
    replace hP : va_P D vwCl [(a_mo, oX8 a_moR mo_e mo_f mo_codes mo_most mo_minus mo_low mo_function mo_atX mo_atM a_moK a_moH a_moS mo_spanFunction mo_spanRounding mo_spanMany a_moF a_moT mo_parts mo_shift a_moP a_moQ a_moA a_moB a_moD), (a_moR, .inl (cI, 7, .inl u10))] H := hP
    replace hD : va_D A [(a_mo, oX8 a_moR mo_e mo_f mo_codes mo_most mo_minus mo_low mo_function mo_atX mo_atM a_moK a_moH a_moS mo_spanFunction mo_spanRounding mo_spanMany a_moF a_moT mo_parts mo_shift a_moP a_moQ a_moA a_moB a_moD), (a_moR, .inl (cI, 7, .inl u10))] := hD
    subst hQ; exact W.iret (v := r10) hx hb hr (fun t ht hW => ⟨⟨r10, (mo_function, mo_atX, mo_atM, u10), rfl, ho, by rw [ht]; exact hP, hD⟩, hS.F ht⟩) (fun q hq => hS.2.2 q hq) dX8_round_13
