def w_X8_placeOf : List Cond := .code yX8_placeOf cX8_placeOf 2 (some .int) :: wsL_law
set_option maxHeartbeats 4000000 in
set_option maxRecDepth 100000 in
theorem c_X8_placeOf (l : Launch) (D : va_G) (cI cJ cZ : ClassId) (a_mo : Nat) (a_moR : Nat) (a_moK : Nat) (a_moH : Nat) (a_moS : Nat) (a_moF : Nat) (a_moT : Nat) (a_moP : Nat) (a_moQ : Nat) (a_moA : Nat) (a_moB : Nat) (a_moD : Nat) (mo_e : Int32) (mo_f : Int32) (mo_codes : Int32) (mo_most : Int32) (mo_minus : Int32) (mo_low : Int32) (mo_function : Int32) (mo_atX : Int32) (mo_atM : Int64) (mo_spanFunction : Int32) (mo_spanRounding : Int32) (mo_spanMany : Int32) (mo_parts : Int32) (mo_shift : Int32) (p1 : Int32) (post : Int32 → Prop) (ho : wp_X8_placeOf post mo_minus p1) : Met l yX8_placeOf w_X8_placeOf ({ frames := 1, cells := 0, slots := 0, locals := 21 } : Room) (ro_P D [(cI, .int), (cJ, .long), (cZ, .boolean)] [.ref a_mo, .int p1] [(a_mo, oX8 a_moR mo_e mo_f mo_codes mo_most mo_minus mo_low mo_function mo_atX mo_atM a_moK a_moH a_moS mo_spanFunction mo_spanRounding mo_spanMany a_moF a_moT mo_parts mo_shift a_moP a_moQ a_moA a_moB a_moD)]) (vp_Si post) 0 0 (fun _ => False) := by
  refine Met.ofW (cc := cX8_placeOf) (maxL := 2) (ret := (some .int)) (by decide) rfl ?_
  intro p e s m args below meth c s₁ B hml hv
  obtain ⟨hargs, hP, hK, hN⟩ := hv
  have hx := B.exec
  have hb := B.bytes
  have hr := B.returns
  have hts : ∀ w ∈ wsL_law, w.before args s = true := fun w h => atoms_spec (ws := w_X8_placeOf) B.pre w (List.mem_cons_of_mem _ h)
  have hown : s.vm.findClass RX8 = some m.cls := findClass_of_methodNamed B.named
  have hlocks := B.notSynchronized
  have hl := lv_entry ([.ref a_mo, .int p1]) (n := 2) (Nat.le_of_ble_eq_true rfl)
  rw [hargs, lg_entry_eq, ← hargs]
  generalize (lg_sl ([.ref a_mo, .int p1]) ++ List.replicate (2 - (lg_sl ([.ref a_mo, .int p1])).length) Slot.unset).toArray = ls at hl ⊢
  replace hl : lv_has ls 2 [(0, .ref a_mo), (1, .int p1)] := hl
  have hRf : ∀ n, n ≤ 1 → n ≤ (headSpec w_X8_placeOf ({ frames := 1, cells := 0, slots := 0, locals := 21 } : Room)).room.frames := fun n h => h
  have hRl : ∀ n, n ≤ 21 → n ≤ (headSpec w_X8_placeOf ({ frames := 1, cells := 0, slots := 0, locals := 21 } : Room)).room.locals := fun n h => h
  generalize (headSpec w_X8_placeOf ({ frames := 1, cells := 0, slots := 0, locals := 21 } : Room)).room = R at hRf hRl ⊢
  generalize hQ : MQ below _ args s 0 0 _ = Q
  unfold wp_X8_placeOf at ho
  refine lv_iload_n hx hb dX8_placeOf_0 rfl (lv_at hl 1 rfl) ?_
  refine lv_aload_n hx hb dX8_placeOf_1 rfl (lv_at hl 0 rfl) ?_
  refine va_get (D := D) (ci := 7) (v := .int mo_minus) (C := RX8) (T := TX8) (N := 25) hx hb hts inlX8 hown hK hP 0 rfl rfl 5 (by decide) (hts _ wl_119) (fun _ h9 => h9) rfl dX8_placeOf_2 ?_
  refine lv_icmp_ge (tgt := 12) hx hb dX8_placeOf_5 (by decide) (fun c_5 => ?_) (fun c_5 => ?_)
  · replace ho := ho.1 c_5
    refine lv_aload_n hx hb dX8_placeOf_12 rfl (lv_at hl 0 rfl) ?_
    refine lv_iload_n hx hb dX8_placeOf_13 rfl (lv_at hl 1 rfl) ?_
    refine ca_Vi (b := a_mo) (As := [.int p1]) (rest := []) ⟨hx, hb, hml, hown, hts⟩ (c_X8_size l D cI cJ cZ a_mo a_moR a_moK a_moH a_moS a_moF a_moT a_moP a_moQ a_moA a_moB a_moD mo_e mo_f mo_codes mo_most mo_minus mo_low mo_function mo_atX mo_atM mo_spanFunction mo_spanRounding mo_spanMany mo_parts mo_shift p1 _ ho) (cwV 1 hts (gdV wl_262 wl_263 wl_264 wl_5 wl_265) rfl rfl rfl (by decide +kernel) ⟨hRf _ (Nat.le_of_ble_eq_true rfl), hRl _ (Nat.le_of_ble_eq_true rfl)⟩) hK hN hP [0] rfl 0 7 rfl rfl rfl rfl hl.1 rfl (Nat.le_of_ble_eq_true rfl) dX8_placeOf_14 ⟨Nat.zero_le _, Nat.zero_le _⟩ (fun r14 ho => ?_)
    refine lv_ineg hx hb dX8_placeOf_17 ?_
    subst hQ; exact W.iret (v := (-r14)) hx hb hr (fun t ht _ => ⟨(-r14), rfl, ho, ht⟩) (fun _ h => by cases h) dX8_placeOf_18
  · replace ho := ho.2 c_5
    refine lv_iload_n hx hb dX8_placeOf_8 rfl (lv_at hl 1 rfl) ?_
    refine lv_goto (tgt := 18) hx hb dX8_placeOf_9 (by decide) ?_
    subst hQ; exact W.iret (v := p1) hx hb hr (fun t ht _ => ⟨p1, rfl, ho, ht⟩) (fun _ h => by cases h) dX8_placeOf_18

def w_X8_between : List Cond := .code yX8_between cX8_between 4 (some .int) :: wsL_law
set_option maxHeartbeats 4000000 in
set_option maxRecDepth 100000 in
theorem c_X8_between (l : Launch) (D : va_G) (cI cJ cZ : ClassId) (a_mo : Nat) (a_moR : Nat) (a_moK : Nat) (a_moH : Nat) (a_moS : Nat) (a_moF : Nat) (a_moT : Nat) (a_moP : Nat) (a_moQ : Nat) (a_moA : Nat) (a_moB : Nat) (a_moD : Nat) (sz : Nat) (mo_e : Int32) (mo_f : Int32) (mo_codes : Int32) (mo_most : Int32) (mo_minus : Int32) (mo_low : Int32) (mo_function : Int32) (mo_atX : Int32) (mo_atM : Int64) (mo_spanFunction : Int32) (mo_spanRounding : Int32) (mo_spanMany : Int32) (mo_parts : Int32) (mo_shift : Int32) (moR_r : Nat → Int32) (p1 : Int32) (p2 : Int32) (post : Int32 → (Nat → Int32) → Prop) (A : Nat → Prop) (hAe : A = va_A [(a_mo, oX8 a_moR mo_e mo_f mo_codes mo_most mo_minus mo_low mo_function mo_atX mo_atM a_moK a_moH a_moS mo_spanFunction mo_spanRounding mo_spanMany a_moF a_moT mo_parts mo_shift a_moP a_moQ a_moA a_moB a_moD), (a_moR, .inl (cI, 7, .inl moR_r))] sz) (ho : wp_X8_between post mo_codes mo_most mo_minus moR_r p1 p2) : Met l yX8_between w_X8_between ({ frames := 2, cells := 0, slots := 0, locals := 42 } : Room) (rw_P D [(cI, .int), (cJ, .long), (cZ, .boolean)] [.ref a_mo, .int p1, .int p2] sz [(a_mo, oX8 a_moR mo_e mo_f mo_codes mo_most mo_minus mo_low mo_function mo_atX mo_atM a_moK a_moH a_moS mo_spanFunction mo_spanRounding mo_spanMany a_moF a_moT mo_parts mo_shift a_moP a_moQ a_moA a_moB a_moD), (a_moR, .inl (cI, 7, .inl moR_r))]) (va_Qi (fun (r : Int32) (u : (Nat → Int32)) => post r u) (rw_B D A (fun (u : (Nat → Int32)) => [(a_mo, oX8 a_moR mo_e mo_f mo_codes mo_most mo_minus mo_low mo_function mo_atX mo_atM a_moK a_moH a_moS mo_spanFunction mo_spanRounding mo_spanMany a_moF a_moT mo_parts mo_shift a_moP a_moQ a_moA a_moB a_moD), (a_moR, .inl (cI, 7, .inl u))])) A) 0 0 A := by
  refine Met.ofW (cc := cX8_between) (maxL := 4) (ret := (some .int)) (by decide) rfl ?_
  intro p e s m args below meth c s₁ B hml hv
  obtain ⟨hargs, hsz, hP, hK, hN, hD0⟩ := hv
  have hx := B.exec
  have hb := B.bytes
  have hr := B.returns
  have hts : ∀ w ∈ wsL_law, w.before args s = true := fun w h => atoms_spec (ws := w_X8_between) B.pre w (List.mem_cons_of_mem _ h)
  have hown : s.vm.findClass RX8 = some m.cls := findClass_of_methodNamed B.named
  have hlocks := B.notSynchronized
  subst hsz
  have hD : va_D A [(a_mo, oX8 a_moR mo_e mo_f mo_codes mo_most mo_minus mo_low mo_function mo_atX mo_atM a_moK a_moH a_moS mo_spanFunction mo_spanRounding mo_spanMany a_moF a_moT mo_parts mo_shift a_moP a_moQ a_moA a_moB a_moD), (a_moR, .inl (cI, 7, .inl moR_r))] := by rw [hAe]; exact hD0.self
  have hA : ∀ q : Nat, s.heap.size ≤ q → A q := fun q h => by rw [hAe]; exact Or.inr h
  have hS : va_S A s.heap s.heap [] := va_S.rf
  have hl := lv_entry ([.ref a_mo, .int p1, .int p2]) (n := 4) (Nat.le_of_ble_eq_true rfl)
  rw [hargs, lg_entry_eq, ← hargs]
  generalize (lg_sl ([.ref a_mo, .int p1, .int p2]) ++ List.replicate (4 - (lg_sl ([.ref a_mo, .int p1, .int p2])).length) Slot.unset).toArray = ls at hl ⊢
  replace hl : lv_has ls 4 [(0, .ref a_mo), (1, .int p1), (2, .int p2)] := hl
  have hRf : ∀ n, n ≤ 2 → n ≤ (headSpec w_X8_between ({ frames := 2, cells := 0, slots := 0, locals := 42 } : Room)).room.frames := fun n h => h
  have hRl : ∀ n, n ≤ 42 → n ≤ (headSpec w_X8_between ({ frames := 2, cells := 0, slots := 0, locals := 42 } : Room)).room.locals := fun n h => h
  generalize (headSpec w_X8_between ({ frames := 2, cells := 0, slots := 0, locals := 42 } : Room)).room = R at hRf hRl ⊢
  generalize hQ : MQ below _ args s 0 0 _ = Q
  have C_38 : ∀ (moR_r : Nat → Int32) (H : Heap) (locs : List Loc) (ls : Array Slot), wp_X8_between_38 post  moR_r → va_P D vwCl [(a_mo, oX8 a_moR mo_e mo_f mo_codes mo_most mo_minus mo_low mo_function mo_atX mo_atM a_moK a_moH a_moS mo_spanFunction mo_spanRounding mo_spanMany a_moF a_moT mo_parts mo_shift a_moP a_moQ a_moA a_moB a_moD), (a_moR, .inl (cI, 7, .inl moR_r))] H → va_D A [(a_mo, oX8 a_moR mo_e mo_f mo_codes mo_most mo_minus mo_low mo_function mo_atX mo_atM a_moK a_moH a_moS mo_spanFunction mo_spanRounding mo_spanMany a_moF a_moT mo_parts mo_shift a_moP a_moQ a_moA a_moB a_moD), (a_moR, .inl (cI, 7, .inl moR_r))] → va_S A s.heap H locs → lv_has ls 4 [(0, .ref a_mo)] → W p l e R s m args below meth c H locs 0 0 Q (F0 m 38 ls []) := by
    intro moR_r H locs ls ho hP hD hS hl
    unfold wp_X8_between_38 at ho
    refine lv_aload_n hx hb dX8_between_38 rfl (lv_at hl 0 rfl) ?_
    refine lv_bipush (v := (-3)) hx hb dX8_between_39 (by decide) ?_
    refine ca_Wi (b := a_mo) (As := [.int (-3 : Int32)]) (rest := []) (wr := []) (wo := fun (u : (Nat → Int32)) => [(a_mo, oX8 a_moR mo_e mo_f mo_codes mo_most mo_minus mo_low mo_function mo_atX mo_atM a_moK a_moH a_moS mo_spanFunction mo_spanRounding mo_spanMany a_moF a_moT mo_parts mo_shift a_moP a_moQ a_moA a_moB a_moD), (a_moR, .inl (cI, 7, .inl u))]) (wn := fun (u : (Nat → Int32)) => [(a_mo, oX8 a_moR mo_e mo_f mo_codes mo_most mo_minus mo_low mo_function mo_atX mo_atM a_moK a_moH a_moS mo_spanFunction mo_spanRounding mo_spanMany a_moF a_moT mo_parts mo_shift a_moP a_moQ a_moA a_moB a_moD), (a_moR, .inl (cI, 7, .inl u))]) ⟨hx, hb, hml, hown, hts⟩ (c_X8_refuse l D cI cJ cZ a_mo a_moR a_moK a_moH a_moS a_moF a_moT a_moP a_moQ a_moA a_moB a_moD H.size mo_e mo_f mo_codes mo_most mo_minus mo_low mo_function mo_atX mo_atM mo_spanFunction mo_spanRounding mo_spanMany mo_parts mo_shift moR_r (-3 : Int32) _ _ rfl ho) (cwV 1 hts (gdV wl_165 wl_166 wl_167 wl_5 wl_168) rfl rfl rfl (by decide +kernel) ⟨hRf _ (Nat.le_of_ble_eq_true rfl), hRl _ (Nat.le_of_ble_eq_true rfl)⟩) hK hN hP hD hS hA [0, 1] [] [0, 1] rfl rfl (by decide) (by decide) (by decide) (by decide) (fun _ => rfl) 0 7 rfl rfl rfl rfl hl.1 rfl (Nat.le_of_ble_eq_true rfl) dX8_between_41 ⟨Nat.zero_le _, Nat.zero_le _⟩ (fun r41 u41 H locs ho hP hD hS => ?_)
    try dsimp only at ho
    replace hP : va_P D vwCl [(a_mo, oX8 a_moR mo_e mo_f mo_codes mo_most mo_minus mo_low mo_function mo_atX mo_atM a_moK a_moH a_moS mo_spanFunction mo_spanRounding mo_spanMany a_moF a_moT mo_parts mo_shift a_moP a_moQ a_moA a_moB a_moD), (a_moR, .inl (cI, 7, .inl u41))] H := hP
    replace hD : va_D A [(a_mo, oX8 a_moR mo_e mo_f mo_codes mo_most mo_minus mo_low mo_function mo_atX mo_atM a_moK a_moH a_moS mo_spanFunction mo_spanRounding mo_spanMany a_moF a_moT mo_parts mo_shift a_moP a_moQ a_moA a_moB a_moD), (a_moR, .inl (cI, 7, .inl u41))] := hD
    subst hQ; exact W.iret (v := r41) hx hb hr (fun t ht hW => ⟨⟨r41, u41, rfl, ho, by rw [ht]; exact hP, hD⟩, hS.F ht⟩) (fun q hq => hS.2.2 q hq) dX8_between_44
  have C_16 : ∀ (moR_r : Nat → Int32) (H : Heap) (locs : List Loc) (ls : Array Slot), wp_X8_between_16 post  moR_r → va_P D vwCl [(a_mo, oX8 a_moR mo_e mo_f mo_codes mo_most mo_minus mo_low mo_function mo_atX mo_atM a_moK a_moH a_moS mo_spanFunction mo_spanRounding mo_spanMany a_moF a_moT mo_parts mo_shift a_moP a_moQ a_moA a_moB a_moD), (a_moR, .inl (cI, 7, .inl moR_r))] H → va_D A [(a_mo, oX8 a_moR mo_e mo_f mo_codes mo_most mo_minus mo_low mo_function mo_atX mo_atM a_moK a_moH a_moS mo_spanFunction mo_spanRounding mo_spanMany a_moF a_moT mo_parts mo_shift a_moP a_moQ a_moA a_moB a_moD), (a_moR, .inl (cI, 7, .inl moR_r))] → va_S A s.heap H locs → lv_has ls 4 [(0, .ref a_mo)] → W p l e R s m args below meth c H locs 0 0 Q (F0 m 16 ls []) := by
    intro moR_r H locs ls ho hP hD hS hl
    unfold wp_X8_between_16 at ho
    refine lv_aload_n hx hb dX8_between_16 rfl (lv_at hl 0 rfl) ?_
    refine lv_iconst (v := (-1)) hx hb dX8_between_17 (by decide) ?_
    refine ca_Wi (b := a_mo) (As := [.int (-1 : Int32)]) (rest := []) (wr := []) (wo := fun (u : (Nat → Int32)) => [(a_mo, oX8 a_moR mo_e mo_f mo_codes mo_most mo_minus mo_low mo_function mo_atX mo_atM a_moK a_moH a_moS mo_spanFunction mo_spanRounding mo_spanMany a_moF a_moT mo_parts mo_shift a_moP a_moQ a_moA a_moB a_moD), (a_moR, .inl (cI, 7, .inl u))]) (wn := fun (u : (Nat → Int32)) => [(a_mo, oX8 a_moR mo_e mo_f mo_codes mo_most mo_minus mo_low mo_function mo_atX mo_atM a_moK a_moH a_moS mo_spanFunction mo_spanRounding mo_spanMany a_moF a_moT mo_parts mo_shift a_moP a_moQ a_moA a_moB a_moD), (a_moR, .inl (cI, 7, .inl u))]) ⟨hx, hb, hml, hown, hts⟩ (c_X8_refuse l D cI cJ cZ a_mo a_moR a_moK a_moH a_moS a_moF a_moT a_moP a_moQ a_moA a_moB a_moD H.size mo_e mo_f mo_codes mo_most mo_minus mo_low mo_function mo_atX mo_atM mo_spanFunction mo_spanRounding mo_spanMany mo_parts mo_shift moR_r (-1 : Int32) _ _ rfl ho) (cwV 1 hts (gdV wl_165 wl_166 wl_167 wl_5 wl_168) rfl rfl rfl (by decide +kernel) ⟨hRf _ (Nat.le_of_ble_eq_true rfl), hRl _ (Nat.le_of_ble_eq_true rfl)⟩) hK hN hP hD hS hA [0, 1] [] [0, 1] rfl rfl (by decide) (by decide) (by decide) (by decide) (fun _ => rfl) 0 7 rfl rfl rfl rfl hl.1 rfl (Nat.le_of_ble_eq_true rfl) dX8_between_18 ⟨Nat.zero_le _, Nat.zero_le _⟩ (fun r18 u18 H locs ho hP hD hS => ?_)
    try dsimp only at ho
    replace hP : va_P D vwCl [(a_mo, oX8 a_moR mo_e mo_f mo_codes mo_most mo_minus mo_low mo_function mo_atX mo_atM a_moK a_moH a_moS mo_spanFunction mo_spanRounding mo_spanMany a_moF a_moT mo_parts mo_shift a_moP a_moQ a_moA a_moB a_moD), (a_moR, .inl (cI, 7, .inl u18))] H := hP
    replace hD : va_D A [(a_mo, oX8 a_moR mo_e mo_f mo_codes mo_most mo_minus mo_low mo_function mo_atX mo_atM a_moK a_moH a_moS mo_spanFunction mo_spanRounding mo_spanMany a_moF a_moT mo_parts mo_shift a_moP a_moQ a_moA a_moB a_moD), (a_moR, .inl (cI, 7, .inl u18))] := hD
    subst hQ; exact W.iret (v := r18) hx hb hr (fun t ht hW => ⟨⟨r18, u18, rfl, ho, by rw [ht]; exact hP, hD⟩, hS.F ht⟩) (fun q hq => hS.2.2 q hq) dX8_between_21
  suffices main : ∀ (H : Heap) (locs : List Loc), va_P D vwCl [(a_mo, oX8 a_moR mo_e mo_f mo_codes mo_most mo_minus mo_low mo_function mo_atX mo_atM a_moK a_moH a_moS mo_spanFunction mo_spanRounding mo_spanMany a_moF a_moT mo_parts mo_shift a_moP a_moQ a_moA a_moB a_moD), (a_moR, .inl (cI, 7, .inl moR_r))] H → va_S A s.heap H locs → W p l e R s m args below meth c H locs 0 0 Q (F0 m 0 ls []) from main _ _ hP hS
  intro H locs hP hS
  unfold wp_X8_between at ho
  refine lv_aload_n hx hb dX8_between_0 rfl (lv_at hl 0 rfl) ?_
  refine lv_iload_n hx hb dX8_between_1 rfl (lv_at hl 1 rfl) ?_
  refine ca_Vi (b := a_mo) (As := [.int p1]) (rest := []) ⟨hx, hb, hml, hown, hts⟩ (c_X8_isCode l D cI cJ cZ a_mo a_moR a_moK a_moH a_moS a_moF a_moT a_moP a_moQ a_moA a_moB a_moD mo_e mo_f mo_codes mo_most mo_minus mo_low mo_function mo_atX mo_atM mo_spanFunction mo_spanRounding mo_spanMany mo_parts mo_shift p1 _ ho) (cwV 1 hts (gdV wl_250 wl_251 wl_252 wl_5 wl_253) rfl rfl rfl (by decide +kernel) ⟨hRf _ (Nat.le_of_ble_eq_true rfl), hRl _ (Nat.le_of_ble_eq_true rfl)⟩) hK hN hP [0] rfl 0 7 rfl rfl rfl rfl hl.1 rfl (Nat.le_of_ble_eq_true rfl) dX8_between_2 ⟨Nat.zero_le _, Nat.zero_le _⟩ (fun r2 ho => ?_)
  refine lv_if_eq (tgt := 16) hx hb dX8_between_5 (by decide) (fun c_5 => ?_) (fun c_5 => ?_)
  · replace ho := ho.1 c_5
    exact C_16 moR_r H locs ls ho hP hD hS (lv_sub hl [0] rfl)
  · replace ho := ho.2 c_5
    refine lv_aload_n hx hb dX8_between_8 rfl (lv_at hl 0 rfl) ?_
    refine lv_iload_n hx hb dX8_between_9 rfl (lv_at hl 2 rfl) ?_
    refine ca_Vi (b := a_mo) (As := [.int p2]) (rest := []) ⟨hx, hb, hml, hown, hts⟩ (c_X8_isCode l D cI cJ cZ a_mo a_moR a_moK a_moH a_moS a_moF a_moT a_moP a_moQ a_moA a_moB a_moD mo_e mo_f mo_codes mo_most mo_minus mo_low mo_function mo_atX mo_atM mo_spanFunction mo_spanRounding mo_spanMany mo_parts mo_shift p2 _ ho) (cwV 1 hts (gdV wl_250 wl_251 wl_252 wl_5 wl_253) rfl rfl rfl (by decide +kernel) ⟨hRf _ (Nat.le_of_ble_eq_true rfl), hRl _ (Nat.le_of_ble_eq_true rfl)⟩) hK hN hP [0] rfl 0 7 rfl rfl rfl rfl hl.1 rfl (Nat.le_of_ble_eq_true rfl) dX8_between_10 ⟨Nat.zero_le _, Nat.zero_le _⟩ (fun r10 ho => ?_)
    refine lv_if_ne (tgt := 22) hx hb dX8_between_13 (by decide) (fun c_13 => ?_) (fun c_13 => ?_)
    · replace ho := ho.1 c_13
      refine lv_aload_n hx hb dX8_between_22 rfl (lv_at hl 0 rfl) ?_
      refine lv_iload_n hx hb dX8_between_23 rfl (lv_at hl 1 rfl) ?_
      refine ca_Vi (b := a_mo) (As := [.int p1]) (rest := []) ⟨hx, hb, hml, hown, hts⟩ (c_X8_isPlain l D cI cJ cZ a_mo a_moR a_moK a_moH a_moS a_moF a_moT a_moP a_moQ a_moA a_moB a_moD mo_e mo_f mo_codes mo_most mo_minus mo_low mo_function mo_atX mo_atM mo_spanFunction mo_spanRounding mo_spanMany mo_parts mo_shift p1 _ ho) (cwV 1 hts (gdV wl_270 wl_271 wl_272 wl_5 wl_273) rfl rfl rfl (by decide +kernel) ⟨hRf _ (Nat.le_of_ble_eq_true rfl), hRl _ (Nat.le_of_ble_eq_true rfl)⟩) hK hN hP [0] rfl 0 7 rfl rfl rfl rfl hl.1 rfl (Nat.le_of_ble_eq_true rfl) dX8_between_24 ⟨Nat.zero_le _, Nat.zero_le _⟩ (fun r24 ho => ?_)
      refine lv_if_eq (tgt := 38) hx hb dX8_between_27 (by decide) (fun c_27 => ?_) (fun c_27 => ?_)
      · replace ho := ho.1 c_27
        exact C_38 moR_r H locs ls ho hP hD hS (lv_sub hl [0] rfl)
      · replace ho := ho.2 c_27
        refine lv_aload_n hx hb dX8_between_30 rfl (lv_at hl 0 rfl) ?_
        refine lv_iload_n hx hb dX8_between_31 rfl (lv_at hl 2 rfl) ?_
        refine ca_Vi (b := a_mo) (As := [.int p2]) (rest := []) ⟨hx, hb, hml, hown, hts⟩ (c_X8_isPlain l D cI cJ cZ a_mo a_moR a_moK a_moH a_moS a_moF a_moT a_moP a_moQ a_moA a_moB a_moD mo_e mo_f mo_codes mo_most mo_minus mo_low mo_function mo_atX mo_atM mo_spanFunction mo_spanRounding mo_spanMany mo_parts mo_shift p2 _ ho) (cwV 1 hts (gdV wl_270 wl_271 wl_272 wl_5 wl_273) rfl rfl rfl (by decide +kernel) ⟨hRf _ (Nat.le_of_ble_eq_true rfl), hRl _ (Nat.le_of_ble_eq_true rfl)⟩) hK hN hP [0] rfl 0 7 rfl rfl rfl rfl hl.1 rfl (Nat.le_of_ble_eq_true rfl) dX8_between_32 ⟨Nat.zero_le _, Nat.zero_le _⟩ (fun r32 ho => ?_)
        refine lv_if_ne (tgt := 45) hx hb dX8_between_35 (by decide) (fun c_35 => ?_) (fun c_35 => ?_)
        · replace ho := ho.1 c_35
          refine lv_aload_n hx hb dX8_between_45 rfl (lv_at hl 0 rfl) ?_
          refine lv_iload_n hx hb dX8_between_46 rfl (lv_at hl 1 rfl) ?_
          refine ca_Vi (b := a_mo) (As := [.int p1]) (rest := []) ⟨hx, hb, hml, hown, hts⟩ (c_X8_placeOf l D cI cJ cZ a_mo a_moR a_moK a_moH a_moS a_moF a_moT a_moP a_moQ a_moA a_moB a_moD mo_e mo_f mo_codes mo_most mo_minus mo_low mo_function mo_atX mo_atM mo_spanFunction mo_spanRounding mo_spanMany mo_parts mo_shift p1 _ ho) (cwV 1 hts (gdV wl_313 wl_314 wl_315 wl_5 wl_316) rfl rfl rfl (by decide +kernel) ⟨hRf _ (Nat.le_of_ble_eq_true rfl), hRl _ (Nat.le_of_ble_eq_true rfl)⟩) hK hN hP [0] rfl 0 7 rfl rfl rfl rfl hl.1 rfl (Nat.le_of_ble_eq_true rfl) dX8_between_47 ⟨Nat.zero_le _, Nat.zero_le _⟩ (fun r47 ho => ?_)
          refine lv_aload_n hx hb dX8_between_50 rfl (lv_at hl 0 rfl) ?_
          refine lv_iload_n hx hb dX8_between_51 rfl (lv_at hl 2 rfl) ?_
          refine ca_Vi (b := a_mo) (As := [.int p2]) (rest := [.int r47]) ⟨hx, hb, hml, hown, hts⟩ (c_X8_placeOf l D cI cJ cZ a_mo a_moR a_moK a_moH a_moS a_moF a_moT a_moP a_moQ a_moA a_moB a_moD mo_e mo_f mo_codes mo_most mo_minus mo_low mo_function mo_atX mo_atM mo_spanFunction mo_spanRounding mo_spanMany mo_parts mo_shift p2 _ ho) (cwV 1 hts (gdV wl_313 wl_314 wl_315 wl_5 wl_316) rfl rfl rfl (by decide +kernel) ⟨hRf _ (Nat.le_of_ble_eq_true rfl), hRl _ (Nat.le_of_ble_eq_true rfl)⟩) hK hN hP [0] rfl 0 7 rfl rfl rfl rfl hl.1 rfl (Nat.le_of_ble_eq_true rfl) dX8_between_52 ⟨Nat.zero_le _, Nat.zero_le _⟩ (fun r52 ho => ?_)
          refine lv_isub hx hb dX8_between_55 ?_
          refine va_mabs hx hb (hml.trans hl.1.symm) hown (hts _ wl_312) (hts _ wl_304) (hts _ wl_244) (hts _ wl_305) (hRf 1 (Nat.le_of_ble_eq_true rfl)) (hRl _ (Nat.le_of_ble_eq_true rfl)) (Nat.zero_le _) (Nat.zero_le _) dX8_between_56 ?_
          refine lv_istore_n (lv' := [(3, .int (if 0 ≤ (r47 - r52) then (r47 - r52) else 0 - (r47 - r52))), (0, .ref a_mo), (1, .int p1), (2, .int p2)]) hx hb dX8_between_59 rfl hl (by decide) rfl (fun ls hl => ?_)
          refine lv_iload_n hx hb dX8_between_60 rfl (lv_at hl 0 rfl) ?_
          refine lv_if_ne (tgt := 68) hx hb dX8_between_61 (by decide) (fun c_61 => ?_) (fun c_61 => ?_)
          · replace ho := ho.1 c_61
            refine lv_iload_n hx hb dX8_between_68 rfl (lv_at hl 0 rfl) ?_
            refine lv_iconst (v := 1) hx hb dX8_between_69 (by decide) ?_
            refine lv_isub hx hb dX8_between_70 ?_
            subst hQ; exact W.iret (v := ((if 0 ≤ (r47 - r52) then (r47 - r52) else 0 - (r47 - r52)) - (1 : Int32))) hx hb hr (fun t ht hW => ⟨⟨((if 0 ≤ (r47 - r52) then (r47 - r52) else 0 - (r47 - r52)) - (1 : Int32)), moR_r, rfl, ho, by rw [ht]; exact hP, hD⟩, hS.F ht⟩) (fun q hq => hS.2.2 q hq) dX8_between_71
          · replace ho := ho.2 c_61
            refine lv_iconst (v := 0) hx hb dX8_between_64 (by decide) ?_
            refine lv_goto (tgt := 71) hx hb dX8_between_65 (by decide) ?_
            subst hQ; exact W.iret (v := (0 : Int32)) hx hb hr (fun t ht hW => ⟨⟨(0 : Int32), moR_r, rfl, ho, by rw [ht]; exact hP, hD⟩, hS.F ht⟩) (fun q hq => hS.2.2 q hq) dX8_between_71
        · replace ho := ho.2 c_35
          exact C_38 moR_r H locs ls ho hP hD hS (lv_sub hl [0] rfl)
    · replace ho := ho.2 c_13
      exact C_16 moR_r H locs ls ho hP hD hS (lv_sub hl [0] rfl)

def w_X8_bits : List Cond := .code yX8_bits cX8_bits 5 (some .int) :: wsL_law
set_option maxHeartbeats 4000000 in
set_option maxRecDepth 100000 in
theorem c_X8_bits (l : Launch) (D : va_G) (cI cJ cZ : ClassId)   (p1 : Int64) (post : Int32 → Prop) (ho : wp_X8_bits post p1) : Met l yX8_bits w_X8_bits ({ frames := 0, cells := 0, slots := 0, locals := 0 } : Room) (ro_P D [(cI, .int), (cJ, .long), (cZ, .boolean)] [.long p1] []) (vp_Si post) 0 0 (fun _ => False) := by
  refine Met.ofW (cc := cX8_bits) (maxL := 5) (ret := (some .int)) (by decide) rfl ?_
  intro p e s m args below meth c s₁ B hml hv
  obtain ⟨hargs, hP, hK, hN⟩ := hv
  have hx := B.exec
  have hb := B.bytes
  have hr := B.returns
  have hts : ∀ w ∈ wsL_law, w.before args s = true := fun w h => atoms_spec (ws := w_X8_bits) B.pre w (List.mem_cons_of_mem _ h)
  have hown : s.vm.findClass RX8 = some m.cls := findClass_of_methodNamed B.named
  have hlocks := B.notSynchronized
  have hl := lv_entry ([.long p1]) (n := 5) (Nat.le_of_ble_eq_true rfl)
  rw [hargs, lg_entry_eq, ← hargs]
  generalize (lg_sl ([.long p1]) ++ List.replicate (5 - (lg_sl ([.long p1])).length) Slot.unset).toArray = ls at hl ⊢
  replace hl : lv_has ls 5 [(0, .long p1)] := hl
  have hRf : ∀ n, n ≤ 0 → n ≤ (headSpec w_X8_bits ({ frames := 0, cells := 0, slots := 0, locals := 0 } : Room)).room.frames := fun n h => h
  have hRl : ∀ n, n ≤ 0 → n ≤ (headSpec w_X8_bits ({ frames := 0, cells := 0, slots := 0, locals := 0 } : Room)).room.locals := fun n h => h
  generalize (headSpec w_X8_bits ({ frames := 0, cells := 0, slots := 0, locals := 0 } : Room)).room = R at hRf hRl ⊢
  generalize hQ : MQ below _ args s 0 0 _ = Q
  have C_4 : ∀ n : Nat, ∀ (x2 : Int32) (x3 : Int64) (ls : Array Slot), wp_X8_bits_4 post   n x2 x3 → lv_has ls 5 [(2, .int x2), (3, .long x3)] → W p l e R s m args below meth c s.heap [] 0 0 Q (F0 m 4 ls []) := by
    intro n
    induction n with
    | zero => intro x2 x3 ls ho hl; exact ho.elim
    | succ n_4 ih_4 =>
      intro x2 x3 ls ho hl
      replace ho : wp_X8_bits_4_b post  (wp_X8_bits_4 post  n_4) x2 x3 := ho
      unfold wp_X8_bits_4_b at ho
      refine lv_lload_n hx hb dX8_bits_4 rfl (lv_at hl 1 rfl) ?_
      refine lv_lconst (v := 0) hx hb dX8_bits_5 (by decide) ?_
      refine W.lcmp hx hb dX8_bits_6 ?_
      refine lv_if_le (tgt := 20) hx hb dX8_bits_7 (by decide) (fun c_7 => ?_) (fun c_7 => ?_)
      · replace ho := ho.1 c_7
        refine lv_iload_n hx hb dX8_bits_20 rfl (lv_at hl 0 rfl) ?_
        subst hQ; exact W.iret (v := x2) hx hb hr (fun t ht _ => ⟨x2, rfl, ho, ht⟩) (fun _ h => by cases h) dX8_bits_21
      · replace ho := ho.2 c_7
        refine lv_iinc (v := (x2 + (1 : Int32))) (lv' := [(2, .int (x2 + (1 : Int32))), (3, .long x3)]) hx hb dX8_bits_10 hl (k := 0) rfl rfl (by decide) rfl (fun ls hl => ?_)
        refine lv_lload_n hx hb dX8_bits_13 rfl (lv_at hl 1 rfl) ?_
        refine lv_iconst (v := 1) hx hb dX8_bits_14 (by decide) ?_
        refine lv_lshr hx hb dX8_bits_15 rfl ?_
        refine lv_lstore_n (lv' := [(3, .long (x3 >>> ((1 : Int32).toInt64 &&& 63))), (2, .int (x2 + (1 : Int32)))]) hx hb dX8_bits_16 rfl hl (by decide) rfl (fun ls hl => ?_)
        refine lv_goto (tgt := 4) hx hb dX8_bits_17 (by decide) ?_
        exact ih_4 (x2 + (1 : Int32)) (x3 >>> ((1 : Int32).toInt64 &&& 63)) ls ho (lv_sub hl [1, 0] rfl)
  unfold wp_X8_bits at ho
  refine lv_iconst (v := 0) hx hb dX8_bits_0 (by decide) ?_
  refine lv_istore_n (lv' := [(2, .int (0 : Int32)), (0, .long p1)]) hx hb dX8_bits_1 rfl hl (by decide) rfl (fun ls hl => ?_)
  refine lv_lload_n hx hb dX8_bits_2 rfl (lv_at hl 1 rfl) ?_
  refine lv_lstore_n (lv' := [(3, .long p1), (2, .int (0 : Int32)), (0, .long p1)]) hx hb dX8_bits_3 rfl hl (by decide) rfl (fun ls hl => ?_)
  obtain ⟨n_4, ho⟩ := ho
  exact C_4 n_4 (0 : Int32) p1 ls ho (lv_sub hl [1, 0] rfl)

def w_X8_compare : List Cond := .code yX8_compare cX8_compare 12 (some .int) :: wsL_law
set_option maxHeartbeats 4000000 in
set_option maxRecDepth 100000 in
theorem c_X8_compare (l : Launch) (D : va_G) (cI cJ cZ : ClassId)   (p1 : Int64) (p2 : Int32) (p3 : Int64) (p4 : Int32) (post : Int32 → Prop) (ho : wp_X8_compare post p1 p2 p3 p4) : Met l yX8_compare w_X8_compare ({ frames := 1, cells := 0, slots := 0, locals := 24 } : Room) (ro_P D [(cI, .int), (cJ, .long), (cZ, .boolean)] [.long p1, .int p2, .long p3, .int p4] []) (vp_Si post) 0 0 (fun _ => False) := by
  refine Met.ofW (cc := cX8_compare) (maxL := 12) (ret := (some .int)) (by decide) rfl ?_
  intro p e s m args below meth c s₁ B hml hv
  obtain ⟨hargs, hP, hK, hN⟩ := hv
  have hx := B.exec
  have hb := B.bytes
  have hr := B.returns
  have hts : ∀ w ∈ wsL_law, w.before args s = true := fun w h => atoms_spec (ws := w_X8_compare) B.pre w (List.mem_cons_of_mem _ h)
  have hown : s.vm.findClass RX8 = some m.cls := findClass_of_methodNamed B.named
  have hlocks := B.notSynchronized
  have hl := lv_entry ([.long p1, .int p2, .long p3, .int p4]) (n := 12) (Nat.le_of_ble_eq_true rfl)
  rw [hargs, lg_entry_eq, ← hargs]
  generalize (lg_sl ([.long p1, .int p2, .long p3, .int p4]) ++ List.replicate (12 - (lg_sl ([.long p1, .int p2, .long p3, .int p4])).length) Slot.unset).toArray = ls at hl ⊢
  replace hl : lv_has ls 12 [(0, .long p1), (2, .int p2), (3, .long p3), (5, .int p4)] := hl
  have hRf : ∀ n, n ≤ 1 → n ≤ (headSpec w_X8_compare ({ frames := 1, cells := 0, slots := 0, locals := 24 } : Room)).room.frames := fun n h => h
  have hRl : ∀ n, n ≤ 24 → n ≤ (headSpec w_X8_compare ({ frames := 1, cells := 0, slots := 0, locals := 24 } : Room)).room.locals := fun n h => h
  generalize (headSpec w_X8_compare ({ frames := 1, cells := 0, slots := 0, locals := 24 } : Room)).room = R at hRf hRl ⊢
  generalize hQ : MQ below _ args s 0 0 _ = Q
  have C_105 : ∀ (x8 : Int64) (y0 : Int64) (ls : Array Slot), wp_X8_compare_105 post  x8 y0 → lv_has ls 12 [(8, .long x8)] → W p l e R s m args below meth c s.heap [] 0 0 Q (F0 m 105 ls [.long y0]) := by
    intro x8 y0 ls ho hl
    unfold wp_X8_compare_105 at ho
    refine lv_lstore (lv' := [(10, .long y0), (8, .long x8)]) hx hb dX8_compare_105 hl (by decide) rfl (fun ls hl => ?_)
    refine lv_lload hx hb dX8_compare_107 (lv_at hl 1 rfl) ?_
    refine lv_lload hx hb dX8_compare_109 (lv_at hl 0 rfl) ?_
    refine W.lcmp hx hb dX8_compare_111 ?_
    refine lv_if_ge (tgt := 119) hx hb dX8_compare_112 (by decide) (fun c_112 => ?_) (fun c_112 => ?_)
    · replace ho := ho.1 c_112
      refine lv_lload hx hb dX8_compare_119 (lv_at hl 1 rfl) ?_
      refine lv_lload hx hb dX8_compare_121 (lv_at hl 0 rfl) ?_
      refine W.lcmp hx hb dX8_compare_123 ?_
      refine lv_if_le (tgt := 131) hx hb dX8_compare_124 (by decide) (fun c_124 => ?_) (fun c_124 => ?_)
      · replace ho := ho.1 c_124
        refine lv_iconst (v := 0) hx hb dX8_compare_131 (by decide) ?_
        subst hQ; exact W.iret (v := (0 : Int32)) hx hb hr (fun t ht _ => ⟨(0 : Int32), rfl, ho, ht⟩) (fun _ h => by cases h) dX8_compare_132
      · replace ho := ho.2 c_124
        refine lv_iconst (v := 1) hx hb dX8_compare_127 (by decide) ?_
        refine lv_goto (tgt := 132) hx hb dX8_compare_128 (by decide) ?_
        subst hQ; exact W.iret (v := (1 : Int32)) hx hb hr (fun t ht _ => ⟨(1 : Int32), rfl, ho, ht⟩) (fun _ h => by cases h) dX8_compare_132
    · replace ho := ho.2 c_112
      refine lv_iconst (v := (-1)) hx hb dX8_compare_115 (by decide) ?_
      refine lv_goto (tgt := 132) hx hb dX8_compare_116 (by decide) ?_
      subst hQ; exact W.iret (v := (-1 : Int32)) hx hb hr (fun t ht _ => ⟨(-1 : Int32), rfl, ho, ht⟩) (fun _ h => by cases h) dX8_compare_132
  have C_87 : ∀ (y0 : Int64) (ls : Array Slot), wp_X8_compare_87 post  p2 p3 p4 y0 → lv_has ls 12 [(2, .int p2), (3, .long p3), (5, .int p4)] → W p l e R s m args below meth c s.heap [] 0 0 Q (F0 m 87 ls [.long y0]) := by
    intro y0 ls ho hl
    unfold wp_X8_compare_87 at ho
    refine lv_lstore (lv' := [(8, .long y0), (2, .int p2), (3, .long p3), (5, .int p4)]) hx hb dX8_compare_87 hl (by decide) rfl (fun ls hl => ?_)
    refine lv_iload hx hb dX8_compare_89 (lv_at hl 3 rfl) ?_
    refine lv_iload_n hx hb dX8_compare_91 rfl (lv_at hl 1 rfl) ?_
    refine lv_icmp_le (tgt := 104) hx hb dX8_compare_92 (by decide) (fun c_92 => ?_) (fun c_92 => ?_)
    · replace ho := ho.1 c_92
      refine lv_lload_n hx hb dX8_compare_104 rfl (lv_at hl 2 rfl) ?_
      exact C_105 y0 p3 ls ho (lv_sub hl [0] rfl)
    · replace ho := ho.2 c_92
      refine lv_lload_n hx hb dX8_compare_95 rfl (lv_at hl 2 rfl) ?_
      refine lv_iload hx hb dX8_compare_96 (lv_at hl 3 rfl) ?_
      refine lv_iload_n hx hb dX8_compare_98 rfl (lv_at hl 1 rfl) ?_
      refine lv_isub hx hb dX8_compare_99 ?_
      refine lv_lshl hx hb dX8_compare_100 rfl ?_
      refine lv_goto (tgt := 105) hx hb dX8_compare_101 (by decide) ?_
      exact C_105 y0 (p3 <<< ((p4 - p2).toInt64 &&& 63)) ls ho (lv_sub hl [0] rfl)
  have C_12 : ∀  (ls : Array Slot), wp_X8_compare_12 post  p1 p3 → lv_has ls 12 [(0, .long p1), (3, .long p3)] → W p l e R s m args below meth c s.heap [] 0 0 Q (F0 m 12 ls []) := by
    intro  ls ho hl
    unfold wp_X8_compare_12 at ho
    refine lv_lload_n hx hb dX8_compare_12 rfl (lv_at hl 0 rfl) ?_
    refine lv_lload_n hx hb dX8_compare_13 rfl (lv_at hl 1 rfl) ?_
    refine W.lcmp hx hb dX8_compare_14 ?_
    refine lv_if_ne (tgt := 22) hx hb dX8_compare_15 (by decide) (fun c_15 => ?_) (fun c_15 => ?_)
    · replace ho := ho.1 c_15
      refine lv_lload_n hx hb dX8_compare_22 rfl (lv_at hl 0 rfl) ?_
      refine lv_lconst (v := 0) hx hb dX8_compare_23 (by decide) ?_
      refine W.lcmp hx hb dX8_compare_24 ?_
      refine lv_if_ne (tgt := 32) hx hb dX8_compare_25 (by decide) (fun c_25 => ?_) (fun c_25 => ?_)
      · replace ho := ho.1 c_25
        refine lv_iconst (v := 1) hx hb dX8_compare_32 (by decide) ?_
        subst hQ; exact W.iret (v := (1 : Int32)) hx hb hr (fun t ht _ => ⟨(1 : Int32), rfl, ho, ht⟩) (fun _ h => by cases h) dX8_compare_33
      · replace ho := ho.2 c_25
        refine lv_iconst (v := (-1)) hx hb dX8_compare_28 (by decide) ?_
        refine lv_goto (tgt := 33) hx hb dX8_compare_29 (by decide) ?_
        subst hQ; exact W.iret (v := (-1 : Int32)) hx hb hr (fun t ht _ => ⟨(-1 : Int32), rfl, ho, ht⟩) (fun _ h => by cases h) dX8_compare_33
    · replace ho := ho.2 c_15
      refine lv_iconst (v := 0) hx hb dX8_compare_18 (by decide) ?_
      refine lv_goto (tgt := 33) hx hb dX8_compare_19 (by decide) ?_
      subst hQ; exact W.iret (v := (0 : Int32)) hx hb hr (fun t ht _ => ⟨(0 : Int32), rfl, ho, ht⟩) (fun _ h => by cases h) dX8_compare_33
  unfold wp_X8_compare at ho
  refine lv_lload_n hx hb dX8_compare_0 rfl (lv_at hl 0 rfl) ?_
  refine lv_lconst (v := 0) hx hb dX8_compare_1 (by decide) ?_
  refine W.lcmp hx hb dX8_compare_2 ?_
  refine lv_if_eq (tgt := 12) hx hb dX8_compare_3 (by decide) (fun c_3 => ?_) (fun c_3 => ?_)
  · replace ho := ho.1 c_3
    exact C_12  ls ho (lv_sub hl [0, 2] rfl)
  · replace ho := ho.2 c_3
    refine lv_lload_n hx hb dX8_compare_6 rfl (lv_at hl 2 rfl) ?_
    refine lv_lconst (v := 0) hx hb dX8_compare_7 (by decide) ?_
    refine W.lcmp hx hb dX8_compare_8 ?_
    refine lv_if_ne (tgt := 34) hx hb dX8_compare_9 (by decide) (fun c_9 => ?_) (fun c_9 => ?_)
    · replace ho := ho.1 c_9
      refine lv_lload_n hx hb dX8_compare_34 rfl (lv_at hl 0 rfl) ?_
      refine ca_Si (As := [.long p1]) (rest := []) ⟨hx, hb, hml, hown, hts⟩ (c_X8_bits l D cI cJ cZ   p1 _ ho) (va_cwS 1 hts (gdS wl_385 wl_386 wl_5 wl_387) rfl rfl rfl (by decide +kernel) ⟨hRf _ (Nat.le_of_ble_eq_true rfl), hRl _ (Nat.le_of_ble_eq_true rfl)⟩) hK hN hP [] rfl rfl hl.1 rfl (Nat.le_of_ble_eq_true rfl) dX8_compare_35 ⟨Nat.zero_le _, Nat.zero_le _⟩ (fun r35 ho => ?_)
      refine lv_iload_n hx hb dX8_compare_38 rfl (lv_at hl 1 rfl) ?_
      refine lv_iadd hx hb dX8_compare_39 ?_
      refine lv_istore (lv' := [(6, .int (r35 + p2)), (0, .long p1), (2, .int p2), (3, .long p3), (5, .int p4)]) hx hb dX8_compare_40 hl (by decide) rfl (fun ls hl => ?_)
      refine lv_lload_n hx hb dX8_compare_42 rfl (lv_at hl 3 rfl) ?_
      refine ca_Si (As := [.long p3]) (rest := []) ⟨hx, hb, hml, hown, hts⟩ (c_X8_bits l D cI cJ cZ   p3 _ ho) (va_cwS 1 hts (gdS wl_385 wl_386 wl_5 wl_387) rfl rfl rfl (by decide +kernel) ⟨hRf _ (Nat.le_of_ble_eq_true rfl), hRl _ (Nat.le_of_ble_eq_true rfl)⟩) hK hN hP [] rfl rfl hl.1 rfl (Nat.le_of_ble_eq_true rfl) dX8_compare_43 ⟨Nat.zero_le _, Nat.zero_le _⟩ (fun r43 ho => ?_)
      refine lv_iload hx hb dX8_compare_46 (lv_at hl 4 rfl) ?_
      refine lv_iadd hx hb dX8_compare_48 ?_
      refine lv_istore (lv' := [(7, .int (r43 + p4)), (6, .int (r35 + p2)), (0, .long p1), (2, .int p2), (3, .long p3), (5, .int p4)]) hx hb dX8_compare_49 hl (by decide) rfl (fun ls hl => ?_)
      refine lv_iload hx hb dX8_compare_51 (lv_at hl 1 rfl) ?_
      refine lv_iload hx hb dX8_compare_53 (lv_at hl 0 rfl) ?_
      refine lv_icmp_eq (tgt := 71) hx hb dX8_compare_55 (by decide) (fun c_55 => ?_) (fun c_55 => ?_)
      · replace ho := ho.1 c_55
        refine lv_iload_n hx hb dX8_compare_71 rfl (lv_at hl 3 rfl) ?_
        refine lv_iload hx hb dX8_compare_72 (lv_at hl 5 rfl) ?_
        refine lv_icmp_le (tgt := 86) hx hb dX8_compare_74 (by decide) (fun c_74 => ?_) (fun c_74 => ?_)
        · replace ho := ho.1 c_74
          refine lv_lload_n hx hb dX8_compare_86 rfl (lv_at hl 2 rfl) ?_
          exact C_87 p1 ls ho (lv_sub hl [3, 4, 5] rfl)
        · replace ho := ho.2 c_74
          refine lv_lload_n hx hb dX8_compare_77 rfl (lv_at hl 2 rfl) ?_
          refine lv_iload_n hx hb dX8_compare_78 rfl (lv_at hl 3 rfl) ?_
          refine lv_iload hx hb dX8_compare_79 (lv_at hl 5 rfl) ?_
          refine lv_isub hx hb dX8_compare_81 ?_
          refine lv_lshl hx hb dX8_compare_82 rfl ?_
          refine lv_goto (tgt := 87) hx hb dX8_compare_83 (by decide) ?_
          exact C_87 (p1 <<< ((p2 - p4).toInt64 &&& 63)) ls ho (lv_sub hl [3, 4, 5] rfl)
      · replace ho := ho.2 c_55
        refine lv_iload hx hb dX8_compare_58 (lv_at hl 1 rfl) ?_
        refine lv_iload hx hb dX8_compare_60 (lv_at hl 0 rfl) ?_
        refine lv_icmp_ge (tgt := 69) hx hb dX8_compare_62 (by decide) (fun c_62 => ?_) (fun c_62 => ?_)
        · replace ho := ho.1 c_62
          refine lv_iconst (v := 1) hx hb dX8_compare_69 (by decide) ?_
          subst hQ; exact W.iret (v := (1 : Int32)) hx hb hr (fun t ht _ => ⟨(1 : Int32), rfl, ho, ht⟩) (fun _ h => by cases h) dX8_compare_70
        · replace ho := ho.2 c_62
          refine lv_iconst (v := (-1)) hx hb dX8_compare_65 (by decide) ?_
          refine lv_goto (tgt := 70) hx hb dX8_compare_66 (by decide) ?_
          subst hQ; exact W.iret (v := (-1 : Int32)) hx hb hr (fun t ht _ => ⟨(-1 : Int32), rfl, ho, ht⟩) (fun _ h => by cases h) dX8_compare_70
    · replace ho := ho.2 c_9
      exact C_12  ls ho (lv_sub hl [0, 2] rfl)

def w_X8_stands : List Cond := .code yX8_stands cX8_stands 4 (some .int) :: wsL_law
set_option maxHeartbeats 4000000 in
set_option maxRecDepth 100000 in
theorem c_X8_stands (l : Launch) (D : va_G) (cI cJ cZ : ClassId) (a_mo : Nat) (a_moR : Nat) (a_moK : Nat) (a_moH : Nat) (a_moS : Nat) (a_moF : Nat) (a_moT : Nat) (a_moP : Nat) (a_moQ : Nat) (a_moA : Nat) (a_moB : Nat) (a_moD : Nat) (mo_e : Int32) (mo_f : Int32) (mo_codes : Int32) (mo_most : Int32) (mo_minus : Int32) (mo_low : Int32) (mo_function : Int32) (mo_atX : Int32) (mo_atM : Int64) (mo_spanFunction : Int32) (mo_spanRounding : Int32) (mo_spanMany : Int32) (mo_parts : Int32) (mo_shift : Int32) (p1 : Int64) (p2 : Int32) (post : Int32 → Prop) (ho : wp_X8_stands post mo_function mo_atX mo_atM p1 p2) : Met l yX8_stands w_X8_stands ({ frames := 2, cells := 0, slots := 0, locals := 55 } : Room) (ro_P D [(cI, .int), (cJ, .long), (cZ, .boolean)] [.ref a_mo, .long p1, .int p2] [(a_mo, oX8 a_moR mo_e mo_f mo_codes mo_most mo_minus mo_low mo_function mo_atX mo_atM a_moK a_moH a_moS mo_spanFunction mo_spanRounding mo_spanMany a_moF a_moT mo_parts mo_shift a_moP a_moQ a_moA a_moB a_moD)]) (vp_Si post) 0 0 (fun _ => False) := by
  refine Met.ofW (cc := cX8_stands) (maxL := 4) (ret := (some .int)) (by decide) rfl ?_
  intro p e s m args below meth c s₁ B hml hv
  obtain ⟨hargs, hP, hK, hN⟩ := hv
  have hx := B.exec
  have hb := B.bytes
  have hr := B.returns
  have hts : ∀ w ∈ wsL_law, w.before args s = true := fun w h => atoms_spec (ws := w_X8_stands) B.pre w (List.mem_cons_of_mem _ h)
  have hown : s.vm.findClass RX8 = some m.cls := findClass_of_methodNamed B.named
  have hlocks := B.notSynchronized
  have hl := lv_entry ([.ref a_mo, .long p1, .int p2]) (n := 4) (Nat.le_of_ble_eq_true rfl)
  rw [hargs, lg_entry_eq, ← hargs]
  generalize (lg_sl ([.ref a_mo, .long p1, .int p2]) ++ List.replicate (4 - (lg_sl ([.ref a_mo, .long p1, .int p2])).length) Slot.unset).toArray = ls at hl ⊢
  replace hl : lv_has ls 4 [(0, .ref a_mo), (1, .long p1), (3, .int p2)] := hl
  have hRf : ∀ n, n ≤ 2 → n ≤ (headSpec w_X8_stands ({ frames := 2, cells := 0, slots := 0, locals := 55 } : Room)).room.frames := fun n h => h
  have hRl : ∀ n, n ≤ 55 → n ≤ (headSpec w_X8_stands ({ frames := 2, cells := 0, slots := 0, locals := 55 } : Room)).room.locals := fun n h => h
  generalize (headSpec w_X8_stands ({ frames := 2, cells := 0, slots := 0, locals := 55 } : Room)).room = R at hRf hRl ⊢
  generalize hQ : MQ below _ args s 0 0 _ = Q
  unfold wp_X8_stands at ho
  refine lv_aload_n hx hb dX8_stands_0 rfl (lv_at hl 0 rfl) ?_
  refine va_get (D := D) (ci := 7) (v := .int mo_function) (C := RX8) (T := TX8) (N := 25) hx hb hts inlX8 hown hK hP 0 rfl rfl 7 (by decide) (hts _ wl_367) (fun _ h9 => h9) rfl dX8_stands_1 ?_
  refine lv_topi (fun z_4 ez_4 => ?_)
  by_cases n_4_0 : z_4 = 0
  · replace ho := ho.1 (ez_4.symm.trans n_4_0)
    subst n_4_0
    refine lv_tableIn (tgt := 40) hx hb dX8_stands_4 (by decide) (by decide) rfl (by decide) ?_
    refine lv_lconst (v := 1) hx hb dX8_stands_40 (by decide) ?_
    refine lv_iconst (v := 0) hx hb dX8_stands_41 (by decide) ?_
    refine lv_aload_n hx hb dX8_stands_42 rfl (lv_at hl 0 rfl) ?_
    refine va_get (D := D) (ci := 7) (v := .long mo_atM) (C := RX8) (T := TX8) (N := 25) hx hb hts inlX8 hown hK hP 0 rfl rfl 9 (by decide) (hts _ wl_368) (fun _ h9 => h9) rfl dX8_stands_43 ?_
    refine lv_lload_n hx hb dX8_stands_46 rfl (lv_at hl 1 rfl) ?_
    refine lv_lmul hx hb dX8_stands_47 ?_
    refine lv_aload_n hx hb dX8_stands_48 rfl (lv_at hl 0 rfl) ?_
    refine va_get (D := D) (ci := 7) (v := .int mo_atX) (C := RX8) (T := TX8) (N := 25) hx hb hts inlX8 hown hK hP 0 rfl rfl 8 (by decide) (hts _ wl_369) (fun _ h9 => h9) rfl dX8_stands_49 ?_
    refine lv_iload_n hx hb dX8_stands_52 rfl (lv_at hl 2 rfl) ?_
    refine lv_iadd hx hb dX8_stands_53 ?_
    refine ca_Si (As := [.long (1 : Int64), .int (0 : Int32), .long (mo_atM * p1), .int (mo_atX + p2)]) (rest := []) ⟨hx, hb, hml, hown, hts⟩ (c_X8_compare l D cI cJ cZ   (1 : Int64) (0 : Int32) (mo_atM * p1) (mo_atX + p2) _ ho) (va_cwS 4 hts (gdS wl_382 wl_383 wl_5 wl_384) rfl rfl rfl (by decide +kernel) ⟨hRf _ (Nat.le_of_ble_eq_true rfl), hRl _ (Nat.le_of_ble_eq_true rfl)⟩) hK hN hP [] rfl rfl hl.1 rfl (Nat.le_of_ble_eq_true rfl) dX8_stands_54 ⟨Nat.zero_le _, Nat.zero_le _⟩ (fun r54 ho => ?_)
    subst hQ; exact W.iret (v := r54) hx hb hr (fun t ht _ => ⟨r54, rfl, ho, ht⟩) (fun _ h => by cases h) dX8_stands_57
  replace ho := ho.2 (fun h => n_4_0 (ez_4.trans h))
  by_cases n_4_1 : z_4 = 1
  · replace ho := ho.1 (ez_4.symm.trans n_4_1)
    subst n_4_1
    refine lv_tableIn (tgt := 58) hx hb dX8_stands_4 (by decide) (by decide) rfl (by decide) ?_
    refine lv_aload_n hx hb dX8_stands_58 rfl (lv_at hl 0 rfl) ?_
    refine va_get (D := D) (ci := 7) (v := .long mo_atM) (C := RX8) (T := TX8) (N := 25) hx hb hts inlX8 hown hK hP 0 rfl rfl 9 (by decide) (hts _ wl_368) (fun _ h9 => h9) rfl dX8_stands_59 ?_
    refine lv_aload_n hx hb dX8_stands_62 rfl (lv_at hl 0 rfl) ?_
    refine va_get (D := D) (ci := 7) (v := .int mo_atX) (C := RX8) (T := TX8) (N := 25) hx hb hts inlX8 hown hK hP 0 rfl rfl 8 (by decide) (hts _ wl_369) (fun _ h9 => h9) rfl dX8_stands_63 ?_
    refine lv_lload_n hx hb dX8_stands_66 rfl (lv_at hl 1 rfl) ?_
    refine lv_lload_n hx hb dX8_stands_67 rfl (lv_at hl 1 rfl) ?_
    refine lv_lmul hx hb dX8_stands_68 ?_
    refine lv_iconst (v := 2) hx hb dX8_stands_69 (by decide) ?_
    refine lv_iload_n hx hb dX8_stands_70 rfl (lv_at hl 2 rfl) ?_
    refine lv_imul hx hb dX8_stands_71 ?_
    refine ca_Si (As := [.long mo_atM, .int mo_atX, .long (p1 * p1), .int ((2 : Int32) * p2)]) (rest := []) ⟨hx, hb, hml, hown, hts⟩ (c_X8_compare l D cI cJ cZ   mo_atM mo_atX (p1 * p1) ((2 : Int32) * p2) _ ho) (va_cwS 4 hts (gdS wl_382 wl_383 wl_5 wl_384) rfl rfl rfl (by decide +kernel) ⟨hRf _ (Nat.le_of_ble_eq_true rfl), hRl _ (Nat.le_of_ble_eq_true rfl)⟩) hK hN hP [] rfl rfl hl.1 rfl (Nat.le_of_ble_eq_true rfl) dX8_stands_72 ⟨Nat.zero_le _, Nat.zero_le _⟩ (fun r72 ho => ?_)
    subst hQ; exact W.iret (v := r72) hx hb hr (fun t ht _ => ⟨r72, rfl, ho, ht⟩) (fun _ h => by cases h) dX8_stands_75
  replace ho := ho.2 (fun h => n_4_1 (ez_4.trans h))
  by_cases n_4_2 : z_4 = 2
  · replace ho := ho.1 (ez_4.symm.trans n_4_2)
    subst n_4_2
    refine lv_tableIn (tgt := 76) hx hb dX8_stands_4 (by decide) (by decide) rfl (by decide) ?_
    refine lv_aload_n hx hb dX8_stands_76 rfl (lv_at hl 0 rfl) ?_
    refine va_get (D := D) (ci := 7) (v := .long mo_atM) (C := RX8) (T := TX8) (N := 25) hx hb hts inlX8 hown hK hP 0 rfl rfl 9 (by decide) (hts _ wl_368) (fun _ h9 => h9) rfl dX8_stands_77 ?_
    refine lv_aload_n hx hb dX8_stands_80 rfl (lv_at hl 0 rfl) ?_
    refine va_get (D := D) (ci := 7) (v := .int mo_atX) (C := RX8) (T := TX8) (N := 25) hx hb hts inlX8 hown hK hP 0 rfl rfl 8 (by decide) (hts _ wl_369) (fun _ h9 => h9) rfl dX8_stands_81 ?_
    refine lv_lload_n hx hb dX8_stands_84 rfl (lv_at hl 1 rfl) ?_
    refine lv_lload_n hx hb dX8_stands_85 rfl (lv_at hl 1 rfl) ?_
    refine lv_lmul hx hb dX8_stands_86 ?_
    refine lv_lload_n hx hb dX8_stands_87 rfl (lv_at hl 1 rfl) ?_
    refine lv_lmul hx hb dX8_stands_88 ?_
    refine lv_iconst (v := 3) hx hb dX8_stands_89 (by decide) ?_
    refine lv_iload_n hx hb dX8_stands_90 rfl (lv_at hl 2 rfl) ?_
    refine lv_imul hx hb dX8_stands_91 ?_
    refine ca_Si (As := [.long mo_atM, .int mo_atX, .long ((p1 * p1) * p1), .int ((3 : Int32) * p2)]) (rest := []) ⟨hx, hb, hml, hown, hts⟩ (c_X8_compare l D cI cJ cZ   mo_atM mo_atX ((p1 * p1) * p1) ((3 : Int32) * p2) _ ho) (va_cwS 4 hts (gdS wl_382 wl_383 wl_5 wl_384) rfl rfl rfl (by decide +kernel) ⟨hRf _ (Nat.le_of_ble_eq_true rfl), hRl _ (Nat.le_of_ble_eq_true rfl)⟩) hK hN hP [] rfl rfl hl.1 rfl (Nat.le_of_ble_eq_true rfl) dX8_stands_92 ⟨Nat.zero_le _, Nat.zero_le _⟩ (fun r92 ho => ?_)
    subst hQ; exact W.iret (v := r92) hx hb hr (fun t ht _ => ⟨r92, rfl, ho, ht⟩) (fun _ h => by cases h) dX8_stands_95
  replace ho := ho.2 (fun h => n_4_2 (ez_4.trans h))
  by_cases n_4_3 : z_4 = 3
  · replace ho := ho.1 (ez_4.symm.trans n_4_3)
    subst n_4_3
    refine lv_tableIn (tgt := 96) hx hb dX8_stands_4 (by decide) (by decide) rfl (by decide) ?_
    refine lv_aload_n hx hb dX8_stands_96 rfl (lv_at hl 0 rfl) ?_
    refine va_get (D := D) (ci := 7) (v := .long mo_atM) (C := RX8) (T := TX8) (N := 25) hx hb hts inlX8 hown hK hP 0 rfl rfl 9 (by decide) (hts _ wl_368) (fun _ h9 => h9) rfl dX8_stands_97 ?_
    refine lv_aload_n hx hb dX8_stands_100 rfl (lv_at hl 0 rfl) ?_
    refine va_get (D := D) (ci := 7) (v := .long mo_atM) (C := RX8) (T := TX8) (N := 25) hx hb hts inlX8 hown hK hP 0 rfl rfl 9 (by decide) (hts _ wl_368) (fun _ h9 => h9) rfl dX8_stands_101 ?_
    refine lv_lmul hx hb dX8_stands_104 ?_
    refine lv_iconst (v := 2) hx hb dX8_stands_105 (by decide) ?_
    refine lv_aload_n hx hb dX8_stands_106 rfl (lv_at hl 0 rfl) ?_
    refine va_get (D := D) (ci := 7) (v := .int mo_atX) (C := RX8) (T := TX8) (N := 25) hx hb hts inlX8 hown hK hP 0 rfl rfl 8 (by decide) (hts _ wl_369) (fun _ h9 => h9) rfl dX8_stands_107 ?_
    refine lv_imul hx hb dX8_stands_110 ?_
    refine lv_lload_n hx hb dX8_stands_111 rfl (lv_at hl 1 rfl) ?_
    refine lv_iload_n hx hb dX8_stands_112 rfl (lv_at hl 2 rfl) ?_
    refine ca_Si (As := [.long (mo_atM * mo_atM), .int ((2 : Int32) * mo_atX), .long p1, .int p2]) (rest := []) ⟨hx, hb, hml, hown, hts⟩ (c_X8_compare l D cI cJ cZ   (mo_atM * mo_atM) ((2 : Int32) * mo_atX) p1 p2 _ ho) (va_cwS 4 hts (gdS wl_382 wl_383 wl_5 wl_384) rfl rfl rfl (by decide +kernel) ⟨hRf _ (Nat.le_of_ble_eq_true rfl), hRl _ (Nat.le_of_ble_eq_true rfl)⟩) hK hN hP [] rfl rfl hl.1 rfl (Nat.le_of_ble_eq_true rfl) dX8_stands_113 ⟨Nat.zero_le _, Nat.zero_le _⟩ (fun r113 ho => ?_)
    subst hQ; exact W.iret (v := r113) hx hb hr (fun t ht _ => ⟨r113, rfl, ho, ht⟩) (fun _ h => by cases h) dX8_stands_116
  replace ho := ho.2 (fun h => n_4_3 (ez_4.trans h))
  by_cases n_4_4 : z_4 = 4
  · replace ho := ho.1 (ez_4.symm.trans n_4_4)
    subst n_4_4
    refine lv_tableIn (tgt := 117) hx hb dX8_stands_4 (by decide) (by decide) rfl (by decide) ?_
    refine lv_aload_n hx hb dX8_stands_117 rfl (lv_at hl 0 rfl) ?_
    refine va_get (D := D) (ci := 7) (v := .long mo_atM) (C := RX8) (T := TX8) (N := 25) hx hb hts inlX8 hown hK hP 0 rfl rfl 9 (by decide) (hts _ wl_368) (fun _ h9 => h9) rfl dX8_stands_118 ?_
    refine lv_aload_n hx hb dX8_stands_121 rfl (lv_at hl 0 rfl) ?_
    refine va_get (D := D) (ci := 7) (v := .long mo_atM) (C := RX8) (T := TX8) (N := 25) hx hb hts inlX8 hown hK hP 0 rfl rfl 9 (by decide) (hts _ wl_368) (fun _ h9 => h9) rfl dX8_stands_122 ?_
    refine lv_lmul hx hb dX8_stands_125 ?_
    refine lv_aload_n hx hb dX8_stands_126 rfl (lv_at hl 0 rfl) ?_
    refine va_get (D := D) (ci := 7) (v := .long mo_atM) (C := RX8) (T := TX8) (N := 25) hx hb hts inlX8 hown hK hP 0 rfl rfl 9 (by decide) (hts _ wl_368) (fun _ h9 => h9) rfl dX8_stands_127 ?_
    refine lv_lmul hx hb dX8_stands_130 ?_
    refine lv_iconst (v := 3) hx hb dX8_stands_131 (by decide) ?_
    refine lv_aload_n hx hb dX8_stands_132 rfl (lv_at hl 0 rfl) ?_
    refine va_get (D := D) (ci := 7) (v := .int mo_atX) (C := RX8) (T := TX8) (N := 25) hx hb hts inlX8 hown hK hP 0 rfl rfl 8 (by decide) (hts _ wl_369) (fun _ h9 => h9) rfl dX8_stands_133 ?_
    refine lv_imul hx hb dX8_stands_136 ?_
    refine lv_lload_n hx hb dX8_stands_137 rfl (lv_at hl 1 rfl) ?_
    refine lv_iload_n hx hb dX8_stands_138 rfl (lv_at hl 2 rfl) ?_
    refine ca_Si (As := [.long ((mo_atM * mo_atM) * mo_atM), .int ((3 : Int32) * mo_atX), .long p1, .int p2]) (rest := []) ⟨hx, hb, hml, hown, hts⟩ (c_X8_compare l D cI cJ cZ   ((mo_atM * mo_atM) * mo_atM) ((3 : Int32) * mo_atX) p1 p2 _ ho) (va_cwS 4 hts (gdS wl_382 wl_383 wl_5 wl_384) rfl rfl rfl (by decide +kernel) ⟨hRf _ (Nat.le_of_ble_eq_true rfl), hRl _ (Nat.le_of_ble_eq_true rfl)⟩) hK hN hP [] rfl rfl hl.1 rfl (Nat.le_of_ble_eq_true rfl) dX8_stands_139 ⟨Nat.zero_le _, Nat.zero_le _⟩ (fun r139 ho => ?_)
    subst hQ; exact W.iret (v := r139) hx hb hr (fun t ht _ => ⟨r139, rfl, ho, ht⟩) (fun _ h => by cases h) dX8_stands_142
  replace ho := ho.2 (fun h => n_4_4 (ez_4.trans h))
  refine lv_tableOut (tgt := 143) hx hb dX8_stands_4 (by have q_4_0 := lv_neT (a := 0) n_4_0 rfl; have q_4_1 := lv_neT (a := 1) n_4_1 rfl; have q_4_2 := lv_neT (a := 2) n_4_2 rfl; have q_4_3 := lv_neT (a := 3) n_4_3 rfl; have q_4_4 := lv_neT (a := 4) n_4_4 rfl; omega) (by decide) ?_
  refine lv_aload_n hx hb dX8_stands_143 rfl (lv_at hl 0 rfl) ?_
  refine va_get (D := D) (ci := 7) (v := .long mo_atM) (C := RX8) (T := TX8) (N := 25) hx hb hts inlX8 hown hK hP 0 rfl rfl 9 (by decide) (hts _ wl_368) (fun _ h9 => h9) rfl dX8_stands_144 ?_
  refine lv_aload_n hx hb dX8_stands_147 rfl (lv_at hl 0 rfl) ?_
  refine va_get (D := D) (ci := 7) (v := .int mo_atX) (C := RX8) (T := TX8) (N := 25) hx hb hts inlX8 hown hK hP 0 rfl rfl 8 (by decide) (hts _ wl_369) (fun _ h9 => h9) rfl dX8_stands_148 ?_
  refine lv_lload_n hx hb dX8_stands_151 rfl (lv_at hl 1 rfl) ?_
  refine lv_iload_n hx hb dX8_stands_152 rfl (lv_at hl 2 rfl) ?_
  refine ca_Si (As := [.long mo_atM, .int mo_atX, .long p1, .int p2]) (rest := []) ⟨hx, hb, hml, hown, hts⟩ (c_X8_compare l D cI cJ cZ   mo_atM mo_atX p1 p2 _ ho) (va_cwS 4 hts (gdS wl_382 wl_383 wl_5 wl_384) rfl rfl rfl (by decide +kernel) ⟨hRf _ (Nat.le_of_ble_eq_true rfl), hRl _ (Nat.le_of_ble_eq_true rfl)⟩) hK hN hP [] rfl rfl hl.1 rfl (Nat.le_of_ble_eq_true rfl) dX8_stands_153 ⟨Nat.zero_le _, Nat.zero_le _⟩ (fun r153 ho => ?_)
  subst hQ; exact W.iret (v := r153) hx hb hr (fun t ht _ => ⟨r153, rfl, ho, ht⟩) (fun _ h => by cases h) dX8_stands_156

def w_X8_floor : List Cond := .code yX8_floor cX8_floor 4 (some .int) :: wsL_law
set_option maxHeartbeats 4000000 in
set_option maxRecDepth 100000 in
theorem c_X8_floor (l : Launch) (D : va_G) (cI cJ cZ : ClassId) (a_mo : Nat) (a_moR : Nat) (a_moK : Nat) (a_moH : Nat) (a_moS : Nat) (a_moF : Nat) (a_moT : Nat) (a_moP : Nat) (a_moQ : Nat) (a_moA : Nat) (a_moB : Nat) (a_moD : Nat) (mo_e : Int32) (mo_f : Int32) (mo_codes : Int32) (mo_most : Int32) (mo_minus : Int32) (mo_low : Int32) (mo_function : Int32) (mo_atX : Int32) (mo_atM : Int64) (mo_spanFunction : Int32) (mo_spanRounding : Int32) (mo_spanMany : Int32) (mo_parts : Int32) (mo_shift : Int32)  (post : Int32 → Prop) (ho : wp_X8_floor post mo_f mo_most mo_low mo_function mo_atX mo_atM) : Met l yX8_floor w_X8_floor ({ frames := 3, cells := 0, slots := 0, locals := 78 } : Room) (ro_P D [(cI, .int), (cJ, .long), (cZ, .boolean)] [.ref a_mo] [(a_mo, oX8 a_moR mo_e mo_f mo_codes mo_most mo_minus mo_low mo_function mo_atX mo_atM a_moK a_moH a_moS mo_spanFunction mo_spanRounding mo_spanMany a_moF a_moT mo_parts mo_shift a_moP a_moQ a_moA a_moB a_moD)]) (vp_Si post) 0 0 (fun _ => False) := by
  refine Met.ofW (cc := cX8_floor) (maxL := 4) (ret := (some .int)) (by decide) rfl ?_
  intro p e s m args below meth c s₁ B hml hv
  obtain ⟨hargs, hP, hK, hN⟩ := hv
  have hx := B.exec
  have hb := B.bytes
  have hr := B.returns
  have hts : ∀ w ∈ wsL_law, w.before args s = true := fun w h => atoms_spec (ws := w_X8_floor) B.pre w (List.mem_cons_of_mem _ h)
  have hown : s.vm.findClass RX8 = some m.cls := findClass_of_methodNamed B.named
  have hlocks := B.notSynchronized
  have hl := lv_entry ([.ref a_mo]) (n := 4) (Nat.le_of_ble_eq_true rfl)
  rw [hargs, lg_entry_eq, ← hargs]
  generalize (lg_sl ([.ref a_mo]) ++ List.replicate (4 - (lg_sl ([.ref a_mo])).length) Slot.unset).toArray = ls at hl ⊢
  replace hl : lv_has ls 4 [(0, .ref a_mo)] := hl
  have hRf : ∀ n, n ≤ 3 → n ≤ (headSpec w_X8_floor ({ frames := 3, cells := 0, slots := 0, locals := 78 } : Room)).room.frames := fun n h => h
  have hRl : ∀ n, n ≤ 78 → n ≤ (headSpec w_X8_floor ({ frames := 3, cells := 0, slots := 0, locals := 78 } : Room)).room.locals := fun n h => h
  generalize (headSpec w_X8_floor ({ frames := 3, cells := 0, slots := 0, locals := 78 } : Room)).room = R at hRf hRl ⊢
  generalize hQ : MQ below _ args s 0 0 _ = Q
  have C_9 : ∀ n : Nat, ∀ (x1 : Int32) (x2 : Int32) (ls : Array Slot), wp_X8_floor_9 post  mo_f mo_low mo_function mo_atX mo_atM n x1 x2 → lv_has ls 4 [(0, .ref a_mo), (1, .int x1), (2, .int x2)] → W p l e R s m args below meth c s.heap [] 0 0 Q (F0 m 9 ls []) := by
    intro n
    induction n with
    | zero => intro x1 x2 ls ho hl; exact ho.elim
    | succ n_9 ih_9 =>
      have C_47 : ∀ (x1 : Int32) (x2 : Int32) (ls : Array Slot), wp_X8_floor_47 post (wp_X8_floor_9 post mo_f mo_low mo_function mo_atX mo_atM n_9) x1 x2 → lv_has ls 4 [(0, .ref a_mo), (1, .int x1), (2, .int x2)] → W p l e R s m args below meth c s.heap [] 0 0 Q (F0 m 47 ls []) := by
        intro x1 x2 ls ho hl
        unfold wp_X8_floor_47 at ho
        refine lv_goto (tgt := 9) hx hb dX8_floor_47 (by decide) ?_
        exact ih_9 x1 x2 ls ho (lv_sub hl [0, 1, 2] rfl)
      intro x1 x2 ls ho hl
      replace ho : wp_X8_floor_9_b post mo_f mo_low mo_function mo_atX mo_atM (wp_X8_floor_9 post mo_f mo_low mo_function mo_atX mo_atM n_9) x1 x2 := ho
      unfold wp_X8_floor_9_b at ho
      refine lv_iload_n hx hb dX8_floor_9 rfl (lv_at hl 2 rfl) ?_
      refine lv_iload_n hx hb dX8_floor_10 rfl (lv_at hl 1 rfl) ?_
      refine lv_isub hx hb dX8_floor_11 ?_
      refine lv_iconst (v := 1) hx hb dX8_floor_12 (by decide) ?_
      refine lv_icmp_le (tgt := 50) hx hb dX8_floor_13 (by decide) (fun c_13 => ?_) (fun c_13 => ?_)
      · replace ho := ho.1 c_13
        refine lv_iload_n hx hb dX8_floor_50 rfl (lv_at hl 1 rfl) ?_
        subst hQ; exact W.iret (v := x1) hx hb hr (fun t ht _ => ⟨x1, rfl, ho, ht⟩) (fun _ h => by cases h) dX8_floor_51
      · replace ho := ho.2 c_13
        refine lv_iload_n hx hb dX8_floor_16 rfl (lv_at hl 1 rfl) ?_
        refine lv_iload_n hx hb dX8_floor_17 rfl (lv_at hl 2 rfl) ?_
        refine lv_iadd hx hb dX8_floor_18 ?_
        refine lv_iconst (v := 2) hx hb dX8_floor_19 (by decide) ?_
        refine lv_idiv hx hb dX8_floor_20 (by decide) ?_
        refine lv_istore_n (lv' := [(3, .int ((x1 + x2) / (2 : Int32))), (0, .ref a_mo), (1, .int x1), (2, .int x2)]) hx hb dX8_floor_21 rfl hl (by decide) rfl (fun ls hl => ?_)
        refine lv_aload_n hx hb dX8_floor_22 rfl (lv_at hl 1 rfl) ?_
        refine lv_aload_n hx hb dX8_floor_23 rfl (lv_at hl 1 rfl) ?_
        refine lv_iload_n hx hb dX8_floor_24 rfl (lv_at hl 0 rfl) ?_
        refine ca_Vi (b := a_mo) (As := [.int ((x1 + x2) / (2 : Int32))]) (rest := [.ref a_mo]) ⟨hx, hb, hml, hown, hts⟩ (c_X8_figure l D cI cJ cZ a_mo a_moR a_moK a_moH a_moS a_moF a_moT a_moP a_moQ a_moA a_moB a_moD mo_e mo_f mo_codes mo_most mo_minus mo_low mo_function mo_atX mo_atM mo_spanFunction mo_spanRounding mo_spanMany mo_parts mo_shift ((x1 + x2) / (2 : Int32)) _ ho) (cwV 1 hts (gdV wl_274 wl_275 wl_276 wl_5 wl_277) rfl rfl rfl (by decide +kernel) ⟨hRf _ (Nat.le_of_ble_eq_true rfl), hRl _ (Nat.le_of_ble_eq_true rfl)⟩) hK hN hP [0] rfl 0 7 rfl rfl rfl rfl hl.1 rfl (Nat.le_of_ble_eq_true rfl) dX8_floor_25 ⟨Nat.zero_le _, Nat.zero_le _⟩ (fun r25 ho => ?_)
        refine lv_i2l hx hb dX8_floor_28 rfl ?_
        refine lv_aload_n hx hb dX8_floor_29 rfl (lv_at hl 1 rfl) ?_
        refine lv_iload_n hx hb dX8_floor_30 rfl (lv_at hl 0 rfl) ?_
        refine ca_Vi (b := a_mo) (As := [.int ((x1 + x2) / (2 : Int32))]) (rest := [.long r25.toInt64, .ref a_mo]) ⟨hx, hb, hml, hown, hts⟩ (c_X8_power l D cI cJ cZ a_mo a_moR a_moK a_moH a_moS a_moF a_moT a_moP a_moQ a_moA a_moB a_moD mo_e mo_f mo_codes mo_most mo_minus mo_low mo_function mo_atX mo_atM mo_spanFunction mo_spanRounding mo_spanMany mo_parts mo_shift ((x1 + x2) / (2 : Int32)) _ ho) (cwV 1 hts (gdV wl_278 wl_279 wl_280 wl_5 wl_281) rfl rfl rfl (by decide +kernel) ⟨hRf _ (Nat.le_of_ble_eq_true rfl), hRl _ (Nat.le_of_ble_eq_true rfl)⟩) hK hN hP [0] rfl 0 7 rfl rfl rfl rfl hl.1 rfl (Nat.le_of_ble_eq_true rfl) dX8_floor_31 ⟨Nat.zero_le _, Nat.zero_le _⟩ (fun r31 ho => ?_)
        refine ca_Vi (b := a_mo) (As := [.long r25.toInt64, .int r31]) (rest := []) ⟨hx, hb, hml, hown, hts⟩ (c_X8_stands l D cI cJ cZ a_mo a_moR a_moK a_moH a_moS a_moF a_moT a_moP a_moQ a_moA a_moB a_moD mo_e mo_f mo_codes mo_most mo_minus mo_low mo_function mo_atX mo_atM mo_spanFunction mo_spanRounding mo_spanMany mo_parts mo_shift r25.toInt64 r31 _ ho) (cwV 2 hts (gdV wl_378 wl_379 wl_380 wl_5 wl_381) rfl rfl rfl (by decide +kernel) ⟨hRf _ (Nat.le_of_ble_eq_true rfl), hRl _ (Nat.le_of_ble_eq_true rfl)⟩) hK hN hP [0] rfl 0 7 rfl rfl rfl rfl hl.1 rfl (Nat.le_of_ble_eq_true rfl) dX8_floor_34 ⟨Nat.zero_le _, Nat.zero_le _⟩ (fun r34 ho => ?_)
        refine lv_if_lt (tgt := 45) hx hb dX8_floor_37 (by decide) (fun c_37 => ?_) (fun c_37 => ?_)
        · replace ho := ho.1 c_37
          refine lv_iload_n hx hb dX8_floor_45 rfl (lv_at hl 0 rfl) ?_
          refine lv_istore_n (lv' := [(2, .int ((x1 + x2) / (2 : Int32))), (3, .int ((x1 + x2) / (2 : Int32))), (0, .ref a_mo), (1, .int x1)]) hx hb dX8_floor_46 rfl hl (by decide) rfl (fun ls hl => ?_)
          exact C_47 x1 ((x1 + x2) / (2 : Int32)) ls ho (lv_sub hl [2, 3, 0] rfl)
        · replace ho := ho.2 c_37
          refine lv_iload_n hx hb dX8_floor_40 rfl (lv_at hl 0 rfl) ?_
          refine lv_istore_n (lv' := [(1, .int ((x1 + x2) / (2 : Int32))), (3, .int ((x1 + x2) / (2 : Int32))), (0, .ref a_mo), (2, .int x2)]) hx hb dX8_floor_41 rfl hl (by decide) rfl (fun ls hl => ?_)
          refine lv_goto (tgt := 47) hx hb dX8_floor_42 (by decide) ?_
          exact C_47 ((x1 + x2) / (2 : Int32)) x2 ls ho (lv_sub hl [2, 0, 3] rfl)
  unfold wp_X8_floor at ho
  refine lv_iconst (v := 0) hx hb dX8_floor_0 (by decide) ?_
  refine lv_istore_n (lv' := [(1, .int (0 : Int32)), (0, .ref a_mo)]) hx hb dX8_floor_1 rfl hl (by decide) rfl (fun ls hl => ?_)
  refine lv_aload_n hx hb dX8_floor_2 rfl (lv_at hl 1 rfl) ?_
  refine va_get (D := D) (ci := 7) (v := .int mo_most) (C := RX8) (T := TX8) (N := 25) hx hb hts inlX8 hown hK hP 0 rfl rfl 4 (by decide) (hts _ wl_120) (fun _ h9 => h9) rfl dX8_floor_3 ?_
  refine lv_iconst (v := 1) hx hb dX8_floor_6 (by decide) ?_
  refine lv_iadd hx hb dX8_floor_7 ?_
  refine lv_istore_n (lv' := [(2, .int (mo_most + (1 : Int32))), (1, .int (0 : Int32)), (0, .ref a_mo)]) hx hb dX8_floor_8 rfl hl (by decide) rfl (fun ls hl => ?_)
  obtain ⟨n_9, ho⟩ := ho
  exact C_9 n_9 (0 : Int32) (mo_most + (1 : Int32)) ls ho (lv_sub hl [2, 1, 0] rfl)
