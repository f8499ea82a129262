def w_X8_hard : List Cond := .code yX8_hard cX8_hard 3 (some .int) :: wsL_law
set_option maxHeartbeats 4000000 in
set_option maxRecDepth 100000 in
theorem c_X8_hard (l : Launch) (D : va_G) (cI cJ cZ : ClassId) (a_mo : Nat) (a_moR : Nat) (a_moK : Nat) (a_moH : Nat) (a_moS : Nat) (a_moF : Nat) (a_moT : Nat) (a_moP : Nat) (a_moQ : Nat) (a_moA : Nat) (a_moB : Nat) (a_moD : Nat) (sz : Nat) (mo_e : Int32) (mo_f : Int32) (mo_codes : Int32) (mo_most : Int32) (mo_minus : Int32) (mo_low : Int32) (mo_function : Int32) (mo_atX : Int32) (mo_atM : Int64) (mo_spanFunction : Int32) (mo_spanRounding : Int32) (mo_spanMany : Int32) (mo_parts : Int32) (mo_shift : Int32) (moR_r : Nat → Int32) (p1 : Int32) (p2 : Int32) (post : Int32 → Int32 → Int32 → Int64 → (Nat → Int32) → Prop) (A : Nat → Prop) (hAe : A = va_A [(a_mo, oX8 a_moR mo_e mo_f mo_codes mo_most mo_minus mo_low mo_function mo_atX mo_atM a_moK a_moH a_moS mo_spanFunction mo_spanRounding mo_spanMany a_moF a_moT mo_parts mo_shift a_moP a_moQ a_moA a_moB a_moD), (a_moR, .inl (cI, 7, .inl moR_r))] sz) (ho : wp_X8_hard post mo_f mo_codes mo_most mo_minus mo_low mo_function mo_atX mo_atM moR_r p1 p2) : Met l yX8_hard w_X8_hard ({ frames := 6, cells := 0, slots := 0, locals := 153 } : Room) (rw_P D [(cI, .int), (cJ, .long), (cZ, .boolean)] [.ref a_mo, .int p1, .int p2] sz [(a_mo, oX8 a_moR mo_e mo_f mo_codes mo_most mo_minus mo_low mo_function mo_atX mo_atM a_moK a_moH a_moS mo_spanFunction mo_spanRounding mo_spanMany a_moF a_moT mo_parts mo_shift a_moP a_moQ a_moA a_moB a_moD), (a_moR, .inl (cI, 7, .inl moR_r))]) (va_Qi (fun (r : Int32) (u : (Int32) × (Int32) × (Int64) × (Nat → Int32)) => post r u.1 u.2.1 u.2.2.1 u.2.2.2) (rw_B D A (fun (u : (Int32) × (Int32) × (Int64) × (Nat → Int32)) => [(a_mo, oX8 a_moR mo_e mo_f mo_codes mo_most mo_minus mo_low u.1 u.2.1 u.2.2.1 a_moK a_moH a_moS mo_spanFunction mo_spanRounding mo_spanMany a_moF a_moT mo_parts mo_shift a_moP a_moQ a_moA a_moB a_moD), (a_moR, .inl (cI, 7, .inl u.2.2.2))])) A) 0 0 A := by
  refine Met.ofW (cc := cX8_hard) (maxL := 3) (ret := (some .int)) (by decide) rfl ?_
  intro p e s m args below meth c s₁ B hml hv
  obtain ⟨hargs, hsz, hP, hK, hN, hD0⟩ := hv
  have hx := B.exec
  have hb := B.bytes
  have hr := B.returns
  have hts : ∀ w ∈ wsL_law, w.before args s = true := fun w h => atoms_spec (ws := w_X8_hard) B.pre w (List.mem_cons_of_mem _ h)
  have hown : s.vm.findClass RX8 = some m.cls := findClass_of_methodNamed B.named
  have hlocks := B.notSynchronized
  subst hsz
  have hD : va_D A [(a_mo, oX8 a_moR mo_e mo_f mo_codes mo_most mo_minus mo_low mo_function mo_atX mo_atM a_moK a_moH a_moS mo_spanFunction mo_spanRounding mo_spanMany a_moF a_moT mo_parts mo_shift a_moP a_moQ a_moA a_moB a_moD), (a_moR, .inl (cI, 7, .inl moR_r))] := by rw [hAe]; exact hD0.self
  have hA : ∀ q : Nat, s.heap.size ≤ q → A q := fun q h => by rw [hAe]; exact Or.inr h
  have hS : va_S A s.heap s.heap [] := va_S.rf
  have hl := lv_entry ([.ref a_mo, .int p1, .int p2]) (n := 3) (Nat.le_of_ble_eq_true rfl)
  rw [hargs, lg_entry_eq, ← hargs]
  generalize (lg_sl ([.ref a_mo, .int p1, .int p2]) ++ List.replicate (3 - (lg_sl ([.ref a_mo, .int p1, .int p2])).length) Slot.unset).toArray = ls at hl ⊢
  replace hl : lv_has ls 3 [(0, .ref a_mo), (1, .int p1), (2, .int p2)] := hl
  have hRf : ∀ n, n ≤ 6 → n ≤ (headSpec w_X8_hard ({ frames := 6, cells := 0, slots := 0, locals := 153 } : Room)).room.frames := fun n h => h
  have hRl : ∀ n, n ≤ 153 → n ≤ (headSpec w_X8_hard ({ frames := 6, cells := 0, slots := 0, locals := 153 } : Room)).room.locals := fun n h => h
  generalize (headSpec w_X8_hard ({ frames := 6, cells := 0, slots := 0, locals := 153 } : Room)).room = R at hRf hRl ⊢
  generalize hQ : MQ below _ args s 0 0 _ = Q
  have C_24 : ∀ (mo_function : Int32) (mo_atX : Int32) (mo_atM : Int64) (moR_r : Nat → Int32) (H : Heap) (locs : List Loc) (ls : Array Slot), wp_X8_hard_24 post  mo_function mo_atX mo_atM moR_r → va_P D vwCl [(a_mo, oX8 a_moR mo_e mo_f mo_codes mo_most mo_minus mo_low mo_function mo_atX mo_atM a_moK a_moH a_moS mo_spanFunction mo_spanRounding mo_spanMany a_moF a_moT mo_parts mo_shift a_moP a_moQ a_moA a_moB a_moD), (a_moR, .inl (cI, 7, .inl moR_r))] H → va_D A [(a_mo, oX8 a_moR mo_e mo_f mo_codes mo_most mo_minus mo_low mo_function mo_atX mo_atM a_moK a_moH a_moS mo_spanFunction mo_spanRounding mo_spanMany a_moF a_moT mo_parts mo_shift a_moP a_moQ a_moA a_moB a_moD), (a_moR, .inl (cI, 7, .inl moR_r))] → va_S A s.heap H locs → lv_has ls 3 [(0, .ref a_mo)] → W p l e R s m args below meth c H locs 0 0 Q (F0 m 24 ls []) := by
    intro mo_function mo_atX mo_atM moR_r H locs ls ho hP hD hS hl
    unfold wp_X8_hard_24 at ho
    refine lv_aload_n hx hb dX8_hard_24 rfl (lv_at hl 0 rfl) ?_
    refine lv_iconst (v := (-1)) hx hb dX8_hard_25 (by decide) ?_
    refine ca_Wi (b := a_mo) (As := [.int (-1 : Int32)]) (rest := []) (wr := []) (wo := fun (u : (Nat → Int32)) => [(a_mo, oX8 a_moR mo_e mo_f mo_codes mo_most mo_minus mo_low mo_function mo_atX mo_atM a_moK a_moH a_moS mo_spanFunction mo_spanRounding mo_spanMany a_moF a_moT mo_parts mo_shift a_moP a_moQ a_moA a_moB a_moD), (a_moR, .inl (cI, 7, .inl u))]) (wn := fun (u : (Nat → Int32)) => [(a_mo, oX8 a_moR mo_e mo_f mo_codes mo_most mo_minus mo_low mo_function mo_atX mo_atM a_moK a_moH a_moS mo_spanFunction mo_spanRounding mo_spanMany a_moF a_moT mo_parts mo_shift a_moP a_moQ a_moA a_moB a_moD), (a_moR, .inl (cI, 7, .inl u))]) ⟨hx, hb, hml, hown, hts⟩ (c_X8_refuse l D cI cJ cZ a_mo a_moR a_moK a_moH a_moS a_moF a_moT a_moP a_moQ a_moA a_moB a_moD H.size mo_e mo_f mo_codes mo_most mo_minus mo_low mo_function mo_atX mo_atM mo_spanFunction mo_spanRounding mo_spanMany mo_parts mo_shift moR_r (-1 : Int32) _ _ rfl ho) (cwV 1 hts (gdV wl_165 wl_166 wl_167 wl_5 wl_168) rfl rfl rfl (by decide +kernel) ⟨hRf _ (Nat.le_of_ble_eq_true rfl), hRl _ (Nat.le_of_ble_eq_true rfl)⟩) hK hN hP hD hS hA [0, 1] [] [0, 1] rfl rfl (by decide) (by decide) (by decide) (by decide) (fun _ => rfl) 0 7 rfl rfl rfl rfl hl.1 rfl (Nat.le_of_ble_eq_true rfl) dX8_hard_26 ⟨Nat.zero_le _, Nat.zero_le _⟩ (fun r26 u26 H locs ho hP hD hS => ?_)
    try dsimp only at ho
    replace hP : va_P D vwCl [(a_mo, oX8 a_moR mo_e mo_f mo_codes mo_most mo_minus mo_low mo_function mo_atX mo_atM a_moK a_moH a_moS mo_spanFunction mo_spanRounding mo_spanMany a_moF a_moT mo_parts mo_shift a_moP a_moQ a_moA a_moB a_moD), (a_moR, .inl (cI, 7, .inl u26))] H := hP
    replace hD : va_D A [(a_mo, oX8 a_moR mo_e mo_f mo_codes mo_most mo_minus mo_low mo_function mo_atX mo_atM a_moK a_moH a_moS mo_spanFunction mo_spanRounding mo_spanMany a_moF a_moT mo_parts mo_shift a_moP a_moQ a_moA a_moB a_moD), (a_moR, .inl (cI, 7, .inl u26))] := hD
    subst hQ; exact W.iret (v := r26) hx hb hr (fun t ht hW => ⟨⟨r26, (mo_function, mo_atX, mo_atM, u26), rfl, ho, by rw [ht]; exact hP, hD⟩, hS.F ht⟩) (fun q hq => hS.2.2 q hq) dX8_hard_29
  suffices main : ∀ (H : Heap) (locs : List Loc), va_P D vwCl [(a_mo, oX8 a_moR mo_e mo_f mo_codes mo_most mo_minus mo_low mo_function mo_atX mo_atM a_moK a_moH a_moS mo_spanFunction mo_spanRounding mo_spanMany a_moF a_moT mo_parts mo_shift a_moP a_moQ a_moA a_moB a_moD), (a_moR, .inl (cI, 7, .inl moR_r))] H → va_S A s.heap H locs → W p l e R s m args below meth c H locs 0 0 Q (F0 m 0 ls []) from main _ _ hP hS
  intro H locs hP hS
  unfold wp_X8_hard at ho
  refine lv_iload_n hx hb dX8_hard_0 rfl (lv_at hl 1 rfl) ?_
  refine ca_Si (As := [.int p1]) (rest := []) ⟨hx, hb, hml, hown, hts⟩ (c_X8_isFunction l D cI cJ cZ   p1 _ ho) (va_cwS 1 hts (gdS wl_469 wl_470 wl_5 wl_471) rfl rfl rfl (by decide +kernel) ⟨hRf _ (Nat.le_of_ble_eq_true rfl), hRl _ (Nat.le_of_ble_eq_true rfl)⟩) hK hN hP [] rfl rfl hl.1 rfl (Nat.le_of_ble_eq_true rfl) dX8_hard_1 ⟨Nat.zero_le _, Nat.zero_le _⟩ (fun r1 ho => ?_)
  refine lv_if_eq (tgt := 24) hx hb dX8_hard_4 (by decide) (fun c_4 => ?_) (fun c_4 => ?_)
  · replace ho := ho.1 c_4
    exact C_24 mo_function mo_atX mo_atM moR_r H locs ls ho hP hD hS (lv_sub hl [0] rfl)
  · replace ho := ho.2 c_4
    refine lv_aload_n hx hb dX8_hard_7 rfl (lv_at hl 0 rfl) ?_
    refine lv_iload_n hx hb dX8_hard_8 rfl (lv_at hl 2 rfl) ?_
    refine ca_Vi (b := a_mo) (As := [.int p2]) (rest := []) ⟨hx, hb, hml, hown, hts⟩ (c_X8_isCode l D cI cJ cZ a_mo a_moR a_moK a_moH a_moS a_moF a_moT a_moP a_moQ a_moA a_moB a_moD mo_e mo_f mo_codes mo_most mo_minus mo_low mo_function mo_atX mo_atM mo_spanFunction mo_spanRounding mo_spanMany mo_parts mo_shift p2 _ ho) (cwV 1 hts (gdV wl_250 wl_251 wl_252 wl_5 wl_253) rfl rfl rfl (by decide +kernel) ⟨hRf _ (Nat.le_of_ble_eq_true rfl), hRl _ (Nat.le_of_ble_eq_true rfl)⟩) hK hN hP [0] rfl 0 7 rfl rfl rfl rfl hl.1 rfl (Nat.le_of_ble_eq_true rfl) dX8_hard_9 ⟨Nat.zero_le _, Nat.zero_le _⟩ (fun r9 ho => ?_)
    refine lv_if_eq (tgt := 24) hx hb dX8_hard_12 (by decide) (fun c_12 => ?_) (fun c_12 => ?_)
    · replace ho := ho.1 c_12
      exact C_24 mo_function mo_atX mo_atM moR_r H locs ls ho hP hD hS (lv_sub hl [0] rfl)
    · replace ho := ho.2 c_12
      refine lv_aload_n hx hb dX8_hard_15 rfl (lv_at hl 0 rfl) ?_
      refine lv_iload_n hx hb dX8_hard_16 rfl (lv_at hl 1 rfl) ?_
      refine lv_iload_n hx hb dX8_hard_17 rfl (lv_at hl 2 rfl) ?_
      refine ca_Wi (b := a_mo) (As := [.int p1, .int p2]) (rest := []) (wr := [(a_moR, .inl (cI, 7, .inl moR_r))]) (wo := fun (u : (Int32) × (Int32) × (Int64)) => [(a_mo, oX8 a_moR mo_e mo_f mo_codes mo_most mo_minus mo_low u.1 u.2.1 u.2.2 a_moK a_moH a_moS mo_spanFunction mo_spanRounding mo_spanMany a_moF a_moT mo_parts mo_shift a_moP a_moQ a_moA a_moB a_moD)]) (wn := fun (u : (Int32) × (Int32) × (Int64)) => [(a_mo, oX8 a_moR mo_e mo_f mo_codes mo_most mo_minus mo_low u.1 u.2.1 u.2.2 a_moK a_moH a_moS mo_spanFunction mo_spanRounding mo_spanMany a_moF a_moT mo_parts mo_shift a_moP a_moQ a_moA a_moB a_moD), (a_moR, .inl (cI, 7, .inl moR_r))]) ⟨hx, hb, hml, hown, hts⟩ (c_X8_hardOf l D cI cJ cZ a_mo a_moR a_moK a_moH a_moS a_moF a_moT a_moP a_moQ a_moA a_moB a_moD H.size mo_e mo_f mo_codes mo_most mo_minus mo_low mo_function mo_atX mo_atM mo_spanFunction mo_spanRounding mo_spanMany mo_parts mo_shift p1 p2 _ _ rfl ho) (cwV 2 hts (gdV wl_534 wl_535 wl_536 wl_5 wl_537) rfl rfl rfl (by decide +kernel) ⟨hRf _ (Nat.le_of_ble_eq_true rfl), hRl _ (Nat.le_of_ble_eq_true rfl)⟩) hK hN hP hD hS hA [0] [1] [1, 0] rfl rfl (by decide) (by decide) (by decide) (by decide) (fun _ => rfl) 0 7 rfl rfl rfl rfl hl.1 rfl (Nat.le_of_ble_eq_true rfl) dX8_hard_18 ⟨Nat.zero_le _, Nat.zero_le _⟩ (fun r18 u18 H locs ho hP hD hS => ?_)
      obtain ⟨u18_1, u18_2, u18_3⟩ := u18
      try dsimp only at ho
      replace hP : va_P D vwCl [(a_mo, oX8 a_moR mo_e mo_f mo_codes mo_most mo_minus mo_low u18_1 u18_2 u18_3 a_moK a_moH a_moS mo_spanFunction mo_spanRounding mo_spanMany a_moF a_moT mo_parts mo_shift a_moP a_moQ a_moA a_moB a_moD), (a_moR, .inl (cI, 7, .inl moR_r))] H := hP
      replace hD : va_D A [(a_mo, oX8 a_moR mo_e mo_f mo_codes mo_most mo_minus mo_low u18_1 u18_2 u18_3 a_moK a_moH a_moS mo_spanFunction mo_spanRounding mo_spanMany a_moF a_moT mo_parts mo_shift a_moP a_moQ a_moA a_moB a_moD), (a_moR, .inl (cI, 7, .inl moR_r))] := hD
      refine lv_goto (tgt := 29) hx hb dX8_hard_21 (by decide) ?_
      subst hQ; exact W.iret (v := r18) hx hb hr (fun t ht hW => ⟨⟨r18, (u18_1, u18_2, u18_3, moR_r), rfl, ho, by rw [ht]; exact hP, hD⟩, hS.F ht⟩) (fun q hq => hS.2.2 q hq) dX8_hard_29

def w_X8_know : List Cond := .code yX8_know cX8_know 3 none :: wsL_law
set_option maxHeartbeats 4000000 in
set_option maxRecDepth 100000 in
theorem c_X8_know (l : Launch) (D : va_G) (cI cJ cZ : ClassId) (a_mo : Nat) (a_moR : Nat) (a_moK : Nat) (a_moH : Nat) (a_moS : Nat) (a_moF : Nat) (a_moT : Nat) (a_moP : Nat) (a_moQ : Nat) (a_moA : Nat) (a_moB : Nat) (a_moD : Nat) (sz : Nat) (mo_e : Int32) (mo_f : Int32) (mo_codes : Int32) (mo_most : Int32) (mo_minus : Int32) (mo_low : Int32) (mo_function : Int32) (mo_atX : Int32) (mo_atM : Int64) (mo_spanFunction : Int32) (mo_spanRounding : Int32) (mo_spanMany : Int32) (mo_parts : Int32) (mo_shift : Int32) (moK_r : Nat → Int32) (moH_r : Nat → Int32) (moS_r : Nat → Int32) (p1 : Int32) (post : Int32 → Int32 → Int64 → (Nat → Int32) → (Nat → Int32) → (Nat → Int32) → Prop) (A : Nat → Prop) (hAe : A = va_A [(a_mo, oX8 a_moR mo_e mo_f mo_codes mo_most mo_minus mo_low mo_function mo_atX mo_atM a_moK a_moH a_moS mo_spanFunction mo_spanRounding mo_spanMany a_moF a_moT mo_parts mo_shift a_moP a_moQ a_moA a_moB a_moD), (a_moK, .inl (cZ, 5, .inl moK_r)), (a_moH, .inl (cI, 81920, .inl moH_r)), (a_moS, .inl (cI, 81920, .inl moS_r))] sz) (ho : wp_X8_know post mo_f mo_codes mo_most mo_minus mo_low mo_function mo_atX mo_atM moK_r moH_r moS_r p1) : Met l yX8_know w_X8_know ({ frames := 6, cells := 0, slots := 0, locals := 153 } : Room) (rw_P D [(cI, .int), (cJ, .long), (cZ, .boolean)] [.ref a_mo, .int p1] sz [(a_mo, oX8 a_moR mo_e mo_f mo_codes mo_most mo_minus mo_low mo_function mo_atX mo_atM a_moK a_moH a_moS mo_spanFunction mo_spanRounding mo_spanMany a_moF a_moT mo_parts mo_shift a_moP a_moQ a_moA a_moB a_moD), (a_moK, .inl (cZ, 5, .inl moK_r)), (a_moH, .inl (cI, 81920, .inl moH_r)), (a_moS, .inl (cI, 81920, .inl moS_r))]) (va_Qv (fun (u : (Int32) × (Int32) × (Int64) × (Nat → Int32) × (Nat → Int32) × (Nat → Int32)) => post u.1 u.2.1 u.2.2.1 u.2.2.2.1 u.2.2.2.2.1 u.2.2.2.2.2) (rw_B D A (fun (u : (Int32) × (Int32) × (Int64) × (Nat → Int32) × (Nat → Int32) × (Nat → Int32)) => [(a_mo, oX8 a_moR mo_e mo_f mo_codes mo_most mo_minus mo_low u.1 u.2.1 u.2.2.1 a_moK a_moH a_moS mo_spanFunction mo_spanRounding mo_spanMany a_moF a_moT mo_parts mo_shift a_moP a_moQ a_moA a_moB a_moD), (a_moK, .inl (cZ, 5, .inl u.2.2.2.1)), (a_moH, .inl (cI, 81920, .inl u.2.2.2.2.1)), (a_moS, .inl (cI, 81920, .inl u.2.2.2.2.2))])) A) 0 0 A := by
  refine Met.ofW (cc := cX8_know) (maxL := 3) (ret := none) (by decide) rfl ?_
  intro p e s m args below meth c s₁ B hml hv
  obtain ⟨hargs, hsz, hP, hK, hN, hD0⟩ := hv
  have hx := B.exec
  have hb := B.bytes
  have hr := B.returns
  have hts : ∀ w ∈ wsL_law, w.before args s = true := fun w h => atoms_spec (ws := w_X8_know) B.pre w (List.mem_cons_of_mem _ h)
  have hown : s.vm.findClass RX8 = some m.cls := findClass_of_methodNamed B.named
  have hlocks := B.notSynchronized
  subst hsz
  have hD : va_D A [(a_mo, oX8 a_moR mo_e mo_f mo_codes mo_most mo_minus mo_low mo_function mo_atX mo_atM a_moK a_moH a_moS mo_spanFunction mo_spanRounding mo_spanMany a_moF a_moT mo_parts mo_shift a_moP a_moQ a_moA a_moB a_moD), (a_moK, .inl (cZ, 5, .inl moK_r)), (a_moH, .inl (cI, 81920, .inl moH_r)), (a_moS, .inl (cI, 81920, .inl moS_r))] := by rw [hAe]; exact hD0.self
  have hA : ∀ q : Nat, s.heap.size ≤ q → A q := fun q h => by rw [hAe]; exact Or.inr h
  have hS : va_S A s.heap s.heap [] := va_S.rf
  have hl := lv_entry ([.ref a_mo, .int p1]) (n := 3) (Nat.le_of_ble_eq_true rfl)
  rw [hargs, lg_entry_eq, ← hargs]
  generalize (lg_sl ([.ref a_mo, .int p1]) ++ List.replicate (3 - (lg_sl ([.ref a_mo, .int p1])).length) Slot.unset).toArray = ls at hl ⊢
  replace hl : lv_has ls 3 [(0, .ref a_mo), (1, .int p1)] := hl
  have hRf : ∀ n, n ≤ 6 → n ≤ (headSpec w_X8_know ({ frames := 6, cells := 0, slots := 0, locals := 153 } : Room)).room.frames := fun n h => h
  have hRl : ∀ n, n ≤ 153 → n ≤ (headSpec w_X8_know ({ frames := 6, cells := 0, slots := 0, locals := 153 } : Room)).room.locals := fun n h => h
  generalize (headSpec w_X8_know ({ frames := 6, cells := 0, slots := 0, locals := 153 } : Room)).room = R at hRf hRl ⊢
  generalize hQ : MQ below _ args s 0 0 _ = Q
  have C_19 : ∀ n : Nat, ∀ (mo_function : Int32) (mo_atX : Int32) (mo_atM : Int64) (moK_r : Nat → Int32) (moH_r : Nat → Int32) (moS_r : Nat → Int32) (x2 : Int32) (H : Heap) (locs : List Loc) (ls : Array Slot), wp_X8_know_19 post  mo_f mo_codes mo_most mo_minus mo_low p1 n mo_function mo_atX mo_atM moK_r moH_r moS_r x2 → va_P D vwCl [(a_mo, oX8 a_moR mo_e mo_f mo_codes mo_most mo_minus mo_low mo_function mo_atX mo_atM a_moK a_moH a_moS mo_spanFunction mo_spanRounding mo_spanMany a_moF a_moT mo_parts mo_shift a_moP a_moQ a_moA a_moB a_moD), (a_moK, .inl (cZ, 5, .inl moK_r)), (a_moH, .inl (cI, 81920, .inl moH_r)), (a_moS, .inl (cI, 81920, .inl moS_r))] H → va_D A [(a_mo, oX8 a_moR mo_e mo_f mo_codes mo_most mo_minus mo_low mo_function mo_atX mo_atM a_moK a_moH a_moS mo_spanFunction mo_spanRounding mo_spanMany a_moF a_moT mo_parts mo_shift a_moP a_moQ a_moA a_moB a_moD), (a_moK, .inl (cZ, 5, .inl moK_r)), (a_moH, .inl (cI, 81920, .inl moH_r)), (a_moS, .inl (cI, 81920, .inl moS_r))] → va_S A s.heap H locs → lv_has ls 3 [(0, .ref a_mo), (1, .int p1), (2, .int x2)] → W p l e R s m args below meth c H locs 0 0 Q (F0 m 19 ls []) := by
    intro n
    induction n with
    | zero => intro mo_function mo_atX mo_atM moK_r moH_r moS_r x2 H locs ls ho hP hD hS hl; exact ho.elim
    | succ n_19 ih_19 =>
      intro mo_function mo_atX mo_atM moK_r moH_r moS_r x2 H locs ls ho hP hD hS hl
      replace ho : wp_X8_know_19_b post mo_f mo_codes mo_most mo_minus mo_low p1 (wp_X8_know_19 post mo_f mo_codes mo_most mo_minus mo_low p1 n_19) mo_function mo_atX mo_atM moK_r moH_r moS_r x2 := ho
      unfold wp_X8_know_19_b at ho
      refine lv_iload_n hx hb dX8_know_19 rfl (lv_at hl 2 rfl) ?_
      refine lv_aload_n hx hb dX8_know_20 rfl (lv_at hl 0 rfl) ?_
      refine va_get (D := D) (ci := 7) (v := .int mo_codes) (C := RX8) (T := TX8) (N := 25) hx hb hts inlX8 hown hK hP 0 rfl rfl 3 (by decide) (hts _ wl_118) (fun _ h9 => h9) rfl dX8_know_21 ?_
      refine lv_icmp_ge (tgt := 69) hx hb dX8_know_24 (by decide) (fun c_24 => ?_) (fun c_24 => ?_)
      · replace ho := ho.1 c_24
        subst hQ; exact W.vret hx hb hr (fun t ht hW => ⟨⟨(mo_function, mo_atX, mo_atM, moK_r, moH_r, moS_r), rfl, ho, by rw [ht]; exact hP, hD⟩, hS.F ht⟩) (fun q hq => hS.2.2 q hq) dX8_know_69
      · replace ho := ho.2 c_24
        refine lv_aload_n hx hb dX8_know_27 rfl (lv_at hl 0 rfl) ?_
        refine va_get (D := D) (ci := 7) (v := .ref a_moH) (C := RX8) (T := TX8) (N := 25) hx hb hts inlX8 hown hK hP 0 rfl rfl 11 (by decide) (hts _ wl_102) (fun _ h9 => h9) rfl dX8_know_28 ?_
        refine lv_sipush (v := 16384) hx hb dX8_know_31 (by decide) ?_
        refine lv_iload_n hx hb dX8_know_34 rfl (lv_at hl 1 rfl) ?_
        refine lv_imul hx hb dX8_know_35 ?_
        refine lv_iload_n hx hb dX8_know_36 rfl (lv_at hl 2 rfl) ?_
        refine lv_iadd hx hb dX8_know_37 ?_
        refine lv_aload_n hx hb dX8_know_38 rfl (lv_at hl 0 rfl) ?_
        refine lv_iload_n hx hb dX8_know_39 rfl (lv_at hl 1 rfl) ?_
        refine lv_iload_n hx hb dX8_know_40 rfl (lv_at hl 2 rfl) ?_
        refine ca_Wi (b := a_mo) (As := [.int p1, .int x2]) (rest := [.int (((16384 : Int32) * p1) + x2), .ref a_moH]) (wr := [(a_moK, .inl (cZ, 5, .inl moK_r)), (a_moH, .inl (cI, 81920, .inl moH_r)), (a_moS, .inl (cI, 81920, .inl moS_r))]) (wo := fun (u : (Int32) × (Int32) × (Int64)) => [(a_mo, oX8 a_moR mo_e mo_f mo_codes mo_most mo_minus mo_low u.1 u.2.1 u.2.2 a_moK a_moH a_moS mo_spanFunction mo_spanRounding mo_spanMany a_moF a_moT mo_parts mo_shift a_moP a_moQ a_moA a_moB a_moD)]) (wn := fun (u : (Int32) × (Int32) × (Int64)) => [(a_mo, oX8 a_moR mo_e mo_f mo_codes mo_most mo_minus mo_low u.1 u.2.1 u.2.2 a_moK a_moH a_moS mo_spanFunction mo_spanRounding mo_spanMany a_moF a_moT mo_parts mo_shift a_moP a_moQ a_moA a_moB a_moD), (a_moK, .inl (cZ, 5, .inl moK_r)), (a_moH, .inl (cI, 81920, .inl moH_r)), (a_moS, .inl (cI, 81920, .inl moS_r))]) ⟨hx, hb, hml, hown, hts⟩ (c_X8_hardOf l D cI cJ cZ a_mo a_moR a_moK a_moH a_moS a_moF a_moT a_moP a_moQ a_moA a_moB a_moD H.size mo_e mo_f mo_codes mo_most mo_minus mo_low mo_function mo_atX mo_atM mo_spanFunction mo_spanRounding mo_spanMany mo_parts mo_shift p1 x2 _ _ rfl ho) (cwV 2 hts (gdV wl_534 wl_535 wl_536 wl_5 wl_537) rfl rfl rfl (by decide +kernel) ⟨hRf _ (Nat.le_of_ble_eq_true rfl), hRl _ (Nat.le_of_ble_eq_true rfl)⟩) hK hN hP hD hS hA [0] [1, 2, 3] [3, 0, 1, 2] rfl rfl (by decide) (by decide) (by decide) (by decide) (fun _ => rfl) 0 7 rfl rfl rfl rfl hl.1 rfl (Nat.le_of_ble_eq_true rfl) dX8_know_41 ⟨Nat.zero_le _, Nat.zero_le _⟩ (fun r41 u41 H locs ho hP hD hS => ?_)
        obtain ⟨u41_1, u41_2, u41_3⟩ := u41
        try dsimp only at ho
        replace hP : va_P D vwCl [(a_mo, oX8 a_moR mo_e mo_f mo_codes mo_most mo_minus mo_low u41_1 u41_2 u41_3 a_moK a_moH a_moS mo_spanFunction mo_spanRounding mo_spanMany a_moF a_moT mo_parts mo_shift a_moP a_moQ a_moA a_moB a_moD), (a_moK, .inl (cZ, 5, .inl moK_r)), (a_moH, .inl (cI, 81920, .inl moH_r)), (a_moS, .inl (cI, 81920, .inl moS_r))] H := hP
        replace hD : va_D A [(a_mo, oX8 a_moR mo_e mo_f mo_codes mo_most mo_minus mo_low u41_1 u41_2 u41_3 a_moK a_moH a_moS mo_spanFunction mo_spanRounding mo_spanMany a_moF a_moT mo_parts mo_shift a_moP a_moQ a_moA a_moB a_moD), (a_moK, .inl (cZ, 5, .inl moK_r)), (a_moH, .inl (cI, 81920, .inl moH_r)), (a_moS, .inl (cI, 81920, .inl moS_r))] := hD
        have o_44 := ho.1
        replace ho := ho.2
        refine va_iast hx hb hK hP hD hS 2 0 rfl rfl o_44 dX8_know_44 (fun H locs hP hD hS => ?_)
        replace hP : va_P D vwCl [(a_mo, oX8 a_moR mo_e mo_f mo_codes mo_most mo_minus mo_low u41_1 u41_2 u41_3 a_moK a_moH a_moS mo_spanFunction mo_spanRounding mo_spanMany a_moF a_moT mo_parts mo_shift a_moP a_moQ a_moA a_moB a_moD), (a_moK, .inl (cZ, 5, .inl moK_r)), (a_moH, .inl (cI, 81920, .inl (upd moH_r (((16384 : Int32) * p1) + x2).toNatClampNeg r41))), (a_moS, .inl (cI, 81920, .inl moS_r))] H := hP
        replace hD : va_D A [(a_mo, oX8 a_moR mo_e mo_f mo_codes mo_most mo_minus mo_low u41_1 u41_2 u41_3 a_moK a_moH a_moS mo_spanFunction mo_spanRounding mo_spanMany a_moF a_moT mo_parts mo_shift a_moP a_moQ a_moA a_moB a_moD), (a_moK, .inl (cZ, 5, .inl moK_r)), (a_moH, .inl (cI, 81920, .inl (upd moH_r (((16384 : Int32) * p1) + x2).toNatClampNeg r41))), (a_moS, .inl (cI, 81920, .inl moS_r))] := hD
        refine lv_aload_n hx hb dX8_know_45 rfl (lv_at hl 0 rfl) ?_
        refine va_get (D := D) (ci := 7) (v := .ref a_moS) (C := RX8) (T := TX8) (N := 25) hx hb hts inlX8 hown hK hP 0 rfl rfl 12 (by decide) (hts _ wl_103) (fun _ h9 => h9) rfl dX8_know_46 ?_
        refine lv_sipush (v := 16384) hx hb dX8_know_49 (by decide) ?_
        refine lv_iload_n hx hb dX8_know_52 rfl (lv_at hl 1 rfl) ?_
        refine lv_imul hx hb dX8_know_53 ?_
        refine lv_iload_n hx hb dX8_know_54 rfl (lv_at hl 2 rfl) ?_
        refine lv_iadd hx hb dX8_know_55 ?_
        refine lv_aload_n hx hb dX8_know_56 rfl (lv_at hl 0 rfl) ?_
        refine lv_iload_n hx hb dX8_know_57 rfl (lv_at hl 1 rfl) ?_
        refine lv_iload_n hx hb dX8_know_58 rfl (lv_at hl 2 rfl) ?_
        refine ca_Wi (b := a_mo) (As := [.int p1, .int x2]) (rest := [.int (((16384 : Int32) * p1) + x2), .ref a_moS]) (wr := [(a_moK, .inl (cZ, 5, .inl moK_r)), (a_moH, .inl (cI, 81920, .inl (upd moH_r (((16384 : Int32) * p1) + x2).toNatClampNeg r41))), (a_moS, .inl (cI, 81920, .inl moS_r))]) (wo := fun (u : (Int32) × (Int32) × (Int64)) => [(a_mo, oX8 a_moR mo_e mo_f mo_codes mo_most mo_minus mo_low u.1 u.2.1 u.2.2 a_moK a_moH a_moS mo_spanFunction mo_spanRounding mo_spanMany a_moF a_moT mo_parts mo_shift a_moP a_moQ a_moA a_moB a_moD)]) (wn := fun (u : (Int32) × (Int32) × (Int64)) => [(a_mo, oX8 a_moR mo_e mo_f mo_codes mo_most mo_minus mo_low u.1 u.2.1 u.2.2 a_moK a_moH a_moS mo_spanFunction mo_spanRounding mo_spanMany a_moF a_moT mo_parts mo_shift a_moP a_moQ a_moA a_moB a_moD), (a_moK, .inl (cZ, 5, .inl moK_r)), (a_moH, .inl (cI, 81920, .inl (upd moH_r (((16384 : Int32) * p1) + x2).toNatClampNeg r41))), (a_moS, .inl (cI, 81920, .inl moS_r))]) ⟨hx, hb, hml, hown, hts⟩ (c_X8_sortOf l D cI cJ cZ a_mo a_moR a_moK a_moH a_moS a_moF a_moT a_moP a_moQ a_moA a_moB a_moD H.size mo_e mo_f mo_codes mo_most mo_minus mo_low u41_1 u41_2 u41_3 mo_spanFunction mo_spanRounding mo_spanMany mo_parts mo_shift p1 x2 _ _ rfl ho) (cwV 2 hts (gdV wl_497 wl_498 wl_499 wl_5 wl_500) rfl rfl rfl (by decide +kernel) ⟨hRf _ (Nat.le_of_ble_eq_true rfl), hRl _ (Nat.le_of_ble_eq_true rfl)⟩) hK hN hP hD hS hA [0] [1, 2, 3] [3, 0, 1, 2] rfl rfl (by decide) (by decide) (by decide) (by decide) (fun _ => rfl) 0 7 rfl rfl rfl rfl hl.1 rfl (Nat.le_of_ble_eq_true rfl) dX8_know_59 ⟨Nat.zero_le _, Nat.zero_le _⟩ (fun r59 u59 H locs ho hP hD hS => ?_)
        obtain ⟨u59_1, u59_2, u59_3⟩ := u59
        try dsimp only at ho
        replace hP : va_P D vwCl [(a_mo, oX8 a_moR mo_e mo_f mo_codes mo_most mo_minus mo_low u59_1 u59_2 u59_3 a_moK a_moH a_moS mo_spanFunction mo_spanRounding mo_spanMany a_moF a_moT mo_parts mo_shift a_moP a_moQ a_moA a_moB a_moD), (a_moK, .inl (cZ, 5, .inl moK_r)), (a_moH, .inl (cI, 81920, .inl (upd moH_r (((16384 : Int32) * p1) + x2).toNatClampNeg r41))), (a_moS, .inl (cI, 81920, .inl moS_r))] H := hP
        replace hD : va_D A [(a_mo, oX8 a_moR mo_e mo_f mo_codes mo_most mo_minus mo_low u59_1 u59_2 u59_3 a_moK a_moH a_moS mo_spanFunction mo_spanRounding mo_spanMany a_moF a_moT mo_parts mo_shift a_moP a_moQ a_moA a_moB a_moD), (a_moK, .inl (cZ, 5, .inl moK_r)), (a_moH, .inl (cI, 81920, .inl (upd moH_r (((16384 : Int32) * p1) + x2).toNatClampNeg r41))), (a_moS, .inl (cI, 81920, .inl moS_r))] := hD
        have o_62 := ho.1
        replace ho := ho.2
        refine va_iast hx hb hK hP hD hS 3 0 rfl rfl o_62 dX8_know_62 (fun H locs hP hD hS => ?_)
        replace hP : va_P D vwCl [(a_mo, oX8 a_moR mo_e mo_f mo_codes mo_most mo_minus mo_low u59_1 u59_2 u59_3 a_moK a_moH a_moS mo_spanFunction mo_spanRounding mo_spanMany a_moF a_moT mo_parts mo_shift a_moP a_moQ a_moA a_moB a_moD), (a_moK, .inl (cZ, 5, .inl moK_r)), (a_moH, .inl (cI, 81920, .inl (upd moH_r (((16384 : Int32) * p1) + x2).toNatClampNeg r41))), (a_moS, .inl (cI, 81920, .inl (upd moS_r (((16384 : Int32) * p1) + x2).toNatClampNeg r59)))] H := hP
        replace hD : va_D A [(a_mo, oX8 a_moR mo_e mo_f mo_codes mo_most mo_minus mo_low u59_1 u59_2 u59_3 a_moK a_moH a_moS mo_spanFunction mo_spanRounding mo_spanMany a_moF a_moT mo_parts mo_shift a_moP a_moQ a_moA a_moB a_moD), (a_moK, .inl (cZ, 5, .inl moK_r)), (a_moH, .inl (cI, 81920, .inl (upd moH_r (((16384 : Int32) * p1) + x2).toNatClampNeg r41))), (a_moS, .inl (cI, 81920, .inl (upd moS_r (((16384 : Int32) * p1) + x2).toNatClampNeg r59)))] := hD
        refine lv_iinc (v := (x2 + (1 : Int32))) (lv' := [(2, .int (x2 + (1 : Int32))), (0, .ref a_mo), (1, .int p1)]) hx hb dX8_know_63 hl (k := 2) rfl rfl (by decide) rfl (fun ls hl => ?_)
        refine lv_goto (tgt := 19) hx hb dX8_know_66 (by decide) ?_
        exact ih_19 u59_1 u59_2 u59_3 moK_r (upd moH_r (((16384 : Int32) * p1) + x2).toNatClampNeg r41) (upd moS_r (((16384 : Int32) * p1) + x2).toNatClampNeg r59) (x2 + (1 : Int32)) H locs ls ho hP hD hS (lv_sub hl [1, 2, 0] rfl)
  suffices main : ∀ (H : Heap) (locs : List Loc), va_P D vwCl [(a_mo, oX8 a_moR mo_e mo_f mo_codes mo_most mo_minus mo_low mo_function mo_atX mo_atM a_moK a_moH a_moS mo_spanFunction mo_spanRounding mo_spanMany a_moF a_moT mo_parts mo_shift a_moP a_moQ a_moA a_moB a_moD), (a_moK, .inl (cZ, 5, .inl moK_r)), (a_moH, .inl (cI, 81920, .inl moH_r)), (a_moS, .inl (cI, 81920, .inl moS_r))] H → va_S A s.heap H locs → W p l e R s m args below meth c H locs 0 0 Q (F0 m 0 ls []) from main _ _ hP hS
  intro H locs hP hS
  unfold wp_X8_know at ho
  refine lv_aload_n hx hb dX8_know_0 rfl (lv_at hl 0 rfl) ?_
  refine va_get (D := D) (ci := 7) (v := .ref a_moK) (C := RX8) (T := TX8) (N := 25) hx hb hts inlX8 hown hK hP 0 rfl rfl 10 (by decide) (hts _ wl_100) (fun _ h9 => h9) rfl dX8_know_1 ?_
  refine lv_iload_n hx hb dX8_know_4 rfl (lv_at hl 1 rfl) ?_
  have o_5 := ho.1
  replace ho := ho.2
  refine va_zald hx hb hK hP 1 2 rfl rfl o_5 dX8_know_5 ?_
  refine lv_if_eq (tgt := 10) hx hb dX8_know_6 (by decide) (fun c_6 => ?_) (fun c_6 => ?_)
  · replace ho := ho.1 c_6
    refine lv_aload_n hx hb dX8_know_10 rfl (lv_at hl 0 rfl) ?_
    refine va_get (D := D) (ci := 7) (v := .ref a_moK) (C := RX8) (T := TX8) (N := 25) hx hb hts inlX8 hown hK hP 0 rfl rfl 10 (by decide) (hts _ wl_100) (fun _ h9 => h9) rfl dX8_know_11 ?_
    refine lv_iload_n hx hb dX8_know_14 rfl (lv_at hl 1 rfl) ?_
    refine lv_iconst (v := 1) hx hb dX8_know_15 (by decide) ?_
    have o_16 := ho.1
    replace ho := ho.2
    refine va_zast hx hb hK hP hD hS 1 2 rfl rfl o_16 dX8_know_16 (fun H locs hP hD hS => ?_)
    replace hP : va_P D vwCl [(a_mo, oX8 a_moR mo_e mo_f mo_codes mo_most mo_minus mo_low mo_function mo_atX mo_atM a_moK a_moH a_moS mo_spanFunction mo_spanRounding mo_spanMany a_moF a_moT mo_parts mo_shift a_moP a_moQ a_moA a_moB a_moD), (a_moK, .inl (cZ, 5, .inl (upd moK_r p1.toNatClampNeg (vp_nar .boolean (1 : Int32))))), (a_moH, .inl (cI, 81920, .inl moH_r)), (a_moS, .inl (cI, 81920, .inl moS_r))] H := hP
    replace hD : va_D A [(a_mo, oX8 a_moR mo_e mo_f mo_codes mo_most mo_minus mo_low mo_function mo_atX mo_atM a_moK a_moH a_moS mo_spanFunction mo_spanRounding mo_spanMany a_moF a_moT mo_parts mo_shift a_moP a_moQ a_moA a_moB a_moD), (a_moK, .inl (cZ, 5, .inl (upd moK_r p1.toNatClampNeg (vp_nar .boolean (1 : Int32))))), (a_moH, .inl (cI, 81920, .inl moH_r)), (a_moS, .inl (cI, 81920, .inl moS_r))] := hD
    refine lv_iconst (v := 0) hx hb dX8_know_17 (by decide) ?_
    refine lv_istore_n (lv' := [(2, .int (0 : Int32)), (0, .ref a_mo), (1, .int p1)]) hx hb dX8_know_18 rfl hl (by decide) rfl (fun ls hl => ?_)
    obtain ⟨n_19, ho⟩ := ho
    exact C_19 n_19 mo_function mo_atX mo_atM (upd moK_r p1.toNatClampNeg (vp_nar .boolean (1 : Int32))) moH_r moS_r (0 : Int32) H locs ls ho hP hD hS (lv_sub hl [1, 2, 0] rfl)
  · replace ho := ho.2 c_6
    subst hQ; exact W.vret hx hb hr (fun t ht hW => ⟨⟨(mo_function, mo_atX, mo_atM, moK_r, moH_r, moS_r), rfl, ho, by rw [ht]; exact hP, hD⟩, hS.F ht⟩) (fun q hq => hS.2.2 q hq) dX8_know_9

def w_X8_hardest : List Cond := .code yX8_hardest cX8_hardest 6 (some .int) :: wsL_law
set_option maxHeartbeats 4000000 in
set_option maxRecDepth 100000 in
theorem c_X8_hardest (l : Launch) (D : va_G) (cI cJ cZ : ClassId) (a_mo : Nat) (a_moR : Nat) (a_moK : Nat) (a_moH : Nat) (a_moS : Nat) (a_moF : Nat) (a_moT : Nat) (a_moP : Nat) (a_moQ : Nat) (a_moA : Nat) (a_moB : Nat) (a_moD : Nat) (sz : Nat) (mo_e : Int32) (mo_f : Int32) (mo_codes : Int32) (mo_most : Int32) (mo_minus : Int32) (mo_low : Int32) (mo_function : Int32) (mo_atX : Int32) (mo_atM : Int64) (mo_spanFunction : Int32) (mo_spanRounding : Int32) (mo_spanMany : Int32) (mo_parts : Int32) (mo_shift : Int32) (moR_r : Nat → Int32) (moK_r : Nat → Int32) (moH_r : Nat → Int32) (moS_r : Nat → Int32) (p1 : Int32) (p2 : Int32) (post : Int32 → Int32 → Int32 → Int64 → (Nat → Int32) → (Nat → Int32) → (Nat → Int32) → (Nat → Int32) → Prop) (A : Nat → Prop) (hAe : A = va_A [(a_mo, oX8 a_moR mo_e mo_f mo_codes mo_most mo_minus mo_low mo_function mo_atX mo_atM a_moK a_moH a_moS mo_spanFunction mo_spanRounding mo_spanMany a_moF a_moT mo_parts mo_shift a_moP a_moQ a_moA a_moB a_moD), (a_moR, .inl (cI, 7, .inl moR_r)), (a_moK, .inl (cZ, 5, .inl moK_r)), (a_moH, .inl (cI, 81920, .inl moH_r)), (a_moS, .inl (cI, 81920, .inl moS_r))] sz) (ho : wp_X8_hardest post mo_f mo_codes mo_most mo_minus mo_low mo_function mo_atX mo_atM moR_r moK_r moH_r moS_r p1 p2) : Met l yX8_hardest w_X8_hardest ({ frames := 7, cells := 0, slots := 0, locals := 175 } : Room) (rw_P D [(cI, .int), (cJ, .long), (cZ, .boolean)] [.ref a_mo, .int p1, .int p2] sz [(a_mo, oX8 a_moR mo_e mo_f mo_codes mo_most mo_minus mo_low mo_function mo_atX mo_atM a_moK a_moH a_moS mo_spanFunction mo_spanRounding mo_spanMany a_moF a_moT mo_parts mo_shift a_moP a_moQ a_moA a_moB a_moD), (a_moR, .inl (cI, 7, .inl moR_r)), (a_moK, .inl (cZ, 5, .inl moK_r)), (a_moH, .inl (cI, 81920, .inl moH_r)), (a_moS, .inl (cI, 81920, .inl moS_r))]) (va_Qi (fun (r : Int32) (u : (Int32) × (Int32) × (Int64) × (Nat → Int32) × (Nat → Int32) × (Nat → Int32) × (Nat → Int32)) => post r u.1 u.2.1 u.2.2.1 u.2.2.2.1 u.2.2.2.2.1 u.2.2.2.2.2.1 u.2.2.2.2.2.2) (rw_B D A (fun (u : (Int32) × (Int32) × (Int64) × (Nat → Int32) × (Nat → Int32) × (Nat → Int32) × (Nat → Int32)) => [(a_mo, oX8 a_moR mo_e mo_f mo_codes mo_most mo_minus mo_low u.1 u.2.1 u.2.2.1 a_moK a_moH a_moS mo_spanFunction mo_spanRounding mo_spanMany a_moF a_moT mo_parts mo_shift a_moP a_moQ a_moA a_moB a_moD), (a_moR, .inl (cI, 7, .inl u.2.2.2.1)), (a_moK, .inl (cZ, 5, .inl u.2.2.2.2.1)), (a_moH, .inl (cI, 81920, .inl u.2.2.2.2.2.1)), (a_moS, .inl (cI, 81920, .inl u.2.2.2.2.2.2))])) A) 0 0 A := by
  refine Met.ofW (cc := cX8_hardest) (maxL := 6) (ret := (some .int)) (by decide) rfl ?_
  intro p e s m args below meth c s₁ B hml hv
  obtain ⟨hargs, hsz, hP, hK, hN, hD0⟩ := hv
  have hx := B.exec
  have hb := B.bytes
  have hr := B.returns
  have hts : ∀ w ∈ wsL_law, w.before args s = true := fun w h => atoms_spec (ws := w_X8_hardest) B.pre w (List.mem_cons_of_mem _ h)
  have hown : s.vm.findClass RX8 = some m.cls := findClass_of_methodNamed B.named
  have hlocks := B.notSynchronized
  subst hsz
  have hD : va_D A [(a_mo, oX8 a_moR mo_e mo_f mo_codes mo_most mo_minus mo_low mo_function mo_atX mo_atM a_moK a_moH a_moS mo_spanFunction mo_spanRounding mo_spanMany a_moF a_moT mo_parts mo_shift a_moP a_moQ a_moA a_moB a_moD), (a_moR, .inl (cI, 7, .inl moR_r)), (a_moK, .inl (cZ, 5, .inl moK_r)), (a_moH, .inl (cI, 81920, .inl moH_r)), (a_moS, .inl (cI, 81920, .inl moS_r))] := by rw [hAe]; exact hD0.self
  have hA : ∀ q : Nat, s.heap.size ≤ q → A q := fun q h => by rw [hAe]; exact Or.inr h
  have hS : va_S A s.heap s.heap [] := va_S.rf
  have hl := lv_entry ([.ref a_mo, .int p1, .int p2]) (n := 6) (Nat.le_of_ble_eq_true rfl)
  rw [hargs, lg_entry_eq, ← hargs]
  generalize (lg_sl ([.ref a_mo, .int p1, .int p2]) ++ List.replicate (6 - (lg_sl ([.ref a_mo, .int p1, .int p2])).length) Slot.unset).toArray = ls at hl ⊢
  replace hl : lv_has ls 6 [(0, .ref a_mo), (1, .int p1), (2, .int p2)] := hl
  have hRf : ∀ n, n ≤ 7 → n ≤ (headSpec w_X8_hardest ({ frames := 7, cells := 0, slots := 0, locals := 175 } : Room)).room.frames := fun n h => h
  have hRl : ∀ n, n ≤ 175 → n ≤ (headSpec w_X8_hardest ({ frames := 7, cells := 0, slots := 0, locals := 175 } : Room)).room.locals := fun n h => h
  generalize (headSpec w_X8_hardest ({ frames := 7, cells := 0, slots := 0, locals := 175 } : Room)).room = R at hRf hRl ⊢
  generalize hQ : MQ below _ args s 0 0 _ = Q
  have C_62 : ∀ n : Nat, ∀ (mo_function : Int32) (mo_atX : Int32) (mo_atM : Int64) (moR_r : Nat → Int32) (moK_r : Nat → Int32) (moH_r : Nat → Int32) (moS_r : Nat → Int32) (x3 : Int32) (x4 : Int32) (x5 : Int32) (H : Heap) (locs : List Loc) (ls : Array Slot), wp_X8_hardest_62 post  mo_codes p1 p2 n mo_function mo_atX mo_atM moR_r moK_r moH_r moS_r x3 x4 x5 → va_P D vwCl [(a_mo, oX8 a_moR mo_e mo_f mo_codes mo_most mo_minus mo_low mo_function mo_atX mo_atM a_moK a_moH a_moS mo_spanFunction mo_spanRounding mo_spanMany a_moF a_moT mo_parts mo_shift a_moP a_moQ a_moA a_moB a_moD), (a_moR, .inl (cI, 7, .inl moR_r)), (a_moK, .inl (cZ, 5, .inl moK_r)), (a_moH, .inl (cI, 81920, .inl moH_r)), (a_moS, .inl (cI, 81920, .inl moS_r))] H → va_D A [(a_mo, oX8 a_moR mo_e mo_f mo_codes mo_most mo_minus mo_low mo_function mo_atX mo_atM a_moK a_moH a_moS mo_spanFunction mo_spanRounding mo_spanMany a_moF a_moT mo_parts mo_shift a_moP a_moQ a_moA a_moB a_moD), (a_moR, .inl (cI, 7, .inl moR_r)), (a_moK, .inl (cZ, 5, .inl moK_r)), (a_moH, .inl (cI, 81920, .inl moH_r)), (a_moS, .inl (cI, 81920, .inl moS_r))] → va_S A s.heap H locs → lv_has ls 6 [(0, .ref a_mo), (1, .int p1), (2, .int p2), (3, .int x3), (4, .int x4), (5, .int x5)] → W p l e R s m args below meth c H locs 0 0 Q (F0 m 62 ls []) := by
    intro n
    induction n with
    | zero => intro mo_function mo_atX mo_atM moR_r moK_r moH_r moS_r x3 x4 x5 H locs ls ho hP hD hS hl; exact ho.elim
    | succ n_62 ih_62 =>
      have C_106 : ∀ (mo_function : Int32) (mo_atX : Int32) (mo_atM : Int64) (moR_r : Nat → Int32) (moK_r : Nat → Int32) (moH_r : Nat → Int32) (moS_r : Nat → Int32) (x3 : Int32) (x4 : Int32) (x5 : Int32) (H : Heap) (locs : List Loc) (ls : Array Slot), wp_X8_hardest_106 post (wp_X8_hardest_62 post mo_codes p1 p2 n_62) mo_function mo_atX mo_atM moR_r moK_r moH_r moS_r x3 x4 x5 → va_P D vwCl [(a_mo, oX8 a_moR mo_e mo_f mo_codes mo_most mo_minus mo_low mo_function mo_atX mo_atM a_moK a_moH a_moS mo_spanFunction mo_spanRounding mo_spanMany a_moF a_moT mo_parts mo_shift a_moP a_moQ a_moA a_moB a_moD), (a_moR, .inl (cI, 7, .inl moR_r)), (a_moK, .inl (cZ, 5, .inl moK_r)), (a_moH, .inl (cI, 81920, .inl moH_r)), (a_moS, .inl (cI, 81920, .inl moS_r))] H → va_D A [(a_mo, oX8 a_moR mo_e mo_f mo_codes mo_most mo_minus mo_low mo_function mo_atX mo_atM a_moK a_moH a_moS mo_spanFunction mo_spanRounding mo_spanMany a_moF a_moT mo_parts mo_shift a_moP a_moQ a_moA a_moB a_moD), (a_moR, .inl (cI, 7, .inl moR_r)), (a_moK, .inl (cZ, 5, .inl moK_r)), (a_moH, .inl (cI, 81920, .inl moH_r)), (a_moS, .inl (cI, 81920, .inl moS_r))] → va_S A s.heap H locs → lv_has ls 6 [(0, .ref a_mo), (1, .int p1), (2, .int p2), (3, .int x3), (4, .int x4), (5, .int x5)] → W p l e R s m args below meth c H locs 0 0 Q (F0 m 106 ls []) := by
        intro mo_function mo_atX mo_atM moR_r moK_r moH_r moS_r x3 x4 x5 H locs ls ho hP hD hS hl
        unfold wp_X8_hardest_106 at ho
        refine lv_iinc (v := (x5 + (1 : Int32))) (lv' := [(5, .int (x5 + (1 : Int32))), (0, .ref a_mo), (1, .int p1), (2, .int p2), (3, .int x3), (4, .int x4)]) hx hb dX8_hardest_106 hl (k := 5) rfl rfl (by decide) rfl (fun ls hl => ?_)
        refine lv_goto (tgt := 62) hx hb dX8_hardest_109 (by decide) ?_
        exact ih_62 mo_function mo_atX mo_atM moR_r moK_r moH_r moS_r x3 x4 (x5 + (1 : Int32)) H locs ls ho hP hD hS (lv_sub hl [1, 2, 3, 4, 5, 0] rfl)
      intro mo_function mo_atX mo_atM moR_r moK_r moH_r moS_r x3 x4 x5 H locs ls ho hP hD hS hl
      replace ho : wp_X8_hardest_62_b post mo_codes p1 p2 (wp_X8_hardest_62 post mo_codes p1 p2 n_62) mo_function mo_atX mo_atM moR_r moK_r moH_r moS_r x3 x4 x5 := ho
      unfold wp_X8_hardest_62_b at ho
      refine lv_iload hx hb dX8_hardest_62 (lv_at hl 5 rfl) ?_
      refine lv_aload_n hx hb dX8_hardest_64 rfl (lv_at hl 0 rfl) ?_
      refine va_get (D := D) (ci := 7) (v := .int mo_codes) (C := RX8) (T := TX8) (N := 25) hx hb hts inlX8 hown hK hP 0 rfl rfl 3 (by decide) (hts _ wl_118) (fun _ h9 => h9) rfl dX8_hardest_65 ?_
      refine lv_icmp_ge (tgt := 112) hx hb dX8_hardest_68 (by decide) (fun c_68 => ?_) (fun c_68 => ?_)
      · replace ho := ho.1 c_68
        refine lv_bipush (v := (-9)) hx hb dX8_hardest_112 (by decide) ?_
        subst hQ; exact W.iret (v := (-9 : Int32)) hx hb hr (fun t ht hW => ⟨⟨(-9 : Int32), (mo_function, mo_atX, mo_atM, moR_r, moK_r, moH_r, moS_r), rfl, ho, by rw [ht]; exact hP, hD⟩, hS.F ht⟩) (fun q hq => hS.2.2 q hq) dX8_hardest_114
      · replace ho := ho.2 c_68
        refine lv_iload_n hx hb dX8_hardest_71 rfl (lv_at hl 2 rfl) ?_
        refine lv_if_lt (tgt := 112) hx hb dX8_hardest_72 (by decide) (fun c_72 => ?_) (fun c_72 => ?_)
        · replace ho := ho.1 c_72
          refine lv_bipush (v := (-9)) hx hb dX8_hardest_112 (by decide) ?_
          subst hQ; exact W.iret (v := (-9 : Int32)) hx hb hr (fun t ht hW => ⟨⟨(-9 : Int32), (mo_function, mo_atX, mo_atM, moR_r, moK_r, moH_r, moS_r), rfl, ho, by rw [ht]; exact hP, hD⟩, hS.F ht⟩) (fun q hq => hS.2.2 q hq) dX8_hardest_114
        · replace ho := ho.2 c_72
          refine lv_aload_n hx hb dX8_hardest_75 rfl (lv_at hl 0 rfl) ?_
          refine va_get (D := D) (ci := 7) (v := .ref a_moH) (C := RX8) (T := TX8) (N := 25) hx hb hts inlX8 hown hK hP 0 rfl rfl 11 (by decide) (hts _ wl_102) (fun _ h9 => h9) rfl dX8_hardest_76 ?_
          refine lv_sipush (v := 16384) hx hb dX8_hardest_79 (by decide) ?_
          refine lv_iload_n hx hb dX8_hardest_82 rfl (lv_at hl 1 rfl) ?_
          refine lv_imul hx hb dX8_hardest_83 ?_
          refine lv_iload hx hb dX8_hardest_84 (lv_at hl 5 rfl) ?_
          refine lv_iadd hx hb dX8_hardest_86 ?_
          have o_87 := ho.1
          replace ho := ho.2
          refine va_iald hx hb hK hP 3 0 rfl rfl o_87 dX8_hardest_87 ?_
          refine lv_iload_n hx hb dX8_hardest_88 rfl (lv_at hl 3 rfl) ?_
          refine lv_icmp_eq (tgt := 95) hx hb dX8_hardest_89 (by decide) (fun c_89 => ?_) (fun c_89 => ?_)
          · replace ho := ho.1 c_89
            refine lv_iload hx hb dX8_hardest_95 (lv_at hl 4 rfl) ?_
            refine lv_if_ne (tgt := 103) hx hb dX8_hardest_97 (by decide) (fun c_97 => ?_) (fun c_97 => ?_)
            · replace ho := ho.1 c_97
              refine lv_iinc (v := (x4 + (-1 : Int32))) (lv' := [(4, .int (x4 + (-1 : Int32))), (0, .ref a_mo), (1, .int p1), (2, .int p2), (3, .int x3), (5, .int x5)]) hx hb dX8_hardest_103 hl (k := 4) rfl rfl (by decide) rfl (fun ls hl => ?_)
              exact C_106 mo_function mo_atX mo_atM moR_r moK_r moH_r moS_r x3 (x4 + (-1 : Int32)) x5 H locs ls ho hP hD hS (lv_sub hl [1, 2, 3, 4, 0, 5] rfl)
            · replace ho := ho.2 c_97
              refine lv_iload hx hb dX8_hardest_100 (lv_at hl 5 rfl) ?_
              subst hQ; exact W.iret (v := x5) hx hb hr (fun t ht hW => ⟨⟨x5, (mo_function, mo_atX, mo_atM, moR_r, moK_r, moH_r, moS_r), rfl, ho, by rw [ht]; exact hP, hD⟩, hS.F ht⟩) (fun q hq => hS.2.2 q hq) dX8_hardest_102
          · replace ho := ho.2 c_89
            refine lv_goto (tgt := 106) hx hb dX8_hardest_92 (by decide) ?_
            exact C_106 mo_function mo_atX mo_atM moR_r moK_r moH_r moS_r x3 x4 x5 H locs ls ho hP hD hS (lv_sub hl [0, 1, 2, 3, 4, 5] rfl)
  have C_23 : ∀ n : Nat, ∀ (mo_function : Int32) (mo_atX : Int32) (mo_atM : Int64) (moR_r : Nat → Int32) (moK_r : Nat → Int32) (moH_r : Nat → Int32) (moS_r : Nat → Int32) (x3 : Int32) (x4 : Int32) (H : Heap) (locs : List Loc) (ls : Array Slot), wp_X8_hardest_23 post  mo_codes p1 p2 n mo_function mo_atX mo_atM moR_r moK_r moH_r moS_r x3 x4 → va_P D vwCl [(a_mo, oX8 a_moR mo_e mo_f mo_codes mo_most mo_minus mo_low mo_function mo_atX mo_atM a_moK a_moH a_moS mo_spanFunction mo_spanRounding mo_spanMany a_moF a_moT mo_parts mo_shift a_moP a_moQ a_moA a_moB a_moD), (a_moR, .inl (cI, 7, .inl moR_r)), (a_moK, .inl (cZ, 5, .inl moK_r)), (a_moH, .inl (cI, 81920, .inl moH_r)), (a_moS, .inl (cI, 81920, .inl moS_r))] H → va_D A [(a_mo, oX8 a_moR mo_e mo_f mo_codes mo_most mo_minus mo_low mo_function mo_atX mo_atM a_moK a_moH a_moS mo_spanFunction mo_spanRounding mo_spanMany a_moF a_moT mo_parts mo_shift a_moP a_moQ a_moA a_moB a_moD), (a_moR, .inl (cI, 7, .inl moR_r)), (a_moK, .inl (cZ, 5, .inl moK_r)), (a_moH, .inl (cI, 81920, .inl moH_r)), (a_moS, .inl (cI, 81920, .inl moS_r))] → va_S A s.heap H locs → lv_has ls 6 [(0, .ref a_mo), (1, .int p1), (2, .int p2), (3, .int x3), (4, .int x4)] → W p l e R s m args below meth c H locs 0 0 Q (F0 m 23 ls []) := by
    intro n
    induction n with
    | zero => intro mo_function mo_atX mo_atM moR_r moK_r moH_r moS_r x3 x4 H locs ls ho hP hD hS hl; exact ho.elim
    | succ n_23 ih_23 =>
      intro mo_function mo_atX mo_atM moR_r moK_r moH_r moS_r x3 x4 H locs ls ho hP hD hS hl
      replace ho : wp_X8_hardest_23_b post mo_codes p1 p2 (wp_X8_hardest_23 post mo_codes p1 p2 n_23) mo_function mo_atX mo_atM moR_r moK_r moH_r moS_r x3 x4 := ho
      unfold wp_X8_hardest_23_b at ho
      refine lv_iload hx hb dX8_hardest_23 (lv_at hl 4 rfl) ?_
      refine lv_aload_n hx hb dX8_hardest_25 rfl (lv_at hl 0 rfl) ?_
      refine va_get (D := D) (ci := 7) (v := .int mo_codes) (C := RX8) (T := TX8) (N := 25) hx hb hts inlX8 hown hK hP 0 rfl rfl 3 (by decide) (hts _ wl_118) (fun _ h9 => h9) rfl dX8_hardest_26 ?_
      refine lv_icmp_ge (tgt := 56) hx hb dX8_hardest_29 (by decide) (fun c_29 => ?_) (fun c_29 => ?_)
      · replace ho := ho.1 c_29
        refine lv_iload_n hx hb dX8_hardest_56 rfl (lv_at hl 2 rfl) ?_
        refine lv_istore (lv' := [(4, .int p2), (0, .ref a_mo), (1, .int p1), (2, .int p2), (3, .int x3)]) hx hb dX8_hardest_57 hl (by decide) rfl (fun ls hl => ?_)
        refine lv_iconst (v := 0) hx hb dX8_hardest_59 (by decide) ?_
        refine lv_istore (lv' := [(5, .int (0 : Int32)), (4, .int p2), (0, .ref a_mo), (1, .int p1), (2, .int p2), (3, .int x3)]) hx hb dX8_hardest_60 hl (by decide) rfl (fun ls hl => ?_)
        obtain ⟨n_62, ho⟩ := ho
        exact C_62 n_62 mo_function mo_atX mo_atM moR_r moK_r moH_r moS_r x3 p2 (0 : Int32) H locs ls ho hP hD hS (lv_sub hl [2, 3, 4, 5, 1, 0] rfl)
      · replace ho := ho.2 c_29
        refine lv_iload_n hx hb dX8_hardest_32 rfl (lv_at hl 3 rfl) ?_
        refine lv_aload_n hx hb dX8_hardest_33 rfl (lv_at hl 0 rfl) ?_
        refine va_get (D := D) (ci := 7) (v := .ref a_moH) (C := RX8) (T := TX8) (N := 25) hx hb hts inlX8 hown hK hP 0 rfl rfl 11 (by decide) (hts _ wl_102) (fun _ h9 => h9) rfl dX8_hardest_34 ?_
        refine lv_sipush (v := 16384) hx hb dX8_hardest_37 (by decide) ?_
        refine lv_iload_n hx hb dX8_hardest_40 rfl (lv_at hl 1 rfl) ?_
        refine lv_imul hx hb dX8_hardest_41 ?_
        refine lv_iload hx hb dX8_hardest_42 (lv_at hl 4 rfl) ?_
        refine lv_iadd hx hb dX8_hardest_44 ?_
        have o_45 := ho.1
        replace ho := ho.2
        refine va_iald hx hb hK hP 3 0 rfl rfl o_45 dX8_hardest_45 ?_
        refine va_mmax hx hb (hml.trans hl.1.symm) hown (hts _ wl_576) (hts _ wl_243) (hts _ wl_244) (hts _ wl_245) (hRf 1 (Nat.le_of_ble_eq_true rfl)) (hRl _ (Nat.le_of_ble_eq_true rfl)) (Nat.zero_le _) (Nat.zero_le _) dX8_hardest_46 ?_
        refine lv_istore_n (lv' := [(3, .int (if x3 < (moH_r (((16384 : Int32) * p1) + x4).toNatClampNeg) then (moH_r (((16384 : Int32) * p1) + x4).toNatClampNeg) else x3)), (0, .ref a_mo), (1, .int p1), (2, .int p2), (4, .int x4)]) hx hb dX8_hardest_49 rfl hl (by decide) rfl (fun ls hl => ?_)
        refine lv_iinc (v := (x4 + (1 : Int32))) (lv' := [(4, .int (x4 + (1 : Int32))), (3, .int (if x3 < (moH_r (((16384 : Int32) * p1) + x4).toNatClampNeg) then (moH_r (((16384 : Int32) * p1) + x4).toNatClampNeg) else x3)), (0, .ref a_mo), (1, .int p1), (2, .int p2)]) hx hb dX8_hardest_50 hl (k := 4) rfl rfl (by decide) rfl (fun ls hl => ?_)
        refine lv_goto (tgt := 23) hx hb dX8_hardest_53 (by decide) ?_
        exact ih_23 mo_function mo_atX mo_atM moR_r moK_r moH_r moS_r (if x3 < (moH_r (((16384 : Int32) * p1) + x4).toNatClampNeg) then (moH_r (((16384 : Int32) * p1) + x4).toNatClampNeg) else x3) (x4 + (1 : Int32)) H locs ls ho hP hD hS (lv_sub hl [2, 3, 4, 1, 0] rfl)
  suffices main : ∀ (H : Heap) (locs : List Loc), va_P D vwCl [(a_mo, oX8 a_moR mo_e mo_f mo_codes mo_most mo_minus mo_low mo_function mo_atX mo_atM a_moK a_moH a_moS mo_spanFunction mo_spanRounding mo_spanMany a_moF a_moT mo_parts mo_shift a_moP a_moQ a_moA a_moB a_moD), (a_moR, .inl (cI, 7, .inl moR_r)), (a_moK, .inl (cZ, 5, .inl moK_r)), (a_moH, .inl (cI, 81920, .inl moH_r)), (a_moS, .inl (cI, 81920, .inl moS_r))] H → va_S A s.heap H locs → W p l e R s m args below meth c H locs 0 0 Q (F0 m 0 ls []) from main _ _ hP hS
  intro H locs hP hS
  unfold wp_X8_hardest at ho
  refine lv_iload_n hx hb dX8_hardest_0 rfl (lv_at hl 1 rfl) ?_
  refine ca_Si (As := [.int p1]) (rest := []) ⟨hx, hb, hml, hown, hts⟩ (c_X8_isFunction l D cI cJ cZ   p1 _ ho) (va_cwS 1 hts (gdS wl_469 wl_470 wl_5 wl_471) rfl rfl rfl (by decide +kernel) ⟨hRf _ (Nat.le_of_ble_eq_true rfl), hRl _ (Nat.le_of_ble_eq_true rfl)⟩) hK hN hP [] rfl rfl hl.1 rfl (Nat.le_of_ble_eq_true rfl) dX8_hardest_1 ⟨Nat.zero_le _, Nat.zero_le _⟩ (fun r1 ho => ?_)
  refine lv_if_ne (tgt := 13) hx hb dX8_hardest_4 (by decide) (fun c_4 => ?_) (fun c_4 => ?_)
  · replace ho := ho.1 c_4
    refine lv_aload_n hx hb dX8_hardest_13 rfl (lv_at hl 0 rfl) ?_
    refine lv_iload_n hx hb dX8_hardest_14 rfl (lv_at hl 1 rfl) ?_
    refine ca_Wv (b := a_mo) (As := [.int p1]) (rest := []) (wr := [(a_moR, .inl (cI, 7, .inl moR_r))]) (wo := fun (u : (Int32) × (Int32) × (Int64) × (Nat → Int32) × (Nat → Int32) × (Nat → Int32)) => [(a_mo, oX8 a_moR mo_e mo_f mo_codes mo_most mo_minus mo_low u.1 u.2.1 u.2.2.1 a_moK a_moH a_moS mo_spanFunction mo_spanRounding mo_spanMany a_moF a_moT mo_parts mo_shift a_moP a_moQ a_moA a_moB a_moD), (a_moK, .inl (cZ, 5, .inl u.2.2.2.1)), (a_moH, .inl (cI, 81920, .inl u.2.2.2.2.1)), (a_moS, .inl (cI, 81920, .inl u.2.2.2.2.2))]) (wn := fun (u : (Int32) × (Int32) × (Int64) × (Nat → Int32) × (Nat → Int32) × (Nat → Int32)) => [(a_mo, oX8 a_moR mo_e mo_f mo_codes mo_most mo_minus mo_low u.1 u.2.1 u.2.2.1 a_moK a_moH a_moS mo_spanFunction mo_spanRounding mo_spanMany a_moF a_moT mo_parts mo_shift a_moP a_moQ a_moA a_moB a_moD), (a_moR, .inl (cI, 7, .inl moR_r)), (a_moK, .inl (cZ, 5, .inl u.2.2.2.1)), (a_moH, .inl (cI, 81920, .inl u.2.2.2.2.1)), (a_moS, .inl (cI, 81920, .inl u.2.2.2.2.2))]) ⟨hx, hb, hml, hown, hts⟩ (c_X8_know l D cI cJ cZ a_mo a_moR a_moK a_moH a_moS a_moF a_moT a_moP a_moQ a_moA a_moB a_moD H.size mo_e mo_f mo_codes mo_most mo_minus mo_low mo_function mo_atX mo_atM mo_spanFunction mo_spanRounding mo_spanMany mo_parts mo_shift moK_r moH_r moS_r p1 _ _ rfl ho) (cwV 1 hts (gdV wl_577 wl_578 wl_579 wl_5 wl_580) rfl rfl rfl (by decide +kernel) ⟨hRf _ (Nat.le_of_ble_eq_true rfl), hRl _ (Nat.le_of_ble_eq_true rfl)⟩) hK hN hP hD hS hA [0, 2, 3, 4] [1] [1, 0, 2, 3, 4] rfl rfl (by decide) (by decide) (by decide) (by decide) (fun _ => rfl) 0 7 rfl rfl rfl rfl hl.1 rfl (Nat.le_of_ble_eq_true rfl) dX8_hardest_15 ⟨Nat.zero_le _, Nat.zero_le _⟩ (fun  u15 H locs ho hP hD hS => ?_)
    obtain ⟨u15_1, u15_2, u15_3, u15_4, u15_5, u15_6⟩ := u15
    try dsimp only at ho
    replace hP : va_P D vwCl [(a_mo, oX8 a_moR mo_e mo_f mo_codes mo_most mo_minus mo_low u15_1 u15_2 u15_3 a_moK a_moH a_moS mo_spanFunction mo_spanRounding mo_spanMany a_moF a_moT mo_parts mo_shift a_moP a_moQ a_moA a_moB a_moD), (a_moR, .inl (cI, 7, .inl moR_r)), (a_moK, .inl (cZ, 5, .inl u15_4)), (a_moH, .inl (cI, 81920, .inl u15_5)), (a_moS, .inl (cI, 81920, .inl u15_6))] H := hP
    replace hD : va_D A [(a_mo, oX8 a_moR mo_e mo_f mo_codes mo_most mo_minus mo_low u15_1 u15_2 u15_3 a_moK a_moH a_moS mo_spanFunction mo_spanRounding mo_spanMany a_moF a_moT mo_parts mo_shift a_moP a_moQ a_moA a_moB a_moD), (a_moR, .inl (cI, 7, .inl moR_r)), (a_moK, .inl (cZ, 5, .inl u15_4)), (a_moH, .inl (cI, 81920, .inl u15_5)), (a_moS, .inl (cI, 81920, .inl u15_6))] := hD
    refine lv_iconst (v := 0) hx hb dX8_hardest_18 (by decide) ?_
    refine lv_istore_n (lv' := [(3, .int (0 : Int32)), (0, .ref a_mo), (1, .int p1), (2, .int p2)]) hx hb dX8_hardest_19 rfl hl (by decide) rfl (fun ls hl => ?_)
    refine lv_iconst (v := 0) hx hb dX8_hardest_20 (by decide) ?_
    refine lv_istore (lv' := [(4, .int (0 : Int32)), (3, .int (0 : Int32)), (0, .ref a_mo), (1, .int p1), (2, .int p2)]) hx hb dX8_hardest_21 hl (by decide) rfl (fun ls hl => ?_)
    obtain ⟨n_23, ho⟩ := ho
    exact C_23 n_23 u15_1 u15_2 u15_3 moR_r u15_4 u15_5 u15_6 (0 : Int32) (0 : Int32) H locs ls ho hP hD hS (lv_sub hl [2, 3, 4, 1, 0] rfl)
  · replace ho := ho.2 c_4
    refine lv_aload_n hx hb dX8_hardest_7 rfl (lv_at hl 0 rfl) ?_
    refine lv_iconst (v := (-1)) hx hb dX8_hardest_8 (by decide) ?_
    refine ca_Wi (b := a_mo) (As := [.int (-1 : Int32)]) (rest := []) (wr := [(a_moK, .inl (cZ, 5, .inl moK_r)), (a_moH, .inl (cI, 81920, .inl moH_r)), (a_moS, .inl (cI, 81920, .inl moS_r))]) (wo := fun (u : (Nat → Int32)) => [(a_mo, oX8 a_moR mo_e mo_f mo_codes mo_most mo_minus mo_low mo_function mo_atX mo_atM a_moK a_moH a_moS mo_spanFunction mo_spanRounding mo_spanMany a_moF a_moT mo_parts mo_shift a_moP a_moQ a_moA a_moB a_moD), (a_moR, .inl (cI, 7, .inl u))]) (wn := fun (u : (Nat → Int32)) => [(a_mo, oX8 a_moR mo_e mo_f mo_codes mo_most mo_minus mo_low mo_function mo_atX mo_atM a_moK a_moH a_moS mo_spanFunction mo_spanRounding mo_spanMany a_moF a_moT mo_parts mo_shift a_moP a_moQ a_moA a_moB a_moD), (a_moR, .inl (cI, 7, .inl u)), (a_moK, .inl (cZ, 5, .inl moK_r)), (a_moH, .inl (cI, 81920, .inl moH_r)), (a_moS, .inl (cI, 81920, .inl moS_r))]) ⟨hx, hb, hml, hown, hts⟩ (c_X8_refuse l D cI cJ cZ a_mo a_moR a_moK a_moH a_moS a_moF a_moT a_moP a_moQ a_moA a_moB a_moD H.size mo_e mo_f mo_codes mo_most mo_minus mo_low mo_function mo_atX mo_atM mo_spanFunction mo_spanRounding mo_spanMany mo_parts mo_shift moR_r (-1 : Int32) _ _ rfl ho) (cwV 1 hts (gdV wl_165 wl_166 wl_167 wl_5 wl_168) rfl rfl rfl (by decide +kernel) ⟨hRf _ (Nat.le_of_ble_eq_true rfl), hRl _ (Nat.le_of_ble_eq_true rfl)⟩) hK hN hP hD hS hA [0, 1] [2, 3, 4] [3, 4, 0, 1, 2] rfl rfl (by decide) (by decide) (by decide) (by decide) (fun _ => rfl) 0 7 rfl rfl rfl rfl hl.1 rfl (Nat.le_of_ble_eq_true rfl) dX8_hardest_9 ⟨Nat.zero_le _, Nat.zero_le _⟩ (fun r9 u9 H locs ho hP hD hS => ?_)
    try dsimp only at ho
    replace hP : va_P D vwCl [(a_mo, oX8 a_moR mo_e mo_f mo_codes mo_most mo_minus mo_low mo_function mo_atX mo_atM a_moK a_moH a_moS mo_spanFunction mo_spanRounding mo_spanMany a_moF a_moT mo_parts mo_shift a_moP a_moQ a_moA a_moB a_moD), (a_moR, .inl (cI, 7, .inl u9)), (a_moK, .inl (cZ, 5, .inl moK_r)), (a_moH, .inl (cI, 81920, .inl moH_r)), (a_moS, .inl (cI, 81920, .inl moS_r))] H := hP
    replace hD : va_D A [(a_mo, oX8 a_moR mo_e mo_f mo_codes mo_most mo_minus mo_low mo_function mo_atX mo_atM a_moK a_moH a_moS mo_spanFunction mo_spanRounding mo_spanMany a_moF a_moT mo_parts mo_shift a_moP a_moQ a_moA a_moB a_moD), (a_moR, .inl (cI, 7, .inl u9)), (a_moK, .inl (cZ, 5, .inl moK_r)), (a_moH, .inl (cI, 81920, .inl moH_r)), (a_moS, .inl (cI, 81920, .inl moS_r))] := hD
    subst hQ; exact W.iret (v := r9) hx hb hr (fun t ht hW => ⟨⟨r9, (mo_function, mo_atX, mo_atM, u9, moK_r, moH_r, moS_r), rfl, ho, by rw [ht]; exact hP, hD⟩, hS.F ht⟩) (fun q hq => hS.2.2 q hq) dX8_hardest_12
