def w_X8_sort : List Cond := .code yX8_sort cX8_sort 3 (some .int) :: wsL_law
set_option maxHeartbeats 4000000 in
set_option maxRecDepth 100000 in
theorem c_X8_sort (l : Launch) (D : va_G) (cI cJ cZ : ClassId) (a_mo : Nat) (a_moR : Nat) (a_moK : Nat) (a_moH : Nat) (a_moS : Nat) (a_moF : Nat) (a_moT : Nat) (a_moP : Nat) (a_moQ : Nat) (a_moA : Nat) (a_moB : Nat) (a_moD : Nat) (sz : Nat) (mo_e : Int32) (mo_f : Int32) (mo_codes : Int32) (mo_most : Int32) (mo_minus : Int32) (mo_low : Int32) (mo_function : Int32) (mo_atX : Int32) (mo_atM : Int64) (mo_spanFunction : Int32) (mo_spanRounding : Int32) (mo_spanMany : Int32) (mo_parts : Int32) (mo_shift : Int32) (moR_r : Nat → Int32) (p1 : Int32) (p2 : Int32) (post : Int32 → Int32 → Int32 → Int64 → (Nat → Int32) → Prop) (A : Nat → Prop) (hAe : A = va_A [(a_mo, oX8 a_moR mo_e mo_f mo_codes mo_most mo_minus mo_low mo_function mo_atX mo_atM a_moK a_moH a_moS mo_spanFunction mo_spanRounding mo_spanMany a_moF a_moT mo_parts mo_shift a_moP a_moQ a_moA a_moB a_moD), (a_moR, .inl (cI, 7, .inl moR_r))] sz) (ho : wp_X8_sort post mo_f mo_codes mo_most mo_minus mo_low mo_function mo_atX mo_atM moR_r p1 p2) : Met l yX8_sort w_X8_sort ({ frames := 5, cells := 0, slots := 0, locals := 124 } : Room) (rw_P D [(cI, .int), (cJ, .long), (cZ, .boolean)] [.ref a_mo, .int p1, .int p2] sz [(a_mo, oX8 a_moR mo_e mo_f mo_codes mo_most mo_minus mo_low mo_function mo_atX mo_atM a_moK a_moH a_moS mo_spanFunction mo_spanRounding mo_spanMany a_moF a_moT mo_parts mo_shift a_moP a_moQ a_moA a_moB a_moD), (a_moR, .inl (cI, 7, .inl moR_r))]) (va_Qi (fun (r : Int32) (u : (Int32) × (Int32) × (Int64) × (Nat → Int32)) => post r u.1 u.2.1 u.2.2.1 u.2.2.2) (rw_B D A (fun (u : (Int32) × (Int32) × (Int64) × (Nat → Int32)) => [(a_mo, oX8 a_moR mo_e mo_f mo_codes mo_most mo_minus mo_low u.1 u.2.1 u.2.2.1 a_moK a_moH a_moS mo_spanFunction mo_spanRounding mo_spanMany a_moF a_moT mo_parts mo_shift a_moP a_moQ a_moA a_moB a_moD), (a_moR, .inl (cI, 7, .inl u.2.2.2))])) A) 0 0 A := by
  refine Met.ofW (cc := cX8_sort) (maxL := 3) (ret := (some .int)) (by decide) rfl ?_
  intro p e s m args below meth c s₁ B hml hv
  obtain ⟨hargs, hsz, hP, hK, hN, hD0⟩ := hv
  have hx := B.exec
  have hb := B.bytes
  have hr := B.returns
  have hts : ∀ w ∈ wsL_law, w.before args s = true := fun w h => atoms_spec (ws := w_X8_sort) B.pre w (List.mem_cons_of_mem _ h)
  have hown : s.vm.findClass RX8 = some m.cls := findClass_of_methodNamed B.named
  have hlocks := B.notSynchronized
  subst hsz
  have hD : va_D A [(a_mo, oX8 a_moR mo_e mo_f mo_codes mo_most mo_minus mo_low mo_function mo_atX mo_atM a_moK a_moH a_moS mo_spanFunction mo_spanRounding mo_spanMany a_moF a_moT mo_parts mo_shift a_moP a_moQ a_moA a_moB a_moD), (a_moR, .inl (cI, 7, .inl moR_r))] := by rw [hAe]; exact hD0.self
  have hA : ∀ q : Nat, s.heap.size ≤ q → A q := fun q h => by rw [hAe]; exact Or.inr h
  have hS : va_S A s.heap s.heap [] := va_S.rf
  have hl := lv_entry ([.ref a_mo, .int p1, .int p2]) (n := 3) (Nat.le_of_ble_eq_true rfl)
  rw [hargs, lg_entry_eq, ← hargs]
  generalize (lg_sl ([.ref a_mo, .int p1, .int p2]) ++ List.replicate (3 - (lg_sl ([.ref a_mo, .int p1, .int p2])).length) Slot.unset).toArray = ls at hl ⊢
  replace hl : lv_has ls 3 [(0, .ref a_mo), (1, .int p1), (2, .int p2)] := hl
  have hRf : ∀ n, n ≤ 5 → n ≤ (headSpec w_X8_sort ({ frames := 5, cells := 0, slots := 0, locals := 124 } : Room)).room.frames := fun n h => h
  have hRl : ∀ n, n ≤ 124 → n ≤ (headSpec w_X8_sort ({ frames := 5, cells := 0, slots := 0, locals := 124 } : Room)).room.locals := fun n h => h
  generalize (headSpec w_X8_sort ({ frames := 5, cells := 0, slots := 0, locals := 124 } : Room)).room = R at hRf hRl ⊢
  generalize hQ : MQ below _ args s 0 0 _ = Q
  have C_24 : ∀ (mo_function : Int32) (mo_atX : Int32) (mo_atM : Int64) (moR_r : Nat → Int32) (H : Heap) (locs : List Loc) (ls : Array Slot), wp_X8_sort_24 post  mo_function mo_atX mo_atM moR_r → va_P D vwCl [(a_mo, oX8 a_moR mo_e mo_f mo_codes mo_most mo_minus mo_low mo_function mo_atX mo_atM a_moK a_moH a_moS mo_spanFunction mo_spanRounding mo_spanMany a_moF a_moT mo_parts mo_shift a_moP a_moQ a_moA a_moB a_moD), (a_moR, .inl (cI, 7, .inl moR_r))] H → va_D A [(a_mo, oX8 a_moR mo_e mo_f mo_codes mo_most mo_minus mo_low mo_function mo_atX mo_atM a_moK a_moH a_moS mo_spanFunction mo_spanRounding mo_spanMany a_moF a_moT mo_parts mo_shift a_moP a_moQ a_moA a_moB a_moD), (a_moR, .inl (cI, 7, .inl moR_r))] → va_S A s.heap H locs → lv_has ls 3 [(0, .ref a_mo)] → W p l e R s m args below meth c H locs 0 0 Q (F0 m 24 ls []) := by
    intro mo_function mo_atX mo_atM moR_r H locs ls ho hP hD hS hl
    unfold wp_X8_sort_24 at ho
    refine lv_aload_n hx hb dX8_sort_24 rfl (lv_at hl 0 rfl) ?_
    refine lv_iconst (v := (-1)) hx hb dX8_sort_25 (by decide) ?_
    refine ca_Wi (b := a_mo) (As := [.int (-1 : Int32)]) (rest := []) (wr := []) (wo := fun (u : (Nat → Int32)) => [(a_mo, oX8 a_moR mo_e mo_f mo_codes mo_most mo_minus mo_low mo_function mo_atX mo_atM a_moK a_moH a_moS mo_spanFunction mo_spanRounding mo_spanMany a_moF a_moT mo_parts mo_shift a_moP a_moQ a_moA a_moB a_moD), (a_moR, .inl (cI, 7, .inl u))]) (wn := fun (u : (Nat → Int32)) => [(a_mo, oX8 a_moR mo_e mo_f mo_codes mo_most mo_minus mo_low mo_function mo_atX mo_atM a_moK a_moH a_moS mo_spanFunction mo_spanRounding mo_spanMany a_moF a_moT mo_parts mo_shift a_moP a_moQ a_moA a_moB a_moD), (a_moR, .inl (cI, 7, .inl u))]) ⟨hx, hb, hml, hown, hts⟩ (c_X8_refuse l D cI cJ cZ a_mo a_moR a_moK a_moH a_moS a_moF a_moT a_moP a_moQ a_moA a_moB a_moD H.size mo_e mo_f mo_codes mo_most mo_minus mo_low mo_function mo_atX mo_atM mo_spanFunction mo_spanRounding mo_spanMany mo_parts mo_shift moR_r (-1 : Int32) _ _ rfl ho) (cwV 1 hts (gdV wl_165 wl_166 wl_167 wl_5 wl_168) rfl rfl rfl (by decide +kernel) ⟨hRf _ (Nat.le_of_ble_eq_true rfl), hRl _ (Nat.le_of_ble_eq_true rfl)⟩) hK hN hP hD hS hA [0, 1] [] [0, 1] rfl rfl (by decide) (by decide) (by decide) (by decide) (fun _ => rfl) 0 7 rfl rfl rfl rfl hl.1 rfl (Nat.le_of_ble_eq_true rfl) dX8_sort_26 ⟨Nat.zero_le _, Nat.zero_le _⟩ (fun r26 u26 H locs ho hP hD hS => ?_)
    try dsimp only at ho
    replace hP : va_P D vwCl [(a_mo, oX8 a_moR mo_e mo_f mo_codes mo_most mo_minus mo_low mo_function mo_atX mo_atM a_moK a_moH a_moS mo_spanFunction mo_spanRounding mo_spanMany a_moF a_moT mo_parts mo_shift a_moP a_moQ a_moA a_moB a_moD), (a_moR, .inl (cI, 7, .inl u26))] H := hP
    replace hD : va_D A [(a_mo, oX8 a_moR mo_e mo_f mo_codes mo_most mo_minus mo_low mo_function mo_atX mo_atM a_moK a_moH a_moS mo_spanFunction mo_spanRounding mo_spanMany a_moF a_moT mo_parts mo_shift a_moP a_moQ a_moA a_moB a_moD), (a_moR, .inl (cI, 7, .inl u26))] := hD
    subst hQ; exact W.iret (v := r26) hx hb hr (fun t ht hW => ⟨⟨r26, (mo_function, mo_atX, mo_atM, u26), rfl, ho, by rw [ht]; exact hP, hD⟩, hS.F ht⟩) (fun q hq => hS.2.2 q hq) dX8_sort_29
  suffices main : ∀ (H : Heap) (locs : List Loc), va_P D vwCl [(a_mo, oX8 a_moR mo_e mo_f mo_codes mo_most mo_minus mo_low mo_function mo_atX mo_atM a_moK a_moH a_moS mo_spanFunction mo_spanRounding mo_spanMany a_moF a_moT mo_parts mo_shift a_moP a_moQ a_moA a_moB a_moD), (a_moR, .inl (cI, 7, .inl moR_r))] H → va_S A s.heap H locs → W p l e R s m args below meth c H locs 0 0 Q (F0 m 0 ls []) from main _ _ hP hS
  intro H locs hP hS
  unfold wp_X8_sort at ho
  refine lv_iload_n hx hb dX8_sort_0 rfl (lv_at hl 1 rfl) ?_
  refine ca_Si (As := [.int p1]) (rest := []) ⟨hx, hb, hml, hown, hts⟩ (c_X8_isFunction l D cI cJ cZ   p1 _ ho) (va_cwS 1 hts (gdS wl_469 wl_470 wl_5 wl_471) rfl rfl rfl (by decide +kernel) ⟨hRf _ (Nat.le_of_ble_eq_true rfl), hRl _ (Nat.le_of_ble_eq_true rfl)⟩) hK hN hP [] rfl rfl hl.1 rfl (Nat.le_of_ble_eq_true rfl) dX8_sort_1 ⟨Nat.zero_le _, Nat.zero_le _⟩ (fun r1 ho => ?_)
  refine lv_if_eq (tgt := 24) hx hb dX8_sort_4 (by decide) (fun c_4 => ?_) (fun c_4 => ?_)
  · replace ho := ho.1 c_4
    exact C_24 mo_function mo_atX mo_atM moR_r H locs ls ho hP hD hS (lv_sub hl [0] rfl)
  · replace ho := ho.2 c_4
    refine lv_aload_n hx hb dX8_sort_7 rfl (lv_at hl 0 rfl) ?_
    refine lv_iload_n hx hb dX8_sort_8 rfl (lv_at hl 2 rfl) ?_
    refine ca_Vi (b := a_mo) (As := [.int p2]) (rest := []) ⟨hx, hb, hml, hown, hts⟩ (c_X8_isCode l D cI cJ cZ a_mo a_moR a_moK a_moH a_moS a_moF a_moT a_moP a_moQ a_moA a_moB a_moD mo_e mo_f mo_codes mo_most mo_minus mo_low mo_function mo_atX mo_atM mo_spanFunction mo_spanRounding mo_spanMany mo_parts mo_shift p2 _ ho) (cwV 1 hts (gdV wl_250 wl_251 wl_252 wl_5 wl_253) rfl rfl rfl (by decide +kernel) ⟨hRf _ (Nat.le_of_ble_eq_true rfl), hRl _ (Nat.le_of_ble_eq_true rfl)⟩) hK hN hP [0] rfl 0 7 rfl rfl rfl rfl hl.1 rfl (Nat.le_of_ble_eq_true rfl) dX8_sort_9 ⟨Nat.zero_le _, Nat.zero_le _⟩ (fun r9 ho => ?_)
    refine lv_if_eq (tgt := 24) hx hb dX8_sort_12 (by decide) (fun c_12 => ?_) (fun c_12 => ?_)
    · replace ho := ho.1 c_12
      exact C_24 mo_function mo_atX mo_atM moR_r H locs ls ho hP hD hS (lv_sub hl [0] rfl)
    · replace ho := ho.2 c_12
      refine lv_aload_n hx hb dX8_sort_15 rfl (lv_at hl 0 rfl) ?_
      refine lv_iload_n hx hb dX8_sort_16 rfl (lv_at hl 1 rfl) ?_
      refine lv_iload_n hx hb dX8_sort_17 rfl (lv_at hl 2 rfl) ?_
      refine ca_Wi (b := a_mo) (As := [.int p1, .int p2]) (rest := []) (wr := [(a_moR, .inl (cI, 7, .inl moR_r))]) (wo := fun (u : (Int32) × (Int32) × (Int64)) => [(a_mo, oX8 a_moR mo_e mo_f mo_codes mo_most mo_minus mo_low u.1 u.2.1 u.2.2 a_moK a_moH a_moS mo_spanFunction mo_spanRounding mo_spanMany a_moF a_moT mo_parts mo_shift a_moP a_moQ a_moA a_moB a_moD)]) (wn := fun (u : (Int32) × (Int32) × (Int64)) => [(a_mo, oX8 a_moR mo_e mo_f mo_codes mo_most mo_minus mo_low u.1 u.2.1 u.2.2 a_moK a_moH a_moS mo_spanFunction mo_spanRounding mo_spanMany a_moF a_moT mo_parts mo_shift a_moP a_moQ a_moA a_moB a_moD), (a_moR, .inl (cI, 7, .inl moR_r))]) ⟨hx, hb, hml, hown, hts⟩ (c_X8_sortOf l D cI cJ cZ a_mo a_moR a_moK a_moH a_moS a_moF a_moT a_moP a_moQ a_moA a_moB a_moD H.size mo_e mo_f mo_codes mo_most mo_minus mo_low mo_function mo_atX mo_atM mo_spanFunction mo_spanRounding mo_spanMany mo_parts mo_shift p1 p2 _ _ rfl ho) (cwV 2 hts (gdV wl_497 wl_498 wl_499 wl_5 wl_500) rfl rfl rfl (by decide +kernel) ⟨hRf _ (Nat.le_of_ble_eq_true rfl), hRl _ (Nat.le_of_ble_eq_true rfl)⟩) hK hN hP hD hS hA [0] [1] [1, 0] rfl rfl (by decide) (by decide) (by decide) (by decide) (fun _ => rfl) 0 7 rfl rfl rfl rfl hl.1 rfl (Nat.le_of_ble_eq_true rfl) dX8_sort_18 ⟨Nat.zero_le _, Nat.zero_le _⟩ (fun r18 u18 H locs ho hP hD hS => ?_)
      obtain ⟨u18_1, u18_2, u18_3⟩ := u18
      try dsimp only at ho
      replace hP : va_P D vwCl [(a_mo, oX8 a_moR mo_e mo_f mo_codes mo_most mo_minus mo_low u18_1 u18_2 u18_3 a_moK a_moH a_moS mo_spanFunction mo_spanRounding mo_spanMany a_moF a_moT mo_parts mo_shift a_moP a_moQ a_moA a_moB a_moD), (a_moR, .inl (cI, 7, .inl moR_r))] H := hP
      replace hD : va_D A [(a_mo, oX8 a_moR mo_e mo_f mo_codes mo_most mo_minus mo_low u18_1 u18_2 u18_3 a_moK a_moH a_moS mo_spanFunction mo_spanRounding mo_spanMany a_moF a_moT mo_parts mo_shift a_moP a_moQ a_moA a_moB a_moD), (a_moR, .inl (cI, 7, .inl moR_r))] := hD
      refine lv_goto (tgt := 29) hx hb dX8_sort_21 (by decide) ?_
      subst hQ; exact W.iret (v := r18) hx hb hr (fun t ht hW => ⟨⟨r18, (u18_1, u18_2, u18_3, moR_r), rfl, ho, by rw [ht]; exact hP, hD⟩, hS.F ht⟩) (fun q hq => hS.2.2 q hq) dX8_sort_29

def w_X8_figuresOf : List Cond := .code yX8_figuresOf cX8_figuresOf 9 (some .int) :: wsL_law
set_option maxHeartbeats 4000000 in
set_option maxRecDepth 100000 in
theorem c_X8_figuresOf (l : Launch) (D : va_G) (cI cJ cZ : ClassId) (a_mo : Nat) (a_moR : Nat) (a_moK : Nat) (a_moH : Nat) (a_moS : Nat) (a_moF : Nat) (a_moT : Nat) (a_moP : Nat) (a_moQ : Nat) (a_moA : Nat) (a_moB : Nat) (a_moD : Nat) (sz : Nat) (mo_e : Int32) (mo_f : Int32) (mo_codes : Int32) (mo_most : Int32) (mo_minus : Int32) (mo_low : Int32) (mo_function : Int32) (mo_atX : Int32) (mo_atM : Int64) (mo_spanFunction : Int32) (mo_spanRounding : Int32) (mo_spanMany : Int32) (mo_parts : Int32) (mo_shift : Int32) (p1 : Int32) (p2 : Int32) (post : Int32 → Int32 → Int32 → Int64 → Prop) (A : Nat → Prop) (hAe : A = va_A [(a_mo, oX8 a_moR mo_e mo_f mo_codes mo_most mo_minus mo_low mo_function mo_atX mo_atM a_moK a_moH a_moS mo_spanFunction mo_spanRounding mo_spanMany a_moF a_moT mo_parts mo_shift a_moP a_moQ a_moA a_moB a_moD)] sz) (ho : wp_X8_figuresOf post mo_f mo_most mo_minus mo_low mo_function mo_atX mo_atM p1 p2) : Met l yX8_figuresOf w_X8_figuresOf ({ frames := 4, cells := 0, slots := 0, locals := 101 } : Room) (rw_P D [(cI, .int), (cJ, .long), (cZ, .boolean)] [.ref a_mo, .int p1, .int p2] sz [(a_mo, oX8 a_moR mo_e mo_f mo_codes mo_most mo_minus mo_low mo_function mo_atX mo_atM a_moK a_moH a_moS mo_spanFunction mo_spanRounding mo_spanMany a_moF a_moT mo_parts mo_shift a_moP a_moQ a_moA a_moB a_moD)]) (va_Qi (fun (r : Int32) (u : (Int32) × (Int32) × (Int64)) => post r u.1 u.2.1 u.2.2) (rw_B D A (fun (u : (Int32) × (Int32) × (Int64)) => [(a_mo, oX8 a_moR mo_e mo_f mo_codes mo_most mo_minus mo_low u.1 u.2.1 u.2.2 a_moK a_moH a_moS mo_spanFunction mo_spanRounding mo_spanMany a_moF a_moT mo_parts mo_shift a_moP a_moQ a_moA a_moB a_moD)])) A) 0 0 A := by
  refine Met.ofW (cc := cX8_figuresOf) (maxL := 9) (ret := (some .int)) (by decide) rfl ?_
  intro p e s m args below meth c s₁ B hml hv
  obtain ⟨hargs, hsz, hP, hK, hN, hD0⟩ := hv
  have hx := B.exec
  have hb := B.bytes
  have hr := B.returns
  have hts : ∀ w ∈ wsL_law, w.before args s = true := fun w h => atoms_spec (ws := w_X8_figuresOf) B.pre w (List.mem_cons_of_mem _ h)
  have hown : s.vm.findClass RX8 = some m.cls := findClass_of_methodNamed B.named
  have hlocks := B.notSynchronized
  subst hsz
  have hD : va_D A [(a_mo, oX8 a_moR mo_e mo_f mo_codes mo_most mo_minus mo_low mo_function mo_atX mo_atM a_moK a_moH a_moS mo_spanFunction mo_spanRounding mo_spanMany a_moF a_moT mo_parts mo_shift a_moP a_moQ a_moA a_moB a_moD)] := by rw [hAe]; exact hD0.self
  have hA : ∀ q : Nat, s.heap.size ≤ q → A q := fun q h => by rw [hAe]; exact Or.inr h
  have hS : va_S A s.heap s.heap [] := va_S.rf
  have hl := lv_entry ([.ref a_mo, .int p1, .int p2]) (n := 9) (Nat.le_of_ble_eq_true rfl)
  rw [hargs, lg_entry_eq, ← hargs]
  generalize (lg_sl ([.ref a_mo, .int p1, .int p2]) ++ List.replicate (9 - (lg_sl ([.ref a_mo, .int p1, .int p2])).length) Slot.unset).toArray = ls at hl ⊢
  replace hl : lv_has ls 9 [(0, .ref a_mo), (1, .int p1), (2, .int p2)] := hl
  have hRf : ∀ n, n ≤ 4 → n ≤ (headSpec w_X8_figuresOf ({ frames := 4, cells := 0, slots := 0, locals := 101 } : Room)).room.frames := fun n h => h
  have hRl : ∀ n, n ≤ 101 → n ≤ (headSpec w_X8_figuresOf ({ frames := 4, cells := 0, slots := 0, locals := 101 } : Room)).room.locals := fun n h => h
  generalize (headSpec w_X8_figuresOf ({ frames := 4, cells := 0, slots := 0, locals := 101 } : Room)).room = R at hRf hRl ⊢
  generalize hQ : MQ below _ args s 0 0 _ = Q
  have C_56 : ∀ n : Nat, ∀ (mo_function : Int32) (mo_atX : Int32) (mo_atM : Int64) (x3 : Int32) (x4 : Int64) (x6 : Int32) (x7 : Int32) (H : Heap) (locs : List Loc) (ls : Array Slot), wp_X8_figuresOf_56 post  mo_f mo_low n mo_function mo_atX mo_atM x3 x4 x6 x7 → va_P D vwCl [(a_mo, oX8 a_moR mo_e mo_f mo_codes mo_most mo_minus mo_low mo_function mo_atX mo_atM a_moK a_moH a_moS mo_spanFunction mo_spanRounding mo_spanMany a_moF a_moT mo_parts mo_shift a_moP a_moQ a_moA a_moB a_moD)] H → va_D A [(a_mo, oX8 a_moR mo_e mo_f mo_codes mo_most mo_minus mo_low mo_function mo_atX mo_atM a_moK a_moH a_moS mo_spanFunction mo_spanRounding mo_spanMany a_moF a_moT mo_parts mo_shift a_moP a_moQ a_moA a_moB a_moD)] → va_S A s.heap H locs → lv_has ls 9 [(0, .ref a_mo), (3, .int x3), (4, .long x4), (6, .int x6), (7, .int x7)] → W p l e R s m args below meth c H locs 0 0 Q (F0 m 56 ls []) := by
    intro n
    induction n with
    | zero => intro mo_function mo_atX mo_atM x3 x4 x6 x7 H locs ls ho hP hD hS hl; exact ho.elim
    | succ n_56 ih_56 =>
      have C_126 : ∀ (mo_function : Int32) (mo_atX : Int32) (mo_atM : Int64) (x3 : Int32) (x4 : Int64) (x7 : Int32) (y0 : Int32) (y1 : Int32) (H : Heap) (locs : List Loc) (ls : Array Slot), wp_X8_figuresOf_126 post (wp_X8_figuresOf_56 post mo_f mo_low n_56) mo_function mo_atX mo_atM x3 x4 x7 y0 y1 → va_P D vwCl [(a_mo, oX8 a_moR mo_e mo_f mo_codes mo_most mo_minus mo_low mo_function mo_atX mo_atM a_moK a_moH a_moS mo_spanFunction mo_spanRounding mo_spanMany a_moF a_moT mo_parts mo_shift a_moP a_moQ a_moA a_moB a_moD)] H → va_D A [(a_mo, oX8 a_moR mo_e mo_f mo_codes mo_most mo_minus mo_low mo_function mo_atX mo_atM a_moK a_moH a_moS mo_spanFunction mo_spanRounding mo_spanMany a_moF a_moT mo_parts mo_shift a_moP a_moQ a_moA a_moB a_moD)] → va_S A s.heap H locs → lv_has ls 9 [(0, .ref a_mo), (3, .int x3), (4, .long x4), (7, .int x7)] → W p l e R s m args below meth c H locs 0 0 Q (F0 m 126 ls [.int y0, .int y1]) := by
        intro mo_function mo_atX mo_atM x3 x4 x7 y0 y1 H locs ls ho hP hD hS hl
        unfold wp_X8_figuresOf_126 at ho
        refine lv_iadd hx hb dX8_figuresOf_126 ?_
        refine lv_istore (lv' := [(6, .int (y1 + y0)), (0, .ref a_mo), (3, .int x3), (4, .long x4), (7, .int x7)]) hx hb dX8_figuresOf_127 hl (by decide) rfl (fun ls hl => ?_)
        refine lv_iinc (v := (x7 + (1 : Int32))) (lv' := [(7, .int (x7 + (1 : Int32))), (6, .int (y1 + y0)), (0, .ref a_mo), (3, .int x3), (4, .long x4)]) hx hb dX8_figuresOf_129 hl (k := 4) rfl rfl (by decide) rfl (fun ls hl => ?_)
        refine lv_goto (tgt := 56) hx hb dX8_figuresOf_132 (by decide) ?_
        exact ih_56 mo_function mo_atX mo_atM x3 x4 (y1 + y0) (x7 + (1 : Int32)) H locs ls ho hP hD hS (lv_sub hl [2, 3, 4, 1, 0] rfl)
      have C_109 : ∀ (mo_function : Int32) (mo_atX : Int32) (mo_atM : Int64) (x3 : Int32) (x6 : Int32) (x7 : Int32) (x8 : Int32) (y0 : Int64) (y1 : Int64) (H : Heap) (locs : List Loc) (ls : Array Slot), wp_X8_figuresOf_109 post (wp_X8_figuresOf_56 post mo_f mo_low n_56) mo_function mo_atX mo_atM x3 x6 x7 x8 y0 y1 → va_P D vwCl [(a_mo, oX8 a_moR mo_e mo_f mo_codes mo_most mo_minus mo_low mo_function mo_atX mo_atM a_moK a_moH a_moS mo_spanFunction mo_spanRounding mo_spanMany a_moF a_moT mo_parts mo_shift a_moP a_moQ a_moA a_moB a_moD)] H → va_D A [(a_mo, oX8 a_moR mo_e mo_f mo_codes mo_most mo_minus mo_low mo_function mo_atX mo_atM a_moK a_moH a_moS mo_spanFunction mo_spanRounding mo_spanMany a_moF a_moT mo_parts mo_shift a_moP a_moQ a_moA a_moB a_moD)] → va_S A s.heap H locs → lv_has ls 9 [(0, .ref a_mo), (3, .int x3), (6, .int x6), (7, .int x7), (8, .int x8)] → W p l e R s m args below meth c H locs 0 0 Q (F0 m 109 ls [.long y0, .long y1]) := by
        intro mo_function mo_atX mo_atM x3 x6 x7 x8 y0 y1 H locs ls ho hP hD hS hl
        unfold wp_X8_figuresOf_109 at ho
        refine lv_lsub hx hb dX8_figuresOf_109 ?_
        refine lv_lstore (lv' := [(4, .long (y1 - y0)), (0, .ref a_mo), (3, .int x3), (6, .int x6), (7, .int x7), (8, .int x8)]) hx hb dX8_figuresOf_110 hl (by decide) rfl (fun ls hl => ?_)
        refine lv_iconst (v := 2) hx hb dX8_figuresOf_112 (by decide) ?_
        refine lv_iload hx hb dX8_figuresOf_113 (lv_at hl 3 rfl) ?_
        refine lv_imul hx hb dX8_figuresOf_115 ?_
        refine lv_iload hx hb dX8_figuresOf_116 (lv_at hl 5 rfl) ?_
        refine lv_if_eq (tgt := 125) hx hb dX8_figuresOf_118 (by decide) (fun c_118 => ?_) (fun c_118 => ?_)
        · replace ho := ho.1 c_118
          refine lv_iconst (v := 0) hx hb dX8_figuresOf_125 (by decide) ?_
          exact C_126 mo_function mo_atX mo_atM x3 (y1 - y0) x7 (0 : Int32) ((2 : Int32) * x6) H locs ls ho hP hD hS (lv_sub hl [1, 2, 0, 4] rfl)
        · replace ho := ho.2 c_118
          refine lv_iconst (v := 1) hx hb dX8_figuresOf_121 (by decide) ?_
          refine lv_goto (tgt := 126) hx hb dX8_figuresOf_122 (by decide) ?_
          exact C_126 mo_function mo_atX mo_atM x3 (y1 - y0) x7 (1 : Int32) ((2 : Int32) * x6) H locs ls ho hP hD hS (lv_sub hl [1, 2, 0, 4] rfl)
      have C_95 : ∀ (mo_function : Int32) (mo_atX : Int32) (mo_atM : Int64) (x3 : Int32) (x4 : Int64) (x6 : Int32) (x7 : Int32) (y0 : Int32) (H : Heap) (locs : List Loc) (ls : Array Slot), wp_X8_figuresOf_95 post (wp_X8_figuresOf_56 post mo_f mo_low n_56) mo_function mo_atX mo_atM x3 x4 x6 x7 y0 → va_P D vwCl [(a_mo, oX8 a_moR mo_e mo_f mo_codes mo_most mo_minus mo_low mo_function mo_atX mo_atM a_moK a_moH a_moS mo_spanFunction mo_spanRounding mo_spanMany a_moF a_moT mo_parts mo_shift a_moP a_moQ a_moA a_moB a_moD)] H → va_D A [(a_mo, oX8 a_moR mo_e mo_f mo_codes mo_most mo_minus mo_low mo_function mo_atX mo_atM a_moK a_moH a_moS mo_spanFunction mo_spanRounding mo_spanMany a_moF a_moT mo_parts mo_shift a_moP a_moQ a_moA a_moB a_moD)] → va_S A s.heap H locs → lv_has ls 9 [(0, .ref a_mo), (3, .int x3), (4, .long x4), (6, .int x6), (7, .int x7)] → W p l e R s m args below meth c H locs 0 0 Q (F0 m 95 ls [.int y0]) := by
        intro mo_function mo_atX mo_atM x3 x4 x6 x7 y0 H locs ls ho hP hD hS hl
        unfold wp_X8_figuresOf_95 at ho
        refine lv_istore (lv' := [(8, .int y0), (0, .ref a_mo), (3, .int x3), (4, .long x4), (6, .int x6), (7, .int x7)]) hx hb dX8_figuresOf_95 hl (by decide) rfl (fun ls hl => ?_)
        refine lv_lload hx hb dX8_figuresOf_97 (lv_at hl 3 rfl) ?_
        refine lv_iload hx hb dX8_figuresOf_99 (lv_at hl 0 rfl) ?_
        refine lv_if_eq (tgt := 108) hx hb dX8_figuresOf_101 (by decide) (fun c_101 => ?_) (fun c_101 => ?_)
        · replace ho := ho.1 c_101
          refine lv_lconst (v := 1) hx hb dX8_figuresOf_108 (by decide) ?_
          exact C_109 mo_function mo_atX mo_atM x3 x6 x7 y0 (1 : Int64) x4 H locs ls ho hP hD hS (lv_sub hl [1, 2, 4, 5, 0] rfl)
        · replace ho := ho.2 c_101
          refine lv_lconst (v := 0) hx hb dX8_figuresOf_104 (by decide) ?_
          refine lv_goto (tgt := 109) hx hb dX8_figuresOf_105 (by decide) ?_
          exact C_109 mo_function mo_atX mo_atM x3 x6 x7 y0 (0 : Int64) x4 H locs ls ho hP hD hS (lv_sub hl [1, 2, 4, 5, 0] rfl)
      intro mo_function mo_atX mo_atM x3 x4 x6 x7 H locs ls ho hP hD hS hl
      replace ho : wp_X8_figuresOf_56_b post mo_f mo_low (wp_X8_figuresOf_56 post mo_f mo_low n_56) mo_function mo_atX mo_atM x3 x4 x6 x7 := ho
      unfold wp_X8_figuresOf_56_b at ho
      refine lv_iload hx hb dX8_figuresOf_56 (lv_at hl 4 rfl) ?_
      refine lv_bipush (v := 10) hx hb dX8_figuresOf_58 (by decide) ?_
      refine lv_icmp_gt (tgt := 135) hx hb dX8_figuresOf_60 (by decide) (fun c_60 => ?_) (fun c_60 => ?_)
      · replace ho := ho.1 c_60
        refine lv_iload hx hb dX8_figuresOf_135 (lv_at hl 3 rfl) ?_
        subst hQ; exact W.iret (v := x6) hx hb hr (fun t ht hW => ⟨⟨x6, (mo_function, mo_atX, mo_atM), rfl, ho, by rw [ht]; exact hP, hD⟩, hS.F ht⟩) (fun q hq => hS.2.2 q hq) dX8_figuresOf_137
      · replace ho := ho.2 c_60
        refine lv_ldc2 hx hb hown (hts _ wl_396) dX8_figuresOf_63 ?_
        refine lv_lload hx hb dX8_figuresOf_66 (lv_at hl 2 rfl) ?_
        refine lv_lmul hx hb dX8_figuresOf_68 ?_
        refine lv_lconst (v := 1) hx hb dX8_figuresOf_69 (by decide) ?_
        refine lv_ladd hx hb dX8_figuresOf_70 ?_
        refine lv_lstore (lv' := [(4, .long (((2 : Int64) * x4) + (1 : Int64))), (0, .ref a_mo), (3, .int x3), (6, .int x6), (7, .int x7)]) hx hb dX8_figuresOf_71 hl (by decide) rfl (fun ls hl => ?_)
        refine lv_aload_n hx hb dX8_figuresOf_73 rfl (lv_at hl 1 rfl) ?_
        refine lv_lload hx hb dX8_figuresOf_74 (lv_at hl 0 rfl) ?_
        refine lv_aload_n hx hb dX8_figuresOf_76 rfl (lv_at hl 1 rfl) ?_
        refine lv_iload_n hx hb dX8_figuresOf_77 rfl (lv_at hl 2 rfl) ?_
        refine ca_Vi (b := a_mo) (As := [.int x3]) (rest := [.long (((2 : Int64) * x4) + (1 : Int64)), .ref a_mo]) ⟨hx, hb, hml, hown, hts⟩ (c_X8_power l D cI cJ cZ a_mo a_moR a_moK a_moH a_moS a_moF a_moT a_moP a_moQ a_moA a_moB a_moD mo_e mo_f mo_codes mo_most mo_minus mo_low mo_function mo_atX mo_atM mo_spanFunction mo_spanRounding mo_spanMany mo_parts mo_shift x3 _ ho) (cwV 1 hts (gdV wl_278 wl_279 wl_280 wl_5 wl_281) rfl rfl rfl (by decide +kernel) ⟨hRf _ (Nat.le_of_ble_eq_true rfl), hRl _ (Nat.le_of_ble_eq_true rfl)⟩) hK hN hP [0] rfl 0 7 rfl rfl rfl rfl hl.1 rfl (Nat.le_of_ble_eq_true rfl) dX8_figuresOf_78 ⟨Nat.zero_le _, Nat.zero_le _⟩ (fun r78 ho => ?_)
        refine lv_iload hx hb dX8_figuresOf_81 (lv_at hl 4 rfl) ?_
        refine lv_isub hx hb dX8_figuresOf_83 ?_
        refine ca_Vi (b := a_mo) (As := [.long (((2 : Int64) * x4) + (1 : Int64)), .int (r78 - x7)]) (rest := []) ⟨hx, hb, hml, hown, hts⟩ (c_X8_stands l D cI cJ cZ a_mo a_moR a_moK a_moH a_moS a_moF a_moT a_moP a_moQ a_moA a_moB a_moD mo_e mo_f mo_codes mo_most mo_minus mo_low mo_function mo_atX mo_atM mo_spanFunction mo_spanRounding mo_spanMany mo_parts mo_shift (((2 : Int64) * x4) + (1 : Int64)) (r78 - x7) _ ho) (cwV 2 hts (gdV wl_378 wl_379 wl_380 wl_5 wl_381) rfl rfl rfl (by decide +kernel) ⟨hRf _ (Nat.le_of_ble_eq_true rfl), hRl _ (Nat.le_of_ble_eq_true rfl)⟩) hK hN hP [0] rfl 0 7 rfl rfl rfl rfl hl.1 rfl (Nat.le_of_ble_eq_true rfl) dX8_figuresOf_84 ⟨Nat.zero_le _, Nat.zero_le _⟩ (fun r84 ho => ?_)
        refine lv_if_lt (tgt := 94) hx hb dX8_figuresOf_87 (by decide) (fun c_87 => ?_) (fun c_87 => ?_)
        · replace ho := ho.1 c_87
          refine lv_iconst (v := 0) hx hb dX8_figuresOf_94 (by decide) ?_
          exact C_95 mo_function mo_atX mo_atM x3 (((2 : Int64) * x4) + (1 : Int64)) x6 x7 (0 : Int32) H locs ls ho hP hD hS (lv_sub hl [1, 2, 0, 3, 4] rfl)
        · replace ho := ho.2 c_87
          refine lv_iconst (v := 1) hx hb dX8_figuresOf_90 (by decide) ?_
          refine lv_goto (tgt := 95) hx hb dX8_figuresOf_91 (by decide) ?_
          exact C_95 mo_function mo_atX mo_atM x3 (((2 : Int64) * x4) + (1 : Int64)) x6 x7 (1 : Int32) H locs ls ho hP hD hS (lv_sub hl [1, 2, 0, 3, 4] rfl)
  suffices main : ∀ (H : Heap) (locs : List Loc), va_P D vwCl [(a_mo, oX8 a_moR mo_e mo_f mo_codes mo_most mo_minus mo_low mo_function mo_atX mo_atM a_moK a_moH a_moS mo_spanFunction mo_spanRounding mo_spanMany a_moF a_moT mo_parts mo_shift a_moP a_moQ a_moA a_moB a_moD)] H → va_S A s.heap H locs → W p l e R s m args below meth c H locs 0 0 Q (F0 m 0 ls []) from main _ _ hP hS
  intro H locs hP hS
  unfold wp_X8_figuresOf at ho
  refine lv_aload_n hx hb dX8_figuresOf_0 rfl (lv_at hl 0 rfl) ?_
  refine lv_iload_n hx hb dX8_figuresOf_1 rfl (lv_at hl 1 rfl) ?_
  refine lv_iload_n hx hb dX8_figuresOf_2 rfl (lv_at hl 2 rfl) ?_
  refine ca_Vi (b := a_mo) (As := [.int p1, .int p2]) (rest := []) ⟨hx, hb, hml, hown, hts⟩ (c_X8_plainly l D cI cJ cZ a_mo a_moR a_moK a_moH a_moS a_moF a_moT a_moP a_moQ a_moA a_moB a_moD mo_e mo_f mo_codes mo_most mo_minus mo_low mo_function mo_atX mo_atM mo_spanFunction mo_spanRounding mo_spanMany mo_parts mo_shift p1 p2 _ ho) (cwV 2 hts (gdV wl_476 wl_477 wl_478 wl_5 wl_479) rfl rfl rfl (by decide +kernel) ⟨hRf _ (Nat.le_of_ble_eq_true rfl), hRl _ (Nat.le_of_ble_eq_true rfl)⟩) hK hN hP [0] rfl 0 7 rfl rfl rfl rfl hl.1 rfl (Nat.le_of_ble_eq_true rfl) dX8_figuresOf_3 ⟨Nat.zero_le _, Nat.zero_le _⟩ (fun r3 ho => ?_)
  refine lv_if_lt (tgt := 12) hx hb dX8_figuresOf_6 (by decide) (fun c_6 => ?_) (fun c_6 => ?_)
  · replace ho := ho.1 c_6
    refine lv_aload_n hx hb dX8_figuresOf_12 rfl (lv_at hl 0 rfl) ?_
    refine lv_iload_n hx hb dX8_figuresOf_13 rfl (lv_at hl 1 rfl) ?_
    refine lv_iload_n hx hb dX8_figuresOf_14 rfl (lv_at hl 2 rfl) ?_
    refine ca_Wv (b := a_mo) (As := [.int p1, .int p2]) (rest := []) (wr := []) (wo := fun (u : (Int32) × (Int32) × (Int64)) => [(a_mo, oX8 a_moR mo_e mo_f mo_codes mo_most mo_minus mo_low u.1 u.2.1 u.2.2 a_moK a_moH a_moS mo_spanFunction mo_spanRounding mo_spanMany a_moF a_moT mo_parts mo_shift a_moP a_moQ a_moA a_moB a_moD)]) (wn := fun (u : (Int32) × (Int32) × (Int64)) => [(a_mo, oX8 a_moR mo_e mo_f mo_codes mo_most mo_minus mo_low u.1 u.2.1 u.2.2 a_moK a_moH a_moS mo_spanFunction mo_spanRounding mo_spanMany a_moF a_moT mo_parts mo_shift a_moP a_moQ a_moA a_moB a_moD)]) ⟨hx, hb, hml, hown, hts⟩ (c_X8_sets l D cI cJ cZ a_mo a_moR a_moK a_moH a_moS a_moF a_moT a_moP a_moQ a_moA a_moB a_moD H.size mo_e mo_f mo_codes mo_most mo_minus mo_low mo_function mo_atX mo_atM mo_spanFunction mo_spanRounding mo_spanMany mo_parts mo_shift p1 p2 _ _ rfl ho) (cwV 2 hts (gdV wl_480 wl_481 wl_482 wl_5 wl_483) rfl rfl rfl (by decide +kernel) ⟨hRf _ (Nat.le_of_ble_eq_true rfl), hRl _ (Nat.le_of_ble_eq_true rfl)⟩) hK hN hP hD hS hA [0] [] [0] rfl rfl (by decide) (by decide) (by decide) (by decide) (fun _ => rfl) 0 7 rfl rfl rfl rfl hl.1 rfl (Nat.le_of_ble_eq_true rfl) dX8_figuresOf_15 ⟨Nat.zero_le _, Nat.zero_le _⟩ (fun  u15 H locs ho hP hD hS => ?_)
    obtain ⟨u15_1, u15_2, u15_3⟩ := u15
    try dsimp only at ho
    replace hP : va_P D vwCl [(a_mo, oX8 a_moR mo_e mo_f mo_codes mo_most mo_minus mo_low u15_1 u15_2 u15_3 a_moK a_moH a_moS mo_spanFunction mo_spanRounding mo_spanMany a_moF a_moT mo_parts mo_shift a_moP a_moQ a_moA a_moB a_moD)] H := hP
    replace hD : va_D A [(a_mo, oX8 a_moR mo_e mo_f mo_codes mo_most mo_minus mo_low u15_1 u15_2 u15_3 a_moK a_moH a_moS mo_spanFunction mo_spanRounding mo_spanMany a_moF a_moT mo_parts mo_shift a_moP a_moQ a_moA a_moB a_moD)] := hD
    refine lv_aload_n hx hb dX8_figuresOf_18 rfl (lv_at hl 0 rfl) ?_
    refine ca_Vi (b := a_mo) (As := []) (rest := []) ⟨hx, hb, hml, hown, hts⟩ (c_X8_floor l D cI cJ cZ a_mo a_moR a_moK a_moH a_moS a_moF a_moT a_moP a_moQ a_moA a_moB a_moD mo_e mo_f mo_codes mo_most mo_minus mo_low u15_1 u15_2 u15_3 mo_spanFunction mo_spanRounding mo_spanMany mo_parts mo_shift  _ ho) (cwV 0 hts (gdV wl_374 wl_375 wl_376 wl_5 wl_377) rfl rfl rfl (by decide +kernel) ⟨hRf _ (Nat.le_of_ble_eq_true rfl), hRl _ (Nat.le_of_ble_eq_true rfl)⟩) hK hN hP [0] rfl 0 7 rfl rfl rfl rfl hl.1 rfl (Nat.le_of_ble_eq_true rfl) dX8_figuresOf_19 ⟨Nat.zero_le _, Nat.zero_le _⟩ (fun r19 ho => ?_)
    refine lv_istore_n (lv' := [(3, .int r19), (0, .ref a_mo), (1, .int p1), (2, .int p2)]) hx hb dX8_figuresOf_22 rfl hl (by decide) rfl (fun ls hl => ?_)
    refine lv_iload_n hx hb dX8_figuresOf_23 rfl (lv_at hl 0 rfl) ?_
    refine lv_aload_n hx hb dX8_figuresOf_24 rfl (lv_at hl 1 rfl) ?_
    refine va_get (D := D) (ci := 7) (v := .int mo_most) (C := RX8) (T := TX8) (N := 25) hx hb hts inlX8 hown hK hP 0 rfl rfl 4 (by decide) (hts _ wl_120) (fun _ h9 => h9) rfl dX8_figuresOf_25 ?_
    refine lv_icmp_eq (tgt := 39) hx hb dX8_figuresOf_28 (by decide) (fun c_28 => ?_) (fun c_28 => ?_)
    · replace ho := ho.1 c_28
      refine lv_bipush (v := (-9)) hx hb dX8_figuresOf_39 (by decide) ?_
      subst hQ; exact W.iret (v := (-9 : Int32)) hx hb hr (fun t ht hW => ⟨⟨(-9 : Int32), (u15_1, u15_2, u15_3), rfl, ho, by rw [ht]; exact hP, hD⟩, hS.F ht⟩) (fun q hq => hS.2.2 q hq) dX8_figuresOf_41
    · replace ho := ho.2 c_28
      refine lv_aload_n hx hb dX8_figuresOf_31 rfl (lv_at hl 1 rfl) ?_
      refine lv_iload_n hx hb dX8_figuresOf_32 rfl (lv_at hl 0 rfl) ?_
      refine ca_Vi (b := a_mo) (As := [.int r19]) (rest := []) ⟨hx, hb, hml, hown, hts⟩ (c_X8_isFloat l D cI cJ cZ a_mo a_moR a_moK a_moH a_moS a_moF a_moT a_moP a_moQ a_moA a_moB a_moD mo_e mo_f mo_codes mo_most mo_minus mo_low u15_1 u15_2 u15_3 mo_spanFunction mo_spanRounding mo_spanMany mo_parts mo_shift r19 _ ho) (cwV 1 hts (gdV wl_388 wl_389 wl_390 wl_5 wl_391) rfl rfl rfl (by decide +kernel) ⟨hRf _ (Nat.le_of_ble_eq_true rfl), hRl _ (Nat.le_of_ble_eq_true rfl)⟩) hK hN hP [0] rfl 0 7 rfl rfl rfl rfl hl.1 rfl (Nat.le_of_ble_eq_true rfl) dX8_figuresOf_33 ⟨Nat.zero_le _, Nat.zero_le _⟩ (fun r33 ho => ?_)
      refine lv_if_eq (tgt := 42) hx hb dX8_figuresOf_36 (by decide) (fun c_36 => ?_) (fun c_36 => ?_)
      · replace ho := ho.1 c_36
        refine lv_aload_n hx hb dX8_figuresOf_42 rfl (lv_at hl 1 rfl) ?_
        refine lv_iload_n hx hb dX8_figuresOf_43 rfl (lv_at hl 0 rfl) ?_
        refine ca_Vi (b := a_mo) (As := [.int r19]) (rest := []) ⟨hx, hb, hml, hown, hts⟩ (c_X8_figure l D cI cJ cZ a_mo a_moR a_moK a_moH a_moS a_moF a_moT a_moP a_moQ a_moA a_moB a_moD mo_e mo_f mo_codes mo_most mo_minus mo_low u15_1 u15_2 u15_3 mo_spanFunction mo_spanRounding mo_spanMany mo_parts mo_shift r19 _ ho) (cwV 1 hts (gdV wl_274 wl_275 wl_276 wl_5 wl_277) rfl rfl rfl (by decide +kernel) ⟨hRf _ (Nat.le_of_ble_eq_true rfl), hRl _ (Nat.le_of_ble_eq_true rfl)⟩) hK hN hP [0] rfl 0 7 rfl rfl rfl rfl hl.1 rfl (Nat.le_of_ble_eq_true rfl) dX8_figuresOf_44 ⟨Nat.zero_le _, Nat.zero_le _⟩ (fun r44 ho => ?_)
        refine lv_i2l hx hb dX8_figuresOf_47 rfl ?_
        refine lv_lstore (lv' := [(4, .long r44.toInt64), (3, .int r19), (0, .ref a_mo), (1, .int p1), (2, .int p2)]) hx hb dX8_figuresOf_48 hl (by decide) rfl (fun ls hl => ?_)
        refine lv_iconst (v := 0) hx hb dX8_figuresOf_50 (by decide) ?_
        refine lv_istore (lv' := [(6, .int (0 : Int32)), (4, .long r44.toInt64), (3, .int r19), (0, .ref a_mo), (1, .int p1), (2, .int p2)]) hx hb dX8_figuresOf_51 hl (by decide) rfl (fun ls hl => ?_)
        refine lv_iconst (v := 1) hx hb dX8_figuresOf_53 (by decide) ?_
        refine lv_istore (lv' := [(7, .int (1 : Int32)), (6, .int (0 : Int32)), (4, .long r44.toInt64), (3, .int r19), (0, .ref a_mo), (1, .int p1), (2, .int p2)]) hx hb dX8_figuresOf_54 hl (by decide) rfl (fun ls hl => ?_)
        obtain ⟨n_56, ho⟩ := ho
        exact C_56 n_56 u15_1 u15_2 u15_3 r19 r44.toInt64 (0 : Int32) (1 : Int32) H locs ls ho hP hD hS (lv_sub hl [4, 3, 2, 1, 0] rfl)
      · replace ho := ho.2 c_36
        refine lv_bipush (v := (-9)) hx hb dX8_figuresOf_39 (by decide) ?_
        subst hQ; exact W.iret (v := (-9 : Int32)) hx hb hr (fun t ht hW => ⟨⟨(-9 : Int32), (u15_1, u15_2, u15_3), rfl, ho, by rw [ht]; exact hP, hD⟩, hS.F ht⟩) (fun q hq => hS.2.2 q hq) dX8_figuresOf_41
  · replace ho := ho.2 c_6
    refine lv_bipush (v := (-9)) hx hb dX8_figuresOf_9 (by decide) ?_
    subst hQ; exact W.iret (v := (-9 : Int32)) hx hb hr (fun t ht hW => ⟨⟨(-9 : Int32), (mo_function, mo_atX, mo_atM), rfl, ho, by rw [ht]; exact hP, hD⟩, hS.F ht⟩) (fun q hq => hS.2.2 q hq) dX8_figuresOf_11

def w_X8_figures : List Cond := .code yX8_figures cX8_figures 3 (some .int) :: wsL_law
set_option maxHeartbeats 4000000 in
set_option maxRecDepth 100000 in
theorem c_X8_figures (l : Launch) (D : va_G) (cI cJ cZ : ClassId) (a_mo : Nat) (a_moR : Nat) (a_moK : Nat) (a_moH : Nat) (a_moS : Nat) (a_moF : Nat) (a_moT : Nat) (a_moP : Nat) (a_moQ : Nat) (a_moA : Nat) (a_moB : Nat) (a_moD : Nat) (sz : Nat) (mo_e : Int32) (mo_f : Int32) (mo_codes : Int32) (mo_most : Int32) (mo_minus : Int32) (mo_low : Int32) (mo_function : Int32) (mo_atX : Int32) (mo_atM : Int64) (mo_spanFunction : Int32) (mo_spanRounding : Int32) (mo_spanMany : Int32) (mo_parts : Int32) (mo_shift : Int32) (moR_r : Nat → Int32) (p1 : Int32) (p2 : Int32) (post : Int32 → Int32 → Int32 → Int64 → (Nat → Int32) → Prop) (A : Nat → Prop) (hAe : A = va_A [(a_mo, oX8 a_moR mo_e mo_f mo_codes mo_most mo_minus mo_low mo_function mo_atX mo_atM a_moK a_moH a_moS mo_spanFunction mo_spanRounding mo_spanMany a_moF a_moT mo_parts mo_shift a_moP a_moQ a_moA a_moB a_moD), (a_moR, .inl (cI, 7, .inl moR_r))] sz) (ho : wp_X8_figures post mo_f mo_codes mo_most mo_minus mo_low mo_function mo_atX mo_atM moR_r p1 p2) : Met l yX8_figures w_X8_figures ({ frames := 5, cells := 0, slots := 0, locals := 129 } : Room) (rw_P D [(cI, .int), (cJ, .long), (cZ, .boolean)] [.ref a_mo, .int p1, .int p2] sz [(a_mo, oX8 a_moR mo_e mo_f mo_codes mo_most mo_minus mo_low mo_function mo_atX mo_atM a_moK a_moH a_moS mo_spanFunction mo_spanRounding mo_spanMany a_moF a_moT mo_parts mo_shift a_moP a_moQ a_moA a_moB a_moD), (a_moR, .inl (cI, 7, .inl moR_r))]) (va_Qi (fun (r : Int32) (u : (Int32) × (Int32) × (Int64) × (Nat → Int32)) => post r u.1 u.2.1 u.2.2.1 u.2.2.2) (rw_B D A (fun (u : (Int32) × (Int32) × (Int64) × (Nat → Int32)) => [(a_mo, oX8 a_moR mo_e mo_f mo_codes mo_most mo_minus mo_low u.1 u.2.1 u.2.2.1 a_moK a_moH a_moS mo_spanFunction mo_spanRounding mo_spanMany a_moF a_moT mo_parts mo_shift a_moP a_moQ a_moA a_moB a_moD), (a_moR, .inl (cI, 7, .inl u.2.2.2))])) A) 0 0 A := by
  refine Met.ofW (cc := cX8_figures) (maxL := 3) (ret := (some .int)) (by decide) rfl ?_
  intro p e s m args below meth c s₁ B hml hv
  obtain ⟨hargs, hsz, hP, hK, hN, hD0⟩ := hv
  have hx := B.exec
  have hb := B.bytes
  have hr := B.returns
  have hts : ∀ w ∈ wsL_law, w.before args s = true := fun w h => atoms_spec (ws := w_X8_figures) B.pre w (List.mem_cons_of_mem _ h)
  have hown : s.vm.findClass RX8 = some m.cls := findClass_of_methodNamed B.named
  have hlocks := B.notSynchronized
  subst hsz
  have hD : va_D A [(a_mo, oX8 a_moR mo_e mo_f mo_codes mo_most mo_minus mo_low mo_function mo_atX mo_atM a_moK a_moH a_moS mo_spanFunction mo_spanRounding mo_spanMany a_moF a_moT mo_parts mo_shift a_moP a_moQ a_moA a_moB a_moD), (a_moR, .inl (cI, 7, .inl moR_r))] := by rw [hAe]; exact hD0.self
  have hA : ∀ q : Nat, s.heap.size ≤ q → A q := fun q h => by rw [hAe]; exact Or.inr h
  have hS : va_S A s.heap s.heap [] := va_S.rf
  have hl := lv_entry ([.ref a_mo, .int p1, .int p2]) (n := 3) (Nat.le_of_ble_eq_true rfl)
  rw [hargs, lg_entry_eq, ← hargs]
  generalize (lg_sl ([.ref a_mo, .int p1, .int p2]) ++ List.replicate (3 - (lg_sl ([.ref a_mo, .int p1, .int p2])).length) Slot.unset).toArray = ls at hl ⊢
  replace hl : lv_has ls 3 [(0, .ref a_mo), (1, .int p1), (2, .int p2)] := hl
  have hRf : ∀ n, n ≤ 5 → n ≤ (headSpec w_X8_figures ({ frames := 5, cells := 0, slots := 0, locals := 129 } : Room)).room.frames := fun n h => h
  have hRl : ∀ n, n ≤ 129 → n ≤ (headSpec w_X8_figures ({ frames := 5, cells := 0, slots := 0, locals := 129 } : Room)).room.locals := fun n h => h
  generalize (headSpec w_X8_figures ({ frames := 5, cells := 0, slots := 0, locals := 129 } : Room)).room = R at hRf hRl ⊢
  generalize hQ : MQ below _ args s 0 0 _ = Q
  have C_24 : ∀ (mo_function : Int32) (mo_atX : Int32) (mo_atM : Int64) (moR_r : Nat → Int32) (H : Heap) (locs : List Loc) (ls : Array Slot), wp_X8_figures_24 post  mo_function mo_atX mo_atM moR_r → va_P D vwCl [(a_mo, oX8 a_moR mo_e mo_f mo_codes mo_most mo_minus mo_low mo_function mo_atX mo_atM a_moK a_moH a_moS mo_spanFunction mo_spanRounding mo_spanMany a_moF a_moT mo_parts mo_shift a_moP a_moQ a_moA a_moB a_moD), (a_moR, .inl (cI, 7, .inl moR_r))] H → va_D A [(a_mo, oX8 a_moR mo_e mo_f mo_codes mo_most mo_minus mo_low mo_function mo_atX mo_atM a_moK a_moH a_moS mo_spanFunction mo_spanRounding mo_spanMany a_moF a_moT mo_parts mo_shift a_moP a_moQ a_moA a_moB a_moD), (a_moR, .inl (cI, 7, .inl moR_r))] → va_S A s.heap H locs → lv_has ls 3 [(0, .ref a_mo)] → W p l e R s m args below meth c H locs 0 0 Q (F0 m 24 ls []) := by
    intro mo_function mo_atX mo_atM moR_r H locs ls ho hP hD hS hl
    unfold wp_X8_figures_24 at ho
    refine lv_aload_n hx hb dX8_figures_24 rfl (lv_at hl 0 rfl) ?_
    refine lv_iconst (v := (-1)) hx hb dX8_figures_25 (by decide) ?_
    refine ca_Wi (b := a_mo) (As := [.int (-1 : Int32)]) (rest := []) (wr := []) (wo := fun (u : (Nat → Int32)) => [(a_mo, oX8 a_moR mo_e mo_f mo_codes mo_most mo_minus mo_low mo_function mo_atX mo_atM a_moK a_moH a_moS mo_spanFunction mo_spanRounding mo_spanMany a_moF a_moT mo_parts mo_shift a_moP a_moQ a_moA a_moB a_moD), (a_moR, .inl (cI, 7, .inl u))]) (wn := fun (u : (Nat → Int32)) => [(a_mo, oX8 a_moR mo_e mo_f mo_codes mo_most mo_minus mo_low mo_function mo_atX mo_atM a_moK a_moH a_moS mo_spanFunction mo_spanRounding mo_spanMany a_moF a_moT mo_parts mo_shift a_moP a_moQ a_moA a_moB a_moD), (a_moR, .inl (cI, 7, .inl u))]) ⟨hx, hb, hml, hown, hts⟩ (c_X8_refuse l D cI cJ cZ a_mo a_moR a_moK a_moH a_moS a_moF a_moT a_moP a_moQ a_moA a_moB a_moD H.size mo_e mo_f mo_codes mo_most mo_minus mo_low mo_function mo_atX mo_atM mo_spanFunction mo_spanRounding mo_spanMany mo_parts mo_shift moR_r (-1 : Int32) _ _ rfl ho) (cwV 1 hts (gdV wl_165 wl_166 wl_167 wl_5 wl_168) rfl rfl rfl (by decide +kernel) ⟨hRf _ (Nat.le_of_ble_eq_true rfl), hRl _ (Nat.le_of_ble_eq_true rfl)⟩) hK hN hP hD hS hA [0, 1] [] [0, 1] rfl rfl (by decide) (by decide) (by decide) (by decide) (fun _ => rfl) 0 7 rfl rfl rfl rfl hl.1 rfl (Nat.le_of_ble_eq_true rfl) dX8_figures_26 ⟨Nat.zero_le _, Nat.zero_le _⟩ (fun r26 u26 H locs ho hP hD hS => ?_)
    try dsimp only at ho
    replace hP : va_P D vwCl [(a_mo, oX8 a_moR mo_e mo_f mo_codes mo_most mo_minus mo_low mo_function mo_atX mo_atM a_moK a_moH a_moS mo_spanFunction mo_spanRounding mo_spanMany a_moF a_moT mo_parts mo_shift a_moP a_moQ a_moA a_moB a_moD), (a_moR, .inl (cI, 7, .inl u26))] H := hP
    replace hD : va_D A [(a_mo, oX8 a_moR mo_e mo_f mo_codes mo_most mo_minus mo_low mo_function mo_atX mo_atM a_moK a_moH a_moS mo_spanFunction mo_spanRounding mo_spanMany a_moF a_moT mo_parts mo_shift a_moP a_moQ a_moA a_moB a_moD), (a_moR, .inl (cI, 7, .inl u26))] := hD
    subst hQ; exact W.iret (v := r26) hx hb hr (fun t ht hW => ⟨⟨r26, (mo_function, mo_atX, mo_atM, u26), rfl, ho, by rw [ht]; exact hP, hD⟩, hS.F ht⟩) (fun q hq => hS.2.2 q hq) dX8_figures_29
  suffices main : ∀ (H : Heap) (locs : List Loc), va_P D vwCl [(a_mo, oX8 a_moR mo_e mo_f mo_codes mo_most mo_minus mo_low mo_function mo_atX mo_atM a_moK a_moH a_moS mo_spanFunction mo_spanRounding mo_spanMany a_moF a_moT mo_parts mo_shift a_moP a_moQ a_moA a_moB a_moD), (a_moR, .inl (cI, 7, .inl moR_r))] H → va_S A s.heap H locs → W p l e R s m args below meth c H locs 0 0 Q (F0 m 0 ls []) from main _ _ hP hS
  intro H locs hP hS
  unfold wp_X8_figures at ho
  refine lv_iload_n hx hb dX8_figures_0 rfl (lv_at hl 1 rfl) ?_
  refine ca_Si (As := [.int p1]) (rest := []) ⟨hx, hb, hml, hown, hts⟩ (c_X8_isFunction l D cI cJ cZ   p1 _ ho) (va_cwS 1 hts (gdS wl_469 wl_470 wl_5 wl_471) rfl rfl rfl (by decide +kernel) ⟨hRf _ (Nat.le_of_ble_eq_true rfl), hRl _ (Nat.le_of_ble_eq_true rfl)⟩) hK hN hP [] rfl rfl hl.1 rfl (Nat.le_of_ble_eq_true rfl) dX8_figures_1 ⟨Nat.zero_le _, Nat.zero_le _⟩ (fun r1 ho => ?_)
  refine lv_if_eq (tgt := 24) hx hb dX8_figures_4 (by decide) (fun c_4 => ?_) (fun c_4 => ?_)
  · replace ho := ho.1 c_4
    exact C_24 mo_function mo_atX mo_atM moR_r H locs ls ho hP hD hS (lv_sub hl [0] rfl)
  · replace ho := ho.2 c_4
    refine lv_aload_n hx hb dX8_figures_7 rfl (lv_at hl 0 rfl) ?_
    refine lv_iload_n hx hb dX8_figures_8 rfl (lv_at hl 2 rfl) ?_
    refine ca_Vi (b := a_mo) (As := [.int p2]) (rest := []) ⟨hx, hb, hml, hown, hts⟩ (c_X8_isCode l D cI cJ cZ a_mo a_moR a_moK a_moH a_moS a_moF a_moT a_moP a_moQ a_moA a_moB a_moD mo_e mo_f mo_codes mo_most mo_minus mo_low mo_function mo_atX mo_atM mo_spanFunction mo_spanRounding mo_spanMany mo_parts mo_shift p2 _ ho) (cwV 1 hts (gdV wl_250 wl_251 wl_252 wl_5 wl_253) rfl rfl rfl (by decide +kernel) ⟨hRf _ (Nat.le_of_ble_eq_true rfl), hRl _ (Nat.le_of_ble_eq_true rfl)⟩) hK hN hP [0] rfl 0 7 rfl rfl rfl rfl hl.1 rfl (Nat.le_of_ble_eq_true rfl) dX8_figures_9 ⟨Nat.zero_le _, Nat.zero_le _⟩ (fun r9 ho => ?_)
    refine lv_if_eq (tgt := 24) hx hb dX8_figures_12 (by decide) (fun c_12 => ?_) (fun c_12 => ?_)
    · replace ho := ho.1 c_12
      exact C_24 mo_function mo_atX mo_atM moR_r H locs ls ho hP hD hS (lv_sub hl [0] rfl)
    · replace ho := ho.2 c_12
      refine lv_aload_n hx hb dX8_figures_15 rfl (lv_at hl 0 rfl) ?_
      refine lv_iload_n hx hb dX8_figures_16 rfl (lv_at hl 1 rfl) ?_
      refine lv_iload_n hx hb dX8_figures_17 rfl (lv_at hl 2 rfl) ?_
      refine ca_Wi (b := a_mo) (As := [.int p1, .int p2]) (rest := []) (wr := [(a_moR, .inl (cI, 7, .inl moR_r))]) (wo := fun (u : (Int32) × (Int32) × (Int64)) => [(a_mo, oX8 a_moR mo_e mo_f mo_codes mo_most mo_minus mo_low u.1 u.2.1 u.2.2 a_moK a_moH a_moS mo_spanFunction mo_spanRounding mo_spanMany a_moF a_moT mo_parts mo_shift a_moP a_moQ a_moA a_moB a_moD)]) (wn := fun (u : (Int32) × (Int32) × (Int64)) => [(a_mo, oX8 a_moR mo_e mo_f mo_codes mo_most mo_minus mo_low u.1 u.2.1 u.2.2 a_moK a_moH a_moS mo_spanFunction mo_spanRounding mo_spanMany a_moF a_moT mo_parts mo_shift a_moP a_moQ a_moA a_moB a_moD), (a_moR, .inl (cI, 7, .inl moR_r))]) ⟨hx, hb, hml, hown, hts⟩ (c_X8_figuresOf l D cI cJ cZ a_mo a_moR a_moK a_moH a_moS a_moF a_moT a_moP a_moQ a_moA a_moB a_moD H.size mo_e mo_f mo_codes mo_most mo_minus mo_low mo_function mo_atX mo_atM mo_spanFunction mo_spanRounding mo_spanMany mo_parts mo_shift p1 p2 _ _ rfl ho) (cwV 2 hts (gdV wl_517 wl_518 wl_519 wl_5 wl_520) rfl rfl rfl (by decide +kernel) ⟨hRf _ (Nat.le_of_ble_eq_true rfl), hRl _ (Nat.le_of_ble_eq_true rfl)⟩) hK hN hP hD hS hA [0] [1] [1, 0] rfl rfl (by decide) (by decide) (by decide) (by decide) (fun _ => rfl) 0 7 rfl rfl rfl rfl hl.1 rfl (Nat.le_of_ble_eq_true rfl) dX8_figures_18 ⟨Nat.zero_le _, Nat.zero_le _⟩ (fun r18 u18 H locs ho hP hD hS => ?_)
      obtain ⟨u18_1, u18_2, u18_3⟩ := u18
      try dsimp only at ho
      replace hP : va_P D vwCl [(a_mo, oX8 a_moR mo_e mo_f mo_codes mo_most mo_minus mo_low u18_1 u18_2 u18_3 a_moK a_moH a_moS mo_spanFunction mo_spanRounding mo_spanMany a_moF a_moT mo_parts mo_shift a_moP a_moQ a_moA a_moB a_moD), (a_moR, .inl (cI, 7, .inl moR_r))] H := hP
      replace hD : va_D A [(a_mo, oX8 a_moR mo_e mo_f mo_codes mo_most mo_minus mo_low u18_1 u18_2 u18_3 a_moK a_moH a_moS mo_spanFunction mo_spanRounding mo_spanMany a_moF a_moT mo_parts mo_shift a_moP a_moQ a_moA a_moB a_moD), (a_moR, .inl (cI, 7, .inl moR_r))] := hD
      refine lv_goto (tgt := 29) hx hb dX8_figures_21 (by decide) ?_
      subst hQ; exact W.iret (v := r18) hx hb hr (fun t ht hW => ⟨⟨r18, (u18_1, u18_2, u18_3, moR_r), rfl, ho, by rw [ht]; exact hP, hD⟩, hS.F ht⟩) (fun q hq => hS.2.2 q hq) dX8_figures_29

def w_X8_hardOf : List Cond := .code yX8_hardOf cX8_hardOf 5 (some .int) :: wsL_law
set_option maxHeartbeats 4000000 in
set_option maxRecDepth 100000 in
theorem c_X8_hardOf (l : Launch) (D : va_G) (cI cJ cZ : ClassId) (a_mo : Nat) (a_moR : Nat) (a_moK : Nat) (a_moH : Nat) (a_moS : Nat) (a_moF : Nat) (a_moT : Nat) (a_moP : Nat) (a_moQ : Nat) (a_moA : Nat) (a_moB : Nat) (a_moD : Nat) (sz : Nat) (mo_e : Int32) (mo_f : Int32) (mo_codes : Int32) (mo_most : Int32) (mo_minus : Int32) (mo_low : Int32) (mo_function : Int32) (mo_atX : Int32) (mo_atM : Int64) (mo_spanFunction : Int32) (mo_spanRounding : Int32) (mo_spanMany : Int32) (mo_parts : Int32) (mo_shift : Int32) (p1 : Int32) (p2 : Int32) (post : Int32 → Int32 → Int32 → Int64 → Prop) (A : Nat → Prop) (hAe : A = va_A [(a_mo, oX8 a_moR mo_e mo_f mo_codes mo_most mo_minus mo_low mo_function mo_atX mo_atM a_moK a_moH a_moS mo_spanFunction mo_spanRounding mo_spanMany a_moF a_moT mo_parts mo_shift a_moP a_moQ a_moA a_moB a_moD)] sz) (ho : wp_X8_hardOf post mo_f mo_most mo_minus mo_low mo_function mo_atX mo_atM p1 p2) : Met l yX8_hardOf w_X8_hardOf ({ frames := 5, cells := 0, slots := 0, locals := 129 } : Room) (rw_P D [(cI, .int), (cJ, .long), (cZ, .boolean)] [.ref a_mo, .int p1, .int p2] sz [(a_mo, oX8 a_moR mo_e mo_f mo_codes mo_most mo_minus mo_low mo_function mo_atX mo_atM a_moK a_moH a_moS mo_spanFunction mo_spanRounding mo_spanMany a_moF a_moT mo_parts mo_shift a_moP a_moQ a_moA a_moB a_moD)]) (va_Qi (fun (r : Int32) (u : (Int32) × (Int32) × (Int64)) => post r u.1 u.2.1 u.2.2) (rw_B D A (fun (u : (Int32) × (Int32) × (Int64)) => [(a_mo, oX8 a_moR mo_e mo_f mo_codes mo_most mo_minus mo_low u.1 u.2.1 u.2.2 a_moK a_moH a_moS mo_spanFunction mo_spanRounding mo_spanMany a_moF a_moT mo_parts mo_shift a_moP a_moQ a_moA a_moB a_moD)])) A) 0 0 A := by
  refine Met.ofW (cc := cX8_hardOf) (maxL := 5) (ret := (some .int)) (by decide) rfl ?_
  intro p e s m args below meth c s₁ B hml hv
  obtain ⟨hargs, hsz, hP, hK, hN, hD0⟩ := hv
  have hx := B.exec
  have hb := B.bytes
  have hr := B.returns
  have hts : ∀ w ∈ wsL_law, w.before args s = true := fun w h => atoms_spec (ws := w_X8_hardOf) B.pre w (List.mem_cons_of_mem _ h)
  have hown : s.vm.findClass RX8 = some m.cls := findClass_of_methodNamed B.named
  have hlocks := B.notSynchronized
  subst hsz
  have hD : va_D A [(a_mo, oX8 a_moR mo_e mo_f mo_codes mo_most mo_minus mo_low mo_function mo_atX mo_atM a_moK a_moH a_moS mo_spanFunction mo_spanRounding mo_spanMany a_moF a_moT mo_parts mo_shift a_moP a_moQ a_moA a_moB a_moD)] := by rw [hAe]; exact hD0.self
  have hA : ∀ q : Nat, s.heap.size ≤ q → A q := fun q h => by rw [hAe]; exact Or.inr h
  have hS : va_S A s.heap s.heap [] := va_S.rf
  have hl := lv_entry ([.ref a_mo, .int p1, .int p2]) (n := 5) (Nat.le_of_ble_eq_true rfl)
  rw [hargs, lg_entry_eq, ← hargs]
  generalize (lg_sl ([.ref a_mo, .int p1, .int p2]) ++ List.replicate (5 - (lg_sl ([.ref a_mo, .int p1, .int p2])).length) Slot.unset).toArray = ls at hl ⊢
  replace hl : lv_has ls 5 [(0, .ref a_mo), (1, .int p1), (2, .int p2)] := hl
  have hRf : ∀ n, n ≤ 5 → n ≤ (headSpec w_X8_hardOf ({ frames := 5, cells := 0, slots := 0, locals := 129 } : Room)).room.frames := fun n h => h
  have hRl : ∀ n, n ≤ 129 → n ≤ (headSpec w_X8_hardOf ({ frames := 5, cells := 0, slots := 0, locals := 129 } : Room)).room.locals := fun n h => h
  generalize (headSpec w_X8_hardOf ({ frames := 5, cells := 0, slots := 0, locals := 129 } : Room)).room = R at hRf hRl ⊢
  generalize hQ : MQ below _ args s 0 0 _ = Q
  have C_16 : ∀ n : Nat, ∀ (mo_function : Int32) (mo_atX : Int32) (mo_atM : Int64) (x3 : Int32) (x4 : Int32) (H : Heap) (locs : List Loc) (ls : Array Slot), wp_X8_hardOf_16 post   n mo_function mo_atX mo_atM x3 x4 → va_P D vwCl [(a_mo, oX8 a_moR mo_e mo_f mo_codes mo_most mo_minus mo_low mo_function mo_atX mo_atM a_moK a_moH a_moS mo_spanFunction mo_spanRounding mo_spanMany a_moF a_moT mo_parts mo_shift a_moP a_moQ a_moA a_moB a_moD)] H → va_D A [(a_mo, oX8 a_moR mo_e mo_f mo_codes mo_most mo_minus mo_low mo_function mo_atX mo_atM a_moK a_moH a_moS mo_spanFunction mo_spanRounding mo_spanMany a_moF a_moT mo_parts mo_shift a_moP a_moQ a_moA a_moB a_moD)] → va_S A s.heap H locs → lv_has ls 5 [(3, .int x3), (4, .int x4)] → W p l e R s m args below meth c H locs 0 0 Q (F0 m 16 ls []) := by
    intro n
    induction n with
    | zero => intro mo_function mo_atX mo_atM x3 x4 H locs ls ho hP hD hS hl; exact ho.elim
    | succ n_16 ih_16 =>
      intro mo_function mo_atX mo_atM x3 x4 H locs ls ho hP hD hS hl
      replace ho : wp_X8_hardOf_16_b post  (wp_X8_hardOf_16 post  n_16) mo_function mo_atX mo_atM x3 x4 := ho
      unfold wp_X8_hardOf_16_b at ho
      refine lv_iload hx hb dX8_hardOf_16 (lv_at hl 1 rfl) ?_
      refine lv_bipush (v := 9) hx hb dX8_hardOf_18 (by decide) ?_
      refine lv_icmp_ge (tgt := 47) hx hb dX8_hardOf_20 (by decide) (fun c_20 => ?_) (fun c_20 => ?_)
      · replace ho := ho.1 c_20
        refine lv_iload hx hb dX8_hardOf_47 (lv_at hl 1 rfl) ?_
        subst hQ; exact W.iret (v := x4) hx hb hr (fun t ht hW => ⟨⟨x4, (mo_function, mo_atX, mo_atM), rfl, ho, by rw [ht]; exact hP, hD⟩, hS.F ht⟩) (fun q hq => hS.2.2 q hq) dX8_hardOf_49
      · replace ho := ho.2 c_20
        refine lv_iload_n hx hb dX8_hardOf_23 rfl (lv_at hl 0 rfl) ?_
        refine lv_bipush (v := 8) hx hb dX8_hardOf_24 (by decide) ?_
        refine lv_iload hx hb dX8_hardOf_26 (lv_at hl 1 rfl) ?_
        refine lv_isub hx hb dX8_hardOf_28 ?_
        refine lv_ishr hx hb dX8_hardOf_29 ?_
        refine lv_iconst (v := 1) hx hb dX8_hardOf_30 (by decide) ?_
        refine lv_iand hx hb dX8_hardOf_31 ?_
        refine lv_iload_n hx hb dX8_hardOf_32 rfl (lv_at hl 0 rfl) ?_
        refine lv_bipush (v := 8) hx hb dX8_hardOf_33 (by decide) ?_
        refine lv_ishr hx hb dX8_hardOf_35 ?_
        refine lv_iconst (v := 1) hx hb dX8_hardOf_36 (by decide) ?_
        refine lv_iand hx hb dX8_hardOf_37 ?_
        refine lv_icmp_ne (tgt := 47) hx hb dX8_hardOf_38 (by decide) (fun c_38 => ?_) (fun c_38 => ?_)
        · replace ho := ho.1 c_38
          refine lv_iload hx hb dX8_hardOf_47 (lv_at hl 1 rfl) ?_
          subst hQ; exact W.iret (v := x4) hx hb hr (fun t ht hW => ⟨⟨x4, (mo_function, mo_atX, mo_atM), rfl, ho, by rw [ht]; exact hP, hD⟩, hS.F ht⟩) (fun q hq => hS.2.2 q hq) dX8_hardOf_49
        · replace ho := ho.2 c_38
          refine lv_iinc (v := (x4 + (1 : Int32))) (lv' := [(4, .int (x4 + (1 : Int32))), (3, .int x3)]) hx hb dX8_hardOf_41 hl (k := 1) rfl rfl (by decide) rfl (fun ls hl => ?_)
          refine lv_goto (tgt := 16) hx hb dX8_hardOf_44 (by decide) ?_
          exact ih_16 mo_function mo_atX mo_atM x3 (x4 + (1 : Int32)) H locs ls ho hP hD hS (lv_sub hl [1, 0] rfl)
  suffices main : ∀ (H : Heap) (locs : List Loc), va_P D vwCl [(a_mo, oX8 a_moR mo_e mo_f mo_codes mo_most mo_minus mo_low mo_function mo_atX mo_atM a_moK a_moH a_moS mo_spanFunction mo_spanRounding mo_spanMany a_moF a_moT mo_parts mo_shift a_moP a_moQ a_moA a_moB a_moD)] H → va_S A s.heap H locs → W p l e R s m args below meth c H locs 0 0 Q (F0 m 0 ls []) from main _ _ hP hS
  intro H locs hP hS
  unfold wp_X8_hardOf at ho
  refine lv_aload_n hx hb dX8_hardOf_0 rfl (lv_at hl 0 rfl) ?_
  refine lv_iload_n hx hb dX8_hardOf_1 rfl (lv_at hl 1 rfl) ?_
  refine lv_iload_n hx hb dX8_hardOf_2 rfl (lv_at hl 2 rfl) ?_
  refine ca_Wi (b := a_mo) (As := [.int p1, .int p2]) (rest := []) (wr := []) (wo := fun (u : (Int32) × (Int32) × (Int64)) => [(a_mo, oX8 a_moR mo_e mo_f mo_codes mo_most mo_minus mo_low u.1 u.2.1 u.2.2 a_moK a_moH a_moS mo_spanFunction mo_spanRounding mo_spanMany a_moF a_moT mo_parts mo_shift a_moP a_moQ a_moA a_moB a_moD)]) (wn := fun (u : (Int32) × (Int32) × (Int64)) => [(a_mo, oX8 a_moR mo_e mo_f mo_codes mo_most mo_minus mo_low u.1 u.2.1 u.2.2 a_moK a_moH a_moS mo_spanFunction mo_spanRounding mo_spanMany a_moF a_moT mo_parts mo_shift a_moP a_moQ a_moA a_moB a_moD)]) ⟨hx, hb, hml, hown, hts⟩ (c_X8_figuresOf l D cI cJ cZ a_mo a_moR a_moK a_moH a_moS a_moF a_moT a_moP a_moQ a_moA a_moB a_moD H.size mo_e mo_f mo_codes mo_most mo_minus mo_low mo_function mo_atX mo_atM mo_spanFunction mo_spanRounding mo_spanMany mo_parts mo_shift p1 p2 _ _ rfl ho) (cwV 2 hts (gdV wl_517 wl_518 wl_519 wl_5 wl_520) rfl rfl rfl (by decide +kernel) ⟨hRf _ (Nat.le_of_ble_eq_true rfl), hRl _ (Nat.le_of_ble_eq_true rfl)⟩) hK hN hP hD hS hA [0] [] [0] rfl rfl (by decide) (by decide) (by decide) (by decide) (fun _ => rfl) 0 7 rfl rfl rfl rfl hl.1 rfl (Nat.le_of_ble_eq_true rfl) dX8_hardOf_3 ⟨Nat.zero_le _, Nat.zero_le _⟩ (fun r3 u3 H locs ho hP hD hS => ?_)
  obtain ⟨u3_1, u3_2, u3_3⟩ := u3
  try dsimp only at ho
  replace hP : va_P D vwCl [(a_mo, oX8 a_moR mo_e mo_f mo_codes mo_most mo_minus mo_low u3_1 u3_2 u3_3 a_moK a_moH a_moS mo_spanFunction mo_spanRounding mo_spanMany a_moF a_moT mo_parts mo_shift a_moP a_moQ a_moA a_moB a_moD)] H := hP
  replace hD : va_D A [(a_mo, oX8 a_moR mo_e mo_f mo_codes mo_most mo_minus mo_low u3_1 u3_2 u3_3 a_moK a_moH a_moS mo_spanFunction mo_spanRounding mo_spanMany a_moF a_moT mo_parts mo_shift a_moP a_moQ a_moA a_moB a_moD)] := hD
  refine lv_istore_n (lv' := [(3, .int r3), (0, .ref a_mo), (1, .int p1), (2, .int p2)]) hx hb dX8_hardOf_6 rfl hl (by decide) rfl (fun ls hl => ?_)
  refine lv_iload_n hx hb dX8_hardOf_7 rfl (lv_at hl 0 rfl) ?_
  refine lv_if_ge (tgt := 13) hx hb dX8_hardOf_8 (by decide) (fun c_8 => ?_) (fun c_8 => ?_)
  · replace ho := ho.1 c_8
    refine lv_iconst (v := 1) hx hb dX8_hardOf_13 (by decide) ?_
    refine lv_istore (lv' := [(4, .int (1 : Int32)), (3, .int r3), (0, .ref a_mo), (1, .int p1), (2, .int p2)]) hx hb dX8_hardOf_14 hl (by decide) rfl (fun ls hl => ?_)
    obtain ⟨n_16, ho⟩ := ho
    exact C_16 n_16 u3_1 u3_2 u3_3 r3 (1 : Int32) H locs ls ho hP hD hS (lv_sub hl [1, 0] rfl)
  · replace ho := ho.2 c_8
    refine lv_iconst (v := 0) hx hb dX8_hardOf_11 (by decide) ?_
    subst hQ; exact W.iret (v := (0 : Int32)) hx hb hr (fun t ht hW => ⟨⟨(0 : Int32), (u3_1, u3_2, u3_3), rfl, ho, by rw [ht]; exact hP, hD⟩, hS.F ht⟩) (fun q hq => hS.2.2 q hq) dX8_hardOf_12
