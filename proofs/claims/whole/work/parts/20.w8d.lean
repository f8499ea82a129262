def wp_X8_right_33 (post : Int32 → Int32 → Int32 → Int64 → (Nat → Int32) → Prop)  (mo_function : Int32) (mo_atX : Int32) (mo_atM : Int64) (moR_r : Nat → Int32) : Prop := wp_X8_refuse (fun r35 u35 => (post r35 mo_function mo_atX mo_atM u35)) moR_r (-1 : Int32)
def wp_X8_right (post : Int32 → Int32 → Int32 → Int64 → (Nat → Int32) → Prop) (mo_f : Int32) (mo_codes : Int32) (mo_most : Int32) (mo_minus : Int32) (mo_low : Int32) (mo_function : Int32) (mo_atX : Int32) (mo_atM : Int64) (moR_r : Nat → Int32) (p1 : Int32) (p2 : Int32) (p3 : Int32) : Prop := wp_X8_isFunction (fun r1 => (((r1 = 0) → (wp_X8_right_33 post mo_function mo_atX mo_atM moR_r)) ∧ ((¬ (r1 = 0)) → (wp_X8_isCode (fun r9 => (((r9 = 0) → (wp_X8_right_33 post mo_function mo_atX mo_atM moR_r)) ∧ ((¬ (r9 = 0)) → (wp_X8_isIn (fun r17 => (((r17 = 0) → (wp_X8_right_33 post mo_function mo_atX mo_atM moR_r)) ∧ ((¬ (r17 = 0)) → (wp_X8_rightOf (fun r27 u27_1 u27_2 u27_3 => (post r27 u27_1 u27_2 u27_3 moR_r)) mo_f mo_most mo_minus mo_low mo_function mo_atX mo_atM p1 p2 p3)))) p3 (5 : Int32))))) mo_codes p2)))) p1
set_option maxHeartbeats 4000000 in
set_option maxRecDepth 100000 in
theorem c_X8_right (l : Launch) (D : va_G) (cI cJ cZ : ClassId) (a_mo : Nat) (a_moR : Nat) (a_moK : Nat) (a_moH : Nat) (a_moS : Nat) (a_moF : Nat) (a_moT : Nat) (a_moP : Nat) (a_moQ : Nat) (a_moA : Nat) (a_moB : Nat) (a_moD : Nat) (sz : Nat) (mo_e : Int32) (mo_f : Int32) (mo_codes : Int32) (mo_most : Int32) (mo_minus : Int32) (mo_low : Int32) (mo_function : Int32) (mo_atX : Int32) (mo_atM : Int64) (mo_spanFunction : Int32) (mo_spanRounding : Int32) (mo_spanMany : Int32) (mo_parts : Int32) (mo_shift : Int32) (moR_r : Nat → Int32) (p1 : Int32) (p2 : Int32) (p3 : Int32) (post : Int32 → Int32 → Int32 → Int64 → (Nat → Int32) → Prop) (A : Nat → Prop) (hAe : A = va_A [(a_mo, oX8 a_moR mo_e mo_f mo_codes mo_most mo_minus mo_low mo_function mo_atX mo_atM a_moK a_moH a_moS mo_spanFunction mo_spanRounding mo_spanMany a_moF a_moT mo_parts mo_shift a_moP a_moQ a_moA a_moB a_moD), (a_moR, .inl (cI, 7, .inl moR_r))] sz) (ho : wp_X8_right post mo_f mo_codes mo_most mo_minus mo_low mo_function mo_atX mo_atM moR_r p1 p2 p3) : Met l yX8_right wsX8_right ({ frames := 6, cells := 0, slots := 0, locals := 151 } : Room) (rw_P D [(cI, .int), (cJ, .long), (cZ, .boolean)] [.ref a_mo, .int p1, .int p2, .int p3] sz [(a_mo, oX8 a_moR mo_e mo_f mo_codes mo_most mo_minus mo_low mo_function mo_atX mo_atM a_moK a_moH a_moS mo_spanFunction mo_spanRounding mo_spanMany a_moF a_moT mo_parts mo_shift a_moP a_moQ a_moA a_moB a_moD), (a_moR, .inl (cI, 7, .inl moR_r))]) (va_Qi (fun (r : Int32) (u : (Int32) × (Int32) × (Int64) × (Nat → Int32)) => post r u.1 u.2.1 u.2.2.1 u.2.2.2) (rw_B D A (fun (u : (Int32) × (Int32) × (Int64) × (Nat → Int32)) => [(a_mo, oX8 a_moR mo_e mo_f mo_codes mo_most mo_minus mo_low u.1 u.2.1 u.2.2.1 a_moK a_moH a_moS mo_spanFunction mo_spanRounding mo_spanMany a_moF a_moT mo_parts mo_shift a_moP a_moQ a_moA a_moB a_moD), (a_moR, .inl (cI, 7, .inl u.2.2.2))])) A) 0 0 A := by
  refine Met.ofW (cc := cX8_right) (maxL := 4) (ret := (some .int)) (by decide) rfl ?_
  intro p e s m args below meth c s₁ B hml hv
  obtain ⟨hargs, hsz, hP, hK, hN, hD0⟩ := hv
  have hx := B.exec
  have hb := B.bytes
  have hr := B.returns
  have hts := atoms_spec (ws := wsX8_right) B.pre
  have hown : s.vm.findClass RX8 = some m.cls := findClass_of_methodNamed B.named
  have hlocks := B.notSynchronized
  subst hsz
  have hD : va_D A [(a_mo, oX8 a_moR mo_e mo_f mo_codes mo_most mo_minus mo_low mo_function mo_atX mo_atM a_moK a_moH a_moS mo_spanFunction mo_spanRounding mo_spanMany a_moF a_moT mo_parts mo_shift a_moP a_moQ a_moA a_moB a_moD), (a_moR, .inl (cI, 7, .inl moR_r))] := by rw [hAe]; exact hD0.self
  have hA : ∀ q : Nat, s.heap.size ≤ q → A q := fun q h => by rw [hAe]; exact Or.inr h
  have hS : va_S A s.heap s.heap [] := va_S.rf
  have hl := lv_entry ([.ref a_mo, .int p1, .int p2, .int p3]) (n := 4) (Nat.le_of_ble_eq_true rfl)
  rw [hargs, lg_entry_eq, ← hargs]
  generalize (lg_sl ([.ref a_mo, .int p1, .int p2, .int p3]) ++ List.replicate (4 - (lg_sl ([.ref a_mo, .int p1, .int p2, .int p3])).length) Slot.unset).toArray = ls at hl ⊢
  replace hl : lv_has ls 4 [(0, .ref a_mo), (1, .int p1), (2, .int p2), (3, .int p3)] := hl
  have hRf : ∀ n, n ≤ 6 → n ≤ (headSpec wsX8_right ({ frames := 6, cells := 0, slots := 0, locals := 151 } : Room)).room.frames := fun n h => h
  have hRl : ∀ n, n ≤ 151 → n ≤ (headSpec wsX8_right ({ frames := 6, cells := 0, slots := 0, locals := 151 } : Room)).room.locals := fun n h => h
  generalize (headSpec wsX8_right ({ frames := 6, cells := 0, slots := 0, locals := 151 } : Room)).room = R at hRf hRl ⊢
  generalize hQ : MQ below _ args s 0 0 _ = Q
  have C_33 : ∀ (mo_function : Int32) (mo_atX : Int32) (mo_atM : Int64) (moR_r : Nat → Int32) (H : Heap) (locs : List Loc) (ls : Array Slot), wp_X8_right_33 post  mo_function mo_atX mo_atM moR_r → va_P D vwCl [(a_mo, oX8 a_moR mo_e mo_f mo_codes mo_most mo_minus mo_low mo_function mo_atX mo_atM a_moK a_moH a_moS mo_spanFunction mo_spanRounding mo_spanMany a_moF a_moT mo_parts mo_shift a_moP a_moQ a_moA a_moB a_moD), (a_moR, .inl (cI, 7, .inl moR_r))] H → va_D A [(a_mo, oX8 a_moR mo_e mo_f mo_codes mo_most mo_minus mo_low mo_function mo_atX mo_atM a_moK a_moH a_moS mo_spanFunction mo_spanRounding mo_spanMany a_moF a_moT mo_parts mo_shift a_moP a_moQ a_moA a_moB a_moD), (a_moR, .inl (cI, 7, .inl moR_r))] → va_S A s.heap H locs → lv_has ls 4 [(0, .ref a_mo)] → W p l e R s m args below meth c H locs 0 0 Q (F0 m 33 ls []) := by
    intro mo_function mo_atX mo_atM moR_r H locs ls ho hP hD hS hl
    unfold wp_X8_right_33 at ho
    refine lv_aload_n hx hb dX8_right_33 rfl (lv_at hl 0 rfl) ?_
    refine lv_iconst (v := (-1)) hx hb dX8_right_34 (by decide) ?_
    refine ca_Wi (b := a_mo) (As := [.int (-1 : Int32)]) (rest := []) (wr := []) (wo := fun u => [(a_mo, oX8 a_moR mo_e mo_f mo_codes mo_most mo_minus mo_low mo_function mo_atX mo_atM a_moK a_moH a_moS mo_spanFunction mo_spanRounding mo_spanMany a_moF a_moT mo_parts mo_shift a_moP a_moQ a_moA a_moB a_moD), (a_moR, .inl (cI, 7, .inl u))]) (wn := fun u => [(a_mo, oX8 a_moR mo_e mo_f mo_codes mo_most mo_minus mo_low mo_function mo_atX mo_atM a_moK a_moH a_moS mo_spanFunction mo_spanRounding mo_spanMany a_moF a_moT mo_parts mo_shift a_moP a_moQ a_moA a_moB a_moD), (a_moR, .inl (cI, 7, .inl u))]) ⟨hx, hb, hml, hown, hts⟩ (c_X8_refuse l D cI cJ cZ a_mo a_moR a_moK a_moH a_moS a_moF a_moT a_moP a_moQ a_moA a_moB a_moD H.size mo_e mo_f mo_codes mo_most mo_minus mo_low mo_function mo_atX mo_atM mo_spanFunction mo_spanRounding mo_spanMany mo_parts mo_shift moR_r (-1 : Int32) _ _ rfl ho) (cwV 1 hts gX8_right_X8_refuse rfl rfl rfl (by decide +kernel) ⟨hRf _ (Nat.le_of_ble_eq_true rfl), hRl _ (Nat.le_of_ble_eq_true rfl)⟩) hK hN hP hD hS hA [0, 1] [] [0, 1] rfl rfl (by decide) (by decide) (by decide) (by decide) (fun _ => rfl) 0 7 rfl rfl rfl rfl hl.1 rfl (Nat.le_of_ble_eq_true rfl) dX8_right_35 ⟨Nat.zero_le _, Nat.zero_le _⟩ (fun r35 u35 H locs ho hP hD hS => ?_)
    try dsimp only at ho
    replace hP : va_P D vwCl [(a_mo, oX8 a_moR mo_e mo_f mo_codes mo_most mo_minus mo_low mo_function mo_atX mo_atM a_moK a_moH a_moS mo_spanFunction mo_spanRounding mo_spanMany a_moF a_moT mo_parts mo_shift a_moP a_moQ a_moA a_moB a_moD), (a_moR, .inl (cI, 7, .inl u35))] H := hP
    replace hD : va_D A [(a_mo, oX8 a_moR mo_e mo_f mo_codes mo_most mo_minus mo_low mo_function mo_atX mo_atM a_moK a_moH a_moS mo_spanFunction mo_spanRounding mo_spanMany a_moF a_moT mo_parts mo_shift a_moP a_moQ a_moA a_moB a_moD), (a_moR, .inl (cI, 7, .inl u35))] := hD
    subst hQ; exact W.iret (v := r35) hx hb hr (fun t ht hW => ⟨⟨r35, (mo_function, mo_atX, mo_atM, u35), rfl, ho, by rw [ht]; exact hP, hD⟩, hS.F ht⟩) (fun q hq => hS.2.2 q hq) dX8_right_38
  unfold wp_X8_right at ho
  refine lv_iload_n hx hb dX8_right_0 rfl (lv_at hl 1 rfl) ?_
  refine ca_Si (As := [.int p1]) (rest := []) ⟨hx, hb, hml, hown, hts⟩ (c_X8_isFunction l D cI cJ cZ   p1 _ ho) (va_cwS 1 hts gX8_right_X8_isFunction rfl rfl rfl (by decide +kernel) ⟨hRf _ (Nat.le_of_ble_eq_true rfl), hRl _ (Nat.le_of_ble_eq_true rfl)⟩) hK hN hP [] rfl rfl hl.1 rfl (Nat.le_of_ble_eq_true rfl) dX8_right_1 ⟨Nat.zero_le _, Nat.zero_le _⟩ (fun r1 ho => ?_)
  refine lv_if_eq (tgt := 33) hx hb dX8_right_4 (by decide) (fun c_4 => ?_) (fun c_4 => ?_)
  · replace ho := ho.1 c_4
    exact C_33 mo_function mo_atX mo_atM moR_r H locs ls ho hP hD hS (lv_sub hl [0] rfl)
  · replace ho := ho.2 c_4
    refine lv_aload_n hx hb dX8_right_7 rfl (lv_at hl 0 rfl) ?_
    refine lv_iload_n hx hb dX8_right_8 rfl (lv_at hl 2 rfl) ?_
    refine ca_Vi (b := a_mo) (As := [.int p2]) (rest := []) ⟨hx, hb, hml, hown, hts⟩ (c_X8_isCode l D cI cJ cZ a_mo a_moR a_moK a_moH a_moS a_moF a_moT a_moP a_moQ a_moA a_moB a_moD mo_e mo_f mo_codes mo_most mo_minus mo_low mo_function mo_atX mo_atM mo_spanFunction mo_spanRounding mo_spanMany mo_parts mo_shift p2 _ ho) (cwV 1 hts gX8_right_X8_isCode rfl rfl rfl (by decide +kernel) ⟨hRf _ (Nat.le_of_ble_eq_true rfl), hRl _ (Nat.le_of_ble_eq_true rfl)⟩) hK hN hP [0] rfl 0 7 rfl rfl rfl rfl hl.1 rfl (Nat.le_of_ble_eq_true rfl) dX8_right_9 ⟨Nat.zero_le _, Nat.zero_le _⟩ (fun r9 ho => ?_)
    refine lv_if_eq (tgt := 33) hx hb dX8_right_12 (by decide) (fun c_12 => ?_) (fun c_12 => ?_)
    · replace ho := ho.1 c_12
      exact C_33 mo_function mo_atX mo_atM moR_r H locs ls ho hP hD hS (lv_sub hl [0] rfl)
    · replace ho := ho.2 c_12
      refine lv_iload_n hx hb dX8_right_15 rfl (lv_at hl 3 rfl) ?_
      refine lv_iconst (v := 5) hx hb dX8_right_16 (by decide) ?_
      refine ca_Si (As := [.int p3, .int (5 : Int32)]) (rest := []) ⟨hx, hb, hml, hown, hts⟩ (c_X8_isIn l D cI cJ cZ   p3 (5 : Int32) _ ho) (va_cwS 2 hts gX8_right_X8_isIn rfl rfl rfl (by decide +kernel) ⟨hRf _ (Nat.le_of_ble_eq_true rfl), hRl _ (Nat.le_of_ble_eq_true rfl)⟩) hK hN hP [] rfl rfl hl.1 rfl (Nat.le_of_ble_eq_true rfl) dX8_right_17 ⟨Nat.zero_le _, Nat.zero_le _⟩ (fun r17 ho => ?_)
      refine lv_if_eq (tgt := 33) hx hb dX8_right_20 (by decide) (fun c_20 => ?_) (fun c_20 => ?_)
      · replace ho := ho.1 c_20
        exact C_33 mo_function mo_atX mo_atM moR_r H locs ls ho hP hD hS (lv_sub hl [0] rfl)
      · replace ho := ho.2 c_20
        refine lv_aload_n hx hb dX8_right_23 rfl (lv_at hl 0 rfl) ?_
        refine lv_iload_n hx hb dX8_right_24 rfl (lv_at hl 1 rfl) ?_
        refine lv_iload_n hx hb dX8_right_25 rfl (lv_at hl 2 rfl) ?_
        refine lv_iload_n hx hb dX8_right_26 rfl (lv_at hl 3 rfl) ?_
        refine ca_Wi (b := a_mo) (As := [.int p1, .int p2, .int p3]) (rest := []) (wr := [(a_moR, .inl (cI, 7, .inl moR_r))]) (wo := fun u => [(a_mo, oX8 a_moR mo_e mo_f mo_codes mo_most mo_minus mo_low u.1 u.2.1 u.2.2 a_moK a_moH a_moS mo_spanFunction mo_spanRounding mo_spanMany a_moF a_moT mo_parts mo_shift a_moP a_moQ a_moA a_moB a_moD)]) (wn := fun u => [(a_mo, oX8 a_moR mo_e mo_f mo_codes mo_most mo_minus mo_low u.1 u.2.1 u.2.2 a_moK a_moH a_moS mo_spanFunction mo_spanRounding mo_spanMany a_moF a_moT mo_parts mo_shift a_moP a_moQ a_moA a_moB a_moD), (a_moR, .inl (cI, 7, .inl moR_r))]) ⟨hx, hb, hml, hown, hts⟩ (c_X8_rightOf l D cI cJ cZ a_mo a_moR a_moK a_moH a_moS a_moF a_moT a_moP a_moQ a_moA a_moB a_moD H.size mo_e mo_f mo_codes mo_most mo_minus mo_low mo_function mo_atX mo_atM mo_spanFunction mo_spanRounding mo_spanMany mo_parts mo_shift p1 p2 p3 _ _ rfl ho) (cwV 3 hts gX8_right_X8_rightOf rfl rfl rfl (by decide +kernel) ⟨hRf _ (Nat.le_of_ble_eq_true rfl), hRl _ (Nat.le_of_ble_eq_true rfl)⟩) hK hN hP hD hS hA [0] [1] [1, 0] rfl rfl (by decide) (by decide) (by decide) (by decide) (fun _ => rfl) 0 7 rfl rfl rfl rfl hl.1 rfl (Nat.le_of_ble_eq_true rfl) dX8_right_27 ⟨Nat.zero_le _, Nat.zero_le _⟩ (fun r27 u27 H locs ho hP hD hS => ?_)
        obtain ⟨u27_1, u27_2, u27_3⟩ := u27
        try dsimp only at ho
        replace hP : va_P D vwCl [(a_mo, oX8 a_moR mo_e mo_f mo_codes mo_most mo_minus mo_low u27_1 u27_2 u27_3 a_moK a_moH a_moS mo_spanFunction mo_spanRounding mo_spanMany a_moF a_moT mo_parts mo_shift a_moP a_moQ a_moA a_moB a_moD), (a_moR, .inl (cI, 7, .inl moR_r))] H := hP
        replace hD : va_D A [(a_mo, oX8 a_moR mo_e mo_f mo_codes mo_most mo_minus mo_low u27_1 u27_2 u27_3 a_moK a_moH a_moS mo_spanFunction mo_spanRounding mo_spanMany a_moF a_moT mo_parts mo_shift a_moP a_moQ a_moA a_moB a_moD), (a_moR, .inl (cI, 7, .inl moR_r))] := hD
        refine lv_goto (tgt := 38) hx hb dX8_right_30 (by decide) ?_
        subst hQ; exact W.iret (v := r27) hx hb hr (fun t ht hW => ⟨⟨r27, (u27_1, u27_2, u27_3, moR_r), rfl, ho, by rw [ht]; exact hP, hD⟩, hS.F ht⟩) (fun q hq => hS.2.2 q hq) dX8_right_38

def wp_X8_sortOf (post : Int32 → Int32 → Int32 → Int64 → Prop) (mo_f : Int32) (mo_most : Int32) (mo_minus : Int32) (mo_low : Int32) (mo_function : Int32) (mo_atX : Int32) (mo_atM : Int64) (p1 : Int32) (p2 : Int32) : Prop := wp_X8_plainly (fun r3 => (((r3 < 0) → (wp_X8_sets (fun u31_1 u31_2 u31_3 => (wp_X8_floor (fun r35 => (wp_X8_isFloat (fun r41 => (((r41 = 0) → (wp_X8_middle (fun r53 => (((¬ r53 = 0) → (post (3 : Int32) u31_1 u31_2 u31_3)) ∧ ((¬ (¬ r53 = 0)) → (post (2 : Int32) u31_1 u31_2 u31_3)))) mo_f mo_low u31_1 u31_2 u31_3 r35)) ∧ ((¬ (r41 = 0)) → (post (1 : Int32) u31_1 u31_2 u31_3)))) mo_f mo_low u31_1 u31_2 u31_3 r35)) mo_f mo_most mo_low u31_1 u31_2 u31_3)) mo_f mo_minus mo_low p1 p2)) ∧ ((¬ (r3 < 0)) → (wp_X8_kind (fun r11 => (((¬ r11 = (1 : Int32)) → (post (0 : Int32) mo_function mo_atX mo_atM)) ∧ ((¬ (¬ r11 = (1 : Int32))) → (((p1 = 0) → (post (0 : Int32) mo_function mo_atX mo_atM)) ∧ ((¬ (p1 = 0)) → (post (1 : Int32) mo_function mo_atX mo_atM)))))) mo_most mo_minus p2)))) mo_most mo_minus p1 p2
set_option maxHeartbeats 4000000 in
set_option maxRecDepth 100000 in
theorem c_X8_sortOf (l : Launch) (D : va_G) (cI cJ cZ : ClassId) (a_mo : Nat) (a_moR : Nat) (a_moK : Nat) (a_moH : Nat) (a_moS : Nat) (a_moF : Nat) (a_moT : Nat) (a_moP : Nat) (a_moQ : Nat) (a_moA : Nat) (a_moB : Nat) (a_moD : Nat) (sz : Nat) (mo_e : Int32) (mo_f : Int32) (mo_codes : Int32) (mo_most : Int32) (mo_minus : Int32) (mo_low : Int32) (mo_function : Int32) (mo_atX : Int32) (mo_atM : Int64) (mo_spanFunction : Int32) (mo_spanRounding : Int32) (mo_spanMany : Int32) (mo_parts : Int32) (mo_shift : Int32) (p1 : Int32) (p2 : Int32) (post : Int32 → Int32 → Int32 → Int64 → Prop) (A : Nat → Prop) (hAe : A = va_A [(a_mo, oX8 a_moR mo_e mo_f mo_codes mo_most mo_minus mo_low mo_function mo_atX mo_atM a_moK a_moH a_moS mo_spanFunction mo_spanRounding mo_spanMany a_moF a_moT mo_parts mo_shift a_moP a_moQ a_moA a_moB a_moD)] sz) (ho : wp_X8_sortOf post mo_f mo_most mo_minus mo_low mo_function mo_atX mo_atM p1 p2) : Met l yX8_sortOf wsX8_sortOf ({ frames := 4, cells := 0, slots := 0, locals := 101 } : Room) (rw_P D [(cI, .int), (cJ, .long), (cZ, .boolean)] [.ref a_mo, .int p1, .int p2] sz [(a_mo, oX8 a_moR mo_e mo_f mo_codes mo_most mo_minus mo_low mo_function mo_atX mo_atM a_moK a_moH a_moS mo_spanFunction mo_spanRounding mo_spanMany a_moF a_moT mo_parts mo_shift a_moP a_moQ a_moA a_moB a_moD)]) (va_Qi (fun (r : Int32) (u : (Int32) × (Int32) × (Int64)) => post r u.1 u.2.1 u.2.2) (rw_B D A (fun (u : (Int32) × (Int32) × (Int64)) => [(a_mo, oX8 a_moR mo_e mo_f mo_codes mo_most mo_minus mo_low u.1 u.2.1 u.2.2 a_moK a_moH a_moS mo_spanFunction mo_spanRounding mo_spanMany a_moF a_moT mo_parts mo_shift a_moP a_moQ a_moA a_moB a_moD)])) A) 0 0 A := by
  refine Met.ofW (cc := cX8_sortOf) (maxL := 4) (ret := (some .int)) (by decide) rfl ?_
  intro p e s m args below meth c s₁ B hml hv
  obtain ⟨hargs, hsz, hP, hK, hN, hD0⟩ := hv
  have hx := B.exec
  have hb := B.bytes
  have hr := B.returns
  have hts := atoms_spec (ws := wsX8_sortOf) B.pre
  have hown : s.vm.findClass RX8 = some m.cls := findClass_of_methodNamed B.named
  have hlocks := B.notSynchronized
  subst hsz
  have hD : va_D A [(a_mo, oX8 a_moR mo_e mo_f mo_codes mo_most mo_minus mo_low mo_function mo_atX mo_atM a_moK a_moH a_moS mo_spanFunction mo_spanRounding mo_spanMany a_moF a_moT mo_parts mo_shift a_moP a_moQ a_moA a_moB a_moD)] := by rw [hAe]; exact hD0.self
  have hA : ∀ q : Nat, s.heap.size ≤ q → A q := fun q h => by rw [hAe]; exact Or.inr h
  have hS : va_S A s.heap s.heap [] := va_S.rf
  have hl := lv_entry ([.ref a_mo, .int p1, .int p2]) (n := 4) (Nat.le_of_ble_eq_true rfl)
  rw [hargs, lg_entry_eq, ← hargs]
  generalize (lg_sl ([.ref a_mo, .int p1, .int p2]) ++ List.replicate (4 - (lg_sl ([.ref a_mo, .int p1, .int p2])).length) Slot.unset).toArray = ls at hl ⊢
  replace hl : lv_has ls 4 [(0, .ref a_mo), (1, .int p1), (2, .int p2)] := hl
  have hRf : ∀ n, n ≤ 4 → n ≤ (headSpec wsX8_sortOf ({ frames := 4, cells := 0, slots := 0, locals := 101 } : Room)).room.frames := fun n h => h
  have hRl : ∀ n, n ≤ 101 → n ≤ (headSpec wsX8_sortOf ({ frames := 4, cells := 0, slots := 0, locals := 101 } : Room)).room.locals := fun n h => h
  generalize (headSpec wsX8_sortOf ({ frames := 4, cells := 0, slots := 0, locals := 101 } : Room)).room = R at hRf hRl ⊢
  generalize hQ : MQ below _ args s 0 0 _ = Q
  unfold wp_X8_sortOf at ho
  refine lv_aload_n hx hb dX8_sortOf_0 rfl (lv_at hl 0 rfl) ?_
  refine lv_iload_n hx hb dX8_sortOf_1 rfl (lv_at hl 1 rfl) ?_
  refine lv_iload_n hx hb dX8_sortOf_2 rfl (lv_at hl 2 rfl) ?_
  refine ca_Vi (b := a_mo) (As := [.int p1, .int p2]) (rest := []) ⟨hx, hb, hml, hown, hts⟩ (c_X8_plainly l D cI cJ cZ a_mo a_moR a_moK a_moH a_moS a_moF a_moT a_moP a_moQ a_moA a_moB a_moD mo_e mo_f mo_codes mo_most mo_minus mo_low mo_function mo_atX mo_atM mo_spanFunction mo_spanRounding mo_spanMany mo_parts mo_shift p1 p2 _ ho) (cwV 2 hts gX8_sortOf_X8_plainly rfl rfl rfl (by decide +kernel) ⟨hRf _ (Nat.le_of_ble_eq_true rfl), hRl _ (Nat.le_of_ble_eq_true rfl)⟩) hK hN hP [0] rfl 0 7 rfl rfl rfl rfl hl.1 rfl (Nat.le_of_ble_eq_true rfl) dX8_sortOf_3 ⟨Nat.zero_le _, Nat.zero_le _⟩ (fun r3 ho => ?_)
  refine lv_if_lt (tgt := 28) hx hb dX8_sortOf_6 (by decide) (fun c_6 => ?_) (fun c_6 => ?_)
  · replace ho := ho.1 c_6
    refine lv_aload_n hx hb dX8_sortOf_28 rfl (lv_at hl 0 rfl) ?_
    refine lv_iload_n hx hb dX8_sortOf_29 rfl (lv_at hl 1 rfl) ?_
    refine lv_iload_n hx hb dX8_sortOf_30 rfl (lv_at hl 2 rfl) ?_
    refine ca_Wv (b := a_mo) (As := [.int p1, .int p2]) (rest := []) (wr := []) (wo := fun u => [(a_mo, oX8 a_moR mo_e mo_f mo_codes mo_most mo_minus mo_low u.1 u.2.1 u.2.2 a_moK a_moH a_moS mo_spanFunction mo_spanRounding mo_spanMany a_moF a_moT mo_parts mo_shift a_moP a_moQ a_moA a_moB a_moD)]) (wn := fun u => [(a_mo, oX8 a_moR mo_e mo_f mo_codes mo_most mo_minus mo_low u.1 u.2.1 u.2.2 a_moK a_moH a_moS mo_spanFunction mo_spanRounding mo_spanMany a_moF a_moT mo_parts mo_shift a_moP a_moQ a_moA a_moB a_moD)]) ⟨hx, hb, hml, hown, hts⟩ (c_X8_sets l D cI cJ cZ a_mo a_moR a_moK a_moH a_moS a_moF a_moT a_moP a_moQ a_moA a_moB a_moD H.size mo_e mo_f mo_codes mo_most mo_minus mo_low mo_function mo_atX mo_atM mo_spanFunction mo_spanRounding mo_spanMany mo_parts mo_shift p1 p2 _ _ rfl ho) (cwV 2 hts gX8_sortOf_X8_sets rfl rfl rfl (by decide +kernel) ⟨hRf _ (Nat.le_of_ble_eq_true rfl), hRl _ (Nat.le_of_ble_eq_true rfl)⟩) hK hN hP hD hS hA [0] [] [0] rfl rfl (by decide) (by decide) (by decide) (by decide) (fun _ => rfl) 0 7 rfl rfl rfl rfl hl.1 rfl (Nat.le_of_ble_eq_true rfl) dX8_sortOf_31 ⟨Nat.zero_le _, Nat.zero_le _⟩ (fun  u31 H locs ho hP hD hS => ?_)
    obtain ⟨u31_1, u31_2, u31_3⟩ := u31
    try dsimp only at ho
    replace hP : va_P D vwCl [(a_mo, oX8 a_moR mo_e mo_f mo_codes mo_most mo_minus mo_low u31_1 u31_2 u31_3 a_moK a_moH a_moS mo_spanFunction mo_spanRounding mo_spanMany a_moF a_moT mo_parts mo_shift a_moP a_moQ a_moA a_moB a_moD)] H := hP
    replace hD : va_D A [(a_mo, oX8 a_moR mo_e mo_f mo_codes mo_most mo_minus mo_low u31_1 u31_2 u31_3 a_moK a_moH a_moS mo_spanFunction mo_spanRounding mo_spanMany a_moF a_moT mo_parts mo_shift a_moP a_moQ a_moA a_moB a_moD)] := hD
    refine lv_aload_n hx hb dX8_sortOf_34 rfl (lv_at hl 0 rfl) ?_
    refine ca_Vi (b := a_mo) (As := []) (rest := []) ⟨hx, hb, hml, hown, hts⟩ (c_X8_floor l D cI cJ cZ a_mo a_moR a_moK a_moH a_moS a_moF a_moT a_moP a_moQ a_moA a_moB a_moD mo_e mo_f mo_codes mo_most mo_minus mo_low u31_1 u31_2 u31_3 mo_spanFunction mo_spanRounding mo_spanMany mo_parts mo_shift  _ ho) (cwV 0 hts gX8_sortOf_X8_floor rfl rfl rfl (by decide +kernel) ⟨hRf _ (Nat.le_of_ble_eq_true rfl), hRl _ (Nat.le_of_ble_eq_true rfl)⟩) hK hN hP [0] rfl 0 7 rfl rfl rfl rfl hl.1 rfl (Nat.le_of_ble_eq_true rfl) dX8_sortOf_35 ⟨Nat.zero_le _, Nat.zero_le _⟩ (fun r35 ho => ?_)
    refine lv_istore_n (lv' := [(3, .int r35), (0, .ref a_mo), (1, .int p1), (2, .int p2)]) hx hb dX8_sortOf_38 rfl hl (by decide) rfl (fun ls hl => ?_)
    refine lv_aload_n hx hb dX8_sortOf_39 rfl (lv_at hl 1 rfl) ?_
    refine lv_iload_n hx hb dX8_sortOf_40 rfl (lv_at hl 0 rfl) ?_
    refine ca_Vi (b := a_mo) (As := [.int r35]) (rest := []) ⟨hx, hb, hml, hown, hts⟩ (c_X8_isFloat l D cI cJ cZ a_mo a_moR a_moK a_moH a_moS a_moF a_moT a_moP a_moQ a_moA a_moB a_moD mo_e mo_f mo_codes mo_most mo_minus mo_low u31_1 u31_2 u31_3 mo_spanFunction mo_spanRounding mo_spanMany mo_parts mo_shift r35 _ ho) (cwV 1 hts gX8_sortOf_X8_isFloat rfl rfl rfl (by decide +kernel) ⟨hRf _ (Nat.le_of_ble_eq_true rfl), hRl _ (Nat.le_of_ble_eq_true rfl)⟩) hK hN hP [0] rfl 0 7 rfl rfl rfl rfl hl.1 rfl (Nat.le_of_ble_eq_true rfl) dX8_sortOf_41 ⟨Nat.zero_le _, Nat.zero_le _⟩ (fun r41 ho => ?_)
    refine lv_if_eq (tgt := 51) hx hb dX8_sortOf_44 (by decide) (fun c_44 => ?_) (fun c_44 => ?_)
    · replace ho := ho.1 c_44
      refine lv_aload_n hx hb dX8_sortOf_51 rfl (lv_at hl 1 rfl) ?_
      refine lv_iload_n hx hb dX8_sortOf_52 rfl (lv_at hl 0 rfl) ?_
      refine ca_Vi (b := a_mo) (As := [.int r35]) (rest := []) ⟨hx, hb, hml, hown, hts⟩ (c_X8_middle l D cI cJ cZ a_mo a_moR a_moK a_moH a_moS a_moF a_moT a_moP a_moQ a_moA a_moB a_moD mo_e mo_f mo_codes mo_most mo_minus mo_low u31_1 u31_2 u31_3 mo_spanFunction mo_spanRounding mo_spanMany mo_parts mo_shift r35 _ ho) (cwV 1 hts gX8_sortOf_X8_middle rfl rfl rfl (by decide +kernel) ⟨hRf _ (Nat.le_of_ble_eq_true rfl), hRl _ (Nat.le_of_ble_eq_true rfl)⟩) hK hN hP [0] rfl 0 7 rfl rfl rfl rfl hl.1 rfl (Nat.le_of_ble_eq_true rfl) dX8_sortOf_53 ⟨Nat.zero_le _, Nat.zero_le _⟩ (fun r53 ho => ?_)
      refine lv_if_ne (tgt := 63) hx hb dX8_sortOf_56 (by decide) (fun c_56 => ?_) (fun c_56 => ?_)
      · replace ho := ho.1 c_56
        refine lv_iconst (v := 3) hx hb dX8_sortOf_63 (by decide) ?_
        subst hQ; exact W.iret (v := (3 : Int32)) hx hb hr (fun t ht hW => ⟨⟨(3 : Int32), (u31_1, u31_2, u31_3), rfl, ho, by rw [ht]; exact hP, hD⟩, hS.F ht⟩) (fun q hq => hS.2.2 q hq) dX8_sortOf_64
      · replace ho := ho.2 c_56
        refine lv_iconst (v := 2) hx hb dX8_sortOf_59 (by decide) ?_
        refine lv_goto (tgt := 64) hx hb dX8_sortOf_60 (by decide) ?_
        subst hQ; exact W.iret (v := (2 : Int32)) hx hb hr (fun t ht hW => ⟨⟨(2 : Int32), (u31_1, u31_2, u31_3), rfl, ho, by rw [ht]; exact hP, hD⟩, hS.F ht⟩) (fun q hq => hS.2.2 q hq) dX8_sortOf_64
    · replace ho := ho.2 c_44
      refine lv_iconst (v := 1) hx hb dX8_sortOf_47 (by decide) ?_
      refine lv_goto (tgt := 64) hx hb dX8_sortOf_48 (by decide) ?_
      subst hQ; exact W.iret (v := (1 : Int32)) hx hb hr (fun t ht hW => ⟨⟨(1 : Int32), (u31_1, u31_2, u31_3), rfl, ho, by rw [ht]; exact hP, hD⟩, hS.F ht⟩) (fun q hq => hS.2.2 q hq) dX8_sortOf_64
  · replace ho := ho.2 c_6
    refine lv_aload_n hx hb dX8_sortOf_9 rfl (lv_at hl 0 rfl) ?_
    refine lv_iload_n hx hb dX8_sortOf_10 rfl (lv_at hl 2 rfl) ?_
    refine ca_Vi (b := a_mo) (As := [.int p2]) (rest := []) ⟨hx, hb, hml, hown, hts⟩ (c_X8_kind l D cI cJ cZ a_mo a_moR a_moK a_moH a_moS a_moF a_moT a_moP a_moQ a_moA a_moB a_moD mo_e mo_f mo_codes mo_most mo_minus mo_low mo_function mo_atX mo_atM mo_spanFunction mo_spanRounding mo_spanMany mo_parts mo_shift p2 _ ho) (cwV 1 hts gX8_sortOf_X8_kind rfl rfl rfl (by decide +kernel) ⟨hRf _ (Nat.le_of_ble_eq_true rfl), hRl _ (Nat.le_of_ble_eq_true rfl)⟩) hK hN hP [0] rfl 0 7 rfl rfl rfl rfl hl.1 rfl (Nat.le_of_ble_eq_true rfl) dX8_sortOf_11 ⟨Nat.zero_le _, Nat.zero_le _⟩ (fun r11 ho => ?_)
    refine lv_iconst (v := 1) hx hb dX8_sortOf_14 (by decide) ?_
    refine lv_icmp_ne (tgt := 26) hx hb dX8_sortOf_15 (by decide) (fun c_15 => ?_) (fun c_15 => ?_)
    · replace ho := ho.1 c_15
      refine lv_iconst (v := 0) hx hb dX8_sortOf_26 (by decide) ?_
      subst hQ; exact W.iret (v := (0 : Int32)) hx hb hr (fun t ht hW => ⟨⟨(0 : Int32), (mo_function, mo_atX, mo_atM), rfl, ho, by rw [ht]; exact hP, hD⟩, hS.F ht⟩) (fun q hq => hS.2.2 q hq) dX8_sortOf_27
    · replace ho := ho.2 c_15
      refine lv_iload_n hx hb dX8_sortOf_18 rfl (lv_at hl 1 rfl) ?_
      refine lv_if_eq (tgt := 26) hx hb dX8_sortOf_19 (by decide) (fun c_19 => ?_) (fun c_19 => ?_)
      · replace ho := ho.1 c_19
        refine lv_iconst (v := 0) hx hb dX8_sortOf_26 (by decide) ?_
        subst hQ; exact W.iret (v := (0 : Int32)) hx hb hr (fun t ht hW => ⟨⟨(0 : Int32), (mo_function, mo_atX, mo_atM), rfl, ho, by rw [ht]; exact hP, hD⟩, hS.F ht⟩) (fun q hq => hS.2.2 q hq) dX8_sortOf_27
      · replace ho := ho.2 c_19
        refine lv_iconst (v := 1) hx hb dX8_sortOf_22 (by decide) ?_
        refine lv_goto (tgt := 27) hx hb dX8_sortOf_23 (by decide) ?_
        subst hQ; exact W.iret (v := (1 : Int32)) hx hb hr (fun t ht hW => ⟨⟨(1 : Int32), (mo_function, mo_atX, mo_atM), rfl, ho, by rw [ht]; exact hP, hD⟩, hS.F ht⟩) (fun q hq => hS.2.2 q hq) dX8_sortOf_27

def wp_X8_sort_24 (post : Int32 → Int32 → Int32 → Int64 → (Nat → Int32) → Prop)  (mo_function : Int32) (mo_atX : Int32) (mo_atM : Int64) (moR_r : Nat → Int32) : Prop := wp_X8_refuse (fun r26 u26 => (post r26 mo_function mo_atX mo_atM u26)) moR_r (-1 : Int32)
def wp_X8_sort (post : Int32 → Int32 → Int32 → Int64 → (Nat → Int32) → Prop) (mo_f : Int32) (mo_codes : Int32) (mo_most : Int32) (mo_minus : Int32) (mo_low : Int32) (mo_function : Int32) (mo_atX : Int32) (mo_atM : Int64) (moR_r : Nat → Int32) (p1 : Int32) (p2 : Int32) : Prop := wp_X8_isFunction (fun r1 => (((r1 = 0) → (wp_X8_sort_24 post mo_function mo_atX mo_atM moR_r)) ∧ ((¬ (r1 = 0)) → (wp_X8_isCode (fun r9 => (((r9 = 0) → (wp_X8_sort_24 post mo_function mo_atX mo_atM moR_r)) ∧ ((¬ (r9 = 0)) → (wp_X8_sortOf (fun r18 u18_1 u18_2 u18_3 => (post r18 u18_1 u18_2 u18_3 moR_r)) mo_f mo_most mo_minus mo_low mo_function mo_atX mo_atM p1 p2)))) mo_codes p2)))) p1
set_option maxHeartbeats 4000000 in
set_option maxRecDepth 100000 in
theorem c_X8_sort (l : Launch) (D : va_G) (cI cJ cZ : ClassId) (a_mo : Nat) (a_moR : Nat) (a_moK : Nat) (a_moH : Nat) (a_moS : Nat) (a_moF : Nat) (a_moT : Nat) (a_moP : Nat) (a_moQ : Nat) (a_moA : Nat) (a_moB : Nat) (a_moD : Nat) (sz : Nat) (mo_e : Int32) (mo_f : Int32) (mo_codes : Int32) (mo_most : Int32) (mo_minus : Int32) (mo_low : Int32) (mo_function : Int32) (mo_atX : Int32) (mo_atM : Int64) (mo_spanFunction : Int32) (mo_spanRounding : Int32) (mo_spanMany : Int32) (mo_parts : Int32) (mo_shift : Int32) (moR_r : Nat → Int32) (p1 : Int32) (p2 : Int32) (post : Int32 → Int32 → Int32 → Int64 → (Nat → Int32) → Prop) (A : Nat → Prop) (hAe : A = va_A [(a_mo, oX8 a_moR mo_e mo_f mo_codes mo_most mo_minus mo_low mo_function mo_atX mo_atM a_moK a_moH a_moS mo_spanFunction mo_spanRounding mo_spanMany a_moF a_moT mo_parts mo_shift a_moP a_moQ a_moA a_moB a_moD), (a_moR, .inl (cI, 7, .inl moR_r))] sz) (ho : wp_X8_sort post mo_f mo_codes mo_most mo_minus mo_low mo_function mo_atX mo_atM moR_r p1 p2) : Met l yX8_sort wsX8_sort ({ frames := 5, cells := 0, slots := 0, locals := 124 } : Room) (rw_P D [(cI, .int), (cJ, .long), (cZ, .boolean)] [.ref a_mo, .int p1, .int p2] sz [(a_mo, oX8 a_moR mo_e mo_f mo_codes mo_most mo_minus mo_low mo_function mo_atX mo_atM a_moK a_moH a_moS mo_spanFunction mo_spanRounding mo_spanMany a_moF a_moT mo_parts mo_shift a_moP a_moQ a_moA a_moB a_moD), (a_moR, .inl (cI, 7, .inl moR_r))]) (va_Qi (fun (r : Int32) (u : (Int32) × (Int32) × (Int64) × (Nat → Int32)) => post r u.1 u.2.1 u.2.2.1 u.2.2.2) (rw_B D A (fun (u : (Int32) × (Int32) × (Int64) × (Nat → Int32)) => [(a_mo, oX8 a_moR mo_e mo_f mo_codes mo_most mo_minus mo_low u.1 u.2.1 u.2.2.1 a_moK a_moH a_moS mo_spanFunction mo_spanRounding mo_spanMany a_moF a_moT mo_parts mo_shift a_moP a_moQ a_moA a_moB a_moD), (a_moR, .inl (cI, 7, .inl u.2.2.2))])) A) 0 0 A := by
  refine Met.ofW (cc := cX8_sort) (maxL := 3) (ret := (some .int)) (by decide) rfl ?_
  intro p e s m args below meth c s₁ B hml hv
  obtain ⟨hargs, hsz, hP, hK, hN, hD0⟩ := hv
  have hx := B.exec
  have hb := B.bytes
  have hr := B.returns
  have hts := atoms_spec (ws := wsX8_sort) B.pre
  have hown : s.vm.findClass RX8 = some m.cls := findClass_of_methodNamed B.named
  have hlocks := B.notSynchronized
  subst hsz
  have hD : va_D A [(a_mo, oX8 a_moR mo_e mo_f mo_codes mo_most mo_minus mo_low mo_function mo_atX mo_atM a_moK a_moH a_moS mo_spanFunction mo_spanRounding mo_spanMany a_moF a_moT mo_parts mo_shift a_moP a_moQ a_moA a_moB a_moD), (a_moR, .inl (cI, 7, .inl moR_r))] := by rw [hAe]; exact hD0.self
  have hA : ∀ q : Nat, s.heap.size ≤ q → A q := fun q h => by rw [hAe]; exact Or.inr h
  have hS : va_S A s.heap s.heap [] := va_S.rf
  have hl := lv_entry ([.ref a_mo, .int p1, .int p2]) (n := 3) (Nat.le_of_ble_eq_true rfl)
  rw [hargs, lg_entry_eq, ← hargs]
  generalize (lg_sl ([.ref a_mo, .int p1, .int p2]) ++ List.replicate (3 - (lg_sl ([.ref a_mo, .int p1, .int p2])).length) Slot.unset).toArray = ls at hl ⊢
  replace hl : lv_has ls 3 [(0, .ref a_mo), (1, .int p1), (2, .int p2)] := hl
  have hRf : ∀ n, n ≤ 5 → n ≤ (headSpec wsX8_sort ({ frames := 5, cells := 0, slots := 0, locals := 124 } : Room)).room.frames := fun n h => h
  have hRl : ∀ n, n ≤ 124 → n ≤ (headSpec wsX8_sort ({ frames := 5, cells := 0, slots := 0, locals := 124 } : Room)).room.locals := fun n h => h
  generalize (headSpec wsX8_sort ({ frames := 5, cells := 0, slots := 0, locals := 124 } : Room)).room = R at hRf hRl ⊢
  generalize hQ : MQ below _ args s 0 0 _ = Q
  have C_24 : ∀ (mo_function : Int32) (mo_atX : Int32) (mo_atM : Int64) (moR_r : Nat → Int32) (H : Heap) (locs : List Loc) (ls : Array Slot), wp_X8_sort_24 post  mo_function mo_atX mo_atM moR_r → va_P D vwCl [(a_mo, oX8 a_moR mo_e mo_f mo_codes mo_most mo_minus mo_low mo_function mo_atX mo_atM a_moK a_moH a_moS mo_spanFunction mo_spanRounding mo_spanMany a_moF a_moT mo_parts mo_shift a_moP a_moQ a_moA a_moB a_moD), (a_moR, .inl (cI, 7, .inl moR_r))] H → va_D A [(a_mo, oX8 a_moR mo_e mo_f mo_codes mo_most mo_minus mo_low mo_function mo_atX mo_atM a_moK a_moH a_moS mo_spanFunction mo_spanRounding mo_spanMany a_moF a_moT mo_parts mo_shift a_moP a_moQ a_moA a_moB a_moD), (a_moR, .inl (cI, 7, .inl moR_r))] → va_S A s.heap H locs → lv_has ls 3 [(0, .ref a_mo)] → W p l e R s m args below meth c H locs 0 0 Q (F0 m 24 ls []) := by
    intro mo_function mo_atX mo_atM moR_r H locs ls ho hP hD hS hl
    unfold wp_X8_sort_24 at ho
    refine lv_aload_n hx hb dX8_sort_24 rfl (lv_at hl 0 rfl) ?_
    refine lv_iconst (v := (-1)) hx hb dX8_sort_25 (by decide) ?_
    refine ca_Wi (b := a_mo) (As := [.int (-1 : Int32)]) (rest := []) (wr := []) (wo := fun u => [(a_mo, oX8 a_moR mo_e mo_f mo_codes mo_most mo_minus mo_low mo_function mo_atX mo_atM a_moK a_moH a_moS mo_spanFunction mo_spanRounding mo_spanMany a_moF a_moT mo_parts mo_shift a_moP a_moQ a_moA a_moB a_moD), (a_moR, .inl (cI, 7, .inl u))]) (wn := fun u => [(a_mo, oX8 a_moR mo_e mo_f mo_codes mo_most mo_minus mo_low mo_function mo_atX mo_atM a_moK a_moH a_moS mo_spanFunction mo_spanRounding mo_spanMany a_moF a_moT mo_parts mo_shift a_moP a_moQ a_moA a_moB a_moD), (a_moR, .inl (cI, 7, .inl u))]) ⟨hx, hb, hml, hown, hts⟩ (c_X8_refuse l D cI cJ cZ a_mo a_moR a_moK a_moH a_moS a_moF a_moT a_moP a_moQ a_moA a_moB a_moD H.size mo_e mo_f mo_codes mo_most mo_minus mo_low mo_function mo_atX mo_atM mo_spanFunction mo_spanRounding mo_spanMany mo_parts mo_shift moR_r (-1 : Int32) _ _ rfl ho) (cwV 1 hts gX8_sort_X8_refuse rfl rfl rfl (by decide +kernel) ⟨hRf _ (Nat.le_of_ble_eq_true rfl), hRl _ (Nat.le_of_ble_eq_true rfl)⟩) hK hN hP hD hS hA [0, 1] [] [0, 1] rfl rfl (by decide) (by decide) (by decide) (by decide) (fun _ => rfl) 0 7 rfl rfl rfl rfl hl.1 rfl (Nat.le_of_ble_eq_true rfl) dX8_sort_26 ⟨Nat.zero_le _, Nat.zero_le _⟩ (fun r26 u26 H locs ho hP hD hS => ?_)
    try dsimp only at ho
    replace hP : va_P D vwCl [(a_mo, oX8 a_moR mo_e mo_f mo_codes mo_most mo_minus mo_low mo_function mo_atX mo_atM a_moK a_moH a_moS mo_spanFunction mo_spanRounding mo_spanMany a_moF a_moT mo_parts mo_shift a_moP a_moQ a_moA a_moB a_moD), (a_moR, .inl (cI, 7, .inl u26))] H := hP
    replace hD : va_D A [(a_mo, oX8 a_moR mo_e mo_f mo_codes mo_most mo_minus mo_low mo_function mo_atX mo_atM a_moK a_moH a_moS mo_spanFunction mo_spanRounding mo_spanMany a_moF a_moT mo_parts mo_shift a_moP a_moQ a_moA a_moB a_moD), (a_moR, .inl (cI, 7, .inl u26))] := hD
    subst hQ; exact W.iret (v := r26) hx hb hr (fun t ht hW => ⟨⟨r26, (mo_function, mo_atX, mo_atM, u26), rfl, ho, by rw [ht]; exact hP, hD⟩, hS.F ht⟩) (fun q hq => hS.2.2 q hq) dX8_sort_29
  unfold wp_X8_sort at ho
  refine lv_iload_n hx hb dX8_sort_0 rfl (lv_at hl 1 rfl) ?_
  refine ca_Si (As := [.int p1]) (rest := []) ⟨hx, hb, hml, hown, hts⟩ (c_X8_isFunction l D cI cJ cZ   p1 _ ho) (va_cwS 1 hts gX8_sort_X8_isFunction rfl rfl rfl (by decide +kernel) ⟨hRf _ (Nat.le_of_ble_eq_true rfl), hRl _ (Nat.le_of_ble_eq_true rfl)⟩) hK hN hP [] rfl rfl hl.1 rfl (Nat.le_of_ble_eq_true rfl) dX8_sort_1 ⟨Nat.zero_le _, Nat.zero_le _⟩ (fun r1 ho => ?_)
  refine lv_if_eq (tgt := 24) hx hb dX8_sort_4 (by decide) (fun c_4 => ?_) (fun c_4 => ?_)
  · replace ho := ho.1 c_4
    exact C_24 mo_function mo_atX mo_atM moR_r H locs ls ho hP hD hS (lv_sub hl [0] rfl)
  · replace ho := ho.2 c_4
    refine lv_aload_n hx hb dX8_sort_7 rfl (lv_at hl 0 rfl) ?_
    refine lv_iload_n hx hb dX8_sort_8 rfl (lv_at hl 2 rfl) ?_
    refine ca_Vi (b := a_mo) (As := [.int p2]) (rest := []) ⟨hx, hb, hml, hown, hts⟩ (c_X8_isCode l D cI cJ cZ a_mo a_moR a_moK a_moH a_moS a_moF a_moT a_moP a_moQ a_moA a_moB a_moD mo_e mo_f mo_codes mo_most mo_minus mo_low mo_function mo_atX mo_atM mo_spanFunction mo_spanRounding mo_spanMany mo_parts mo_shift p2 _ ho) (cwV 1 hts gX8_sort_X8_isCode rfl rfl rfl (by decide +kernel) ⟨hRf _ (Nat.le_of_ble_eq_true rfl), hRl _ (Nat.le_of_ble_eq_true rfl)⟩) hK hN hP [0] rfl 0 7 rfl rfl rfl rfl hl.1 rfl (Nat.le_of_ble_eq_true rfl) dX8_sort_9 ⟨Nat.zero_le _, Nat.zero_le _⟩ (fun r9 ho => ?_)
    refine lv_if_eq (tgt := 24) hx hb dX8_sort_12 (by decide) (fun c_12 => ?_) (fun c_12 => ?_)
    · replace ho := ho.1 c_12
      exact C_24 mo_function mo_atX mo_atM moR_r H locs ls ho hP hD hS (lv_sub hl [0] rfl)
    · replace ho := ho.2 c_12
      refine lv_aload_n hx hb dX8_sort_15 rfl (lv_at hl 0 rfl) ?_
      refine lv_iload_n hx hb dX8_sort_16 rfl (lv_at hl 1 rfl) ?_
      refine lv_iload_n hx hb dX8_sort_17 rfl (lv_at hl 2 rfl) ?_
      refine ca_Wi (b := a_mo) (As := [.int p1, .int p2]) (rest := []) (wr := [(a_moR, .inl (cI, 7, .inl moR_r))]) (wo := fun u => [(a_mo, oX8 a_moR mo_e mo_f mo_codes mo_most mo_minus mo_low u.1 u.2.1 u.2.2 a_moK a_moH a_moS mo_spanFunction mo_spanRounding mo_spanMany a_moF a_moT mo_parts mo_shift a_moP a_moQ a_moA a_moB a_moD)]) (wn := fun u => [(a_mo, oX8 a_moR mo_e mo_f mo_codes mo_most mo_minus mo_low u.1 u.2.1 u.2.2 a_moK a_moH a_moS mo_spanFunction mo_spanRounding mo_spanMany a_moF a_moT mo_parts mo_shift a_moP a_moQ a_moA a_moB a_moD), (a_moR, .inl (cI, 7, .inl moR_r))]) ⟨hx, hb, hml, hown, hts⟩ (c_X8_sortOf l D cI cJ cZ a_mo a_moR a_moK a_moH a_moS a_moF a_moT a_moP a_moQ a_moA a_moB a_moD H.size mo_e mo_f mo_codes mo_most mo_minus mo_low mo_function mo_atX mo_atM mo_spanFunction mo_spanRounding mo_spanMany mo_parts mo_shift p1 p2 _ _ rfl ho) (cwV 2 hts gX8_sort_X8_sortOf rfl rfl rfl (by decide +kernel) ⟨hRf _ (Nat.le_of_ble_eq_true rfl), hRl _ (Nat.le_of_ble_eq_true rfl)⟩) hK hN hP hD hS hA [0] [1] [1, 0] rfl rfl (by decide) (by decide) (by decide) (by decide) (fun _ => rfl) 0 7 rfl rfl rfl rfl hl.1 rfl (Nat.le_of_ble_eq_true rfl) dX8_sort_18 ⟨Nat.zero_le _, Nat.zero_le _⟩ (fun r18 u18 H locs ho hP hD hS => ?_)
      obtain ⟨u18_1, u18_2, u18_3⟩ := u18
      try dsimp only at ho
      replace hP : va_P D vwCl [(a_mo, oX8 a_moR mo_e mo_f mo_codes mo_most mo_minus mo_low u18_1 u18_2 u18_3 a_moK a_moH a_moS mo_spanFunction mo_spanRounding mo_spanMany a_moF a_moT mo_parts mo_shift a_moP a_moQ a_moA a_moB a_moD), (a_moR, .inl (cI, 7, .inl moR_r))] H := hP
      replace hD : va_D A [(a_mo, oX8 a_moR mo_e mo_f mo_codes mo_most mo_minus mo_low u18_1 u18_2 u18_3 a_moK a_moH a_moS mo_spanFunction mo_spanRounding mo_spanMany a_moF a_moT mo_parts mo_shift a_moP a_moQ a_moA a_moB a_moD), (a_moR, .inl (cI, 7, .inl moR_r))] := hD
      refine lv_goto (tgt := 29) hx hb dX8_sort_21 (by decide) ?_
      subst hQ; exact W.iret (v := r18) hx hb hr (fun t ht hW => ⟨⟨r18, (u18_1, u18_2, u18_3, moR_r), rfl, ho, by rw [ht]; exact hP, hD⟩, hS.F ht⟩) (fun q hq => hS.2.2 q hq) dX8_sort_29

def wp_X8_figuresOf_126 (post : Int32 → Int32 → Int32 → Int64 → Prop) (K_56 : Int32 → Int32 → Int64 → Int32 → Int64 → Int32 → Int32 → Prop) (mo_function : Int32) (mo_atX : Int32) (mo_atM : Int64) (x3 : Int32) (x4 : Int64) (x7 : Int32) (y0 : Int32) (y1 : Int32) : Prop := K_56 mo_function mo_atX mo_atM x3 x4 (y1 + y0) (x7 + (1 : Int32))
def wp_X8_figuresOf_109 (post : Int32 → Int32 → Int32 → Int64 → Prop) (K_56 : Int32 → Int32 → Int64 → Int32 → Int64 → Int32 → Int32 → Prop) (mo_function : Int32) (mo_atX : Int32) (mo_atM : Int64) (x3 : Int32) (x6 : Int32) (x7 : Int32) (x8 : Int32) (y0 : Int64) (y1 : Int64) : Prop := ((x8 = 0) → (wp_X8_figuresOf_126 post K_56 mo_function mo_atX mo_atM x3 (y1 - y0) x7 (0 : Int32) ((2 : Int32) * x6))) ∧ ((¬ (x8 = 0)) → (wp_X8_figuresOf_126 post K_56 mo_function mo_atX mo_atM x3 (y1 - y0) x7 (1 : Int32) ((2 : Int32) * x6)))
def wp_X8_figuresOf_95 (post : Int32 → Int32 → Int32 → Int64 → Prop) (K_56 : Int32 → Int32 → Int64 → Int32 → Int64 → Int32 → Int32 → Prop) (mo_function : Int32) (mo_atX : Int32) (mo_atM : Int64) (x3 : Int32) (x4 : Int64) (x6 : Int32) (x7 : Int32) (y0 : Int32) : Prop := ((y0 = 0) → (wp_X8_figuresOf_109 post K_56 mo_function mo_atX mo_atM x3 x6 x7 y0 (1 : Int64) x4)) ∧ ((¬ (y0 = 0)) → (wp_X8_figuresOf_109 post K_56 mo_function mo_atX mo_atM x3 x6 x7 y0 (0 : Int64) x4))
def wp_X8_figuresOf_56_b (post : Int32 → Int32 → Int32 → Int64 → Prop)  (mo_f : Int32) (mo_low : Int32) (K_56 : Int32 → Int32 → Int64 → Int32 → Int64 → Int32 → Int32 → Prop) (mo_function : Int32) (mo_atX : Int32) (mo_atM : Int64) (x3 : Int32) (x4 : Int64) (x6 : Int32) (x7 : Int32) : Prop := (((10 : Int32) < x7) → (post x6 mo_function mo_atX mo_atM)) ∧ ((¬ ((10 : Int32) < x7)) → (wp_X8_power (fun r78 => (wp_X8_stands (fun r84 => (((r84 < 0) → (wp_X8_figuresOf_95 post K_56 mo_function mo_atX mo_atM x3 (((2 : Int64) * x4) + (1 : Int64)) x6 x7 (0 : Int32))) ∧ ((¬ (r84 < 0)) → (wp_X8_figuresOf_95 post K_56 mo_function mo_atX mo_atM x3 (((2 : Int64) * x4) + (1 : Int64)) x6 x7 (1 : Int32))))) mo_function mo_atX mo_atM (((2 : Int64) * x4) + (1 : Int64)) (r78 - x7))) mo_f mo_low x3))
noncomputable def wp_X8_figuresOf_56 (post : Int32 → Int32 → Int32 → Int64 → Prop)  (mo_f : Int32) (mo_low : Int32) (n : Nat) : Int32 → Int32 → Int64 → Int32 → Int64 → Int32 → Int32 → Prop := Nat.rec (motive := fun _ => Int32 → Int32 → Int64 → Int32 → Int64 → Int32 → Int32 → Prop) (fun _ _ _ _ _ _ _ => False) (fun _ K_56 => wp_X8_figuresOf_56_b post mo_f mo_low K_56) n
def wp_X8_figuresOf (post : Int32 → Int32 → Int32 → Int64 → Prop) (mo_f : Int32) (mo_most : Int32) (mo_minus : Int32) (mo_low : Int32) (mo_function : Int32) (mo_atX : Int32) (mo_atM : Int64) (p1 : Int32) (p2 : Int32) : Prop := wp_X8_plainly (fun r3 => (((r3 < 0) → (wp_X8_sets (fun u15_1 u15_2 u15_3 => (wp_X8_floor (fun r19 => (((r19 = mo_most) → (post (-9 : Int32) u15_1 u15_2 u15_3)) ∧ ((¬ (r19 = mo_most)) → (wp_X8_isFloat (fun r33 => (((r33 = 0) → (wp_X8_figure (fun r44 => (∃ n, wp_X8_figuresOf_56 post mo_f mo_low n u15_1 u15_2 u15_3 r19 r44.toInt64 (0 : Int32) (1 : Int32))) mo_f r19)) ∧ ((¬ (r33 = 0)) → (post (-9 : Int32) u15_1 u15_2 u15_3)))) mo_f mo_low u15_1 u15_2 u15_3 r19)))) mo_f mo_most mo_low u15_1 u15_2 u15_3)) mo_f mo_minus mo_low p1 p2)) ∧ ((¬ (r3 < 0)) → (post (-9 : Int32) mo_function mo_atX mo_atM)))) mo_most mo_minus p1 p2
set_option maxRecDepth 20000 in
theorem in_X8_figuresOf_X8 : ∀ w ∈ u_ws RX8 TX8 25, w ∈ wsX8_figuresOf := fun w h => (goodIn_r wsX80 [52, 53, 54, 55, 56, 57, 58, 59, 60, 61, 62, 63, 64, 65, 66, 67, 68, 69, 70, 71, 72, 73, 74, 75, 76] (by decide +kernel) (by decide +kernel) w h).1
set_option maxHeartbeats 4000000 in
set_option maxRecDepth 100000 in
theorem c_X8_figuresOf (l : Launch) (D : va_G) (cI cJ cZ : ClassId) (a_mo : Nat) (a_moR : Nat) (a_moK : Nat) (a_moH : Nat) (a_moS : Nat) (a_moF : Nat) (a_moT : Nat) (a_moP : Nat) (a_moQ : Nat) (a_moA : Nat) (a_moB : Nat) (a_moD : Nat) (sz : Nat) (mo_e : Int32) (mo_f : Int32) (mo_codes : Int32) (mo_most : Int32) (mo_minus : Int32) (mo_low : Int32) (mo_function : Int32) (mo_atX : Int32) (mo_atM : Int64) (mo_spanFunction : Int32) (mo_spanRounding : Int32) (mo_spanMany : Int32) (mo_parts : Int32) (mo_shift : Int32) (p1 : Int32) (p2 : Int32) (post : Int32 → Int32 → Int32 → Int64 → Prop) (A : Nat → Prop) (hAe : A = va_A [(a_mo, oX8 a_moR mo_e mo_f mo_codes mo_most mo_minus mo_low mo_function mo_atX mo_atM a_moK a_moH a_moS mo_spanFunction mo_spanRounding mo_spanMany a_moF a_moT mo_parts mo_shift a_moP a_moQ a_moA a_moB a_moD)] sz) (ho : wp_X8_figuresOf post mo_f mo_most mo_minus mo_low mo_function mo_atX mo_atM p1 p2) : Met l yX8_figuresOf wsX8_figuresOf ({ frames := 4, cells := 0, slots := 0, locals := 101 } : Room) (rw_P D [(cI, .int), (cJ, .long), (cZ, .boolean)] [.ref a_mo, .int p1, .int p2] sz [(a_mo, oX8 a_moR mo_e mo_f mo_codes mo_most mo_minus mo_low mo_function mo_atX mo_atM a_moK a_moH a_moS mo_spanFunction mo_spanRounding mo_spanMany a_moF a_moT mo_parts mo_shift a_moP a_moQ a_moA a_moB a_moD)]) (va_Qi (fun (r : Int32) (u : (Int32) × (Int32) × (Int64)) => post r u.1 u.2.1 u.2.2) (rw_B D A (fun (u : (Int32) × (Int32) × (Int64)) => [(a_mo, oX8 a_moR mo_e mo_f mo_codes mo_most mo_minus mo_low u.1 u.2.1 u.2.2 a_moK a_moH a_moS mo_spanFunction mo_spanRounding mo_spanMany a_moF a_moT mo_parts mo_shift a_moP a_moQ a_moA a_moB a_moD)])) A) 0 0 A := by
  refine Met.ofW (cc := cX8_figuresOf) (maxL := 9) (ret := (some .int)) (by decide) rfl ?_
  intro p e s m args below meth c s₁ B hml hv
  obtain ⟨hargs, hsz, hP, hK, hN, hD0⟩ := hv
  have hx := B.exec
  have hb := B.bytes
  have hr := B.returns
  have hts := atoms_spec (ws := wsX8_figuresOf) B.pre
  have hown : s.vm.findClass RX8 = some m.cls := findClass_of_methodNamed B.named
  have hlocks := B.notSynchronized
  subst hsz
  have hD : va_D A [(a_mo, oX8 a_moR mo_e mo_f mo_codes mo_most mo_minus mo_low mo_function mo_atX mo_atM a_moK a_moH a_moS mo_spanFunction mo_spanRounding mo_spanMany a_moF a_moT mo_parts mo_shift a_moP a_moQ a_moA a_moB a_moD)] := by rw [hAe]; exact hD0.self
  have hA : ∀ q : Nat, s.heap.size ≤ q → A q := fun q h => by rw [hAe]; exact Or.inr h
  have hS : va_S A s.heap s.heap [] := va_S.rf
  have hl := lv_entry ([.ref a_mo, .int p1, .int p2]) (n := 9) (Nat.le_of_ble_eq_true rfl)
  rw [hargs, lg_entry_eq, ← hargs]
  generalize (lg_sl ([.ref a_mo, .int p1, .int p2]) ++ List.replicate (9 - (lg_sl ([.ref a_mo, .int p1, .int p2])).length) Slot.unset).toArray = ls at hl ⊢
  replace hl : lv_has ls 9 [(0, .ref a_mo), (1, .int p1), (2, .int p2)] := hl
  have hRf : ∀ n, n ≤ 4 → n ≤ (headSpec wsX8_figuresOf ({ frames := 4, cells := 0, slots := 0, locals := 101 } : Room)).room.frames := fun n h => h
  have hRl : ∀ n, n ≤ 101 → n ≤ (headSpec wsX8_figuresOf ({ frames := 4, cells := 0, slots := 0, locals := 101 } : Room)).room.locals := fun n h => h
  generalize (headSpec wsX8_figuresOf ({ frames := 4, cells := 0, slots := 0, locals := 101 } : Room)).room = R at hRf hRl ⊢
  generalize hQ : MQ below _ args s 0 0 _ = Q
  have C_56 : ∀ n : Nat, ∀ (mo_function : Int32) (mo_atX : Int32) (mo_atM : Int64) (x3 : Int32) (x4 : Int64) (x6 : Int32) (x7 : Int32) (H : Heap) (locs : List Loc) (ls : Array Slot), wp_X8_figuresOf_56 post  mo_f mo_low n mo_function mo_atX mo_atM x3 x4 x6 x7 → va_P D vwCl [(a_mo, oX8 a_moR mo_e mo_f mo_codes mo_most mo_minus mo_low mo_function mo_atX mo_atM a_moK a_moH a_moS mo_spanFunction mo_spanRounding mo_spanMany a_moF a_moT mo_parts mo_shift a_moP a_moQ a_moA a_moB a_moD)] H → va_D A [(a_mo, oX8 a_moR mo_e mo_f mo_codes mo_most mo_minus mo_low mo_function mo_atX mo_atM a_moK a_moH a_moS mo_spanFunction mo_spanRounding mo_spanMany a_moF a_moT mo_parts mo_shift a_moP a_moQ a_moA a_moB a_moD)] → va_S A s.heap H locs → lv_has ls 9 [(0, .ref a_mo), (3, .int x3), (4, .long x4), (6, .int x6), (7, .int x7)] → W p l e R s m args below meth c H locs 0 0 Q (F0 m 56 ls []) := by
    intro n
    induction n with
    | zero => intro mo_function mo_atX mo_atM x3 x4 x6 x7 H locs ls ho hP hD hS hl; exact ho.elim
    | succ n_56 ih_56 =>
      have C_126 : ∀ (mo_function : Int32) (mo_atX : Int32) (mo_atM : Int64) (x3 : Int32) (x4 : Int64) (x7 : Int32) (y0 : Int32) (y1 : Int32) (H : Heap) (locs : List Loc) (ls : Array Slot), wp_X8_figuresOf_126 post (wp_X8_figuresOf_56 post mo_f mo_low n_56) mo_function mo_atX mo_atM x3 x4 x7 y0 y1 → va_P D vwCl [(a_mo, oX8 a_moR mo_e mo_f mo_codes mo_most mo_minus mo_low mo_function mo_atX mo_atM a_moK a_moH a_moS mo_spanFunction mo_spanRounding mo_spanMany a_moF a_moT mo_parts mo_shift a_moP a_moQ a_moA a_moB a_moD)] H → va_D A [(a_mo, oX8 a_moR mo_e mo_f mo_codes mo_most mo_minus mo_low mo_function mo_atX mo_atM a_moK a_moH a_moS mo_spanFunction mo_spanRounding mo_spanMany a_moF a_moT mo_parts mo_shift a_moP a_moQ a_moA a_moB a_moD)] → va_S A s.heap H locs → lv_has ls 9 [(0, .ref a_mo), (3, .int x3), (4, .long x4), (7, .int x7)] → W p l e R s m args below meth c H locs 0 0 Q (F0 m 126 ls [.int y0, .int y1]) := by
        intro mo_function mo_atX mo_atM x3 x4 x7 y0 y1 H locs ls ho hP hD hS hl
        unfold wp_X8_figuresOf_126 at ho
        refine lv_iadd hx hb dX8_figuresOf_126 ?_
        refine lv_istore (lv' := [(6, .int (y1 + y0)), (0, .ref a_mo), (3, .int x3), (4, .long x4), (7, .int x7)]) hx hb dX8_figuresOf_127 hl (by decide) rfl (fun ls hl => ?_)
        refine lv_iinc (v := (x7 + (1 : Int32))) (lv' := [(7, .int (x7 + (1 : Int32))), (6, .int (y1 + y0)), (0, .ref a_mo), (3, .int x3), (4, .long x4)]) hx hb dX8_figuresOf_129 hl (k := 4) rfl rfl (by decide) rfl (fun ls hl => ?_)
        refine lv_goto (tgt := 56) hx hb dX8_figuresOf_132 (by decide) ?_
        exact ih_56 mo_function mo_atX mo_atM x3 x4 (y1 + y0) (x7 + (1 : Int32)) H locs ls ho hP hD hS (lv_sub hl [2, 3, 4, 1, 0] rfl)
      have C_109 : ∀ (mo_function : Int32) (mo_atX : Int32) (mo_atM : Int64) (x3 : Int32) (x6 : Int32) (x7 : Int32) (x8 : Int32) (y0 : Int64) (y1 : Int64) (H : Heap) (locs : List Loc) (ls : Array Slot), wp_X8_figuresOf_109 post (wp_X8_figuresOf_56 post mo_f mo_low n_56) mo_function mo_atX mo_atM x3 x6 x7 x8 y0 y1 → va_P D vwCl [(a_mo, oX8 a_moR mo_e mo_f mo_codes mo_most mo_minus mo_low mo_function mo_atX mo_atM a_moK a_moH a_moS mo_spanFunction mo_spanRounding mo_spanMany a_moF a_moT mo_parts mo_shift a_moP a_moQ a_moA a_moB a_moD)] H → va_D A [(a_mo, oX8 a_moR mo_e mo_f mo_codes mo_most mo_minus mo_low mo_function mo_atX mo_atM a_moK a_moH a_moS mo_spanFunction mo_spanRounding mo_spanMany a_moF a_moT mo_parts mo_shift a_moP a_moQ a_moA a_moB a_moD)] → va_S A s.heap H locs → lv_has ls 9 [(0, .ref a_mo), (3, .int x3), (6, .int x6), (7, .int x7), (8, .int x8)] → W p l e R s m args below meth c H locs 0 0 Q (F0 m 109 ls [.long y0, .long y1]) := by
        intro mo_function mo_atX mo_atM x3 x6 x7 x8 y0 y1 H locs ls ho hP hD hS hl
        unfold wp_X8_figuresOf_109 at ho
        refine lv_lsub hx hb dX8_figuresOf_109 ?_
        refine lv_lstore (lv' := [(4, .long (y1 - y0)), (0, .ref a_mo), (3, .int x3), (6, .int x6), (7, .int x7), (8, .int x8)]) hx hb dX8_figuresOf_110 hl (by decide) rfl (fun ls hl => ?_)
        refine lv_iconst (v := 2) hx hb dX8_figuresOf_112 (by decide) ?_
        refine lv_iload hx hb dX8_figuresOf_113 (lv_at hl 3 rfl) ?_
        refine lv_imul hx hb dX8_figuresOf_115 ?_
        refine lv_iload hx hb dX8_figuresOf_116 (lv_at hl 5 rfl) ?_
        refine lv_if_eq (tgt := 125) hx hb dX8_figuresOf_118 (by decide) (fun c_118 => ?_) (fun c_118 => ?_)
        · replace ho := ho.1 c_118
          refine lv_iconst (v := 0) hx hb dX8_figuresOf_125 (by decide) ?_
          exact C_126 mo_function mo_atX mo_atM x3 (y1 - y0) x7 (0 : Int32) ((2 : Int32) * x6) H locs ls ho hP hD hS (lv_sub hl [1, 2, 0, 4] rfl)
        · replace ho := ho.2 c_118
          refine lv_iconst (v := 1) hx hb dX8_figuresOf_121 (by decide) ?_
          refine lv_goto (tgt := 126) hx hb dX8_figuresOf_122 (by decide) ?_
          exact C_126 mo_function mo_atX mo_atM x3 (y1 - y0) x7 (1 : Int32) ((2 : Int32) * x6) H locs ls ho hP hD hS (lv_sub hl [1, 2, 0, 4] rfl)
      have C_95 : ∀ (mo_function : Int32) (mo_atX : Int32) (mo_atM : Int64) (x3 : Int32) (x4 : Int64) (x6 : Int32) (x7 : Int32) (y0 : Int32) (H : Heap) (locs : List Loc) (ls : Array Slot), wp_X8_figuresOf_95 post (wp_X8_figuresOf_56 post mo_f mo_low n_56) mo_function mo_atX mo_atM x3 x4 x6 x7 y0 → va_P D vwCl [(a_mo, oX8 a_moR mo_e mo_f mo_codes mo_most mo_minus mo_low mo_function mo_atX mo_atM a_moK a_moH a_moS mo_spanFunction mo_spanRounding mo_spanMany a_moF a_moT mo_parts mo_shift a_moP a_moQ a_moA a_moB a_moD)] H → va_D A [(a_mo, oX8 a_moR mo_e mo_f mo_codes mo_most mo_minus mo_low mo_function mo_atX mo_atM a_moK a_moH a_moS mo_spanFunction mo_spanRounding mo_spanMany a_moF a_moT mo_parts mo_shift a_moP a_moQ a_moA a_moB a_moD)] → va_S A s.heap H locs → lv_has ls 9 [(0, .ref a_mo), (3, .int x3), (4, .long x4), (6, .int x6), (7, .int x7)] → W p l e R s m args below meth c H locs 0 0 Q (F0 m 95 ls [.int y0]) := by
        intro mo_function mo_atX mo_atM x3 x4 x6 x7 y0 H locs ls ho hP hD hS hl
        unfold wp_X8_figuresOf_95 at ho
        refine lv_istore (lv' := [(8, .int y0), (0, .ref a_mo), (3, .int x3), (4, .long x4), (6, .int x6), (7, .int x7)]) hx hb dX8_figuresOf_95 hl (by decide) rfl (fun ls hl => ?_)
        refine lv_lload hx hb dX8_figuresOf_97 (lv_at hl 3 rfl) ?_
        refine lv_iload hx hb dX8_figuresOf_99 (lv_at hl 0 rfl) ?_
        refine lv_if_eq (tgt := 108) hx hb dX8_figuresOf_101 (by decide) (fun c_101 => ?_) (fun c_101 => ?_)
        · replace ho := ho.1 c_101
          refine lv_lconst (v := 1) hx hb dX8_figuresOf_108 (by decide) ?_
          exact C_109 mo_function mo_atX mo_atM x3 x6 x7 y0 (1 : Int64) x4 H locs ls ho hP hD hS (lv_sub hl [1, 2, 4, 5, 0] rfl)
        · replace ho := ho.2 c_101
          refine lv_lconst (v := 0) hx hb dX8_figuresOf_104 (by decide) ?_
          refine lv_goto (tgt := 109) hx hb dX8_figuresOf_105 (by decide) ?_
          exact C_109 mo_function mo_atX mo_atM x3 x6 x7 y0 (0 : Int64) x4 H locs ls ho hP hD hS (lv_sub hl [1, 2, 4, 5, 0] rfl)
      intro mo_function mo_atX mo_atM x3 x4 x6 x7 H locs ls ho hP hD hS hl
      replace ho : wp_X8_figuresOf_56_b post mo_f mo_low (wp_X8_figuresOf_56 post mo_f mo_low n_56) mo_function mo_atX mo_atM x3 x4 x6 x7 := ho
      unfold wp_X8_figuresOf_56_b at ho
      refine lv_iload hx hb dX8_figuresOf_56 (lv_at hl 4 rfl) ?_
      refine lv_bipush (v := 10) hx hb dX8_figuresOf_58 (by decide) ?_
      refine lv_icmp_gt (tgt := 135) hx hb dX8_figuresOf_60 (by decide) (fun c_60 => ?_) (fun c_60 => ?_)
      · replace ho := ho.1 c_60
        refine lv_iload hx hb dX8_figuresOf_135 (lv_at hl 3 rfl) ?_
        subst hQ; exact W.iret (v := x6) hx hb hr (fun t ht hW => ⟨⟨x6, (mo_function, mo_atX, mo_atM), rfl, ho, by rw [ht]; exact hP, hD⟩, hS.F ht⟩) (fun q hq => hS.2.2 q hq) dX8_figuresOf_137
      · replace ho := ho.2 c_60
        refine lv_ldc2 hx hb hown (hts (.constantLong RX8 136 (2)) (List.mem_of_getElem? (i := 2) (by decide +kernel))) dX8_figuresOf_63 ?_
        refine lv_lload hx hb dX8_figuresOf_66 (lv_at hl 2 rfl) ?_
        refine lv_lmul hx hb dX8_figuresOf_68 ?_
        refine lv_lconst (v := 1) hx hb dX8_figuresOf_69 (by decide) ?_
        refine lv_ladd hx hb dX8_figuresOf_70 ?_
        refine lv_lstore (lv' := [(4, .long (((2 : Int64) * x4) + (1 : Int64))), (0, .ref a_mo), (3, .int x3), (6, .int x6), (7, .int x7)]) hx hb dX8_figuresOf_71 hl (by decide) rfl (fun ls hl => ?_)
        refine lv_aload_n hx hb dX8_figuresOf_73 rfl (lv_at hl 1 rfl) ?_
        refine lv_lload hx hb dX8_figuresOf_74 (lv_at hl 0 rfl) ?_
        refine lv_aload_n hx hb dX8_figuresOf_76 rfl (lv_at hl 1 rfl) ?_
        refine lv_iload_n hx hb dX8_figuresOf_77 rfl (lv_at hl 2 rfl) ?_
        refine ca_Vi (b := a_mo) (As := [.int x3]) (rest := [.long (((2 : Int64) * x4) + (1 : Int64)), .ref a_mo]) ⟨hx, hb, hml, hown, hts⟩ (c_X8_power l D cI cJ cZ a_mo a_moR a_moK a_moH a_moS a_moF a_moT a_moP a_moQ a_moA a_moB a_moD mo_e mo_f mo_codes mo_most mo_minus mo_low mo_function mo_atX mo_atM mo_spanFunction mo_spanRounding mo_spanMany mo_parts mo_shift x3 _ ho) (cwV 1 hts gX8_figuresOf_X8_power rfl rfl rfl (by decide +kernel) ⟨hRf _ (Nat.le_of_ble_eq_true rfl), hRl _ (Nat.le_of_ble_eq_true rfl)⟩) hK hN hP [0] rfl 0 7 rfl rfl rfl rfl hl.1 rfl (Nat.le_of_ble_eq_true rfl) dX8_figuresOf_78 ⟨Nat.zero_le _, Nat.zero_le _⟩ (fun r78 ho => ?_)
        refine lv_iload hx hb dX8_figuresOf_81 (lv_at hl 4 rfl) ?_
        refine lv_isub hx hb dX8_figuresOf_83 ?_
        refine ca_Vi (b := a_mo) (As := [.long (((2 : Int64) * x4) + (1 : Int64)), .int (r78 - x7)]) (rest := []) ⟨hx, hb, hml, hown, hts⟩ (c_X8_stands l D cI cJ cZ a_mo a_moR a_moK a_moH a_moS a_moF a_moT a_moP a_moQ a_moA a_moB a_moD mo_e mo_f mo_codes mo_most mo_minus mo_low mo_function mo_atX mo_atM mo_spanFunction mo_spanRounding mo_spanMany mo_parts mo_shift (((2 : Int64) * x4) + (1 : Int64)) (r78 - x7) _ ho) (cwV 2 hts gX8_figuresOf_X8_stands rfl rfl rfl (by decide +kernel) ⟨hRf _ (Nat.le_of_ble_eq_true rfl), hRl _ (Nat.le_of_ble_eq_true rfl)⟩) hK hN hP [0] rfl 0 7 rfl rfl rfl rfl hl.1 rfl (Nat.le_of_ble_eq_true rfl) dX8_figuresOf_84 ⟨Nat.zero_le _, Nat.zero_le _⟩ (fun r84 ho => ?_)
        refine lv_if_lt (tgt := 94) hx hb dX8_figuresOf_87 (by decide) (fun c_87 => ?_) (fun c_87 => ?_)
        · replace ho := ho.1 c_87
          refine lv_iconst (v := 0) hx hb dX8_figuresOf_94 (by decide) ?_
          exact C_95 mo_function mo_atX mo_atM x3 (((2 : Int64) * x4) + (1 : Int64)) x6 x7 (0 : Int32) H locs ls ho hP hD hS (lv_sub hl [1, 2, 0, 3, 4] rfl)
        · replace ho := ho.2 c_87
          refine lv_iconst (v := 1) hx hb dX8_figuresOf_90 (by decide) ?_
          refine lv_goto (tgt := 95) hx hb dX8_figuresOf_91 (by decide) ?_
          exact C_95 mo_function mo_atX mo_atM x3 (((2 : Int64) * x4) + (1 : Int64)) x6 x7 (1 : Int32) H locs ls ho hP hD hS (lv_sub hl [1, 2, 0, 3, 4] rfl)
  unfold wp_X8_figuresOf at ho
  refine lv_aload_n hx hb dX8_figuresOf_0 rfl (lv_at hl 0 rfl) ?_
  refine lv_iload_n hx hb dX8_figuresOf_1 rfl (lv_at hl 1 rfl) ?_
  refine lv_iload_n hx hb dX8_figuresOf_2 rfl (lv_at hl 2 rfl) ?_
  refine ca_Vi (b := a_mo) (As := [.int p1, .int p2]) (rest := []) ⟨hx, hb, hml, hown, hts⟩ (c_X8_plainly l D cI cJ cZ a_mo a_moR a_moK a_moH a_moS a_moF a_moT a_moP a_moQ a_moA a_moB a_moD mo_e mo_f mo_codes mo_most mo_minus mo_low mo_function mo_atX mo_atM mo_spanFunction mo_spanRounding mo_spanMany mo_parts mo_shift p1 p2 _ ho) (cwV 2 hts gX8_figuresOf_X8_plainly rfl rfl rfl (by decide +kernel) ⟨hRf _ (Nat.le_of_ble_eq_true rfl), hRl _ (Nat.le_of_ble_eq_true rfl)⟩) hK hN hP [0] rfl 0 7 rfl rfl rfl rfl hl.1 rfl (Nat.le_of_ble_eq_true rfl) dX8_figuresOf_3 ⟨Nat.zero_le _, Nat.zero_le _⟩ (fun r3 ho => ?_)
  refine lv_if_lt (tgt := 12) hx hb dX8_figuresOf_6 (by decide) (fun c_6 => ?_) (fun c_6 => ?_)
  · replace ho := ho.1 c_6
    refine lv_aload_n hx hb dX8_figuresOf_12 rfl (lv_at hl 0 rfl) ?_
    refine lv_iload_n hx hb dX8_figuresOf_13 rfl (lv_at hl 1 rfl) ?_
    refine lv_iload_n hx hb dX8_figuresOf_14 rfl (lv_at hl 2 rfl) ?_
    refine ca_Wv (b := a_mo) (As := [.int p1, .int p2]) (rest := []) (wr := []) (wo := fun u => [(a_mo, oX8 a_moR mo_e mo_f mo_codes mo_most mo_minus mo_low u.1 u.2.1 u.2.2 a_moK a_moH a_moS mo_spanFunction mo_spanRounding mo_spanMany a_moF a_moT mo_parts mo_shift a_moP a_moQ a_moA a_moB a_moD)]) (wn := fun u => [(a_mo, oX8 a_moR mo_e mo_f mo_codes mo_most mo_minus mo_low u.1 u.2.1 u.2.2 a_moK a_moH a_moS mo_spanFunction mo_spanRounding mo_spanMany a_moF a_moT mo_parts mo_shift a_moP a_moQ a_moA a_moB a_moD)]) ⟨hx, hb, hml, hown, hts⟩ (c_X8_sets l D cI cJ cZ a_mo a_moR a_moK a_moH a_moS a_moF a_moT a_moP a_moQ a_moA a_moB a_moD H.size mo_e mo_f mo_codes mo_most mo_minus mo_low mo_function mo_atX mo_atM mo_spanFunction mo_spanRounding mo_spanMany mo_parts mo_shift p1 p2 _ _ rfl ho) (cwV 2 hts gX8_figuresOf_X8_sets rfl rfl rfl (by decide +kernel) ⟨hRf _ (Nat.le_of_ble_eq_true rfl), hRl _ (Nat.le_of_ble_eq_true rfl)⟩) hK hN hP hD hS hA [0] [] [0] rfl rfl (by decide) (by decide) (by decide) (by decide) (fun _ => rfl) 0 7 rfl rfl rfl rfl hl.1 rfl (Nat.le_of_ble_eq_true rfl) dX8_figuresOf_15 ⟨Nat.zero_le _, Nat.zero_le _⟩ (fun  u15 H locs ho hP hD hS => ?_)
    obtain ⟨u15_1, u15_2, u15_3⟩ := u15
    try dsimp only at ho
    replace hP : va_P D vwCl [(a_mo, oX8 a_moR mo_e mo_f mo_codes mo_most mo_minus mo_low u15_1 u15_2 u15_3 a_moK a_moH a_moS mo_spanFunction mo_spanRounding mo_spanMany a_moF a_moT mo_parts mo_shift a_moP a_moQ a_moA a_moB a_moD)] H := hP
    replace hD : va_D A [(a_mo, oX8 a_moR mo_e mo_f mo_codes mo_most mo_minus mo_low u15_1 u15_2 u15_3 a_moK a_moH a_moS mo_spanFunction mo_spanRounding mo_spanMany a_moF a_moT mo_parts mo_shift a_moP a_moQ a_moA a_moB a_moD)] := hD
    refine lv_aload_n hx hb dX8_figuresOf_18 rfl (lv_at hl 0 rfl) ?_
    refine ca_Vi (b := a_mo) (As := []) (rest := []) ⟨hx, hb, hml, hown, hts⟩ (c_X8_floor l D cI cJ cZ a_mo a_moR a_moK a_moH a_moS a_moF a_moT a_moP a_moQ a_moA a_moB a_moD mo_e mo_f mo_codes mo_most mo_minus mo_low u15_1 u15_2 u15_3 mo_spanFunction mo_spanRounding mo_spanMany mo_parts mo_shift  _ ho) (cwV 0 hts gX8_figuresOf_X8_floor rfl rfl rfl (by decide +kernel) ⟨hRf _ (Nat.le_of_ble_eq_true rfl), hRl _ (Nat.le_of_ble_eq_true rfl)⟩) hK hN hP [0] rfl 0 7 rfl rfl rfl rfl hl.1 rfl (Nat.le_of_ble_eq_true rfl) dX8_figuresOf_19 ⟨Nat.zero_le _, Nat.zero_le _⟩ (fun r19 ho => ?_)
    refine lv_istore_n (lv' := [(3, .int r19), (0, .ref a_mo), (1, .int p1), (2, .int p2)]) hx hb dX8_figuresOf_22 rfl hl (by decide) rfl (fun ls hl => ?_)
    refine lv_iload_n hx hb dX8_figuresOf_23 rfl (lv_at hl 0 rfl) ?_
    refine lv_aload_n hx hb dX8_figuresOf_24 rfl (lv_at hl 1 rfl) ?_
    refine va_get (D := D) (ci := 7) (v := .int mo_most) (C := RX8) (T := TX8) (N := 25) hx hb hts in_X8_figuresOf_X8 hown hK hP 0 rfl rfl 4 (by decide) (hts (.fieldLink RX8 68 "HardBenchModel" "most" "I") (List.mem_of_getElem? (i := 1) (by decide +kernel))) (fun _ h9 => h9) rfl dX8_figuresOf_25 ?_
    refine lv_icmp_eq (tgt := 39) hx hb dX8_figuresOf_28 (by decide) (fun c_28 => ?_) (fun c_28 => ?_)
    · replace ho := ho.1 c_28
      refine lv_bipush (v := (-9)) hx hb dX8_figuresOf_39 (by decide) ?_
      subst hQ; exact W.iret (v := (-9 : Int32)) hx hb hr (fun t ht hW => ⟨⟨(-9 : Int32), (u15_1, u15_2, u15_3), rfl, ho, by rw [ht]; exact hP, hD⟩, hS.F ht⟩) (fun q hq => hS.2.2 q hq) dX8_figuresOf_41
    · replace ho := ho.2 c_28
      refine lv_aload_n hx hb dX8_figuresOf_31 rfl (lv_at hl 1 rfl) ?_
      refine lv_iload_n hx hb dX8_figuresOf_32 rfl (lv_at hl 0 rfl) ?_
      refine ca_Vi (b := a_mo) (As := [.int r19]) (rest := []) ⟨hx, hb, hml, hown, hts⟩ (c_X8_isFloat l D cI cJ cZ a_mo a_moR a_moK a_moH a_moS a_moF a_moT a_moP a_moQ a_moA a_moB a_moD mo_e mo_f mo_codes mo_most mo_minus mo_low u15_1 u15_2 u15_3 mo_spanFunction mo_spanRounding mo_spanMany mo_parts mo_shift r19 _ ho) (cwV 1 hts gX8_figuresOf_X8_isFloat rfl rfl rfl (by decide +kernel) ⟨hRf _ (Nat.le_of_ble_eq_true rfl), hRl _ (Nat.le_of_ble_eq_true rfl)⟩) hK hN hP [0] rfl 0 7 rfl rfl rfl rfl hl.1 rfl (Nat.le_of_ble_eq_true rfl) dX8_figuresOf_33 ⟨Nat.zero_le _, Nat.zero_le _⟩ (fun r33 ho => ?_)
      refine lv_if_eq (tgt := 42) hx hb dX8_figuresOf_36 (by decide) (fun c_36 => ?_) (fun c_36 => ?_)
      · replace ho := ho.1 c_36
        refine lv_aload_n hx hb dX8_figuresOf_42 rfl (lv_at hl 1 rfl) ?_
        refine lv_iload_n hx hb dX8_figuresOf_43 rfl (lv_at hl 0 rfl) ?_
        refine ca_Vi (b := a_mo) (As := [.int r19]) (rest := []) ⟨hx, hb, hml, hown, hts⟩ (c_X8_figure l D cI cJ cZ a_mo a_moR a_moK a_moH a_moS a_moF a_moT a_moP a_moQ a_moA a_moB a_moD mo_e mo_f mo_codes mo_most mo_minus mo_low u15_1 u15_2 u15_3 mo_spanFunction mo_spanRounding mo_spanMany mo_parts mo_shift r19 _ ho) (cwV 1 hts gX8_figuresOf_X8_figure rfl rfl rfl (by decide +kernel) ⟨hRf _ (Nat.le_of_ble_eq_true rfl), hRl _ (Nat.le_of_ble_eq_true rfl)⟩) hK hN hP [0] rfl 0 7 rfl rfl rfl rfl hl.1 rfl (Nat.le_of_ble_eq_true rfl) dX8_figuresOf_44 ⟨Nat.zero_le _, Nat.zero_le _⟩ (fun r44 ho => ?_)
        refine lv_i2l hx hb dX8_figuresOf_47 rfl ?_
        refine lv_lstore (lv' := [(4, .long r44.toInt64), (3, .int r19), (0, .ref a_mo), (1, .int p1), (2, .int p2)]) hx hb dX8_figuresOf_48 hl (by decide) rfl (fun ls hl => ?_)
        refine lv_iconst (v := 0) hx hb dX8_figuresOf_50 (by decide) ?_
        refine lv_istore (lv' := [(6, .int (0 : Int32)), (4, .long r44.toInt64), (3, .int r19), (0, .ref a_mo), (1, .int p1), (2, .int p2)]) hx hb dX8_figuresOf_51 hl (by decide) rfl (fun ls hl => ?_)
        refine lv_iconst (v := 1) hx hb dX8_figuresOf_53 (by decide) ?_
        refine lv_istore (lv' := [(7, .int (1 : Int32)), (6, .int (0 : Int32)), (4, .long r44.toInt64), (3, .int r19), (0, .ref a_mo), (1, .int p1), (2, .int p2)]) hx hb dX8_figuresOf_54 hl (by decide) rfl (fun ls hl => ?_)
        obtain ⟨n_56, ho⟩ := ho
        exact C_56 n_56 u15_1 u15_2 u15_3 r19 r44.toInt64 (0 : Int32) (1 : Int32) H locs ls ho hP hD hS (lv_sub hl [4, 3, 2, 1, 0] rfl)
      · replace ho := ho.2 c_36
        refine lv_bipush (v := (-9)) hx hb dX8_figuresOf_39 (by decide) ?_
        subst hQ; exact W.iret (v := (-9 : Int32)) hx hb hr (fun t ht hW => ⟨⟨(-9 : Int32), (u15_1, u15_2, u15_3), rfl, ho, by rw [ht]; exact hP, hD⟩, hS.F ht⟩) (fun q hq => hS.2.2 q hq) dX8_figuresOf_41
  · replace ho := ho.2 c_6
    refine lv_bipush (v := (-9)) hx hb dX8_figuresOf_9 (by decide) ?_
    subst hQ; exact W.iret (v := (-9 : Int32)) hx hb hr (fun t ht hW => ⟨⟨(-9 : Int32), (mo_function, mo_atX, mo_atM), rfl, ho, by rw [ht]; exact hP, hD⟩, hS.F ht⟩) (fun q hq => hS.2.2 q hq) dX8_figuresOf_11

def wp_X8_figures_24 (post : Int32 → Int32 → Int32 → Int64 → (Nat → Int32) → Prop)  (mo_function : Int32) (mo_atX : Int32) (mo_atM : Int64) (moR_r : Nat → Int32) : Prop := wp_X8_refuse (fun r26 u26 => (post r26 mo_function mo_atX mo_atM u26)) moR_r (-1 : Int32)
def wp_X8_figures (post : Int32 → Int32 → Int32 → Int64 → (Nat → Int32) → Prop) (mo_f : Int32) (mo_codes : Int32) (mo_most : Int32) (mo_minus : Int32) (mo_low : Int32) (mo_function : Int32) (mo_atX : Int32) (mo_atM : Int64) (moR_r : Nat → Int32) (p1 : Int32) (p2 : Int32) : Prop := wp_X8_isFunction (fun r1 => (((r1 = 0) → (wp_X8_figures_24 post mo_function mo_atX mo_atM moR_r)) ∧ ((¬ (r1 = 0)) → (wp_X8_isCode (fun r9 => (((r9 = 0) → (wp_X8_figures_24 post mo_function mo_atX mo_atM moR_r)) ∧ ((¬ (r9 = 0)) → (wp_X8_figuresOf (fun r18 u18_1 u18_2 u18_3 => (post r18 u18_1 u18_2 u18_3 moR_r)) mo_f mo_most mo_minus mo_low mo_function mo_atX mo_atM p1 p2)))) mo_codes p2)))) p1
set_option maxHeartbeats 4000000 in
set_option maxRecDepth 100000 in
theorem c_X8_figures (l : Launch) (D : va_G) (cI cJ cZ : ClassId) (a_mo : Nat) (a_moR : Nat) (a_moK : Nat) (a_moH : Nat) (a_moS : Nat) (a_moF : Nat) (a_moT : Nat) (a_moP : Nat) (a_moQ : Nat) (a_moA : Nat) (a_moB : Nat) (a_moD : Nat) (sz : Nat) (mo_e : Int32) (mo_f : Int32) (mo_codes : Int32) (mo_most : Int32) (mo_minus : Int32) (mo_low : Int32) (mo_function : Int32) (mo_atX : Int32) (mo_atM : Int64) (mo_spanFunction : Int32) (mo_spanRounding : Int32) (mo_spanMany : Int32) (mo_parts : Int32) (mo_shift : Int32) (moR_r : Nat → Int32) (p1 : Int32) (p2 : Int32) (post : Int32 → Int32 → Int32 → Int64 → (Nat → Int32) → Prop) (A : Nat → Prop) (hAe : A = va_A [(a_mo, oX8 a_moR mo_e mo_f mo_codes mo_most mo_minus mo_low mo_function mo_atX mo_atM a_moK a_moH a_moS mo_spanFunction mo_spanRounding mo_spanMany a_moF a_moT mo_parts mo_shift a_moP a_moQ a_moA a_moB a_moD), (a_moR, .inl (cI, 7, .inl moR_r))] sz) (ho : wp_X8_figures post mo_f mo_codes mo_most mo_minus mo_low mo_function mo_atX mo_atM moR_r p1 p2) : Met l yX8_figures wsX8_figures ({ frames := 5, cells := 0, slots := 0, locals := 129 } : Room) (rw_P D [(cI, .int), (cJ, .long), (cZ, .boolean)] [.ref a_mo, .int p1, .int p2] sz [(a_mo, oX8 a_moR mo_e mo_f mo_codes mo_most mo_minus mo_low mo_function mo_atX mo_atM a_moK a_moH a_moS mo_spanFunction mo_spanRounding mo_spanMany a_moF a_moT mo_parts mo_shift a_moP a_moQ a_moA a_moB a_moD), (a_moR, .inl (cI, 7, .inl moR_r))]) (va_Qi (fun (r : Int32) (u : (Int32) × (Int32) × (Int64) × (Nat → Int32)) => post r u.1 u.2.1 u.2.2.1 u.2.2.2) (rw_B D A (fun (u : (Int32) × (Int32) × (Int64) × (Nat → Int32)) => [(a_mo, oX8 a_moR mo_e mo_f mo_codes mo_most mo_minus mo_low u.1 u.2.1 u.2.2.1 a_moK a_moH a_moS mo_spanFunction mo_spanRounding mo_spanMany a_moF a_moT mo_parts mo_shift a_moP a_moQ a_moA a_moB a_moD), (a_moR, .inl (cI, 7, .inl u.2.2.2))])) A) 0 0 A := by
  refine Met.ofW (cc := cX8_figures) (maxL := 3) (ret := (some .int)) (by decide) rfl ?_
  intro p e s m args below meth c s₁ B hml hv
  obtain ⟨hargs, hsz, hP, hK, hN, hD0⟩ := hv
  have hx := B.exec
  have hb := B.bytes
  have hr := B.returns
  have hts := atoms_spec (ws := wsX8_figures) B.pre
  have hown : s.vm.findClass RX8 = some m.cls := findClass_of_methodNamed B.named
  have hlocks := B.notSynchronized
  subst hsz
  have hD : va_D A [(a_mo, oX8 a_moR mo_e mo_f mo_codes mo_most mo_minus mo_low mo_function mo_atX mo_atM a_moK a_moH a_moS mo_spanFunction mo_spanRounding mo_spanMany a_moF a_moT mo_parts mo_shift a_moP a_moQ a_moA a_moB a_moD), (a_moR, .inl (cI, 7, .inl moR_r))] := by rw [hAe]; exact hD0.self
  have hA : ∀ q : Nat, s.heap.size ≤ q → A q := fun q h => by rw [hAe]; exact Or.inr h
  have hS : va_S A s.heap s.heap [] := va_S.rf
  have hl := lv_entry ([.ref a_mo, .int p1, .int p2]) (n := 3) (Nat.le_of_ble_eq_true rfl)
  rw [hargs, lg_entry_eq, ← hargs]
  generalize (lg_sl ([.ref a_mo, .int p1, .int p2]) ++ List.replicate (3 - (lg_sl ([.ref a_mo, .int p1, .int p2])).length) Slot.unset).toArray = ls at hl ⊢
  replace hl : lv_has ls 3 [(0, .ref a_mo), (1, .int p1), (2, .int p2)] := hl
  have hRf : ∀ n, n ≤ 5 → n ≤ (headSpec wsX8_figures ({ frames := 5, cells := 0, slots := 0, locals := 129 } : Room)).room.frames := fun n h => h
  have hRl : ∀ n, n ≤ 129 → n ≤ (headSpec wsX8_figures ({ frames := 5, cells := 0, slots := 0, locals := 129 } : Room)).room.locals := fun n h => h
  generalize (headSpec wsX8_figures ({ frames := 5, cells := 0, slots := 0, locals := 129 } : Room)).room = R at hRf hRl ⊢
  generalize hQ : MQ below _ args s 0 0 _ = Q
  have C_24 : ∀ (mo_function : Int32) (mo_atX : Int32) (mo_atM : Int64) (moR_r : Nat → Int32) (H : Heap) (locs : List Loc) (ls : Array Slot), wp_X8_figures_24 post  mo_function mo_atX mo_atM moR_r → va_P D vwCl [(a_mo, oX8 a_moR mo_e mo_f mo_codes mo_most mo_minus mo_low mo_function mo_atX mo_atM a_moK a_moH a_moS mo_spanFunction mo_spanRounding mo_spanMany a_moF a_moT mo_parts mo_shift a_moP a_moQ a_moA a_moB a_moD), (a_moR, .inl (cI, 7, .inl moR_r))] H → va_D A [(a_mo, oX8 a_moR mo_e mo_f mo_codes mo_most mo_minus mo_low mo_function mo_atX mo_atM a_moK a_moH a_moS mo_spanFunction mo_spanRounding mo_spanMany a_moF a_moT mo_parts mo_shift a_moP a_moQ a_moA a_moB a_moD), (a_moR, .inl (cI, 7, .inl moR_r))] → va_S A s.heap H locs → lv_has ls 3 [(0, .ref a_mo)] → W p l e R s m args below meth c H locs 0 0 Q (F0 m 24 ls []) := by
    intro mo_function mo_atX mo_atM moR_r H locs ls ho hP hD hS hl
    unfold wp_X8_figures_24 at ho
    refine lv_aload_n hx hb dX8_figures_24 rfl (lv_at hl 0 rfl) ?_
    refine lv_iconst (v := (-1)) hx hb dX8_figures_25 (by decide) ?_
    refine ca_Wi (b := a_mo) (As := [.int (-1 : Int32)]) (rest := []) (wr := []) (wo := fun u => [(a_mo, oX8 a_moR mo_e mo_f mo_codes mo_most mo_minus mo_low mo_function mo_atX mo_atM a_moK a_moH a_moS mo_spanFunction mo_spanRounding mo_spanMany a_moF a_moT mo_parts mo_shift a_moP a_moQ a_moA a_moB a_moD), (a_moR, .inl (cI, 7, .inl u))]) (wn := fun u => [(a_mo, oX8 a_moR mo_e mo_f mo_codes mo_most mo_minus mo_low mo_function mo_atX mo_atM a_moK a_moH a_moS mo_spanFunction mo_spanRounding mo_spanMany a_moF a_moT mo_parts mo_shift a_moP a_moQ a_moA a_moB a_moD), (a_moR, .inl (cI, 7, .inl u))]) ⟨hx, hb, hml, hown, hts⟩ (c_X8_refuse l D cI cJ cZ a_mo a_moR a_moK a_moH a_moS a_moF a_moT a_moP a_moQ a_moA a_moB a_moD H.size mo_e mo_f mo_codes mo_most mo_minus mo_low mo_function mo_atX mo_atM mo_spanFunction mo_spanRounding mo_spanMany mo_parts mo_shift moR_r (-1 : Int32) _ _ rfl ho) (cwV 1 hts gX8_figures_X8_refuse rfl rfl rfl (by decide +kernel) ⟨hRf _ (Nat.le_of_ble_eq_true rfl), hRl _ (Nat.le_of_ble_eq_true rfl)⟩) hK hN hP hD hS hA [0, 1] [] [0, 1] rfl rfl (by decide) (by decide) (by decide) (by decide) (fun _ => rfl) 0 7 rfl rfl rfl rfl hl.1 rfl (Nat.le_of_ble_eq_true rfl) dX8_figures_26 ⟨Nat.zero_le _, Nat.zero_le _⟩ (fun r26 u26 H locs ho hP hD hS => ?_)
    try dsimp only at ho
    replace hP : va_P D vwCl [(a_mo, oX8 a_moR mo_e mo_f mo_codes mo_most mo_minus mo_low mo_function mo_atX mo_atM a_moK a_moH a_moS mo_spanFunction mo_spanRounding mo_spanMany a_moF a_moT mo_parts mo_shift a_moP a_moQ a_moA a_moB a_moD), (a_moR, .inl (cI, 7, .inl u26))] H := hP
    replace hD : va_D A [(a_mo, oX8 a_moR mo_e mo_f mo_codes mo_most mo_minus mo_low mo_function mo_atX mo_atM a_moK a_moH a_moS mo_spanFunction mo_spanRounding mo_spanMany a_moF a_moT mo_parts mo_shift a_moP a_moQ a_moA a_moB a_moD), (a_moR, .inl (cI, 7, .inl u26))] := hD
    subst hQ; exact W.iret (v := r26) hx hb hr (fun t ht hW => ⟨⟨r26, (mo_function, mo_atX, mo_atM, u26), rfl, ho, by rw [ht]; exact hP, hD⟩, hS.F ht⟩) (fun q hq => hS.2.2 q hq) dX8_figures_29
  unfold wp_X8_figures at ho
  refine lv_iload_n hx hb dX8_figures_0 rfl (lv_at hl 1 rfl) ?_
  refine ca_Si (As := [.int p1]) (rest := []) ⟨hx, hb, hml, hown, hts⟩ (c_X8_isFunction l D cI cJ cZ   p1 _ ho) (va_cwS 1 hts gX8_figures_X8_isFunction rfl rfl rfl (by decide +kernel) ⟨hRf _ (Nat.le_of_ble_eq_true rfl), hRl _ (Nat.le_of_ble_eq_true rfl)⟩) hK hN hP [] rfl rfl hl.1 rfl (Nat.le_of_ble_eq_true rfl) dX8_figures_1 ⟨Nat.zero_le _, Nat.zero_le _⟩ (fun r1 ho => ?_)
  refine lv_if_eq (tgt := 24) hx hb dX8_figures_4 (by decide) (fun c_4 => ?_) (fun c_4 => ?_)
  · replace ho := ho.1 c_4
    exact C_24 mo_function mo_atX mo_atM moR_r H locs ls ho hP hD hS (lv_sub hl [0] rfl)
  · replace ho := ho.2 c_4
    refine lv_aload_n hx hb dX8_figures_7 rfl (lv_at hl 0 rfl) ?_
    refine lv_iload_n hx hb dX8_figures_8 rfl (lv_at hl 2 rfl) ?_
    refine ca_Vi (b := a_mo) (As := [.int p2]) (rest := []) ⟨hx, hb, hml, hown, hts⟩ (c_X8_isCode l D cI cJ cZ a_mo a_moR a_moK a_moH a_moS a_moF a_moT a_moP a_moQ a_moA a_moB a_moD mo_e mo_f mo_codes mo_most mo_minus mo_low mo_function mo_atX mo_atM mo_spanFunction mo_spanRounding mo_spanMany mo_parts mo_shift p2 _ ho) (cwV 1 hts gX8_figures_X8_isCode rfl rfl rfl (by decide +kernel) ⟨hRf _ (Nat.le_of_ble_eq_true rfl), hRl _ (Nat.le_of_ble_eq_true rfl)⟩) hK hN hP [0] rfl 0 7 rfl rfl rfl rfl hl.1 rfl (Nat.le_of_ble_eq_true rfl) dX8_figures_9 ⟨Nat.zero_le _, Nat.zero_le _⟩ (fun r9 ho => ?_)
    refine lv_if_eq (tgt := 24) hx hb dX8_figures_12 (by decide) (fun c_12 => ?_) (fun c_12 => ?_)
    · replace ho := ho.1 c_12
      exact C_24 mo_function mo_atX mo_atM moR_r H locs ls ho hP hD hS (lv_sub hl [0] rfl)
    · replace ho := ho.2 c_12
      refine lv_aload_n hx hb dX8_figures_15 rfl (lv_at hl 0 rfl) ?_
      refine lv_iload_n hx hb dX8_figures_16 rfl (lv_at hl 1 rfl) ?_
      refine lv_iload_n hx hb dX8_figures_17 rfl (lv_at hl 2 rfl) ?_
      refine ca_Wi (b := a_mo) (As := [.int p1, .int p2]) (rest := []) (wr := [(a_moR, .inl (cI, 7, .inl moR_r))]) (wo := fun u => [(a_mo, oX8 a_moR mo_e mo_f mo_codes mo_most mo_minus mo_low u.1 u.2.1 u.2.2 a_moK a_moH a_moS mo_spanFunction mo_spanRounding mo_spanMany a_moF a_moT mo_parts mo_shift a_moP a_moQ a_moA a_moB a_moD)]) (wn := fun u => [(a_mo, oX8 a_moR mo_e mo_f mo_codes mo_most mo_minus mo_low u.1 u.2.1 u.2.2 a_moK a_moH a_moS mo_spanFunction mo_spanRounding mo_spanMany a_moF a_moT mo_parts mo_shift a_moP a_moQ a_moA a_moB a_moD), (a_moR, .inl (cI, 7, .inl moR_r))]) ⟨hx, hb, hml, hown, hts⟩ (c_X8_figuresOf l D cI cJ cZ a_mo a_moR a_moK a_moH a_moS a_moF a_moT a_moP a_moQ a_moA a_moB a_moD H.size mo_e mo_f mo_codes mo_most mo_minus mo_low mo_function mo_atX mo_atM mo_spanFunction mo_spanRounding mo_spanMany mo_parts mo_shift p1 p2 _ _ rfl ho) (cwV 2 hts gX8_figures_X8_figuresOf rfl rfl rfl (by decide +kernel) ⟨hRf _ (Nat.le_of_ble_eq_true rfl), hRl _ (Nat.le_of_ble_eq_true rfl)⟩) hK hN hP hD hS hA [0] [1] [1, 0] rfl rfl (by decide) (by decide) (by decide) (by decide) (fun _ => rfl) 0 7 rfl rfl rfl rfl hl.1 rfl (Nat.le_of_ble_eq_true rfl) dX8_figures_18 ⟨Nat.zero_le _, Nat.zero_le _⟩ (fun r18 u18 H locs ho hP hD hS => ?_)
      obtain ⟨u18_1, u18_2, u18_3⟩ := u18
      try dsimp only at ho
      replace hP : va_P D vwCl [(a_mo, oX8 a_moR mo_e mo_f mo_codes mo_most mo_minus mo_low u18_1 u18_2 u18_3 a_moK a_moH a_moS mo_spanFunction mo_spanRounding mo_spanMany a_moF a_moT mo_parts mo_shift a_moP a_moQ a_moA a_moB a_moD), (a_moR, .inl (cI, 7, .inl moR_r))] H := hP
      replace hD : va_D A [(a_mo, oX8 a_moR mo_e mo_f mo_codes mo_most mo_minus mo_low u18_1 u18_2 u18_3 a_moK a_moH a_moS mo_spanFunction mo_spanRounding mo_spanMany a_moF a_moT mo_parts mo_shift a_moP a_moQ a_moA a_moB a_moD), (a_moR, .inl (cI, 7, .inl moR_r))] := hD
      refine lv_goto (tgt := 29) hx hb dX8_figures_21 (by decide) ?_
      subst hQ; exact W.iret (v := r18) hx hb hr (fun t ht hW => ⟨⟨r18, (u18_1, u18_2, u18_3, moR_r), rfl, ho, by rw [ht]; exact hP, hD⟩, hS.F ht⟩) (fun q hq => hS.2.2 q hq) dX8_figures_29

def wp_X8_hardOf_16_b (post : Int32 → Int32 → Int32 → Int64 → Prop)   (K_16 : Int32 → Int32 → Int64 → Int32 → Int32 → Prop) (mo_function : Int32) (mo_atX : Int32) (mo_atM : Int64) (x3 : Int32) (x4 : Int32) : Prop := (((9 : Int32) ≤ x4) → (post x4 mo_function mo_atX mo_atM)) ∧ ((¬ ((9 : Int32) ≤ x4)) → (((¬ ((x3 >>> (((8 : Int32) - x4) &&& 31)) &&& (1 : Int32)) = ((x3 >>> ((8 : Int32) &&& 31)) &&& (1 : Int32))) → (post x4 mo_function mo_atX mo_atM)) ∧ ((¬ (¬ ((x3 >>> (((8 : Int32) - x4) &&& 31)) &&& (1 : Int32)) = ((x3 >>> ((8 : Int32) &&& 31)) &&& (1 : Int32)))) → (K_16 mo_function mo_atX mo_atM x3 (x4 + (1 : Int32))))))
noncomputable def wp_X8_hardOf_16 (post : Int32 → Int32 → Int32 → Int64 → Prop)   (n : Nat) : Int32 → Int32 → Int64 → Int32 → Int32 → Prop := Nat.rec (motive := fun _ => Int32 → Int32 → Int64 → Int32 → Int32 → Prop) (fun _ _ _ _ _ => False) (fun _ K_16 => wp_X8_hardOf_16_b post  K_16) n
def wp_X8_hardOf (post : Int32 → Int32 → Int32 → Int64 → Prop) (mo_f : Int32) (mo_most : Int32) (mo_minus : Int32) (mo_low : Int32) (mo_function : Int32) (mo_atX : Int32) (mo_atM : Int64) (p1 : Int32) (p2 : Int32) : Prop := wp_X8_figuresOf (fun r3 u3_1 u3_2 u3_3 => (((0 ≤ r3) → (∃ n, wp_X8_hardOf_16 post  n u3_1 u3_2 u3_3 r3 (1 : Int32))) ∧ ((¬ (0 ≤ r3)) → (post (0 : Int32) u3_1 u3_2 u3_3)))) mo_f mo_most mo_minus mo_low mo_function mo_atX mo_atM p1 p2
set_option maxHeartbeats 4000000 in
set_option maxRecDepth 100000 in
theorem c_X8_hardOf (l : Launch) (D : va_G) (cI cJ cZ : ClassId) (a_mo : Nat) (a_moR : Nat) (a_moK : Nat) (a_moH : Nat) (a_moS : Nat) (a_moF : Nat) (a_moT : Nat) (a_moP : Nat) (a_moQ : Nat) (a_moA : Nat) (a_moB : Nat) (a_moD : Nat) (sz : Nat) (mo_e : Int32) (mo_f : Int32) (mo_codes : Int32) (mo_most : Int32) (mo_minus : Int32) (mo_low : Int32) (mo_function : Int32) (mo_atX : Int32) (mo_atM : Int64) (mo_spanFunction : Int32) (mo_spanRounding : Int32) (mo_spanMany : Int32) (mo_parts : Int32) (mo_shift : Int32) (p1 : Int32) (p2 : Int32) (post : Int32 → Int32 → Int32 → Int64 → Prop) (A : Nat → Prop) (hAe : A = va_A [(a_mo, oX8 a_moR mo_e mo_f mo_codes mo_most mo_minus mo_low mo_function mo_atX mo_atM a_moK a_moH a_moS mo_spanFunction mo_spanRounding mo_spanMany a_moF a_moT mo_parts mo_shift a_moP a_moQ a_moA a_moB a_moD)] sz) (ho : wp_X8_hardOf post mo_f mo_most mo_minus mo_low mo_function mo_atX mo_atM p1 p2) : Met l yX8_hardOf wsX8_hardOf ({ frames := 5, cells := 0, slots := 0, locals := 129 } : Room) (rw_P D [(cI, .int), (cJ, .long), (cZ, .boolean)] [.ref a_mo, .int p1, .int p2] sz [(a_mo, oX8 a_moR mo_e mo_f mo_codes mo_most mo_minus mo_low mo_function mo_atX mo_atM a_moK a_moH a_moS mo_spanFunction mo_spanRounding mo_spanMany a_moF a_moT mo_parts mo_shift a_moP a_moQ a_moA a_moB a_moD)]) (va_Qi (fun (r : Int32) (u : (Int32) × (Int32) × (Int64)) => post r u.1 u.2.1 u.2.2) (rw_B D A (fun (u : (Int32) × (Int32) × (Int64)) => [(a_mo, oX8 a_moR mo_e mo_f mo_codes mo_most mo_minus mo_low u.1 u.2.1 u.2.2 a_moK a_moH a_moS mo_spanFunction mo_spanRounding mo_spanMany a_moF a_moT mo_parts mo_shift a_moP a_moQ a_moA a_moB a_moD)])) A) 0 0 A := by
  refine Met.ofW (cc := cX8_hardOf) (maxL := 5) (ret := (some .int)) (by decide) rfl ?_
  intro p e s m args below meth c s₁ B hml hv
  obtain ⟨hargs, hsz, hP, hK, hN, hD0⟩ := hv
  have hx := B.exec
  have hb := B.bytes
  have hr := B.returns
  have hts := atoms_spec (ws := wsX8_hardOf) B.pre
  have hown : s.vm.findClass RX8 = some m.cls := findClass_of_methodNamed B.named
  have hlocks := B.notSynchronized
  subst hsz
  have hD : va_D A [(a_mo, oX8 a_moR mo_e mo_f mo_codes mo_most mo_minus mo_low mo_function mo_atX mo_atM a_moK a_moH a_moS mo_spanFunction mo_spanRounding mo_spanMany a_moF a_moT mo_parts mo_shift a_moP a_moQ a_moA a_moB a_moD)] := by rw [hAe]; exact hD0.self
  have hA : ∀ q : Nat, s.heap.size ≤ q → A q := fun q h => by rw [hAe]; exact Or.inr h
  have hS : va_S A s.heap s.heap [] := va_S.rf
  have hl := lv_entry ([.ref a_mo, .int p1, .int p2]) (n := 5) (Nat.le_of_ble_eq_true rfl)
  rw [hargs, lg_entry_eq, ← hargs]
  generalize (lg_sl ([.ref a_mo, .int p1, .int p2]) ++ List.replicate (5 - (lg_sl ([.ref a_mo, .int p1, .int p2])).length) Slot.unset).toArray = ls at hl ⊢
  replace hl : lv_has ls 5 [(0, .ref a_mo), (1, .int p1), (2, .int p2)] := hl
  have hRf : ∀ n, n ≤ 5 → n ≤ (headSpec wsX8_hardOf ({ frames := 5, cells := 0, slots := 0, locals := 129 } : Room)).room.frames := fun n h => h
  have hRl : ∀ n, n ≤ 129 → n ≤ (headSpec wsX8_hardOf ({ frames := 5, cells := 0, slots := 0, locals := 129 } : Room)).room.locals := fun n h => h
  generalize (headSpec wsX8_hardOf ({ frames := 5, cells := 0, slots := 0, locals := 129 } : Room)).room = R at hRf hRl ⊢
  generalize hQ : MQ below _ args s 0 0 _ = Q
  have C_16 : ∀ n : Nat, ∀ (mo_function : Int32) (mo_atX : Int32) (mo_atM : Int64) (x3 : Int32) (x4 : Int32) (H : Heap) (locs : List Loc) (ls : Array Slot), wp_X8_hardOf_16 post   n mo_function mo_atX mo_atM x3 x4 → va_P D vwCl [(a_mo, oX8 a_moR mo_e mo_f mo_codes mo_most mo_minus mo_low mo_function mo_atX mo_atM a_moK a_moH a_moS mo_spanFunction mo_spanRounding mo_spanMany a_moF a_moT mo_parts mo_shift a_moP a_moQ a_moA a_moB a_moD)] H → va_D A [(a_mo, oX8 a_moR mo_e mo_f mo_codes mo_most mo_minus mo_low mo_function mo_atX mo_atM a_moK a_moH a_moS mo_spanFunction mo_spanRounding mo_spanMany a_moF a_moT mo_parts mo_shift a_moP a_moQ a_moA a_moB a_moD)] → va_S A s.heap H locs → lv_has ls 5 [(3, .int x3), (4, .int x4)] → W p l e R s m args below meth c H locs 0 0 Q (F0 m 16 ls []) := by
    intro n
    induction n with
    | zero => intro mo_function mo_atX mo_atM x3 x4 H locs ls ho hP hD hS hl; exact ho.elim
    | succ n_16 ih_16 =>
      intro mo_function mo_atX mo_atM x3 x4 H locs ls ho hP hD hS hl
      replace ho : wp_X8_hardOf_16_b post  (wp_X8_hardOf_16 post  n_16) mo_function mo_atX mo_atM x3 x4 := ho
      unfold wp_X8_hardOf_16_b at ho
      refine lv_iload hx hb dX8_hardOf_16 (lv_at hl 1 rfl) ?_
      refine lv_bipush (v := 9) hx hb dX8_hardOf_18 (by decide) ?_
      refine lv_icmp_ge (tgt := 47) hx hb dX8_hardOf_20 (by decide) (fun c_20 => ?_) (fun c_20 => ?_)
      · replace ho := ho.1 c_20
        refine lv_iload hx hb dX8_hardOf_47 (lv_at hl 1 rfl) ?_
        subst hQ; exact W.iret (v := x4) hx hb hr (fun t ht hW => ⟨⟨x4, (mo_function, mo_atX, mo_atM), rfl, ho, by rw [ht]; exact hP, hD⟩, hS.F ht⟩) (fun q hq => hS.2.2 q hq) dX8_hardOf_49
      · replace ho := ho.2 c_20
        refine lv_iload_n hx hb dX8_hardOf_23 rfl (lv_at hl 0 rfl) ?_
        refine lv_bipush (v := 8) hx hb dX8_hardOf_24 (by decide) ?_
        refine lv_iload hx hb dX8_hardOf_26 (lv_at hl 1 rfl) ?_
        refine lv_isub hx hb dX8_hardOf_28 ?_
        refine lv_ishr hx hb dX8_hardOf_29 ?_
        refine lv_iconst (v := 1) hx hb dX8_hardOf_30 (by decide) ?_
        refine lv_iand hx hb dX8_hardOf_31 ?_
        refine lv_iload_n hx hb dX8_hardOf_32 rfl (lv_at hl 0 rfl) ?_
        refine lv_bipush (v := 8) hx hb dX8_hardOf_33 (by decide) ?_
        refine lv_ishr hx hb dX8_hardOf_35 ?_
        refine lv_iconst (v := 1) hx hb dX8_hardOf_36 (by decide) ?_
        refine lv_iand hx hb dX8_hardOf_37 ?_
        refine lv_icmp_ne (tgt := 47) hx hb dX8_hardOf_38 (by decide) (fun c_38 => ?_) (fun c_38 => ?_)
        · replace ho := ho.1 c_38
          refine lv_iload hx hb dX8_hardOf_47 (lv_at hl 1 rfl) ?_
          subst hQ; exact W.iret (v := x4) hx hb hr (fun t ht hW => ⟨⟨x4, (mo_function, mo_atX, mo_atM), rfl, ho, by rw [ht]; exact hP, hD⟩, hS.F ht⟩) (fun q hq => hS.2.2 q hq) dX8_hardOf_49
        · replace ho := ho.2 c_38
          refine lv_iinc (v := (x4 + (1 : Int32))) (lv' := [(4, .int (x4 + (1 : Int32))), (3, .int x3)]) hx hb dX8_hardOf_41 hl (k := 1) rfl rfl (by decide) rfl (fun ls hl => ?_)
          refine lv_goto (tgt := 16) hx hb dX8_hardOf_44 (by decide) ?_
          exact ih_16 mo_function mo_atX mo_atM x3 (x4 + (1 : Int32)) H locs ls ho hP hD hS (lv_sub hl [1, 0] rfl)
  unfold wp_X8_hardOf at ho
  refine lv_aload_n hx hb dX8_hardOf_0 rfl (lv_at hl 0 rfl) ?_
  refine lv_iload_n hx hb dX8_hardOf_1 rfl (lv_at hl 1 rfl) ?_
  refine lv_iload_n hx hb dX8_hardOf_2 rfl (lv_at hl 2 rfl) ?_
  refine ca_Wi (b := a_mo) (As := [.int p1, .int p2]) (rest := []) (wr := []) (wo := fun u => [(a_mo, oX8 a_moR mo_e mo_f mo_codes mo_most mo_minus mo_low u.1 u.2.1 u.2.2 a_moK a_moH a_moS mo_spanFunction mo_spanRounding mo_spanMany a_moF a_moT mo_parts mo_shift a_moP a_moQ a_moA a_moB a_moD)]) (wn := fun u => [(a_mo, oX8 a_moR mo_e mo_f mo_codes mo_most mo_minus mo_low u.1 u.2.1 u.2.2 a_moK a_moH a_moS mo_spanFunction mo_spanRounding mo_spanMany a_moF a_moT mo_parts mo_shift a_moP a_moQ a_moA a_moB a_moD)]) ⟨hx, hb, hml, hown, hts⟩ (c_X8_figuresOf l D cI cJ cZ a_mo a_moR a_moK a_moH a_moS a_moF a_moT a_moP a_moQ a_moA a_moB a_moD H.size mo_e mo_f mo_codes mo_most mo_minus mo_low mo_function mo_atX mo_atM mo_spanFunction mo_spanRounding mo_spanMany mo_parts mo_shift p1 p2 _ _ rfl ho) (cwV 2 hts gX8_hardOf_X8_figuresOf rfl rfl rfl (by decide +kernel) ⟨hRf _ (Nat.le_of_ble_eq_true rfl), hRl _ (Nat.le_of_ble_eq_true rfl)⟩) hK hN hP hD hS hA [0] [] [0] rfl rfl (by decide) (by decide) (by decide) (by decide) (fun _ => rfl) 0 7 rfl rfl rfl rfl hl.1 rfl (Nat.le_of_ble_eq_true rfl) dX8_hardOf_3 ⟨Nat.zero_le _, Nat.zero_le _⟩ (fun r3 u3 H locs ho hP hD hS => ?_)
  obtain ⟨u3_1, u3_2, u3_3⟩ := u3
  try dsimp only at ho
  replace hP : va_P D vwCl [(a_mo, oX8 a_moR mo_e mo_f mo_codes mo_most mo_minus mo_low u3_1 u3_2 u3_3 a_moK a_moH a_moS mo_spanFunction mo_spanRounding mo_spanMany a_moF a_moT mo_parts mo_shift a_moP a_moQ a_moA a_moB a_moD)] H := hP
  replace hD : va_D A [(a_mo, oX8 a_moR mo_e mo_f mo_codes mo_most mo_minus mo_low u3_1 u3_2 u3_3 a_moK a_moH a_moS mo_spanFunction mo_spanRounding mo_spanMany a_moF a_moT mo_parts mo_shift a_moP a_moQ a_moA a_moB a_moD)] := hD
  refine lv_istore_n (lv' := [(3, .int r3), (0, .ref a_mo), (1, .int p1), (2, .int p2)]) hx hb dX8_hardOf_6 rfl hl (by decide) rfl (fun ls hl => ?_)
  refine lv_iload_n hx hb dX8_hardOf_7 rfl (lv_at hl 0 rfl) ?_
  refine lv_if_ge (tgt := 13) hx hb dX8_hardOf_8 (by decide) (fun c_8 => ?_) (fun c_8 => ?_)
  · replace ho := ho.1 c_8
    refine lv_iconst (v := 1) hx hb dX8_hardOf_13 (by decide) ?_
    refine lv_istore (lv' := [(4, .int (1 : Int32)), (3, .int r3), (0, .ref a_mo), (1, .int p1), (2, .int p2)]) hx hb dX8_hardOf_14 hl (by decide) rfl (fun ls hl => ?_)
    obtain ⟨n_16, ho⟩ := ho
    exact C_16 n_16 u3_1 u3_2 u3_3 r3 (1 : Int32) H locs ls ho hP hD hS (lv_sub hl [1, 0] rfl)
  · replace ho := ho.2 c_8
    refine lv_iconst (v := 0) hx hb dX8_hardOf_11 (by decide) ?_
    subst hQ; exact W.iret (v := (0 : Int32)) hx hb hr (fun t ht hW => ⟨⟨(0 : Int32), (u3_1, u3_2, u3_3), rfl, ho, by rw [ht]; exact hP, hD⟩, hS.F ht⟩) (fun q hq => hS.2.2 q hq) dX8_hardOf_12

def wp_X8_hard_24 (post : Int32 → Int32 → Int32 → Int64 → (Nat → Int32) → Prop)  (mo_function : Int32) (mo_atX : Int32) (mo_atM : Int64) (moR_r : Nat → Int32) : Prop := wp_X8_refuse (fun r26 u26 => (post r26 mo_function mo_atX mo_atM u26)) moR_r (-1 : Int32)
def wp_X8_hard (post : Int32 → Int32 → Int32 → Int64 → (Nat → Int32) → Prop) (mo_f : Int32) (mo_codes : Int32) (mo_most : Int32) (mo_minus : Int32) (mo_low : Int32) (mo_function : Int32) (mo_atX : Int32) (mo_atM : Int64) (moR_r : Nat → Int32) (p1 : Int32) (p2 : Int32) : Prop := wp_X8_isFunction (fun r1 => (((r1 = 0) → (wp_X8_hard_24 post mo_function mo_atX mo_atM moR_r)) ∧ ((¬ (r1 = 0)) → (wp_X8_isCode (fun r9 => (((r9 = 0) → (wp_X8_hard_24 post mo_function mo_atX mo_atM moR_r)) ∧ ((¬ (r9 = 0)) → (wp_X8_hardOf (fun r18 u18_1 u18_2 u18_3 => (post r18 u18_1 u18_2 u18_3 moR_r)) mo_f mo_most mo_minus mo_low mo_function mo_atX mo_atM p1 p2)))) mo_codes p2)))) p1
set_option maxHeartbeats 4000000 in
set_option maxRecDepth 100000 in
theorem c_X8_hard (l : Launch) (D : va_G) (cI cJ cZ : ClassId) (a_mo : Nat) (a_moR : Nat) (a_moK : Nat) (a_moH : Nat) (a_moS : Nat) (a_moF : Nat) (a_moT : Nat) (a_moP : Nat) (a_moQ : Nat) (a_moA : Nat) (a_moB : Nat) (a_moD : Nat) (sz : Nat) (mo_e : Int32) (mo_f : Int32) (mo_codes : Int32) (mo_most : Int32) (mo_minus : Int32) (mo_low : Int32) (mo_function : Int32) (mo_atX : Int32) (mo_atM : Int64) (mo_spanFunction : Int32) (mo_spanRounding : Int32) (mo_spanMany : Int32) (mo_parts : Int32) (mo_shift : Int32) (moR_r : Nat → Int32) (p1 : Int32) (p2 : Int32) (post : Int32 → Int32 → Int32 → Int64 → (Nat → Int32) → Prop) (A : Nat → Prop) (hAe : A = va_A [(a_mo, oX8 a_moR mo_e mo_f mo_codes mo_most mo_minus mo_low mo_function mo_atX mo_atM a_moK a_moH a_moS mo_spanFunction mo_spanRounding mo_spanMany a_moF a_moT mo_parts mo_shift a_moP a_moQ a_moA a_moB a_moD), (a_moR, .inl (cI, 7, .inl moR_r))] sz) (ho : wp_X8_hard post mo_f mo_codes mo_most mo_minus mo_low mo_function mo_atX mo_atM moR_r p1 p2) : Met l yX8_hard wsX8_hard ({ frames := 6, cells := 0, slots := 0, locals := 153 } : Room) (rw_P D [(cI, .int), (cJ, .long), (cZ, .boolean)] [.ref a_mo, .int p1, .int p2] sz [(a_mo, oX8 a_moR mo_e mo_f mo_codes mo_most mo_minus mo_low mo_function mo_atX mo_atM a_moK a_moH a_moS mo_spanFunction mo_spanRounding mo_spanMany a_moF a_moT mo_parts mo_shift a_moP a_moQ a_moA a_moB a_moD), (a_moR, .inl (cI, 7, .inl moR_r))]) (va_Qi (fun (r : Int32) (u : (Int32) × (Int32) × (Int64) × (Nat → Int32)) => post r u.1 u.2.1 u.2.2.1 u.2.2.2) (rw_B D A (fun (u : (Int32) × (Int32) × (Int64) × (Nat → Int32)) => [(a_mo, oX8 a_moR mo_e mo_f mo_codes mo_most mo_minus mo_low u.1 u.2.1 u.2.2.1 a_moK a_moH a_moS mo_spanFunction mo_spanRounding mo_spanMany a_moF a_moT mo_parts mo_shift a_moP a_moQ a_moA a_moB a_moD), (a_moR, .inl (cI, 7, .inl u.2.2.2))])) A) 0 0 A := by
  refine Met.ofW (cc := cX8_hard) (maxL := 3) (ret := (some .int)) (by decide) rfl ?_
  intro p e s m args below meth c s₁ B hml hv
  obtain ⟨hargs, hsz, hP, hK, hN, hD0⟩ := hv
  have hx := B.exec
  have hb := B.bytes
  have hr := B.returns
  have hts := atoms_spec (ws := wsX8_hard) B.pre
  have hown : s.vm.findClass RX8 = some m.cls := findClass_of_methodNamed B.named
  have hlocks := B.notSynchronized
  subst hsz
  have hD : va_D A [(a_mo, oX8 a_moR mo_e mo_f mo_codes mo_most mo_minus mo_low mo_function mo_atX mo_atM a_moK a_moH a_moS mo_spanFunction mo_spanRounding mo_spanMany a_moF a_moT mo_parts mo_shift a_moP a_moQ a_moA a_moB a_moD), (a_moR, .inl (cI, 7, .inl moR_r))] := by rw [hAe]; exact hD0.self
  have hA : ∀ q : Nat, s.heap.size ≤ q → A q := fun q h => by rw [hAe]; exact Or.inr h
  have hS : va_S A s.heap s.heap [] := va_S.rf
  have hl := lv_entry ([.ref a_mo, .int p1, .int p2]) (n := 3) (Nat.le_of_ble_eq_true rfl)
  rw [hargs, lg_entry_eq, ← hargs]
  generalize (lg_sl ([.ref a_mo, .int p1, .int p2]) ++ List.replicate (3 - (lg_sl ([.ref a_mo, .int p1, .int p2])).length) Slot.unset).toArray = ls at hl ⊢
  replace hl : lv_has ls 3 [(0, .ref a_mo), (1, .int p1), (2, .int p2)] := hl
  have hRf : ∀ n, n ≤ 6 → n ≤ (headSpec wsX8_hard ({ frames := 6, cells := 0, slots := 0, locals := 153 } : Room)).room.frames := fun n h => h
  have hRl : ∀ n, n ≤ 153 → n ≤ (headSpec wsX8_hard ({ frames := 6, cells := 0, slots := 0, locals := 153 } : Room)).room.locals := fun n h => h
  generalize (headSpec wsX8_hard ({ frames := 6, cells := 0, slots := 0, locals := 153 } : Room)).room = R at hRf hRl ⊢
  generalize hQ : MQ below _ args s 0 0 _ = Q
  have C_24 : ∀ (mo_function : Int32) (mo_atX : Int32) (mo_atM : Int64) (moR_r : Nat → Int32) (H : Heap) (locs : List Loc) (ls : Array Slot), wp_X8_hard_24 post  mo_function mo_atX mo_atM moR_r → va_P D vwCl [(a_mo, oX8 a_moR mo_e mo_f mo_codes mo_most mo_minus mo_low mo_function mo_atX mo_atM a_moK a_moH a_moS mo_spanFunction mo_spanRounding mo_spanMany a_moF a_moT mo_parts mo_shift a_moP a_moQ a_moA a_moB a_moD), (a_moR, .inl (cI, 7, .inl moR_r))] H → va_D A [(a_mo, oX8 a_moR mo_e mo_f mo_codes mo_most mo_minus mo_low mo_function mo_atX mo_atM a_moK a_moH a_moS mo_spanFunction mo_spanRounding mo_spanMany a_moF a_moT mo_parts mo_shift a_moP a_moQ a_moA a_moB a_moD), (a_moR, .inl (cI, 7, .inl moR_r))] → va_S A s.heap H locs → lv_has ls 3 [(0, .ref a_mo)] → W p l e R s m args below meth c H locs 0 0 Q (F0 m 24 ls []) := by
    intro mo_function mo_atX mo_atM moR_r H locs ls ho hP hD hS hl
    unfold wp_X8_hard_24 at ho
    refine lv_aload_n hx hb dX8_hard_24 rfl (lv_at hl 0 rfl) ?_
    refine lv_iconst (v := (-1)) hx hb dX8_hard_25 (by decide) ?_
    refine ca_Wi (b := a_mo) (As := [.int (-1 : Int32)]) (rest := []) (wr := []) (wo := fun u => [(a_mo, oX8 a_moR mo_e mo_f mo_codes mo_most mo_minus mo_low mo_function mo_atX mo_atM a_moK a_moH a_moS mo_spanFunction mo_spanRounding mo_spanMany a_moF a_moT mo_parts mo_shift a_moP a_moQ a_moA a_moB a_moD), (a_moR, .inl (cI, 7, .inl u))]) (wn := fun u => [(a_mo, oX8 a_moR mo_e mo_f mo_codes mo_most mo_minus mo_low mo_function mo_atX mo_atM a_moK a_moH a_moS mo_spanFunction mo_spanRounding mo_spanMany a_moF a_moT mo_parts mo_shift a_moP a_moQ a_moA a_moB a_moD), (a_moR, .inl (cI, 7, .inl u))]) ⟨hx, hb, hml, hown, hts⟩ (c_X8_refuse l D cI cJ cZ a_mo a_moR a_moK a_moH a_moS a_moF a_moT a_moP a_moQ a_moA a_moB a_moD H.size mo_e mo_f mo_codes mo_most mo_minus mo_low mo_function mo_atX mo_atM mo_spanFunction mo_spanRounding mo_spanMany mo_parts mo_shift moR_r (-1 : Int32) _ _ rfl ho) (cwV 1 hts gX8_hard_X8_refuse rfl rfl rfl (by decide +kernel) ⟨hRf _ (Nat.le_of_ble_eq_true rfl), hRl _ (Nat.le_of_ble_eq_true rfl)⟩) hK hN hP hD hS hA [0, 1] [] [0, 1] rfl rfl (by decide) (by decide) (by decide) (by decide) (fun _ => rfl) 0 7 rfl rfl rfl rfl hl.1 rfl (Nat.le_of_ble_eq_true rfl) dX8_hard_26 ⟨Nat.zero_le _, Nat.zero_le _⟩ (fun r26 u26 H locs ho hP hD hS => ?_)
    try dsimp only at ho
    replace hP : va_P D vwCl [(a_mo, oX8 a_moR mo_e mo_f mo_codes mo_most mo_minus mo_low mo_function mo_atX mo_atM a_moK a_moH a_moS mo_spanFunction mo_spanRounding mo_spanMany a_moF a_moT mo_parts mo_shift a_moP a_moQ a_moA a_moB a_moD), (a_moR, .inl (cI, 7, .inl u26))] H := hP
    replace hD : va_D A [(a_mo, oX8 a_moR mo_e mo_f mo_codes mo_most mo_minus mo_low mo_function mo_atX mo_atM a_moK a_moH a_moS mo_spanFunction mo_spanRounding mo_spanMany a_moF a_moT mo_parts mo_shift a_moP a_moQ a_moA a_moB a_moD), (a_moR, .inl (cI, 7, .inl u26))] := hD
    subst hQ; exact W.iret (v := r26) hx hb hr (fun t ht hW => ⟨⟨r26, (mo_function, mo_atX, mo_atM, u26), rfl, ho, by rw [ht]; exact hP, hD⟩, hS.F ht⟩) (fun q hq => hS.2.2 q hq) dX8_hard_29
  unfold wp_X8_hard at ho
  refine lv_iload_n hx hb dX8_hard_0 rfl (lv_at hl 1 rfl) ?_
  refine ca_Si (As := [.int p1]) (rest := []) ⟨hx, hb, hml, hown, hts⟩ (c_X8_isFunction l D cI cJ cZ   p1 _ ho) (va_cwS 1 hts gX8_hard_X8_isFunction rfl rfl rfl (by decide +kernel) ⟨hRf _ (Nat.le_of_ble_eq_true rfl), hRl _ (Nat.le_of_ble_eq_true rfl)⟩) hK hN hP [] rfl rfl hl.1 rfl (Nat.le_of_ble_eq_true rfl) dX8_hard_1 ⟨Nat.zero_le _, Nat.zero_le _⟩ (fun r1 ho => ?_)
  refine lv_if_eq (tgt := 24) hx hb dX8_hard_4 (by decide) (fun c_4 => ?_) (fun c_4 => ?_)
  · replace ho := ho.1 c_4
    exact C_24 mo_function mo_atX mo_atM moR_r H locs ls ho hP hD hS (lv_sub hl [0] rfl)
  · replace ho := ho.2 c_4
    refine lv_aload_n hx hb dX8_hard_7 rfl (lv_at hl 0 rfl) ?_
    refine lv_iload_n hx hb dX8_hard_8 rfl (lv_at hl 2 rfl) ?_
    refine ca_Vi (b := a_mo) (As := [.int p2]) (rest := []) ⟨hx, hb, hml, hown, hts⟩ (c_X8_isCode l D cI cJ cZ a_mo a_moR a_moK a_moH a_moS a_moF a_moT a_moP a_moQ a_moA a_moB a_moD mo_e mo_f mo_codes mo_most mo_minus mo_low mo_function mo_atX mo_atM mo_spanFunction mo_spanRounding mo_spanMany mo_parts mo_shift p2 _ ho) (cwV 1 hts gX8_hard_X8_isCode rfl rfl rfl (by decide +kernel) ⟨hRf _ (Nat.le_of_ble_eq_true rfl), hRl _ (Nat.le_of_ble_eq_true rfl)⟩) hK hN hP [0] rfl 0 7 rfl rfl rfl rfl hl.1 rfl (Nat.le_of_ble_eq_true rfl) dX8_hard_9 ⟨Nat.zero_le _, Nat.zero_le _⟩ (fun r9 ho => ?_)
    refine lv_if_eq (tgt := 24) hx hb dX8_hard_12 (by decide) (fun c_12 => ?_) (fun c_12 => ?_)
    · replace ho := ho.1 c_12
      exact C_24 mo_function mo_atX mo_atM moR_r H locs ls ho hP hD hS (lv_sub hl [0] rfl)
    · replace ho := ho.2 c_12
      refine lv_aload_n hx hb dX8_hard_15 rfl (lv_at hl 0 rfl) ?_
      refine lv_iload_n hx hb dX8_hard_16 rfl (lv_at hl 1 rfl) ?_
      refine lv_iload_n hx hb dX8_hard_17 rfl (lv_at hl 2 rfl) ?_
      refine ca_Wi (b := a_mo) (As := [.int p1, .int p2]) (rest := []) (wr := [(a_moR, .inl (cI, 7, .inl moR_r))]) (wo := fun u => [(a_mo, oX8 a_moR mo_e mo_f mo_codes mo_most mo_minus mo_low u.1 u.2.1 u.2.2 a_moK a_moH a_moS mo_spanFunction mo_spanRounding mo_spanMany a_moF a_moT mo_parts mo_shift a_moP a_moQ a_moA a_moB a_moD)]) (wn := fun u => [(a_mo, oX8 a_moR mo_e mo_f mo_codes mo_most mo_minus mo_low u.1 u.2.1 u.2.2 a_moK a_moH a_moS mo_spanFunction mo_spanRounding mo_spanMany a_moF a_moT mo_parts mo_shift a_moP a_moQ a_moA a_moB a_moD), (a_moR, .inl (cI, 7, .inl moR_r))]) ⟨hx, hb, hml, hown, hts⟩ (c_X8_hardOf l D cI cJ cZ a_mo a_moR a_moK a_moH a_moS a_moF a_moT a_moP a_moQ a_moA a_moB a_moD H.size mo_e mo_f mo_codes mo_most mo_minus mo_low mo_function mo_atX mo_atM mo_spanFunction mo_spanRounding mo_spanMany mo_parts mo_shift p1 p2 _ _ rfl ho) (cwV 2 hts gX8_hard_X8_hardOf rfl rfl rfl (by decide +kernel) ⟨hRf _ (Nat.le_of_ble_eq_true rfl), hRl _ (Nat.le_of_ble_eq_true rfl)⟩) hK hN hP hD hS hA [0] [1] [1, 0] rfl rfl (by decide) (by decide) (by decide) (by decide) (fun _ => rfl) 0 7 rfl rfl rfl rfl hl.1 rfl (Nat.le_of_ble_eq_true rfl) dX8_hard_18 ⟨Nat.zero_le _, Nat.zero_le _⟩ (fun r18 u18 H locs ho hP hD hS => ?_)
      obtain ⟨u18_1, u18_2, u18_3⟩ := u18
      try dsimp only at ho
      replace hP : va_P D vwCl [(a_mo, oX8 a_moR mo_e mo_f mo_codes mo_most mo_minus mo_low u18_1 u18_2 u18_3 a_moK a_moH a_moS mo_spanFunction mo_spanRounding mo_spanMany a_moF a_moT mo_parts mo_shift a_moP a_moQ a_moA a_moB a_moD), (a_moR, .inl (cI, 7, .inl moR_r))] H := hP
      replace hD : va_D A [(a_mo, oX8 a_moR mo_e mo_f mo_codes mo_most mo_minus mo_low u18_1 u18_2 u18_3 a_moK a_moH a_moS mo_spanFunction mo_spanRounding mo_spanMany a_moF a_moT mo_parts mo_shift a_moP a_moQ a_moA a_moB a_moD), (a_moR, .inl (cI, 7, .inl moR_r))] := hD
      refine lv_goto (tgt := 29) hx hb dX8_hard_21 (by decide) ?_
      subst hQ; exact W.iret (v := r18) hx hb hr (fun t ht hW => ⟨⟨r18, (u18_1, u18_2, u18_3, moR_r), rfl, ho, by rw [ht]; exact hP, hD⟩, hS.F ht⟩) (fun q hq => hS.2.2 q hq) dX8_hard_29

def wp_X8_know_19_b (post : Int32 → Int32 → Int64 → (Nat → Int32) → (Nat → Int32) → (Nat → Int32) → Prop)  (mo_f : Int32) (mo_codes : Int32) (mo_most : Int32) (mo_minus : Int32) (mo_low : Int32) (p1 : Int32) (K_19 : Int32 → Int32 → Int64 → (Nat → Int32) → (Nat → Int32) → (Nat → Int32) → Int32 → Prop) (mo_function : Int32) (mo_atX : Int32) (mo_atM : Int64) (moK_r : Nat → Int32) (moH_r : Nat → Int32) (moS_r : Nat → Int32) (x2 : Int32) : Prop := ((mo_codes ≤ x2) → (post  mo_function mo_atX mo_atM moK_r moH_r moS_r)) ∧ ((¬ (mo_codes ≤ x2)) → (wp_X8_hardOf (fun r41 u41_1 u41_2 u41_3 => ((vp_in (((16384 : Int32) * p1) + x2) 81920) ∧ (wp_X8_sortOf (fun r59 u59_1 u59_2 u59_3 => ((vp_in (((16384 : Int32) * p1) + x2) 81920) ∧ (K_19 u59_1 u59_2 u59_3 moK_r (upd moH_r (((16384 : Int32) * p1) + x2).toNatClampNeg r41) (upd moS_r (((16384 : Int32) * p1) + x2).toNatClampNeg r59) (x2 + (1 : Int32))))) mo_f mo_most mo_minus mo_low u41_1 u41_2 u41_3 p1 x2))) mo_f mo_most mo_minus mo_low mo_function mo_atX mo_atM p1 x2))
noncomputable def wp_X8_know_19 (post : Int32 → Int32 → Int64 → (Nat → Int32) → (Nat → Int32) → (Nat → Int32) → Prop)  (mo_f : Int32) (mo_codes : Int32) (mo_most : Int32) (mo_minus : Int32) (mo_low : Int32) (p1 : Int32) (n : Nat) : Int32 → Int32 → Int64 → (Nat → Int32) → (Nat → Int32) → (Nat → Int32) → Int32 → Prop := Nat.rec (motive := fun _ => Int32 → Int32 → Int64 → (Nat → Int32) → (Nat → Int32) → (Nat → Int32) → Int32 → Prop) (fun _ _ _ _ _ _ _ => False) (fun _ K_19 => wp_X8_know_19_b post mo_f mo_codes mo_most mo_minus mo_low p1 K_19) n
def wp_X8_know (post : Int32 → Int32 → Int64 → (Nat → Int32) → (Nat → Int32) → (Nat → Int32) → Prop) (mo_f : Int32) (mo_codes : Int32) (mo_most : Int32) (mo_minus : Int32) (mo_low : Int32) (mo_function : Int32) (mo_atX : Int32) (mo_atM : Int64) (moK_r : Nat → Int32) (moH_r : Nat → Int32) (moS_r : Nat → Int32) (p1 : Int32) : Prop := (vp_in p1 5) ∧ ((((moK_r p1.toNatClampNeg) = 0) → ((vp_in p1 5) ∧ (∃ n, wp_X8_know_19 post mo_f mo_codes mo_most mo_minus mo_low p1 n mo_function mo_atX mo_atM (upd moK_r p1.toNatClampNeg (vp_nar .boolean (1 : Int32))) moH_r moS_r (0 : Int32)))) ∧ ((¬ ((moK_r p1.toNatClampNeg) = 0)) → (post  mo_function mo_atX mo_atM moK_r moH_r moS_r)))
set_option maxRecDepth 20000 in
theorem in_X8_know_X8 : ∀ w ∈ u_ws RX8 TX8 25, w ∈ wsX8_know := fun w h => (goodIn_r wsX80 [72, 73, 74, 75, 76, 77, 78, 79, 80, 81, 82, 83, 84, 85, 86, 87, 88, 89, 90, 91, 92, 93, 94, 95, 96] (by decide +kernel) (by decide +kernel) w h).1
set_option maxHeartbeats 4000000 in
set_option maxRecDepth 100000 in
theorem c_X8_know (l : Launch) (D : va_G) (cI cJ cZ : ClassId) (a_mo : Nat) (a_moR : Nat) (a_moK : Nat) (a_moH : Nat) (a_moS : Nat) (a_moF : Nat) (a_moT : Nat) (a_moP : Nat) (a_moQ : Nat) (a_moA : Nat) (a_moB : Nat) (a_moD : Nat) (sz : Nat) (mo_e : Int32) (mo_f : Int32) (mo_codes : Int32) (mo_most : Int32) (mo_minus : Int32) (mo_low : Int32) (mo_function : Int32) (mo_atX : Int32) (mo_atM : Int64) (mo_spanFunction : Int32) (mo_spanRounding : Int32) (mo_spanMany : Int32) (mo_parts : Int32) (mo_shift : Int32) (moK_r : Nat → Int32) (moH_r : Nat → Int32) (moS_r : Nat → Int32) (p1 : Int32) (post : Int32 → Int32 → Int64 → (Nat → Int32) → (Nat → Int32) → (Nat → Int32) → Prop) (A : Nat → Prop) (hAe : A = va_A [(a_mo, oX8 a_moR mo_e mo_f mo_codes mo_most mo_minus mo_low mo_function mo_atX mo_atM a_moK a_moH a_moS mo_spanFunction mo_spanRounding mo_spanMany a_moF a_moT mo_parts mo_shift a_moP a_moQ a_moA a_moB a_moD), (a_moK, .inl (cZ, 5, .inl moK_r)), (a_moH, .inl (cI, 81920, .inl moH_r)), (a_moS, .inl (cI, 81920, .inl moS_r))] sz) (ho : wp_X8_know post mo_f mo_codes mo_most mo_minus mo_low mo_function mo_atX mo_atM moK_r moH_r moS_r p1) : Met l yX8_know wsX8_know ({ frames := 6, cells := 0, slots := 0, locals := 153 } : Room) (rw_P D [(cI, .int), (cJ, .long), (cZ, .boolean)] [.ref a_mo, .int p1] sz [(a_mo, oX8 a_moR mo_e mo_f mo_codes mo_most mo_minus mo_low mo_function mo_atX mo_atM a_moK a_moH a_moS mo_spanFunction mo_spanRounding mo_spanMany a_moF a_moT mo_parts mo_shift a_moP a_moQ a_moA a_moB a_moD), (a_moK, .inl (cZ, 5, .inl moK_r)), (a_moH, .inl (cI, 81920, .inl moH_r)), (a_moS, .inl (cI, 81920, .inl moS_r))]) (va_Qv (fun (u : (Int32) × (Int32) × (Int64) × (Nat → Int32) × (Nat → Int32) × (Nat → Int32)) => post u.1 u.2.1 u.2.2.1 u.2.2.2.1 u.2.2.2.2.1 u.2.2.2.2.2) (rw_B D A (fun (u : (Int32) × (Int32) × (Int64) × (Nat → Int32) × (Nat → Int32) × (Nat → Int32)) => [(a_mo, oX8 a_moR mo_e mo_f mo_codes mo_most mo_minus mo_low u.1 u.2.1 u.2.2.1 a_moK a_moH a_moS mo_spanFunction mo_spanRounding mo_spanMany a_moF a_moT mo_parts mo_shift a_moP a_moQ a_moA a_moB a_moD), (a_moK, .inl (cZ, 5, .inl u.2.2.2.1)), (a_moH, .inl (cI, 81920, .inl u.2.2.2.2.1)), (a_moS, .inl (cI, 81920, .inl u.2.2.2.2.2))])) A) 0 0 A := by
  refine Met.ofW (cc := cX8_know) (maxL := 3) (ret := none) (by decide) rfl ?_
  intro p e s m args below meth c s₁ B hml hv
  obtain ⟨hargs, hsz, hP, hK, hN, hD0⟩ := hv
  have hx := B.exec
  have hb := B.bytes
  have hr := B.returns
  have hts := atoms_spec (ws := wsX8_know) B.pre
  have hown : s.vm.findClass RX8 = some m.cls := findClass_of_methodNamed B.named
  have hlocks := B.notSynchronized
  subst hsz
  have hD : va_D A [(a_mo, oX8 a_moR mo_e mo_f mo_codes mo_most mo_minus mo_low mo_function mo_atX mo_atM a_moK a_moH a_moS mo_spanFunction mo_spanRounding mo_spanMany a_moF a_moT mo_parts mo_shift a_moP a_moQ a_moA a_moB a_moD), (a_moK, .inl (cZ, 5, .inl moK_r)), (a_moH, .inl (cI, 81920, .inl moH_r)), (a_moS, .inl (cI, 81920, .inl moS_r))] := by rw [hAe]; exact hD0.self
  have hA : ∀ q : Nat, s.heap.size ≤ q → A q := fun q h => by rw [hAe]; exact Or.inr h
  have hS : va_S A s.heap s.heap [] := va_S.rf
  have hl := lv_entry ([.ref a_mo, .int p1]) (n := 3) (Nat.le_of_ble_eq_true rfl)
  rw [hargs, lg_entry_eq, ← hargs]
  generalize (lg_sl ([.ref a_mo, .int p1]) ++ List.replicate (3 - (lg_sl ([.ref a_mo, .int p1])).length) Slot.unset).toArray = ls at hl ⊢
  replace hl : lv_has ls 3 [(0, .ref a_mo), (1, .int p1)] := hl
  have hRf : ∀ n, n ≤ 6 → n ≤ (headSpec wsX8_know ({ frames := 6, cells := 0, slots := 0, locals := 153 } : Room)).room.frames := fun n h => h
  have hRl : ∀ n, n ≤ 153 → n ≤ (headSpec wsX8_know ({ frames := 6, cells := 0, slots := 0, locals := 153 } : Room)).room.locals := fun n h => h
  generalize (headSpec wsX8_know ({ frames := 6, cells := 0, slots := 0, locals := 153 } : Room)).room = R at hRf hRl ⊢
  generalize hQ : MQ below _ args s 0 0 _ = Q
  have C_19 : ∀ n : Nat, ∀ (mo_function : Int32) (mo_atX : Int32) (mo_atM : Int64) (moK_r : Nat → Int32) (moH_r : Nat → Int32) (moS_r : Nat → Int32) (x2 : Int32) (H : Heap) (locs : List Loc) (ls : Array Slot), wp_X8_know_19 post  mo_f mo_codes mo_most mo_minus mo_low p1 n mo_function mo_atX mo_atM moK_r moH_r moS_r x2 → va_P D vwCl [(a_mo, oX8 a_moR mo_e mo_f mo_codes mo_most mo_minus mo_low mo_function mo_atX mo_atM a_moK a_moH a_moS mo_spanFunction mo_spanRounding mo_spanMany a_moF a_moT mo_parts mo_shift a_moP a_moQ a_moA a_moB a_moD), (a_moK, .inl (cZ, 5, .inl moK_r)), (a_moH, .inl (cI, 81920, .inl moH_r)), (a_moS, .inl (cI, 81920, .inl moS_r))] H → va_D A [(a_mo, oX8 a_moR mo_e mo_f mo_codes mo_most mo_minus mo_low mo_function mo_atX mo_atM a_moK a_moH a_moS mo_spanFunction mo_spanRounding mo_spanMany a_moF a_moT mo_parts mo_shift a_moP a_moQ a_moA a_moB a_moD), (a_moK, .inl (cZ, 5, .inl moK_r)), (a_moH, .inl (cI, 81920, .inl moH_r)), (a_moS, .inl (cI, 81920, .inl moS_r))] → va_S A s.heap H locs → lv_has ls 3 [(0, .ref a_mo), (1, .int p1), (2, .int x2)] → W p l e R s m args below meth c H locs 0 0 Q (F0 m 19 ls []) := by
    intro n
    induction n with
    | zero => intro mo_function mo_atX mo_atM moK_r moH_r moS_r x2 H locs ls ho hP hD hS hl; exact ho.elim
    | succ n_19 ih_19 =>
      intro mo_function mo_atX mo_atM moK_r moH_r moS_r x2 H locs ls ho hP hD hS hl
      replace ho : wp_X8_know_19_b post mo_f mo_codes mo_most mo_minus mo_low p1 (wp_X8_know_19 post mo_f mo_codes mo_most mo_minus mo_low p1 n_19) mo_function mo_atX mo_atM moK_r moH_r moS_r x2 := ho
      unfold wp_X8_know_19_b at ho
      refine lv_iload_n hx hb dX8_know_19 rfl (lv_at hl 2 rfl) ?_
      refine lv_aload_n hx hb dX8_know_20 rfl (lv_at hl 0 rfl) ?_
      refine va_get (D := D) (ci := 7) (v := .int mo_codes) (C := RX8) (T := TX8) (N := 25) hx hb hts in_X8_know_X8 hown hK hP 0 rfl rfl 3 (by decide) (hts (.fieldLink RX8 62 "HardBenchModel" "codes" "I") (List.mem_of_getElem? (i := 2) (by decide +kernel))) (fun _ h9 => h9) rfl dX8_know_21 ?_
      refine lv_icmp_ge (tgt := 69) hx hb dX8_know_24 (by decide) (fun c_24 => ?_) (fun c_24 => ?_)
      · replace ho := ho.1 c_24
        subst hQ; exact W.vret hx hb hr (fun t ht hW => ⟨⟨(mo_function, mo_atX, mo_atM, moK_r, moH_r, moS_r), rfl, ho, by rw [ht]; exact hP, hD⟩, hS.F ht⟩) (fun q hq => hS.2.2 q hq) dX8_know_69
      · replace ho := ho.2 c_24
        refine lv_aload_n hx hb dX8_know_27 rfl (lv_at hl 0 rfl) ?_
        refine va_get (D := D) (ci := 7) (v := .ref a_moH) (C := RX8) (T := TX8) (N := 25) hx hb hts in_X8_know_X8 hown hK hP 0 rfl rfl 11 (by decide) (hts (.fieldLink RX8 18 "HardBenchModel" "hards" "[I") (List.mem_of_getElem? (i := 3) (by decide +kernel))) (fun _ h9 => h9) rfl dX8_know_28 ?_
        refine lv_sipush (v := 16384) hx hb dX8_know_31 (by decide) ?_
        refine lv_iload_n hx hb dX8_know_34 rfl (lv_at hl 1 rfl) ?_
        refine lv_imul hx hb dX8_know_35 ?_
        refine lv_iload_n hx hb dX8_know_36 rfl (lv_at hl 2 rfl) ?_
        refine lv_iadd hx hb dX8_know_37 ?_
        refine lv_aload_n hx hb dX8_know_38 rfl (lv_at hl 0 rfl) ?_
        refine lv_iload_n hx hb dX8_know_39 rfl (lv_at hl 1 rfl) ?_
        refine lv_iload_n hx hb dX8_know_40 rfl (lv_at hl 2 rfl) ?_
        refine ca_Wi (b := a_mo) (As := [.int p1, .int x2]) (rest := [.int (((16384 : Int32) * p1) + x2), .ref a_moH]) (wr := [(a_moK, .inl (cZ, 5, .inl moK_r)), (a_moH, .inl (cI, 81920, .inl moH_r)), (a_moS, .inl (cI, 81920, .inl moS_r))]) (wo := fun u => [(a_mo, oX8 a_moR mo_e mo_f mo_codes mo_most mo_minus mo_low u.1 u.2.1 u.2.2 a_moK a_moH a_moS mo_spanFunction mo_spanRounding mo_spanMany a_moF a_moT mo_parts mo_shift a_moP a_moQ a_moA a_moB a_moD)]) (wn := fun u => [(a_mo, oX8 a_moR mo_e mo_f mo_codes mo_most mo_minus mo_low u.1 u.2.1 u.2.2 a_moK a_moH a_moS mo_spanFunction mo_spanRounding mo_spanMany a_moF a_moT mo_parts mo_shift a_moP a_moQ a_moA a_moB a_moD), (a_moK, .inl (cZ, 5, .inl moK_r)), (a_moH, .inl (cI, 81920, .inl moH_r)), (a_moS, .inl (cI, 81920, .inl moS_r))]) ⟨hx, hb, hml, hown, hts⟩ (c_X8_hardOf l D cI cJ cZ a_mo a_moR a_moK a_moH a_moS a_moF a_moT a_moP a_moQ a_moA a_moB a_moD H.size mo_e mo_f mo_codes mo_most mo_minus mo_low mo_function mo_atX mo_atM mo_spanFunction mo_spanRounding mo_spanMany mo_parts mo_shift p1 x2 _ _ rfl ho) (cwV 2 hts gX8_know_X8_hardOf rfl rfl rfl (by decide +kernel) ⟨hRf _ (Nat.le_of_ble_eq_true rfl), hRl _ (Nat.le_of_ble_eq_true rfl)⟩) hK hN hP hD hS hA [0] [1, 2, 3] [3, 0, 1, 2] rfl rfl (by decide) (by decide) (by decide) (by decide) (fun _ => rfl) 0 7 rfl rfl rfl rfl hl.1 rfl (Nat.le_of_ble_eq_true rfl) dX8_know_41 ⟨Nat.zero_le _, Nat.zero_le _⟩ (fun r41 u41 H locs ho hP hD hS => ?_)
        obtain ⟨u41_1, u41_2, u41_3⟩ := u41
        try dsimp only at ho
        replace hP : va_P D vwCl [(a_mo, oX8 a_moR mo_e mo_f mo_codes mo_most mo_minus mo_low u41_1 u41_2 u41_3 a_moK a_moH a_moS mo_spanFunction mo_spanRounding mo_spanMany a_moF a_moT mo_parts mo_shift a_moP a_moQ a_moA a_moB a_moD), (a_moK, .inl (cZ, 5, .inl moK_r)), (a_moH, .inl (cI, 81920, .inl moH_r)), (a_moS, .inl (cI, 81920, .inl moS_r))] H := hP
        replace hD : va_D A [(a_mo, oX8 a_moR mo_e mo_f mo_codes mo_most mo_minus mo_low u41_1 u41_2 u41_3 a_moK a_moH a_moS mo_spanFunction mo_spanRounding mo_spanMany a_moF a_moT mo_parts mo_shift a_moP a_moQ a_moA a_moB a_moD), (a_moK, .inl (cZ, 5, .inl moK_r)), (a_moH, .inl (cI, 81920, .inl moH_r)), (a_moS, .inl (cI, 81920, .inl moS_r))] := hD
        have o_44 := ho.1
        replace ho := ho.2
        refine va_iast hx hb hK hP hD hS 2 0 rfl rfl o_44 dX8_know_44 (fun H locs hP hD hS => ?_)
        replace hP : va_P D vwCl [(a_mo, oX8 a_moR mo_e mo_f mo_codes mo_most mo_minus mo_low u41_1 u41_2 u41_3 a_moK a_moH a_moS mo_spanFunction mo_spanRounding mo_spanMany a_moF a_moT mo_parts mo_shift a_moP a_moQ a_moA a_moB a_moD), (a_moK, .inl (cZ, 5, .inl moK_r)), (a_moH, .inl (cI, 81920, .inl (upd moH_r (((16384 : Int32) * p1) + x2).toNatClampNeg r41))), (a_moS, .inl (cI, 81920, .inl moS_r))] H := hP
        replace hD : va_D A [(a_mo, oX8 a_moR mo_e mo_f mo_codes mo_most mo_minus mo_low u41_1 u41_2 u41_3 a_moK a_moH a_moS mo_spanFunction mo_spanRounding mo_spanMany a_moF a_moT mo_parts mo_shift a_moP a_moQ a_moA a_moB a_moD), (a_moK, .inl (cZ, 5, .inl moK_r)), (a_moH, .inl (cI, 81920, .inl (upd moH_r (((16384 : Int32) * p1) + x2).toNatClampNeg r41))), (a_moS, .inl (cI, 81920, .inl moS_r))] := hD
        refine lv_aload_n hx hb dX8_know_45 rfl (lv_at hl 0 rfl) ?_
        refine va_get (D := D) (ci := 7) (v := .ref a_moS) (C := RX8) (T := TX8) (N := 25) hx hb hts in_X8_know_X8 hown hK hP 0 rfl rfl 12 (by decide) (hts (.fieldLink RX8 21 "HardBenchModel" "sorts" "[I") (List.mem_of_getElem? (i := 4) (by decide +kernel))) (fun _ h9 => h9) rfl dX8_know_46 ?_
        refine lv_sipush (v := 16384) hx hb dX8_know_49 (by decide) ?_
        refine lv_iload_n hx hb dX8_know_52 rfl (lv_at hl 1 rfl) ?_
        refine lv_imul hx hb dX8_know_53 ?_
        refine lv_iload_n hx hb dX8_know_54 rfl (lv_at hl 2 rfl) ?_
        refine lv_iadd hx hb dX8_know_55 ?_
        refine lv_aload_n hx hb dX8_know_56 rfl (lv_at hl 0 rfl) ?_
        refine lv_iload_n hx hb dX8_know_57 rfl (lv_at hl 1 rfl) ?_
        refine lv_iload_n hx hb dX8_know_58 rfl (lv_at hl 2 rfl) ?_
        refine ca_Wi (b := a_mo) (As := [.int p1, .int x2]) (rest := [.int (((16384 : Int32) * p1) + x2), .ref a_moS]) (wr := [(a_moK, .inl (cZ, 5, .inl moK_r)), (a_moH, .inl (cI, 81920, .inl (upd moH_r (((16384 : Int32) * p1) + x2).toNatClampNeg r41))), (a_moS, .inl (cI, 81920, .inl moS_r))]) (wo := fun u => [(a_mo, oX8 a_moR mo_e mo_f mo_codes mo_most mo_minus mo_low u.1 u.2.1 u.2.2 a_moK a_moH a_moS mo_spanFunction mo_spanRounding mo_spanMany a_moF a_moT mo_parts mo_shift a_moP a_moQ a_moA a_moB a_moD)]) (wn := fun u => [(a_mo, oX8 a_moR mo_e mo_f mo_codes mo_most mo_minus mo_low u.1 u.2.1 u.2.2 a_moK a_moH a_moS mo_spanFunction mo_spanRounding mo_spanMany a_moF a_moT mo_parts mo_shift a_moP a_moQ a_moA a_moB a_moD), (a_moK, .inl (cZ, 5, .inl moK_r)), (a_moH, .inl (cI, 81920, .inl (upd moH_r (((16384 : Int32) * p1) + x2).toNatClampNeg r41))), (a_moS, .inl (cI, 81920, .inl moS_r))]) ⟨hx, hb, hml, hown, hts⟩ (c_X8_sortOf l D cI cJ cZ a_mo a_moR a_moK a_moH a_moS a_moF a_moT a_moP a_moQ a_moA a_moB a_moD H.size mo_e mo_f mo_codes mo_most mo_minus mo_low u41_1 u41_2 u41_3 mo_spanFunction mo_spanRounding mo_spanMany mo_parts mo_shift p1 x2 _ _ rfl ho) (cwV 2 hts gX8_know_X8_sortOf rfl rfl rfl (by decide +kernel) ⟨hRf _ (Nat.le_of_ble_eq_true rfl), hRl _ (Nat.le_of_ble_eq_true rfl)⟩) hK hN hP hD hS hA [0] [1, 2, 3] [3, 0, 1, 2] rfl rfl (by decide) (by decide) (by decide) (by decide) (fun _ => rfl) 0 7 rfl rfl rfl rfl hl.1 rfl (Nat.le_of_ble_eq_true rfl) dX8_know_59 ⟨Nat.zero_le _, Nat.zero_le _⟩ (fun r59 u59 H locs ho hP hD hS => ?_)
        obtain ⟨u59_1, u59_2, u59_3⟩ := u59
        try dsimp only at ho
        replace hP : va_P D vwCl [(a_mo, oX8 a_moR mo_e mo_f mo_codes mo_most mo_minus mo_low u59_1 u59_2 u59_3 a_moK a_moH a_moS mo_spanFunction mo_spanRounding mo_spanMany a_moF a_moT mo_parts mo_shift a_moP a_moQ a_moA a_moB a_moD), (a_moK, .inl (cZ, 5, .inl moK_r)), (a_moH, .inl (cI, 81920, .inl (upd moH_r (((16384 : Int32) * p1) + x2).toNatClampNeg r41))), (a_moS, .inl (cI, 81920, .inl moS_r))] H := hP
        replace hD : va_D A [(a_mo, oX8 a_moR mo_e mo_f mo_codes mo_most mo_minus mo_low u59_1 u59_2 u59_3 a_moK a_moH a_moS mo_spanFunction mo_spanRounding mo_spanMany a_moF a_moT mo_parts mo_shift a_moP a_moQ a_moA a_moB a_moD), (a_moK, .inl (cZ, 5, .inl moK_r)), (a_moH, .inl (cI, 81920, .inl (upd moH_r (((16384 : Int32) * p1) + x2).toNatClampNeg r41))), (a_moS, .inl (cI, 81920, .inl moS_r))] := hD
        have o_62 := ho.1
        replace ho := ho.2
        refine va_iast hx hb hK hP hD hS 3 0 rfl rfl o_62 dX8_know_62 (fun H locs hP hD hS => ?_)
        replace hP : va_P D vwCl [(a_mo, oX8 a_moR mo_e mo_f mo_codes mo_most mo_minus mo_low u59_1 u59_2 u59_3 a_moK a_moH a_moS mo_spanFunction mo_spanRounding mo_spanMany a_moF a_moT mo_parts mo_shift a_moP a_moQ a_moA a_moB a_moD), (a_moK, .inl (cZ, 5, .inl moK_r)), (a_moH, .inl (cI, 81920, .inl (upd moH_r (((16384 : Int32) * p1) + x2).toNatClampNeg r41))), (a_moS, .inl (cI, 81920, .inl (upd moS_r (((16384 : Int32) * p1) + x2).toNatClampNeg r59)))] H := hP
        replace hD : va_D A [(a_mo, oX8 a_moR mo_e mo_f mo_codes mo_most mo_minus mo_low u59_1 u59_2 u59_3 a_moK a_moH a_moS mo_spanFunction mo_spanRounding mo_spanMany a_moF a_moT mo_parts mo_shift a_moP a_moQ a_moA a_moB a_moD), (a_moK, .inl (cZ, 5, .inl moK_r)), (a_moH, .inl (cI, 81920, .inl (upd moH_r (((16384 : Int32) * p1) + x2).toNatClampNeg r41))), (a_moS, .inl (cI, 81920, .inl (upd moS_r (((16384 : Int32) * p1) + x2).toNatClampNeg r59)))] := hD
        refine lv_iinc (v := (x2 + (1 : Int32))) (lv' := [(2, .int (x2 + (1 : Int32))), (0, .ref a_mo), (1, .int p1)]) hx hb dX8_know_63 hl (k := 2) rfl rfl (by decide) rfl (fun ls hl => ?_)
        refine lv_goto (tgt := 19) hx hb dX8_know_66 (by decide) ?_
        exact ih_19 u59_1 u59_2 u59_3 moK_r (upd moH_r (((16384 : Int32) * p1) + x2).toNatClampNeg r41) (upd moS_r (((16384 : Int32) * p1) + x2).toNatClampNeg r59) (x2 + (1 : Int32)) H locs ls ho hP hD hS (lv_sub hl [1, 2, 0] rfl)
  unfold wp_X8_know at ho
  refine lv_aload_n hx hb dX8_know_0 rfl (lv_at hl 0 rfl) ?_
  refine va_get (D := D) (ci := 7) (v := .ref a_moK) (C := RX8) (T := TX8) (N := 25) hx hb hts in_X8_know_X8 hown hK hP 0 rfl rfl 10 (by decide) (hts (.fieldLink RX8 13 "HardBenchModel" "isKnown" "[Z") (List.mem_of_getElem? (i := 1) (by decide +kernel))) (fun _ h9 => h9) rfl dX8_know_1 ?_
  refine lv_iload_n hx hb dX8_know_4 rfl (lv_at hl 1 rfl) ?_
  have o_5 := ho.1
  replace ho := ho.2
  refine va_zald hx hb hK hP 1 2 rfl rfl o_5 dX8_know_5 ?_
  refine lv_if_eq (tgt := 10) hx hb dX8_know_6 (by decide) (fun c_6 => ?_) (fun c_6 => ?_)
  · replace ho := ho.1 c_6
    refine lv_aload_n hx hb dX8_know_10 rfl (lv_at hl 0 rfl) ?_
    refine va_get (D := D) (ci := 7) (v := .ref a_moK) (C := RX8) (T := TX8) (N := 25) hx hb hts in_X8_know_X8 hown hK hP 0 rfl rfl 10 (by decide) (hts (.fieldLink RX8 13 "HardBenchModel" "isKnown" "[Z") (List.mem_of_getElem? (i := 1) (by decide +kernel))) (fun _ h9 => h9) rfl dX8_know_11 ?_
    refine lv_iload_n hx hb dX8_know_14 rfl (lv_at hl 1 rfl) ?_
    refine lv_iconst (v := 1) hx hb dX8_know_15 (by decide) ?_
    have o_16 := ho.1
    replace ho := ho.2
    refine va_zast hx hb hK hP hD hS 1 2 rfl rfl o_16 dX8_know_16 (fun H locs hP hD hS => ?_)
    replace hP : va_P D vwCl [(a_mo, oX8 a_moR mo_e mo_f mo_codes mo_most mo_minus mo_low mo_function mo_atX mo_atM a_moK a_moH a_moS mo_spanFunction mo_spanRounding mo_spanMany a_moF a_moT mo_parts mo_shift a_moP a_moQ a_moA a_moB a_moD), (a_moK, .inl (cZ, 5, .inl (upd moK_r p1.toNatClampNeg (vp_nar .boolean (1 : Int32))))), (a_moH, .inl (cI, 81920, .inl moH_r)), (a_moS, .inl (cI, 81920, .inl moS_r))] H := hP
    replace hD : va_D A [(a_mo, oX8 a_moR mo_e mo_f mo_codes mo_most mo_minus mo_low mo_function mo_atX mo_atM a_moK a_moH a_moS mo_spanFunction mo_spanRounding mo_spanMany a_moF a_moT mo_parts mo_shift a_moP a_moQ a_moA a_moB a_moD), (a_moK, .inl (cZ, 5, .inl (upd moK_r p1.toNatClampNeg (vp_nar .boolean (1 : Int32))))), (a_moH, .inl (cI, 81920, .inl moH_r)), (a_moS, .inl (cI, 81920, .inl moS_r))] := hD
    refine lv_iconst (v := 0) hx hb dX8_know_17 (by decide) ?_
    refine lv_istore_n (lv' := [(2, .int (0 : Int32)), (0, .ref a_mo), (1, .int p1)]) hx hb dX8_know_18 rfl hl (by decide) rfl (fun ls hl => ?_)
    obtain ⟨n_19, ho⟩ := ho
    exact C_19 n_19 mo_function mo_atX mo_atM (upd moK_r p1.toNatClampNeg (vp_nar .boolean (1 : Int32))) moH_r moS_r (0 : Int32) H locs ls ho hP hD hS (lv_sub hl [1, 2, 0] rfl)
  · replace ho := ho.2 c_6
    subst hQ; exact W.vret hx hb hr (fun t ht hW => ⟨⟨(mo_function, mo_atX, mo_atM, moK_r, moH_r, moS_r), rfl, ho, by rw [ht]; exact hP, hD⟩, hS.F ht⟩) (fun q hq => hS.2.2 q hq) dX8_know_9

def wp_X8_hardest_106 (post : Int32 → Int32 → Int32 → Int64 → (Nat → Int32) → (Nat → Int32) → (Nat → Int32) → (Nat → Int32) → Prop) (K_62 : Int32 → Int32 → Int64 → (Nat → Int32) → (Nat → Int32) → (Nat → Int32) → (Nat → Int32) → Int32 → Int32 → Int32 → Prop) (mo_function : Int32) (mo_atX : Int32) (mo_atM : Int64) (moR_r : Nat → Int32) (moK_r : Nat → Int32) (moH_r : Nat → Int32) (moS_r : Nat → Int32) (x3 : Int32) (x4 : Int32) (x5 : Int32) : Prop := K_62 mo_function mo_atX mo_atM moR_r moK_r moH_r moS_r x3 x4 (x5 + (1 : Int32))
def wp_X8_hardest_62_b (post : Int32 → Int32 → Int32 → Int64 → (Nat → Int32) → (Nat → Int32) → (Nat → Int32) → (Nat → Int32) → Prop)  (mo_codes : Int32) (p1 : Int32) (p2 : Int32) (K_62 : Int32 → Int32 → Int64 → (Nat → Int32) → (Nat → Int32) → (Nat → Int32) → (Nat → Int32) → Int32 → Int32 → Int32 → Prop) (mo_function : Int32) (mo_atX : Int32) (mo_atM : Int64) (moR_r : Nat → Int32) (moK_r : Nat → Int32) (moH_r : Nat → Int32) (moS_r : Nat → Int32) (x3 : Int32) (x4 : Int32) (x5 : Int32) : Prop := ((mo_codes ≤ x5) → (post (-9 : Int32) mo_function mo_atX mo_atM moR_r moK_r moH_r moS_r)) ∧ ((¬ (mo_codes ≤ x5)) → (((p2 < 0) → (post (-9 : Int32) mo_function mo_atX mo_atM moR_r moK_r moH_r moS_r)) ∧ ((¬ (p2 < 0)) → ((vp_in (((16384 : Int32) * p1) + x5) 81920) ∧ ((((moH_r (((16384 : Int32) * p1) + x5).toNatClampNeg) = x3) → (((¬ x4 = 0) → (wp_X8_hardest_106 post K_62 mo_function mo_atX mo_atM moR_r moK_r moH_r moS_r x3 (x4 + (-1 : Int32)) x5)) ∧ ((¬ (¬ x4 = 0)) → (post x5 mo_function mo_atX mo_atM moR_r moK_r moH_r moS_r)))) ∧ ((¬ ((moH_r (((16384 : Int32) * p1) + x5).toNatClampNeg) = x3)) → (wp_X8_hardest_106 post K_62 mo_function mo_atX mo_atM moR_r moK_r moH_r moS_r x3 x4 x5)))))))
noncomputable def wp_X8_hardest_62 (post : Int32 → Int32 → Int32 → Int64 → (Nat → Int32) → (Nat → Int32) → (Nat → Int32) → (Nat → Int32) → Prop)  (mo_codes : Int32) (p1 : Int32) (p2 : Int32) (n : Nat) : Int32 → Int32 → Int64 → (Nat → Int32) → (Nat → Int32) → (Nat → Int32) → (Nat → Int32) → Int32 → Int32 → Int32 → Prop := Nat.rec (motive := fun _ => Int32 → Int32 → Int64 → (Nat → Int32) → (Nat → Int32) → (Nat → Int32) → (Nat → Int32) → Int32 → Int32 → Int32 → Prop) (fun _ _ _ _ _ _ _ _ _ _ => False) (fun _ K_62 => wp_X8_hardest_62_b post mo_codes p1 p2 K_62) n
def wp_X8_hardest_23_b (post : Int32 → Int32 → Int32 → Int64 → (Nat → Int32) → (Nat → Int32) → (Nat → Int32) → (Nat → Int32) → Prop)  (mo_codes : Int32) (p1 : Int32) (p2 : Int32) (K_23 : Int32 → Int32 → Int64 → (Nat → Int32) → (Nat → Int32) → (Nat → Int32) → (Nat → Int32) → Int32 → Int32 → Prop) (mo_function : Int32) (mo_atX : Int32) (mo_atM : Int64) (moR_r : Nat → Int32) (moK_r : Nat → Int32) (moH_r : Nat → Int32) (moS_r : Nat → Int32) (x3 : Int32) (x4 : Int32) : Prop := ((mo_codes ≤ x4) → (∃ n, wp_X8_hardest_62 post mo_codes p1 p2 n mo_function mo_atX mo_atM moR_r moK_r moH_r moS_r x3 p2 (0 : Int32))) ∧ ((¬ (mo_codes ≤ x4)) → ((vp_in (((16384 : Int32) * p1) + x4) 81920) ∧ (K_23 mo_function mo_atX mo_atM moR_r moK_r moH_r moS_r (if x3 < (moH_r (((16384 : Int32) * p1) + x4).toNatClampNeg) then (moH_r (((16384 : Int32) * p1) + x4).toNatClampNeg) else x3) (x4 + (1 : Int32)))))
noncomputable def wp_X8_hardest_23 (post : Int32 → Int32 → Int32 → Int64 → (Nat → Int32) → (Nat → Int32) → (Nat → Int32) → (Nat → Int32) → Prop)  (mo_codes : Int32) (p1 : Int32) (p2 : Int32) (n : Nat) : Int32 → Int32 → Int64 → (Nat → Int32) → (Nat → Int32) → (Nat → Int32) → (Nat → Int32) → Int32 → Int32 → Prop := Nat.rec (motive := fun _ => Int32 → Int32 → Int64 → (Nat → Int32) → (Nat → Int32) → (Nat → Int32) → (Nat → Int32) → Int32 → Int32 → Prop) (fun _ _ _ _ _ _ _ _ _ => False) (fun _ K_23 => wp_X8_hardest_23_b post mo_codes p1 p2 K_23) n
def wp_X8_hardest (post : Int32 → Int32 → Int32 → Int64 → (Nat → Int32) → (Nat → Int32) → (Nat → Int32) → (Nat → Int32) → Prop) (mo_f : Int32) (mo_codes : Int32) (mo_most : Int32) (mo_minus : Int32) (mo_low : Int32) (mo_function : Int32) (mo_atX : Int32) (mo_atM : Int64) (moR_r : Nat → Int32) (moK_r : Nat → Int32) (moH_r : Nat → Int32) (moS_r : Nat → Int32) (p1 : Int32) (p2 : Int32) : Prop := wp_X8_isFunction (fun r1 => (((¬ r1 = 0) → (wp_X8_know (fun u15_1 u15_2 u15_3 u15_4 u15_5 u15_6 => (∃ n, wp_X8_hardest_23 post mo_codes p1 p2 n u15_1 u15_2 u15_3 moR_r u15_4 u15_5 u15_6 (0 : Int32) (0 : Int32))) mo_f mo_codes mo_most mo_minus mo_low mo_function mo_atX mo_atM moK_r moH_r moS_r p1)) ∧ ((¬ (¬ r1 = 0)) → (wp_X8_refuse (fun r9 u9 => (post r9 mo_function mo_atX mo_atM u9 moK_r moH_r moS_r)) moR_r (-1 : Int32))))) p1
set_option maxRecDepth 20000 in
theorem in_X8_hardest_X8 : ∀ w ∈ u_ws RX8 TX8 25, w ∈ wsX8_hardest := fun w h => (goodIn_r wsX80 [91, 92, 93, 94, 95, 96, 97, 98, 99, 100, 101, 102, 103, 104, 105, 106, 107, 108, 109, 110, 111, 112, 113, 114, 115] (by decide +kernel) (by decide +kernel) w h).1
set_option maxHeartbeats 4000000 in
set_option maxRecDepth 100000 in
theorem c_X8_hardest (l : Launch) (D : va_G) (cI cJ cZ : ClassId) (a_mo : Nat) (a_moR : Nat) (a_moK : Nat) (a_moH : Nat) (a_moS : Nat) (a_moF : Nat) (a_moT : Nat) (a_moP : Nat) (a_moQ : Nat) (a_moA : Nat) (a_moB : Nat) (a_moD : Nat) (sz : Nat) (mo_e : Int32) (mo_f : Int32) (mo_codes : Int32) (mo_most : Int32) (mo_minus : Int32) (mo_low : Int32) (mo_function : Int32) (mo_atX : Int32) (mo_atM : Int64) (mo_spanFunction : Int32) (mo_spanRounding : Int32) (mo_spanMany : Int32) (mo_parts : Int32) (mo_shift : Int32) (moR_r : Nat → Int32) (moK_r : Nat → Int32) (moH_r : Nat → Int32) (moS_r : Nat → Int32) (p1 : Int32) (p2 : Int32) (post : Int32 → Int32 → Int32 → Int64 → (Nat → Int32) → (Nat → Int32) → (Nat → Int32) → (Nat → Int32) → Prop) (A : Nat → Prop) (hAe : A = va_A [(a_mo, oX8 a_moR mo_e mo_f mo_codes mo_most mo_minus mo_low mo_function mo_atX mo_atM a_moK a_moH a_moS mo_spanFunction mo_spanRounding mo_spanMany a_moF a_moT mo_parts mo_shift a_moP a_moQ a_moA a_moB a_moD), (a_moR, .inl (cI, 7, .inl moR_r)), (a_moK, .inl (cZ, 5, .inl moK_r)), (a_moH, .inl (cI, 81920, .inl moH_r)), (a_moS, .inl (cI, 81920, .inl moS_r))] sz) (ho : wp_X8_hardest post mo_f mo_codes mo_most mo_minus mo_low mo_function mo_atX mo_atM moR_r moK_r moH_r moS_r p1 p2) : Met l yX8_hardest wsX8_hardest ({ frames := 7, cells := 0, slots := 0, locals := 175 } : Room) (rw_P D [(cI, .int), (cJ, .long), (cZ, .boolean)] [.ref a_mo, .int p1, .int p2] sz [(a_mo, oX8 a_moR mo_e mo_f mo_codes mo_most mo_minus mo_low mo_function mo_atX mo_atM a_moK a_moH a_moS mo_spanFunction mo_spanRounding mo_spanMany a_moF a_moT mo_parts mo_shift a_moP a_moQ a_moA a_moB a_moD), (a_moR, .inl (cI, 7, .inl moR_r)), (a_moK, .inl (cZ, 5, .inl moK_r)), (a_moH, .inl (cI, 81920, .inl moH_r)), (a_moS, .inl (cI, 81920, .inl moS_r))]) (va_Qi (fun (r : Int32) (u : (Int32) × (Int32) × (Int64) × (Nat → Int32) × (Nat → Int32) × (Nat → Int32) × (Nat → Int32)) => post r u.1 u.2.1 u.2.2.1 u.2.2.2.1 u.2.2.2.2.1 u.2.2.2.2.2.1 u.2.2.2.2.2.2) (rw_B D A (fun (u : (Int32) × (Int32) × (Int64) × (Nat → Int32) × (Nat → Int32) × (Nat → Int32) × (Nat → Int32)) => [(a_mo, oX8 a_moR mo_e mo_f mo_codes mo_most mo_minus mo_low u.1 u.2.1 u.2.2.1 a_moK a_moH a_moS mo_spanFunction mo_spanRounding mo_spanMany a_moF a_moT mo_parts mo_shift a_moP a_moQ a_moA a_moB a_moD), (a_moR, .inl (cI, 7, .inl u.2.2.2.1)), (a_moK, .inl (cZ, 5, .inl u.2.2.2.2.1)), (a_moH, .inl (cI, 81920, .inl u.2.2.2.2.2.1)), (a_moS, .inl (cI, 81920, .inl u.2.2.2.2.2.2))])) A) 0 0 A := by
  refine Met.ofW (cc := cX8_hardest) (maxL := 6) (ret := (some .int)) (by decide) rfl ?_
  intro p e s m args below meth c s₁ B hml hv
  obtain ⟨hargs, hsz, hP, hK, hN, hD0⟩ := hv
  have hx := B.exec
  have hb := B.bytes
  have hr := B.returns
  have hts := atoms_spec (ws := wsX8_hardest) B.pre
  have hown : s.vm.findClass RX8 = some m.cls := findClass_of_methodNamed B.named
  have hlocks := B.notSynchronized
  subst hsz
  have hD : va_D A [(a_mo, oX8 a_moR mo_e mo_f mo_codes mo_most mo_minus mo_low mo_function mo_atX mo_atM a_moK a_moH a_moS mo_spanFunction mo_spanRounding mo_spanMany a_moF a_moT mo_parts mo_shift a_moP a_moQ a_moA a_moB a_moD), (a_moR, .inl (cI, 7, .inl moR_r)), (a_moK, .inl (cZ, 5, .inl moK_r)), (a_moH, .inl (cI, 81920, .inl moH_r)), (a_moS, .inl (cI, 81920, .inl moS_r))] := by rw [hAe]; exact hD0.self
  have hA : ∀ q : Nat, s.heap.size ≤ q → A q := fun q h => by rw [hAe]; exact Or.inr h
  have hS : va_S A s.heap s.heap [] := va_S.rf
  have hl := lv_entry ([.ref a_mo, .int p1, .int p2]) (n := 6) (Nat.le_of_ble_eq_true rfl)
  rw [hargs, lg_entry_eq, ← hargs]
  generalize (lg_sl ([.ref a_mo, .int p1, .int p2]) ++ List.replicate (6 - (lg_sl ([.ref a_mo, .int p1, .int p2])).length) Slot.unset).toArray = ls at hl ⊢
  replace hl : lv_has ls 6 [(0, .ref a_mo), (1, .int p1), (2, .int p2)] := hl
  have hRf : ∀ n, n ≤ 7 → n ≤ (headSpec wsX8_hardest ({ frames := 7, cells := 0, slots := 0, locals := 175 } : Room)).room.frames := fun n h => h
  have hRl : ∀ n, n ≤ 175 → n ≤ (headSpec wsX8_hardest ({ frames := 7, cells := 0, slots := 0, locals := 175 } : Room)).room.locals := fun n h => h
  generalize (headSpec wsX8_hardest ({ frames := 7, cells := 0, slots := 0, locals := 175 } : Room)).room = R at hRf hRl ⊢
  generalize hQ : MQ below _ args s 0 0 _ = Q
  have C_62 : ∀ n : Nat, ∀ (mo_function : Int32) (mo_atX : Int32) (mo_atM : Int64) (moR_r : Nat → Int32) (moK_r : Nat → Int32) (moH_r : Nat → Int32) (moS_r : Nat → Int32) (x3 : Int32) (x4 : Int32) (x5 : Int32) (H : Heap) (locs : List Loc) (ls : Array Slot), wp_X8_hardest_62 post  mo_codes p1 p2 n mo_function mo_atX mo_atM moR_r moK_r moH_r moS_r x3 x4 x5 → va_P D vwCl [(a_mo, oX8 a_moR mo_e mo_f mo_codes mo_most mo_minus mo_low mo_function mo_atX mo_atM a_moK a_moH a_moS mo_spanFunction mo_spanRounding mo_spanMany a_moF a_moT mo_parts mo_shift a_moP a_moQ a_moA a_moB a_moD), (a_moR, .inl (cI, 7, .inl moR_r)), (a_moK, .inl (cZ, 5, .inl moK_r)), (a_moH, .inl (cI, 81920, .inl moH_r)), (a_moS, .inl (cI, 81920, .inl moS_r))] H → va_D A [(a_mo, oX8 a_moR mo_e mo_f mo_codes mo_most mo_minus mo_low mo_function mo_atX mo_atM a_moK a_moH a_moS mo_spanFunction mo_spanRounding mo_spanMany a_moF a_moT mo_parts mo_shift a_moP a_moQ a_moA a_moB a_moD), (a_moR, .inl (cI, 7, .inl moR_r)), (a_moK, .inl (cZ, 5, .inl moK_r)), (a_moH, .inl (cI, 81920, .inl moH_r)), (a_moS, .inl (cI, 81920, .inl moS_r))] → va_S A s.heap H locs → lv_has ls 6 [(0, .ref a_mo), (1, .int p1), (2, .int p2), (3, .int x3), (4, .int x4), (5, .int x5)] → W p l e R s m args below meth c H locs 0 0 Q (F0 m 62 ls []) := by
    intro n
    induction n with
    | zero => intro mo_function mo_atX mo_atM moR_r moK_r moH_r moS_r x3 x4 x5 H locs ls ho hP hD hS hl; exact ho.elim
    | succ n_62 ih_62 =>
      have C_106 : ∀ (mo_function : Int32) (mo_atX : Int32) (mo_atM : Int64) (moR_r : Nat → Int32) (moK_r : Nat → Int32) (moH_r : Nat → Int32) (moS_r : Nat → Int32) (x3 : Int32) (x4 : Int32) (x5 : Int32) (H : Heap) (locs : List Loc) (ls : Array Slot), wp_X8_hardest_106 post (wp_X8_hardest_62 post mo_codes p1 p2 n_62) mo_function mo_atX mo_atM moR_r moK_r moH_r moS_r x3 x4 x5 → va_P D vwCl [(a_mo, oX8 a_moR mo_e mo_f mo_codes mo_most mo_minus mo_low mo_function mo_atX mo_atM a_moK a_moH a_moS mo_spanFunction mo_spanRounding mo_spanMany a_moF a_moT mo_parts mo_shift a_moP a_moQ a_moA a_moB a_moD), (a_moR, .inl (cI, 7, .inl moR_r)), (a_moK, .inl (cZ, 5, .inl moK_r)), (a_moH, .inl (cI, 81920, .inl moH_r)), (a_moS, .inl (cI, 81920, .inl moS_r))] H → va_D A [(a_mo, oX8 a_moR mo_e mo_f mo_codes mo_most mo_minus mo_low mo_function mo_atX mo_atM a_moK a_moH a_moS mo_spanFunction mo_spanRounding mo_spanMany a_moF a_moT mo_parts mo_shift a_moP a_moQ a_moA a_moB a_moD), (a_moR, .inl (cI, 7, .inl moR_r)), (a_moK, .inl (cZ, 5, .inl moK_r)), (a_moH, .inl (cI, 81920, .inl moH_r)), (a_moS, .inl (cI, 81920, .inl moS_r))] → va_S A s.heap H locs → lv_has ls 6 [(0, .ref a_mo), (1, .int p1), (2, .int p2), (3, .int x3), (4, .int x4), (5, .int x5)] → W p l e R s m args below meth c H locs 0 0 Q (F0 m 106 ls []) := by
        intro mo_function mo_atX mo_atM moR_r moK_r moH_r moS_r x3 x4 x5 H locs ls ho hP hD hS hl
        unfold wp_X8_hardest_106 at ho
        refine lv_iinc (v := (x5 + (1 : Int32))) (lv' := [(5, .int (x5 + (1 : Int32))), (0, .ref a_mo), (1, .int p1), (2, .int p2), (3, .int x3), (4, .int x4)]) hx hb dX8_hardest_106 hl (k := 5) rfl rfl (by decide) rfl (fun ls hl => ?_)
        refine lv_goto (tgt := 62) hx hb dX8_hardest_109 (by decide) ?_
        exact ih_62 mo_function mo_atX mo_atM moR_r moK_r moH_r moS_r x3 x4 (x5 + (1 : Int32)) H locs ls ho hP hD hS (lv_sub hl [1, 2, 3, 4, 5, 0] rfl)
      intro mo_function mo_atX mo_atM moR_r moK_r moH_r moS_r x3 x4 x5 H locs ls ho hP hD hS hl
      replace ho : wp_X8_hardest_62_b post mo_codes p1 p2 (wp_X8_hardest_62 post mo_codes p1 p2 n_62) mo_function mo_atX mo_atM moR_r moK_r moH_r moS_r x3 x4 x5 := ho
      unfold wp_X8_hardest_62_b at ho
      refine lv_iload hx hb dX8_hardest_62 (lv_at hl 5 rfl) ?_
      refine lv_aload_n hx hb dX8_hardest_64 rfl (lv_at hl 0 rfl) ?_
      refine va_get (D := D) (ci := 7) (v := .int mo_codes) (C := RX8) (T := TX8) (N := 25) hx hb hts in_X8_hardest_X8 hown hK hP 0 rfl rfl 3 (by decide) (hts (.fieldLink RX8 62 "HardBenchModel" "codes" "I") (List.mem_of_getElem? (i := 1) (by decide +kernel))) (fun _ h9 => h9) rfl dX8_hardest_65 ?_
      refine lv_icmp_ge (tgt := 112) hx hb dX8_hardest_68 (by decide) (fun c_68 => ?_) (fun c_68 => ?_)
      · replace ho := ho.1 c_68
        refine lv_bipush (v := (-9)) hx hb dX8_hardest_112 (by decide) ?_
        subst hQ; exact W.iret (v := (-9 : Int32)) hx hb hr (fun t ht hW => ⟨⟨(-9 : Int32), (mo_function, mo_atX, mo_atM, moR_r, moK_r, moH_r, moS_r), rfl, ho, by rw [ht]; exact hP, hD⟩, hS.F ht⟩) (fun q hq => hS.2.2 q hq) dX8_hardest_114
      · replace ho := ho.2 c_68
        refine lv_iload_n hx hb dX8_hardest_71 rfl (lv_at hl 2 rfl) ?_
        refine lv_if_lt (tgt := 112) hx hb dX8_hardest_72 (by decide) (fun c_72 => ?_) (fun c_72 => ?_)
        · replace ho := ho.1 c_72
          refine lv_bipush (v := (-9)) hx hb dX8_hardest_112 (by decide) ?_
          subst hQ; exact W.iret (v := (-9 : Int32)) hx hb hr (fun t ht hW => ⟨⟨(-9 : Int32), (mo_function, mo_atX, mo_atM, moR_r, moK_r, moH_r, moS_r), rfl, ho, by rw [ht]; exact hP, hD⟩, hS.F ht⟩) (fun q hq => hS.2.2 q hq) dX8_hardest_114
        · replace ho := ho.2 c_72
          refine lv_aload_n hx hb dX8_hardest_75 rfl (lv_at hl 0 rfl) ?_
          refine va_get (D := D) (ci := 7) (v := .ref a_moH) (C := RX8) (T := TX8) (N := 25) hx hb hts in_X8_hardest_X8 hown hK hP 0 rfl rfl 11 (by decide) (hts (.fieldLink RX8 18 "HardBenchModel" "hards" "[I") (List.mem_of_getElem? (i := 2) (by decide +kernel))) (fun _ h9 => h9) rfl dX8_hardest_76 ?_
          refine lv_sipush (v := 16384) hx hb dX8_hardest_79 (by decide) ?_
          refine lv_iload_n hx hb dX8_hardest_82 rfl (lv_at hl 1 rfl) ?_
          refine lv_imul hx hb dX8_hardest_83 ?_
          refine lv_iload hx hb dX8_hardest_84 (lv_at hl 5 rfl) ?_
          refine lv_iadd hx hb dX8_hardest_86 ?_
          have o_87 := ho.1
          replace ho := ho.2
          refine va_iald hx hb hK hP 3 0 rfl rfl o_87 dX8_hardest_87 ?_
          refine lv_iload_n hx hb dX8_hardest_88 rfl (lv_at hl 3 rfl) ?_
          refine lv_icmp_eq (tgt := 95) hx hb dX8_hardest_89 (by decide) (fun c_89 => ?_) (fun c_89 => ?_)
          · replace ho := ho.1 c_89
            refine lv_iload hx hb dX8_hardest_95 (lv_at hl 4 rfl) ?_
            refine lv_if_ne (tgt := 103) hx hb dX8_hardest_97 (by decide) (fun c_97 => ?_) (fun c_97 => ?_)
            · replace ho := ho.1 c_97
              refine lv_iinc (v := (x4 + (-1 : Int32))) (lv' := [(4, .int (x4 + (-1 : Int32))), (0, .ref a_mo), (1, .int p1), (2, .int p2), (3, .int x3), (5, .int x5)]) hx hb dX8_hardest_103 hl (k := 4) rfl rfl (by decide) rfl (fun ls hl => ?_)
              exact C_106 mo_function mo_atX mo_atM moR_r moK_r moH_r moS_r x3 (x4 + (-1 : Int32)) x5 H locs ls ho hP hD hS (lv_sub hl [1, 2, 3, 4, 0, 5] rfl)
            · replace ho := ho.2 c_97
              refine lv_iload hx hb dX8_hardest_100 (lv_at hl 5 rfl) ?_
              subst hQ; exact W.iret (v := x5) hx hb hr (fun t ht hW => ⟨⟨x5, (mo_function, mo_atX, mo_atM, moR_r, moK_r, moH_r, moS_r), rfl, ho, by rw [ht]; exact hP, hD⟩, hS.F ht⟩) (fun q hq => hS.2.2 q hq) dX8_hardest_102
          · replace ho := ho.2 c_89
            refine lv_goto (tgt := 106) hx hb dX8_hardest_92 (by decide) ?_
            exact C_106 mo_function mo_atX mo_atM moR_r moK_r moH_r moS_r x3 x4 x5 H locs ls ho hP hD hS (lv_sub hl [0, 1, 2, 3, 4, 5] rfl)
  have C_23 : ∀ n : Nat, ∀ (mo_function : Int32) (mo_atX : Int32) (mo_atM : Int64) (moR_r : Nat → Int32) (moK_r : Nat → Int32) (moH_r : Nat → Int32) (moS_r : Nat → Int32) (x3 : Int32) (x4 : Int32) (H : Heap) (locs : List Loc) (ls : Array Slot), wp_X8_hardest_23 post  mo_codes p1 p2 n mo_function mo_atX mo_atM moR_r moK_r moH_r moS_r x3 x4 → va_P D vwCl [(a_mo, oX8 a_moR mo_e mo_f mo_codes mo_most mo_minus mo_low mo_function mo_atX mo_atM a_moK a_moH a_moS mo_spanFunction mo_spanRounding mo_spanMany a_moF a_moT mo_parts mo_shift a_moP a_moQ a_moA a_moB a_moD), (a_moR, .inl (cI, 7, .inl moR_r)), (a_moK, .inl (cZ, 5, .inl moK_r)), (a_moH, .inl (cI, 81920, .inl moH_r)), (a_moS, .inl (cI, 81920, .inl moS_r))] H → va_D A [(a_mo, oX8 a_moR mo_e mo_f mo_codes mo_most mo_minus mo_low mo_function mo_atX mo_atM a_moK a_moH a_moS mo_spanFunction mo_spanRounding mo_spanMany a_moF a_moT mo_parts mo_shift a_moP a_moQ a_moA a_moB a_moD), (a_moR, .inl (cI, 7, .inl moR_r)), (a_moK, .inl (cZ, 5, .inl moK_r)), (a_moH, .inl (cI, 81920, .inl moH_r)), (a_moS, .inl (cI, 81920, .inl moS_r))] → va_S A s.heap H locs → lv_has ls 6 [(0, .ref a_mo), (1, .int p1), (2, .int p2), (3, .int x3), (4, .int x4)] → W p l e R s m args below meth c H locs 0 0 Q (F0 m 23 ls []) := by
    intro n
    induction n with
    | zero => intro mo_function mo_atX mo_atM moR_r moK_r moH_r moS_r x3 x4 H locs ls ho hP hD hS hl; exact ho.elim
    | succ n_23 ih_23 =>
      intro mo_function mo_atX mo_atM moR_r moK_r moH_r moS_r x3 x4 H locs ls ho hP hD hS hl
      replace ho : wp_X8_hardest_23_b post mo_codes p1 p2 (wp_X8_hardest_23 post mo_codes p1 p2 n_23) mo_function mo_atX mo_atM moR_r moK_r moH_r moS_r x3 x4 := ho
      unfold wp_X8_hardest_23_b at ho
      refine lv_iload hx hb dX8_hardest_23 (lv_at hl 4 rfl) ?_
      refine lv_aload_n hx hb dX8_hardest_25 rfl (lv_at hl 0 rfl) ?_
      refine va_get (D := D) (ci := 7) (v := .int mo_codes) (C := RX8) (T := TX8) (N := 25) hx hb hts in_X8_hardest_X8 hown hK hP 0 rfl rfl 3 (by decide) (hts (.fieldLink RX8 62 "HardBenchModel" "codes" "I") (List.mem_of_getElem? (i := 1) (by decide +kernel))) (fun _ h9 => h9) rfl dX8_hardest_26 ?_
      refine lv_icmp_ge (tgt := 56) hx hb dX8_hardest_29 (by decide) (fun c_29 => ?_) (fun c_29 => ?_)
      · replace ho := ho.1 c_29
        refine lv_iload_n hx hb dX8_hardest_56 rfl (lv_at hl 2 rfl) ?_
        refine lv_istore (lv' := [(4, .int p2), (0, .ref a_mo), (1, .int p1), (2, .int p2), (3, .int x3)]) hx hb dX8_hardest_57 hl (by decide) rfl (fun ls hl => ?_)
        refine lv_iconst (v := 0) hx hb dX8_hardest_59 (by decide) ?_
        refine lv_istore (lv' := [(5, .int (0 : Int32)), (4, .int p2), (0, .ref a_mo), (1, .int p1), (2, .int p2), (3, .int x3)]) hx hb dX8_hardest_60 hl (by decide) rfl (fun ls hl => ?_)
        obtain ⟨n_62, ho⟩ := ho
        exact C_62 n_62 mo_function mo_atX mo_atM moR_r moK_r moH_r moS_r x3 p2 (0 : Int32) H locs ls ho hP hD hS (lv_sub hl [2, 3, 4, 5, 1, 0] rfl)
      · replace ho := ho.2 c_29
        refine lv_iload_n hx hb dX8_hardest_32 rfl (lv_at hl 3 rfl) ?_
        refine lv_aload_n hx hb dX8_hardest_33 rfl (lv_at hl 0 rfl) ?_
        refine va_get (D := D) (ci := 7) (v := .ref a_moH) (C := RX8) (T := TX8) (N := 25) hx hb hts in_X8_hardest_X8 hown hK hP 0 rfl rfl 11 (by decide) (hts (.fieldLink RX8 18 "HardBenchModel" "hards" "[I") (List.mem_of_getElem? (i := 2) (by decide +kernel))) (fun _ h9 => h9) rfl dX8_hardest_34 ?_
        refine lv_sipush (v := 16384) hx hb dX8_hardest_37 (by decide) ?_
        refine lv_iload_n hx hb dX8_hardest_40 rfl (lv_at hl 1 rfl) ?_
        refine lv_imul hx hb dX8_hardest_41 ?_
        refine lv_iload hx hb dX8_hardest_42 (lv_at hl 4 rfl) ?_
        refine lv_iadd hx hb dX8_hardest_44 ?_
        have o_45 := ho.1
        replace ho := ho.2
        refine va_iald hx hb hK hP 3 0 rfl rfl o_45 dX8_hardest_45 ?_
        refine va_mmax hx hb (hml.trans hl.1.symm) hown (hts (.methodLink RX8 181 Lib.Math.max.name) (List.mem_of_getElem? (i := 3) (by decide +kernel))) (hts (.static Lib.Math.max.name) (List.mem_of_getElem? (i := 4) (by decide +kernel))) (hts (.initialized "java/lang/Math") (List.mem_of_getElem? (i := 5) (by decide +kernel))) (hts (.code Lib.Math.max.name Lib.Math.max.code 2 (some .int)) (List.mem_of_getElem? (i := 6) (by decide +kernel))) (hRf 1 (Nat.le_of_ble_eq_true rfl)) (hRl _ (Nat.le_of_ble_eq_true rfl)) (Nat.zero_le _) (Nat.zero_le _) dX8_hardest_46 ?_
        refine lv_istore_n (lv' := [(3, .int (if x3 < (moH_r (((16384 : Int32) * p1) + x4).toNatClampNeg) then (moH_r (((16384 : Int32) * p1) + x4).toNatClampNeg) else x3)), (0, .ref a_mo), (1, .int p1), (2, .int p2), (4, .int x4)]) hx hb dX8_hardest_49 rfl hl (by decide) rfl (fun ls hl => ?_)
        refine lv_iinc (v := (x4 + (1 : Int32))) (lv' := [(4, .int (x4 + (1 : Int32))), (3, .int (if x3 < (moH_r (((16384 : Int32) * p1) + x4).toNatClampNeg) then (moH_r (((16384 : Int32) * p1) + x4).toNatClampNeg) else x3)), (0, .ref a_mo), (1, .int p1), (2, .int p2)]) hx hb dX8_hardest_50 hl (k := 4) rfl rfl (by decide) rfl (fun ls hl => ?_)
        refine lv_goto (tgt := 23) hx hb dX8_hardest_53 (by decide) ?_
        exact ih_23 mo_function mo_atX mo_atM moR_r moK_r moH_r moS_r (if x3 < (moH_r (((16384 : Int32) * p1) + x4).toNatClampNeg) then (moH_r (((16384 : Int32) * p1) + x4).toNatClampNeg) else x3) (x4 + (1 : Int32)) H locs ls ho hP hD hS (lv_sub hl [2, 3, 4, 1, 0] rfl)
  unfold wp_X8_hardest at ho
  refine lv_iload_n hx hb dX8_hardest_0 rfl (lv_at hl 1 rfl) ?_
  refine ca_Si (As := [.int p1]) (rest := []) ⟨hx, hb, hml, hown, hts⟩ (c_X8_isFunction l D cI cJ cZ   p1 _ ho) (va_cwS 1 hts gX8_hardest_X8_isFunction rfl rfl rfl (by decide +kernel) ⟨hRf _ (Nat.le_of_ble_eq_true rfl), hRl _ (Nat.le_of_ble_eq_true rfl)⟩) hK hN hP [] rfl rfl hl.1 rfl (Nat.le_of_ble_eq_true rfl) dX8_hardest_1 ⟨Nat.zero_le _, Nat.zero_le _⟩ (fun r1 ho => ?_)
  refine lv_if_ne (tgt := 13) hx hb dX8_hardest_4 (by decide) (fun c_4 => ?_) (fun c_4 => ?_)
  · replace ho := ho.1 c_4
    refine lv_aload_n hx hb dX8_hardest_13 rfl (lv_at hl 0 rfl) ?_
    refine lv_iload_n hx hb dX8_hardest_14 rfl (lv_at hl 1 rfl) ?_
    refine ca_Wv (b := a_mo) (As := [.int p1]) (rest := []) (wr := [(a_moR, .inl (cI, 7, .inl moR_r))]) (wo := fun u => [(a_mo, oX8 a_moR mo_e mo_f mo_codes mo_most mo_minus mo_low u.1 u.2.1 u.2.2.1 a_moK a_moH a_moS mo_spanFunction mo_spanRounding mo_spanMany a_moF a_moT mo_parts mo_shift a_moP a_moQ a_moA a_moB a_moD), (a_moK, .inl (cZ, 5, .inl u.2.2.2.1)), (a_moH, .inl (cI, 81920, .inl u.2.2.2.2.1)), (a_moS, .inl (cI, 81920, .inl u.2.2.2.2.2))]) (wn := fun u => [(a_mo, oX8 a_moR mo_e mo_f mo_codes mo_most mo_minus mo_low u.1 u.2.1 u.2.2.1 a_moK a_moH a_moS mo_spanFunction mo_spanRounding mo_spanMany a_moF a_moT mo_parts mo_shift a_moP a_moQ a_moA a_moB a_moD), (a_moR, .inl (cI, 7, .inl moR_r)), (a_moK, .inl (cZ, 5, .inl u.2.2.2.1)), (a_moH, .inl (cI, 81920, .inl u.2.2.2.2.1)), (a_moS, .inl (cI, 81920, .inl u.2.2.2.2.2))]) ⟨hx, hb, hml, hown, hts⟩ (c_X8_know l D cI cJ cZ a_mo a_moR a_moK a_moH a_moS a_moF a_moT a_moP a_moQ a_moA a_moB a_moD H.size mo_e mo_f mo_codes mo_most mo_minus mo_low mo_function mo_atX mo_atM mo_spanFunction mo_spanRounding mo_spanMany mo_parts mo_shift moK_r moH_r moS_r p1 _ _ rfl ho) (cwV 1 hts gX8_hardest_X8_know rfl rfl rfl (by decide +kernel) ⟨hRf _ (Nat.le_of_ble_eq_true rfl), hRl _ (Nat.le_of_ble_eq_true rfl)⟩) hK hN hP hD hS hA [0, 2, 3, 4] [1] [1, 0, 2, 3, 4] rfl rfl (by decide) (by decide) (by decide) (by decide) (fun _ => rfl) 0 7 rfl rfl rfl rfl hl.1 rfl (Nat.le_of_ble_eq_true rfl) dX8_hardest_15 ⟨Nat.zero_le _, Nat.zero_le _⟩ (fun  u15 H locs ho hP hD hS => ?_)
    obtain ⟨u15_1, u15_2, u15_3, u15_4, u15_5, u15_6⟩ := u15
    try dsimp only at ho
    replace hP : va_P D vwCl [(a_mo, oX8 a_moR mo_e mo_f mo_codes mo_most mo_minus mo_low u15_1 u15_2 u15_3 a_moK a_moH a_moS mo_spanFunction mo_spanRounding mo_spanMany a_moF a_moT mo_parts mo_shift a_moP a_moQ a_moA a_moB a_moD), (a_moR, .inl (cI, 7, .inl moR_r)), (a_moK, .inl (cZ, 5, .inl u15_4)), (a_moH, .inl (cI, 81920, .inl u15_5)), (a_moS, .inl (cI, 81920, .inl u15_6))] H := hP
    replace hD : va_D A [(a_mo, oX8 a_moR mo_e mo_f mo_codes mo_most mo_minus mo_low u15_1 u15_2 u15_3 a_moK a_moH a_moS mo_spanFunction mo_spanRounding mo_spanMany a_moF a_moT mo_parts mo_shift a_moP a_moQ a_moA a_moB a_moD), (a_moR, .inl (cI, 7, .inl moR_r)), (a_moK, .inl (cZ, 5, .inl u15_4)), (a_moH, .inl (cI, 81920, .inl u15_5)), (a_moS, .inl (cI, 81920, .inl u15_6))] := hD
    refine lv_iconst (v := 0) hx hb dX8_hardest_18 (by decide) ?_
    refine lv_istore_n (lv' := [(3, .int (0 : Int32)), (0, .ref a_mo), (1, .int p1), (2, .int p2)]) hx hb dX8_hardest_19 rfl hl (by decide) rfl (fun ls hl => ?_)
    refine lv_iconst (v := 0) hx hb dX8_hardest_20 (by decide) ?_
    refine lv_istore (lv' := [(4, .int (0 : Int32)), (3, .int (0 : Int32)), (0, .ref a_mo), (1, .int p1), (2, .int p2)]) hx hb dX8_hardest_21 hl (by decide) rfl (fun ls hl => ?_)
    obtain ⟨n_23, ho⟩ := ho
    exact C_23 n_23 u15_1 u15_2 u15_3 moR_r u15_4 u15_5 u15_6 (0 : Int32) (0 : Int32) H locs ls ho hP hD hS (lv_sub hl [2, 3, 4, 1, 0] rfl)
  · replace ho := ho.2 c_4
    refine lv_aload_n hx hb dX8_hardest_7 rfl (lv_at hl 0 rfl) ?_
    refine lv_iconst (v := (-1)) hx hb dX8_hardest_8 (by decide) ?_
    refine ca_Wi (b := a_mo) (As := [.int (-1 : Int32)]) (rest := []) (wr := [(a_moK, .inl (cZ, 5, .inl moK_r)), (a_moH, .inl (cI, 81920, .inl moH_r)), (a_moS, .inl (cI, 81920, .inl moS_r))]) (wo := fun u => [(a_mo, oX8 a_moR mo_e mo_f mo_codes mo_most mo_minus mo_low mo_function mo_atX mo_atM a_moK a_moH a_moS mo_spanFunction mo_spanRounding mo_spanMany a_moF a_moT mo_parts mo_shift a_moP a_moQ a_moA a_moB a_moD), (a_moR, .inl (cI, 7, .inl u))]) (wn := fun u => [(a_mo, oX8 a_moR mo_e mo_f mo_codes mo_most mo_minus mo_low mo_function mo_atX mo_atM a_moK a_moH a_moS mo_spanFunction mo_spanRounding mo_spanMany a_moF a_moT mo_parts mo_shift a_moP a_moQ a_moA a_moB a_moD), (a_moR, .inl (cI, 7, .inl u)), (a_moK, .inl (cZ, 5, .inl moK_r)), (a_moH, .inl (cI, 81920, .inl moH_r)), (a_moS, .inl (cI, 81920, .inl moS_r))]) ⟨hx, hb, hml, hown, hts⟩ (c_X8_refuse l D cI cJ cZ a_mo a_moR a_moK a_moH a_moS a_moF a_moT a_moP a_moQ a_moA a_moB a_moD H.size mo_e mo_f mo_codes mo_most mo_minus mo_low mo_function mo_atX mo_atM mo_spanFunction mo_spanRounding mo_spanMany mo_parts mo_shift moR_r (-1 : Int32) _ _ rfl ho) (cwV 1 hts gX8_hardest_X8_refuse rfl rfl rfl (by decide +kernel) ⟨hRf _ (Nat.le_of_ble_eq_true rfl), hRl _ (Nat.le_of_ble_eq_true rfl)⟩) hK hN hP hD hS hA [0, 1] [2, 3, 4] [3, 4, 0, 1, 2] rfl rfl (by decide) (by decide) (by decide) (by decide) (fun _ => rfl) 0 7 rfl rfl rfl rfl hl.1 rfl (Nat.le_of_ble_eq_true rfl) dX8_hardest_9 ⟨Nat.zero_le _, Nat.zero_le _⟩ (fun r9 u9 H locs ho hP hD hS => ?_)
    try dsimp only at ho
    replace hP : va_P D vwCl [(a_mo, oX8 a_moR mo_e mo_f mo_codes mo_most mo_minus mo_low mo_function mo_atX mo_atM a_moK a_moH a_moS mo_spanFunction mo_spanRounding mo_spanMany a_moF a_moT mo_parts mo_shift a_moP a_moQ a_moA a_moB a_moD), (a_moR, .inl (cI, 7, .inl u9)), (a_moK, .inl (cZ, 5, .inl moK_r)), (a_moH, .inl (cI, 81920, .inl moH_r)), (a_moS, .inl (cI, 81920, .inl moS_r))] H := hP
    replace hD : va_D A [(a_mo, oX8 a_moR mo_e mo_f mo_codes mo_most mo_minus mo_low mo_function mo_atX mo_atM a_moK a_moH a_moS mo_spanFunction mo_spanRounding mo_spanMany a_moF a_moT mo_parts mo_shift a_moP a_moQ a_moA a_moB a_moD), (a_moR, .inl (cI, 7, .inl u9)), (a_moK, .inl (cZ, 5, .inl moK_r)), (a_moH, .inl (cI, 81920, .inl moH_r)), (a_moS, .inl (cI, 81920, .inl moS_r))] := hD
    subst hQ; exact W.iret (v := r9) hx hb hr (fun t ht hW => ⟨⟨r9, (mo_function, mo_atX, mo_atM, u9, moK_r, moH_r, moS_r), rfl, ho, by rw [ht]; exact hP, hD⟩, hS.F ht⟩) (fun q hq => hS.2.2 q hq) dX8_hardest_12
