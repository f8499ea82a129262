def w_X8_refuse : List Cond := .code yX8_refuse cX8_refuse 2 (some .int) :: wsL_law
set_option maxHeartbeats 4000000 in
set_option maxRecDepth 100000 in
theorem c_X8_refuse (l : Launch) (D : va_G) (cI cJ cZ : ClassId) (a_mo : Nat) (a_moR : Nat) (a_moK : Nat) (a_moH : Nat) (a_moS : Nat) (a_moF : Nat) (a_moT : Nat) (a_moP : Nat) (a_moQ : Nat) (a_moA : Nat) (a_moB : Nat) (a_moD : Nat) (sz : Nat) (mo_e : Int32) (mo_f : Int32) (mo_codes : Int32) (mo_most : Int32) (mo_minus : Int32) (mo_low : Int32) (mo_function : Int32) (mo_atX : Int32) (mo_atM : Int64) (mo_spanFunction : Int32) (mo_spanRounding : Int32) (mo_spanMany : Int32) (mo_parts : Int32) (mo_shift : Int32) (moR_r : Nat → Int32) (p1 : Int32) (post : Int32 → (Nat → Int32) → Prop) (A : Nat → Prop) (hAe : A = va_A [(a_mo, oX8 a_moR mo_e mo_f mo_codes mo_most mo_minus mo_low mo_function mo_atX mo_atM a_moK a_moH a_moS mo_spanFunction mo_spanRounding mo_spanMany a_moF a_moT mo_parts mo_shift a_moP a_moQ a_moA a_moB a_moD), (a_moR, .inl (cI, 7, .inl moR_r))] sz) (ho : wp_X8_refuse post moR_r p1) : Met l yX8_refuse w_X8_refuse ({ frames := 0, cells := 0, slots := 0, locals := 0 } : Room) (rw_P D [(cI, .int), (cJ, .long), (cZ, .boolean)] [.ref a_mo, .int p1] sz [(a_mo, oX8 a_moR mo_e mo_f mo_codes mo_most mo_minus mo_low mo_function mo_atX mo_atM a_moK a_moH a_moS mo_spanFunction mo_spanRounding mo_spanMany a_moF a_moT mo_parts mo_shift a_moP a_moQ a_moA a_moB a_moD), (a_moR, .inl (cI, 7, .inl moR_r))]) (va_Qi (fun (r : Int32) (u : (Nat → Int32)) => post r u) (rw_B D A (fun (u : (Nat → Int32)) => [(a_mo, oX8 a_moR mo_e mo_f mo_codes mo_most mo_minus mo_low mo_function mo_atX mo_atM a_moK a_moH a_moS mo_spanFunction mo_spanRounding mo_spanMany a_moF a_moT mo_parts mo_shift a_moP a_moQ a_moA a_moB a_moD), (a_moR, .inl (cI, 7, .inl u))])) A) 0 0 A := by
  refine Met.ofW (cc := cX8_refuse) (maxL := 2) (ret := (some .int)) (by decide) rfl ?_
  intro p e s m args below meth c s₁ B hml hv
  obtain ⟨hargs, hsz, hP, hK, hN, hD0⟩ := hv
  have hx := B.exec
  have hb := B.bytes
  have hr := B.returns
  have hts : ∀ w ∈ wsL_law, w.before args s = true := fun w h => atoms_spec (ws := w_X8_refuse) B.pre w (List.mem_cons_of_mem _ h)
  have hown : s.vm.findClass RX8 = some m.cls := findClass_of_methodNamed B.named
  have hlocks := B.notSynchronized
  subst hsz
  have hD : va_D A [(a_mo, oX8 a_moR mo_e mo_f mo_codes mo_most mo_minus mo_low mo_function mo_atX mo_atM a_moK a_moH a_moS mo_spanFunction mo_spanRounding mo_spanMany a_moF a_moT mo_parts mo_shift a_moP a_moQ a_moA a_moB a_moD), (a_moR, .inl (cI, 7, .inl moR_r))] := by rw [hAe]; exact hD0.self
  have hA : ∀ q : Nat, s.heap.size ≤ q → A q := fun q h => by rw [hAe]; exact Or.inr h
  have hS : va_S A s.heap s.heap [] := va_S.rf
  have hl := lv_entry ([.ref a_mo, .int p1]) (n := 2) (Nat.le_of_ble_eq_true rfl)
  rw [hargs, lg_entry_eq, ← hargs]
  generalize (lg_sl ([.ref a_mo, .int p1]) ++ List.replicate (2 - (lg_sl ([.ref a_mo, .int p1])).length) Slot.unset).toArray = ls at hl ⊢
  replace hl : lv_has ls 2 [(0, .ref a_mo), (1, .int p1)] := hl
  have hRf : ∀ n, n ≤ 0 → n ≤ (headSpec w_X8_refuse ({ frames := 0, cells := 0, slots := 0, locals := 0 } : Room)).room.frames := fun n h => h
  have hRl : ∀ n, n ≤ 0 → n ≤ (headSpec w_X8_refuse ({ frames := 0, cells := 0, slots := 0, locals := 0 } : Room)).room.locals := fun n h => h
  generalize (headSpec w_X8_refuse ({ frames := 0, cells := 0, slots := 0, locals := 0 } : Room)).room = R at hRf hRl ⊢
  generalize hQ : MQ below _ args s 0 0 _ = Q
  suffices main : ∀ (H : Heap) (locs : List Loc), va_P D vwCl [(a_mo, oX8 a_moR mo_e mo_f mo_codes mo_most mo_minus mo_low mo_function mo_atX mo_atM a_moK a_moH a_moS mo_spanFunction mo_spanRounding mo_spanMany a_moF a_moT mo_parts mo_shift a_moP a_moQ a_moA a_moB a_moD), (a_moR, .inl (cI, 7, .inl moR_r))] H → va_S A s.heap H locs → W p l e R s m args below meth c H locs 0 0 Q (F0 m 0 ls []) from main _ _ hP hS
  intro H locs hP hS
  unfold wp_X8_refuse at ho
  refine lv_aload_n hx hb dX8_refuse_0 rfl (lv_at hl 0 rfl) ?_
  refine va_get (D := D) (ci := 7) (v := .ref a_moR) (C := RX8) (T := TX8) (N := 25) hx hb hts inlX8 hown hK hP 0 rfl rfl 0 (by decide) (hts _ wl_98) (fun _ h9 => h9) rfl dX8_refuse_1 ?_
  refine lv_iload_n hx hb dX8_refuse_4 rfl (lv_at hl 1 rfl) ?_
  refine lv_ineg hx hb dX8_refuse_5 ?_
  refine lv_dup2_11 hx hb dX8_refuse_6 rfl rfl ?_
  have o_7 := ho.1
  replace ho := ho.2
  refine va_iald hx hb hK hP 1 0 rfl rfl o_7 dX8_refuse_7 ?_
  refine lv_iconst (v := 1) hx hb dX8_refuse_8 (by decide) ?_
  refine lv_iadd hx hb dX8_refuse_9 ?_
  have o_10 := ho.1
  replace ho := ho.2
  refine va_iast hx hb hK hP hD hS 1 0 rfl rfl o_10 dX8_refuse_10 (fun H locs hP hD hS => ?_)
  replace hP : va_P D vwCl [(a_mo, oX8 a_moR mo_e mo_f mo_codes mo_most mo_minus mo_low mo_function mo_atX mo_atM a_moK a_moH a_moS mo_spanFunction mo_spanRounding mo_spanMany a_moF a_moT mo_parts mo_shift a_moP a_moQ a_moA a_moB a_moD), (a_moR, .inl (cI, 7, .inl (upd moR_r (-p1).toNatClampNeg ((moR_r (-p1).toNatClampNeg) + (1 : Int32)))))] H := hP
  replace hD : va_D A [(a_mo, oX8 a_moR mo_e mo_f mo_codes mo_most mo_minus mo_low mo_function mo_atX mo_atM a_moK a_moH a_moS mo_spanFunction mo_spanRounding mo_spanMany a_moF a_moT mo_parts mo_shift a_moP a_moQ a_moA a_moB a_moD), (a_moR, .inl (cI, 7, .inl (upd moR_r (-p1).toNatClampNeg ((moR_r (-p1).toNatClampNeg) + (1 : Int32)))))] := hD
  refine lv_iload_n hx hb dX8_refuse_11 rfl (lv_at hl 1 rfl) ?_
  subst hQ; exact W.iret (v := p1) hx hb hr (fun t ht hW => ⟨⟨p1, (upd moR_r (-p1).toNatClampNeg ((moR_r (-p1).toNatClampNeg) + (1 : Int32))), rfl, ho, by rw [ht]; exact hP, hD⟩, hS.F ht⟩) (fun q hq => hS.2.2 q hq) dX8_refuse_12

def w_X8_refuseFar : List Cond := .code yX8_refuseFar cX8_refuseFar 2 (some .int) :: wsL_law
set_option maxHeartbeats 4000000 in
set_option maxRecDepth 100000 in
theorem c_X8_refuseFar (l : Launch) (D : va_G) (cI cJ cZ : ClassId) (a_mo : Nat) (a_moR : Nat) (a_moK : Nat) (a_moH : Nat) (a_moS : Nat) (a_moF : Nat) (a_moT : Nat) (a_moP : Nat) (a_moQ : Nat) (a_moA : Nat) (a_moB : Nat) (a_moD : Nat) (sz : Nat) (mo_e : Int32) (mo_f : Int32) (mo_codes : Int32) (mo_most : Int32) (mo_minus : Int32) (mo_low : Int32) (mo_function : Int32) (mo_atX : Int32) (mo_atM : Int64) (mo_spanFunction : Int32) (mo_spanRounding : Int32) (mo_spanMany : Int32) (mo_parts : Int32) (mo_shift : Int32) (moR_r : Nat → Int32) (p1 : Int32) (post : Int32 → (Nat → Int32) → Prop) (A : Nat → Prop) (hAe : A = va_A [(a_mo, oX8 a_moR mo_e mo_f mo_codes mo_most mo_minus mo_low mo_function mo_atX mo_atM a_moK a_moH a_moS mo_spanFunction mo_spanRounding mo_spanMany a_moF a_moT mo_parts mo_shift a_moP a_moQ a_moA a_moB a_moD), (a_moR, .inl (cI, 7, .inl moR_r))] sz) (ho : wp_X8_refuseFar post moR_r p1) : Met l yX8_refuseFar w_X8_refuseFar ({ frames := 1, cells := 0, slots := 0, locals := 21 } : Room) (rw_P D [(cI, .int), (cJ, .long), (cZ, .boolean)] [.ref a_mo, .int p1] sz [(a_mo, oX8 a_moR mo_e mo_f mo_codes mo_most mo_minus mo_low mo_function mo_atX mo_atM a_moK a_moH a_moS mo_spanFunction mo_spanRounding mo_spanMany a_moF a_moT mo_parts mo_shift a_moP a_moQ a_moA a_moB a_moD), (a_moR, .inl (cI, 7, .inl moR_r))]) (va_Qi (fun (r : Int32) (u : (Nat → Int32)) => post r u) (rw_B D A (fun (u : (Nat → Int32)) => [(a_mo, oX8 a_moR mo_e mo_f mo_codes mo_most mo_minus mo_low mo_function mo_atX mo_atM a_moK a_moH a_moS mo_spanFunction mo_spanRounding mo_spanMany a_moF a_moT mo_parts mo_shift a_moP a_moQ a_moA a_moB a_moD), (a_moR, .inl (cI, 7, .inl u))])) A) 0 0 A := by
  refine Met.ofW (cc := cX8_refuseFar) (maxL := 2) (ret := (some .int)) (by decide) rfl ?_
  intro p e s m args below meth c s₁ B hml hv
  obtain ⟨hargs, hsz, hP, hK, hN, hD0⟩ := hv
  have hx := B.exec
  have hb := B.bytes
  have hr := B.returns
  have hts : ∀ w ∈ wsL_law, w.before args s = true := fun w h => atoms_spec (ws := w_X8_refuseFar) B.pre w (List.mem_cons_of_mem _ h)
  have hown : s.vm.findClass RX8 = some m.cls := findClass_of_methodNamed B.named
  have hlocks := B.notSynchronized
  subst hsz
  have hD : va_D A [(a_mo, oX8 a_moR mo_e mo_f mo_codes mo_most mo_minus mo_low mo_function mo_atX mo_atM a_moK a_moH a_moS mo_spanFunction mo_spanRounding mo_spanMany a_moF a_moT mo_parts mo_shift a_moP a_moQ a_moA a_moB a_moD), (a_moR, .inl (cI, 7, .inl moR_r))] := by rw [hAe]; exact hD0.self
  have hA : ∀ q : Nat, s.heap.size ≤ q → A q := fun q h => by rw [hAe]; exact Or.inr h
  have hS : va_S A s.heap s.heap [] := va_S.rf
  have hl := lv_entry ([.ref a_mo, .int p1]) (n := 2) (Nat.le_of_ble_eq_true rfl)
  rw [hargs, lg_entry_eq, ← hargs]
  generalize (lg_sl ([.ref a_mo, .int p1]) ++ List.replicate (2 - (lg_sl ([.ref a_mo, .int p1])).length) Slot.unset).toArray = ls at hl ⊢
  replace hl : lv_has ls 2 [(0, .ref a_mo), (1, .int p1)] := hl
  have hRf : ∀ n, n ≤ 1 → n ≤ (headSpec w_X8_refuseFar ({ frames := 1, cells := 0, slots := 0, locals := 21 } : Room)).room.frames := fun n h => h
  have hRl : ∀ n, n ≤ 21 → n ≤ (headSpec w_X8_refuseFar ({ frames := 1, cells := 0, slots := 0, locals := 21 } : Room)).room.locals := fun n h => h
  generalize (headSpec w_X8_refuseFar ({ frames := 1, cells := 0, slots := 0, locals := 21 } : Room)).room = R at hRf hRl ⊢
  generalize hQ : MQ below _ args s 0 0 _ = Q
  suffices main : ∀ (H : Heap) (locs : List Loc), va_P D vwCl [(a_mo, oX8 a_moR mo_e mo_f mo_codes mo_most mo_minus mo_low mo_function mo_atX mo_atM a_moK a_moH a_moS mo_spanFunction mo_spanRounding mo_spanMany a_moF a_moT mo_parts mo_shift a_moP a_moQ a_moA a_moB a_moD), (a_moR, .inl (cI, 7, .inl moR_r))] H → va_S A s.heap H locs → W p l e R s m args below meth c H locs 0 0 Q (F0 m 0 ls []) from main _ _ hP hS
  intro H locs hP hS
  unfold wp_X8_refuseFar at ho
  refine lv_ldc hx hb hown (hts _ wl_261) dX8_refuseFar_0 ?_
  refine lv_aload_n hx hb dX8_refuseFar_2 rfl (lv_at hl 0 rfl) ?_
  refine lv_iload_n hx hb dX8_refuseFar_3 rfl (lv_at hl 1 rfl) ?_
  refine ca_Wi (b := a_mo) (As := [.int p1]) (rest := [.int (1000000000 : Int32)]) (wr := []) (wo := fun (u : (Nat → Int32)) => [(a_mo, oX8 a_moR mo_e mo_f mo_codes mo_most mo_minus mo_low mo_function mo_atX mo_atM a_moK a_moH a_moS mo_spanFunction mo_spanRounding mo_spanMany a_moF a_moT mo_parts mo_shift a_moP a_moQ a_moA a_moB a_moD), (a_moR, .inl (cI, 7, .inl u))]) (wn := fun (u : (Nat → Int32)) => [(a_mo, oX8 a_moR mo_e mo_f mo_codes mo_most mo_minus mo_low mo_function mo_atX mo_atM a_moK a_moH a_moS mo_spanFunction mo_spanRounding mo_spanMany a_moF a_moT mo_parts mo_shift a_moP a_moQ a_moA a_moB a_moD), (a_moR, .inl (cI, 7, .inl u))]) ⟨hx, hb, hml, hown, hts⟩ (c_X8_refuse l D cI cJ cZ a_mo a_moR a_moK a_moH a_moS a_moF a_moT a_moP a_moQ a_moA a_moB a_moD H.size mo_e mo_f mo_codes mo_most mo_minus mo_low mo_function mo_atX mo_atM mo_spanFunction mo_spanRounding mo_spanMany mo_parts mo_shift moR_r p1 _ _ rfl ho) (cwV 1 hts (gdV wl_165 wl_166 wl_167 wl_5 wl_168) rfl rfl rfl (by decide +kernel) ⟨hRf _ (Nat.le_of_ble_eq_true rfl), hRl _ (Nat.le_of_ble_eq_true rfl)⟩) hK hN hP hD hS hA [0, 1] [] [0, 1] rfl rfl (by decide) (by decide) (by decide) (by decide) (fun _ => rfl) 0 7 rfl rfl rfl rfl hl.1 rfl (Nat.le_of_ble_eq_true rfl) dX8_refuseFar_4 ⟨Nat.zero_le _, Nat.zero_le _⟩ (fun r4 u4 H locs ho hP hD hS => ?_)
  try dsimp only at ho
  replace hP : va_P D vwCl [(a_mo, oX8 a_moR mo_e mo_f mo_codes mo_most mo_minus mo_low mo_function mo_atX mo_atM a_moK a_moH a_moS mo_spanFunction mo_spanRounding mo_spanMany a_moF a_moT mo_parts mo_shift a_moP a_moQ a_moA a_moB a_moD), (a_moR, .inl (cI, 7, .inl u4))] H := hP
  replace hD : va_D A [(a_mo, oX8 a_moR mo_e mo_f mo_codes mo_most mo_minus mo_low mo_function mo_atX mo_atM a_moK a_moH a_moS mo_spanFunction mo_spanRounding mo_spanMany a_moF a_moT mo_parts mo_shift a_moP a_moQ a_moA a_moB a_moD), (a_moR, .inl (cI, 7, .inl u4))] := hD
  refine lv_isub hx hb dX8_refuseFar_7 ?_
  subst hQ; exact W.iret (v := ((1000000000 : Int32) - r4)) hx hb hr (fun t ht hW => ⟨⟨((1000000000 : Int32) - r4), u4, rfl, ho, by rw [ht]; exact hP, hD⟩, hS.F ht⟩) (fun q hq => hS.2.2 q hq) dX8_refuseFar_8

def w_X8_isIn : List Cond := .code yX8_isIn cX8_isIn 2 (some .boolean) :: wsL_law
set_option maxHeartbeats 4000000 in
set_option maxRecDepth 100000 in
theorem c_X8_isIn (l : Launch) (D : va_G) (cI cJ cZ : ClassId)   (p1 : Int32) (p2 : Int32) (post : Int32 → Prop) (ho : wp_X8_isIn post p1 p2) : Met l yX8_isIn w_X8_isIn ({ frames := 0, cells := 0, slots := 0, locals := 0 } : Room) (ro_P D [(cI, .int), (cJ, .long), (cZ, .boolean)] [.int p1, .int p2] []) (vp_Si post) 0 0 (fun _ => False) := by
  refine Met.ofW (cc := cX8_isIn) (maxL := 2) (ret := (some .boolean)) (by decide) rfl ?_
  intro p e s m args below meth c s₁ B hml hv
  obtain ⟨hargs, hP, hK, hN⟩ := hv
  have hx := B.exec
  have hb := B.bytes
  have hr := B.returns
  have hts : ∀ w ∈ wsL_law, w.before args s = true := fun w h => atoms_spec (ws := w_X8_isIn) B.pre w (List.mem_cons_of_mem _ h)
  have hown : s.vm.findClass RX8 = some m.cls := findClass_of_methodNamed B.named
  have hlocks := B.notSynchronized
  have hl := lv_entry ([.int p1, .int p2]) (n := 2) (Nat.le_of_ble_eq_true rfl)
  rw [hargs, lg_entry_eq, ← hargs]
  generalize (lg_sl ([.int p1, .int p2]) ++ List.replicate (2 - (lg_sl ([.int p1, .int p2])).length) Slot.unset).toArray = ls at hl ⊢
  replace hl : lv_has ls 2 [(0, .int p1), (1, .int p2)] := hl
  have hRf : ∀ n, n ≤ 0 → n ≤ (headSpec w_X8_isIn ({ frames := 0, cells := 0, slots := 0, locals := 0 } : Room)).room.frames := fun n h => h
  have hRl : ∀ n, n ≤ 0 → n ≤ (headSpec w_X8_isIn ({ frames := 0, cells := 0, slots := 0, locals := 0 } : Room)).room.locals := fun n h => h
  generalize (headSpec w_X8_isIn ({ frames := 0, cells := 0, slots := 0, locals := 0 } : Room)).room = R at hRf hRl ⊢
  generalize hQ : MQ below _ args s 0 0 _ = Q
  unfold wp_X8_isIn at ho
  refine lv_iload_n hx hb dX8_isIn_0 rfl (lv_at hl 0 rfl) ?_
  refine lv_if_lt (tgt := 13) hx hb dX8_isIn_1 (by decide) (fun c_1 => ?_) (fun c_1 => ?_)
  · replace ho := ho.1 c_1
    refine lv_iconst (v := 0) hx hb dX8_isIn_13 (by decide) ?_
    subst hQ; exact W.zret (v := (0 : Int32)) hx hb hr rfl (fun t ht _ => ⟨(0 : Int32), rfl, ho, ht⟩) (fun _ h => by cases h) dX8_isIn_14
  · replace ho := ho.2 c_1
    refine lv_iload_n hx hb dX8_isIn_4 rfl (lv_at hl 0 rfl) ?_
    refine lv_iload_n hx hb dX8_isIn_5 rfl (lv_at hl 1 rfl) ?_
    refine lv_icmp_ge (tgt := 13) hx hb dX8_isIn_6 (by decide) (fun c_6 => ?_) (fun c_6 => ?_)
    · replace ho := ho.1 c_6
      refine lv_iconst (v := 0) hx hb dX8_isIn_13 (by decide) ?_
      subst hQ; exact W.zret (v := (0 : Int32)) hx hb hr rfl (fun t ht _ => ⟨(0 : Int32), rfl, ho, ht⟩) (fun _ h => by cases h) dX8_isIn_14
    · replace ho := ho.2 c_6
      refine lv_iconst (v := 1) hx hb dX8_isIn_9 (by decide) ?_
      refine lv_goto (tgt := 14) hx hb dX8_isIn_10 (by decide) ?_
      subst hQ; exact W.zret (v := (1 : Int32)) hx hb hr rfl (fun t ht _ => ⟨(1 : Int32), rfl, ho, ht⟩) (fun _ h => by cases h) dX8_isIn_14

def w_X8_makes : List Cond := .code yX8_makes cX8_makes 4 none :: wsL_law
set_option maxHeartbeats 4000000 in
set_option maxRecDepth 100000 in
theorem c_X8_makes (l : Launch) (D : va_G) (cI cJ cZ : ClassId) (a_mo : Nat) (a_moR : Nat) (a_moK : Nat) (a_moH : Nat) (a_moS : Nat) (a_moF : Nat) (a_moT : Nat) (a_moP : Nat) (a_moQ : Nat) (a_moA : Nat) (a_moB : Nat) (a_moD : Nat) (sz : Nat) (mo_e : Int32) (mo_f : Int32) (mo_codes : Int32) (mo_most : Int32) (mo_minus : Int32) (mo_low : Int32) (mo_function : Int32) (mo_atX : Int32) (mo_atM : Int64) (mo_spanFunction : Int32) (mo_spanRounding : Int32) (mo_spanMany : Int32) (mo_parts : Int32) (mo_shift : Int32) (moK_r : Nat → Int32) (p1 : Int32) (p2 : Int32) (post : Int32 → Int32 → Int32 → Int32 → Int32 → Int32 → Int32 → Int32 → (Nat → Int32) → Prop) (A : Nat → Prop) (hAe : A = va_A [(a_mo, oX8 a_moR mo_e mo_f mo_codes mo_most mo_minus mo_low mo_function mo_atX mo_atM a_moK a_moH a_moS mo_spanFunction mo_spanRounding mo_spanMany a_moF a_moT mo_parts mo_shift a_moP a_moQ a_moA a_moB a_moD), (a_moK, .inl (cZ, 5, .inl moK_r))] sz) (ho : wp_X8_makes post moK_r p1 p2) : Met l yX8_makes w_X8_makes ({ frames := 0, cells := 0, slots := 0, locals := 0 } : Room) (rw_P D [(cI, .int), (cJ, .long), (cZ, .boolean)] [.ref a_mo, .int p1, .int p2] sz [(a_mo, oX8 a_moR mo_e mo_f mo_codes mo_most mo_minus mo_low mo_function mo_atX mo_atM a_moK a_moH a_moS mo_spanFunction mo_spanRounding mo_spanMany a_moF a_moT mo_parts mo_shift a_moP a_moQ a_moA a_moB a_moD), (a_moK, .inl (cZ, 5, .inl moK_r))]) (va_Qv (fun (u : (Int32) × (Int32) × (Int32) × (Int32) × (Int32) × (Int32) × (Int32) × (Int32) × (Nat → Int32)) => post u.1 u.2.1 u.2.2.1 u.2.2.2.1 u.2.2.2.2.1 u.2.2.2.2.2.1 u.2.2.2.2.2.2.1 u.2.2.2.2.2.2.2.1 u.2.2.2.2.2.2.2.2) (rw_B D A (fun (u : (Int32) × (Int32) × (Int32) × (Int32) × (Int32) × (Int32) × (Int32) × (Int32) × (Nat → Int32)) => [(a_mo, oX8 a_moR u.1 u.2.1 u.2.2.1 u.2.2.2.1 u.2.2.2.2.1 u.2.2.2.2.2.1 mo_function mo_atX mo_atM a_moK a_moH a_moS u.2.2.2.2.2.2.1 mo_spanRounding mo_spanMany a_moF a_moT u.2.2.2.2.2.2.2.1 mo_shift a_moP a_moQ a_moA a_moB a_moD), (a_moK, .inl (cZ, 5, .inl u.2.2.2.2.2.2.2.2))])) A) 0 0 A := by
  refine Met.ofW (cc := cX8_makes) (maxL := 4) (ret := none) (by decide) rfl ?_
  intro p e s m args below meth c s₁ B hml hv
  obtain ⟨hargs, hsz, hP, hK, hN, hD0⟩ := hv
  have hx := B.exec
  have hb := B.bytes
  have hr := B.returns
  have hts : ∀ w ∈ wsL_law, w.before args s = true := fun w h => atoms_spec (ws := w_X8_makes) B.pre w (List.mem_cons_of_mem _ h)
  have hown : s.vm.findClass RX8 = some m.cls := findClass_of_methodNamed B.named
  have hlocks := B.notSynchronized
  subst hsz
  have hD : va_D A [(a_mo, oX8 a_moR mo_e mo_f mo_codes mo_most mo_minus mo_low mo_function mo_atX mo_atM a_moK a_moH a_moS mo_spanFunction mo_spanRounding mo_spanMany a_moF a_moT mo_parts mo_shift a_moP a_moQ a_moA a_moB a_moD), (a_moK, .inl (cZ, 5, .inl moK_r))] := by rw [hAe]; exact hD0.self
  have hA : ∀ q : Nat, s.heap.size ≤ q → A q := fun q h => by rw [hAe]; exact Or.inr h
  have hS : va_S A s.heap s.heap [] := va_S.rf
  have hl := lv_entry ([.ref a_mo, .int p1, .int p2]) (n := 4) (Nat.le_of_ble_eq_true rfl)
  rw [hargs, lg_entry_eq, ← hargs]
  generalize (lg_sl ([.ref a_mo, .int p1, .int p2]) ++ List.replicate (4 - (lg_sl ([.ref a_mo, .int p1, .int p2])).length) Slot.unset).toArray = ls at hl ⊢
  replace hl : lv_has ls 4 [(0, .ref a_mo), (1, .int p1), (2, .int p2)] := hl
  have hRf : ∀ n, n ≤ 0 → n ≤ (headSpec w_X8_makes ({ frames := 0, cells := 0, slots := 0, locals := 0 } : Room)).room.frames := fun n h => h
  have hRl : ∀ n, n ≤ 0 → n ≤ (headSpec w_X8_makes ({ frames := 0, cells := 0, slots := 0, locals := 0 } : Room)).room.locals := fun n h => h
  generalize (headSpec w_X8_makes ({ frames := 0, cells := 0, slots := 0, locals := 0 } : Room)).room = R at hRf hRl ⊢
  generalize hQ : MQ below _ args s 0 0 _ = Q
  have C_87 : ∀ n : Nat, ∀ (mo_e : Int32) (mo_f : Int32) (mo_codes : Int32) (mo_most : Int32) (mo_minus : Int32) (mo_low : Int32) (mo_spanFunction : Int32) (mo_parts : Int32) (moK_r : Nat → Int32) (x3 : Int32) (H : Heap) (locs : List Loc) (ls : Array Slot), wp_X8_makes_87 post   n mo_e mo_f mo_codes mo_most mo_minus mo_low mo_spanFunction mo_parts moK_r x3 → va_P D vwCl [(a_mo, oX8 a_moR mo_e mo_f mo_codes mo_most mo_minus mo_low mo_function mo_atX mo_atM a_moK a_moH a_moS mo_spanFunction mo_spanRounding mo_spanMany a_moF a_moT mo_parts mo_shift a_moP a_moQ a_moA a_moB a_moD), (a_moK, .inl (cZ, 5, .inl moK_r))] H → va_D A [(a_mo, oX8 a_moR mo_e mo_f mo_codes mo_most mo_minus mo_low mo_function mo_atX mo_atM a_moK a_moH a_moS mo_spanFunction mo_spanRounding mo_spanMany a_moF a_moT mo_parts mo_shift a_moP a_moQ a_moA a_moB a_moD), (a_moK, .inl (cZ, 5, .inl moK_r))] → va_S A s.heap H locs → lv_has ls 4 [(0, .ref a_mo), (3, .int x3)] → W p l e R s m args below meth c H locs 0 0 Q (F0 m 87 ls []) := by
    intro n
    induction n with
    | zero => intro mo_e mo_f mo_codes mo_most mo_minus mo_low mo_spanFunction mo_parts moK_r x3 H locs ls ho hP hD hS hl; exact ho.elim
    | succ n_87 ih_87 =>
      intro mo_e mo_f mo_codes mo_most mo_minus mo_low mo_spanFunction mo_parts moK_r x3 H locs ls ho hP hD hS hl
      replace ho : wp_X8_makes_87_b post  (wp_X8_makes_87 post  n_87) mo_e mo_f mo_codes mo_most mo_minus mo_low mo_spanFunction mo_parts moK_r x3 := ho
      unfold wp_X8_makes_87_b at ho
      refine lv_iload_n hx hb dX8_makes_87 rfl (lv_at hl 1 rfl) ?_
      refine lv_iconst (v := 5) hx hb dX8_makes_88 (by decide) ?_
      refine lv_icmp_ge (tgt := 105) hx hb dX8_makes_89 (by decide) (fun c_89 => ?_) (fun c_89 => ?_)
      · replace ho := ho.1 c_89
        subst hQ; exact W.vret hx hb hr (fun t ht hW => ⟨⟨(mo_e, mo_f, mo_codes, mo_most, mo_minus, mo_low, mo_spanFunction, mo_parts, moK_r), rfl, ho, by rw [ht]; exact hP, hD⟩, hS.F ht⟩) (fun q hq => hS.2.2 q hq) dX8_makes_105
      · replace ho := ho.2 c_89
        refine lv_aload_n hx hb dX8_makes_92 rfl (lv_at hl 0 rfl) ?_
        refine va_get (D := D) (ci := 7) (v := .ref a_moK) (C := RX8) (T := TX8) (N := 25) hx hb hts inlX8 hown hK hP 0 rfl rfl 10 (by decide) (hts _ wl_100) (fun _ h9 => h9) rfl dX8_makes_93 ?_
        refine lv_iload_n hx hb dX8_makes_96 rfl (lv_at hl 1 rfl) ?_
        refine lv_iconst (v := 0) hx hb dX8_makes_97 (by decide) ?_
        have o_98 := ho.1
        replace ho := ho.2
        refine va_zast hx hb hK hP hD hS 1 2 rfl rfl o_98 dX8_makes_98 (fun H locs hP hD hS => ?_)
        replace hP : va_P D vwCl [(a_mo, oX8 a_moR mo_e mo_f mo_codes mo_most mo_minus mo_low mo_function mo_atX mo_atM a_moK a_moH a_moS mo_spanFunction mo_spanRounding mo_spanMany a_moF a_moT mo_parts mo_shift a_moP a_moQ a_moA a_moB a_moD), (a_moK, .inl (cZ, 5, .inl (upd moK_r x3.toNatClampNeg (vp_nar .boolean (0 : Int32)))))] H := hP
        replace hD : va_D A [(a_mo, oX8 a_moR mo_e mo_f mo_codes mo_most mo_minus mo_low mo_function mo_atX mo_atM a_moK a_moH a_moS mo_spanFunction mo_spanRounding mo_spanMany a_moF a_moT mo_parts mo_shift a_moP a_moQ a_moA a_moB a_moD), (a_moK, .inl (cZ, 5, .inl (upd moK_r x3.toNatClampNeg (vp_nar .boolean (0 : Int32)))))] := hD
        refine lv_iinc (v := (x3 + (1 : Int32))) (lv' := [(3, .int (x3 + (1 : Int32))), (0, .ref a_mo)]) hx hb dX8_makes_99 hl (k := 1) rfl rfl (by decide) rfl (fun ls hl => ?_)
        refine lv_goto (tgt := 87) hx hb dX8_makes_102 (by decide) ?_
        exact ih_87 mo_e mo_f mo_codes mo_most mo_minus mo_low mo_spanFunction mo_parts (upd moK_r x3.toNatClampNeg (vp_nar .boolean (0 : Int32))) (x3 + (1 : Int32)) H locs ls ho hP hD hS (lv_sub hl [1, 0] rfl)
  suffices main : ∀ (H : Heap) (locs : List Loc), va_P D vwCl [(a_mo, oX8 a_moR mo_e mo_f mo_codes mo_most mo_minus mo_low mo_function mo_atX mo_atM a_moK a_moH a_moS mo_spanFunction mo_spanRounding mo_spanMany a_moF a_moT mo_parts mo_shift a_moP a_moQ a_moA a_moB a_moD), (a_moK, .inl (cZ, 5, .inl moK_r))] H → va_S A s.heap H locs → W p l e R s m args below meth c H locs 0 0 Q (F0 m 0 ls []) from main _ _ hP hS
  intro H locs hP hS
  unfold wp_X8_makes at ho
  refine lv_aload_n hx hb dX8_makes_0 rfl (lv_at hl 0 rfl) ?_
  refine lv_iload_n hx hb dX8_makes_1 rfl (lv_at hl 1 rfl) ?_
  refine va_put (D := D) (ci := 7) (v := .int p1) (ty := .int) (C := RX8) (T := TX8) (N := 25) hx hb hts inlX8 tyX8 tyX8_ok nmX8 hown hK hP hD hS 0 rfl rfl 1 (by decide) (hts _ wl_116) (fun _ h9 => h9) rfl (by decide +kernel) rfl rfl (Nat.le_of_ble_eq_true rfl) dX8_makes_2 (fun H locs hP hD hS => ?_)
  replace hP : va_P D vwCl [(a_mo, oX8 a_moR p1 mo_f mo_codes mo_most mo_minus mo_low mo_function mo_atX mo_atM a_moK a_moH a_moS mo_spanFunction mo_spanRounding mo_spanMany a_moF a_moT mo_parts mo_shift a_moP a_moQ a_moA a_moB a_moD), (a_moK, .inl (cZ, 5, .inl moK_r))] H := hP
  replace hD : va_D A [(a_mo, oX8 a_moR p1 mo_f mo_codes mo_most mo_minus mo_low mo_function mo_atX mo_atM a_moK a_moH a_moS mo_spanFunction mo_spanRounding mo_spanMany a_moF a_moT mo_parts mo_shift a_moP a_moQ a_moA a_moB a_moD), (a_moK, .inl (cZ, 5, .inl moK_r))] := hD
  refine lv_aload_n hx hb dX8_makes_5 rfl (lv_at hl 0 rfl) ?_
  refine lv_iload_n hx hb dX8_makes_6 rfl (lv_at hl 2 rfl) ?_
  refine va_put (D := D) (ci := 7) (v := .int p2) (ty := .int) (C := RX8) (T := TX8) (N := 25) hx hb hts inlX8 tyX8 tyX8_ok nmX8 hown hK hP hD hS 0 rfl rfl 2 (by decide) (hts _ wl_117) (fun _ h9 => h9) rfl (by decide +kernel) rfl rfl (Nat.le_of_ble_eq_true rfl) dX8_makes_7 (fun H locs hP hD hS => ?_)
  replace hP : va_P D vwCl [(a_mo, oX8 a_moR p1 p2 mo_codes mo_most mo_minus mo_low mo_function mo_atX mo_atM a_moK a_moH a_moS mo_spanFunction mo_spanRounding mo_spanMany a_moF a_moT mo_parts mo_shift a_moP a_moQ a_moA a_moB a_moD), (a_moK, .inl (cZ, 5, .inl moK_r))] H := hP
  replace hD : va_D A [(a_mo, oX8 a_moR p1 p2 mo_codes mo_most mo_minus mo_low mo_function mo_atX mo_atM a_moK a_moH a_moS mo_spanFunction mo_spanRounding mo_spanMany a_moF a_moT mo_parts mo_shift a_moP a_moQ a_moA a_moB a_moD), (a_moK, .inl (cZ, 5, .inl moK_r))] := hD
  refine lv_aload_n hx hb dX8_makes_10 rfl (lv_at hl 0 rfl) ?_
  refine lv_iconst (v := 1) hx hb dX8_makes_11 (by decide) ?_
  refine lv_iconst (v := 1) hx hb dX8_makes_12 (by decide) ?_
  refine lv_aload_n hx hb dX8_makes_13 rfl (lv_at hl 0 rfl) ?_
  refine va_get (D := D) (ci := 7) (v := .int p1) (C := RX8) (T := TX8) (N := 25) hx hb hts inlX8 hown hK hP 0 rfl rfl 1 (by decide) (hts _ wl_116) (fun _ h9 => h9) rfl dX8_makes_14 ?_
  refine lv_iadd hx hb dX8_makes_17 ?_
  refine lv_aload_n hx hb dX8_makes_18 rfl (lv_at hl 0 rfl) ?_
  refine va_get (D := D) (ci := 7) (v := .int p2) (C := RX8) (T := TX8) (N := 25) hx hb hts inlX8 hown hK hP 0 rfl rfl 2 (by decide) (hts _ wl_117) (fun _ h9 => h9) rfl dX8_makes_19 ?_
  refine lv_iadd hx hb dX8_makes_22 ?_
  refine lv_ishl hx hb dX8_makes_23 ?_
  refine va_put (D := D) (ci := 7) (v := .int ((1 : Int32) <<< ((((1 : Int32) + p1) + p2) &&& 31))) (ty := .int) (C := RX8) (T := TX8) (N := 25) hx hb hts inlX8 tyX8 tyX8_ok nmX8 hown hK hP hD hS 0 rfl rfl 3 (by decide) (hts _ wl_118) (fun _ h9 => h9) rfl (by decide +kernel) rfl rfl (Nat.le_of_ble_eq_true rfl) dX8_makes_24 (fun H locs hP hD hS => ?_)
  replace hP : va_P D vwCl [(a_mo, oX8 a_moR p1 p2 ((1 : Int32) <<< ((((1 : Int32) + p1) + p2) &&& 31)) mo_most mo_minus mo_low mo_function mo_atX mo_atM a_moK a_moH a_moS mo_spanFunction mo_spanRounding mo_spanMany a_moF a_moT mo_parts mo_shift a_moP a_moQ a_moA a_moB a_moD), (a_moK, .inl (cZ, 5, .inl moK_r))] H := hP
  replace hD : va_D A [(a_mo, oX8 a_moR p1 p2 ((1 : Int32) <<< ((((1 : Int32) + p1) + p2) &&& 31)) mo_most mo_minus mo_low mo_function mo_atX mo_atM a_moK a_moH a_moS mo_spanFunction mo_spanRounding mo_spanMany a_moF a_moT mo_parts mo_shift a_moP a_moQ a_moA a_moB a_moD), (a_moK, .inl (cZ, 5, .inl moK_r))] := hD
  refine lv_aload_n hx hb dX8_makes_27 rfl (lv_at hl 0 rfl) ?_
  refine lv_aload_n hx hb dX8_makes_28 rfl (lv_at hl 0 rfl) ?_
  refine va_get (D := D) (ci := 7) (v := .int ((1 : Int32) <<< ((((1 : Int32) + p1) + p2) &&& 31))) (C := RX8) (T := TX8) (N := 25) hx hb hts inlX8 hown hK hP 0 rfl rfl 3 (by decide) (hts _ wl_118) (fun _ h9 => h9) rfl dX8_makes_29 ?_
  refine lv_iconst (v := 2) hx hb dX8_makes_32 (by decide) ?_
  refine lv_idiv hx hb dX8_makes_33 (by decide) ?_
  refine va_put (D := D) (ci := 7) (v := .int (((1 : Int32) <<< ((((1 : Int32) + p1) + p2) &&& 31)) / (2 : Int32))) (ty := .int) (C := RX8) (T := TX8) (N := 25) hx hb hts inlX8 tyX8 tyX8_ok nmX8 hown hK hP hD hS 0 rfl rfl 5 (by decide) (hts _ wl_119) (fun _ h9 => h9) rfl (by decide +kernel) rfl rfl (Nat.le_of_ble_eq_true rfl) dX8_makes_34 (fun H locs hP hD hS => ?_)
  replace hP : va_P D vwCl [(a_mo, oX8 a_moR p1 p2 ((1 : Int32) <<< ((((1 : Int32) + p1) + p2) &&& 31)) mo_most (((1 : Int32) <<< ((((1 : Int32) + p1) + p2) &&& 31)) / (2 : Int32)) mo_low mo_function mo_atX mo_atM a_moK a_moH a_moS mo_spanFunction mo_spanRounding mo_spanMany a_moF a_moT mo_parts mo_shift a_moP a_moQ a_moA a_moB a_moD), (a_moK, .inl (cZ, 5, .inl moK_r))] H := hP
  replace hD : va_D A [(a_mo, oX8 a_moR p1 p2 ((1 : Int32) <<< ((((1 : Int32) + p1) + p2) &&& 31)) mo_most (((1 : Int32) <<< ((((1 : Int32) + p1) + p2) &&& 31)) / (2 : Int32)) mo_low mo_function mo_atX mo_atM a_moK a_moH a_moS mo_spanFunction mo_spanRounding mo_spanMany a_moF a_moT mo_parts mo_shift a_moP a_moQ a_moA a_moB a_moD), (a_moK, .inl (cZ, 5, .inl moK_r))] := hD
  refine lv_aload_n hx hb dX8_makes_37 rfl (lv_at hl 0 rfl) ?_
  refine lv_iconst (v := 1) hx hb dX8_makes_38 (by decide) ?_
  refine lv_aload_n hx hb dX8_makes_39 rfl (lv_at hl 0 rfl) ?_
  refine va_get (D := D) (ci := 7) (v := .int p1) (C := RX8) (T := TX8) (N := 25) hx hb hts inlX8 hown hK hP 0 rfl rfl 1 (by decide) (hts _ wl_116) (fun _ h9 => h9) rfl dX8_makes_40 ?_
  refine lv_ishl hx hb dX8_makes_43 ?_
  refine lv_iconst (v := 1) hx hb dX8_makes_44 (by decide) ?_
  refine lv_isub hx hb dX8_makes_45 ?_
  refine lv_aload_n hx hb dX8_makes_46 rfl (lv_at hl 0 rfl) ?_
  refine va_get (D := D) (ci := 7) (v := .int p2) (C := RX8) (T := TX8) (N := 25) hx hb hts inlX8 hown hK hP 0 rfl rfl 2 (by decide) (hts _ wl_117) (fun _ h9 => h9) rfl dX8_makes_47 ?_
  refine lv_ishl hx hb dX8_makes_50 ?_
  refine lv_iconst (v := 1) hx hb dX8_makes_51 (by decide) ?_
  refine lv_isub hx hb dX8_makes_52 ?_
  refine va_put (D := D) (ci := 7) (v := .int (((((1 : Int32) <<< (p1 &&& 31)) - (1 : Int32)) <<< (p2 &&& 31)) - (1 : Int32))) (ty := .int) (C := RX8) (T := TX8) (N := 25) hx hb hts inlX8 tyX8 tyX8_ok nmX8 hown hK hP hD hS 0 rfl rfl 4 (by decide) (hts _ wl_120) (fun _ h9 => h9) rfl (by decide +kernel) rfl rfl (Nat.le_of_ble_eq_true rfl) dX8_makes_53 (fun H locs hP hD hS => ?_)
  replace hP : va_P D vwCl [(a_mo, oX8 a_moR p1 p2 ((1 : Int32) <<< ((((1 : Int32) + p1) + p2) &&& 31)) (((((1 : Int32) <<< (p1 &&& 31)) - (1 : Int32)) <<< (p2 &&& 31)) - (1 : Int32)) (((1 : Int32) <<< ((((1 : Int32) + p1) + p2) &&& 31)) / (2 : Int32)) mo_low mo_function mo_atX mo_atM a_moK a_moH a_moS mo_spanFunction mo_spanRounding mo_spanMany a_moF a_moT mo_parts mo_shift a_moP a_moQ a_moA a_moB a_moD), (a_moK, .inl (cZ, 5, .inl moK_r))] H := hP
  replace hD : va_D A [(a_mo, oX8 a_moR p1 p2 ((1 : Int32) <<< ((((1 : Int32) + p1) + p2) &&& 31)) (((((1 : Int32) <<< (p1 &&& 31)) - (1 : Int32)) <<< (p2 &&& 31)) - (1 : Int32)) (((1 : Int32) <<< ((((1 : Int32) + p1) + p2) &&& 31)) / (2 : Int32)) mo_low mo_function mo_atX mo_atM a_moK a_moH a_moS mo_spanFunction mo_spanRounding mo_spanMany a_moF a_moT mo_parts mo_shift a_moP a_moQ a_moA a_moB a_moD), (a_moK, .inl (cZ, 5, .inl moK_r))] := hD
  refine lv_aload_n hx hb dX8_makes_56 rfl (lv_at hl 0 rfl) ?_
  refine lv_iconst (v := 2) hx hb dX8_makes_57 (by decide) ?_
  refine lv_iconst (v := 1) hx hb dX8_makes_58 (by decide) ?_
  refine lv_aload_n hx hb dX8_makes_59 rfl (lv_at hl 0 rfl) ?_
  refine va_get (D := D) (ci := 7) (v := .int p1) (C := RX8) (T := TX8) (N := 25) hx hb hts inlX8 hown hK hP 0 rfl rfl 1 (by decide) (hts _ wl_116) (fun _ h9 => h9) rfl dX8_makes_60 ?_
  refine lv_iconst (v := 1) hx hb dX8_makes_63 (by decide) ?_
  refine lv_isub hx hb dX8_makes_64 ?_
  refine lv_ishl hx hb dX8_makes_65 ?_
  refine lv_isub hx hb dX8_makes_66 ?_
  refine lv_aload_n hx hb dX8_makes_67 rfl (lv_at hl 0 rfl) ?_
  refine va_get (D := D) (ci := 7) (v := .int p2) (C := RX8) (T := TX8) (N := 25) hx hb hts inlX8 hown hK hP 0 rfl rfl 2 (by decide) (hts _ wl_117) (fun _ h9 => h9) rfl dX8_makes_68 ?_
  refine lv_isub hx hb dX8_makes_71 ?_
  refine va_put (D := D) (ci := 7) (v := .int (((2 : Int32) - ((1 : Int32) <<< ((p1 - (1 : Int32)) &&& 31))) - p2)) (ty := .int) (C := RX8) (T := TX8) (N := 25) hx hb hts inlX8 tyX8 tyX8_ok nmX8 hown hK hP hD hS 0 rfl rfl 6 (by decide) (hts _ wl_121) (fun _ h9 => h9) rfl (by decide +kernel) rfl rfl (Nat.le_of_ble_eq_true rfl) dX8_makes_72 (fun H locs hP hD hS => ?_)
  replace hP : va_P D vwCl [(a_mo, oX8 a_moR p1 p2 ((1 : Int32) <<< ((((1 : Int32) + p1) + p2) &&& 31)) (((((1 : Int32) <<< (p1 &&& 31)) - (1 : Int32)) <<< (p2 &&& 31)) - (1 : Int32)) (((1 : Int32) <<< ((((1 : Int32) + p1) + p2) &&& 31)) / (2 : Int32)) (((2 : Int32) - ((1 : Int32) <<< ((p1 - (1 : Int32)) &&& 31))) - p2) mo_function mo_atX mo_atM a_moK a_moH a_moS mo_spanFunction mo_spanRounding mo_spanMany a_moF a_moT mo_parts mo_shift a_moP a_moQ a_moA a_moB a_moD), (a_moK, .inl (cZ, 5, .inl moK_r))] H := hP
  replace hD : va_D A [(a_mo, oX8 a_moR p1 p2 ((1 : Int32) <<< ((((1 : Int32) + p1) + p2) &&& 31)) (((((1 : Int32) <<< (p1 &&& 31)) - (1 : Int32)) <<< (p2 &&& 31)) - (1 : Int32)) (((1 : Int32) <<< ((((1 : Int32) + p1) + p2) &&& 31)) / (2 : Int32)) (((2 : Int32) - ((1 : Int32) <<< ((p1 - (1 : Int32)) &&& 31))) - p2) mo_function mo_atX mo_atM a_moK a_moH a_moS mo_spanFunction mo_spanRounding mo_spanMany a_moF a_moT mo_parts mo_shift a_moP a_moQ a_moA a_moB a_moD), (a_moK, .inl (cZ, 5, .inl moK_r))] := hD
  refine lv_aload_n hx hb dX8_makes_75 rfl (lv_at hl 0 rfl) ?_
  refine lv_iconst (v := (-1)) hx hb dX8_makes_76 (by decide) ?_
  refine va_put (D := D) (ci := 7) (v := .int (-1 : Int32)) (ty := .int) (C := RX8) (T := TX8) (N := 25) hx hb hts inlX8 tyX8 tyX8_ok nmX8 hown hK hP hD hS 0 rfl rfl 18 (by decide) (hts _ wl_122) (fun _ h9 => h9) rfl (by decide +kernel) rfl rfl (Nat.le_of_ble_eq_true rfl) dX8_makes_77 (fun H locs hP hD hS => ?_)
  replace hP : va_P D vwCl [(a_mo, oX8 a_moR p1 p2 ((1 : Int32) <<< ((((1 : Int32) + p1) + p2) &&& 31)) (((((1 : Int32) <<< (p1 &&& 31)) - (1 : Int32)) <<< (p2 &&& 31)) - (1 : Int32)) (((1 : Int32) <<< ((((1 : Int32) + p1) + p2) &&& 31)) / (2 : Int32)) (((2 : Int32) - ((1 : Int32) <<< ((p1 - (1 : Int32)) &&& 31))) - p2) mo_function mo_atX mo_atM a_moK a_moH a_moS mo_spanFunction mo_spanRounding mo_spanMany a_moF a_moT (-1 : Int32) mo_shift a_moP a_moQ a_moA a_moB a_moD), (a_moK, .inl (cZ, 5, .inl moK_r))] H := hP
  replace hD : va_D A [(a_mo, oX8 a_moR p1 p2 ((1 : Int32) <<< ((((1 : Int32) + p1) + p2) &&& 31)) (((((1 : Int32) <<< (p1 &&& 31)) - (1 : Int32)) <<< (p2 &&& 31)) - (1 : Int32)) (((1 : Int32) <<< ((((1 : Int32) + p1) + p2) &&& 31)) / (2 : Int32)) (((2 : Int32) - ((1 : Int32) <<< ((p1 - (1 : Int32)) &&& 31))) - p2) mo_function mo_atX mo_atM a_moK a_moH a_moS mo_spanFunction mo_spanRounding mo_spanMany a_moF a_moT (-1 : Int32) mo_shift a_moP a_moQ a_moA a_moB a_moD), (a_moK, .inl (cZ, 5, .inl moK_r))] := hD
  refine lv_aload_n hx hb dX8_makes_80 rfl (lv_at hl 0 rfl) ?_
  refine lv_iconst (v := (-1)) hx hb dX8_makes_81 (by decide) ?_
  refine va_put (D := D) (ci := 7) (v := .int (-1 : Int32)) (ty := .int) (C := RX8) (T := TX8) (N := 25) hx hb hts inlX8 tyX8 tyX8_ok nmX8 hown hK hP hD hS 0 rfl rfl 13 (by decide) (hts _ wl_123) (fun _ h9 => h9) rfl (by decide +kernel) rfl rfl (Nat.le_of_ble_eq_true rfl) dX8_makes_82 (fun H locs hP hD hS => ?_)
  replace hP : va_P D vwCl [(a_mo, oX8 a_moR p1 p2 ((1 : Int32) <<< ((((1 : Int32) + p1) + p2) &&& 31)) (((((1 : Int32) <<< (p1 &&& 31)) - (1 : Int32)) <<< (p2 &&& 31)) - (1 : Int32)) (((1 : Int32) <<< ((((1 : Int32) + p1) + p2) &&& 31)) / (2 : Int32)) (((2 : Int32) - ((1 : Int32) <<< ((p1 - (1 : Int32)) &&& 31))) - p2) mo_function mo_atX mo_atM a_moK a_moH a_moS (-1 : Int32) mo_spanRounding mo_spanMany a_moF a_moT (-1 : Int32) mo_shift a_moP a_moQ a_moA a_moB a_moD), (a_moK, .inl (cZ, 5, .inl moK_r))] H := hP
  replace hD : va_D A [(a_mo, oX8 a_moR p1 p2 ((1 : Int32) <<< ((((1 : Int32) + p1) + p2) &&& 31)) (((((1 : Int32) <<< (p1 &&& 31)) - (1 : Int32)) <<< (p2 &&& 31)) - (1 : Int32)) (((1 : Int32) <<< ((((1 : Int32) + p1) + p2) &&& 31)) / (2 : Int32)) (((2 : Int32) - ((1 : Int32) <<< ((p1 - (1 : Int32)) &&& 31))) - p2) mo_function mo_atX mo_atM a_moK a_moH a_moS (-1 : Int32) mo_spanRounding mo_spanMany a_moF a_moT (-1 : Int32) mo_shift a_moP a_moQ a_moA a_moB a_moD), (a_moK, .inl (cZ, 5, .inl moK_r))] := hD
  refine lv_iconst (v := 0) hx hb dX8_makes_85 (by decide) ?_
  refine lv_istore_n (lv' := [(3, .int (0 : Int32)), (0, .ref a_mo), (1, .int p1), (2, .int p2)]) hx hb dX8_makes_86 rfl hl (by decide) rfl (fun ls hl => ?_)
  obtain ⟨n_87, ho⟩ := ho
  exact C_87 n_87 p1 p2 ((1 : Int32) <<< ((((1 : Int32) + p1) + p2) &&& 31)) (((((1 : Int32) <<< (p1 &&& 31)) - (1 : Int32)) <<< (p2 &&& 31)) - (1 : Int32)) (((1 : Int32) <<< ((((1 : Int32) + p1) + p2) &&& 31)) / (2 : Int32)) (((2 : Int32) - ((1 : Int32) <<< ((p1 - (1 : Int32)) &&& 31))) - p2) (-1 : Int32) (-1 : Int32) moK_r (0 : Int32) H locs ls ho hP hD hS (lv_sub hl [1, 0] rfl)

def w_X8_make : List Cond := .code yX8_make cX8_make 3 (some .int) :: wsL_law
set_option maxHeartbeats 4000000 in
set_option maxRecDepth 100000 in
theorem c_X8_make (l : Launch) (D : va_G) (cI cJ cZ : ClassId) (a_mo : Nat) (a_moR : Nat) (a_moK : Nat) (a_moH : Nat) (a_moS : Nat) (a_moF : Nat) (a_moT : Nat) (a_moP : Nat) (a_moQ : Nat) (a_moA : Nat) (a_moB : Nat) (a_moD : Nat) (sz : Nat) (mo_e : Int32) (mo_f : Int32) (mo_codes : Int32) (mo_most : Int32) (mo_minus : Int32) (mo_low : Int32) (mo_function : Int32) (mo_atX : Int32) (mo_atM : Int64) (mo_spanFunction : Int32) (mo_spanRounding : Int32) (mo_spanMany : Int32) (mo_parts : Int32) (mo_shift : Int32) (moR_r : Nat → Int32) (moK_r : Nat → Int32) (p1 : Int32) (p2 : Int32) (post : Int32 → Int32 → Int32 → Int32 → Int32 → Int32 → Int32 → Int32 → Int32 → (Nat → Int32) → (Nat → Int32) → Prop) (A : Nat → Prop) (hAe : A = va_A [(a_mo, oX8 a_moR mo_e mo_f mo_codes mo_most mo_minus mo_low mo_function mo_atX mo_atM a_moK a_moH a_moS mo_spanFunction mo_spanRounding mo_spanMany a_moF a_moT mo_parts mo_shift a_moP a_moQ a_moA a_moB a_moD), (a_moR, .inl (cI, 7, .inl moR_r)), (a_moK, .inl (cZ, 5, .inl moK_r))] sz) (ho : wp_X8_make post mo_e mo_f mo_codes mo_most mo_minus mo_low mo_spanFunction mo_parts moR_r moK_r p1 p2) : Met l yX8_make w_X8_make ({ frames := 1, cells := 0, slots := 0, locals := 23 } : Room) (rw_P D [(cI, .int), (cJ, .long), (cZ, .boolean)] [.ref a_mo, .int p1, .int p2] sz [(a_mo, oX8 a_moR mo_e mo_f mo_codes mo_most mo_minus mo_low mo_function mo_atX mo_atM a_moK a_moH a_moS mo_spanFunction mo_spanRounding mo_spanMany a_moF a_moT mo_parts mo_shift a_moP a_moQ a_moA a_moB a_moD), (a_moR, .inl (cI, 7, .inl moR_r)), (a_moK, .inl (cZ, 5, .inl moK_r))]) (va_Qi (fun (r : Int32) (u : (Int32) × (Int32) × (Int32) × (Int32) × (Int32) × (Int32) × (Int32) × (Int32) × (Nat → Int32) × (Nat → Int32)) => post r u.1 u.2.1 u.2.2.1 u.2.2.2.1 u.2.2.2.2.1 u.2.2.2.2.2.1 u.2.2.2.2.2.2.1 u.2.2.2.2.2.2.2.1 u.2.2.2.2.2.2.2.2.1 u.2.2.2.2.2.2.2.2.2) (rw_B D A (fun (u : (Int32) × (Int32) × (Int32) × (Int32) × (Int32) × (Int32) × (Int32) × (Int32) × (Nat → Int32) × (Nat → Int32)) => [(a_mo, oX8 a_moR u.1 u.2.1 u.2.2.1 u.2.2.2.1 u.2.2.2.2.1 u.2.2.2.2.2.1 mo_function mo_atX mo_atM a_moK a_moH a_moS u.2.2.2.2.2.2.1 mo_spanRounding mo_spanMany a_moF a_moT u.2.2.2.2.2.2.2.1 mo_shift a_moP a_moQ a_moA a_moB a_moD), (a_moR, .inl (cI, 7, .inl u.2.2.2.2.2.2.2.2.1)), (a_moK, .inl (cZ, 5, .inl u.2.2.2.2.2.2.2.2.2))])) A) 0 0 A := by
  refine Met.ofW (cc := cX8_make) (maxL := 3) (ret := (some .int)) (by decide) rfl ?_
  intro p e s m args below meth c s₁ B hml hv
  obtain ⟨hargs, hsz, hP, hK, hN, hD0⟩ := hv
  have hx := B.exec
  have hb := B.bytes
  have hr := B.returns
  have hts : ∀ w ∈ wsL_law, w.before args s = true := fun w h => atoms_spec (ws := w_X8_make) B.pre w (List.mem_cons_of_mem _ h)
  have hown : s.vm.findClass RX8 = some m.cls := findClass_of_methodNamed B.named
  have hlocks := B.notSynchronized
  subst hsz
  have hD : va_D A [(a_mo, oX8 a_moR mo_e mo_f mo_codes mo_most mo_minus mo_low mo_function mo_atX mo_atM a_moK a_moH a_moS mo_spanFunction mo_spanRounding mo_spanMany a_moF a_moT mo_parts mo_shift a_moP a_moQ a_moA a_moB a_moD), (a_moR, .inl (cI, 7, .inl moR_r)), (a_moK, .inl (cZ, 5, .inl moK_r))] := by rw [hAe]; exact hD0.self
  have hA : ∀ q : Nat, s.heap.size ≤ q → A q := fun q h => by rw [hAe]; exact Or.inr h
  have hS : va_S A s.heap s.heap [] := va_S.rf
  have hl := lv_entry ([.ref a_mo, .int p1, .int p2]) (n := 3) (Nat.le_of_ble_eq_true rfl)
  rw [hargs, lg_entry_eq, ← hargs]
  generalize (lg_sl ([.ref a_mo, .int p1, .int p2]) ++ List.replicate (3 - (lg_sl ([.ref a_mo, .int p1, .int p2])).length) Slot.unset).toArray = ls at hl ⊢
  replace hl : lv_has ls 3 [(0, .ref a_mo), (1, .int p1), (2, .int p2)] := hl
  have hRf : ∀ n, n ≤ 1 → n ≤ (headSpec w_X8_make ({ frames := 1, cells := 0, slots := 0, locals := 23 } : Room)).room.frames := fun n h => h
  have hRl : ∀ n, n ≤ 23 → n ≤ (headSpec w_X8_make ({ frames := 1, cells := 0, slots := 0, locals := 23 } : Room)).room.locals := fun n h => h
  generalize (headSpec w_X8_make ({ frames := 1, cells := 0, slots := 0, locals := 23 } : Room)).room = R at hRf hRl ⊢
  generalize hQ : MQ below _ args s 0 0 _ = Q
  have C_28 : ∀ (mo_e : Int32) (mo_f : Int32) (mo_codes : Int32) (mo_most : Int32) (mo_minus : Int32) (mo_low : Int32) (mo_spanFunction : Int32) (mo_parts : Int32) (moR_r : Nat → Int32) (moK_r : Nat → Int32) (H : Heap) (locs : List Loc) (ls : Array Slot), wp_X8_make_28 post  mo_e mo_f mo_codes mo_most mo_minus mo_low mo_spanFunction mo_parts moR_r moK_r → va_P D vwCl [(a_mo, oX8 a_moR mo_e mo_f mo_codes mo_most mo_minus mo_low mo_function mo_atX mo_atM a_moK a_moH a_moS mo_spanFunction mo_spanRounding mo_spanMany a_moF a_moT mo_parts mo_shift a_moP a_moQ a_moA a_moB a_moD), (a_moR, .inl (cI, 7, .inl moR_r)), (a_moK, .inl (cZ, 5, .inl moK_r))] H → va_D A [(a_mo, oX8 a_moR mo_e mo_f mo_codes mo_most mo_minus mo_low mo_function mo_atX mo_atM a_moK a_moH a_moS mo_spanFunction mo_spanRounding mo_spanMany a_moF a_moT mo_parts mo_shift a_moP a_moQ a_moA a_moB a_moD), (a_moR, .inl (cI, 7, .inl moR_r)), (a_moK, .inl (cZ, 5, .inl moK_r))] → va_S A s.heap H locs → lv_has ls 3 [(0, .ref a_mo)] → W p l e R s m args below meth c H locs 0 0 Q (F0 m 28 ls []) := by
    intro mo_e mo_f mo_codes mo_most mo_minus mo_low mo_spanFunction mo_parts moR_r moK_r H locs ls ho hP hD hS hl
    unfold wp_X8_make_28 at ho
    refine lv_aload_n hx hb dX8_make_28 rfl (lv_at hl 0 rfl) ?_
    refine lv_bipush (v := (-6)) hx hb dX8_make_29 (by decide) ?_
    refine ca_Wi (b := a_mo) (As := [.int (-6 : Int32)]) (rest := []) (wr := [(a_moK, .inl (cZ, 5, .inl moK_r))]) (wo := fun (u : (Nat → Int32)) => [(a_mo, oX8 a_moR mo_e mo_f mo_codes mo_most mo_minus mo_low mo_function mo_atX mo_atM a_moK a_moH a_moS mo_spanFunction mo_spanRounding mo_spanMany a_moF a_moT mo_parts mo_shift a_moP a_moQ a_moA a_moB a_moD), (a_moR, .inl (cI, 7, .inl u))]) (wn := fun (u : (Nat → Int32)) => [(a_mo, oX8 a_moR mo_e mo_f mo_codes mo_most mo_minus mo_low mo_function mo_atX mo_atM a_moK a_moH a_moS mo_spanFunction mo_spanRounding mo_spanMany a_moF a_moT mo_parts mo_shift a_moP a_moQ a_moA a_moB a_moD), (a_moR, .inl (cI, 7, .inl u)), (a_moK, .inl (cZ, 5, .inl moK_r))]) ⟨hx, hb, hml, hown, hts⟩ (c_X8_refuse l D cI cJ cZ a_mo a_moR a_moK a_moH a_moS a_moF a_moT a_moP a_moQ a_moA a_moB a_moD H.size mo_e mo_f mo_codes mo_most mo_minus mo_low mo_function mo_atX mo_atM mo_spanFunction mo_spanRounding mo_spanMany mo_parts mo_shift moR_r (-6 : Int32) _ _ rfl ho) (cwV 1 hts (gdV wl_165 wl_166 wl_167 wl_5 wl_168) rfl rfl rfl (by decide +kernel) ⟨hRf _ (Nat.le_of_ble_eq_true rfl), hRl _ (Nat.le_of_ble_eq_true rfl)⟩) hK hN hP hD hS hA [0, 1] [2] [1, 2, 0] rfl rfl (by decide) (by decide) (by decide) (by decide) (fun _ => rfl) 0 7 rfl rfl rfl rfl hl.1 rfl (Nat.le_of_ble_eq_true rfl) dX8_make_31 ⟨Nat.zero_le _, Nat.zero_le _⟩ (fun r31 u31 H locs ho hP hD hS => ?_)
    try dsimp only at ho
    replace hP : va_P D vwCl [(a_mo, oX8 a_moR mo_e mo_f mo_codes mo_most mo_minus mo_low mo_function mo_atX mo_atM a_moK a_moH a_moS mo_spanFunction mo_spanRounding mo_spanMany a_moF a_moT mo_parts mo_shift a_moP a_moQ a_moA a_moB a_moD), (a_moR, .inl (cI, 7, .inl u31)), (a_moK, .inl (cZ, 5, .inl moK_r))] H := hP
    replace hD : va_D A [(a_mo, oX8 a_moR mo_e mo_f mo_codes mo_most mo_minus mo_low mo_function mo_atX mo_atM a_moK a_moH a_moS mo_spanFunction mo_spanRounding mo_spanMany a_moF a_moT mo_parts mo_shift a_moP a_moQ a_moA a_moB a_moD), (a_moR, .inl (cI, 7, .inl u31)), (a_moK, .inl (cZ, 5, .inl moK_r))] := hD
    subst hQ; exact W.iret (v := r31) hx hb hr (fun t ht hW => ⟨⟨r31, (mo_e, mo_f, mo_codes, mo_most, mo_minus, mo_low, mo_spanFunction, mo_parts, u31, moK_r), rfl, ho, by rw [ht]; exact hP, hD⟩, hS.F ht⟩) (fun q hq => hS.2.2 q hq) dX8_make_34
  have C_10 : ∀ (mo_e : Int32) (mo_f : Int32) (mo_codes : Int32) (mo_most : Int32) (mo_minus : Int32) (mo_low : Int32) (mo_spanFunction : Int32) (mo_parts : Int32) (moR_r : Nat → Int32) (moK_r : Nat → Int32) (H : Heap) (locs : List Loc) (ls : Array Slot), wp_X8_make_10 post  mo_e mo_f mo_codes mo_most mo_minus mo_low mo_spanFunction mo_parts moR_r moK_r → va_P D vwCl [(a_mo, oX8 a_moR mo_e mo_f mo_codes mo_most mo_minus mo_low mo_function mo_atX mo_atM a_moK a_moH a_moS mo_spanFunction mo_spanRounding mo_spanMany a_moF a_moT mo_parts mo_shift a_moP a_moQ a_moA a_moB a_moD), (a_moR, .inl (cI, 7, .inl moR_r)), (a_moK, .inl (cZ, 5, .inl moK_r))] H → va_D A [(a_mo, oX8 a_moR mo_e mo_f mo_codes mo_most mo_minus mo_low mo_function mo_atX mo_atM a_moK a_moH a_moS mo_spanFunction mo_spanRounding mo_spanMany a_moF a_moT mo_parts mo_shift a_moP a_moQ a_moA a_moB a_moD), (a_moR, .inl (cI, 7, .inl moR_r)), (a_moK, .inl (cZ, 5, .inl moK_r))] → va_S A s.heap H locs → lv_has ls 3 [(0, .ref a_mo)] → W p l e R s m args below meth c H locs 0 0 Q (F0 m 10 ls []) := by
    intro mo_e mo_f mo_codes mo_most mo_minus mo_low mo_spanFunction mo_parts moR_r moK_r H locs ls ho hP hD hS hl
    unfold wp_X8_make_10 at ho
    refine lv_aload_n hx hb dX8_make_10 rfl (lv_at hl 0 rfl) ?_
    refine lv_bipush (v := (-4)) hx hb dX8_make_11 (by decide) ?_
    refine ca_Wi (b := a_mo) (As := [.int (-4 : Int32)]) (rest := []) (wr := [(a_moK, .inl (cZ, 5, .inl moK_r))]) (wo := fun (u : (Nat → Int32)) => [(a_mo, oX8 a_moR mo_e mo_f mo_codes mo_most mo_minus mo_low mo_function mo_atX mo_atM a_moK a_moH a_moS mo_spanFunction mo_spanRounding mo_spanMany a_moF a_moT mo_parts mo_shift a_moP a_moQ a_moA a_moB a_moD), (a_moR, .inl (cI, 7, .inl u))]) (wn := fun (u : (Nat → Int32)) => [(a_mo, oX8 a_moR mo_e mo_f mo_codes mo_most mo_minus mo_low mo_function mo_atX mo_atM a_moK a_moH a_moS mo_spanFunction mo_spanRounding mo_spanMany a_moF a_moT mo_parts mo_shift a_moP a_moQ a_moA a_moB a_moD), (a_moR, .inl (cI, 7, .inl u)), (a_moK, .inl (cZ, 5, .inl moK_r))]) ⟨hx, hb, hml, hown, hts⟩ (c_X8_refuse l D cI cJ cZ a_mo a_moR a_moK a_moH a_moS a_moF a_moT a_moP a_moQ a_moA a_moB a_moD H.size mo_e mo_f mo_codes mo_most mo_minus mo_low mo_function mo_atX mo_atM mo_spanFunction mo_spanRounding mo_spanMany mo_parts mo_shift moR_r (-4 : Int32) _ _ rfl ho) (cwV 1 hts (gdV wl_165 wl_166 wl_167 wl_5 wl_168) rfl rfl rfl (by decide +kernel) ⟨hRf _ (Nat.le_of_ble_eq_true rfl), hRl _ (Nat.le_of_ble_eq_true rfl)⟩) hK hN hP hD hS hA [0, 1] [2] [1, 2, 0] rfl rfl (by decide) (by decide) (by decide) (by decide) (fun _ => rfl) 0 7 rfl rfl rfl rfl hl.1 rfl (Nat.le_of_ble_eq_true rfl) dX8_make_13 ⟨Nat.zero_le _, Nat.zero_le _⟩ (fun r13 u13 H locs ho hP hD hS => ?_)
    try dsimp only at ho
    replace hP : va_P D vwCl [(a_mo, oX8 a_moR mo_e mo_f mo_codes mo_most mo_minus mo_low mo_function mo_atX mo_atM a_moK a_moH a_moS mo_spanFunction mo_spanRounding mo_spanMany a_moF a_moT mo_parts mo_shift a_moP a_moQ a_moA a_moB a_moD), (a_moR, .inl (cI, 7, .inl u13)), (a_moK, .inl (cZ, 5, .inl moK_r))] H := hP
    replace hD : va_D A [(a_mo, oX8 a_moR mo_e mo_f mo_codes mo_most mo_minus mo_low mo_function mo_atX mo_atM a_moK a_moH a_moS mo_spanFunction mo_spanRounding mo_spanMany a_moF a_moT mo_parts mo_shift a_moP a_moQ a_moA a_moB a_moD), (a_moR, .inl (cI, 7, .inl u13)), (a_moK, .inl (cZ, 5, .inl moK_r))] := hD
    subst hQ; exact W.iret (v := r13) hx hb hr (fun t ht hW => ⟨⟨r13, (mo_e, mo_f, mo_codes, mo_most, mo_minus, mo_low, mo_spanFunction, mo_parts, u13, moK_r), rfl, ho, by rw [ht]; exact hP, hD⟩, hS.F ht⟩) (fun q hq => hS.2.2 q hq) dX8_make_16
  suffices main : ∀ (H : Heap) (locs : List Loc), va_P D vwCl [(a_mo, oX8 a_moR mo_e mo_f mo_codes mo_most mo_minus mo_low mo_function mo_atX mo_atM a_moK a_moH a_moS mo_spanFunction mo_spanRounding mo_spanMany a_moF a_moT mo_parts mo_shift a_moP a_moQ a_moA a_moB a_moD), (a_moR, .inl (cI, 7, .inl moR_r)), (a_moK, .inl (cZ, 5, .inl moK_r))] H → va_S A s.heap H locs → W p l e R s m args below meth c H locs 0 0 Q (F0 m 0 ls []) from main _ _ hP hS
  intro H locs hP hS
  unfold wp_X8_make at ho
  refine lv_iload_n hx hb dX8_make_0 rfl (lv_at hl 1 rfl) ?_
  refine lv_iconst (v := 2) hx hb dX8_make_1 (by decide) ?_
  refine lv_icmp_lt (tgt := 10) hx hb dX8_make_2 (by decide) (fun c_2 => ?_) (fun c_2 => ?_)
  · replace ho := ho.1 c_2
    exact C_10 mo_e mo_f mo_codes mo_most mo_minus mo_low mo_spanFunction mo_parts moR_r moK_r H locs ls ho hP hD hS (lv_sub hl [0] rfl)
  · replace ho := ho.2 c_2
    refine lv_iload_n hx hb dX8_make_5 rfl (lv_at hl 2 rfl) ?_
    refine lv_iconst (v := 1) hx hb dX8_make_6 (by decide) ?_
    refine lv_icmp_ge (tgt := 17) hx hb dX8_make_7 (by decide) (fun c_7 => ?_) (fun c_7 => ?_)
    · replace ho := ho.1 c_7
      refine lv_iload_n hx hb dX8_make_17 rfl (lv_at hl 1 rfl) ?_
      refine lv_iconst (v := 5) hx hb dX8_make_18 (by decide) ?_
      refine lv_icmp_gt (tgt := 28) hx hb dX8_make_19 (by decide) (fun c_19 => ?_) (fun c_19 => ?_)
      · replace ho := ho.1 c_19
        exact C_28 mo_e mo_f mo_codes mo_most mo_minus mo_low mo_spanFunction mo_parts moR_r moK_r H locs ls ho hP hD hS (lv_sub hl [0] rfl)
      · replace ho := ho.2 c_19
        refine lv_iload_n hx hb dX8_make_22 rfl (lv_at hl 2 rfl) ?_
        refine lv_bipush (v := 8) hx hb dX8_make_23 (by decide) ?_
        refine lv_icmp_le (tgt := 35) hx hb dX8_make_25 (by decide) (fun c_25 => ?_) (fun c_25 => ?_)
        · replace ho := ho.1 c_25
          refine lv_aload_n hx hb dX8_make_35 rfl (lv_at hl 0 rfl) ?_
          refine lv_iload_n hx hb dX8_make_36 rfl (lv_at hl 1 rfl) ?_
          refine lv_iload_n hx hb dX8_make_37 rfl (lv_at hl 2 rfl) ?_
          refine ca_Wv (b := a_mo) (As := [.int p1, .int p2]) (rest := []) (wr := [(a_moR, .inl (cI, 7, .inl moR_r))]) (wo := fun (u : (Int32) × (Int32) × (Int32) × (Int32) × (Int32) × (Int32) × (Int32) × (Int32) × (Nat → Int32)) => [(a_mo, oX8 a_moR u.1 u.2.1 u.2.2.1 u.2.2.2.1 u.2.2.2.2.1 u.2.2.2.2.2.1 mo_function mo_atX mo_atM a_moK a_moH a_moS u.2.2.2.2.2.2.1 mo_spanRounding mo_spanMany a_moF a_moT u.2.2.2.2.2.2.2.1 mo_shift a_moP a_moQ a_moA a_moB a_moD), (a_moK, .inl (cZ, 5, .inl u.2.2.2.2.2.2.2.2))]) (wn := fun (u : (Int32) × (Int32) × (Int32) × (Int32) × (Int32) × (Int32) × (Int32) × (Int32) × (Nat → Int32)) => [(a_mo, oX8 a_moR u.1 u.2.1 u.2.2.1 u.2.2.2.1 u.2.2.2.2.1 u.2.2.2.2.2.1 mo_function mo_atX mo_atM a_moK a_moH a_moS u.2.2.2.2.2.2.1 mo_spanRounding mo_spanMany a_moF a_moT u.2.2.2.2.2.2.2.1 mo_shift a_moP a_moQ a_moA a_moB a_moD), (a_moR, .inl (cI, 7, .inl moR_r)), (a_moK, .inl (cZ, 5, .inl u.2.2.2.2.2.2.2.2))]) ⟨hx, hb, hml, hown, hts⟩ (c_X8_makes l D cI cJ cZ a_mo a_moR a_moK a_moH a_moS a_moF a_moT a_moP a_moQ a_moA a_moB a_moD H.size mo_e mo_f mo_codes mo_most mo_minus mo_low mo_function mo_atX mo_atM mo_spanFunction mo_spanRounding mo_spanMany mo_parts mo_shift moK_r p1 p2 _ _ rfl ho) (cwV 2 hts (gdV wl_112 wl_113 wl_114 wl_5 wl_115) rfl rfl rfl (by decide +kernel) ⟨hRf _ (Nat.le_of_ble_eq_true rfl), hRl _ (Nat.le_of_ble_eq_true rfl)⟩) hK hN hP hD hS hA [0, 2] [1] [1, 0, 2] rfl rfl (by decide) (by decide) (by decide) (by decide) (fun _ => rfl) 0 7 rfl rfl rfl rfl hl.1 rfl (Nat.le_of_ble_eq_true rfl) dX8_make_38 ⟨Nat.zero_le _, Nat.zero_le _⟩ (fun  u38 H locs ho hP hD hS => ?_)
          obtain ⟨u38_1, u38_2, u38_3, u38_4, u38_5, u38_6, u38_7, u38_8, u38_9⟩ := u38
          try dsimp only at ho
          replace hP : va_P D vwCl [(a_mo, oX8 a_moR u38_1 u38_2 u38_3 u38_4 u38_5 u38_6 mo_function mo_atX mo_atM a_moK a_moH a_moS u38_7 mo_spanRounding mo_spanMany a_moF a_moT u38_8 mo_shift a_moP a_moQ a_moA a_moB a_moD), (a_moR, .inl (cI, 7, .inl moR_r)), (a_moK, .inl (cZ, 5, .inl u38_9))] H := hP
          replace hD : va_D A [(a_mo, oX8 a_moR u38_1 u38_2 u38_3 u38_4 u38_5 u38_6 mo_function mo_atX mo_atM a_moK a_moH a_moS u38_7 mo_spanRounding mo_spanMany a_moF a_moT u38_8 mo_shift a_moP a_moQ a_moA a_moB a_moD), (a_moR, .inl (cI, 7, .inl moR_r)), (a_moK, .inl (cZ, 5, .inl u38_9))] := hD
          refine lv_aload_n hx hb dX8_make_41 rfl (lv_at hl 0 rfl) ?_
          refine va_get (D := D) (ci := 7) (v := .int u38_3) (C := RX8) (T := TX8) (N := 25) hx hb hts inlX8 hown hK hP 0 rfl rfl 3 (by decide) (hts _ wl_118) (fun _ h9 => h9) rfl dX8_make_42 ?_
          subst hQ; exact W.iret (v := u38_3) hx hb hr (fun t ht hW => ⟨⟨u38_3, (u38_1, u38_2, u38_3, u38_4, u38_5, u38_6, u38_7, u38_8, moR_r, u38_9), rfl, ho, by rw [ht]; exact hP, hD⟩, hS.F ht⟩) (fun q hq => hS.2.2 q hq) dX8_make_45
        · replace ho := ho.2 c_25
          exact C_28 mo_e mo_f mo_codes mo_most mo_minus mo_low mo_spanFunction mo_parts moR_r moK_r H locs ls ho hP hD hS (lv_sub hl [0] rfl)
    · replace ho := ho.2 c_7
      exact C_10 mo_e mo_f mo_codes mo_most mo_minus mo_low mo_spanFunction mo_parts moR_r moK_r H locs ls ho hP hD hS (lv_sub hl [0] rfl)

def w_X8_isCode : List Cond := .code yX8_isCode cX8_isCode 2 (some .boolean) :: wsL_law
set_option maxHeartbeats 4000000 in
set_option maxRecDepth 100000 in
theorem c_X8_isCode (l : Launch) (D : va_G) (cI cJ cZ : ClassId) (a_mo : Nat) (a_moR : Nat) (a_moK : Nat) (a_moH : Nat) (a_moS : Nat) (a_moF : Nat) (a_moT : Nat) (a_moP : Nat) (a_moQ : Nat) (a_moA : Nat) (a_moB : Nat) (a_moD : Nat) (mo_e : Int32) (mo_f : Int32) (mo_codes : Int32) (mo_most : Int32) (mo_minus : Int32) (mo_low : Int32) (mo_function : Int32) (mo_atX : Int32) (mo_atM : Int64) (mo_spanFunction : Int32) (mo_spanRounding : Int32) (mo_spanMany : Int32) (mo_parts : Int32) (mo_shift : Int32) (p1 : Int32) (post : Int32 → Prop) (ho : wp_X8_isCode post mo_codes p1) : Met l yX8_isCode w_X8_isCode ({ frames := 1, cells := 0, slots := 0, locals := 21 } : Room) (ro_P D [(cI, .int), (cJ, .long), (cZ, .boolean)] [.ref a_mo, .int p1] [(a_mo, oX8 a_moR mo_e mo_f mo_codes mo_most mo_minus mo_low mo_function mo_atX mo_atM a_moK a_moH a_moS mo_spanFunction mo_spanRounding mo_spanMany a_moF a_moT mo_parts mo_shift a_moP a_moQ a_moA a_moB a_moD)]) (vp_Si post) 0 0 (fun _ => False) := by
  refine Met.ofW (cc := cX8_isCode) (maxL := 2) (ret := (some .boolean)) (by decide) rfl ?_
  intro p e s m args below meth c s₁ B hml hv
  obtain ⟨hargs, hP, hK, hN⟩ := hv
  have hx := B.exec
  have hb := B.bytes
  have hr := B.returns
  have hts : ∀ w ∈ wsL_law, w.before args s = true := fun w h => atoms_spec (ws := w_X8_isCode) B.pre w (List.mem_cons_of_mem _ h)
  have hown : s.vm.findClass RX8 = some m.cls := findClass_of_methodNamed B.named
  have hlocks := B.notSynchronized
  have hl := lv_entry ([.ref a_mo, .int p1]) (n := 2) (Nat.le_of_ble_eq_true rfl)
  rw [hargs, lg_entry_eq, ← hargs]
  generalize (lg_sl ([.ref a_mo, .int p1]) ++ List.replicate (2 - (lg_sl ([.ref a_mo, .int p1])).length) Slot.unset).toArray = ls at hl ⊢
  replace hl : lv_has ls 2 [(0, .ref a_mo), (1, .int p1)] := hl
  have hRf : ∀ n, n ≤ 1 → n ≤ (headSpec w_X8_isCode ({ frames := 1, cells := 0, slots := 0, locals := 21 } : Room)).room.frames := fun n h => h
  have hRl : ∀ n, n ≤ 21 → n ≤ (headSpec w_X8_isCode ({ frames := 1, cells := 0, slots := 0, locals := 21 } : Room)).room.locals := fun n h => h
  generalize (headSpec w_X8_isCode ({ frames := 1, cells := 0, slots := 0, locals := 21 } : Room)).room = R at hRf hRl ⊢
  generalize hQ : MQ below _ args s 0 0 _ = Q
  unfold wp_X8_isCode at ho
  refine lv_iload_n hx hb dX8_isCode_0 rfl (lv_at hl 1 rfl) ?_
  refine lv_aload_n hx hb dX8_isCode_1 rfl (lv_at hl 0 rfl) ?_
  refine va_get (D := D) (ci := 7) (v := .int mo_codes) (C := RX8) (T := TX8) (N := 25) hx hb hts inlX8 hown hK hP 0 rfl rfl 3 (by decide) (hts _ wl_118) (fun _ h9 => h9) rfl dX8_isCode_2 ?_
  refine ca_Si (As := [.int p1, .int mo_codes]) (rest := []) ⟨hx, hb, hml, hown, hts⟩ (c_X8_isIn l D cI cJ cZ   p1 mo_codes _ ho) (va_cwS 2 hts (gdS wl_254 wl_255 wl_5 wl_256) rfl rfl rfl (by decide +kernel) ⟨hRf _ (Nat.le_of_ble_eq_true rfl), hRl _ (Nat.le_of_ble_eq_true rfl)⟩) hK hN hP [] rfl rfl hl.1 rfl (Nat.le_of_ble_eq_true rfl) dX8_isCode_5 ⟨Nat.zero_le _, Nat.zero_le _⟩ (fun r5 ho => ?_)
  have o_8 := ho.1
  replace ho := ho.2
  subst hQ; exact W.zret (v := r5) hx hb hr (bz_n o_8) (fun t ht _ => ⟨r5, rfl, ho, ht⟩) (fun _ h => by cases h) dX8_isCode_8

def w_X8_size : List Cond := .code yX8_size cX8_size 2 (some .int) :: wsL_law
set_option maxHeartbeats 4000000 in
set_option maxRecDepth 100000 in
theorem c_X8_size (l : Launch) (D : va_G) (cI cJ cZ : ClassId) (a_mo : Nat) (a_moR : Nat) (a_moK : Nat) (a_moH : Nat) (a_moS : Nat) (a_moF : Nat) (a_moT : Nat) (a_moP : Nat) (a_moQ : Nat) (a_moA : Nat) (a_moB : Nat) (a_moD : Nat) (mo_e : Int32) (mo_f : Int32) (mo_codes : Int32) (mo_most : Int32) (mo_minus : Int32) (mo_low : Int32) (mo_function : Int32) (mo_atX : Int32) (mo_atM : Int64) (mo_spanFunction : Int32) (mo_spanRounding : Int32) (mo_spanMany : Int32) (mo_parts : Int32) (mo_shift : Int32) (p1 : Int32) (post : Int32 → Prop) (ho : wp_X8_size post mo_minus p1) : Met l yX8_size w_X8_size ({ frames := 0, cells := 0, slots := 0, locals := 0 } : Room) (ro_P D [(cI, .int), (cJ, .long), (cZ, .boolean)] [.ref a_mo, .int p1] [(a_mo, oX8 a_moR mo_e mo_f mo_codes mo_most mo_minus mo_low mo_function mo_atX mo_atM a_moK a_moH a_moS mo_spanFunction mo_spanRounding mo_spanMany a_moF a_moT mo_parts mo_shift a_moP a_moQ a_moA a_moB a_moD)]) (vp_Si post) 0 0 (fun _ => False) := by
  refine Met.ofW (cc := cX8_size) (maxL := 2) (ret := (some .int)) (by decide) rfl ?_
  intro p e s m args below meth c s₁ B hml hv
  obtain ⟨hargs, hP, hK, hN⟩ := hv
  have hx := B.exec
  have hb := B.bytes
  have hr := B.returns
  have hts : ∀ w ∈ wsL_law, w.before args s = true := fun w h => atoms_spec (ws := w_X8_size) B.pre w (List.mem_cons_of_mem _ h)
  have hown : s.vm.findClass RX8 = some m.cls := findClass_of_methodNamed B.named
  have hlocks := B.notSynchronized
  have hl := lv_entry ([.ref a_mo, .int p1]) (n := 2) (Nat.le_of_ble_eq_true rfl)
  rw [hargs, lg_entry_eq, ← hargs]
  generalize (lg_sl ([.ref a_mo, .int p1]) ++ List.replicate (2 - (lg_sl ([.ref a_mo, .int p1])).length) Slot.unset).toArray = ls at hl ⊢
  replace hl : lv_has ls 2 [(0, .ref a_mo), (1, .int p1)] := hl
  have hRf : ∀ n, n ≤ 0 → n ≤ (headSpec w_X8_size ({ frames := 0, cells := 0, slots := 0, locals := 0 } : Room)).room.frames := fun n h => h
  have hRl : ∀ n, n ≤ 0 → n ≤ (headSpec w_X8_size ({ frames := 0, cells := 0, slots := 0, locals := 0 } : Room)).room.locals := fun n h => h
  generalize (headSpec w_X8_size ({ frames := 0, cells := 0, slots := 0, locals := 0 } : Room)).room = R at hRf hRl ⊢
  generalize hQ : MQ below _ args s 0 0 _ = Q
  unfold wp_X8_size at ho
  refine lv_iload_n hx hb dX8_size_0 rfl (lv_at hl 1 rfl) ?_
  refine lv_aload_n hx hb dX8_size_1 rfl (lv_at hl 0 rfl) ?_
  refine va_get (D := D) (ci := 7) (v := .int mo_minus) (C := RX8) (T := TX8) (N := 25) hx hb hts inlX8 hown hK hP 0 rfl rfl 5 (by decide) (hts _ wl_119) (fun _ h9 => h9) rfl dX8_size_2 ?_
  refine lv_iconst (v := 1) hx hb dX8_size_5 (by decide) ?_
  refine lv_isub hx hb dX8_size_6 ?_
  refine lv_iand hx hb dX8_size_7 ?_
  subst hQ; exact W.iret (v := (p1 &&& (mo_minus - (1 : Int32)))) hx hb hr (fun t ht _ => ⟨(p1 &&& (mo_minus - (1 : Int32))), rfl, ho, ht⟩) (fun _ h => by cases h) dX8_size_8
