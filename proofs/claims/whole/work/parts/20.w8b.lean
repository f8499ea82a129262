def wp_X8_power (post : Int32 → Prop) (mo_f : Int32) (mo_low : Int32) (p1 : Int32) : Prop := ((¬ (p1 >>> (mo_f &&& 31)) = 0) → (post (mo_low + ((p1 >>> (mo_f &&& 31)) - (1 : Int32))))) ∧ ((¬ (¬ (p1 >>> (mo_f &&& 31)) = 0)) → (post (mo_low + (0 : Int32))))
set_option maxRecDepth 20000 in
theorem in_X8_power_X8 : ∀ w ∈ u_ws RX8 TX8 25, w ∈ wsX8_power := fun w h => (goodIn_r wsX80 [3, 4, 5, 6, 7, 8, 9, 10, 11, 12, 13, 14, 15, 16, 17, 18, 19, 20, 21, 22, 23, 24, 25, 26, 27] (by decide +kernel) (by decide +kernel) w h).1
set_option maxHeartbeats 4000000 in
set_option maxRecDepth 100000 in
theorem c_X8_power (l : Launch) (D : va_G) (cI cJ cZ : ClassId) (a_mo : Nat) (a_moR : Nat) (a_moK : Nat) (a_moH : Nat) (a_moS : Nat) (a_moF : Nat) (a_moT : Nat) (a_moP : Nat) (a_moQ : Nat) (a_moA : Nat) (a_moB : Nat) (a_moD : Nat) (mo_e : Int32) (mo_f : Int32) (mo_codes : Int32) (mo_most : Int32) (mo_minus : Int32) (mo_low : Int32) (mo_function : Int32) (mo_atX : Int32) (mo_atM : Int64) (mo_spanFunction : Int32) (mo_spanRounding : Int32) (mo_spanMany : Int32) (mo_parts : Int32) (mo_shift : Int32) (p1 : Int32) (post : Int32 → Prop) (ho : wp_X8_power post mo_f mo_low p1) : Met l yX8_power wsX8_power ({ frames := 0, cells := 0, slots := 0, locals := 0 } : Room) (ro_P D [(cI, .int), (cJ, .long), (cZ, .boolean)] [.ref a_mo, .int p1] [(a_mo, oX8 a_moR mo_e mo_f mo_codes mo_most mo_minus mo_low mo_function mo_atX mo_atM a_moK a_moH a_moS mo_spanFunction mo_spanRounding mo_spanMany a_moF a_moT mo_parts mo_shift a_moP a_moQ a_moA a_moB a_moD)]) (vp_Si post) 0 0 (fun _ => False) := by
  refine Met.ofW (cc := cX8_power) (maxL := 2) (ret := (some .int)) (by decide) rfl ?_
  intro p e s m args below meth c s₁ B hml hv
  obtain ⟨hargs, hP, hK, hN⟩ := hv
  have hx := B.exec
  have hb := B.bytes
  have hr := B.returns
  have hts := atoms_spec (ws := wsX8_power) B.pre
  have hown : s.vm.findClass RX8 = some m.cls := findClass_of_methodNamed B.named
  have hlocks := B.notSynchronized
  have hl := lv_entry ([.ref a_mo, .int p1]) (n := 2) (Nat.le_of_ble_eq_true rfl)
  rw [hargs, lg_entry_eq, ← hargs]
  generalize (lg_sl ([.ref a_mo, .int p1]) ++ List.replicate (2 - (lg_sl ([.ref a_mo, .int p1])).length) Slot.unset).toArray = ls at hl ⊢
  replace hl : lv_has ls 2 [(0, .ref a_mo), (1, .int p1)] := hl
  have hRf : ∀ n, n ≤ 0 → n ≤ (headSpec wsX8_power ({ frames := 0, cells := 0, slots := 0, locals := 0 } : Room)).room.frames := fun n h => h
  have hRl : ∀ n, n ≤ 0 → n ≤ (headSpec wsX8_power ({ frames := 0, cells := 0, slots := 0, locals := 0 } : Room)).room.locals := fun n h => h
  generalize (headSpec wsX8_power ({ frames := 0, cells := 0, slots := 0, locals := 0 } : Room)).room = R at hRf hRl ⊢
  generalize hQ : MQ below _ args s 0 0 _ = Q
  unfold wp_X8_power at ho
  refine lv_aload_n hx hb dX8_power_0 rfl (lv_at hl 0 rfl) ?_
  refine va_get (D := D) (ci := 7) (v := .int mo_low) (C := RX8) (T := TX8) (N := 25) hx hb hts in_X8_power_X8 hown hK hP 0 rfl rfl 6 (by decide) (hts (.fieldLink RX8 71 "HardBenchModel" "low" "I") (List.mem_of_getElem? (i := 1) (by decide +kernel))) (fun _ h9 => h9) rfl dX8_power_1 ?_
  refine lv_iload_n hx hb dX8_power_4 rfl (lv_at hl 1 rfl) ?_
  refine lv_aload_n hx hb dX8_power_5 rfl (lv_at hl 0 rfl) ?_
  refine va_get (D := D) (ci := 7) (v := .int mo_f) (C := RX8) (T := TX8) (N := 25) hx hb hts in_X8_power_X8 hown hK hP 0 rfl rfl 2 (by decide) (hts (.fieldLink RX8 59 "HardBenchModel" "f" "I") (List.mem_of_getElem? (i := 2) (by decide +kernel))) (fun _ h9 => h9) rfl dX8_power_6 ?_
  refine lv_ishr hx hb dX8_power_9 ?_
  refine lv_if_ne (tgt := 17) hx hb dX8_power_10 (by decide) (fun c_10 => ?_) (fun c_10 => ?_)
  · replace ho := ho.1 c_10
    refine lv_iload_n hx hb dX8_power_17 rfl (lv_at hl 1 rfl) ?_
    refine lv_aload_n hx hb dX8_power_18 rfl (lv_at hl 0 rfl) ?_
    refine va_get (D := D) (ci := 7) (v := .int mo_f) (C := RX8) (T := TX8) (N := 25) hx hb hts in_X8_power_X8 hown hK hP 0 rfl rfl 2 (by decide) (hts (.fieldLink RX8 59 "HardBenchModel" "f" "I") (List.mem_of_getElem? (i := 2) (by decide +kernel))) (fun _ h9 => h9) rfl dX8_power_19 ?_
    refine lv_ishr hx hb dX8_power_22 ?_
    refine lv_iconst (v := 1) hx hb dX8_power_23 (by decide) ?_
    refine lv_isub hx hb dX8_power_24 ?_
    refine lv_iadd hx hb dX8_power_25 ?_
    subst hQ; exact W.iret (v := (mo_low + ((p1 >>> (mo_f &&& 31)) - (1 : Int32)))) hx hb hr (fun t ht _ => ⟨(mo_low + ((p1 >>> (mo_f &&& 31)) - (1 : Int32))), rfl, ho, ht⟩) (fun _ h => by cases h) dX8_power_26
  · replace ho := ho.2 c_10
    refine lv_iconst (v := 0) hx hb dX8_power_13 (by decide) ?_
    refine lv_goto (tgt := 25) hx hb dX8_power_14 (by decide) ?_
    refine lv_iadd hx hb dX8_power_25 ?_
    subst hQ; exact W.iret (v := (mo_low + (0 : Int32))) hx hb hr (fun t ht _ => ⟨(mo_low + (0 : Int32)), rfl, ho, ht⟩) (fun _ h => by cases h) dX8_power_26

def wp_X8_kind (post : Int32 → Prop) (mo_most : Int32) (mo_minus : Int32) (p1 : Int32) : Prop := wp_X8_size (fun r2 => (((¬ r2 = 0) → (((mo_most < r2) → (((¬ r2 = (mo_most + (1 : Int32))) → (post (3 : Int32))) ∧ ((¬ (¬ r2 = (mo_most + (1 : Int32)))) → (post (2 : Int32))))) ∧ ((¬ (mo_most < r2)) → (post (0 : Int32))))) ∧ ((¬ (¬ r2 = 0)) → (post (1 : Int32))))) mo_minus p1
set_option maxRecDepth 20000 in
theorem in_X8_kind_X8 : ∀ w ∈ u_ws RX8 TX8 25, w ∈ wsX8_kind := fun w h => (goodIn_r wsX80 [8, 9, 10, 11, 12, 13, 14, 15, 16, 17, 18, 19, 20, 21, 22, 23, 24, 25, 26, 27, 28, 29, 30, 31, 32] (by decide +kernel) (by decide +kernel) w h).1
set_option maxHeartbeats 4000000 in
set_option maxRecDepth 100000 in
theorem c_X8_kind (l : Launch) (D : va_G) (cI cJ cZ : ClassId) (a_mo : Nat) (a_moR : Nat) (a_moK : Nat) (a_moH : Nat) (a_moS : Nat) (a_moF : Nat) (a_moT : Nat) (a_moP : Nat) (a_moQ : Nat) (a_moA : Nat) (a_moB : Nat) (a_moD : Nat) (mo_e : Int32) (mo_f : Int32) (mo_codes : Int32) (mo_most : Int32) (mo_minus : Int32) (mo_low : Int32) (mo_function : Int32) (mo_atX : Int32) (mo_atM : Int64) (mo_spanFunction : Int32) (mo_spanRounding : Int32) (mo_spanMany : Int32) (mo_parts : Int32) (mo_shift : Int32) (p1 : Int32) (post : Int32 → Prop) (ho : wp_X8_kind post mo_most mo_minus p1) : Met l yX8_kind wsX8_kind ({ frames := 1, cells := 0, slots := 0, locals := 21 } : Room) (ro_P D [(cI, .int), (cJ, .long), (cZ, .boolean)] [.ref a_mo, .int p1] [(a_mo, oX8 a_moR mo_e mo_f mo_codes mo_most mo_minus mo_low mo_function mo_atX mo_atM a_moK a_moH a_moS mo_spanFunction mo_spanRounding mo_spanMany a_moF a_moT mo_parts mo_shift a_moP a_moQ a_moA a_moB a_moD)]) (vp_Si post) 0 0 (fun _ => False) := by
  refine Met.ofW (cc := cX8_kind) (maxL := 3) (ret := (some .int)) (by decide) rfl ?_
  intro p e s m args below meth c s₁ B hml hv
  obtain ⟨hargs, hP, hK, hN⟩ := hv
  have hx := B.exec
  have hb := B.bytes
  have hr := B.returns
  have hts := atoms_spec (ws := wsX8_kind) B.pre
  have hown : s.vm.findClass RX8 = some m.cls := findClass_of_methodNamed B.named
  have hlocks := B.notSynchronized
  have hl := lv_entry ([.ref a_mo, .int p1]) (n := 3) (Nat.le_of_ble_eq_true rfl)
  rw [hargs, lg_entry_eq, ← hargs]
  generalize (lg_sl ([.ref a_mo, .int p1]) ++ List.replicate (3 - (lg_sl ([.ref a_mo, .int p1])).length) Slot.unset).toArray = ls at hl ⊢
  replace hl : lv_has ls 3 [(0, .ref a_mo), (1, .int p1)] := hl
  have hRf : ∀ n, n ≤ 1 → n ≤ (headSpec wsX8_kind ({ frames := 1, cells := 0, slots := 0, locals := 21 } : Room)).room.frames := fun n h => h
  have hRl : ∀ n, n ≤ 21 → n ≤ (headSpec wsX8_kind ({ frames := 1, cells := 0, slots := 0, locals := 21 } : Room)).room.locals := fun n h => h
  generalize (headSpec wsX8_kind ({ frames := 1, cells := 0, slots := 0, locals := 21 } : Room)).room = R at hRf hRl ⊢
  generalize hQ : MQ below _ args s 0 0 _ = Q
  unfold wp_X8_kind at ho
  refine lv_aload_n hx hb dX8_kind_0 rfl (lv_at hl 0 rfl) ?_
  refine lv_iload_n hx hb dX8_kind_1 rfl (lv_at hl 1 rfl) ?_
  refine ca_Vi (b := a_mo) (As := [.int p1]) (rest := []) ⟨hx, hb, hml, hown, hts⟩ (c_X8_size l D cI cJ cZ a_mo a_moR a_moK a_moH a_moS a_moF a_moT a_moP a_moQ a_moA a_moB a_moD mo_e mo_f mo_codes mo_most mo_minus mo_low mo_function mo_atX mo_atM mo_spanFunction mo_spanRounding mo_spanMany mo_parts mo_shift p1 _ ho) (cwV 1 hts gX8_kind_X8_size rfl rfl rfl (by decide +kernel) ⟨hRf _ (Nat.le_of_ble_eq_true rfl), hRl _ (Nat.le_of_ble_eq_true rfl)⟩) hK hN hP [0] rfl 0 7 rfl rfl rfl rfl hl.1 rfl (Nat.le_of_ble_eq_true rfl) dX8_kind_2 ⟨Nat.zero_le _, Nat.zero_le _⟩ (fun r2 ho => ?_)
  refine lv_istore_n (lv' := [(2, .int r2), (0, .ref a_mo), (1, .int p1)]) hx hb dX8_kind_5 rfl hl (by decide) rfl (fun ls hl => ?_)
  refine lv_iload_n hx hb dX8_kind_6 rfl (lv_at hl 0 rfl) ?_
  refine lv_if_ne (tgt := 14) hx hb dX8_kind_7 (by decide) (fun c_7 => ?_) (fun c_7 => ?_)
  · replace ho := ho.1 c_7
    refine lv_iload_n hx hb dX8_kind_14 rfl (lv_at hl 0 rfl) ?_
    refine lv_aload_n hx hb dX8_kind_15 rfl (lv_at hl 1 rfl) ?_
    refine va_get (D := D) (ci := 7) (v := .int mo_most) (C := RX8) (T := TX8) (N := 25) hx hb hts in_X8_kind_X8 hown hK hP 0 rfl rfl 4 (by decide) (hts (.fieldLink RX8 68 "HardBenchModel" "most" "I") (List.mem_of_getElem? (i := 1) (by decide +kernel))) (fun _ h9 => h9) rfl dX8_kind_16 ?_
    refine lv_icmp_gt (tgt := 26) hx hb dX8_kind_19 (by decide) (fun c_19 => ?_) (fun c_19 => ?_)
    · replace ho := ho.1 c_19
      refine lv_iload_n hx hb dX8_kind_26 rfl (lv_at hl 0 rfl) ?_
      refine lv_aload_n hx hb dX8_kind_27 rfl (lv_at hl 1 rfl) ?_
      refine va_get (D := D) (ci := 7) (v := .int mo_most) (C := RX8) (T := TX8) (N := 25) hx hb hts in_X8_kind_X8 hown hK hP 0 rfl rfl 4 (by decide) (hts (.fieldLink RX8 68 "HardBenchModel" "most" "I") (List.mem_of_getElem? (i := 1) (by decide +kernel))) (fun _ h9 => h9) rfl dX8_kind_28 ?_
      refine lv_iconst (v := 1) hx hb dX8_kind_31 (by decide) ?_
      refine lv_iadd hx hb dX8_kind_32 ?_
      refine lv_icmp_ne (tgt := 40) hx hb dX8_kind_33 (by decide) (fun c_33 => ?_) (fun c_33 => ?_)
      · replace ho := ho.1 c_33
        refine lv_iconst (v := 3) hx hb dX8_kind_40 (by decide) ?_
        subst hQ; exact W.iret (v := (3 : Int32)) hx hb hr (fun t ht _ => ⟨(3 : Int32), rfl, ho, ht⟩) (fun _ h => by cases h) dX8_kind_41
      · replace ho := ho.2 c_33
        refine lv_iconst (v := 2) hx hb dX8_kind_36 (by decide) ?_
        refine lv_goto (tgt := 41) hx hb dX8_kind_37 (by decide) ?_
        subst hQ; exact W.iret (v := (2 : Int32)) hx hb hr (fun t ht _ => ⟨(2 : Int32), rfl, ho, ht⟩) (fun _ h => by cases h) dX8_kind_41
    · replace ho := ho.2 c_19
      refine lv_iconst (v := 0) hx hb dX8_kind_22 (by decide) ?_
      refine lv_goto (tgt := 41) hx hb dX8_kind_23 (by decide) ?_
      subst hQ; exact W.iret (v := (0 : Int32)) hx hb hr (fun t ht _ => ⟨(0 : Int32), rfl, ho, ht⟩) (fun _ h => by cases h) dX8_kind_41
  · replace ho := ho.2 c_7
    refine lv_iconst (v := 1) hx hb dX8_kind_10 (by decide) ?_
    refine lv_goto (tgt := 41) hx hb dX8_kind_11 (by decide) ?_
    subst hQ; exact W.iret (v := (1 : Int32)) hx hb hr (fun t ht _ => ⟨(1 : Int32), rfl, ho, ht⟩) (fun _ h => by cases h) dX8_kind_41

def wp_X8_about_152 (post : Int32 → (Nat → Int32) → Prop)  (moR_r : Nat → Int32) (p2 : Int32) (x4 : Int32) (x5 : Int32) : Prop := ((¬ p2 = (4 : Int32)) → (((¬ x4 = 0) → (post x5 moR_r)) ∧ ((¬ (¬ x4 = 0)) → (post (0 : Int32) moR_r)))) ∧ ((¬ (¬ p2 = (4 : Int32))) → (post x4 moR_r))
def wp_X8_about_128_b (post : Int32 → (Nat → Int32) → Prop)  (p2 : Int32) (K_128 : (Nat → Int32) → Int32 → Int32 → Prop) (moR_r : Nat → Int32) (x4 : Int32) (x5 : Int32) : Prop := ((x4 ≤ 0) → (wp_X8_about_152 post moR_r p2 x4 x5)) ∧ ((¬ (x4 ≤ 0)) → (((¬ (x4 - x4 / (2 : Int32) * (2 : Int32)) = 0) → (wp_X8_about_152 post moR_r p2 x4 x5)) ∧ ((¬ (¬ (x4 - x4 / (2 : Int32) * (2 : Int32)) = 0)) → (K_128 moR_r (x4 / (2 : Int32)) (x5 + (1 : Int32))))))
noncomputable def wp_X8_about_128 (post : Int32 → (Nat → Int32) → Prop)  (p2 : Int32) (n : Nat) : (Nat → Int32) → Int32 → Int32 → Prop := Nat.rec (motive := fun _ => (Nat → Int32) → Int32 → Int32 → Prop) (fun _ _ _ => False) (fun _ K_128 => wp_X8_about_128_b post p2 K_128) n
def wp_X8_about (post : Int32 → (Nat → Int32) → Prop) (mo_f : Int32) (mo_codes : Int32) (mo_most : Int32) (mo_minus : Int32) (mo_low : Int32) (moR_r : Nat → Int32) (p1 : Int32) (p2 : Int32) : Prop := wp_X8_isCode (fun r2 => (((¬ r2 = 0) → (wp_X8_isIn (fun r17 => (((¬ r17 = 0) → (wp_X8_size (fun r32 => (((p2 = (0 : Int32)) → (wp_X8_kind (fun r70 => (post r70 moR_r)) mo_most mo_minus p1)) ∧ ((¬ (p2 = (0 : Int32))) → (((p2 = (1 : Int32)) → ((¬ mo_minus = 0) ∧ (post (p1 / mo_minus) moR_r))) ∧ ((¬ (p2 = (1 : Int32))) → (((p2 = (2 : Int32)) → (post (r32 >>> (mo_f &&& 31)) moR_r)) ∧ ((¬ (p2 = (2 : Int32))) → (((p2 = (3 : Int32)) → (post (r32 &&& (((1 : Int32) <<< (mo_f &&& 31)) - (1 : Int32))) moR_r)) ∧ ((¬ (p2 = (3 : Int32))) → (wp_X8_isPlain (fun r101 => (((¬ r101 = 0) → (wp_X8_figure (fun r116 => (wp_X8_power (fun r123 => (∃ n, wp_X8_about_128 post p2 n moR_r r116 r123)) mo_f mo_low r32)) mo_f r32)) ∧ ((¬ (¬ r101 = 0)) → (wp_X8_refuseFar (fun r110 u110 => (post r110 u110)) moR_r (-3 : Int32))))) mo_most mo_minus p1)))))))))) mo_minus p1)) ∧ ((¬ (¬ r17 = 0)) → (wp_X8_refuseFar (fun r26 u26 => (post r26 u26)) moR_r (-2 : Int32))))) p2 (6 : Int32))) ∧ ((¬ (¬ r2 = 0)) → (wp_X8_refuseFar (fun r10 u10 => (post r10 u10)) moR_r (-1 : Int32))))) mo_codes p1
set_option maxRecDepth 20000 in
theorem in_X8_about_X8 : ∀ w ∈ u_ws RX8 TX8 25, w ∈ wsX8_about := fun w h => (goodIn_r wsX80 [44, 45, 46, 47, 48, 49, 50, 51, 52, 53, 54, 55, 56, 57, 58, 59, 60, 61, 62, 63, 64, 65, 66, 67, 68] (by decide +kernel) (by decide +kernel) w h).1
set_option maxHeartbeats 4000000 in
set_option maxRecDepth 100000 in
theorem c_X8_about (l : Launch) (D : va_G) (cI cJ cZ : ClassId) (a_mo : Nat) (a_moR : Nat) (a_moK : Nat) (a_moH : Nat) (a_moS : Nat) (a_moF : Nat) (a_moT : Nat) (a_moP : Nat) (a_moQ : Nat) (a_moA : Nat) (a_moB : Nat) (a_moD : Nat) (sz : Nat) (mo_e : Int32) (mo_f : Int32) (mo_codes : Int32) (mo_most : Int32) (mo_minus : Int32) (mo_low : Int32) (mo_function : Int32) (mo_atX : Int32) (mo_atM : Int64) (mo_spanFunction : Int32) (mo_spanRounding : Int32) (mo_spanMany : Int32) (mo_parts : Int32) (mo_shift : Int32) (moR_r : Nat → Int32) (p1 : Int32) (p2 : Int32) (post : Int32 → (Nat → Int32) → Prop) (A : Nat → Prop) (hAe : A = va_A [(a_mo, oX8 a_moR mo_e mo_f mo_codes mo_most mo_minus mo_low mo_function mo_atX mo_atM a_moK a_moH a_moS mo_spanFunction mo_spanRounding mo_spanMany a_moF a_moT mo_parts mo_shift a_moP a_moQ a_moA a_moB a_moD), (a_moR, .inl (cI, 7, .inl moR_r))] sz) (ho : wp_X8_about post mo_f mo_codes mo_most mo_minus mo_low moR_r p1 p2) : Met l yX8_about wsX8_about ({ frames := 2, cells := 0, slots := 0, locals := 43 } : Room) (rw_P D [(cI, .int), (cJ, .long), (cZ, .boolean)] [.ref a_mo, .int p1, .int p2] sz [(a_mo, oX8 a_moR mo_e mo_f mo_codes mo_most mo_minus mo_low mo_function mo_atX mo_atM a_moK a_moH a_moS mo_spanFunction mo_spanRounding mo_spanMany a_moF a_moT mo_parts mo_shift a_moP a_moQ a_moA a_moB a_moD), (a_moR, .inl (cI, 7, .inl moR_r))]) (va_Qi (fun (r : Int32) (u : (Nat → Int32)) => post r u) (rw_B D A (fun (u : (Nat → Int32)) => [(a_mo, oX8 a_moR mo_e mo_f mo_codes mo_most mo_minus mo_low mo_function mo_atX mo_atM a_moK a_moH a_moS mo_spanFunction mo_spanRounding mo_spanMany a_moF a_moT mo_parts mo_shift a_moP a_moQ a_moA a_moB a_moD), (a_moR, .inl (cI, 7, .inl u))])) A) 0 0 A := by
  refine Met.ofW (cc := cX8_about) (maxL := 6) (ret := (some .int)) (by decide) rfl ?_
  intro p e s m args below meth c s₁ B hml hv
  obtain ⟨hargs, hsz, hP, hK, hN, hD0⟩ := hv
  have hx := B.exec
  have hb := B.bytes
  have hr := B.returns
  have hts := atoms_spec (ws := wsX8_about) B.pre
  have hown : s.vm.findClass RX8 = some m.cls := findClass_of_methodNamed B.named
  have hlocks := B.notSynchronized
  subst hsz
  have hD : va_D A [(a_mo, oX8 a_moR mo_e mo_f mo_codes mo_most mo_minus mo_low mo_function mo_atX mo_atM a_moK a_moH a_moS mo_spanFunction mo_spanRounding mo_spanMany a_moF a_moT mo_parts mo_shift a_moP a_moQ a_moA a_moB a_moD), (a_moR, .inl (cI, 7, .inl moR_r))] := by rw [hAe]; exact hD0.self
  have hA : ∀ q : Nat, s.heap.size ≤ q → A q := fun q h => by rw [hAe]; exact Or.inr h
  have hS : va_S A s.heap s.heap [] := va_S.rf
  have hl := lv_entry ([.ref a_mo, .int p1, .int p2]) (n := 6) (Nat.le_of_ble_eq_true rfl)
  rw [hargs, lg_entry_eq, ← hargs]
  generalize (lg_sl ([.ref a_mo, .int p1, .int p2]) ++ List.replicate (6 - (lg_sl ([.ref a_mo, .int p1, .int p2])).length) Slot.unset).toArray = ls at hl ⊢
  replace hl : lv_has ls 6 [(0, .ref a_mo), (1, .int p1), (2, .int p2)] := hl
  have hRf : ∀ n, n ≤ 2 → n ≤ (headSpec wsX8_about ({ frames := 2, cells := 0, slots := 0, locals := 43 } : Room)).room.frames := fun n h => h
  have hRl : ∀ n, n ≤ 43 → n ≤ (headSpec wsX8_about ({ frames := 2, cells := 0, slots := 0, locals := 43 } : Room)).room.locals := fun n h => h
  generalize (headSpec wsX8_about ({ frames := 2, cells := 0, slots := 0, locals := 43 } : Room)).room = R at hRf hRl ⊢
  generalize hQ : MQ below _ args s 0 0 _ = Q
  have C_152 : ∀ (moR_r : Nat → Int32) (x4 : Int32) (x5 : Int32) (H : Heap) (locs : List Loc) (ls : Array Slot), wp_X8_about_152 post  moR_r p2 x4 x5 → va_P D vwCl [(a_mo, oX8 a_moR mo_e mo_f mo_codes mo_most mo_minus mo_low mo_function mo_atX mo_atM a_moK a_moH a_moS mo_spanFunction mo_spanRounding mo_spanMany a_moF a_moT mo_parts mo_shift a_moP a_moQ a_moA a_moB a_moD), (a_moR, .inl (cI, 7, .inl moR_r))] H → va_D A [(a_mo, oX8 a_moR mo_e mo_f mo_codes mo_most mo_minus mo_low mo_function mo_atX mo_atM a_moK a_moH a_moS mo_spanFunction mo_spanRounding mo_spanMany a_moF a_moT mo_parts mo_shift a_moP a_moQ a_moA a_moB a_moD), (a_moR, .inl (cI, 7, .inl moR_r))] → va_S A s.heap H locs → lv_has ls 6 [(2, .int p2), (4, .int x4), (5, .int x5)] → W p l e R s m args below meth c H locs 0 0 Q (F0 m 152 ls []) := by
    intro moR_r x4 x5 H locs ls ho hP hD hS hl
    unfold wp_X8_about_152 at ho
    refine lv_iload_n hx hb dX8_about_152 rfl (lv_at hl 0 rfl) ?_
    refine lv_iconst (v := 4) hx hb dX8_about_153 (by decide) ?_
    refine lv_icmp_ne (tgt := 162) hx hb dX8_about_154 (by decide) (fun c_154 => ?_) (fun c_154 => ?_)
    · replace ho := ho.1 c_154
      refine lv_iload hx hb dX8_about_162 (lv_at hl 1 rfl) ?_
      refine lv_if_ne (tgt := 171) hx hb dX8_about_164 (by decide) (fun c_164 => ?_) (fun c_164 => ?_)
      · replace ho := ho.1 c_164
        refine lv_iload hx hb dX8_about_171 (lv_at hl 2 rfl) ?_
        subst hQ; exact W.iret (v := x5) hx hb hr (fun t ht hW => ⟨⟨x5, moR_r, rfl, ho, by rw [ht]; exact hP, hD⟩, hS.F ht⟩) (fun q hq => hS.2.2 q hq) dX8_about_173
      · replace ho := ho.2 c_164
        refine lv_iconst (v := 0) hx hb dX8_about_167 (by decide) ?_
        refine lv_goto (tgt := 173) hx hb dX8_about_168 (by decide) ?_
        subst hQ; exact W.iret (v := (0 : Int32)) hx hb hr (fun t ht hW => ⟨⟨(0 : Int32), moR_r, rfl, ho, by rw [ht]; exact hP, hD⟩, hS.F ht⟩) (fun q hq => hS.2.2 q hq) dX8_about_173
    · replace ho := ho.2 c_154
      refine lv_iload hx hb dX8_about_157 (lv_at hl 1 rfl) ?_
      refine lv_goto (tgt := 173) hx hb dX8_about_159 (by decide) ?_
      subst hQ; exact W.iret (v := x4) hx hb hr (fun t ht hW => ⟨⟨x4, moR_r, rfl, ho, by rw [ht]; exact hP, hD⟩, hS.F ht⟩) (fun q hq => hS.2.2 q hq) dX8_about_173
  have C_128 : ∀ n : Nat, ∀ (moR_r : Nat → Int32) (x4 : Int32) (x5 : Int32) (H : Heap) (locs : List Loc) (ls : Array Slot), wp_X8_about_128 post  p2 n moR_r x4 x5 → va_P D vwCl [(a_mo, oX8 a_moR mo_e mo_f mo_codes mo_most mo_minus mo_low mo_function mo_atX mo_atM a_moK a_moH a_moS mo_spanFunction mo_spanRounding mo_spanMany a_moF a_moT mo_parts mo_shift a_moP a_moQ a_moA a_moB a_moD), (a_moR, .inl (cI, 7, .inl moR_r))] H → va_D A [(a_mo, oX8 a_moR mo_e mo_f mo_codes mo_most mo_minus mo_low mo_function mo_atX mo_atM a_moK a_moH a_moS mo_spanFunction mo_spanRounding mo_spanMany a_moF a_moT mo_parts mo_shift a_moP a_moQ a_moA a_moB a_moD), (a_moR, .inl (cI, 7, .inl moR_r))] → va_S A s.heap H locs → lv_has ls 6 [(2, .int p2), (4, .int x4), (5, .int x5)] → W p l e R s m args below meth c H locs 0 0 Q (F0 m 128 ls []) := by
    intro n
    induction n with
    | zero => intro moR_r x4 x5 H locs ls ho hP hD hS hl; exact ho.elim
    | succ n_128 ih_128 =>
      intro moR_r x4 x5 H locs ls ho hP hD hS hl
      replace ho : wp_X8_about_128_b post p2 (wp_X8_about_128 post p2 n_128) moR_r x4 x5 := ho
      unfold wp_X8_about_128_b at ho
      refine lv_iload hx hb dX8_about_128 (lv_at hl 1 rfl) ?_
      refine lv_if_le (tgt := 152) hx hb dX8_about_130 (by decide) (fun c_130 => ?_) (fun c_130 => ?_)
      · replace ho := ho.1 c_130
        exact C_152 moR_r x4 x5 H locs ls ho hP hD hS (lv_sub hl [0, 1, 2] rfl)
      · replace ho := ho.2 c_130
        refine lv_iload hx hb dX8_about_133 (lv_at hl 1 rfl) ?_
        refine lv_iconst (v := 2) hx hb dX8_about_135 (by decide) ?_
        refine lv_irem hx hb dX8_about_136 (by decide) ?_
        refine lv_if_ne (tgt := 152) hx hb dX8_about_137 (by decide) (fun c_137 => ?_) (fun c_137 => ?_)
        · replace ho := ho.1 c_137
          exact C_152 moR_r x4 x5 H locs ls ho hP hD hS (lv_sub hl [0, 1, 2] rfl)
        · replace ho := ho.2 c_137
          refine lv_iload hx hb dX8_about_140 (lv_at hl 1 rfl) ?_
          refine lv_iconst (v := 2) hx hb dX8_about_142 (by decide) ?_
          refine lv_idiv hx hb dX8_about_143 (by decide) ?_
          refine lv_istore (lv' := [(4, .int (x4 / (2 : Int32))), (2, .int p2), (5, .int x5)]) hx hb dX8_about_144 hl (by decide) rfl (fun ls hl => ?_)
          refine lv_iinc (v := (x5 + (1 : Int32))) (lv' := [(5, .int (x5 + (1 : Int32))), (4, .int (x4 / (2 : Int32))), (2, .int p2)]) hx hb dX8_about_146 hl (k := 2) rfl rfl (by decide) rfl (fun ls hl => ?_)
          refine lv_goto (tgt := 128) hx hb dX8_about_149 (by decide) ?_
          exact ih_128 moR_r (x4 / (2 : Int32)) (x5 + (1 : Int32)) H locs ls ho hP hD hS (lv_sub hl [2, 1, 0] rfl)
  unfold wp_X8_about at ho
  refine lv_aload_n hx hb dX8_about_0 rfl (lv_at hl 0 rfl) ?_
  refine lv_iload_n hx hb dX8_about_1 rfl (lv_at hl 1 rfl) ?_
  refine ca_Vi (b := a_mo) (As := [.int p1]) (rest := []) ⟨hx, hb, hml, hown, hts⟩ (c_X8_isCode l D cI cJ cZ a_mo a_moR a_moK a_moH a_moS a_moF a_moT a_moP a_moQ a_moA a_moB a_moD mo_e mo_f mo_codes mo_most mo_minus mo_low mo_function mo_atX mo_atM mo_spanFunction mo_spanRounding mo_spanMany mo_parts mo_shift p1 _ ho) (cwV 1 hts gX8_about_X8_isCode rfl rfl rfl (by decide +kernel) ⟨hRf _ (Nat.le_of_ble_eq_true rfl), hRl _ (Nat.le_of_ble_eq_true rfl)⟩) hK hN hP [0] rfl 0 7 rfl rfl rfl rfl hl.1 rfl (Nat.le_of_ble_eq_true rfl) dX8_about_2 ⟨Nat.zero_le _, Nat.zero_le _⟩ (fun r2 ho => ?_)
  refine lv_if_ne (tgt := 14) hx hb dX8_about_5 (by decide) (fun c_5 => ?_) (fun c_5 => ?_)
  · replace ho := ho.1 c_5
    refine lv_iload_n hx hb dX8_about_14 rfl (lv_at hl 2 rfl) ?_
    refine lv_bipush (v := 6) hx hb dX8_about_15 (by decide) ?_
    refine ca_Si (As := [.int p2, .int (6 : Int32)]) (rest := []) ⟨hx, hb, hml, hown, hts⟩ (c_X8_isIn l D cI cJ cZ   p2 (6 : Int32) _ ho) (va_cwS 2 hts gX8_about_X8_isIn rfl rfl rfl (by decide +kernel) ⟨hRf _ (Nat.le_of_ble_eq_true rfl), hRl _ (Nat.le_of_ble_eq_true rfl)⟩) hK hN hP [] rfl rfl hl.1 rfl (Nat.le_of_ble_eq_true rfl) dX8_about_17 ⟨Nat.zero_le _, Nat.zero_le _⟩ (fun r17 ho => ?_)
    refine lv_if_ne (tgt := 30) hx hb dX8_about_20 (by decide) (fun c_20 => ?_) (fun c_20 => ?_)
    · replace ho := ho.1 c_20
      refine lv_aload_n hx hb dX8_about_30 rfl (lv_at hl 0 rfl) ?_
      refine lv_iload_n hx hb dX8_about_31 rfl (lv_at hl 1 rfl) ?_
      refine ca_Vi (b := a_mo) (As := [.int p1]) (rest := []) ⟨hx, hb, hml, hown, hts⟩ (c_X8_size l D cI cJ cZ a_mo a_moR a_moK a_moH a_moS a_moF a_moT a_moP a_moQ a_moA a_moB a_moD mo_e mo_f mo_codes mo_most mo_minus mo_low mo_function mo_atX mo_atM mo_spanFunction mo_spanRounding mo_spanMany mo_parts mo_shift p1 _ ho) (cwV 1 hts gX8_about_X8_size rfl rfl rfl (by decide +kernel) ⟨hRf _ (Nat.le_of_ble_eq_true rfl), hRl _ (Nat.le_of_ble_eq_true rfl)⟩) hK hN hP [0] rfl 0 7 rfl rfl rfl rfl hl.1 rfl (Nat.le_of_ble_eq_true rfl) dX8_about_32 ⟨Nat.zero_le _, Nat.zero_le _⟩ (fun r32 ho => ?_)
      refine lv_istore_n (lv' := [(3, .int r32), (0, .ref a_mo), (1, .int p1), (2, .int p2)]) hx hb dX8_about_35 rfl hl (by decide) rfl (fun ls hl => ?_)
      refine lv_iload_n hx hb dX8_about_36 rfl (lv_at hl 3 rfl) ?_
      refine lv_topi (fun z_37 ez_37 => ?_)
      rw [← ez_37] at ho
      by_cases n_37_0 : z_37 = 0
      · replace ho := ho.1 n_37_0
        subst n_37_0
        refine lv_tableIn (tgt := 68) hx hb dX8_about_37 (by decide) (by decide) rfl (by decide) ?_
        refine lv_aload_n hx hb dX8_about_68 rfl (lv_at hl 1 rfl) ?_
        refine lv_iload_n hx hb dX8_about_69 rfl (lv_at hl 2 rfl) ?_
        refine ca_Vi (b := a_mo) (As := [.int p1]) (rest := []) ⟨hx, hb, hml, hown, hts⟩ (c_X8_kind l D cI cJ cZ a_mo a_moR a_moK a_moH a_moS a_moF a_moT a_moP a_moQ a_moA a_moB a_moD mo_e mo_f mo_codes mo_most mo_minus mo_low mo_function mo_atX mo_atM mo_spanFunction mo_spanRounding mo_spanMany mo_parts mo_shift p1 _ ho) (cwV 1 hts gX8_about_X8_kind rfl rfl rfl (by decide +kernel) ⟨hRf _ (Nat.le_of_ble_eq_true rfl), hRl _ (Nat.le_of_ble_eq_true rfl)⟩) hK hN hP [0] rfl 0 7 rfl rfl rfl rfl hl.1 rfl (Nat.le_of_ble_eq_true rfl) dX8_about_70 ⟨Nat.zero_le _, Nat.zero_le _⟩ (fun r70 ho => ?_)
        subst hQ; exact W.iret (v := r70) hx hb hr (fun t ht hW => ⟨⟨r70, moR_r, rfl, ho, by rw [ht]; exact hP, hD⟩, hS.F ht⟩) (fun q hq => hS.2.2 q hq) dX8_about_73
      replace ho := ho.2 n_37_0
      by_cases n_37_1 : z_37 = 1
      · replace ho := ho.1 n_37_1
        subst n_37_1
        refine lv_tableIn (tgt := 74) hx hb dX8_about_37 (by decide) (by decide) rfl (by decide) ?_
        refine lv_iload_n hx hb dX8_about_74 rfl (lv_at hl 2 rfl) ?_
        refine lv_aload_n hx hb dX8_about_75 rfl (lv_at hl 1 rfl) ?_
        refine va_get (D := D) (ci := 7) (v := .int mo_minus) (C := RX8) (T := TX8) (N := 25) hx hb hts in_X8_about_X8 hown hK hP 0 rfl rfl 5 (by decide) (hts (.fieldLink RX8 65 "HardBenchModel" "minus" "I") (List.mem_of_getElem? (i := 1) (by decide +kernel))) (fun _ h9 => h9) rfl dX8_about_76 ?_
        have o_79 := ho.1
        replace ho := ho.2
        refine lv_idiv hx hb dX8_about_79 o_79 ?_
        subst hQ; exact W.iret (v := (p1 / mo_minus)) hx hb hr (fun t ht hW => ⟨⟨(p1 / mo_minus), moR_r, rfl, ho, by rw [ht]; exact hP, hD⟩, hS.F ht⟩) (fun q hq => hS.2.2 q hq) dX8_about_80
      replace ho := ho.2 n_37_1
      by_cases n_37_2 : z_37 = 2
      · replace ho := ho.1 n_37_2
        subst n_37_2
        refine lv_tableIn (tgt := 81) hx hb dX8_about_37 (by decide) (by decide) rfl (by decide) ?_
        refine lv_iload_n hx hb dX8_about_81 rfl (lv_at hl 0 rfl) ?_
        refine lv_aload_n hx hb dX8_about_82 rfl (lv_at hl 1 rfl) ?_
        refine va_get (D := D) (ci := 7) (v := .int mo_f) (C := RX8) (T := TX8) (N := 25) hx hb hts in_X8_about_X8 hown hK hP 0 rfl rfl 2 (by decide) (hts (.fieldLink RX8 59 "HardBenchModel" "f" "I") (List.mem_of_getElem? (i := 2) (by decide +kernel))) (fun _ h9 => h9) rfl dX8_about_83 ?_
        refine lv_ishr hx hb dX8_about_86 ?_
        subst hQ; exact W.iret (v := (r32 >>> (mo_f &&& 31))) hx hb hr (fun t ht hW => ⟨⟨(r32 >>> (mo_f &&& 31)), moR_r, rfl, ho, by rw [ht]; exact hP, hD⟩, hS.F ht⟩) (fun q hq => hS.2.2 q hq) dX8_about_87
      replace ho := ho.2 n_37_2
      by_cases n_37_3 : z_37 = 3
      · replace ho := ho.1 n_37_3
        subst n_37_3
        refine lv_tableIn (tgt := 88) hx hb dX8_about_37 (by decide) (by decide) rfl (by decide) ?_
        refine lv_iload_n hx hb dX8_about_88 rfl (lv_at hl 0 rfl) ?_
        refine lv_iconst (v := 1) hx hb dX8_about_89 (by decide) ?_
        refine lv_aload_n hx hb dX8_about_90 rfl (lv_at hl 1 rfl) ?_
        refine va_get (D := D) (ci := 7) (v := .int mo_f) (C := RX8) (T := TX8) (N := 25) hx hb hts in_X8_about_X8 hown hK hP 0 rfl rfl 2 (by decide) (hts (.fieldLink RX8 59 "HardBenchModel" "f" "I") (List.mem_of_getElem? (i := 2) (by decide +kernel))) (fun _ h9 => h9) rfl dX8_about_91 ?_
        refine lv_ishl hx hb dX8_about_94 ?_
        refine lv_iconst (v := 1) hx hb dX8_about_95 (by decide) ?_
        refine lv_isub hx hb dX8_about_96 ?_
        refine lv_iand hx hb dX8_about_97 ?_
        subst hQ; exact W.iret (v := (r32 &&& (((1 : Int32) <<< (mo_f &&& 31)) - (1 : Int32)))) hx hb hr (fun t ht hW => ⟨⟨(r32 &&& (((1 : Int32) <<< (mo_f &&& 31)) - (1 : Int32))), moR_r, rfl, ho, by rw [ht]; exact hP, hD⟩, hS.F ht⟩) (fun q hq => hS.2.2 q hq) dX8_about_98
      replace ho := ho.2 n_37_3
      refine lv_tableOut (tgt := 99) hx hb dX8_about_37 (by have q_37_0 := lv_neT (a := 0) n_37_0 rfl; have q_37_1 := lv_neT (a := 1) n_37_1 rfl; have q_37_2 := lv_neT (a := 2) n_37_2 rfl; have q_37_3 := lv_neT (a := 3) n_37_3 rfl; omega) (by decide) ?_
      refine lv_aload_n hx hb dX8_about_99 rfl (lv_at hl 1 rfl) ?_
      refine lv_iload_n hx hb dX8_about_100 rfl (lv_at hl 2 rfl) ?_
      refine ca_Vi (b := a_mo) (As := [.int p1]) (rest := []) ⟨hx, hb, hml, hown, hts⟩ (c_X8_isPlain l D cI cJ cZ a_mo a_moR a_moK a_moH a_moS a_moF a_moT a_moP a_moQ a_moA a_moB a_moD mo_e mo_f mo_codes mo_most mo_minus mo_low mo_function mo_atX mo_atM mo_spanFunction mo_spanRounding mo_spanMany mo_parts mo_shift p1 _ ho) (cwV 1 hts gX8_about_X8_isPlain rfl rfl rfl (by decide +kernel) ⟨hRf _ (Nat.le_of_ble_eq_true rfl), hRl _ (Nat.le_of_ble_eq_true rfl)⟩) hK hN hP [0] rfl 0 7 rfl rfl rfl rfl hl.1 rfl (Nat.le_of_ble_eq_true rfl) dX8_about_101 ⟨Nat.zero_le _, Nat.zero_le _⟩ (fun r101 ho => ?_)
      refine lv_if_ne (tgt := 114) hx hb dX8_about_104 (by decide) (fun c_104 => ?_) (fun c_104 => ?_)
      · replace ho := ho.1 c_104
        refine lv_aload_n hx hb dX8_about_114 rfl (lv_at hl 1 rfl) ?_
        refine lv_iload_n hx hb dX8_about_115 rfl (lv_at hl 0 rfl) ?_
        refine ca_Vi (b := a_mo) (As := [.int r32]) (rest := []) ⟨hx, hb, hml, hown, hts⟩ (c_X8_figure l D cI cJ cZ a_mo a_moR a_moK a_moH a_moS a_moF a_moT a_moP a_moQ a_moA a_moB a_moD mo_e mo_f mo_codes mo_most mo_minus mo_low mo_function mo_atX mo_atM mo_spanFunction mo_spanRounding mo_spanMany mo_parts mo_shift r32 _ ho) (cwV 1 hts gX8_about_X8_figure rfl rfl rfl (by decide +kernel) ⟨hRf _ (Nat.le_of_ble_eq_true rfl), hRl _ (Nat.le_of_ble_eq_true rfl)⟩) hK hN hP [0] rfl 0 7 rfl rfl rfl rfl hl.1 rfl (Nat.le_of_ble_eq_true rfl) dX8_about_116 ⟨Nat.zero_le _, Nat.zero_le _⟩ (fun r116 ho => ?_)
        refine lv_istore (lv' := [(4, .int r116), (3, .int r32), (0, .ref a_mo), (1, .int p1), (2, .int p2)]) hx hb dX8_about_119 hl (by decide) rfl (fun ls hl => ?_)
        refine lv_aload_n hx hb dX8_about_121 rfl (lv_at hl 2 rfl) ?_
        refine lv_iload_n hx hb dX8_about_122 rfl (lv_at hl 1 rfl) ?_
        refine ca_Vi (b := a_mo) (As := [.int r32]) (rest := []) ⟨hx, hb, hml, hown, hts⟩ (c_X8_power l D cI cJ cZ a_mo a_moR a_moK a_moH a_moS a_moF a_moT a_moP a_moQ a_moA a_moB a_moD mo_e mo_f mo_codes mo_most mo_minus mo_low mo_function mo_atX mo_atM mo_spanFunction mo_spanRounding mo_spanMany mo_parts mo_shift r32 _ ho) (cwV 1 hts gX8_about_X8_power rfl rfl rfl (by decide +kernel) ⟨hRf _ (Nat.le_of_ble_eq_true rfl), hRl _ (Nat.le_of_ble_eq_true rfl)⟩) hK hN hP [0] rfl 0 7 rfl rfl rfl rfl hl.1 rfl (Nat.le_of_ble_eq_true rfl) dX8_about_123 ⟨Nat.zero_le _, Nat.zero_le _⟩ (fun r123 ho => ?_)
        refine lv_istore (lv' := [(5, .int r123), (4, .int r116), (3, .int r32), (0, .ref a_mo), (1, .int p1), (2, .int p2)]) hx hb dX8_about_126 hl (by decide) rfl (fun ls hl => ?_)
        obtain ⟨n_128, ho⟩ := ho
        exact C_128 n_128 moR_r r116 r123 H locs ls ho hP hD hS (lv_sub hl [5, 1, 0] rfl)
      · replace ho := ho.2 c_104
        refine lv_aload_n hx hb dX8_about_107 rfl (lv_at hl 1 rfl) ?_
        refine lv_bipush (v := (-3)) hx hb dX8_about_108 (by decide) ?_
        refine ca_Wi (b := a_mo) (As := [.int (-3 : Int32)]) (rest := []) (wr := []) (wo := fun u => [(a_mo, oX8 a_moR mo_e mo_f mo_codes mo_most mo_minus mo_low mo_function mo_atX mo_atM a_moK a_moH a_moS mo_spanFunction mo_spanRounding mo_spanMany a_moF a_moT mo_parts mo_shift a_moP a_moQ a_moA a_moB a_moD), (a_moR, .inl (cI, 7, .inl u))]) (wn := fun u => [(a_mo, oX8 a_moR mo_e mo_f mo_codes mo_most mo_minus mo_low mo_function mo_atX mo_atM a_moK a_moH a_moS mo_spanFunction mo_spanRounding mo_spanMany a_moF a_moT mo_parts mo_shift a_moP a_moQ a_moA a_moB a_moD), (a_moR, .inl (cI, 7, .inl u))]) ⟨hx, hb, hml, hown, hts⟩ (c_X8_refuseFar l D cI cJ cZ a_mo a_moR a_moK a_moH a_moS a_moF a_moT a_moP a_moQ a_moA a_moB a_moD H.size mo_e mo_f mo_codes mo_most mo_minus mo_low mo_function mo_atX mo_atM mo_spanFunction mo_spanRounding mo_spanMany mo_parts mo_shift moR_r (-3 : Int32) _ _ rfl ho) (cwV 1 hts gX8_about_X8_refuseFar rfl rfl rfl (by decide +kernel) ⟨hRf _ (Nat.le_of_ble_eq_true rfl), hRl _ (Nat.le_of_ble_eq_true rfl)⟩) hK hN hP hD hS hA [0, 1] [] [0, 1] rfl rfl (by decide) (by decide) (by decide) (by decide) (fun _ => rfl) 0 7 rfl rfl rfl rfl hl.1 rfl (Nat.le_of_ble_eq_true rfl) dX8_about_110 ⟨Nat.zero_le _, Nat.zero_le _⟩ (fun r110 u110 H locs ho hP hD hS => ?_)
        try dsimp only at ho
        replace hP : va_P D vwCl [(a_mo, oX8 a_moR mo_e mo_f mo_codes mo_most mo_minus mo_low mo_function mo_atX mo_atM a_moK a_moH a_moS mo_spanFunction mo_spanRounding mo_spanMany a_moF a_moT mo_parts mo_shift a_moP a_moQ a_moA a_moB a_moD), (a_moR, .inl (cI, 7, .inl u110))] H := hP
        replace hD : va_D A [(a_mo, oX8 a_moR mo_e mo_f mo_codes mo_most mo_minus mo_low mo_function mo_atX mo_atM a_moK a_moH a_moS mo_spanFunction mo_spanRounding mo_spanMany a_moF a_moT mo_parts mo_shift a_moP a_moQ a_moA a_moB a_moD), (a_moR, .inl (cI, 7, .inl u110))] := hD
        subst hQ; exact W.iret (v := r110) hx hb hr (fun t ht hW => ⟨⟨r110, u110, rfl, ho, by rw [ht]; exact hP, hD⟩, hS.F ht⟩) (fun q hq => hS.2.2 q hq) dX8_about_113
    · replace ho := ho.2 c_20
      refine lv_aload_n hx hb dX8_about_23 rfl (lv_at hl 0 rfl) ?_
      refine lv_bipush (v := (-2)) hx hb dX8_about_24 (by decide) ?_
      refine ca_Wi (b := a_mo) (As := [.int (-2 : Int32)]) (rest := []) (wr := []) (wo := fun u => [(a_mo, oX8 a_moR mo_e mo_f mo_codes mo_most mo_minus mo_low mo_function mo_atX mo_atM a_moK a_moH a_moS mo_spanFunction mo_spanRounding mo_spanMany a_moF a_moT mo_parts mo_shift a_moP a_moQ a_moA a_moB a_moD), (a_moR, .inl (cI, 7, .inl u))]) (wn := fun u => [(a_mo, oX8 a_moR mo_e mo_f mo_codes mo_most mo_minus mo_low mo_function mo_atX mo_atM a_moK a_moH a_moS mo_spanFunction mo_spanRounding mo_spanMany a_moF a_moT mo_parts mo_shift a_moP a_moQ a_moA a_moB a_moD), (a_moR, .inl (cI, 7, .inl u))]) ⟨hx, hb, hml, hown, hts⟩ (c_X8_refuseFar l D cI cJ cZ a_mo a_moR a_moK a_moH a_moS a_moF a_moT a_moP a_moQ a_moA a_moB a_moD H.size mo_e mo_f mo_codes mo_most mo_minus mo_low mo_function mo_atX mo_atM mo_spanFunction mo_spanRounding mo_spanMany mo_parts mo_shift moR_r (-2 : Int32) _ _ rfl ho) (cwV 1 hts gX8_about_X8_refuseFar rfl rfl rfl (by decide +kernel) ⟨hRf _ (Nat.le_of_ble_eq_true rfl), hRl _ (Nat.le_of_ble_eq_true rfl)⟩) hK hN hP hD hS hA [0, 1] [] [0, 1] rfl rfl (by decide) (by decide) (by decide) (by decide) (fun _ => rfl) 0 7 rfl rfl rfl rfl hl.1 rfl (Nat.le_of_ble_eq_true rfl) dX8_about_26 ⟨Nat.zero_le _, Nat.zero_le _⟩ (fun r26 u26 H locs ho hP hD hS => ?_)
      try dsimp only at ho
      replace hP : va_P D vwCl [(a_mo, oX8 a_moR mo_e mo_f mo_codes mo_most mo_minus mo_low mo_function mo_atX mo_atM a_moK a_moH a_moS mo_spanFunction mo_spanRounding mo_spanMany a_moF a_moT mo_parts mo_shift a_moP a_moQ a_moA a_moB a_moD), (a_moR, .inl (cI, 7, .inl u26))] H := hP
      replace hD : va_D A [(a_mo, oX8 a_moR mo_e mo_f mo_codes mo_most mo_minus mo_low mo_function mo_atX mo_atM a_moK a_moH a_moS mo_spanFunction mo_spanRounding mo_spanMany a_moF a_moT mo_parts mo_shift a_moP a_moQ a_moA a_moB a_moD), (a_moR, .inl (cI, 7, .inl u26))] := hD
      subst hQ; exact W.iret (v := r26) hx hb hr (fun t ht hW => ⟨⟨r26, u26, rfl, ho, by rw [ht]; exact hP, hD⟩, hS.F ht⟩) (fun q hq => hS.2.2 q hq) dX8_about_29
  · replace ho := ho.2 c_5
    refine lv_aload_n hx hb dX8_about_8 rfl (lv_at hl 0 rfl) ?_
    refine lv_iconst (v := (-1)) hx hb dX8_about_9 (by decide) ?_
    refine ca_Wi (b := a_mo) (As := [.int (-1 : Int32)]) (rest := []) (wr := []) (wo := fun u => [(a_mo, oX8 a_moR mo_e mo_f mo_codes mo_most mo_minus mo_low mo_function mo_atX mo_atM a_moK a_moH a_moS mo_spanFunction mo_spanRounding mo_spanMany a_moF a_moT mo_parts mo_shift a_moP a_moQ a_moA a_moB a_moD), (a_moR, .inl (cI, 7, .inl u))]) (wn := fun u => [(a_mo, oX8 a_moR mo_e mo_f mo_codes mo_most mo_minus mo_low mo_function mo_atX mo_atM a_moK a_moH a_moS mo_spanFunction mo_spanRounding mo_spanMany a_moF a_moT mo_parts mo_shift a_moP a_moQ a_moA a_moB a_moD), (a_moR, .inl (cI, 7, .inl u))]) ⟨hx, hb, hml, hown, hts⟩ (c_X8_refuseFar l D cI cJ cZ a_mo a_moR a_moK a_moH a_moS a_moF a_moT a_moP a_moQ a_moA a_moB a_moD H.size mo_e mo_f mo_codes mo_most mo_minus mo_low mo_function mo_atX mo_atM mo_spanFunction mo_spanRounding mo_spanMany mo_parts mo_shift moR_r (-1 : Int32) _ _ rfl ho) (cwV 1 hts gX8_about_X8_refuseFar rfl rfl rfl (by decide +kernel) ⟨hRf _ (Nat.le_of_ble_eq_true rfl), hRl _ (Nat.le_of_ble_eq_true rfl)⟩) hK hN hP hD hS hA [0, 1] [] [0, 1] rfl rfl (by decide) (by decide) (by decide) (by decide) (fun _ => rfl) 0 7 rfl rfl rfl rfl hl.1 rfl (Nat.le_of_ble_eq_true rfl) dX8_about_10 ⟨Nat.zero_le _, Nat.zero_le _⟩ (fun r10 u10 H locs ho hP hD hS => ?_)
    try dsimp only at ho
    replace hP : va_P D vwCl [(a_mo, oX8 a_moR mo_e mo_f mo_codes mo_most mo_minus mo_low mo_function mo_atX mo_atM a_moK a_moH a_moS mo_spanFunction mo_spanRounding mo_spanMany a_moF a_moT mo_parts mo_shift a_moP a_moQ a_moA a_moB a_moD), (a_moR, .inl (cI, 7, .inl u10))] H := hP
    replace hD : va_D A [(a_mo, oX8 a_moR mo_e mo_f mo_codes mo_most mo_minus mo_low mo_function mo_atX mo_atM a_moK a_moH a_moS mo_spanFunction mo_spanRounding mo_spanMany a_moF a_moT mo_parts mo_shift a_moP a_moQ a_moA a_moB a_moD), (a_moR, .inl (cI, 7, .inl u10))] := hD
    subst hQ; exact W.iret (v := r10) hx hb hr (fun t ht hW => ⟨⟨r10, u10, rfl, ho, by rw [ht]; exact hP, hD⟩, hS.F ht⟩) (fun q hq => hS.2.2 q hq) dX8_about_13

def wp_X8_next (post : Int32 → (Nat → Int32) → Prop) (mo_codes : Int32) (mo_most : Int32) (mo_minus : Int32) (moR_r : Nat → Int32) (p1 : Int32) : Prop := wp_X8_isCode (fun r2 => (((¬ r2 = 0) → (wp_X8_isPlain (fun r16 => (((¬ r16 = 0) → (wp_X8_size (fun r31 => (((¬ r31 = 0) → (((mo_minus ≤ p1) → (((¬ r31 = (1 : Int32)) → (post (p1 - (1 : Int32)) moR_r)) ∧ ((¬ (¬ r31 = (1 : Int32))) → (post (0 : Int32) moR_r)))) ∧ ((¬ (mo_minus ≤ p1)) → (post (p1 + (1 : Int32)) moR_r)))) ∧ ((¬ (¬ r31 = 0)) → (post (1 : Int32) moR_r)))) mo_minus p1)) ∧ ((¬ (¬ r16 = 0)) → (wp_X8_refuse (fun r25 u25 => (post r25 u25)) moR_r (-3 : Int32))))) mo_most mo_minus p1)) ∧ ((¬ (¬ r2 = 0)) → (wp_X8_refuse (fun r10 u10 => (post r10 u10)) moR_r (-1 : Int32))))) mo_codes p1
set_option maxRecDepth 20000 in
theorem in_X8_next_X8 : ∀ w ∈ u_ws RX8 TX8 25, w ∈ wsX8_next := fun w h => (goodIn_r wsX80 [25, 26, 27, 28, 29, 30, 31, 32, 33, 34, 35, 36, 37, 38, 39, 40, 41, 42, 43, 44, 45, 46, 47, 48, 49] (by decide +kernel) (by decide +kernel) w h).1
set_option maxHeartbeats 4000000 in
set_option maxRecDepth 100000 in
theorem c_X8_next (l : Launch) (D : va_G) (cI cJ cZ : ClassId) (a_mo : Nat) (a_moR : Nat) (a_moK : Nat) (a_moH : Nat) (a_moS : Nat) (a_moF : Nat) (a_moT : Nat) (a_moP : Nat) (a_moQ : Nat) (a_moA : Nat) (a_moB : Nat) (a_moD : Nat) (sz : Nat) (mo_e : Int32) (mo_f : Int32) (mo_codes : Int32) (mo_most : Int32) (mo_minus : Int32) (mo_low : Int32) (mo_function : Int32) (mo_atX : Int32) (mo_atM : Int64) (mo_spanFunction : Int32) (mo_spanRounding : Int32) (mo_spanMany : Int32) (mo_parts : Int32) (mo_shift : Int32) (moR_r : Nat → Int32) (p1 : Int32) (post : Int32 → (Nat → Int32) → Prop) (A : Nat → Prop) (hAe : A = va_A [(a_mo, oX8 a_moR mo_e mo_f mo_codes mo_most mo_minus mo_low mo_function mo_atX mo_atM a_moK a_moH a_moS mo_spanFunction mo_spanRounding mo_spanMany a_moF a_moT mo_parts mo_shift a_moP a_moQ a_moA a_moB a_moD), (a_moR, .inl (cI, 7, .inl moR_r))] sz) (ho : wp_X8_next post mo_codes mo_most mo_minus moR_r p1) : Met l yX8_next wsX8_next ({ frames := 2, cells := 0, slots := 0, locals := 42 } : Room) (rw_P D [(cI, .int), (cJ, .long), (cZ, .boolean)] [.ref a_mo, .int p1] sz [(a_mo, oX8 a_moR mo_e mo_f mo_codes mo_most mo_minus mo_low mo_function mo_atX mo_atM a_moK a_moH a_moS mo_spanFunction mo_spanRounding mo_spanMany a_moF a_moT mo_parts mo_shift a_moP a_moQ a_moA a_moB a_moD), (a_moR, .inl (cI, 7, .inl moR_r))]) (va_Qi (fun (r : Int32) (u : (Nat → Int32)) => post r u) (rw_B D A (fun (u : (Nat → Int32)) => [(a_mo, oX8 a_moR mo_e mo_f mo_codes mo_most mo_minus mo_low mo_function mo_atX mo_atM a_moK a_moH a_moS mo_spanFunction mo_spanRounding mo_spanMany a_moF a_moT mo_parts mo_shift a_moP a_moQ a_moA a_moB a_moD), (a_moR, .inl (cI, 7, .inl u))])) A) 0 0 A := by
  refine Met.ofW (cc := cX8_next) (maxL := 3) (ret := (some .int)) (by decide) rfl ?_
  intro p e s m args below meth c s₁ B hml hv
  obtain ⟨hargs, hsz, hP, hK, hN, hD0⟩ := hv
  have hx := B.exec
  have hb := B.bytes
  have hr := B.returns
  have hts := atoms_spec (ws := wsX8_next) B.pre
  have hown : s.vm.findClass RX8 = some m.cls := findClass_of_methodNamed B.named
  have hlocks := B.notSynchronized
  subst hsz
  have hD : va_D A [(a_mo, oX8 a_moR mo_e mo_f mo_codes mo_most mo_minus mo_low mo_function mo_atX mo_atM a_moK a_moH a_moS mo_spanFunction mo_spanRounding mo_spanMany a_moF a_moT mo_parts mo_shift a_moP a_moQ a_moA a_moB a_moD), (a_moR, .inl (cI, 7, .inl moR_r))] := by rw [hAe]; exact hD0.self
  have hA : ∀ q : Nat, s.heap.size ≤ q → A q := fun q h => by rw [hAe]; exact Or.inr h
  have hS : va_S A s.heap s.heap [] := va_S.rf
  have hl := lv_entry ([.ref a_mo, .int p1]) (n := 3) (Nat.le_of_ble_eq_true rfl)
  rw [hargs, lg_entry_eq, ← hargs]
  generalize (lg_sl ([.ref a_mo, .int p1]) ++ List.replicate (3 - (lg_sl ([.ref a_mo, .int p1])).length) Slot.unset).toArray = ls at hl ⊢
  replace hl : lv_has ls 3 [(0, .ref a_mo), (1, .int p1)] := hl
  have hRf : ∀ n, n ≤ 2 → n ≤ (headSpec wsX8_next ({ frames := 2, cells := 0, slots := 0, locals := 42 } : Room)).room.frames := fun n h => h
  have hRl : ∀ n, n ≤ 42 → n ≤ (headSpec wsX8_next ({ frames := 2, cells := 0, slots := 0, locals := 42 } : Room)).room.locals := fun n h => h
  generalize (headSpec wsX8_next ({ frames := 2, cells := 0, slots := 0, locals := 42 } : Room)).room = R at hRf hRl ⊢
  generalize hQ : MQ below _ args s 0 0 _ = Q
  unfold wp_X8_next at ho
  refine lv_aload_n hx hb dX8_next_0 rfl (lv_at hl 0 rfl) ?_
  refine lv_iload_n hx hb dX8_next_1 rfl (lv_at hl 1 rfl) ?_
  refine ca_Vi (b := a_mo) (As := [.int p1]) (rest := []) ⟨hx, hb, hml, hown, hts⟩ (c_X8_isCode l D cI cJ cZ a_mo a_moR a_moK a_moH a_moS a_moF a_moT a_moP a_moQ a_moA a_moB a_moD mo_e mo_f mo_codes mo_most mo_minus mo_low mo_function mo_atX mo_atM mo_spanFunction mo_spanRounding mo_spanMany mo_parts mo_shift p1 _ ho) (cwV 1 hts gX8_next_X8_isCode rfl rfl rfl (by decide +kernel) ⟨hRf _ (Nat.le_of_ble_eq_true rfl), hRl _ (Nat.le_of_ble_eq_true rfl)⟩) hK hN hP [0] rfl 0 7 rfl rfl rfl rfl hl.1 rfl (Nat.le_of_ble_eq_true rfl) dX8_next_2 ⟨Nat.zero_le _, Nat.zero_le _⟩ (fun r2 ho => ?_)
  refine lv_if_ne (tgt := 14) hx hb dX8_next_5 (by decide) (fun c_5 => ?_) (fun c_5 => ?_)
  · replace ho := ho.1 c_5
    refine lv_aload_n hx hb dX8_next_14 rfl (lv_at hl 0 rfl) ?_
    refine lv_iload_n hx hb dX8_next_15 rfl (lv_at hl 1 rfl) ?_
    refine ca_Vi (b := a_mo) (As := [.int p1]) (rest := []) ⟨hx, hb, hml, hown, hts⟩ (c_X8_isPlain l D cI cJ cZ a_mo a_moR a_moK a_moH a_moS a_moF a_moT a_moP a_moQ a_moA a_moB a_moD mo_e mo_f mo_codes mo_most mo_minus mo_low mo_function mo_atX mo_atM mo_spanFunction mo_spanRounding mo_spanMany mo_parts mo_shift p1 _ ho) (cwV 1 hts gX8_next_X8_isPlain rfl rfl rfl (by decide +kernel) ⟨hRf _ (Nat.le_of_ble_eq_true rfl), hRl _ (Nat.le_of_ble_eq_true rfl)⟩) hK hN hP [0] rfl 0 7 rfl rfl rfl rfl hl.1 rfl (Nat.le_of_ble_eq_true rfl) dX8_next_16 ⟨Nat.zero_le _, Nat.zero_le _⟩ (fun r16 ho => ?_)
    refine lv_if_ne (tgt := 29) hx hb dX8_next_19 (by decide) (fun c_19 => ?_) (fun c_19 => ?_)
    · replace ho := ho.1 c_19
      refine lv_aload_n hx hb dX8_next_29 rfl (lv_at hl 0 rfl) ?_
      refine lv_iload_n hx hb dX8_next_30 rfl (lv_at hl 1 rfl) ?_
      refine ca_Vi (b := a_mo) (As := [.int p1]) (rest := []) ⟨hx, hb, hml, hown, hts⟩ (c_X8_size l D cI cJ cZ a_mo a_moR a_moK a_moH a_moS a_moF a_moT a_moP a_moQ a_moA a_moB a_moD mo_e mo_f mo_codes mo_most mo_minus mo_low mo_function mo_atX mo_atM mo_spanFunction mo_spanRounding mo_spanMany mo_parts mo_shift p1 _ ho) (cwV 1 hts gX8_next_X8_size rfl rfl rfl (by decide +kernel) ⟨hRf _ (Nat.le_of_ble_eq_true rfl), hRl _ (Nat.le_of_ble_eq_true rfl)⟩) hK hN hP [0] rfl 0 7 rfl rfl rfl rfl hl.1 rfl (Nat.le_of_ble_eq_true rfl) dX8_next_31 ⟨Nat.zero_le _, Nat.zero_le _⟩ (fun r31 ho => ?_)
      refine lv_istore_n (lv' := [(2, .int r31), (0, .ref a_mo), (1, .int p1)]) hx hb dX8_next_34 rfl hl (by decide) rfl (fun ls hl => ?_)
      refine lv_iload_n hx hb dX8_next_35 rfl (lv_at hl 0 rfl) ?_
      refine lv_if_ne (tgt := 41) hx hb dX8_next_36 (by decide) (fun c_36 => ?_) (fun c_36 => ?_)
      · replace ho := ho.1 c_36
        refine lv_iload_n hx hb dX8_next_41 rfl (lv_at hl 2 rfl) ?_
        refine lv_aload_n hx hb dX8_next_42 rfl (lv_at hl 1 rfl) ?_
        refine va_get (D := D) (ci := 7) (v := .int mo_minus) (C := RX8) (T := TX8) (N := 25) hx hb hts in_X8_next_X8 hown hK hP 0 rfl rfl 5 (by decide) (hts (.fieldLink RX8 65 "HardBenchModel" "minus" "I") (List.mem_of_getElem? (i := 1) (by decide +kernel))) (fun _ h9 => h9) rfl dX8_next_43 ?_
        refine lv_icmp_ge (tgt := 53) hx hb dX8_next_46 (by decide) (fun c_46 => ?_) (fun c_46 => ?_)
        · replace ho := ho.1 c_46
          refine lv_iload_n hx hb dX8_next_53 rfl (lv_at hl 0 rfl) ?_
          refine lv_iconst (v := 1) hx hb dX8_next_54 (by decide) ?_
          refine lv_icmp_ne (tgt := 62) hx hb dX8_next_55 (by decide) (fun c_55 => ?_) (fun c_55 => ?_)
          · replace ho := ho.1 c_55
            refine lv_iload_n hx hb dX8_next_62 rfl (lv_at hl 2 rfl) ?_
            refine lv_iconst (v := 1) hx hb dX8_next_63 (by decide) ?_
            refine lv_isub hx hb dX8_next_64 ?_
            subst hQ; exact W.iret (v := (p1 - (1 : Int32))) hx hb hr (fun t ht hW => ⟨⟨(p1 - (1 : Int32)), moR_r, rfl, ho, by rw [ht]; exact hP, hD⟩, hS.F ht⟩) (fun q hq => hS.2.2 q hq) dX8_next_65
          · replace ho := ho.2 c_55
            refine lv_iconst (v := 0) hx hb dX8_next_58 (by decide) ?_
            refine lv_goto (tgt := 65) hx hb dX8_next_59 (by decide) ?_
            subst hQ; exact W.iret (v := (0 : Int32)) hx hb hr (fun t ht hW => ⟨⟨(0 : Int32), moR_r, rfl, ho, by rw [ht]; exact hP, hD⟩, hS.F ht⟩) (fun q hq => hS.2.2 q hq) dX8_next_65
        · replace ho := ho.2 c_46
          refine lv_iload_n hx hb dX8_next_49 rfl (lv_at hl 2 rfl) ?_
          refine lv_iconst (v := 1) hx hb dX8_next_50 (by decide) ?_
          refine lv_iadd hx hb dX8_next_51 ?_
          subst hQ; exact W.iret (v := (p1 + (1 : Int32))) hx hb hr (fun t ht hW => ⟨⟨(p1 + (1 : Int32)), moR_r, rfl, ho, by rw [ht]; exact hP, hD⟩, hS.F ht⟩) (fun q hq => hS.2.2 q hq) dX8_next_52
      · replace ho := ho.2 c_36
        refine lv_iconst (v := 1) hx hb dX8_next_39 (by decide) ?_
        subst hQ; exact W.iret (v := (1 : Int32)) hx hb hr (fun t ht hW => ⟨⟨(1 : Int32), moR_r, rfl, ho, by rw [ht]; exact hP, hD⟩, hS.F ht⟩) (fun q hq => hS.2.2 q hq) dX8_next_40
    · replace ho := ho.2 c_19
      refine lv_aload_n hx hb dX8_next_22 rfl (lv_at hl 0 rfl) ?_
      refine lv_bipush (v := (-3)) hx hb dX8_next_23 (by decide) ?_
      refine ca_Wi (b := a_mo) (As := [.int (-3 : Int32)]) (rest := []) (wr := []) (wo := fun u => [(a_mo, oX8 a_moR mo_e mo_f mo_codes mo_most mo_minus mo_low mo_function mo_atX mo_atM a_moK a_moH a_moS mo_spanFunction mo_spanRounding mo_spanMany a_moF a_moT mo_parts mo_shift a_moP a_moQ a_moA a_moB a_moD), (a_moR, .inl (cI, 7, .inl u))]) (wn := fun u => [(a_mo, oX8 a_moR mo_e mo_f mo_codes mo_most mo_minus mo_low mo_function mo_atX mo_atM a_moK a_moH a_moS mo_spanFunction mo_spanRounding mo_spanMany a_moF a_moT mo_parts mo_shift a_moP a_moQ a_moA a_moB a_moD), (a_moR, .inl (cI, 7, .inl u))]) ⟨hx, hb, hml, hown, hts⟩ (c_X8_refuse l D cI cJ cZ a_mo a_moR a_moK a_moH a_moS a_moF a_moT a_moP a_moQ a_moA a_moB a_moD H.size mo_e mo_f mo_codes mo_most mo_minus mo_low mo_function mo_atX mo_atM mo_spanFunction mo_spanRounding mo_spanMany mo_parts mo_shift moR_r (-3 : Int32) _ _ rfl ho) (cwV 1 hts gX8_next_X8_refuse rfl rfl rfl (by decide +kernel) ⟨hRf _ (Nat.le_of_ble_eq_true rfl), hRl _ (Nat.le_of_ble_eq_true rfl)⟩) hK hN hP hD hS hA [0, 1] [] [0, 1] rfl rfl (by decide) (by decide) (by decide) (by decide) (fun _ => rfl) 0 7 rfl rfl rfl rfl hl.1 rfl (Nat.le_of_ble_eq_true rfl) dX8_next_25 ⟨Nat.zero_le _, Nat.zero_le _⟩ (fun r25 u25 H locs ho hP hD hS => ?_)
      try dsimp only at ho
      replace hP : va_P D vwCl [(a_mo, oX8 a_moR mo_e mo_f mo_codes mo_most mo_minus mo_low mo_function mo_atX mo_atM a_moK a_moH a_moS mo_spanFunction mo_spanRounding mo_spanMany a_moF a_moT mo_parts mo_shift a_moP a_moQ a_moA a_moB a_moD), (a_moR, .inl (cI, 7, .inl u25))] H := hP
      replace hD : va_D A [(a_mo, oX8 a_moR mo_e mo_f mo_codes mo_most mo_minus mo_low mo_function mo_atX mo_atM a_moK a_moH a_moS mo_spanFunction mo_spanRounding mo_spanMany a_moF a_moT mo_parts mo_shift a_moP a_moQ a_moA a_moB a_moD), (a_moR, .inl (cI, 7, .inl u25))] := hD
      subst hQ; exact W.iret (v := r25) hx hb hr (fun t ht hW => ⟨⟨r25, u25, rfl, ho, by rw [ht]; exact hP, hD⟩, hS.F ht⟩) (fun q hq => hS.2.2 q hq) dX8_next_28
  · replace ho := ho.2 c_5
    refine lv_aload_n hx hb dX8_next_8 rfl (lv_at hl 0 rfl) ?_
    refine lv_iconst (v := (-1)) hx hb dX8_next_9 (by decide) ?_
    refine ca_Wi (b := a_mo) (As := [.int (-1 : Int32)]) (rest := []) (wr := []) (wo := fun u => [(a_mo, oX8 a_moR mo_e mo_f mo_codes mo_most mo_minus mo_low mo_function mo_atX mo_atM a_moK a_moH a_moS mo_spanFunction mo_spanRounding mo_spanMany a_moF a_moT mo_parts mo_shift a_moP a_moQ a_moA a_moB a_moD), (a_moR, .inl (cI, 7, .inl u))]) (wn := fun u => [(a_mo, oX8 a_moR mo_e mo_f mo_codes mo_most mo_minus mo_low mo_function mo_atX mo_atM a_moK a_moH a_moS mo_spanFunction mo_spanRounding mo_spanMany a_moF a_moT mo_parts mo_shift a_moP a_moQ a_moA a_moB a_moD), (a_moR, .inl (cI, 7, .inl u))]) ⟨hx, hb, hml, hown, hts⟩ (c_X8_refuse l D cI cJ cZ a_mo a_moR a_moK a_moH a_moS a_moF a_moT a_moP a_moQ a_moA a_moB a_moD H.size mo_e mo_f mo_codes mo_most mo_minus mo_low mo_function mo_atX mo_atM mo_spanFunction mo_spanRounding mo_spanMany mo_parts mo_shift moR_r (-1 : Int32) _ _ rfl ho) (cwV 1 hts gX8_next_X8_refuse rfl rfl rfl (by decide +kernel) ⟨hRf _ (Nat.le_of_ble_eq_true rfl), hRl _ (Nat.le_of_ble_eq_true rfl)⟩) hK hN hP hD hS hA [0, 1] [] [0, 1] rfl rfl (by decide) (by decide) (by decide) (by decide) (fun _ => rfl) 0 7 rfl rfl rfl rfl hl.1 rfl (Nat.le_of_ble_eq_true rfl) dX8_next_10 ⟨Nat.zero_le _, Nat.zero_le _⟩ (fun r10 u10 H locs ho hP hD hS => ?_)
    try dsimp only at ho
    replace hP : va_P D vwCl [(a_mo, oX8 a_moR mo_e mo_f mo_codes mo_most mo_minus mo_low mo_function mo_atX mo_atM a_moK a_moH a_moS mo_spanFunction mo_spanRounding mo_spanMany a_moF a_moT mo_parts mo_shift a_moP a_moQ a_moA a_moB a_moD), (a_moR, .inl (cI, 7, .inl u10))] H := hP
    replace hD : va_D A [(a_mo, oX8 a_moR mo_e mo_f mo_codes mo_most mo_minus mo_low mo_function mo_atX mo_atM a_moK a_moH a_moS mo_spanFunction mo_spanRounding mo_spanMany a_moF a_moT mo_parts mo_shift a_moP a_moQ a_moA a_moB a_moD), (a_moR, .inl (cI, 7, .inl u10))] := hD
    subst hQ; exact W.iret (v := r10) hx hb hr (fun t ht hW => ⟨⟨r10, u10, rfl, ho, by rw [ht]; exact hP, hD⟩, hS.F ht⟩) (fun q hq => hS.2.2 q hq) dX8_next_13

def wp_X8_placeOf (post : Int32 → Prop) (mo_minus : Int32) (p1 : Int32) : Prop := ((mo_minus ≤ p1) → (wp_X8_size (fun r14 => (post (-r14))) mo_minus p1)) ∧ ((¬ (mo_minus ≤ p1)) → (post p1))
set_option maxRecDepth 20000 in
theorem in_X8_placeOf_X8 : ∀ w ∈ u_ws RX8 TX8 25, w ∈ wsX8_placeOf := fun w h => (goodIn_r wsX80 [7, 8, 9, 10, 11, 12, 13, 14, 15, 16, 17, 18, 19, 20, 21, 22, 23, 24, 25, 26, 27, 28, 29, 30, 31] (by decide +kernel) (by decide +kernel) w h).1
set_option maxHeartbeats 4000000 in
set_option maxRecDepth 100000 in
theorem c_X8_placeOf (l : Launch) (D : va_G) (cI cJ cZ : ClassId) (a_mo : Nat) (a_moR : Nat) (a_moK : Nat) (a_moH : Nat) (a_moS : Nat) (a_moF : Nat) (a_moT : Nat) (a_moP : Nat) (a_moQ : Nat) (a_moA : Nat) (a_moB : Nat) (a_moD : Nat) (mo_e : Int32) (mo_f : Int32) (mo_codes : Int32) (mo_most : Int32) (mo_minus : Int32) (mo_low : Int32) (mo_function : Int32) (mo_atX : Int32) (mo_atM : Int64) (mo_spanFunction : Int32) (mo_spanRounding : Int32) (mo_spanMany : Int32) (mo_parts : Int32) (mo_shift : Int32) (p1 : Int32) (post : Int32 → Prop) (ho : wp_X8_placeOf post mo_minus p1) : Met l yX8_placeOf wsX8_placeOf ({ frames := 1, cells := 0, slots := 0, locals := 21 } : Room) (ro_P D [(cI, .int), (cJ, .long), (cZ, .boolean)] [.ref a_mo, .int p1] [(a_mo, oX8 a_moR mo_e mo_f mo_codes mo_most mo_minus mo_low mo_function mo_atX mo_atM a_moK a_moH a_moS mo_spanFunction mo_spanRounding mo_spanMany a_moF a_moT mo_parts mo_shift a_moP a_moQ a_moA a_moB a_moD)]) (vp_Si post) 0 0 (fun _ => False) := by
  refine Met.ofW (cc := cX8_placeOf) (maxL := 2) (ret := (some .int)) (by decide) rfl ?_
  intro p e s m args below meth c s₁ B hml hv
  obtain ⟨hargs, hP, hK, hN⟩ := hv
  have hx := B.exec
  have hb := B.bytes
  have hr := B.returns
  have hts := atoms_spec (ws := wsX8_placeOf) B.pre
  have hown : s.vm.findClass RX8 = some m.cls := findClass_of_methodNamed B.named
  have hlocks := B.notSynchronized
  have hl := lv_entry ([.ref a_mo, .int p1]) (n := 2) (Nat.le_of_ble_eq_true rfl)
  rw [hargs, lg_entry_eq, ← hargs]
  generalize (lg_sl ([.ref a_mo, .int p1]) ++ List.replicate (2 - (lg_sl ([.ref a_mo, .int p1])).length) Slot.unset).toArray = ls at hl ⊢
  replace hl : lv_has ls 2 [(0, .ref a_mo), (1, .int p1)] := hl
  have hRf : ∀ n, n ≤ 1 → n ≤ (headSpec wsX8_placeOf ({ frames := 1, cells := 0, slots := 0, locals := 21 } : Room)).room.frames := fun n h => h
  have hRl : ∀ n, n ≤ 21 → n ≤ (headSpec wsX8_placeOf ({ frames := 1, cells := 0, slots := 0, locals := 21 } : Room)).room.locals := fun n h => h
  generalize (headSpec wsX8_placeOf ({ frames := 1, cells := 0, slots := 0, locals := 21 } : Room)).room = R at hRf hRl ⊢
  generalize hQ : MQ below _ args s 0 0 _ = Q
  unfold wp_X8_placeOf at ho
  refine lv_iload_n hx hb dX8_placeOf_0 rfl (lv_at hl 1 rfl) ?_
  refine lv_aload_n hx hb dX8_placeOf_1 rfl (lv_at hl 0 rfl) ?_
  refine va_get (D := D) (ci := 7) (v := .int mo_minus) (C := RX8) (T := TX8) (N := 25) hx hb hts in_X8_placeOf_X8 hown hK hP 0 rfl rfl 5 (by decide) (hts (.fieldLink RX8 65 "HardBenchModel" "minus" "I") (List.mem_of_getElem? (i := 1) (by decide +kernel))) (fun _ h9 => h9) rfl dX8_placeOf_2 ?_
  refine lv_icmp_ge (tgt := 12) hx hb dX8_placeOf_5 (by decide) (fun c_5 => ?_) (fun c_5 => ?_)
  · replace ho := ho.1 c_5
    refine lv_aload_n hx hb dX8_placeOf_12 rfl (lv_at hl 0 rfl) ?_
    refine lv_iload_n hx hb dX8_placeOf_13 rfl (lv_at hl 1 rfl) ?_
    refine ca_Vi (b := a_mo) (As := [.int p1]) (rest := []) ⟨hx, hb, hml, hown, hts⟩ (c_X8_size l D cI cJ cZ a_mo a_moR a_moK a_moH a_moS a_moF a_moT a_moP a_moQ a_moA a_moB a_moD mo_e mo_f mo_codes mo_most mo_minus mo_low mo_function mo_atX mo_atM mo_spanFunction mo_spanRounding mo_spanMany mo_parts mo_shift p1 _ ho) (cwV 1 hts gX8_placeOf_X8_size rfl rfl rfl (by decide +kernel) ⟨hRf _ (Nat.le_of_ble_eq_true rfl), hRl _ (Nat.le_of_ble_eq_true rfl)⟩) hK hN hP [0] rfl 0 7 rfl rfl rfl rfl hl.1 rfl (Nat.le_of_ble_eq_true rfl) dX8_placeOf_14 ⟨Nat.zero_le _, Nat.zero_le _⟩ (fun r14 ho => ?_)
    refine lv_ineg hx hb dX8_placeOf_17 ?_
    subst hQ; exact W.iret (v := (-r14)) hx hb hr (fun t ht _ => ⟨(-r14), rfl, ho, ht⟩) (fun _ h => by cases h) dX8_placeOf_18
  · replace ho := ho.2 c_5
    refine lv_iload_n hx hb dX8_placeOf_8 rfl (lv_at hl 1 rfl) ?_
    refine lv_goto (tgt := 18) hx hb dX8_placeOf_9 (by decide) ?_
    subst hQ; exact W.iret (v := p1) hx hb hr (fun t ht _ => ⟨p1, rfl, ho, ht⟩) (fun _ h => by cases h) dX8_placeOf_18

def wp_X8_between_38 (post : Int32 → (Nat → Int32) → Prop)  (moR_r : Nat → Int32) : Prop := wp_X8_refuse (fun r41 u41 => (post r41 u41)) moR_r (-3 : Int32)
def wp_X8_between_16 (post : Int32 → (Nat → Int32) → Prop)  (moR_r : Nat → Int32) : Prop := wp_X8_refuse (fun r18 u18 => (post r18 u18)) moR_r (-1 : Int32)
def wp_X8_between (post : Int32 → (Nat → Int32) → Prop) (mo_codes : Int32) (mo_most : Int32) (mo_minus : Int32) (moR_r : Nat → Int32) (p1 : Int32) (p2 : Int32) : Prop := wp_X8_isCode (fun r2 => (((r2 = 0) → (wp_X8_between_16 post moR_r)) ∧ ((¬ (r2 = 0)) → (wp_X8_isCode (fun r10 => (((¬ r10 = 0) → (wp_X8_isPlain (fun r24 => (((r24 = 0) → (wp_X8_between_38 post moR_r)) ∧ ((¬ (r24 = 0)) → (wp_X8_isPlain (fun r32 => (((¬ r32 = 0) → (wp_X8_placeOf (fun r47 => (wp_X8_placeOf (fun r52 => (((¬ (if 0 ≤ (r47 - r52) then (r47 - r52) else 0 - (r47 - r52)) = 0) → (post ((if 0 ≤ (r47 - r52) then (r47 - r52) else 0 - (r47 - r52)) - (1 : Int32)) moR_r)) ∧ ((¬ (¬ (if 0 ≤ (r47 - r52) then (r47 - r52) else 0 - (r47 - r52)) = 0)) → (post (0 : Int32) moR_r)))) mo_minus p2)) mo_minus p1)) ∧ ((¬ (¬ r32 = 0)) → (wp_X8_between_38 post moR_r)))) mo_most mo_minus p2)))) mo_most mo_minus p1)) ∧ ((¬ (¬ r10 = 0)) → (wp_X8_between_16 post moR_r)))) mo_codes p2)))) mo_codes p1
set_option maxHeartbeats 4000000 in
set_option maxRecDepth 100000 in
theorem c_X8_between (l : Launch) (D : va_G) (cI cJ cZ : ClassId) (a_mo : Nat) (a_moR : Nat) (a_moK : Nat) (a_moH : Nat) (a_moS : Nat) (a_moF : Nat) (a_moT : Nat) (a_moP : Nat) (a_moQ : Nat) (a_moA : Nat) (a_moB : Nat) (a_moD : Nat) (sz : Nat) (mo_e : Int32) (mo_f : Int32) (mo_codes : Int32) (mo_most : Int32) (mo_minus : Int32) (mo_low : Int32) (mo_function : Int32) (mo_atX : Int32) (mo_atM : Int64) (mo_spanFunction : Int32) (mo_spanRounding : Int32) (mo_spanMany : Int32) (mo_parts : Int32) (mo_shift : Int32) (moR_r : Nat → Int32) (p1 : Int32) (p2 : Int32) (post : Int32 → (Nat → Int32) → Prop) (A : Nat → Prop) (hAe : A = va_A [(a_mo, oX8 a_moR mo_e mo_f mo_codes mo_most mo_minus mo_low mo_function mo_atX mo_atM a_moK a_moH a_moS mo_spanFunction mo_spanRounding mo_spanMany a_moF a_moT mo_parts mo_shift a_moP a_moQ a_moA a_moB a_moD), (a_moR, .inl (cI, 7, .inl moR_r))] sz) (ho : wp_X8_between post mo_codes mo_most mo_minus moR_r p1 p2) : Met l yX8_between wsX8_between ({ frames := 2, cells := 0, slots := 0, locals := 42 } : Room) (rw_P D [(cI, .int), (cJ, .long), (cZ, .boolean)] [.ref a_mo, .int p1, .int p2] sz [(a_mo, oX8 a_moR mo_e mo_f mo_codes mo_most mo_minus mo_low mo_function mo_atX mo_atM a_moK a_moH a_moS mo_spanFunction mo_spanRounding mo_spanMany a_moF a_moT mo_parts mo_shift a_moP a_moQ a_moA a_moB a_moD), (a_moR, .inl (cI, 7, .inl moR_r))]) (va_Qi (fun (r : Int32) (u : (Nat → Int32)) => post r u) (rw_B D A (fun (u : (Nat → Int32)) => [(a_mo, oX8 a_moR mo_e mo_f mo_codes mo_most mo_minus mo_low mo_function mo_atX mo_atM a_moK a_moH a_moS mo_spanFunction mo_spanRounding mo_spanMany a_moF a_moT mo_parts mo_shift a_moP a_moQ a_moA a_moB a_moD), (a_moR, .inl (cI, 7, .inl u))])) A) 0 0 A := by
  refine Met.ofW (cc := cX8_between) (maxL := 4) (ret := (some .int)) (by decide) rfl ?_
  intro p e s m args below meth c s₁ B hml hv
  obtain ⟨hargs, hsz, hP, hK, hN, hD0⟩ := hv
  have hx := B.exec
  have hb := B.bytes
  have hr := B.returns
  have hts := atoms_spec (ws := wsX8_between) B.pre
  have hown : s.vm.findClass RX8 = some m.cls := findClass_of_methodNamed B.named
  have hlocks := B.notSynchronized
  subst hsz
  have hD : va_D A [(a_mo, oX8 a_moR mo_e mo_f mo_codes mo_most mo_minus mo_low mo_function mo_atX mo_atM a_moK a_moH a_moS mo_spanFunction mo_spanRounding mo_spanMany a_moF a_moT mo_parts mo_shift a_moP a_moQ a_moA a_moB a_moD), (a_moR, .inl (cI, 7, .inl moR_r))] := by rw [hAe]; exact hD0.self
  have hA : ∀ q : Nat, s.heap.size ≤ q → A q := fun q h => by rw [hAe]; exact Or.inr h
  have hS : va_S A s.heap s.heap [] := va_S.rf
  have hl := lv_entry ([.ref a_mo, .int p1, .int p2]) (n := 4) (Nat.le_of_ble_eq_true rfl)
  rw [hargs, lg_entry_eq, ← hargs]
  generalize (lg_sl ([.ref a_mo, .int p1, .int p2]) ++ List.replicate (4 - (lg_sl ([.ref a_mo, .int p1, .int p2])).length) Slot.unset).toArray = ls at hl ⊢
  replace hl : lv_has ls 4 [(0, .ref a_mo), (1, .int p1), (2, .int p2)] := hl
  have hRf : ∀ n, n ≤ 2 → n ≤ (headSpec wsX8_between ({ frames := 2, cells := 0, slots := 0, locals := 42 } : Room)).room.frames := fun n h => h
  have hRl : ∀ n, n ≤ 42 → n ≤ (headSpec wsX8_between ({ frames := 2, cells := 0, slots := 0, locals := 42 } : Room)).room.locals := fun n h => h
  generalize (headSpec wsX8_between ({ frames := 2, cells := 0, slots := 0, locals := 42 } : Room)).room = R at hRf hRl ⊢
  generalize hQ : MQ below _ args s 0 0 _ = Q
  have C_38 : ∀ (moR_r : Nat → Int32) (H : Heap) (locs : List Loc) (ls : Array Slot), wp_X8_between_38 post  moR_r → va_P D vwCl [(a_mo, oX8 a_moR mo_e mo_f mo_codes mo_most mo_minus mo_low mo_function mo_atX mo_atM a_moK a_moH a_moS mo_spanFunction mo_spanRounding mo_spanMany a_moF a_moT mo_parts mo_shift a_moP a_moQ a_moA a_moB a_moD), (a_moR, .inl (cI, 7, .inl moR_r))] H → va_D A [(a_mo, oX8 a_moR mo_e mo_f mo_codes mo_most mo_minus mo_low mo_function mo_atX mo_atM a_moK a_moH a_moS mo_spanFunction mo_spanRounding mo_spanMany a_moF a_moT mo_parts mo_shift a_moP a_moQ a_moA a_moB a_moD), (a_moR, .inl (cI, 7, .inl moR_r))] → va_S A s.heap H locs → lv_has ls 4 [(0, .ref a_mo)] → W p l e R s m args below meth c H locs 0 0 Q (F0 m 38 ls []) := by
    intro moR_r H locs ls ho hP hD hS hl
    unfold wp_X8_between_38 at ho
    refine lv_aload_n hx hb dX8_between_38 rfl (lv_at hl 0 rfl) ?_
    refine lv_bipush (v := (-3)) hx hb dX8_between_39 (by decide) ?_
    refine ca_Wi (b := a_mo) (As := [.int (-3 : Int32)]) (rest := []) (wr := []) (wo := fun u => [(a_mo, oX8 a_moR mo_e mo_f mo_codes mo_most mo_minus mo_low mo_function mo_atX mo_atM a_moK a_moH a_moS mo_spanFunction mo_spanRounding mo_spanMany a_moF a_moT mo_parts mo_shift a_moP a_moQ a_moA a_moB a_moD), (a_moR, .inl (cI, 7, .inl u))]) (wn := fun u => [(a_mo, oX8 a_moR mo_e mo_f mo_codes mo_most mo_minus mo_low mo_function mo_atX mo_atM a_moK a_moH a_moS mo_spanFunction mo_spanRounding mo_spanMany a_moF a_moT mo_parts mo_shift a_moP a_moQ a_moA a_moB a_moD), (a_moR, .inl (cI, 7, .inl u))]) ⟨hx, hb, hml, hown, hts⟩ (c_X8_refuse l D cI cJ cZ a_mo a_moR a_moK a_moH a_moS a_moF a_moT a_moP a_moQ a_moA a_moB a_moD H.size mo_e mo_f mo_codes mo_most mo_minus mo_low mo_function mo_atX mo_atM mo_spanFunction mo_spanRounding mo_spanMany mo_parts mo_shift moR_r (-3 : Int32) _ _ rfl ho) (cwV 1 hts gX8_between_X8_refuse rfl rfl rfl (by decide +kernel) ⟨hRf _ (Nat.le_of_ble_eq_true rfl), hRl _ (Nat.le_of_ble_eq_true rfl)⟩) hK hN hP hD hS hA [0, 1] [] [0, 1] rfl rfl (by decide) (by decide) (by decide) (by decide) (fun _ => rfl) 0 7 rfl rfl rfl rfl hl.1 rfl (Nat.le_of_ble_eq_true rfl) dX8_between_41 ⟨Nat.zero_le _, Nat.zero_le _⟩ (fun r41 u41 H locs ho hP hD hS => ?_)
    try dsimp only at ho
    replace hP : va_P D vwCl [(a_mo, oX8 a_moR mo_e mo_f mo_codes mo_most mo_minus mo_low mo_function mo_atX mo_atM a_moK a_moH a_moS mo_spanFunction mo_spanRounding mo_spanMany a_moF a_moT mo_parts mo_shift a_moP a_moQ a_moA a_moB a_moD), (a_moR, .inl (cI, 7, .inl u41))] H := hP
    replace hD : va_D A [(a_mo, oX8 a_moR mo_e mo_f mo_codes mo_most mo_minus mo_low mo_function mo_atX mo_atM a_moK a_moH a_moS mo_spanFunction mo_spanRounding mo_spanMany a_moF a_moT mo_parts mo_shift a_moP a_moQ a_moA a_moB a_moD), (a_moR, .inl (cI, 7, .inl u41))] := hD
    subst hQ; exact W.iret (v := r41) hx hb hr (fun t ht hW => ⟨⟨r41, u41, rfl, ho, by rw [ht]; exact hP, hD⟩, hS.F ht⟩) (fun q hq => hS.2.2 q hq) dX8_between_44
  have C_16 : ∀ (moR_r : Nat → Int32) (H : Heap) (locs : List Loc) (ls : Array Slot), wp_X8_between_16 post  moR_r → va_P D vwCl [(a_mo, oX8 a_moR mo_e mo_f mo_codes mo_most mo_minus mo_low mo_function mo_atX mo_atM a_moK a_moH a_moS mo_spanFunction mo_spanRounding mo_spanMany a_moF a_moT mo_parts mo_shift a_moP a_moQ a_moA a_moB a_moD), (a_moR, .inl (cI, 7, .inl moR_r))] H → va_D A [(a_mo, oX8 a_moR mo_e mo_f mo_codes mo_most mo_minus mo_low mo_function mo_atX mo_atM a_moK a_moH a_moS mo_spanFunction mo_spanRounding mo_spanMany a_moF a_moT mo_parts mo_shift a_moP a_moQ a_moA a_moB a_moD), (a_moR, .inl (cI, 7, .inl moR_r))] → va_S A s.heap H locs → lv_has ls 4 [(0, .ref a_mo)] → W p l e R s m args below meth c H locs 0 0 Q (F0 m 16 ls []) := by
    intro moR_r H locs ls ho hP hD hS hl
    unfold wp_X8_between_16 at ho
    refine lv_aload_n hx hb dX8_between_16 rfl (lv_at hl 0 rfl) ?_
    refine lv_iconst (v := (-1)) hx hb dX8_between_17 (by decide) ?_
    refine ca_Wi (b := a_mo) (As := [.int (-1 : Int32)]) (rest := []) (wr := []) (wo := fun u => [(a_mo, oX8 a_moR mo_e mo_f mo_codes mo_most mo_minus mo_low mo_function mo_atX mo_atM a_moK a_moH a_moS mo_spanFunction mo_spanRounding mo_spanMany a_moF a_moT mo_parts mo_shift a_moP a_moQ a_moA a_moB a_moD), (a_moR, .inl (cI, 7, .inl u))]) (wn := fun u => [(a_mo, oX8 a_moR mo_e mo_f mo_codes mo_most mo_minus mo_low mo_function mo_atX mo_atM a_moK a_moH a_moS mo_spanFunction mo_spanRounding mo_spanMany a_moF a_moT mo_parts mo_shift a_moP a_moQ a_moA a_moB a_moD), (a_moR, .inl (cI, 7, .inl u))]) ⟨hx, hb, hml, hown, hts⟩ (c_X8_refuse l D cI cJ cZ a_mo a_moR a_moK a_moH a_moS a_moF a_moT a_moP a_moQ a_moA a_moB a_moD H.size mo_e mo_f mo_codes mo_most mo_minus mo_low mo_function mo_atX mo_atM mo_spanFunction mo_spanRounding mo_spanMany mo_parts mo_shift moR_r (-1 : Int32) _ _ rfl ho) (cwV 1 hts gX8_between_X8_refuse rfl rfl rfl (by decide +kernel) ⟨hRf _ (Nat.le_of_ble_eq_true rfl), hRl _ (Nat.le_of_ble_eq_true rfl)⟩) hK hN hP hD hS hA [0, 1] [] [0, 1] rfl rfl (by decide) (by decide) (by decide) (by decide) (fun _ => rfl) 0 7 rfl rfl rfl rfl hl.1 rfl (Nat.le_of_ble_eq_true rfl) dX8_between_18 ⟨Nat.zero_le _, Nat.zero_le _⟩ (fun r18 u18 H locs ho hP hD hS => ?_)
    try dsimp only at ho
    replace hP : va_P D vwCl [(a_mo, oX8 a_moR mo_e mo_f mo_codes mo_most mo_minus mo_low mo_function mo_atX mo_atM a_moK a_moH a_moS mo_spanFunction mo_spanRounding mo_spanMany a_moF a_moT mo_parts mo_shift a_moP a_moQ a_moA a_moB a_moD), (a_moR, .inl (cI, 7, .inl u18))] H := hP
    replace hD : va_D A [(a_mo, oX8 a_moR mo_e mo_f mo_codes mo_most mo_minus mo_low mo_function mo_atX mo_atM a_moK a_moH a_moS mo_spanFunction mo_spanRounding mo_spanMany a_moF a_moT mo_parts mo_shift a_moP a_moQ a_moA a_moB a_moD), (a_moR, .inl (cI, 7, .inl u18))] := hD
    subst hQ; exact W.iret (v := r18) hx hb hr (fun t ht hW => ⟨⟨r18, u18, rfl, ho, by rw [ht]; exact hP, hD⟩, hS.F ht⟩) (fun q hq => hS.2.2 q hq) dX8_between_21
  unfold wp_X8_between at ho
  refine lv_aload_n hx hb dX8_between_0 rfl (lv_at hl 0 rfl) ?_
  refine lv_iload_n hx hb dX8_between_1 rfl (lv_at hl 1 rfl) ?_
  refine ca_Vi (b := a_mo) (As := [.int p1]) (rest := []) ⟨hx, hb, hml, hown, hts⟩ (c_X8_isCode l D cI cJ cZ a_mo a_moR a_moK a_moH a_moS a_moF a_moT a_moP a_moQ a_moA a_moB a_moD mo_e mo_f mo_codes mo_most mo_minus mo_low mo_function mo_atX mo_atM mo_spanFunction mo_spanRounding mo_spanMany mo_parts mo_shift p1 _ ho) (cwV 1 hts gX8_between_X8_isCode rfl rfl rfl (by decide +kernel) ⟨hRf _ (Nat.le_of_ble_eq_true rfl), hRl _ (Nat.le_of_ble_eq_true rfl)⟩) hK hN hP [0] rfl 0 7 rfl rfl rfl rfl hl.1 rfl (Nat.le_of_ble_eq_true rfl) dX8_between_2 ⟨Nat.zero_le _, Nat.zero_le _⟩ (fun r2 ho => ?_)
  refine lv_if_eq (tgt := 16) hx hb dX8_between_5 (by decide) (fun c_5 => ?_) (fun c_5 => ?_)
  · replace ho := ho.1 c_5
    exact C_16 moR_r H locs ls ho hP hD hS (lv_sub hl [0] rfl)
  · replace ho := ho.2 c_5
    refine lv_aload_n hx hb dX8_between_8 rfl (lv_at hl 0 rfl) ?_
    refine lv_iload_n hx hb dX8_between_9 rfl (lv_at hl 2 rfl) ?_
    refine ca_Vi (b := a_mo) (As := [.int p2]) (rest := []) ⟨hx, hb, hml, hown, hts⟩ (c_X8_isCode l D cI cJ cZ a_mo a_moR a_moK a_moH a_moS a_moF a_moT a_moP a_moQ a_moA a_moB a_moD mo_e mo_f mo_codes mo_most mo_minus mo_low mo_function mo_atX mo_atM mo_spanFunction mo_spanRounding mo_spanMany mo_parts mo_shift p2 _ ho) (cwV 1 hts gX8_between_X8_isCode rfl rfl rfl (by decide +kernel) ⟨hRf _ (Nat.le_of_ble_eq_true rfl), hRl _ (Nat.le_of_ble_eq_true rfl)⟩) hK hN hP [0] rfl 0 7 rfl rfl rfl rfl hl.1 rfl (Nat.le_of_ble_eq_true rfl) dX8_between_10 ⟨Nat.zero_le _, Nat.zero_le _⟩ (fun r10 ho => ?_)
    refine lv_if_ne (tgt := 22) hx hb dX8_between_13 (by decide) (fun c_13 => ?_) (fun c_13 => ?_)
    · replace ho := ho.1 c_13
      refine lv_aload_n hx hb dX8_between_22 rfl (lv_at hl 0 rfl) ?_
      refine lv_iload_n hx hb dX8_between_23 rfl (lv_at hl 1 rfl) ?_
      refine ca_Vi (b := a_mo) (As := [.int p1]) (rest := []) ⟨hx, hb, hml, hown, hts⟩ (c_X8_isPlain l D cI cJ cZ a_mo a_moR a_moK a_moH a_moS a_moF a_moT a_moP a_moQ a_moA a_moB a_moD mo_e mo_f mo_codes mo_most mo_minus mo_low mo_function mo_atX mo_atM mo_spanFunction mo_spanRounding mo_spanMany mo_parts mo_shift p1 _ ho) (cwV 1 hts gX8_between_X8_isPlain rfl rfl rfl (by decide +kernel) ⟨hRf _ (Nat.le_of_ble_eq_true rfl), hRl _ (Nat.le_of_ble_eq_true rfl)⟩) hK hN hP [0] rfl 0 7 rfl rfl rfl rfl hl.1 rfl (Nat.le_of_ble_eq_true rfl) dX8_between_24 ⟨Nat.zero_le _, Nat.zero_le _⟩ (fun r24 ho => ?_)
      refine lv_if_eq (tgt := 38) hx hb dX8_between_27 (by decide) (fun c_27 => ?_) (fun c_27 => ?_)
      · replace ho := ho.1 c_27
        exact C_38 moR_r H locs ls ho hP hD hS (lv_sub hl [0] rfl)
      · replace ho := ho.2 c_27
        refine lv_aload_n hx hb dX8_between_30 rfl (lv_at hl 0 rfl) ?_
        refine lv_iload_n hx hb dX8_between_31 rfl (lv_at hl 2 rfl) ?_
        refine ca_Vi (b := a_mo) (As := [.int p2]) (rest := []) ⟨hx, hb, hml, hown, hts⟩ (c_X8_isPlain l D cI cJ cZ a_mo a_moR a_moK a_moH a_moS a_moF a_moT a_moP a_moQ a_moA a_moB a_moD mo_e mo_f mo_codes mo_most mo_minus mo_low mo_function mo_atX mo_atM mo_spanFunction mo_spanRounding mo_spanMany mo_parts mo_shift p2 _ ho) (cwV 1 hts gX8_between_X8_isPlain rfl rfl rfl (by decide +kernel) ⟨hRf _ (Nat.le_of_ble_eq_true rfl), hRl _ (Nat.le_of_ble_eq_true rfl)⟩) hK hN hP [0] rfl 0 7 rfl rfl rfl rfl hl.1 rfl (Nat.le_of_ble_eq_true rfl) dX8_between_32 ⟨Nat.zero_le _, Nat.zero_le _⟩ (fun r32 ho => ?_)
        refine lv_if_ne (tgt := 45) hx hb dX8_between_35 (by decide) (fun c_35 => ?_) (fun c_35 => ?_)
        · replace ho := ho.1 c_35
          refine lv_aload_n hx hb dX8_between_45 rfl (lv_at hl 0 rfl) ?_
          refine lv_iload_n hx hb dX8_between_46 rfl (lv_at hl 1 rfl) ?_
          refine ca_Vi (b := a_mo) (As := [.int p1]) (rest := []) ⟨hx, hb, hml, hown, hts⟩ (c_X8_placeOf l D cI cJ cZ a_mo a_moR a_moK a_moH a_moS a_moF a_moT a_moP a_moQ a_moA a_moB a_moD mo_e mo_f mo_codes mo_most mo_minus mo_low mo_function mo_atX mo_atM mo_spanFunction mo_spanRounding mo_spanMany mo_parts mo_shift p1 _ ho) (cwV 1 hts gX8_between_X8_placeOf rfl rfl rfl (by decide +kernel) ⟨hRf _ (Nat.le_of_ble_eq_true rfl), hRl _ (Nat.le_of_ble_eq_true rfl)⟩) hK hN hP [0] rfl 0 7 rfl rfl rfl rfl hl.1 rfl (Nat.le_of_ble_eq_true rfl) dX8_between_47 ⟨Nat.zero_le _, Nat.zero_le _⟩ (fun r47 ho => ?_)
          refine lv_aload_n hx hb dX8_between_50 rfl (lv_at hl 0 rfl) ?_
          refine lv_iload_n hx hb dX8_between_51 rfl (lv_at hl 2 rfl) ?_
          refine ca_Vi (b := a_mo) (As := [.int p2]) (rest := [.int r47]) ⟨hx, hb, hml, hown, hts⟩ (c_X8_placeOf l D cI cJ cZ a_mo a_moR a_moK a_moH a_moS a_moF a_moT a_moP a_moQ a_moA a_moB a_moD mo_e mo_f mo_codes mo_most mo_minus mo_low mo_function mo_atX mo_atM mo_spanFunction mo_spanRounding mo_spanMany mo_parts mo_shift p2 _ ho) (cwV 1 hts gX8_between_X8_placeOf rfl rfl rfl (by decide +kernel) ⟨hRf _ (Nat.le_of_ble_eq_true rfl), hRl _ (Nat.le_of_ble_eq_true rfl)⟩) hK hN hP [0] rfl 0 7 rfl rfl rfl rfl hl.1 rfl (Nat.le_of_ble_eq_true rfl) dX8_between_52 ⟨Nat.zero_le _, Nat.zero_le _⟩ (fun r52 ho => ?_)
          refine lv_isub hx hb dX8_between_55 ?_
          refine va_mabs hx hb (hml.trans hl.1.symm) hown (hts (.methodLink RX8 109 Lib.Math.abs.name) (List.mem_of_getElem? (i := 1) (by decide +kernel))) (hts (.static Lib.Math.abs.name) (List.mem_of_getElem? (i := 2) (by decide +kernel))) (hts (.initialized "java/lang/Math") (List.mem_of_getElem? (i := 3) (by decide +kernel))) (hts (.code Lib.Math.abs.name Lib.Math.abs.code 1 (some .int)) (List.mem_of_getElem? (i := 4) (by decide +kernel))) (hRf 1 (Nat.le_of_ble_eq_true rfl)) (hRl _ (Nat.le_of_ble_eq_true rfl)) (Nat.zero_le _) (Nat.zero_le _) dX8_between_56 ?_
          refine lv_istore_n (lv' := [(3, .int (if 0 ≤ (r47 - r52) then (r47 - r52) else 0 - (r47 - r52))), (0, .ref a_mo), (1, .int p1), (2, .int p2)]) hx hb dX8_between_59 rfl hl (by decide) rfl (fun ls hl => ?_)
          refine lv_iload_n hx hb dX8_between_60 rfl (lv_at hl 0 rfl) ?_
          refine lv_if_ne (tgt := 68) hx hb dX8_between_61 (by decide) (fun c_61 => ?_) (fun c_61 => ?_)
          · replace ho := ho.1 c_61
            refine lv_iload_n hx hb dX8_between_68 rfl (lv_at hl 0 rfl) ?_
            refine lv_iconst (v := 1) hx hb dX8_between_69 (by decide) ?_
            refine lv_isub hx hb dX8_between_70 ?_
            subst hQ; exact W.iret (v := ((if 0 ≤ (r47 - r52) then (r47 - r52) else 0 - (r47 - r52)) - (1 : Int32))) hx hb hr (fun t ht hW => ⟨⟨((if 0 ≤ (r47 - r52) then (r47 - r52) else 0 - (r47 - r52)) - (1 : Int32)), moR_r, rfl, ho, by rw [ht]; exact hP, hD⟩, hS.F ht⟩) (fun q hq => hS.2.2 q hq) dX8_between_71
          · replace ho := ho.2 c_61
            refine lv_iconst (v := 0) hx hb dX8_between_64 (by decide) ?_
            refine lv_goto (tgt := 71) hx hb dX8_between_65 (by decide) ?_
            subst hQ; exact W.iret (v := (0 : Int32)) hx hb hr (fun t ht hW => ⟨⟨(0 : Int32), moR_r, rfl, ho, by rw [ht]; exact hP, hD⟩, hS.F ht⟩) (fun q hq => hS.2.2 q hq) dX8_between_71
        · replace ho := ho.2 c_35
          exact C_38 moR_r H locs ls ho hP hD hS (lv_sub hl [0] rfl)
    · replace ho := ho.2 c_13
      exact C_16 moR_r H locs ls ho hP hD hS (lv_sub hl [0] rfl)

def wp_X8_bits_4_b (post : Int32 → Prop)   (K_4 : Int32 → Int64 → Prop) (x2 : Int32) (x3 : Int64) : Prop := (((lg_cmp x3 (0 : Int64)) ≤ 0) → (post x2)) ∧ ((¬ ((lg_cmp x3 (0 : Int64)) ≤ 0)) → (K_4 (x2 + (1 : Int32)) (x3 >>> ((1 : Int32).toInt64 &&& 63))))
noncomputable def wp_X8_bits_4 (post : Int32 → Prop)   (n : Nat) : Int32 → Int64 → Prop := Nat.rec (motive := fun _ => Int32 → Int64 → Prop) (fun _ _ => False) (fun _ K_4 => wp_X8_bits_4_b post  K_4) n
def wp_X8_bits (post : Int32 → Prop) (p1 : Int64) : Prop := ∃ n, wp_X8_bits_4 post  n (0 : Int32) p1
set_option maxHeartbeats 4000000 in
set_option maxRecDepth 100000 in
theorem c_X8_bits (l : Launch) (D : va_G) (cI cJ cZ : ClassId)   (p1 : Int64) (post : Int32 → Prop) (ho : wp_X8_bits post p1) : Met l yX8_bits wsX8_bits ({ frames := 0, cells := 0, slots := 0, locals := 0 } : Room) (ro_P D [(cI, .int), (cJ, .long), (cZ, .boolean)] [.long p1] []) (vp_Si post) 0 0 (fun _ => False) := by
  refine Met.ofW (cc := cX8_bits) (maxL := 5) (ret := (some .int)) (by decide) rfl ?_
  intro p e s m args below meth c s₁ B hml hv
  obtain ⟨hargs, hP, hK, hN⟩ := hv
  have hx := B.exec
  have hb := B.bytes
  have hr := B.returns
  have hts := atoms_spec (ws := wsX8_bits) B.pre
  have hown : s.vm.findClass RX8 = some m.cls := findClass_of_methodNamed B.named
  have hlocks := B.notSynchronized
  have hl := lv_entry ([.long p1]) (n := 5) (Nat.le_of_ble_eq_true rfl)
  rw [hargs, lg_entry_eq, ← hargs]
  generalize (lg_sl ([.long p1]) ++ List.replicate (5 - (lg_sl ([.long p1])).length) Slot.unset).toArray = ls at hl ⊢
  replace hl : lv_has ls 5 [(0, .long p1)] := hl
  have hRf : ∀ n, n ≤ 0 → n ≤ (headSpec wsX8_bits ({ frames := 0, cells := 0, slots := 0, locals := 0 } : Room)).room.frames := fun n h => h
  have hRl : ∀ n, n ≤ 0 → n ≤ (headSpec wsX8_bits ({ frames := 0, cells := 0, slots := 0, locals := 0 } : Room)).room.locals := fun n h => h
  generalize (headSpec wsX8_bits ({ frames := 0, cells := 0, slots := 0, locals := 0 } : Room)).room = R at hRf hRl ⊢
  generalize hQ : MQ below _ args s 0 0 _ = Q
  have C_4 : ∀ n : Nat, ∀ (x2 : Int32) (x3 : Int64) (ls : Array Slot), wp_X8_bits_4 post   n x2 x3 → lv_has ls 5 [(2, .int x2), (3, .long x3)] → W p l e R s m args below meth c s.heap [] 0 0 Q (F0 m 4 ls []) := by
    intro n
    induction n with
    | zero => intro x2 x3 ls ho hl; exact ho.elim
    | succ n_4 ih_4 =>
      intro x2 x3 ls ho hl
      replace ho : wp_X8_bits_4_b post  (wp_X8_bits_4 post  n_4) x2 x3 := ho
      unfold wp_X8_bits_4_b at ho
      refine lv_lload_n hx hb dX8_bits_4 rfl (lv_at hl 1 rfl) ?_
      refine lv_lconst (v := 0) hx hb dX8_bits_5 (by decide) ?_
      refine W.lcmp hx hb dX8_bits_6 ?_
      refine lv_if_le (tgt := 20) hx hb dX8_bits_7 (by decide) (fun c_7 => ?_) (fun c_7 => ?_)
      · replace ho := ho.1 c_7
        refine lv_iload_n hx hb dX8_bits_20 rfl (lv_at hl 0 rfl) ?_
        subst hQ; exact W.iret (v := x2) hx hb hr (fun t ht _ => ⟨x2, rfl, ho, ht⟩) (fun _ h => by cases h) dX8_bits_21
      · replace ho := ho.2 c_7
        refine lv_iinc (v := (x2 + (1 : Int32))) (lv' := [(2, .int (x2 + (1 : Int32))), (3, .long x3)]) hx hb dX8_bits_10 hl (k := 0) rfl rfl (by decide) rfl (fun ls hl => ?_)
        refine lv_lload_n hx hb dX8_bits_13 rfl (lv_at hl 1 rfl) ?_
        refine lv_iconst (v := 1) hx hb dX8_bits_14 (by decide) ?_
        refine lv_lshr hx hb dX8_bits_15 rfl ?_
        refine lv_lstore_n (lv' := [(3, .long (x3 >>> ((1 : Int32).toInt64 &&& 63))), (2, .int (x2 + (1 : Int32)))]) hx hb dX8_bits_16 rfl hl (by decide) rfl (fun ls hl => ?_)
        refine lv_goto (tgt := 4) hx hb dX8_bits_17 (by decide) ?_
        exact ih_4 (x2 + (1 : Int32)) (x3 >>> ((1 : Int32).toInt64 &&& 63)) ls ho (lv_sub hl [1, 0] rfl)
  unfold wp_X8_bits at ho
  refine lv_iconst (v := 0) hx hb dX8_bits_0 (by decide) ?_
  refine lv_istore_n (lv' := [(2, .int (0 : Int32)), (0, .long p1)]) hx hb dX8_bits_1 rfl hl (by decide) rfl (fun ls hl => ?_)
  refine lv_lload_n hx hb dX8_bits_2 rfl (lv_at hl 1 rfl) ?_
  refine lv_lstore_n (lv' := [(3, .long p1), (2, .int (0 : Int32)), (0, .long p1)]) hx hb dX8_bits_3 rfl hl (by decide) rfl (fun ls hl => ?_)
  obtain ⟨n_4, ho⟩ := ho
  exact C_4 n_4 (0 : Int32) p1 ls ho (lv_sub hl [1, 0] rfl)

def wp_X8_compare_105 (post : Int32 → Prop)  (x8 : Int64) (y0 : Int64) : Prop := ((0 ≤ (lg_cmp x8 y0)) → ((((lg_cmp x8 y0) ≤ 0) → (post (0 : Int32))) ∧ ((¬ ((lg_cmp x8 y0) ≤ 0)) → (post (1 : Int32))))) ∧ ((¬ (0 ≤ (lg_cmp x8 y0))) → (post (-1 : Int32)))
def wp_X8_compare_87 (post : Int32 → Prop)  (p2 : Int32) (p3 : Int64) (p4 : Int32) (y0 : Int64) : Prop := ((p4 ≤ p2) → (wp_X8_compare_105 post y0 p3)) ∧ ((¬ (p4 ≤ p2)) → (wp_X8_compare_105 post y0 (p3 <<< ((p4 - p2).toInt64 &&& 63))))
def wp_X8_compare_12 (post : Int32 → Prop)  (p1 : Int64) (p3 : Int64) : Prop := ((¬ (lg_cmp p1 p3) = 0) → (((¬ (lg_cmp p1 (0 : Int64)) = 0) → (post (1 : Int32))) ∧ ((¬ (¬ (lg_cmp p1 (0 : Int64)) = 0)) → (post (-1 : Int32))))) ∧ ((¬ (¬ (lg_cmp p1 p3) = 0)) → (post (0 : Int32)))
def wp_X8_compare (post : Int32 → Prop) (p1 : Int64) (p2 : Int32) (p3 : Int64) (p4 : Int32) : Prop := (((lg_cmp p1 (0 : Int64)) = 0) → (wp_X8_compare_12 post p1 p3)) ∧ ((¬ ((lg_cmp p1 (0 : Int64)) = 0)) → (((¬ (lg_cmp p3 (0 : Int64)) = 0) → (wp_X8_bits (fun r35 => (wp_X8_bits (fun r43 => ((((r35 + p2) = (r43 + p4)) → (((p2 ≤ p4) → (wp_X8_compare_87 post p2 p3 p4 p1)) ∧ ((¬ (p2 ≤ p4)) → (wp_X8_compare_87 post p2 p3 p4 (p1 <<< ((p2 - p4).toInt64 &&& 63)))))) ∧ ((¬ ((r35 + p2) = (r43 + p4))) → ((((r43 + p4) ≤ (r35 + p2)) → (post (1 : Int32))) ∧ ((¬ ((r43 + p4) ≤ (r35 + p2))) → (post (-1 : Int32))))))) p3)) p1)) ∧ ((¬ (¬ (lg_cmp p3 (0 : Int64)) = 0)) → (wp_X8_compare_12 post p1 p3))))
set_option maxHeartbeats 4000000 in
set_option maxRecDepth 100000 in
theorem c_X8_compare (l : Launch) (D : va_G) (cI cJ cZ : ClassId)   (p1 : Int64) (p2 : Int32) (p3 : Int64) (p4 : Int32) (post : Int32 → Prop) (ho : wp_X8_compare post p1 p2 p3 p4) : Met l yX8_compare wsX8_compare ({ frames := 1, cells := 0, slots := 0, locals := 24 } : Room) (ro_P D [(cI, .int), (cJ, .long), (cZ, .boolean)] [.long p1, .int p2, .long p3, .int p4] []) (vp_Si post) 0 0 (fun _ => False) := by
  refine Met.ofW (cc := cX8_compare) (maxL := 12) (ret := (some .int)) (by decide) rfl ?_
  intro p e s m args below meth c s₁ B hml hv
  obtain ⟨hargs, hP, hK, hN⟩ := hv
  have hx := B.exec
  have hb := B.bytes
  have hr := B.returns
  have hts := atoms_spec (ws := wsX8_compare) B.pre
  have hown : s.vm.findClass RX8 = some m.cls := findClass_of_methodNamed B.named
  have hlocks := B.notSynchronized
  have hl := lv_entry ([.long p1, .int p2, .long p3, .int p4]) (n := 12) (Nat.le_of_ble_eq_true rfl)
  rw [hargs, lg_entry_eq, ← hargs]
  generalize (lg_sl ([.long p1, .int p2, .long p3, .int p4]) ++ List.replicate (12 - (lg_sl ([.long p1, .int p2, .long p3, .int p4])).length) Slot.unset).toArray = ls at hl ⊢
  replace hl : lv_has ls 12 [(0, .long p1), (2, .int p2), (3, .long p3), (5, .int p4)] := hl
  have hRf : ∀ n, n ≤ 1 → n ≤ (headSpec wsX8_compare ({ frames := 1, cells := 0, slots := 0, locals := 24 } : Room)).room.frames := fun n h => h
  have hRl : ∀ n, n ≤ 24 → n ≤ (headSpec wsX8_compare ({ frames := 1, cells := 0, slots := 0, locals := 24 } : Room)).room.locals := fun n h => h
  generalize (headSpec wsX8_compare ({ frames := 1, cells := 0, slots := 0, locals := 24 } : Room)).room = R at hRf hRl ⊢
  generalize hQ : MQ below _ args s 0 0 _ = Q
  have C_105 : ∀ (x8 : Int64) (y0 : Int64) (ls : Array Slot), wp_X8_compare_105 post  x8 y0 → lv_has ls 12 [(8, .long x8)] → W p l e R s m args below meth c s.heap [] 0 0 Q (F0 m 105 ls [.long y0]) := by
    intro x8 y0 ls ho hl
    unfold wp_X8_compare_105 at ho
    refine lv_lstore (lv' := [(10, .long y0), (8, .long x8)]) hx hb dX8_compare_105 hl (by decide) rfl (fun ls hl => ?_)
    refine lv_lload hx hb dX8_compare_107 (lv_at hl 1 rfl) ?_
    refine lv_lload hx hb dX8_compare_109 (lv_at hl 0 rfl) ?_
    refine W.lcmp hx hb dX8_compare_111 ?_
    refine lv_if_ge (tgt := 119) hx hb dX8_compare_112 (by decide) (fun c_112 => ?_) (fun c_112 => ?_)
    · replace ho := ho.1 c_112
      refine lv_lload hx hb dX8_compare_119 (lv_at hl 1 rfl) ?_
      refine lv_lload hx hb dX8_compare_121 (lv_at hl 0 rfl) ?_
      refine W.lcmp hx hb dX8_compare_123 ?_
      refine lv_if_le (tgt := 131) hx hb dX8_compare_124 (by decide) (fun c_124 => ?_) (fun c_124 => ?_)
      · replace ho := ho.1 c_124
        refine lv_iconst (v := 0) hx hb dX8_compare_131 (by decide) ?_
        subst hQ; exact W.iret (v := (0 : Int32)) hx hb hr (fun t ht _ => ⟨(0 : Int32), rfl, ho, ht⟩) (fun _ h => by cases h) dX8_compare_132
      · replace ho := ho.2 c_124
        refine lv_iconst (v := 1) hx hb dX8_compare_127 (by decide) ?_
        refine lv_goto (tgt := 132) hx hb dX8_compare_128 (by decide) ?_
        subst hQ; exact W.iret (v := (1 : Int32)) hx hb hr (fun t ht _ => ⟨(1 : Int32), rfl, ho, ht⟩) (fun _ h => by cases h) dX8_compare_132
    · replace ho := ho.2 c_112
      refine lv_iconst (v := (-1)) hx hb dX8_compare_115 (by decide) ?_
      refine lv_goto (tgt := 132) hx hb dX8_compare_116 (by decide) ?_
      subst hQ; exact W.iret (v := (-1 : Int32)) hx hb hr (fun t ht _ => ⟨(-1 : Int32), rfl, ho, ht⟩) (fun _ h => by cases h) dX8_compare_132
  have C_87 : ∀ (y0 : Int64) (ls : Array Slot), wp_X8_compare_87 post  p2 p3 p4 y0 → lv_has ls 12 [(2, .int p2), (3, .long p3), (5, .int p4)] → W p l e R s m args below meth c s.heap [] 0 0 Q (F0 m 87 ls [.long y0]) := by
    intro y0 ls ho hl
    unfold wp_X8_compare_87 at ho
    refine lv_lstore (lv' := [(8, .long y0), (2, .int p2), (3, .long p3), (5, .int p4)]) hx hb dX8_compare_87 hl (by decide) rfl (fun ls hl => ?_)
    refine lv_iload hx hb dX8_compare_89 (lv_at hl 3 rfl) ?_
    refine lv_iload_n hx hb dX8_compare_91 rfl (lv_at hl 1 rfl) ?_
    refine lv_icmp_le (tgt := 104) hx hb dX8_compare_92 (by decide) (fun c_92 => ?_) (fun c_92 => ?_)
    · replace ho := ho.1 c_92
      refine lv_lload_n hx hb dX8_compare_104 rfl (lv_at hl 2 rfl) ?_
      exact C_105 y0 p3 ls ho (lv_sub hl [0] rfl)
    · replace ho := ho.2 c_92
      refine lv_lload_n hx hb dX8_compare_95 rfl (lv_at hl 2 rfl) ?_
      refine lv_iload hx hb dX8_compare_96 (lv_at hl 3 rfl) ?_
      refine lv_iload_n hx hb dX8_compare_98 rfl (lv_at hl 1 rfl) ?_
      refine lv_isub hx hb dX8_compare_99 ?_
      refine lv_lshl hx hb dX8_compare_100 rfl ?_
      refine lv_goto (tgt := 105) hx hb dX8_compare_101 (by decide) ?_
      exact C_105 y0 (p3 <<< ((p4 - p2).toInt64 &&& 63)) ls ho (lv_sub hl [0] rfl)
  have C_12 : ∀  (ls : Array Slot), wp_X8_compare_12 post  p1 p3 → lv_has ls 12 [(0, .long p1), (3, .long p3)] → W p l e R s m args below meth c s.heap [] 0 0 Q (F0 m 12 ls []) := by
    intro  ls ho hl
    unfold wp_X8_compare_12 at ho
    refine lv_lload_n hx hb dX8_compare_12 rfl (lv_at hl 0 rfl) ?_
    refine lv_lload_n hx hb dX8_compare_13 rfl (lv_at hl 1 rfl) ?_
    refine W.lcmp hx hb dX8_compare_14 ?_
    refine lv_if_ne (tgt := 22) hx hb dX8_compare_15 (by decide) (fun c_15 => ?_) (fun c_15 => ?_)
    · replace ho := ho.1 c_15
      refine lv_lload_n hx hb dX8_compare_22 rfl (lv_at hl 0 rfl) ?_
      refine lv_lconst (v := 0) hx hb dX8_compare_23 (by decide) ?_
      refine W.lcmp hx hb dX8_compare_24 ?_
      refine lv_if_ne (tgt := 32) hx hb dX8_compare_25 (by decide) (fun c_25 => ?_) (fun c_25 => ?_)
      · replace ho := ho.1 c_25
        refine lv_iconst (v := 1) hx hb dX8_compare_32 (by decide) ?_
        subst hQ; exact W.iret (v := (1 : Int32)) hx hb hr (fun t ht _ => ⟨(1 : Int32), rfl, ho, ht⟩) (fun _ h => by cases h) dX8_compare_33
      · replace ho := ho.2 c_25
        refine lv_iconst (v := (-1)) hx hb dX8_compare_28 (by decide) ?_
        refine lv_goto (tgt := 33) hx hb dX8_compare_29 (by decide) ?_
        subst hQ; exact W.iret (v := (-1 : Int32)) hx hb hr (fun t ht _ => ⟨(-1 : Int32), rfl, ho, ht⟩) (fun _ h => by cases h) dX8_compare_33
    · replace ho := ho.2 c_15
      refine lv_iconst (v := 0) hx hb dX8_compare_18 (by decide) ?_
      refine lv_goto (tgt := 33) hx hb dX8_compare_19 (by decide) ?_
      subst hQ; exact W.iret (v := (0 : Int32)) hx hb hr (fun t ht _ => ⟨(0 : Int32), rfl, ho, ht⟩) (fun _ h => by cases h) dX8_compare_33
  unfold wp_X8_compare at ho
  refine lv_lload_n hx hb dX8_compare_0 rfl (lv_at hl 0 rfl) ?_
  refine lv_lconst (v := 0) hx hb dX8_compare_1 (by decide) ?_
  refine W.lcmp hx hb dX8_compare_2 ?_
  refine lv_if_eq (tgt := 12) hx hb dX8_compare_3 (by decide) (fun c_3 => ?_) (fun c_3 => ?_)
  · replace ho := ho.1 c_3
    exact C_12  ls ho (lv_sub hl [0, 2] rfl)
  · replace ho := ho.2 c_3
    refine lv_lload_n hx hb dX8_compare_6 rfl (lv_at hl 2 rfl) ?_
    refine lv_lconst (v := 0) hx hb dX8_compare_7 (by decide) ?_
    refine W.lcmp hx hb dX8_compare_8 ?_
    refine lv_if_ne (tgt := 34) hx hb dX8_compare_9 (by decide) (fun c_9 => ?_) (fun c_9 => ?_)
    · replace ho := ho.1 c_9
      refine lv_lload_n hx hb dX8_compare_34 rfl (lv_at hl 0 rfl) ?_
      refine ca_Si (As := [.long p1]) (rest := []) ⟨hx, hb, hml, hown, hts⟩ (c_X8_bits l D cI cJ cZ   p1 _ ho) (va_cwS 1 hts gX8_compare_X8_bits rfl rfl rfl (by decide +kernel) ⟨hRf _ (Nat.le_of_ble_eq_true rfl), hRl _ (Nat.le_of_ble_eq_true rfl)⟩) hK hN hP [] rfl rfl hl.1 rfl (Nat.le_of_ble_eq_true rfl) dX8_compare_35 ⟨Nat.zero_le _, Nat.zero_le _⟩ (fun r35 ho => ?_)
      refine lv_iload_n hx hb dX8_compare_38 rfl (lv_at hl 1 rfl) ?_
      refine lv_iadd hx hb dX8_compare_39 ?_
      refine lv_istore (lv' := [(6, .int (r35 + p2)), (0, .long p1), (2, .int p2), (3, .long p3), (5, .int p4)]) hx hb dX8_compare_40 hl (by decide) rfl (fun ls hl => ?_)
      refine lv_lload_n hx hb dX8_compare_42 rfl (lv_at hl 3 rfl) ?_
      refine ca_Si (As := [.long p3]) (rest := []) ⟨hx, hb, hml, hown, hts⟩ (c_X8_bits l D cI cJ cZ   p3 _ ho) (va_cwS 1 hts gX8_compare_X8_bits rfl rfl rfl (by decide +kernel) ⟨hRf _ (Nat.le_of_ble_eq_true rfl), hRl _ (Nat.le_of_ble_eq_true rfl)⟩) hK hN hP [] rfl rfl hl.1 rfl (Nat.le_of_ble_eq_true rfl) dX8_compare_43 ⟨Nat.zero_le _, Nat.zero_le _⟩ (fun r43 ho => ?_)
      refine lv_iload hx hb dX8_compare_46 (lv_at hl 4 rfl) ?_
      refine lv_iadd hx hb dX8_compare_48 ?_
      refine lv_istore (lv' := [(7, .int (r43 + p4)), (6, .int (r35 + p2)), (0, .long p1), (2, .int p2), (3, .long p3), (5, .int p4)]) hx hb dX8_compare_49 hl (by decide) rfl (fun ls hl => ?_)
      refine lv_iload hx hb dX8_compare_51 (lv_at hl 1 rfl) ?_
      refine lv_iload hx hb dX8_compare_53 (lv_at hl 0 rfl) ?_
      refine lv_icmp_eq (tgt := 71) hx hb dX8_compare_55 (by decide) (fun c_55 => ?_) (fun c_55 => ?_)
      · replace ho := ho.1 c_55
        refine lv_iload_n hx hb dX8_compare_71 rfl (lv_at hl 3 rfl) ?_
        refine lv_iload hx hb dX8_compare_72 (lv_at hl 5 rfl) ?_
        refine lv_icmp_le (tgt := 86) hx hb dX8_compare_74 (by decide) (fun c_74 => ?_) (fun c_74 => ?_)
        · replace ho := ho.1 c_74
          refine lv_lload_n hx hb dX8_compare_86 rfl (lv_at hl 2 rfl) ?_
          exact C_87 p1 ls ho (lv_sub hl [3, 4, 5] rfl)
        · replace ho := ho.2 c_74
          refine lv_lload_n hx hb dX8_compare_77 rfl (lv_at hl 2 rfl) ?_
          refine lv_iload_n hx hb dX8_compare_78 rfl (lv_at hl 3 rfl) ?_
          refine lv_iload hx hb dX8_compare_79 (lv_at hl 5 rfl) ?_
          refine lv_isub hx hb dX8_compare_81 ?_
          refine lv_lshl hx hb dX8_compare_82 rfl ?_
          refine lv_goto (tgt := 87) hx hb dX8_compare_83 (by decide) ?_
          exact C_87 (p1 <<< ((p2 - p4).toInt64 &&& 63)) ls ho (lv_sub hl [3, 4, 5] rfl)
      · replace ho := ho.2 c_55
        refine lv_iload hx hb dX8_compare_58 (lv_at hl 1 rfl) ?_
        refine lv_iload hx hb dX8_compare_60 (lv_at hl 0 rfl) ?_
        refine lv_icmp_ge (tgt := 69) hx hb dX8_compare_62 (by decide) (fun c_62 => ?_) (fun c_62 => ?_)
        · replace ho := ho.1 c_62
          refine lv_iconst (v := 1) hx hb dX8_compare_69 (by decide) ?_
          subst hQ; exact W.iret (v := (1 : Int32)) hx hb hr (fun t ht _ => ⟨(1 : Int32), rfl, ho, ht⟩) (fun _ h => by cases h) dX8_compare_70
        · replace ho := ho.2 c_62
          refine lv_iconst (v := (-1)) hx hb dX8_compare_65 (by decide) ?_
          refine lv_goto (tgt := 70) hx hb dX8_compare_66 (by decide) ?_
          subst hQ; exact W.iret (v := (-1 : Int32)) hx hb hr (fun t ht _ => ⟨(-1 : Int32), rfl, ho, ht⟩) (fun _ h => by cases h) dX8_compare_70
    · replace ho := ho.2 c_9
      exact C_12  ls ho (lv_sub hl [0, 2] rfl)

def wp_X8_stands (post : Int32 → Prop) (mo_function : Int32) (mo_atX : Int32) (mo_atM : Int64) (p1 : Int64) (p2 : Int32) : Prop := ((mo_function = (0 : Int32)) → (wp_X8_compare (fun r54 => (post r54)) (1 : Int64) (0 : Int32) (mo_atM * p1) (mo_atX + p2))) ∧ ((¬ (mo_function = (0 : Int32))) → (((mo_function = (1 : Int32)) → (wp_X8_compare (fun r72 => (post r72)) mo_atM mo_atX (p1 * p1) ((2 : Int32) * p2))) ∧ ((¬ (mo_function = (1 : Int32))) → (((mo_function = (2 : Int32)) → (wp_X8_compare (fun r92 => (post r92)) mo_atM mo_atX ((p1 * p1) * p1) ((3 : Int32) * p2))) ∧ ((¬ (mo_function = (2 : Int32))) → (((mo_function = (3 : Int32)) → (wp_X8_compare (fun r113 => (post r113)) (mo_atM * mo_atM) ((2 : Int32) * mo_atX) p1 p2)) ∧ ((¬ (mo_function = (3 : Int32))) → (((mo_function = (4 : Int32)) → (wp_X8_compare (fun r139 => (post r139)) ((mo_atM * mo_atM) * mo_atM) ((3 : Int32) * mo_atX) p1 p2)) ∧ ((¬ (mo_function = (4 : Int32))) → (wp_X8_compare (fun r153 => (post r153)) mo_atM mo_atX p1 p2))))))))))
set_option maxRecDepth 20000 in
theorem in_X8_stands_X8 : ∀ w ∈ u_ws RX8 TX8 25, w ∈ wsX8_stands := fun w h => (goodIn_r wsX80 [11, 12, 13, 14, 15, 16, 17, 18, 19, 20, 21, 22, 23, 24, 25, 26, 27, 28, 29, 30, 31, 32, 33, 34, 35] (by decide +kernel) (by decide +kernel) w h).1
set_option maxHeartbeats 4000000 in
set_option maxRecDepth 100000 in
theorem c_X8_stands (l : Launch) (D : va_G) (cI cJ cZ : ClassId) (a_mo : Nat) (a_moR : Nat) (a_moK : Nat) (a_moH : Nat) (a_moS : Nat) (a_moF : Nat) (a_moT : Nat) (a_moP : Nat) (a_moQ : Nat) (a_moA : Nat) (a_moB : Nat) (a_moD : Nat) (mo_e : Int32) (mo_f : Int32) (mo_codes : Int32) (mo_most : Int32) (mo_minus : Int32) (mo_low : Int32) (mo_function : Int32) (mo_atX : Int32) (mo_atM : Int64) (mo_spanFunction : Int32) (mo_spanRounding : Int32) (mo_spanMany : Int32) (mo_parts : Int32) (mo_shift : Int32) (p1 : Int64) (p2 : Int32) (post : Int32 → Prop) (ho : wp_X8_stands post mo_function mo_atX mo_atM p1 p2) : Met l yX8_stands wsX8_stands ({ frames := 2, cells := 0, slots := 0, locals := 55 } : Room) (ro_P D [(cI, .int), (cJ, .long), (cZ, .boolean)] [.ref a_mo, .long p1, .int p2] [(a_mo, oX8 a_moR mo_e mo_f mo_codes mo_most mo_minus mo_low mo_function mo_atX mo_atM a_moK a_moH a_moS mo_spanFunction mo_spanRounding mo_spanMany a_moF a_moT mo_parts mo_shift a_moP a_moQ a_moA a_moB a_moD)]) (vp_Si post) 0 0 (fun _ => False) := by
  refine Met.ofW (cc := cX8_stands) (maxL := 4) (ret := (some .int)) (by decide) rfl ?_
  intro p e s m args below meth c s₁ B hml hv
  obtain ⟨hargs, hP, hK, hN⟩ := hv
  have hx := B.exec
  have hb := B.bytes
  have hr := B.returns
  have hts := atoms_spec (ws := wsX8_stands) B.pre
  have hown : s.vm.findClass RX8 = some m.cls := findClass_of_methodNamed B.named
  have hlocks := B.notSynchronized
  have hl := lv_entry ([.ref a_mo, .long p1, .int p2]) (n := 4) (Nat.le_of_ble_eq_true rfl)
  rw [hargs, lg_entry_eq, ← hargs]
  generalize (lg_sl ([.ref a_mo, .long p1, .int p2]) ++ List.replicate (4 - (lg_sl ([.ref a_mo, .long p1, .int p2])).length) Slot.unset).toArray = ls at hl ⊢
  replace hl : lv_has ls 4 [(0, .ref a_mo), (1, .long p1), (3, .int p2)] := hl
  have hRf : ∀ n, n ≤ 2 → n ≤ (headSpec wsX8_stands ({ frames := 2, cells := 0, slots := 0, locals := 55 } : Room)).room.frames := fun n h => h
  have hRl : ∀ n, n ≤ 55 → n ≤ (headSpec wsX8_stands ({ frames := 2, cells := 0, slots := 0, locals := 55 } : Room)).room.locals := fun n h => h
  generalize (headSpec wsX8_stands ({ frames := 2, cells := 0, slots := 0, locals := 55 } : Room)).room = R at hRf hRl ⊢
  generalize hQ : MQ below _ args s 0 0 _ = Q
  unfold wp_X8_stands at ho
  refine lv_aload_n hx hb dX8_stands_0 rfl (lv_at hl 0 rfl) ?_
  refine va_get (D := D) (ci := 7) (v := .int mo_function) (C := RX8) (T := TX8) (N := 25) hx hb hts in_X8_stands_X8 hown hK hP 0 rfl rfl 7 (by decide) (hts (.fieldLink RX8 118 "HardBenchModel" "function" "I") (List.mem_of_getElem? (i := 1) (by decide +kernel))) (fun _ h9 => h9) rfl dX8_stands_1 ?_
  refine lv_topi (fun z_4 ez_4 => ?_)
  rw [← ez_4] at ho
  by_cases n_4_0 : z_4 = 0
  · replace ho := ho.1 n_4_0
    subst n_4_0
    refine lv_tableIn (tgt := 40) hx hb dX8_stands_4 (by decide) (by decide) rfl (by decide) ?_
    refine lv_lconst (v := 1) hx hb dX8_stands_40 (by decide) ?_
    refine lv_iconst (v := 0) hx hb dX8_stands_41 (by decide) ?_
    refine lv_aload_n hx hb dX8_stands_42 rfl (lv_at hl 0 rfl) ?_
    refine va_get (D := D) (ci := 7) (v := .long mo_atM) (C := RX8) (T := TX8) (N := 25) hx hb hts in_X8_stands_X8 hown hK hP 0 rfl rfl 9 (by decide) (hts (.fieldLink RX8 121 "HardBenchModel" "atM" "J") (List.mem_of_getElem? (i := 2) (by decide +kernel))) (fun _ h9 => h9) rfl dX8_stands_43 ?_
    refine lv_lload_n hx hb dX8_stands_46 rfl (lv_at hl 1 rfl) ?_
    refine lv_lmul hx hb dX8_stands_47 ?_
    refine lv_aload_n hx hb dX8_stands_48 rfl (lv_at hl 0 rfl) ?_
    refine va_get (D := D) (ci := 7) (v := .int mo_atX) (C := RX8) (T := TX8) (N := 25) hx hb hts in_X8_stands_X8 hown hK hP 0 rfl rfl 8 (by decide) (hts (.fieldLink RX8 125 "HardBenchModel" "atX" "I") (List.mem_of_getElem? (i := 3) (by decide +kernel))) (fun _ h9 => h9) rfl dX8_stands_49 ?_
    refine lv_iload_n hx hb dX8_stands_52 rfl (lv_at hl 2 rfl) ?_
    refine lv_iadd hx hb dX8_stands_53 ?_
    refine ca_Si (As := [.long (1 : Int64), .int (0 : Int32), .long (mo_atM * p1), .int (mo_atX + p2)]) (rest := []) ⟨hx, hb, hml, hown, hts⟩ (c_X8_compare l D cI cJ cZ   (1 : Int64) (0 : Int32) (mo_atM * p1) (mo_atX + p2) _ ho) (va_cwS 4 hts gX8_stands_X8_compare rfl rfl rfl (by decide +kernel) ⟨hRf _ (Nat.le_of_ble_eq_true rfl), hRl _ (Nat.le_of_ble_eq_true rfl)⟩) hK hN hP [] rfl rfl hl.1 rfl (Nat.le_of_ble_eq_true rfl) dX8_stands_54 ⟨Nat.zero_le _, Nat.zero_le _⟩ (fun r54 ho => ?_)
    subst hQ; exact W.iret (v := r54) hx hb hr (fun t ht _ => ⟨r54, rfl, ho, ht⟩) (fun _ h => by cases h) dX8_stands_57
  replace ho := ho.2 n_4_0
  by_cases n_4_1 : z_4 = 1
  · replace ho := ho.1 n_4_1
    subst n_4_1
    refine lv_tableIn (tgt := 58) hx hb dX8_stands_4 (by decide) (by decide) rfl (by decide) ?_
    refine lv_aload_n hx hb dX8_stands_58 rfl (lv_at hl 0 rfl) ?_
    refine va_get (D := D) (ci := 7) (v := .long mo_atM) (C := RX8) (T := TX8) (N := 25) hx hb hts in_X8_stands_X8 hown hK hP 0 rfl rfl 9 (by decide) (hts (.fieldLink RX8 121 "HardBenchModel" "atM" "J") (List.mem_of_getElem? (i := 2) (by decide +kernel))) (fun _ h9 => h9) rfl dX8_stands_59 ?_
    refine lv_aload_n hx hb dX8_stands_62 rfl (lv_at hl 0 rfl) ?_
    refine va_get (D := D) (ci := 7) (v := .int mo_atX) (C := RX8) (T := TX8) (N := 25) hx hb hts in_X8_stands_X8 hown hK hP 0 rfl rfl 8 (by decide) (hts (.fieldLink RX8 125 "HardBenchModel" "atX" "I") (List.mem_of_getElem? (i := 3) (by decide +kernel))) (fun _ h9 => h9) rfl dX8_stands_63 ?_
    refine lv_lload_n hx hb dX8_stands_66 rfl (lv_at hl 1 rfl) ?_
    refine lv_lload_n hx hb dX8_stands_67 rfl (lv_at hl 1 rfl) ?_
    refine lv_lmul hx hb dX8_stands_68 ?_
    refine lv_iconst (v := 2) hx hb dX8_stands_69 (by decide) ?_
    refine lv_iload_n hx hb dX8_stands_70 rfl (lv_at hl 2 rfl) ?_
    refine lv_imul hx hb dX8_stands_71 ?_
    refine ca_Si (As := [.long mo_atM, .int mo_atX, .long (p1 * p1), .int ((2 : Int32) * p2)]) (rest := []) ⟨hx, hb, hml, hown, hts⟩ (c_X8_compare l D cI cJ cZ   mo_atM mo_atX (p1 * p1) ((2 : Int32) * p2) _ ho) (va_cwS 4 hts gX8_stands_X8_compare rfl rfl rfl (by decide +kernel) ⟨hRf _ (Nat.le_of_ble_eq_true rfl), hRl _ (Nat.le_of_ble_eq_true rfl)⟩) hK hN hP [] rfl rfl hl.1 rfl (Nat.le_of_ble_eq_true rfl) dX8_stands_72 ⟨Nat.zero_le _, Nat.zero_le _⟩ (fun r72 ho => ?_)
    subst hQ; exact W.iret (v := r72) hx hb hr (fun t ht _ => ⟨r72, rfl, ho, ht⟩) (fun _ h => by cases h) dX8_stands_75
  replace ho := ho.2 n_4_1
  by_cases n_4_2 : z_4 = 2
  · replace ho := ho.1 n_4_2
    subst n_4_2
    refine lv_tableIn (tgt := 76) hx hb dX8_stands_4 (by decide) (by decide) rfl (by decide) ?_
    refine lv_aload_n hx hb dX8_stands_76 rfl (lv_at hl 0 rfl) ?_
    refine va_get (D := D) (ci := 7) (v := .long mo_atM) (C := RX8) (T := TX8) (N := 25) hx hb hts in_X8_stands_X8 hown hK hP 0 rfl rfl 9 (by decide) (hts (.fieldLink RX8 121 "HardBenchModel" "atM" "J") (List.mem_of_getElem? (i := 2) (by decide +kernel))) (fun _ h9 => h9) rfl dX8_stands_77 ?_
    refine lv_aload_n hx hb dX8_stands_80 rfl (lv_at hl 0 rfl) ?_
    refine va_get (D := D) (ci := 7) (v := .int mo_atX) (C := RX8) (T := TX8) (N := 25) hx hb hts in_X8_stands_X8 hown hK hP 0 rfl rfl 8 (by decide) (hts (.fieldLink RX8 125 "HardBenchModel" "atX" "I") (List.mem_of_getElem? (i := 3) (by decide +kernel))) (fun _ h9 => h9) rfl dX8_stands_81 ?_
    refine lv_lload_n hx hb dX8_stands_84 rfl (lv_at hl 1 rfl) ?_
    refine lv_lload_n hx hb dX8_stands_85 rfl (lv_at hl 1 rfl) ?_
    refine lv_lmul hx hb dX8_stands_86 ?_
    refine lv_lload_n hx hb dX8_stands_87 rfl (lv_at hl 1 rfl) ?_
    refine lv_lmul hx hb dX8_stands_88 ?_
    refine lv_iconst (v := 3) hx hb dX8_stands_89 (by decide) ?_
    refine lv_iload_n hx hb dX8_stands_90 rfl (lv_at hl 2 rfl) ?_
    refine lv_imul hx hb dX8_stands_91 ?_
    refine ca_Si (As := [.long mo_atM, .int mo_atX, .long ((p1 * p1) * p1), .int ((3 : Int32) * p2)]) (rest := []) ⟨hx, hb, hml, hown, hts⟩ (c_X8_compare l D cI cJ cZ   mo_atM mo_atX ((p1 * p1) * p1) ((3 : Int32) * p2) _ ho) (va_cwS 4 hts gX8_stands_X8_compare rfl rfl rfl (by decide +kernel) ⟨hRf _ (Nat.le_of_ble_eq_true rfl), hRl _ (Nat.le_of_ble_eq_true rfl)⟩) hK hN hP [] rfl rfl hl.1 rfl (Nat.le_of_ble_eq_true rfl) dX8_stands_92 ⟨Nat.zero_le _, Nat.zero_le _⟩ (fun r92 ho => ?_)
    subst hQ; exact W.iret (v := r92) hx hb hr (fun t ht _ => ⟨r92, rfl, ho, ht⟩) (fun _ h => by cases h) dX8_stands_95
  replace ho := ho.2 n_4_2
  by_cases n_4_3 : z_4 = 3
  · replace ho := ho.1 n_4_3
    subst n_4_3
    refine lv_tableIn (tgt := 96) hx hb dX8_stands_4 (by decide) (by decide) rfl (by decide) ?_
    refine lv_aload_n hx hb dX8_stands_96 rfl (lv_at hl 0 rfl) ?_
    refine va_get (D := D) (ci := 7) (v := .long mo_atM) (C := RX8) (T := TX8) (N := 25) hx hb hts in_X8_stands_X8 hown hK hP 0 rfl rfl 9 (by decide) (hts (.fieldLink RX8 121 "HardBenchModel" "atM" "J") (List.mem_of_getElem? (i := 2) (by decide +kernel))) (fun _ h9 => h9) rfl dX8_stands_97 ?_
    refine lv_aload_n hx hb dX8_stands_100 rfl (lv_at hl 0 rfl) ?_
    refine va_get (D := D) (ci := 7) (v := .long mo_atM) (C := RX8) (T := TX8) (N := 25) hx hb hts in_X8_stands_X8 hown hK hP 0 rfl rfl 9 (by decide) (hts (.fieldLink RX8 121 "HardBenchModel" "atM" "J") (List.mem_of_getElem? (i := 2) (by decide +kernel))) (fun _ h9 => h9) rfl dX8_stands_101 ?_
    refine lv_lmul hx hb dX8_stands_104 ?_
    refine lv_iconst (v := 2) hx hb dX8_stands_105 (by decide) ?_
    refine lv_aload_n hx hb dX8_stands_106 rfl (lv_at hl 0 rfl) ?_
    refine va_get (D := D) (ci := 7) (v := .int mo_atX) (C := RX8) (T := TX8) (N := 25) hx hb hts in_X8_stands_X8 hown hK hP 0 rfl rfl 8 (by decide) (hts (.fieldLink RX8 125 "HardBenchModel" "atX" "I") (List.mem_of_getElem? (i := 3) (by decide +kernel))) (fun _ h9 => h9) rfl dX8_stands_107 ?_
    refine lv_imul hx hb dX8_stands_110 ?_
    refine lv_lload_n hx hb dX8_stands_111 rfl (lv_at hl 1 rfl) ?_
    refine lv_iload_n hx hb dX8_stands_112 rfl (lv_at hl 2 rfl) ?_
    refine ca_Si (As := [.long (mo_atM * mo_atM), .int ((2 : Int32) * mo_atX), .long p1, .int p2]) (rest := []) ⟨hx, hb, hml, hown, hts⟩ (c_X8_compare l D cI cJ cZ   (mo_atM * mo_atM) ((2 : Int32) * mo_atX) p1 p2 _ ho) (va_cwS 4 hts gX8_stands_X8_compare rfl rfl rfl (by decide +kernel) ⟨hRf _ (Nat.le_of_ble_eq_true rfl), hRl _ (Nat.le_of_ble_eq_true rfl)⟩) hK hN hP [] rfl rfl hl.1 rfl (Nat.le_of_ble_eq_true rfl) dX8_stands_113 ⟨Nat.zero_le _, Nat.zero_le _⟩ (fun r113 ho => ?_)
    subst hQ; exact W.iret (v := r113) hx hb hr (fun t ht _ => ⟨r113, rfl, ho, ht⟩) (fun _ h => by cases h) dX8_stands_116
  replace ho := ho.2 n_4_3
  by_cases n_4_4 : z_4 = 4
  · replace ho := ho.1 n_4_4
    subst n_4_4
    refine lv_tableIn (tgt := 117) hx hb dX8_stands_4 (by decide) (by decide) rfl (by decide) ?_
    refine lv_aload_n hx hb dX8_stands_117 rfl (lv_at hl 0 rfl) ?_
    refine va_get (D := D) (ci := 7) (v := .long mo_atM) (C := RX8) (T := TX8) (N := 25) hx hb hts in_X8_stands_X8 hown hK hP 0 rfl rfl 9 (by decide) (hts (.fieldLink RX8 121 "HardBenchModel" "atM" "J") (List.mem_of_getElem? (i := 2) (by decide +kernel))) (fun _ h9 => h9) rfl dX8_stands_118 ?_
    refine lv_aload_n hx hb dX8_stands_121 rfl (lv_at hl 0 rfl) ?_
    refine va_get (D := D) (ci := 7) (v := .long mo_atM) (C := RX8) (T := TX8) (N := 25) hx hb hts in_X8_stands_X8 hown hK hP 0 rfl rfl 9 (by decide) (hts (.fieldLink RX8 121 "HardBenchModel" "atM" "J") (List.mem_of_getElem? (i := 2) (by decide +kernel))) (fun _ h9 => h9) rfl dX8_stands_122 ?_
    refine lv_lmul hx hb dX8_stands_125 ?_
    refine lv_aload_n hx hb dX8_stands_126 rfl (lv_at hl 0 rfl) ?_
    refine va_get (D := D) (ci := 7) (v := .long mo_atM) (C := RX8) (T := TX8) (N := 25) hx hb hts in_X8_stands_X8 hown hK hP 0 rfl rfl 9 (by decide) (hts (.fieldLink RX8 121 "HardBenchModel" "atM" "J") (List.mem_of_getElem? (i := 2) (by decide +kernel))) (fun _ h9 => h9) rfl dX8_stands_127 ?_
    refine lv_lmul hx hb dX8_stands_130 ?_
    refine lv_iconst (v := 3) hx hb dX8_stands_131 (by decide) ?_
    refine lv_aload_n hx hb dX8_stands_132 rfl (lv_at hl 0 rfl) ?_
    refine va_get (D := D) (ci := 7) (v := .int mo_atX) (C := RX8) (T := TX8) (N := 25) hx hb hts in_X8_stands_X8 hown hK hP 0 rfl rfl 8 (by decide) (hts (.fieldLink RX8 125 "HardBenchModel" "atX" "I") (List.mem_of_getElem? (i := 3) (by decide +kernel))) (fun _ h9 => h9) rfl dX8_stands_133 ?_
    refine lv_imul hx hb dX8_stands_136 ?_
    refine lv_lload_n hx hb dX8_stands_137 rfl (lv_at hl 1 rfl) ?_
    refine lv_iload_n hx hb dX8_stands_138 rfl (lv_at hl 2 rfl) ?_
    refine ca_Si (As := [.long ((mo_atM * mo_atM) * mo_atM), .int ((3 : Int32) * mo_atX), .long p1, .int p2]) (rest := []) ⟨hx, hb, hml, hown, hts⟩ (c_X8_compare l D cI cJ cZ   ((mo_atM * mo_atM) * mo_atM) ((3 : Int32) * mo_atX) p1 p2 _ ho) (va_cwS 4 hts gX8_stands_X8_compare rfl rfl rfl (by decide +kernel) ⟨hRf _ (Nat.le_of_ble_eq_true rfl), hRl _ (Nat.le_of_ble_eq_true rfl)⟩) hK hN hP [] rfl rfl hl.1 rfl (Nat.le_of_ble_eq_true rfl) dX8_stands_139 ⟨Nat.zero_le _, Nat.zero_le _⟩ (fun r139 ho => ?_)
    subst hQ; exact W.iret (v := r139) hx hb hr (fun t ht _ => ⟨r139, rfl, ho, ht⟩) (fun _ h => by cases h) dX8_stands_142
  replace ho := ho.2 n_4_4
  refine lv_tableOut (tgt := 143) hx hb dX8_stands_4 (by have q_4_0 := lv_neT (a := 0) n_4_0 rfl; have q_4_1 := lv_neT (a := 1) n_4_1 rfl; have q_4_2 := lv_neT (a := 2) n_4_2 rfl; have q_4_3 := lv_neT (a := 3) n_4_3 rfl; have q_4_4 := lv_neT (a := 4) n_4_4 rfl; omega) (by decide) ?_
  refine lv_aload_n hx hb dX8_stands_143 rfl (lv_at hl 0 rfl) ?_
  refine va_get (D := D) (ci := 7) (v := .long mo_atM) (C := RX8) (T := TX8) (N := 25) hx hb hts in_X8_stands_X8 hown hK hP 0 rfl rfl 9 (by decide) (hts (.fieldLink RX8 121 "HardBenchModel" "atM" "J") (List.mem_of_getElem? (i := 2) (by decide +kernel))) (fun _ h9 => h9) rfl dX8_stands_144 ?_
  refine lv_aload_n hx hb dX8_stands_147 rfl (lv_at hl 0 rfl) ?_
  refine va_get (D := D) (ci := 7) (v := .int mo_atX) (C := RX8) (T := TX8) (N := 25) hx hb hts in_X8_stands_X8 hown hK hP 0 rfl rfl 8 (by decide) (hts (.fieldLink RX8 125 "HardBenchModel" "atX" "I") (List.mem_of_getElem? (i := 3) (by decide +kernel))) (fun _ h9 => h9) rfl dX8_stands_148 ?_
  refine lv_lload_n hx hb dX8_stands_151 rfl (lv_at hl 1 rfl) ?_
  refine lv_iload_n hx hb dX8_stands_152 rfl (lv_at hl 2 rfl) ?_
  refine ca_Si (As := [.long mo_atM, .int mo_atX, .long p1, .int p2]) (rest := []) ⟨hx, hb, hml, hown, hts⟩ (c_X8_compare l D cI cJ cZ   mo_atM mo_atX p1 p2 _ ho) (va_cwS 4 hts gX8_stands_X8_compare rfl rfl rfl (by decide +kernel) ⟨hRf _ (Nat.le_of_ble_eq_true rfl), hRl _ (Nat.le_of_ble_eq_true rfl)⟩) hK hN hP [] rfl rfl hl.1 rfl (Nat.le_of_ble_eq_true rfl) dX8_stands_153 ⟨Nat.zero_le _, Nat.zero_le _⟩ (fun r153 ho => ?_)
  subst hQ; exact W.iret (v := r153) hx hb hr (fun t ht _ => ⟨r153, rfl, ho, ht⟩) (fun _ h => by cases h) dX8_stands_156
