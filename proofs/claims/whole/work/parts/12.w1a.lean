def wp_X1_amount (post : Int32 → Prop) (fl_signBit : Int32) (p1 : Int32) : Prop := post (p1 &&& (fl_signBit - (1 : Int32)))
set_option maxRecDepth 20000 in
theorem in_X1_amount_X1 : ∀ w ∈ u_ws RX1 TX1 6, w ∈ wsX1_amount := fun w h => (goodIn_r wsX10 [2, 3, 4, 5, 6, 7] (by decide +kernel) (by decide +kernel) w h).1
set_option maxHeartbeats 4000000 in
set_option maxRecDepth 100000 in
theorem c_X1_amount (l : Launch) (D : va_G) (cI cJ cZ : ClassId) (a_fl : Nat) (fl_e : Int32) (fl_f : Int32) (fl_bias : Int32) (fl_codes : Int32) (fl_signBit : Int32) (fl_endless : Int32) (p1 : Int32) (post : Int32 → Prop) (ho : wp_X1_amount post fl_signBit p1) : Met l yX1_amount wsX1_amount ({ frames := 0, cells := 0, slots := 0, locals := 0 } : Room) (ro_P D [(cI, .int), (cJ, .long), (cZ, .boolean)] [.ref a_fl, .int p1] [(a_fl, oX1 fl_e fl_f fl_bias fl_codes fl_signBit fl_endless)]) (vp_Si post) 0 0 (fun _ => False) := by
  refine Met.ofW (cc := cX1_amount) (maxL := 2) (ret := (some .int)) (by decide) rfl ?_
  intro p e s m args below meth c s₁ B hml hv
  obtain ⟨hargs, hP, hK, hN⟩ := hv
  have hx := B.exec
  have hb := B.bytes
  have hr := B.returns
  have hts := atoms_spec (ws := wsX1_amount) B.pre
  have hown : s.vm.findClass RX1 = some m.cls := findClass_of_methodNamed B.named
  have hlocks := B.notSynchronized
  have hl := lv_entry ([.ref a_fl, .int p1]) (n := 2) (Nat.le_of_ble_eq_true rfl)
  rw [hargs, lg_entry_eq, ← hargs]
  generalize (lg_sl ([.ref a_fl, .int p1]) ++ List.replicate (2 - (lg_sl ([.ref a_fl, .int p1])).length) Slot.unset).toArray = ls at hl ⊢
  replace hl : lv_has ls 2 [(0, .ref a_fl), (1, .int p1)] := hl
  have hRf : ∀ n, n ≤ 0 → n ≤ (headSpec wsX1_amount ({ frames := 0, cells := 0, slots := 0, locals := 0 } : Room)).room.frames := fun n h => h
  have hRl : ∀ n, n ≤ 0 → n ≤ (headSpec wsX1_amount ({ frames := 0, cells := 0, slots := 0, locals := 0 } : Room)).room.locals := fun n h => h
  generalize (headSpec wsX1_amount ({ frames := 0, cells := 0, slots := 0, locals := 0 } : Room)).room = R at hRf hRl ⊢
  generalize hQ : MQ below _ args s 0 0 _ = Q
  unfold wp_X1_amount at ho
  refine lv_iload_n hx hb dX1_amount_0 rfl (lv_at hl 1 rfl) ?_
  refine lv_aload_n hx hb dX1_amount_1 rfl (lv_at hl 0 rfl) ?_
  refine va_get (D := D) (ci := 1) (v := .int fl_signBit) (C := RX1) (T := TX1) (N := 6) hx hb hts in_X1_amount_X1 hown hK hP 0 rfl rfl 4 (by decide) (hts (.fieldLink RX1 26 "HardBench$Floats" "signBit" "I") (List.mem_of_getElem? (i := 1) (by decide +kernel))) (fun _ h9 => h9) rfl dX1_amount_2 ?_
  refine lv_iconst (v := 1) hx hb dX1_amount_5 (by decide) ?_
  refine lv_isub hx hb dX1_amount_6 ?_
  refine lv_iand hx hb dX1_amount_7 ?_
  subst hQ; exact W.iret (v := (p1 &&& (fl_signBit - (1 : Int32)))) hx hb hr (fun t ht _ => ⟨(p1 &&& (fl_signBit - (1 : Int32))), rfl, ho, ht⟩) (fun _ h => by cases h) dX1_amount_8

def wp_X1_isZero (post : Int32 → Prop) (fl_signBit : Int32) (p1 : Int32) : Prop := wp_X1_amount (fun r2 => (((¬ r2 = 0) → (post (0 : Int32))) ∧ ((¬ (¬ r2 = 0)) → (post (1 : Int32))))) fl_signBit p1
set_option maxHeartbeats 4000000 in
set_option maxRecDepth 100000 in
theorem c_X1_isZero (l : Launch) (D : va_G) (cI cJ cZ : ClassId) (a_fl : Nat) (fl_e : Int32) (fl_f : Int32) (fl_bias : Int32) (fl_codes : Int32) (fl_signBit : Int32) (fl_endless : Int32) (p1 : Int32) (post : Int32 → Prop) (ho : wp_X1_isZero post fl_signBit p1) : Met l yX1_isZero wsX1_isZero ({ frames := 1, cells := 0, slots := 0, locals := 21 } : Room) (ro_P D [(cI, .int), (cJ, .long), (cZ, .boolean)] [.ref a_fl, .int p1] [(a_fl, oX1 fl_e fl_f fl_bias fl_codes fl_signBit fl_endless)]) (vp_Si post) 0 0 (fun _ => False) := by
  refine Met.ofW (cc := cX1_isZero) (maxL := 2) (ret := (some .boolean)) (by decide) rfl ?_
  intro p e s m args below meth c s₁ B hml hv
  obtain ⟨hargs, hP, hK, hN⟩ := hv
  have hx := B.exec
  have hb := B.bytes
  have hr := B.returns
  have hts := atoms_spec (ws := wsX1_isZero) B.pre
  have hown : s.vm.findClass RX1 = some m.cls := findClass_of_methodNamed B.named
  have hlocks := B.notSynchronized
  have hl := lv_entry ([.ref a_fl, .int p1]) (n := 2) (Nat.le_of_ble_eq_true rfl)
  rw [hargs, lg_entry_eq, ← hargs]
  generalize (lg_sl ([.ref a_fl, .int p1]) ++ List.replicate (2 - (lg_sl ([.ref a_fl, .int p1])).length) Slot.unset).toArray = ls at hl ⊢
  replace hl : lv_has ls 2 [(0, .ref a_fl), (1, .int p1)] := hl
  have hRf : ∀ n, n ≤ 1 → n ≤ (headSpec wsX1_isZero ({ frames := 1, cells := 0, slots := 0, locals := 21 } : Room)).room.frames := fun n h => h
  have hRl : ∀ n, n ≤ 21 → n ≤ (headSpec wsX1_isZero ({ frames := 1, cells := 0, slots := 0, locals := 21 } : Room)).room.locals := fun n h => h
  generalize (headSpec wsX1_isZero ({ frames := 1, cells := 0, slots := 0, locals := 21 } : Room)).room = R at hRf hRl ⊢
  generalize hQ : MQ below _ args s 0 0 _ = Q
  unfold wp_X1_isZero at ho
  refine lv_aload_n hx hb dX1_isZero_0 rfl (lv_at hl 0 rfl) ?_
  refine lv_iload_n hx hb dX1_isZero_1 rfl (lv_at hl 1 rfl) ?_
  refine ca_Vi (b := a_fl) (As := [.int p1]) (rest := []) ⟨hx, hb, hml, hown, hts⟩ (c_X1_amount l D cI cJ cZ a_fl fl_e fl_f fl_bias fl_codes fl_signBit fl_endless p1 _ ho) (cwV 1 hts gX1_isZero_X1_amount rfl rfl rfl (by decide +kernel) ⟨hRf _ (Nat.le_of_ble_eq_true rfl), hRl _ (Nat.le_of_ble_eq_true rfl)⟩) hK hN hP [0] rfl 0 1 rfl rfl rfl rfl hl.1 rfl (Nat.le_of_ble_eq_true rfl) dX1_isZero_2 ⟨Nat.zero_le _, Nat.zero_le _⟩ (fun r2 ho => ?_)
  refine lv_if_ne (tgt := 12) hx hb dX1_isZero_5 (by decide) (fun c_5 => ?_) (fun c_5 => ?_)
  · replace ho := ho.1 c_5
    refine lv_iconst (v := 0) hx hb dX1_isZero_12 (by decide) ?_
    subst hQ; exact W.zret (v := (0 : Int32)) hx hb hr rfl (fun t ht _ => ⟨(0 : Int32), rfl, ho, ht⟩) (fun _ h => by cases h) dX1_isZero_13
  · replace ho := ho.2 c_5
    refine lv_iconst (v := 1) hx hb dX1_isZero_8 (by decide) ?_
    refine lv_goto (tgt := 13) hx hb dX1_isZero_9 (by decide) ?_
    subst hQ; exact W.zret (v := (1 : Int32)) hx hb hr rfl (fun t ht _ => ⟨(1 : Int32), rfl, ho, ht⟩) (fun _ h => by cases h) dX1_isZero_13

def wp_X1_isBelow (post : Int32 → Prop) (fl_signBit : Int32) (p1 : Int32) : Prop := (((p1 &&& fl_signBit) = 0) → (post (0 : Int32))) ∧ ((¬ ((p1 &&& fl_signBit) = 0)) → (post (1 : Int32)))
set_option maxRecDepth 20000 in
theorem in_X1_isBelow_X1 : ∀ w ∈ u_ws RX1 TX1 6, w ∈ wsX1_isBelow := fun w h => (goodIn_r wsX10 [2, 3, 4, 5, 6, 7] (by decide +kernel) (by decide +kernel) w h).1
set_option maxHeartbeats 4000000 in
set_option maxRecDepth 100000 in
theorem c_X1_isBelow (l : Launch) (D : va_G) (cI cJ cZ : ClassId) (a_fl : Nat) (fl_e : Int32) (fl_f : Int32) (fl_bias : Int32) (fl_codes : Int32) (fl_signBit : Int32) (fl_endless : Int32) (p1 : Int32) (post : Int32 → Prop) (ho : wp_X1_isBelow post fl_signBit p1) : Met l yX1_isBelow wsX1_isBelow ({ frames := 0, cells := 0, slots := 0, locals := 0 } : Room) (ro_P D [(cI, .int), (cJ, .long), (cZ, .boolean)] [.ref a_fl, .int p1] [(a_fl, oX1 fl_e fl_f fl_bias fl_codes fl_signBit fl_endless)]) (vp_Si post) 0 0 (fun _ => False) := by
  refine Met.ofW (cc := cX1_isBelow) (maxL := 2) (ret := (some .boolean)) (by decide) rfl ?_
  intro p e s m args below meth c s₁ B hml hv
  obtain ⟨hargs, hP, hK, hN⟩ := hv
  have hx := B.exec
  have hb := B.bytes
  have hr := B.returns
  have hts := atoms_spec (ws := wsX1_isBelow) B.pre
  have hown : s.vm.findClass RX1 = some m.cls := findClass_of_methodNamed B.named
  have hlocks := B.notSynchronized
  have hl := lv_entry ([.ref a_fl, .int p1]) (n := 2) (Nat.le_of_ble_eq_true rfl)
  rw [hargs, lg_entry_eq, ← hargs]
  generalize (lg_sl ([.ref a_fl, .int p1]) ++ List.replicate (2 - (lg_sl ([.ref a_fl, .int p1])).length) Slot.unset).toArray = ls at hl ⊢
  replace hl : lv_has ls 2 [(0, .ref a_fl), (1, .int p1)] := hl
  have hRf : ∀ n, n ≤ 0 → n ≤ (headSpec wsX1_isBelow ({ frames := 0, cells := 0, slots := 0, locals := 0 } : Room)).room.frames := fun n h => h
  have hRl : ∀ n, n ≤ 0 → n ≤ (headSpec wsX1_isBelow ({ frames := 0, cells := 0, slots := 0, locals := 0 } : Room)).room.locals := fun n h => h
  generalize (headSpec wsX1_isBelow ({ frames := 0, cells := 0, slots := 0, locals := 0 } : Room)).room = R at hRf hRl ⊢
  generalize hQ : MQ below _ args s 0 0 _ = Q
  unfold wp_X1_isBelow at ho
  refine lv_iload_n hx hb dX1_isBelow_0 rfl (lv_at hl 1 rfl) ?_
  refine lv_aload_n hx hb dX1_isBelow_1 rfl (lv_at hl 0 rfl) ?_
  refine va_get (D := D) (ci := 1) (v := .int fl_signBit) (C := RX1) (T := TX1) (N := 6) hx hb hts in_X1_isBelow_X1 hown hK hP 0 rfl rfl 4 (by decide) (hts (.fieldLink RX1 26 "HardBench$Floats" "signBit" "I") (List.mem_of_getElem? (i := 1) (by decide +kernel))) (fun _ h9 => h9) rfl dX1_isBelow_2 ?_
  refine lv_iand hx hb dX1_isBelow_5 ?_
  refine lv_if_eq (tgt := 13) hx hb dX1_isBelow_6 (by decide) (fun c_6 => ?_) (fun c_6 => ?_)
  · replace ho := ho.1 c_6
    refine lv_iconst (v := 0) hx hb dX1_isBelow_13 (by decide) ?_
    subst hQ; exact W.zret (v := (0 : Int32)) hx hb hr rfl (fun t ht _ => ⟨(0 : Int32), rfl, ho, ht⟩) (fun _ h => by cases h) dX1_isBelow_14
  · replace ho := ho.2 c_6
    refine lv_iconst (v := 1) hx hb dX1_isBelow_9 (by decide) ?_
    refine lv_goto (tgt := 14) hx hb dX1_isBelow_10 (by decide) ?_
    subst hQ; exact W.zret (v := (1 : Int32)) hx hb hr rfl (fun t ht _ => ⟨(1 : Int32), rfl, ho, ht⟩) (fun _ h => by cases h) dX1_isBelow_14

def wp_X1_isPlain (post : Int32 → Prop) (fl_signBit : Int32) (fl_endless : Int32) (p1 : Int32) : Prop := wp_X1_amount (fun r2 => (((fl_endless ≤ r2) → (post (0 : Int32))) ∧ ((¬ (fl_endless ≤ r2)) → (post (1 : Int32))))) fl_signBit p1
set_option maxRecDepth 20000 in
theorem in_X1_isPlain_X1 : ∀ w ∈ u_ws RX1 TX1 6, w ∈ wsX1_isPlain := fun w h => (goodIn_r wsX10 [8, 9, 10, 11, 12, 13] (by decide +kernel) (by decide +kernel) w h).1
set_option maxHeartbeats 4000000 in
set_option maxRecDepth 100000 in
theorem c_X1_isPlain (l : Launch) (D : va_G) (cI cJ cZ : ClassId) (a_fl : Nat) (fl_e : Int32) (fl_f : Int32) (fl_bias : Int32) (fl_codes : Int32) (fl_signBit : Int32) (fl_endless : Int32) (p1 : Int32) (post : Int32 → Prop) (ho : wp_X1_isPlain post fl_signBit fl_endless p1) : Met l yX1_isPlain wsX1_isPlain ({ frames := 1, cells := 0, slots := 0, locals := 21 } : Room) (ro_P D [(cI, .int), (cJ, .long), (cZ, .boolean)] [.ref a_fl, .int p1] [(a_fl, oX1 fl_e fl_f fl_bias fl_codes fl_signBit fl_endless)]) (vp_Si post) 0 0 (fun _ => False) := by
  refine Met.ofW (cc := cX1_isPlain) (maxL := 2) (ret := (some .boolean)) (by decide) rfl ?_
  intro p e s m args below meth c s₁ B hml hv
  obtain ⟨hargs, hP, hK, hN⟩ := hv
  have hx := B.exec
  have hb := B.bytes
  have hr := B.returns
  have hts := atoms_spec (ws := wsX1_isPlain) B.pre
  have hown : s.vm.findClass RX1 = some m.cls := findClass_of_methodNamed B.named
  have hlocks := B.notSynchronized
  have hl := lv_entry ([.ref a_fl, .int p1]) (n := 2) (Nat.le_of_ble_eq_true rfl)
  rw [hargs, lg_entry_eq, ← hargs]
  generalize (lg_sl ([.ref a_fl, .int p1]) ++ List.replicate (2 - (lg_sl ([.ref a_fl, .int p1])).length) Slot.unset).toArray = ls at hl ⊢
  replace hl : lv_has ls 2 [(0, .ref a_fl), (1, .int p1)] := hl
  have hRf : ∀ n, n ≤ 1 → n ≤ (headSpec wsX1_isPlain ({ frames := 1, cells := 0, slots := 0, locals := 21 } : Room)).room.frames := fun n h => h
  have hRl : ∀ n, n ≤ 21 → n ≤ (headSpec wsX1_isPlain ({ frames := 1, cells := 0, slots := 0, locals := 21 } : Room)).room.locals := fun n h => h
  generalize (headSpec wsX1_isPlain ({ frames := 1, cells := 0, slots := 0, locals := 21 } : Room)).room = R at hRf hRl ⊢
  generalize hQ : MQ below _ args s 0 0 _ = Q
  unfold wp_X1_isPlain at ho
  refine lv_aload_n hx hb dX1_isPlain_0 rfl (lv_at hl 0 rfl) ?_
  refine lv_iload_n hx hb dX1_isPlain_1 rfl (lv_at hl 1 rfl) ?_
  refine ca_Vi (b := a_fl) (As := [.int p1]) (rest := []) ⟨hx, hb, hml, hown, hts⟩ (c_X1_amount l D cI cJ cZ a_fl fl_e fl_f fl_bias fl_codes fl_signBit fl_endless p1 _ ho) (cwV 1 hts gX1_isPlain_X1_amount rfl rfl rfl (by decide +kernel) ⟨hRf _ (Nat.le_of_ble_eq_true rfl), hRl _ (Nat.le_of_ble_eq_true rfl)⟩) hK hN hP [0] rfl 0 1 rfl rfl rfl rfl hl.1 rfl (Nat.le_of_ble_eq_true rfl) dX1_isPlain_2 ⟨Nat.zero_le _, Nat.zero_le _⟩ (fun r2 ho => ?_)
  refine lv_aload_n hx hb dX1_isPlain_5 rfl (lv_at hl 0 rfl) ?_
  refine va_get (D := D) (ci := 1) (v := .int fl_endless) (C := RX1) (T := TX1) (N := 6) hx hb hts in_X1_isPlain_X1 hown hK hP 0 rfl rfl 5 (by decide) (hts (.fieldLink RX1 29 "HardBench$Floats" "endless" "I") (List.mem_of_getElem? (i := 1) (by decide +kernel))) (fun _ h9 => h9) rfl dX1_isPlain_6 ?_
  refine lv_icmp_ge (tgt := 16) hx hb dX1_isPlain_9 (by decide) (fun c_9 => ?_) (fun c_9 => ?_)
  · replace ho := ho.1 c_9
    refine lv_iconst (v := 0) hx hb dX1_isPlain_16 (by decide) ?_
    subst hQ; exact W.zret (v := (0 : Int32)) hx hb hr rfl (fun t ht _ => ⟨(0 : Int32), rfl, ho, ht⟩) (fun _ h => by cases h) dX1_isPlain_17
  · replace ho := ho.2 c_9
    refine lv_iconst (v := 1) hx hb dX1_isPlain_12 (by decide) ?_
    refine lv_goto (tgt := 17) hx hb dX1_isPlain_13 (by decide) ?_
    subst hQ; exact W.zret (v := (1 : Int32)) hx hb hr rfl (fun t ht _ => ⟨(1 : Int32), rfl, ho, ht⟩) (fun _ h => by cases h) dX1_isPlain_17

def wp_X1_powerBits (post : Int32 → Prop) (fl_f : Int32) (fl_signBit : Int32) (p1 : Int32) : Prop := wp_X1_amount (fun r2 => (post (r2 >>> (fl_f &&& 31)))) fl_signBit p1
set_option maxRecDepth 20000 in
theorem in_X1_powerBits_X1 : ∀ w ∈ u_ws RX1 TX1 6, w ∈ wsX1_powerBits := fun w h => (goodIn_r wsX10 [8, 9, 10, 11, 12, 13] (by decide +kernel) (by decide +kernel) w h).1
set_option maxHeartbeats 4000000 in
set_option maxRecDepth 100000 in
theorem c_X1_powerBits (l : Launch) (D : va_G) (cI cJ cZ : ClassId) (a_fl : Nat) (fl_e : Int32) (fl_f : Int32) (fl_bias : Int32) (fl_codes : Int32) (fl_signBit : Int32) (fl_endless : Int32) (p1 : Int32) (post : Int32 → Prop) (ho : wp_X1_powerBits post fl_f fl_signBit p1) : Met l yX1_powerBits wsX1_powerBits ({ frames := 1, cells := 0, slots := 0, locals := 21 } : Room) (ro_P D [(cI, .int), (cJ, .long), (cZ, .boolean)] [.ref a_fl, .int p1] [(a_fl, oX1 fl_e fl_f fl_bias fl_codes fl_signBit fl_endless)]) (vp_Si post) 0 0 (fun _ => False) := by
  refine Met.ofW (cc := cX1_powerBits) (maxL := 2) (ret := (some .int)) (by decide) rfl ?_
  intro p e s m args below meth c s₁ B hml hv
  obtain ⟨hargs, hP, hK, hN⟩ := hv
  have hx := B.exec
  have hb := B.bytes
  have hr := B.returns
  have hts := atoms_spec (ws := wsX1_powerBits) B.pre
  have hown : s.vm.findClass RX1 = some m.cls := findClass_of_methodNamed B.named
  have hlocks := B.notSynchronized
  have hl := lv_entry ([.ref a_fl, .int p1]) (n := 2) (Nat.le_of_ble_eq_true rfl)
  rw [hargs, lg_entry_eq, ← hargs]
  generalize (lg_sl ([.ref a_fl, .int p1]) ++ List.replicate (2 - (lg_sl ([.ref a_fl, .int p1])).length) Slot.unset).toArray = ls at hl ⊢
  replace hl : lv_has ls 2 [(0, .ref a_fl), (1, .int p1)] := hl
  have hRf : ∀ n, n ≤ 1 → n ≤ (headSpec wsX1_powerBits ({ frames := 1, cells := 0, slots := 0, locals := 21 } : Room)).room.frames := fun n h => h
  have hRl : ∀ n, n ≤ 21 → n ≤ (headSpec wsX1_powerBits ({ frames := 1, cells := 0, slots := 0, locals := 21 } : Room)).room.locals := fun n h => h
  generalize (headSpec wsX1_powerBits ({ frames := 1, cells := 0, slots := 0, locals := 21 } : Room)).room = R at hRf hRl ⊢
  generalize hQ : MQ below _ args s 0 0 _ = Q
  unfold wp_X1_powerBits at ho
  refine lv_aload_n hx hb dX1_powerBits_0 rfl (lv_at hl 0 rfl) ?_
  refine lv_iload_n hx hb dX1_powerBits_1 rfl (lv_at hl 1 rfl) ?_
  refine ca_Vi (b := a_fl) (As := [.int p1]) (rest := []) ⟨hx, hb, hml, hown, hts⟩ (c_X1_amount l D cI cJ cZ a_fl fl_e fl_f fl_bias fl_codes fl_signBit fl_endless p1 _ ho) (cwV 1 hts gX1_powerBits_X1_amount rfl rfl rfl (by decide +kernel) ⟨hRf _ (Nat.le_of_ble_eq_true rfl), hRl _ (Nat.le_of_ble_eq_true rfl)⟩) hK hN hP [0] rfl 0 1 rfl rfl rfl rfl hl.1 rfl (Nat.le_of_ble_eq_true rfl) dX1_powerBits_2 ⟨Nat.zero_le _, Nat.zero_le _⟩ (fun r2 ho => ?_)
  refine lv_aload_n hx hb dX1_powerBits_5 rfl (lv_at hl 0 rfl) ?_
  refine va_get (D := D) (ci := 1) (v := .int fl_f) (C := RX1) (T := TX1) (N := 6) hx hb hts in_X1_powerBits_X1 hown hK hP 0 rfl rfl 1 (by decide) (hts (.fieldLink RX1 17 "HardBench$Floats" "f" "I") (List.mem_of_getElem? (i := 1) (by decide +kernel))) (fun _ h9 => h9) rfl dX1_powerBits_6 ?_
  refine lv_ishr hx hb dX1_powerBits_9 ?_
  subst hQ; exact W.iret (v := (r2 >>> (fl_f &&& 31))) hx hb hr (fun t ht _ => ⟨(r2 >>> (fl_f &&& 31)), rfl, ho, ht⟩) (fun _ h => by cases h) dX1_powerBits_10

def wp_X1_zs (post : Int32 → Prop) (fl_f : Int32) : Prop := post ((1 : Int32) <<< (fl_f &&& 31))
set_option maxRecDepth 20000 in
theorem in_X1_zs_X1 : ∀ w ∈ u_ws RX1 TX1 6, w ∈ wsX1_zs := fun w h => (goodIn_r wsX10 [2, 3, 4, 5, 6, 7] (by decide +kernel) (by decide +kernel) w h).1
set_option maxHeartbeats 4000000 in
set_option maxRecDepth 100000 in
theorem c_X1_zs (l : Launch) (D : va_G) (cI cJ cZ : ClassId) (a_fl : Nat) (fl_e : Int32) (fl_f : Int32) (fl_bias : Int32) (fl_codes : Int32) (fl_signBit : Int32) (fl_endless : Int32)  (post : Int32 → Prop) (ho : wp_X1_zs post fl_f) : Met l yX1_zs wsX1_zs ({ frames := 0, cells := 0, slots := 0, locals := 0 } : Room) (ro_P D [(cI, .int), (cJ, .long), (cZ, .boolean)] [.ref a_fl] [(a_fl, oX1 fl_e fl_f fl_bias fl_codes fl_signBit fl_endless)]) (vp_Si post) 0 0 (fun _ => False) := by
  refine Met.ofW (cc := cX1_zs) (maxL := 1) (ret := (some .int)) (by decide) rfl ?_
  intro p e s m args below meth c s₁ B hml hv
  obtain ⟨hargs, hP, hK, hN⟩ := hv
  have hx := B.exec
  have hb := B.bytes
  have hr := B.returns
  have hts := atoms_spec (ws := wsX1_zs) B.pre
  have hown : s.vm.findClass RX1 = some m.cls := findClass_of_methodNamed B.named
  have hlocks := B.notSynchronized
  have hl := lv_entry ([.ref a_fl]) (n := 1) (Nat.le_of_ble_eq_true rfl)
  rw [hargs, lg_entry_eq, ← hargs]
  generalize (lg_sl ([.ref a_fl]) ++ List.replicate (1 - (lg_sl ([.ref a_fl])).length) Slot.unset).toArray = ls at hl ⊢
  replace hl : lv_has ls 1 [(0, .ref a_fl)] := hl
  have hRf : ∀ n, n ≤ 0 → n ≤ (headSpec wsX1_zs ({ frames := 0, cells := 0, slots := 0, locals := 0 } : Room)).room.frames := fun n h => h
  have hRl : ∀ n, n ≤ 0 → n ≤ (headSpec wsX1_zs ({ frames := 0, cells := 0, slots := 0, locals := 0 } : Room)).room.locals := fun n h => h
  generalize (headSpec wsX1_zs ({ frames := 0, cells := 0, slots := 0, locals := 0 } : Room)).room = R at hRf hRl ⊢
  generalize hQ : MQ below _ args s 0 0 _ = Q
  unfold wp_X1_zs at ho
  refine lv_iconst (v := 1) hx hb dX1_zs_0 (by decide) ?_
  refine lv_aload_n hx hb dX1_zs_1 rfl (lv_at hl 0 rfl) ?_
  refine va_get (D := D) (ci := 1) (v := .int fl_f) (C := RX1) (T := TX1) (N := 6) hx hb hts in_X1_zs_X1 hown hK hP 0 rfl rfl 1 (by decide) (hts (.fieldLink RX1 17 "HardBench$Floats" "f" "I") (List.mem_of_getElem? (i := 1) (by decide +kernel))) (fun _ h9 => h9) rfl dX1_zs_2 ?_
  refine lv_ishl hx hb dX1_zs_5 ?_
  subst hQ; exact W.iret (v := ((1 : Int32) <<< (fl_f &&& 31))) hx hb hr (fun t ht _ => ⟨((1 : Int32) <<< (fl_f &&& 31)), rfl, ho, ht⟩) (fun _ h => by cases h) dX1_zs_6

def wp_X1_figureBits (post : Int32 → Prop) (fl_f : Int32) (p1 : Int32) : Prop := wp_X1_zs (fun r2 => (post (p1 &&& (r2 - (1 : Int32))))) fl_f
set_option maxHeartbeats 4000000 in
set_option maxRecDepth 100000 in
theorem c_X1_figureBits (l : Launch) (D : va_G) (cI cJ cZ : ClassId) (a_fl : Nat) (fl_e : Int32) (fl_f : Int32) (fl_bias : Int32) (fl_codes : Int32) (fl_signBit : Int32) (fl_endless : Int32) (p1 : Int32) (post : Int32 → Prop) (ho : wp_X1_figureBits post fl_f p1) : Met l yX1_figureBits wsX1_figureBits ({ frames := 1, cells := 0, slots := 0, locals := 20 } : Room) (ro_P D [(cI, .int), (cJ, .long), (cZ, .boolean)] [.ref a_fl, .int p1] [(a_fl, oX1 fl_e fl_f fl_bias fl_codes fl_signBit fl_endless)]) (vp_Si post) 0 0 (fun _ => False) := by
  refine Met.ofW (cc := cX1_figureBits) (maxL := 2) (ret := (some .int)) (by decide) rfl ?_
  intro p e s m args below meth c s₁ B hml hv
  obtain ⟨hargs, hP, hK, hN⟩ := hv
  have hx := B.exec
  have hb := B.bytes
  have hr := B.returns
  have hts := atoms_spec (ws := wsX1_figureBits) B.pre
  have hown : s.vm.findClass RX1 = some m.cls := findClass_of_methodNamed B.named
  have hlocks := B.notSynchronized
  have hl := lv_entry ([.ref a_fl, .int p1]) (n := 2) (Nat.le_of_ble_eq_true rfl)
  rw [hargs, lg_entry_eq, ← hargs]
  generalize (lg_sl ([.ref a_fl, .int p1]) ++ List.replicate (2 - (lg_sl ([.ref a_fl, .int p1])).length) Slot.unset).toArray = ls at hl ⊢
  replace hl : lv_has ls 2 [(0, .ref a_fl), (1, .int p1)] := hl
  have hRf : ∀ n, n ≤ 1 → n ≤ (headSpec wsX1_figureBits ({ frames := 1, cells := 0, slots := 0, locals := 20 } : Room)).room.frames := fun n h => h
  have hRl : ∀ n, n ≤ 20 → n ≤ (headSpec wsX1_figureBits ({ frames := 1, cells := 0, slots := 0, locals := 20 } : Room)).room.locals := fun n h => h
  generalize (headSpec wsX1_figureBits ({ frames := 1, cells := 0, slots := 0, locals := 20 } : Room)).room = R at hRf hRl ⊢
  generalize hQ : MQ below _ args s 0 0 _ = Q
  unfold wp_X1_figureBits at ho
  refine lv_iload_n hx hb dX1_figureBits_0 rfl (lv_at hl 1 rfl) ?_
  refine lv_aload_n hx hb dX1_figureBits_1 rfl (lv_at hl 0 rfl) ?_
  refine ca_Vi (b := a_fl) (As := []) (rest := [.int p1]) ⟨hx, hb, hml, hown, hts⟩ (c_X1_zs l D cI cJ cZ a_fl fl_e fl_f fl_bias fl_codes fl_signBit fl_endless  _ ho) (cwV 0 hts gX1_figureBits_X1_zs rfl rfl rfl (by decide +kernel) ⟨hRf _ (Nat.le_of_ble_eq_true rfl), hRl _ (Nat.le_of_ble_eq_true rfl)⟩) hK hN hP [0] rfl 0 1 rfl rfl rfl rfl hl.1 rfl (Nat.le_of_ble_eq_true rfl) dX1_figureBits_2 ⟨Nat.zero_le _, Nat.zero_le _⟩ (fun r2 ho => ?_)
  refine lv_iconst (v := 1) hx hb dX1_figureBits_5 (by decide) ?_
  refine lv_isub hx hb dX1_figureBits_6 ?_
  refine lv_iand hx hb dX1_figureBits_7 ?_
  subst hQ; exact W.iret (v := (p1 &&& (r2 - (1 : Int32)))) hx hb hr (fun t ht _ => ⟨(p1 &&& (r2 - (1 : Int32))), rfl, ho, ht⟩) (fun _ h => by cases h) dX1_figureBits_8

def wp_X1_factor (post : Int32 → Prop) (fl_f : Int32) (fl_signBit : Int32) (p1 : Int32) : Prop := wp_X1_powerBits (fun r2 => (((¬ r2 = 0) → (wp_X1_zs (fun r17 => (wp_X1_figureBits (fun r22 => (post (r17 + r22))) fl_f p1)) fl_f)) ∧ ((¬ (¬ r2 = 0)) → (wp_X1_figureBits (fun r10 => (post r10)) fl_f p1)))) fl_f fl_signBit p1
set_option maxHeartbeats 4000000 in
set_option maxRecDepth 100000 in
theorem c_X1_factor (l : Launch) (D : va_G) (cI cJ cZ : ClassId) (a_fl : Nat) (fl_e : Int32) (fl_f : Int32) (fl_bias : Int32) (fl_codes : Int32) (fl_signBit : Int32) (fl_endless : Int32) (p1 : Int32) (post : Int32 → Prop) (ho : wp_X1_factor post fl_f fl_signBit p1) : Met l yX1_factor wsX1_factor ({ frames := 2, cells := 0, slots := 0, locals := 42 } : Room) (ro_P D [(cI, .int), (cJ, .long), (cZ, .boolean)] [.ref a_fl, .int p1] [(a_fl, oX1 fl_e fl_f fl_bias fl_codes fl_signBit fl_endless)]) (vp_Si post) 0 0 (fun _ => False) := by
  refine Met.ofW (cc := cX1_factor) (maxL := 2) (ret := (some .int)) (by decide) rfl ?_
  intro p e s m args below meth c s₁ B hml hv
  obtain ⟨hargs, hP, hK, hN⟩ := hv
  have hx := B.exec
  have hb := B.bytes
  have hr := B.returns
  have hts := atoms_spec (ws := wsX1_factor) B.pre
  have hown : s.vm.findClass RX1 = some m.cls := findClass_of_methodNamed B.named
  have hlocks := B.notSynchronized
  have hl := lv_entry ([.ref a_fl, .int p1]) (n := 2) (Nat.le_of_ble_eq_true rfl)
  rw [hargs, lg_entry_eq, ← hargs]
  generalize (lg_sl ([.ref a_fl, .int p1]) ++ List.replicate (2 - (lg_sl ([.ref a_fl, .int p1])).length) Slot.unset).toArray = ls at hl ⊢
  replace hl : lv_has ls 2 [(0, .ref a_fl), (1, .int p1)] := hl
  have hRf : ∀ n, n ≤ 2 → n ≤ (headSpec wsX1_factor ({ frames := 2, cells := 0, slots := 0, locals := 42 } : Room)).room.frames := fun n h => h
  have hRl : ∀ n, n ≤ 42 → n ≤ (headSpec wsX1_factor ({ frames := 2, cells := 0, slots := 0, locals := 42 } : Room)).room.locals := fun n h => h
  generalize (headSpec wsX1_factor ({ frames := 2, cells := 0, slots := 0, locals := 42 } : Room)).room = R at hRf hRl ⊢
  generalize hQ : MQ below _ args s 0 0 _ = Q
  unfold wp_X1_factor at ho
  refine lv_aload_n hx hb dX1_factor_0 rfl (lv_at hl 0 rfl) ?_
  refine lv_iload_n hx hb dX1_factor_1 rfl (lv_at hl 1 rfl) ?_
  refine ca_Vi (b := a_fl) (As := [.int p1]) (rest := []) ⟨hx, hb, hml, hown, hts⟩ (c_X1_powerBits l D cI cJ cZ a_fl fl_e fl_f fl_bias fl_codes fl_signBit fl_endless p1 _ ho) (cwV 1 hts gX1_factor_X1_powerBits rfl rfl rfl (by decide +kernel) ⟨hRf _ (Nat.le_of_ble_eq_true rfl), hRl _ (Nat.le_of_ble_eq_true rfl)⟩) hK hN hP [0] rfl 0 1 rfl rfl rfl rfl hl.1 rfl (Nat.le_of_ble_eq_true rfl) dX1_factor_2 ⟨Nat.zero_le _, Nat.zero_le _⟩ (fun r2 ho => ?_)
  refine lv_if_ne (tgt := 16) hx hb dX1_factor_5 (by decide) (fun c_5 => ?_) (fun c_5 => ?_)
  · replace ho := ho.1 c_5
    refine lv_aload_n hx hb dX1_factor_16 rfl (lv_at hl 0 rfl) ?_
    refine ca_Vi (b := a_fl) (As := []) (rest := []) ⟨hx, hb, hml, hown, hts⟩ (c_X1_zs l D cI cJ cZ a_fl fl_e fl_f fl_bias fl_codes fl_signBit fl_endless  _ ho) (cwV 0 hts gX1_factor_X1_zs rfl rfl rfl (by decide +kernel) ⟨hRf _ (Nat.le_of_ble_eq_true rfl), hRl _ (Nat.le_of_ble_eq_true rfl)⟩) hK hN hP [0] rfl 0 1 rfl rfl rfl rfl hl.1 rfl (Nat.le_of_ble_eq_true rfl) dX1_factor_17 ⟨Nat.zero_le _, Nat.zero_le _⟩ (fun r17 ho => ?_)
    refine lv_aload_n hx hb dX1_factor_20 rfl (lv_at hl 0 rfl) ?_
    refine lv_iload_n hx hb dX1_factor_21 rfl (lv_at hl 1 rfl) ?_
    refine ca_Vi (b := a_fl) (As := [.int p1]) (rest := [.int r17]) ⟨hx, hb, hml, hown, hts⟩ (c_X1_figureBits l D cI cJ cZ a_fl fl_e fl_f fl_bias fl_codes fl_signBit fl_endless p1 _ ho) (cwV 1 hts gX1_factor_X1_figureBits rfl rfl rfl (by decide +kernel) ⟨hRf _ (Nat.le_of_ble_eq_true rfl), hRl _ (Nat.le_of_ble_eq_true rfl)⟩) hK hN hP [0] rfl 0 1 rfl rfl rfl rfl hl.1 rfl (Nat.le_of_ble_eq_true rfl) dX1_factor_22 ⟨Nat.zero_le _, Nat.zero_le _⟩ (fun r22 ho => ?_)
    refine lv_iadd hx hb dX1_factor_25 ?_
    subst hQ; exact W.iret (v := (r17 + r22)) hx hb hr (fun t ht _ => ⟨(r17 + r22), rfl, ho, ht⟩) (fun _ h => by cases h) dX1_factor_26
  · replace ho := ho.2 c_5
    refine lv_aload_n hx hb dX1_factor_8 rfl (lv_at hl 0 rfl) ?_
    refine lv_iload_n hx hb dX1_factor_9 rfl (lv_at hl 1 rfl) ?_
    refine ca_Vi (b := a_fl) (As := [.int p1]) (rest := []) ⟨hx, hb, hml, hown, hts⟩ (c_X1_figureBits l D cI cJ cZ a_fl fl_e fl_f fl_bias fl_codes fl_signBit fl_endless p1 _ ho) (cwV 1 hts gX1_factor_X1_figureBits rfl rfl rfl (by decide +kernel) ⟨hRf _ (Nat.le_of_ble_eq_true rfl), hRl _ (Nat.le_of_ble_eq_true rfl)⟩) hK hN hP [0] rfl 0 1 rfl rfl rfl rfl hl.1 rfl (Nat.le_of_ble_eq_true rfl) dX1_factor_10 ⟨Nat.zero_le _, Nat.zero_le _⟩ (fun r10 ho => ?_)
    refine lv_goto (tgt := 26) hx hb dX1_factor_13 (by decide) ?_
    subst hQ; exact W.iret (v := r10) hx hb hr (fun t ht _ => ⟨r10, rfl, ho, ht⟩) (fun _ h => by cases h) dX1_factor_26

def wp_X1_power (post : Int32 → Prop) (fl_f : Int32) (fl_bias : Int32) (fl_signBit : Int32) (p1 : Int32) : Prop := wp_X1_powerBits (fun r2 => (post (((if r2 < (1 : Int32) then (1 : Int32) else r2) - fl_bias) - fl_f))) fl_f fl_signBit p1
set_option maxRecDepth 20000 in
theorem in_X1_power_X1 : ∀ w ∈ u_ws RX1 TX1 6, w ∈ wsX1_power := fun w h => (goodIn_r wsX10 [17, 18, 19, 20, 21, 22] (by decide +kernel) (by decide +kernel) w h).1
set_option maxHeartbeats 4000000 in
set_option maxRecDepth 100000 in
theorem c_X1_power (l : Launch) (D : va_G) (cI cJ cZ : ClassId) (a_fl : Nat) (fl_e : Int32) (fl_f : Int32) (fl_bias : Int32) (fl_codes : Int32) (fl_signBit : Int32) (fl_endless : Int32) (p1 : Int32) (post : Int32 → Prop) (ho : wp_X1_power post fl_f fl_bias fl_signBit p1) : Met l yX1_power wsX1_power ({ frames := 2, cells := 0, slots := 0, locals := 42 } : Room) (ro_P D [(cI, .int), (cJ, .long), (cZ, .boolean)] [.ref a_fl, .int p1] [(a_fl, oX1 fl_e fl_f fl_bias fl_codes fl_signBit fl_endless)]) (vp_Si post) 0 0 (fun _ => False) := by
  refine Met.ofW (cc := cX1_power) (maxL := 2) (ret := (some .int)) (by decide) rfl ?_
  intro p e s m args below meth c s₁ B hml hv
  obtain ⟨hargs, hP, hK, hN⟩ := hv
  have hx := B.exec
  have hb := B.bytes
  have hr := B.returns
  have hts := atoms_spec (ws := wsX1_power) B.pre
  have hown : s.vm.findClass RX1 = some m.cls := findClass_of_methodNamed B.named
  have hlocks := B.notSynchronized
  have hl := lv_entry ([.ref a_fl, .int p1]) (n := 2) (Nat.le_of_ble_eq_true rfl)
  rw [hargs, lg_entry_eq, ← hargs]
  generalize (lg_sl ([.ref a_fl, .int p1]) ++ List.replicate (2 - (lg_sl ([.ref a_fl, .int p1])).length) Slot.unset).toArray = ls at hl ⊢
  replace hl : lv_has ls 2 [(0, .ref a_fl), (1, .int p1)] := hl
  have hRf : ∀ n, n ≤ 2 → n ≤ (headSpec wsX1_power ({ frames := 2, cells := 0, slots := 0, locals := 42 } : Room)).room.frames := fun n h => h
  have hRl : ∀ n, n ≤ 42 → n ≤ (headSpec wsX1_power ({ frames := 2, cells := 0, slots := 0, locals := 42 } : Room)).room.locals := fun n h => h
  generalize (headSpec wsX1_power ({ frames := 2, cells := 0, slots := 0, locals := 42 } : Room)).room = R at hRf hRl ⊢
  generalize hQ : MQ below _ args s 0 0 _ = Q
  unfold wp_X1_power at ho
  refine lv_aload_n hx hb dX1_power_0 rfl (lv_at hl 0 rfl) ?_
  refine lv_iload_n hx hb dX1_power_1 rfl (lv_at hl 1 rfl) ?_
  refine ca_Vi (b := a_fl) (As := [.int p1]) (rest := []) ⟨hx, hb, hml, hown, hts⟩ (c_X1_powerBits l D cI cJ cZ a_fl fl_e fl_f fl_bias fl_codes fl_signBit fl_endless p1 _ ho) (cwV 1 hts gX1_power_X1_powerBits rfl rfl rfl (by decide +kernel) ⟨hRf _ (Nat.le_of_ble_eq_true rfl), hRl _ (Nat.le_of_ble_eq_true rfl)⟩) hK hN hP [0] rfl 0 1 rfl rfl rfl rfl hl.1 rfl (Nat.le_of_ble_eq_true rfl) dX1_power_2 ⟨Nat.zero_le _, Nat.zero_le _⟩ (fun r2 ho => ?_)
  refine lv_iconst (v := 1) hx hb dX1_power_5 (by decide) ?_
  refine va_mmax hx hb (hml.trans hl.1.symm) hown (hts (.methodLink RX1 56 Lib.Math.max.name) (List.mem_of_getElem? (i := 1) (by decide +kernel))) (hts (.static Lib.Math.max.name) (List.mem_of_getElem? (i := 2) (by decide +kernel))) (hts (.initialized "java/lang/Math") (List.mem_of_getElem? (i := 3) (by decide +kernel))) (hts (.code Lib.Math.max.name Lib.Math.max.code 2 (some .int)) (List.mem_of_getElem? (i := 4) (by decide +kernel))) (hRf 1 (Nat.le_of_ble_eq_true rfl)) (hRl _ (Nat.le_of_ble_eq_true rfl)) (Nat.zero_le _) (Nat.zero_le _) dX1_power_6 ?_
  refine lv_aload_n hx hb dX1_power_9 rfl (lv_at hl 0 rfl) ?_
  refine va_get (D := D) (ci := 1) (v := .int fl_bias) (C := RX1) (T := TX1) (N := 6) hx hb hts in_X1_power_X1 hown hK hP 0 rfl rfl 2 (by decide) (hts (.fieldLink RX1 20 "HardBench$Floats" "bias" "I") (List.mem_of_getElem? (i := 5) (by decide +kernel))) (fun _ h9 => h9) rfl dX1_power_10 ?_
  refine lv_isub hx hb dX1_power_13 ?_
  refine lv_aload_n hx hb dX1_power_14 rfl (lv_at hl 0 rfl) ?_
  refine va_get (D := D) (ci := 1) (v := .int fl_f) (C := RX1) (T := TX1) (N := 6) hx hb hts in_X1_power_X1 hown hK hP 0 rfl rfl 1 (by decide) (hts (.fieldLink RX1 17 "HardBench$Floats" "f" "I") (List.mem_of_getElem? (i := 6) (by decide +kernel))) (fun _ h9 => h9) rfl dX1_power_15 ?_
  refine lv_isub hx hb dX1_power_18 ?_
  subst hQ; exact W.iret (v := (((if r2 < (1 : Int32) then (1 : Int32) else r2) - fl_bias) - fl_f)) hx hb hr (fun t ht _ => ⟨(((if r2 < (1 : Int32) then (1 : Int32) else r2) - fl_bias) - fl_f), rfl, ho, ht⟩) (fun _ h => by cases h) dX1_power_19

def wp_X1_greatestPlain (post : Int32 → Prop) (fl_endless : Int32) : Prop := post (fl_endless - (1 : Int32))
set_option maxRecDepth 20000 in
theorem in_X1_greatestPlain_X1 : ∀ w ∈ u_ws RX1 TX1 6, w ∈ wsX1_greatestPlain := fun w h => (goodIn_r wsX10 [2, 3, 4, 5, 6, 7] (by decide +kernel) (by decide +kernel) w h).1
set_option maxHeartbeats 4000000 in
set_option maxRecDepth 100000 in
theorem c_X1_greatestPlain (l : Launch) (D : va_G) (cI cJ cZ : ClassId) (a_fl : Nat) (fl_e : Int32) (fl_f : Int32) (fl_bias : Int32) (fl_codes : Int32) (fl_signBit : Int32) (fl_endless : Int32)  (post : Int32 → Prop) (ho : wp_X1_greatestPlain post fl_endless) : Met l yX1_greatestPlain wsX1_greatestPlain ({ frames := 0, cells := 0, slots := 0, locals := 0 } : Room) (ro_P D [(cI, .int), (cJ, .long), (cZ, .boolean)] [.ref a_fl] [(a_fl, oX1 fl_e fl_f fl_bias fl_codes fl_signBit fl_endless)]) (vp_Si post) 0 0 (fun _ => False) := by
  refine Met.ofW (cc := cX1_greatestPlain) (maxL := 1) (ret := (some .int)) (by decide) rfl ?_
  intro p e s m args below meth c s₁ B hml hv
  obtain ⟨hargs, hP, hK, hN⟩ := hv
  have hx := B.exec
  have hb := B.bytes
  have hr := B.returns
  have hts := atoms_spec (ws := wsX1_greatestPlain) B.pre
  have hown : s.vm.findClass RX1 = some m.cls := findClass_of_methodNamed B.named
  have hlocks := B.notSynchronized
  have hl := lv_entry ([.ref a_fl]) (n := 1) (Nat.le_of_ble_eq_true rfl)
  rw [hargs, lg_entry_eq, ← hargs]
  generalize (lg_sl ([.ref a_fl]) ++ List.replicate (1 - (lg_sl ([.ref a_fl])).length) Slot.unset).toArray = ls at hl ⊢
  replace hl : lv_has ls 1 [(0, .ref a_fl)] := hl
  have hRf : ∀ n, n ≤ 0 → n ≤ (headSpec wsX1_greatestPlain ({ frames := 0, cells := 0, slots := 0, locals := 0 } : Room)).room.frames := fun n h => h
  have hRl : ∀ n, n ≤ 0 → n ≤ (headSpec wsX1_greatestPlain ({ frames := 0, cells := 0, slots := 0, locals := 0 } : Room)).room.locals := fun n h => h
  generalize (headSpec wsX1_greatestPlain ({ frames := 0, cells := 0, slots := 0, locals := 0 } : Room)).room = R at hRf hRl ⊢
  generalize hQ : MQ below _ args s 0 0 _ = Q
  unfold wp_X1_greatestPlain at ho
  refine lv_aload_n hx hb dX1_greatestPlain_0 rfl (lv_at hl 0 rfl) ?_
  refine va_get (D := D) (ci := 1) (v := .int fl_endless) (C := RX1) (T := TX1) (N := 6) hx hb hts in_X1_greatestPlain_X1 hown hK hP 0 rfl rfl 5 (by decide) (hts (.fieldLink RX1 29 "HardBench$Floats" "endless" "I") (List.mem_of_getElem? (i := 1) (by decide +kernel))) (fun _ h9 => h9) rfl dX1_greatestPlain_1 ?_
  refine lv_iconst (v := 1) hx hb dX1_greatestPlain_4 (by decide) ?_
  refine lv_isub hx hb dX1_greatestPlain_5 ?_
  subst hQ; exact W.iret (v := (fl_endless - (1 : Int32))) hx hb hr (fun t ht _ => ⟨(fl_endless - (1 : Int32)), rfl, ho, ht⟩) (fun _ h => by cases h) dX1_greatestPlain_6

def wp_X1_isNone (post : Int32 → Prop) (fl_signBit : Int32) (fl_endless : Int32) (p1 : Int32) : Prop := wp_X1_amount (fun r2 => (((r2 ≤ fl_endless) → (post (0 : Int32))) ∧ ((¬ (r2 ≤ fl_endless)) → (post (1 : Int32))))) fl_signBit p1
set_option maxRecDepth 20000 in
theorem in_X1_isNone_X1 : ∀ w ∈ u_ws RX1 TX1 6, w ∈ wsX1_isNone := fun w h => (goodIn_r wsX10 [8, 9, 10, 11, 12, 13] (by decide +kernel) (by decide +kernel) w h).1
set_option maxHeartbeats 4000000 in
set_option maxRecDepth 100000 in
theorem c_X1_isNone (l : Launch) (D : va_G) (cI cJ cZ : ClassId) (a_fl : Nat) (fl_e : Int32) (fl_f : Int32) (fl_bias : Int32) (fl_codes : Int32) (fl_signBit : Int32) (fl_endless : Int32) (p1 : Int32) (post : Int32 → Prop) (ho : wp_X1_isNone post fl_signBit fl_endless p1) : Met l yX1_isNone wsX1_isNone ({ frames := 1, cells := 0, slots := 0, locals := 21 } : Room) (ro_P D [(cI, .int), (cJ, .long), (cZ, .boolean)] [.ref a_fl, .int p1] [(a_fl, oX1 fl_e fl_f fl_bias fl_codes fl_signBit fl_endless)]) (vp_Si post) 0 0 (fun _ => False) := by
  refine Met.ofW (cc := cX1_isNone) (maxL := 2) (ret := (some .boolean)) (by decide) rfl ?_
  intro p e s m args below meth c s₁ B hml hv
  obtain ⟨hargs, hP, hK, hN⟩ := hv
  have hx := B.exec
  have hb := B.bytes
  have hr := B.returns
  have hts := atoms_spec (ws := wsX1_isNone) B.pre
  have hown : s.vm.findClass RX1 = some m.cls := findClass_of_methodNamed B.named
  have hlocks := B.notSynchronized
  have hl := lv_entry ([.ref a_fl, .int p1]) (n := 2) (Nat.le_of_ble_eq_true rfl)
  rw [hargs, lg_entry_eq, ← hargs]
  generalize (lg_sl ([.ref a_fl, .int p1]) ++ List.replicate (2 - (lg_sl ([.ref a_fl, .int p1])).length) Slot.unset).toArray = ls at hl ⊢
  replace hl : lv_has ls 2 [(0, .ref a_fl), (1, .int p1)] := hl
  have hRf : ∀ n, n ≤ 1 → n ≤ (headSpec wsX1_isNone ({ frames := 1, cells := 0, slots := 0, locals := 21 } : Room)).room.frames := fun n h => h
  have hRl : ∀ n, n ≤ 21 → n ≤ (headSpec wsX1_isNone ({ frames := 1, cells := 0, slots := 0, locals := 21 } : Room)).room.locals := fun n h => h
  generalize (headSpec wsX1_isNone ({ frames := 1, cells := 0, slots := 0, locals := 21 } : Room)).room = R at hRf hRl ⊢
  generalize hQ : MQ below _ args s 0 0 _ = Q
  unfold wp_X1_isNone at ho
  refine lv_aload_n hx hb dX1_isNone_0 rfl (lv_at hl 0 rfl) ?_
  refine lv_iload_n hx hb dX1_isNone_1 rfl (lv_at hl 1 rfl) ?_
  refine ca_Vi (b := a_fl) (As := [.int p1]) (rest := []) ⟨hx, hb, hml, hown, hts⟩ (c_X1_amount l D cI cJ cZ a_fl fl_e fl_f fl_bias fl_codes fl_signBit fl_endless p1 _ ho) (cwV 1 hts gX1_isNone_X1_amount rfl rfl rfl (by decide +kernel) ⟨hRf _ (Nat.le_of_ble_eq_true rfl), hRl _ (Nat.le_of_ble_eq_true rfl)⟩) hK hN hP [0] rfl 0 1 rfl rfl rfl rfl hl.1 rfl (Nat.le_of_ble_eq_true rfl) dX1_isNone_2 ⟨Nat.zero_le _, Nat.zero_le _⟩ (fun r2 ho => ?_)
  refine lv_aload_n hx hb dX1_isNone_5 rfl (lv_at hl 0 rfl) ?_
  refine va_get (D := D) (ci := 1) (v := .int fl_endless) (C := RX1) (T := TX1) (N := 6) hx hb hts in_X1_isNone_X1 hown hK hP 0 rfl rfl 5 (by decide) (hts (.fieldLink RX1 29 "HardBench$Floats" "endless" "I") (List.mem_of_getElem? (i := 1) (by decide +kernel))) (fun _ h9 => h9) rfl dX1_isNone_6 ?_
  refine lv_icmp_le (tgt := 16) hx hb dX1_isNone_9 (by decide) (fun c_9 => ?_) (fun c_9 => ?_)
  · replace ho := ho.1 c_9
    refine lv_iconst (v := 0) hx hb dX1_isNone_16 (by decide) ?_
    subst hQ; exact W.zret (v := (0 : Int32)) hx hb hr rfl (fun t ht _ => ⟨(0 : Int32), rfl, ho, ht⟩) (fun _ h => by cases h) dX1_isNone_17
  · replace ho := ho.2 c_9
    refine lv_iconst (v := 1) hx hb dX1_isNone_12 (by decide) ?_
    refine lv_goto (tgt := 17) hx hb dX1_isNone_13 (by decide) ?_
    subst hQ; exact W.zret (v := (1 : Int32)) hx hb hr rfl (fun t ht _ => ⟨(1 : Int32), rfl, ho, ht⟩) (fun _ h => by cases h) dX1_isNone_17

def wp_X1_none (post : Int32 → Prop) (fl_endless : Int32) : Prop := post (fl_endless + (1 : Int32))
set_option maxRecDepth 20000 in
theorem in_X1_none_X1 : ∀ w ∈ u_ws RX1 TX1 6, w ∈ wsX1_none := fun w h => (goodIn_r wsX10 [2, 3, 4, 5, 6, 7] (by decide +kernel) (by decide +kernel) w h).1
set_option maxHeartbeats 4000000 in
set_option maxRecDepth 100000 in
theorem c_X1_none (l : Launch) (D : va_G) (cI cJ cZ : ClassId) (a_fl : Nat) (fl_e : Int32) (fl_f : Int32) (fl_bias : Int32) (fl_codes : Int32) (fl_signBit : Int32) (fl_endless : Int32)  (post : Int32 → Prop) (ho : wp_X1_none post fl_endless) : Met l yX1_none wsX1_none ({ frames := 0, cells := 0, slots := 0, locals := 0 } : Room) (ro_P D [(cI, .int), (cJ, .long), (cZ, .boolean)] [.ref a_fl] [(a_fl, oX1 fl_e fl_f fl_bias fl_codes fl_signBit fl_endless)]) (vp_Si post) 0 0 (fun _ => False) := by
  refine Met.ofW (cc := cX1_none) (maxL := 1) (ret := (some .int)) (by decide) rfl ?_
  intro p e s m args below meth c s₁ B hml hv
  obtain ⟨hargs, hP, hK, hN⟩ := hv
  have hx := B.exec
  have hb := B.bytes
  have hr := B.returns
  have hts := atoms_spec (ws := wsX1_none) B.pre
  have hown : s.vm.findClass RX1 = some m.cls := findClass_of_methodNamed B.named
  have hlocks := B.notSynchronized
  have hl := lv_entry ([.ref a_fl]) (n := 1) (Nat.le_of_ble_eq_true rfl)
  rw [hargs, lg_entry_eq, ← hargs]
  generalize (lg_sl ([.ref a_fl]) ++ List.replicate (1 - (lg_sl ([.ref a_fl])).length) Slot.unset).toArray = ls at hl ⊢
  replace hl : lv_has ls 1 [(0, .ref a_fl)] := hl
  have hRf : ∀ n, n ≤ 0 → n ≤ (headSpec wsX1_none ({ frames := 0, cells := 0, slots := 0, locals := 0 } : Room)).room.frames := fun n h => h
  have hRl : ∀ n, n ≤ 0 → n ≤ (headSpec wsX1_none ({ frames := 0, cells := 0, slots := 0, locals := 0 } : Room)).room.locals := fun n h => h
  generalize (headSpec wsX1_none ({ frames := 0, cells := 0, slots := 0, locals := 0 } : Room)).room = R at hRf hRl ⊢
  generalize hQ : MQ below _ args s 0 0 _ = Q
  unfold wp_X1_none at ho
  refine lv_aload_n hx hb dX1_none_0 rfl (lv_at hl 0 rfl) ?_
  refine va_get (D := D) (ci := 1) (v := .int fl_endless) (C := RX1) (T := TX1) (N := 6) hx hb hts in_X1_none_X1 hown hK hP 0 rfl rfl 5 (by decide) (hts (.fieldLink RX1 29 "HardBench$Floats" "endless" "I") (List.mem_of_getElem? (i := 1) (by decide +kernel))) (fun _ h9 => h9) rfl dX1_none_1 ?_
  refine lv_iconst (v := 1) hx hb dX1_none_4 (by decide) ?_
  refine lv_iadd hx hb dX1_none_5 ?_
  subst hQ; exact W.iret (v := (fl_endless + (1 : Int32))) hx hb hr (fun t ht _ => ⟨(fl_endless + (1 : Int32)), rfl, ho, ht⟩) (fun _ h => by cases h) dX1_none_6
