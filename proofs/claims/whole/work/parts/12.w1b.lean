def wp_X1_become (post : Int32 → Int32 → Int32 → Int32 → Int32 → Int32 → Prop) (p1 : Int32) (p2 : Int32) : Prop := post  p1 p2 (((1 : Int32) <<< ((p1 - (1 : Int32)) &&& 31)) - (1 : Int32)) ((1 : Int32) <<< ((((1 : Int32) + p1) + p2) &&& 31)) ((1 : Int32) <<< ((p1 + p2) &&& 31)) ((((1 : Int32) <<< (p1 &&& 31)) - (1 : Int32)) <<< (p2 &&& 31))
set_option maxRecDepth 20000 in
theorem in_X1_become_X1 : ∀ w ∈ u_ws RX1 TX1 6, w ∈ wsX1_become := fun w h => (goodIn_r wsX10 [7, 8, 9, 10, 11, 12] (by decide +kernel) (by decide +kernel) w h).1
set_option maxHeartbeats 4000000 in
set_option maxRecDepth 100000 in
theorem c_X1_become (l : Launch) (D : va_G) (cI cJ cZ : ClassId) (a_fl : Nat) (sz : Nat) (fl_e : Int32) (fl_f : Int32) (fl_bias : Int32) (fl_codes : Int32) (fl_signBit : Int32) (fl_endless : Int32) (p1 : Int32) (p2 : Int32) (post : Int32 → Int32 → Int32 → Int32 → Int32 → Int32 → Prop) (A : Nat → Prop) (hAe : A = va_A [(a_fl, oX1 fl_e fl_f fl_bias fl_codes fl_signBit fl_endless)] sz) (ho : wp_X1_become post p1 p2) : Met l yX1_become wsX1_become ({ frames := 0, cells := 0, slots := 0, locals := 0 } : Room) (rw_P D [(cI, .int), (cJ, .long), (cZ, .boolean)] [.ref a_fl, .int p1, .int p2] sz [(a_fl, oX1 fl_e fl_f fl_bias fl_codes fl_signBit fl_endless)]) (va_Qv (fun (u : (Int32) × (Int32) × (Int32) × (Int32) × (Int32) × (Int32)) => post u.1 u.2.1 u.2.2.1 u.2.2.2.1 u.2.2.2.2.1 u.2.2.2.2.2) (rw_B D A (fun (u : (Int32) × (Int32) × (Int32) × (Int32) × (Int32) × (Int32)) => [(a_fl, oX1 u.1 u.2.1 u.2.2.1 u.2.2.2.1 u.2.2.2.2.1 u.2.2.2.2.2)])) A) 0 0 A := by
  refine Met.ofW (cc := cX1_become) (maxL := 3) (ret := none) (by decide) rfl ?_
  intro p e s m args below meth c s₁ B hml hv
  obtain ⟨hargs, hsz, hP, hK, hN, hD0⟩ := hv
  have hx := B.exec
  have hb := B.bytes
  have hr := B.returns
  have hts := atoms_spec (ws := wsX1_become) B.pre
  have hown : s.vm.findClass RX1 = some m.cls := findClass_of_methodNamed B.named
  have hlocks := B.notSynchronized
  subst hsz
  have hD : va_D A [(a_fl, oX1 fl_e fl_f fl_bias fl_codes fl_signBit fl_endless)] := by rw [hAe]; exact hD0.self
  have hA : ∀ q : Nat, s.heap.size ≤ q → A q := fun q h => by rw [hAe]; exact Or.inr h
  have hS : va_S A s.heap s.heap [] := va_S.rf
  have hl := lv_entry ([.ref a_fl, .int p1, .int p2]) (n := 3) (Nat.le_of_ble_eq_true rfl)
  rw [hargs, lg_entry_eq, ← hargs]
  generalize (lg_sl ([.ref a_fl, .int p1, .int p2]) ++ List.replicate (3 - (lg_sl ([.ref a_fl, .int p1, .int p2])).length) Slot.unset).toArray = ls at hl ⊢
  replace hl : lv_has ls 3 [(0, .ref a_fl), (1, .int p1), (2, .int p2)] := hl
  have hRf : ∀ n, n ≤ 0 → n ≤ (headSpec wsX1_become ({ frames := 0, cells := 0, slots := 0, locals := 0 } : Room)).room.frames := fun n h => h
  have hRl : ∀ n, n ≤ 0 → n ≤ (headSpec wsX1_become ({ frames := 0, cells := 0, slots := 0, locals := 0 } : Room)).room.locals := fun n h => h
  generalize (headSpec wsX1_become ({ frames := 0, cells := 0, slots := 0, locals := 0 } : Room)).room = R at hRf hRl ⊢
  generalize hQ : MQ below _ args s 0 0 _ = Q
  unfold wp_X1_become at ho
  refine lv_aload_n hx hb dX1_become_0 rfl (lv_at hl 0 rfl) ?_
  refine lv_iload_n hx hb dX1_become_1 rfl (lv_at hl 1 rfl) ?_
  refine va_put (D := D) (ci := 1) (v := .int p1) (ty := .int) (C := RX1) (T := TX1) (N := 6) hx hb hts in_X1_become_X1 tyX1 tyX1_ok nmX1 hown hK hP hD hS 0 rfl rfl 0 (by decide) (hts (.fieldLink RX1 13 "HardBench$Floats" "e" "I") (List.mem_of_getElem? (i := 1) (by decide +kernel))) (fun _ h9 => h9) rfl (by decide +kernel) rfl rfl (Nat.le_of_ble_eq_true rfl) dX1_become_2 (fun H locs hP hD hS => ?_)
  replace hP : va_P D vwCl [(a_fl, oX1 p1 fl_f fl_bias fl_codes fl_signBit fl_endless)] H := hP
  replace hD : va_D A [(a_fl, oX1 p1 fl_f fl_bias fl_codes fl_signBit fl_endless)] := hD
  refine lv_aload_n hx hb dX1_become_5 rfl (lv_at hl 0 rfl) ?_
  refine lv_iload_n hx hb dX1_become_6 rfl (lv_at hl 2 rfl) ?_
  refine va_put (D := D) (ci := 1) (v := .int p2) (ty := .int) (C := RX1) (T := TX1) (N := 6) hx hb hts in_X1_become_X1 tyX1 tyX1_ok nmX1 hown hK hP hD hS 0 rfl rfl 1 (by decide) (hts (.fieldLink RX1 17 "HardBench$Floats" "f" "I") (List.mem_of_getElem? (i := 2) (by decide +kernel))) (fun _ h9 => h9) rfl (by decide +kernel) rfl rfl (Nat.le_of_ble_eq_true rfl) dX1_become_7 (fun H locs hP hD hS => ?_)
  replace hP : va_P D vwCl [(a_fl, oX1 p1 p2 fl_bias fl_codes fl_signBit fl_endless)] H := hP
  replace hD : va_D A [(a_fl, oX1 p1 p2 fl_bias fl_codes fl_signBit fl_endless)] := hD
  refine lv_aload_n hx hb dX1_become_10 rfl (lv_at hl 0 rfl) ?_
  refine lv_iconst (v := 1) hx hb dX1_become_11 (by decide) ?_
  refine lv_aload_n hx hb dX1_become_12 rfl (lv_at hl 0 rfl) ?_
  refine va_get (D := D) (ci := 1) (v := .int p1) (C := RX1) (T := TX1) (N := 6) hx hb hts in_X1_become_X1 hown hK hP 0 rfl rfl 0 (by decide) (hts (.fieldLink RX1 13 "HardBench$Floats" "e" "I") (List.mem_of_getElem? (i := 1) (by decide +kernel))) (fun _ h9 => h9) rfl dX1_become_13 ?_
  refine lv_iconst (v := 1) hx hb dX1_become_16 (by decide) ?_
  refine lv_isub hx hb dX1_become_17 ?_
  refine lv_ishl hx hb dX1_become_18 ?_
  refine lv_iconst (v := 1) hx hb dX1_become_19 (by decide) ?_
  refine lv_isub hx hb dX1_become_20 ?_
  refine va_put (D := D) (ci := 1) (v := .int (((1 : Int32) <<< ((p1 - (1 : Int32)) &&& 31)) - (1 : Int32))) (ty := .int) (C := RX1) (T := TX1) (N := 6) hx hb hts in_X1_become_X1 tyX1 tyX1_ok nmX1 hown hK hP hD hS 0 rfl rfl 2 (by decide) (hts (.fieldLink RX1 20 "HardBench$Floats" "bias" "I") (List.mem_of_getElem? (i := 3) (by decide +kernel))) (fun _ h9 => h9) rfl (by decide +kernel) rfl rfl (Nat.le_of_ble_eq_true rfl) dX1_become_21 (fun H locs hP hD hS => ?_)
  replace hP : va_P D vwCl [(a_fl, oX1 p1 p2 (((1 : Int32) <<< ((p1 - (1 : Int32)) &&& 31)) - (1 : Int32)) fl_codes fl_signBit fl_endless)] H := hP
  replace hD : va_D A [(a_fl, oX1 p1 p2 (((1 : Int32) <<< ((p1 - (1 : Int32)) &&& 31)) - (1 : Int32)) fl_codes fl_signBit fl_endless)] := hD
  refine lv_aload_n hx hb dX1_become_24 rfl (lv_at hl 0 rfl) ?_
  refine lv_iconst (v := 1) hx hb dX1_become_25 (by decide) ?_
  refine lv_iconst (v := 1) hx hb dX1_become_26 (by decide) ?_
  refine lv_aload_n hx hb dX1_become_27 rfl (lv_at hl 0 rfl) ?_
  refine va_get (D := D) (ci := 1) (v := .int p1) (C := RX1) (T := TX1) (N := 6) hx hb hts in_X1_become_X1 hown hK hP 0 rfl rfl 0 (by decide) (hts (.fieldLink RX1 13 "HardBench$Floats" "e" "I") (List.mem_of_getElem? (i := 1) (by decide +kernel))) (fun _ h9 => h9) rfl dX1_become_28 ?_
  refine lv_iadd hx hb dX1_become_31 ?_
  refine lv_aload_n hx hb dX1_become_32 rfl (lv_at hl 0 rfl) ?_
  refine va_get (D := D) (ci := 1) (v := .int p2) (C := RX1) (T := TX1) (N := 6) hx hb hts in_X1_become_X1 hown hK hP 0 rfl rfl 1 (by decide) (hts (.fieldLink RX1 17 "HardBench$Floats" "f" "I") (List.mem_of_getElem? (i := 2) (by decide +kernel))) (fun _ h9 => h9) rfl dX1_become_33 ?_
  refine lv_iadd hx hb dX1_become_36 ?_
  refine lv_ishl hx hb dX1_become_37 ?_
  refine va_put (D := D) (ci := 1) (v := .int ((1 : Int32) <<< ((((1 : Int32) + p1) + p2) &&& 31))) (ty := .int) (C := RX1) (T := TX1) (N := 6) hx hb hts in_X1_become_X1 tyX1 tyX1_ok nmX1 hown hK hP hD hS 0 rfl rfl 3 (by decide) (hts (.fieldLink RX1 23 "HardBench$Floats" "codes" "I") (List.mem_of_getElem? (i := 4) (by decide +kernel))) (fun _ h9 => h9) rfl (by decide +kernel) rfl rfl (Nat.le_of_ble_eq_true rfl) dX1_become_38 (fun H locs hP hD hS => ?_)
  replace hP : va_P D vwCl [(a_fl, oX1 p1 p2 (((1 : Int32) <<< ((p1 - (1 : Int32)) &&& 31)) - (1 : Int32)) ((1 : Int32) <<< ((((1 : Int32) + p1) + p2) &&& 31)) fl_signBit fl_endless)] H := hP
  replace hD : va_D A [(a_fl, oX1 p1 p2 (((1 : Int32) <<< ((p1 - (1 : Int32)) &&& 31)) - (1 : Int32)) ((1 : Int32) <<< ((((1 : Int32) + p1) + p2) &&& 31)) fl_signBit fl_endless)] := hD
  refine lv_aload_n hx hb dX1_become_41 rfl (lv_at hl 0 rfl) ?_
  refine lv_iconst (v := 1) hx hb dX1_become_42 (by decide) ?_
  refine lv_aload_n hx hb dX1_become_43 rfl (lv_at hl 0 rfl) ?_
  refine va_get (D := D) (ci := 1) (v := .int p1) (C := RX1) (T := TX1) (N := 6) hx hb hts in_X1_become_X1 hown hK hP 0 rfl rfl 0 (by decide) (hts (.fieldLink RX1 13 "HardBench$Floats" "e" "I") (List.mem_of_getElem? (i := 1) (by decide +kernel))) (fun _ h9 => h9) rfl dX1_become_44 ?_
  refine lv_aload_n hx hb dX1_become_47 rfl (lv_at hl 0 rfl) ?_
  refine va_get (D := D) (ci := 1) (v := .int p2) (C := RX1) (T := TX1) (N := 6) hx hb hts in_X1_become_X1 hown hK hP 0 rfl rfl 1 (by decide) (hts (.fieldLink RX1 17 "HardBench$Floats" "f" "I") (List.mem_of_getElem? (i := 2) (by decide +kernel))) (fun _ h9 => h9) rfl dX1_become_48 ?_
  refine lv_iadd hx hb dX1_become_51 ?_
  refine lv_ishl hx hb dX1_become_52 ?_
  refine va_put (D := D) (ci := 1) (v := .int ((1 : Int32) <<< ((p1 + p2) &&& 31))) (ty := .int) (C := RX1) (T := TX1) (N := 6) hx hb hts in_X1_become_X1 tyX1 tyX1_ok nmX1 hown hK hP hD hS 0 rfl rfl 4 (by decide) (hts (.fieldLink RX1 26 "HardBench$Floats" "signBit" "I") (List.mem_of_getElem? (i := 5) (by decide +kernel))) (fun _ h9 => h9) rfl (by decide +kernel) rfl rfl (Nat.le_of_ble_eq_true rfl) dX1_become_53 (fun H locs hP hD hS => ?_)
  replace hP : va_P D vwCl [(a_fl, oX1 p1 p2 (((1 : Int32) <<< ((p1 - (1 : Int32)) &&& 31)) - (1 : Int32)) ((1 : Int32) <<< ((((1 : Int32) + p1) + p2) &&& 31)) ((1 : Int32) <<< ((p1 + p2) &&& 31)) fl_endless)] H := hP
  replace hD : va_D A [(a_fl, oX1 p1 p2 (((1 : Int32) <<< ((p1 - (1 : Int32)) &&& 31)) - (1 : Int32)) ((1 : Int32) <<< ((((1 : Int32) + p1) + p2) &&& 31)) ((1 : Int32) <<< ((p1 + p2) &&& 31)) fl_endless)] := hD
  refine lv_aload_n hx hb dX1_become_56 rfl (lv_at hl 0 rfl) ?_
  refine lv_iconst (v := 1) hx hb dX1_become_57 (by decide) ?_
  refine lv_aload_n hx hb dX1_become_58 rfl (lv_at hl 0 rfl) ?_
  refine va_get (D := D) (ci := 1) (v := .int p1) (C := RX1) (T := TX1) (N := 6) hx hb hts in_X1_become_X1 hown hK hP 0 rfl rfl 0 (by decide) (hts (.fieldLink RX1 13 "HardBench$Floats" "e" "I") (List.mem_of_getElem? (i := 1) (by decide +kernel))) (fun _ h9 => h9) rfl dX1_become_59 ?_
  refine lv_ishl hx hb dX1_become_62 ?_
  refine lv_iconst (v := 1) hx hb dX1_become_63 (by decide) ?_
  refine lv_isub hx hb dX1_become_64 ?_
  refine lv_aload_n hx hb dX1_become_65 rfl (lv_at hl 0 rfl) ?_
  refine va_get (D := D) (ci := 1) (v := .int p2) (C := RX1) (T := TX1) (N := 6) hx hb hts in_X1_become_X1 hown hK hP 0 rfl rfl 1 (by decide) (hts (.fieldLink RX1 17 "HardBench$Floats" "f" "I") (List.mem_of_getElem? (i := 2) (by decide +kernel))) (fun _ h9 => h9) rfl dX1_become_66 ?_
  refine lv_ishl hx hb dX1_become_69 ?_
  refine va_put (D := D) (ci := 1) (v := .int ((((1 : Int32) <<< (p1 &&& 31)) - (1 : Int32)) <<< (p2 &&& 31))) (ty := .int) (C := RX1) (T := TX1) (N := 6) hx hb hts in_X1_become_X1 tyX1 tyX1_ok nmX1 hown hK hP hD hS 0 rfl rfl 5 (by decide) (hts (.fieldLink RX1 29 "HardBench$Floats" "endless" "I") (List.mem_of_getElem? (i := 6) (by decide +kernel))) (fun _ h9 => h9) rfl (by decide +kernel) rfl rfl (Nat.le_of_ble_eq_true rfl) dX1_become_70 (fun H locs hP hD hS => ?_)
  replace hP : va_P D vwCl [(a_fl, oX1 p1 p2 (((1 : Int32) <<< ((p1 - (1 : Int32)) &&& 31)) - (1 : Int32)) ((1 : Int32) <<< ((((1 : Int32) + p1) + p2) &&& 31)) ((1 : Int32) <<< ((p1 + p2) &&& 31)) ((((1 : Int32) <<< (p1 &&& 31)) - (1 : Int32)) <<< (p2 &&& 31)))] H := hP
  replace hD : va_D A [(a_fl, oX1 p1 p2 (((1 : Int32) <<< ((p1 - (1 : Int32)) &&& 31)) - (1 : Int32)) ((1 : Int32) <<< ((((1 : Int32) + p1) + p2) &&& 31)) ((1 : Int32) <<< ((p1 + p2) &&& 31)) ((((1 : Int32) <<< (p1 &&& 31)) - (1 : Int32)) <<< (p2 &&& 31)))] := hD
  subst hQ; exact W.vret hx hb hr (fun t ht hW => ⟨⟨(p1, p2, (((1 : Int32) <<< ((p1 - (1 : Int32)) &&& 31)) - (1 : Int32)), ((1 : Int32) <<< ((((1 : Int32) + p1) + p2) &&& 31)), ((1 : Int32) <<< ((p1 + p2) &&& 31)), ((((1 : Int32) <<< (p1 &&& 31)) - (1 : Int32)) <<< (p2 &&& 31))), rfl, ho, by rw [ht]; exact hP, hD⟩, hS.F ht⟩) (fun q hq => hS.2.2 q hq) dX1_become_73

def wp_X1_isCode (post : Int32 → Prop) (fl_codes : Int32) (p1 : Int32) : Prop := ((p1 < 0) → (post (0 : Int32))) ∧ ((¬ (p1 < 0)) → (((fl_codes ≤ p1) → (post (0 : Int32))) ∧ ((¬ (fl_codes ≤ p1)) → (post (1 : Int32)))))
set_option maxRecDepth 20000 in
theorem in_X1_isCode_X1 : ∀ w ∈ u_ws RX1 TX1 6, w ∈ wsX1_isCode := fun w h => (goodIn_r wsX10 [2, 3, 4, 5, 6, 7] (by decide +kernel) (by decide +kernel) w h).1
set_option maxHeartbeats 4000000 in
set_option maxRecDepth 100000 in
theorem c_X1_isCode (l : Launch) (D : va_G) (cI cJ cZ : ClassId) (a_fl : Nat) (fl_e : Int32) (fl_f : Int32) (fl_bias : Int32) (fl_codes : Int32) (fl_signBit : Int32) (fl_endless : Int32) (p1 : Int32) (post : Int32 → Prop) (ho : wp_X1_isCode post fl_codes p1) : Met l yX1_isCode wsX1_isCode ({ frames := 0, cells := 0, slots := 0, locals := 0 } : Room) (ro_P D [(cI, .int), (cJ, .long), (cZ, .boolean)] [.ref a_fl, .int p1] [(a_fl, oX1 fl_e fl_f fl_bias fl_codes fl_signBit fl_endless)]) (vp_Si post) 0 0 (fun _ => False) := by
  refine Met.ofW (cc := cX1_isCode) (maxL := 2) (ret := (some .boolean)) (by decide) rfl ?_
  intro p e s m args below meth c s₁ B hml hv
  obtain ⟨hargs, hP, hK, hN⟩ := hv
  have hx := B.exec
  have hb := B.bytes
  have hr := B.returns
  have hts := atoms_spec (ws := wsX1_isCode) B.pre
  have hown : s.vm.findClass RX1 = some m.cls := findClass_of_methodNamed B.named
  have hlocks := B.notSynchronized
  have hl := lv_entry ([.ref a_fl, .int p1]) (n := 2) (Nat.le_of_ble_eq_true rfl)
  rw [hargs, lg_entry_eq, ← hargs]
  generalize (lg_sl ([.ref a_fl, .int p1]) ++ List.replicate (2 - (lg_sl ([.ref a_fl, .int p1])).length) Slot.unset).toArray = ls at hl ⊢
  replace hl : lv_has ls 2 [(0, .ref a_fl), (1, .int p1)] := hl
  have hRf : ∀ n, n ≤ 0 → n ≤ (headSpec wsX1_isCode ({ frames := 0, cells := 0, slots := 0, locals := 0 } : Room)).room.frames := fun n h => h
  have hRl : ∀ n, n ≤ 0 → n ≤ (headSpec wsX1_isCode ({ frames := 0, cells := 0, slots := 0, locals := 0 } : Room)).room.locals := fun n h => h
  generalize (headSpec wsX1_isCode ({ frames := 0, cells := 0, slots := 0, locals := 0 } : Room)).room = R at hRf hRl ⊢
  generalize hQ : MQ below _ args s 0 0 _ = Q
  unfold wp_X1_isCode at ho
  refine lv_iload_n hx hb dX1_isCode_0 rfl (lv_at hl 1 rfl) ?_
  refine lv_if_lt (tgt := 16) hx hb dX1_isCode_1 (by decide) (fun c_1 => ?_) (fun c_1 => ?_)
  · replace ho := ho.1 c_1
    refine lv_iconst (v := 0) hx hb dX1_isCode_16 (by decide) ?_
    subst hQ; exact W.zret (v := (0 : Int32)) hx hb hr rfl (fun t ht _ => ⟨(0 : Int32), rfl, ho, ht⟩) (fun _ h => by cases h) dX1_isCode_17
  · replace ho := ho.2 c_1
    refine lv_iload_n hx hb dX1_isCode_4 rfl (lv_at hl 1 rfl) ?_
    refine lv_aload_n hx hb dX1_isCode_5 rfl (lv_at hl 0 rfl) ?_
    refine va_get (D := D) (ci := 1) (v := .int fl_codes) (C := RX1) (T := TX1) (N := 6) hx hb hts in_X1_isCode_X1 hown hK hP 0 rfl rfl 3 (by decide) (hts (.fieldLink RX1 23 "HardBench$Floats" "codes" "I") (List.mem_of_getElem? (i := 1) (by decide +kernel))) (fun _ h9 => h9) rfl dX1_isCode_6 ?_
    refine lv_icmp_ge (tgt := 16) hx hb dX1_isCode_9 (by decide) (fun c_9 => ?_) (fun c_9 => ?_)
    · replace ho := ho.1 c_9
      refine lv_iconst (v := 0) hx hb dX1_isCode_16 (by decide) ?_
      subst hQ; exact W.zret (v := (0 : Int32)) hx hb hr rfl (fun t ht _ => ⟨(0 : Int32), rfl, ho, ht⟩) (fun _ h => by cases h) dX1_isCode_17
    · replace ho := ho.2 c_9
      refine lv_iconst (v := 1) hx hb dX1_isCode_12 (by decide) ?_
      refine lv_goto (tgt := 17) hx hb dX1_isCode_13 (by decide) ?_
      subst hQ; exact W.zret (v := (1 : Int32)) hx hb hr rfl (fun t ht _ => ⟨(1 : Int32), rfl, ho, ht⟩) (fun _ h => by cases h) dX1_isCode_17

def wp_X1_isPower (post : Int32 → Prop) (fl_e : Int32) (p1 : Int32) : Prop := ((p1 < (1 : Int32)) → (post (0 : Int32))) ∧ ((¬ (p1 < (1 : Int32))) → ((((((1 : Int32) <<< (fl_e &&& 31)) - (1 : Int32)) ≤ p1) → (post (0 : Int32))) ∧ ((¬ ((((1 : Int32) <<< (fl_e &&& 31)) - (1 : Int32)) ≤ p1)) → (post (1 : Int32)))))
set_option maxRecDepth 20000 in
theorem in_X1_isPower_X1 : ∀ w ∈ u_ws RX1 TX1 6, w ∈ wsX1_isPower := fun w h => (goodIn_r wsX10 [2, 3, 4, 5, 6, 7] (by decide +kernel) (by decide +kernel) w h).1
set_option maxHeartbeats 4000000 in
set_option maxRecDepth 100000 in
theorem c_X1_isPower (l : Launch) (D : va_G) (cI cJ cZ : ClassId) (a_fl : Nat) (fl_e : Int32) (fl_f : Int32) (fl_bias : Int32) (fl_codes : Int32) (fl_signBit : Int32) (fl_endless : Int32) (p1 : Int32) (post : Int32 → Prop) (ho : wp_X1_isPower post fl_e p1) : Met l yX1_isPower wsX1_isPower ({ frames := 0, cells := 0, slots := 0, locals := 0 } : Room) (ro_P D [(cI, .int), (cJ, .long), (cZ, .boolean)] [.ref a_fl, .int p1] [(a_fl, oX1 fl_e fl_f fl_bias fl_codes fl_signBit fl_endless)]) (vp_Si post) 0 0 (fun _ => False) := by
  refine Met.ofW (cc := cX1_isPower) (maxL := 2) (ret := (some .boolean)) (by decide) rfl ?_
  intro p e s m args below meth c s₁ B hml hv
  obtain ⟨hargs, hP, hK, hN⟩ := hv
  have hx := B.exec
  have hb := B.bytes
  have hr := B.returns
  have hts := atoms_spec (ws := wsX1_isPower) B.pre
  have hown : s.vm.findClass RX1 = some m.cls := findClass_of_methodNamed B.named
  have hlocks := B.notSynchronized
  have hl := lv_entry ([.ref a_fl, .int p1]) (n := 2) (Nat.le_of_ble_eq_true rfl)
  rw [hargs, lg_entry_eq, ← hargs]
  generalize (lg_sl ([.ref a_fl, .int p1]) ++ List.replicate (2 - (lg_sl ([.ref a_fl, .int p1])).length) Slot.unset).toArray = ls at hl ⊢
  replace hl : lv_has ls 2 [(0, .ref a_fl), (1, .int p1)] := hl
  have hRf : ∀ n, n ≤ 0 → n ≤ (headSpec wsX1_isPower ({ frames := 0, cells := 0, slots := 0, locals := 0 } : Room)).room.frames := fun n h => h
  have hRl : ∀ n, n ≤ 0 → n ≤ (headSpec wsX1_isPower ({ frames := 0, cells := 0, slots := 0, locals := 0 } : Room)).room.locals := fun n h => h
  generalize (headSpec wsX1_isPower ({ frames := 0, cells := 0, slots := 0, locals := 0 } : Room)).room = R at hRf hRl ⊢
  generalize hQ : MQ below _ args s 0 0 _ = Q
  unfold wp_X1_isPower at ho
  refine lv_iload_n hx hb dX1_isPower_0 rfl (lv_at hl 1 rfl) ?_
  refine lv_iconst (v := 1) hx hb dX1_isPower_1 (by decide) ?_
  refine lv_icmp_lt (tgt := 21) hx hb dX1_isPower_2 (by decide) (fun c_2 => ?_) (fun c_2 => ?_)
  · replace ho := ho.1 c_2
    refine lv_iconst (v := 0) hx hb dX1_isPower_21 (by decide) ?_
    subst hQ; exact W.zret (v := (0 : Int32)) hx hb hr rfl (fun t ht _ => ⟨(0 : Int32), rfl, ho, ht⟩) (fun _ h => by cases h) dX1_isPower_22
  · replace ho := ho.2 c_2
    refine lv_iload_n hx hb dX1_isPower_5 rfl (lv_at hl 1 rfl) ?_
    refine lv_iconst (v := 1) hx hb dX1_isPower_6 (by decide) ?_
    refine lv_aload_n hx hb dX1_isPower_7 rfl (lv_at hl 0 rfl) ?_
    refine va_get (D := D) (ci := 1) (v := .int fl_e) (C := RX1) (T := TX1) (N := 6) hx hb hts in_X1_isPower_X1 hown hK hP 0 rfl rfl 0 (by decide) (hts (.fieldLink RX1 13 "HardBench$Floats" "e" "I") (List.mem_of_getElem? (i := 1) (by decide +kernel))) (fun _ h9 => h9) rfl dX1_isPower_8 ?_
    refine lv_ishl hx hb dX1_isPower_11 ?_
    refine lv_iconst (v := 1) hx hb dX1_isPower_12 (by decide) ?_
    refine lv_isub hx hb dX1_isPower_13 ?_
    refine lv_icmp_ge (tgt := 21) hx hb dX1_isPower_14 (by decide) (fun c_14 => ?_) (fun c_14 => ?_)
    · replace ho := ho.1 c_14
      refine lv_iconst (v := 0) hx hb dX1_isPower_21 (by decide) ?_
      subst hQ; exact W.zret (v := (0 : Int32)) hx hb hr rfl (fun t ht _ => ⟨(0 : Int32), rfl, ho, ht⟩) (fun _ h => by cases h) dX1_isPower_22
    · replace ho := ho.2 c_14
      refine lv_iconst (v := 1) hx hb dX1_isPower_17 (by decide) ?_
      refine lv_goto (tgt := 22) hx hb dX1_isPower_18 (by decide) ?_
      subst hQ; exact W.zret (v := (1 : Int32)) hx hb hr rfl (fun t ht _ => ⟨(1 : Int32), rfl, ho, ht⟩) (fun _ h => by cases h) dX1_isPower_22

def wp_X1_isZ (post : Int32 → Prop) (fl_f : Int32) (p1 : Int32) : Prop := ((p1 < 0) → (post (0 : Int32))) ∧ ((¬ (p1 < 0)) → (wp_X1_zs (fun r6 => (((r6 ≤ p1) → (post (0 : Int32))) ∧ ((¬ (r6 ≤ p1)) → (post (1 : Int32))))) fl_f))
set_option maxHeartbeats 4000000 in
set_option maxRecDepth 100000 in
theorem c_X1_isZ (l : Launch) (D : va_G) (cI cJ cZ : ClassId) (a_fl : Nat) (fl_e : Int32) (fl_f : Int32) (fl_bias : Int32) (fl_codes : Int32) (fl_signBit : Int32) (fl_endless : Int32) (p1 : Int32) (post : Int32 → Prop) (ho : wp_X1_isZ post fl_f p1) : Met l yX1_isZ wsX1_isZ ({ frames := 1, cells := 0, slots := 0, locals := 20 } : Room) (ro_P D [(cI, .int), (cJ, .long), (cZ, .boolean)] [.ref a_fl, .int p1] [(a_fl, oX1 fl_e fl_f fl_bias fl_codes fl_signBit fl_endless)]) (vp_Si post) 0 0 (fun _ => False) := by
  refine Met.ofW (cc := cX1_isZ) (maxL := 2) (ret := (some .boolean)) (by decide) rfl ?_
  intro p e s m args below meth c s₁ B hml hv
  obtain ⟨hargs, hP, hK, hN⟩ := hv
  have hx := B.exec
  have hb := B.bytes
  have hr := B.returns
  have hts := atoms_spec (ws := wsX1_isZ) B.pre
  have hown : s.vm.findClass RX1 = some m.cls := findClass_of_methodNamed B.named
  have hlocks := B.notSynchronized
  have hl := lv_entry ([.ref a_fl, .int p1]) (n := 2) (Nat.le_of_ble_eq_true rfl)
  rw [hargs, lg_entry_eq, ← hargs]
  generalize (lg_sl ([.ref a_fl, .int p1]) ++ List.replicate (2 - (lg_sl ([.ref a_fl, .int p1])).length) Slot.unset).toArray = ls at hl ⊢
  replace hl : lv_has ls 2 [(0, .ref a_fl), (1, .int p1)] := hl
  have hRf : ∀ n, n ≤ 1 → n ≤ (headSpec wsX1_isZ ({ frames := 1, cells := 0, slots := 0, locals := 20 } : Room)).room.frames := fun n h => h
  have hRl : ∀ n, n ≤ 20 → n ≤ (headSpec wsX1_isZ ({ frames := 1, cells := 0, slots := 0, locals := 20 } : Room)).room.locals := fun n h => h
  generalize (headSpec wsX1_isZ ({ frames := 1, cells := 0, slots := 0, locals := 20 } : Room)).room = R at hRf hRl ⊢
  generalize hQ : MQ below _ args s 0 0 _ = Q
  unfold wp_X1_isZ at ho
  refine lv_iload_n hx hb dX1_isZ_0 rfl (lv_at hl 1 rfl) ?_
  refine lv_if_lt (tgt := 16) hx hb dX1_isZ_1 (by decide) (fun c_1 => ?_) (fun c_1 => ?_)
  · replace ho := ho.1 c_1
    refine lv_iconst (v := 0) hx hb dX1_isZ_16 (by decide) ?_
    subst hQ; exact W.zret (v := (0 : Int32)) hx hb hr rfl (fun t ht _ => ⟨(0 : Int32), rfl, ho, ht⟩) (fun _ h => by cases h) dX1_isZ_17
  · replace ho := ho.2 c_1
    refine lv_iload_n hx hb dX1_isZ_4 rfl (lv_at hl 1 rfl) ?_
    refine lv_aload_n hx hb dX1_isZ_5 rfl (lv_at hl 0 rfl) ?_
    refine ca_Vi (b := a_fl) (As := []) (rest := [.int p1]) ⟨hx, hb, hml, hown, hts⟩ (c_X1_zs l D cI cJ cZ a_fl fl_e fl_f fl_bias fl_codes fl_signBit fl_endless  _ ho) (cwV 0 hts gX1_isZ_X1_zs rfl rfl rfl (by decide +kernel) ⟨hRf _ (Nat.le_of_ble_eq_true rfl), hRl _ (Nat.le_of_ble_eq_true rfl)⟩) hK hN hP [0] rfl 0 1 rfl rfl rfl rfl hl.1 rfl (Nat.le_of_ble_eq_true rfl) dX1_isZ_6 ⟨Nat.zero_le _, Nat.zero_le _⟩ (fun r6 ho => ?_)
    refine lv_icmp_ge (tgt := 16) hx hb dX1_isZ_9 (by decide) (fun c_9 => ?_) (fun c_9 => ?_)
    · replace ho := ho.1 c_9
      refine lv_iconst (v := 0) hx hb dX1_isZ_16 (by decide) ?_
      subst hQ; exact W.zret (v := (0 : Int32)) hx hb hr rfl (fun t ht _ => ⟨(0 : Int32), rfl, ho, ht⟩) (fun _ h => by cases h) dX1_isZ_17
    · replace ho := ho.2 c_9
      refine lv_iconst (v := 1) hx hb dX1_isZ_12 (by decide) ?_
      refine lv_goto (tgt := 17) hx hb dX1_isZ_13 (by decide) ?_
      subst hQ; exact W.zret (v := (1 : Int32)) hx hb hr rfl (fun t ht _ => ⟨(1 : Int32), rfl, ho, ht⟩) (fun _ h => by cases h) dX1_isZ_17

def wp_X1_codeOf (post : Int32 → Prop) (fl_f : Int32) (p1 : Int32) (p2 : Int32) : Prop := post ((p1 <<< (fl_f &&& 31)) + p2)
set_option maxRecDepth 20000 in
theorem in_X1_codeOf_X1 : ∀ w ∈ u_ws RX1 TX1 6, w ∈ wsX1_codeOf := fun w h => (goodIn_r wsX10 [2, 3, 4, 5, 6, 7] (by decide +kernel) (by decide +kernel) w h).1
set_option maxHeartbeats 4000000 in
set_option maxRecDepth 100000 in
theorem c_X1_codeOf (l : Launch) (D : va_G) (cI cJ cZ : ClassId) (a_fl : Nat) (fl_e : Int32) (fl_f : Int32) (fl_bias : Int32) (fl_codes : Int32) (fl_signBit : Int32) (fl_endless : Int32) (p1 : Int32) (p2 : Int32) (post : Int32 → Prop) (ho : wp_X1_codeOf post fl_f p1 p2) : Met l yX1_codeOf wsX1_codeOf ({ frames := 0, cells := 0, slots := 0, locals := 0 } : Room) (ro_P D [(cI, .int), (cJ, .long), (cZ, .boolean)] [.ref a_fl, .int p1, .int p2] [(a_fl, oX1 fl_e fl_f fl_bias fl_codes fl_signBit fl_endless)]) (vp_Si post) 0 0 (fun _ => False) := by
  refine Met.ofW (cc := cX1_codeOf) (maxL := 3) (ret := (some .int)) (by decide) rfl ?_
  intro p e s m args below meth c s₁ B hml hv
  obtain ⟨hargs, hP, hK, hN⟩ := hv
  have hx := B.exec
  have hb := B.bytes
  have hr := B.returns
  have hts := atoms_spec (ws := wsX1_codeOf) B.pre
  have hown : s.vm.findClass RX1 = some m.cls := findClass_of_methodNamed B.named
  have hlocks := B.notSynchronized
  have hl := lv_entry ([.ref a_fl, .int p1, .int p2]) (n := 3) (Nat.le_of_ble_eq_true rfl)
  rw [hargs, lg_entry_eq, ← hargs]
  generalize (lg_sl ([.ref a_fl, .int p1, .int p2]) ++ List.replicate (3 - (lg_sl ([.ref a_fl, .int p1, .int p2])).length) Slot.unset).toArray = ls at hl ⊢
  replace hl : lv_has ls 3 [(0, .ref a_fl), (1, .int p1), (2, .int p2)] := hl
  have hRf : ∀ n, n ≤ 0 → n ≤ (headSpec wsX1_codeOf ({ frames := 0, cells := 0, slots := 0, locals := 0 } : Room)).room.frames := fun n h => h
  have hRl : ∀ n, n ≤ 0 → n ≤ (headSpec wsX1_codeOf ({ frames := 0, cells := 0, slots := 0, locals := 0 } : Room)).room.locals := fun n h => h
  generalize (headSpec wsX1_codeOf ({ frames := 0, cells := 0, slots := 0, locals := 0 } : Room)).room = R at hRf hRl ⊢
  generalize hQ : MQ below _ args s 0 0 _ = Q
  unfold wp_X1_codeOf at ho
  refine lv_iload_n hx hb dX1_codeOf_0 rfl (lv_at hl 1 rfl) ?_
  refine lv_aload_n hx hb dX1_codeOf_1 rfl (lv_at hl 0 rfl) ?_
  refine va_get (D := D) (ci := 1) (v := .int fl_f) (C := RX1) (T := TX1) (N := 6) hx hb hts in_X1_codeOf_X1 hown hK hP 0 rfl rfl 1 (by decide) (hts (.fieldLink RX1 17 "HardBench$Floats" "f" "I") (List.mem_of_getElem? (i := 1) (by decide +kernel))) (fun _ h9 => h9) rfl dX1_codeOf_2 ?_
  refine lv_ishl hx hb dX1_codeOf_5 ?_
  refine lv_iload_n hx hb dX1_codeOf_6 rfl (lv_at hl 2 rfl) ?_
  refine lv_iadd hx hb dX1_codeOf_7 ?_
  subst hQ; exact W.iret (v := ((p1 <<< (fl_f &&& 31)) + p2)) hx hb hr (fun t ht _ => ⟨((p1 <<< (fl_f &&& 31)) + p2), rfl, ho, ht⟩) (fun _ h => by cases h) dX1_codeOf_8

def wp_X1_kindOf (post : Int32 → Prop) (fl_signBit : Int32) (fl_endless : Int32) (p1 : Int32) : Prop := wp_X1_isPlain (fun r2 => (((r2 = 0) → (wp_X1_isNone (fun r24 => (((r24 = 0) → (post (2 : Int32))) ∧ ((¬ (r24 = 0)) → (post (3 : Int32))))) fl_signBit fl_endless p1)) ∧ ((¬ (r2 = 0)) → (wp_X1_isZero (fun r10 => (((r10 = 0) → (post (0 : Int32))) ∧ ((¬ (r10 = 0)) → (post (1 : Int32))))) fl_signBit p1)))) fl_signBit fl_endless p1
set_option maxHeartbeats 4000000 in
set_option maxRecDepth 100000 in
theorem c_X1_kindOf (l : Launch) (D : va_G) (cI cJ cZ : ClassId) (a_fl : Nat) (fl_e : Int32) (fl_f : Int32) (fl_bias : Int32) (fl_codes : Int32) (fl_signBit : Int32) (fl_endless : Int32) (p1 : Int32) (post : Int32 → Prop) (ho : wp_X1_kindOf post fl_signBit fl_endless p1) : Met l yX1_kindOf wsX1_kindOf ({ frames := 2, cells := 0, slots := 0, locals := 42 } : Room) (ro_P D [(cI, .int), (cJ, .long), (cZ, .boolean)] [.ref a_fl, .int p1] [(a_fl, oX1 fl_e fl_f fl_bias fl_codes fl_signBit fl_endless)]) (vp_Si post) 0 0 (fun _ => False) := by
  refine Met.ofW (cc := cX1_kindOf) (maxL := 2) (ret := (some .int)) (by decide) rfl ?_
  intro p e s m args below meth c s₁ B hml hv
  obtain ⟨hargs, hP, hK, hN⟩ := hv
  have hx := B.exec
  have hb := B.bytes
  have hr := B.returns
  have hts := atoms_spec (ws := wsX1_kindOf) B.pre
  have hown : s.vm.findClass RX1 = some m.cls := findClass_of_methodNamed B.named
  have hlocks := B.notSynchronized
  have hl := lv_entry ([.ref a_fl, .int p1]) (n := 2) (Nat.le_of_ble_eq_true rfl)
  rw [hargs, lg_entry_eq, ← hargs]
  generalize (lg_sl ([.ref a_fl, .int p1]) ++ List.replicate (2 - (lg_sl ([.ref a_fl, .int p1])).length) Slot.unset).toArray = ls at hl ⊢
  replace hl : lv_has ls 2 [(0, .ref a_fl), (1, .int p1)] := hl
  have hRf : ∀ n, n ≤ 2 → n ≤ (headSpec wsX1_kindOf ({ frames := 2, cells := 0, slots := 0, locals := 42 } : Room)).room.frames := fun n h => h
  have hRl : ∀ n, n ≤ 42 → n ≤ (headSpec wsX1_kindOf ({ frames := 2, cells := 0, slots := 0, locals := 42 } : Room)).room.locals := fun n h => h
  generalize (headSpec wsX1_kindOf ({ frames := 2, cells := 0, slots := 0, locals := 42 } : Room)).room = R at hRf hRl ⊢
  generalize hQ : MQ below _ args s 0 0 _ = Q
  unfold wp_X1_kindOf at ho
  refine lv_aload_n hx hb dX1_kindOf_0 rfl (lv_at hl 0 rfl) ?_
  refine lv_iload_n hx hb dX1_kindOf_1 rfl (lv_at hl 1 rfl) ?_
  refine ca_Vi (b := a_fl) (As := [.int p1]) (rest := []) ⟨hx, hb, hml, hown, hts⟩ (c_X1_isPlain l D cI cJ cZ a_fl fl_e fl_f fl_bias fl_codes fl_signBit fl_endless p1 _ ho) (cwV 1 hts gX1_kindOf_X1_isPlain rfl rfl rfl (by decide +kernel) ⟨hRf _ (Nat.le_of_ble_eq_true rfl), hRl _ (Nat.le_of_ble_eq_true rfl)⟩) hK hN hP [0] rfl 0 1 rfl rfl rfl rfl hl.1 rfl (Nat.le_of_ble_eq_true rfl) dX1_kindOf_2 ⟨Nat.zero_le _, Nat.zero_le _⟩ (fun r2 ho => ?_)
  refine lv_if_eq (tgt := 22) hx hb dX1_kindOf_5 (by decide) (fun c_5 => ?_) (fun c_5 => ?_)
  · replace ho := ho.1 c_5
    refine lv_aload_n hx hb dX1_kindOf_22 rfl (lv_at hl 0 rfl) ?_
    refine lv_iload_n hx hb dX1_kindOf_23 rfl (lv_at hl 1 rfl) ?_
    refine ca_Vi (b := a_fl) (As := [.int p1]) (rest := []) ⟨hx, hb, hml, hown, hts⟩ (c_X1_isNone l D cI cJ cZ a_fl fl_e fl_f fl_bias fl_codes fl_signBit fl_endless p1 _ ho) (cwV 1 hts gX1_kindOf_X1_isNone rfl rfl rfl (by decide +kernel) ⟨hRf _ (Nat.le_of_ble_eq_true rfl), hRl _ (Nat.le_of_ble_eq_true rfl)⟩) hK hN hP [0] rfl 0 1 rfl rfl rfl rfl hl.1 rfl (Nat.le_of_ble_eq_true rfl) dX1_kindOf_24 ⟨Nat.zero_le _, Nat.zero_le _⟩ (fun r24 ho => ?_)
    refine lv_if_eq (tgt := 34) hx hb dX1_kindOf_27 (by decide) (fun c_27 => ?_) (fun c_27 => ?_)
    · replace ho := ho.1 c_27
      refine lv_iconst (v := 2) hx hb dX1_kindOf_34 (by decide) ?_
      subst hQ; exact W.iret (v := (2 : Int32)) hx hb hr (fun t ht _ => ⟨(2 : Int32), rfl, ho, ht⟩) (fun _ h => by cases h) dX1_kindOf_35
    · replace ho := ho.2 c_27
      refine lv_iconst (v := 3) hx hb dX1_kindOf_30 (by decide) ?_
      refine lv_goto (tgt := 35) hx hb dX1_kindOf_31 (by decide) ?_
      subst hQ; exact W.iret (v := (3 : Int32)) hx hb hr (fun t ht _ => ⟨(3 : Int32), rfl, ho, ht⟩) (fun _ h => by cases h) dX1_kindOf_35
  · replace ho := ho.2 c_5
    refine lv_aload_n hx hb dX1_kindOf_8 rfl (lv_at hl 0 rfl) ?_
    refine lv_iload_n hx hb dX1_kindOf_9 rfl (lv_at hl 1 rfl) ?_
    refine ca_Vi (b := a_fl) (As := [.int p1]) (rest := []) ⟨hx, hb, hml, hown, hts⟩ (c_X1_isZero l D cI cJ cZ a_fl fl_e fl_f fl_bias fl_codes fl_signBit fl_endless p1 _ ho) (cwV 1 hts gX1_kindOf_X1_isZero rfl rfl rfl (by decide +kernel) ⟨hRf _ (Nat.le_of_ble_eq_true rfl), hRl _ (Nat.le_of_ble_eq_true rfl)⟩) hK hN hP [0] rfl 0 1 rfl rfl rfl rfl hl.1 rfl (Nat.le_of_ble_eq_true rfl) dX1_kindOf_10 ⟨Nat.zero_le _, Nat.zero_le _⟩ (fun r10 ho => ?_)
    refine lv_if_eq (tgt := 20) hx hb dX1_kindOf_13 (by decide) (fun c_13 => ?_) (fun c_13 => ?_)
    · replace ho := ho.1 c_13
      refine lv_iconst (v := 0) hx hb dX1_kindOf_20 (by decide) ?_
      subst hQ; exact W.iret (v := (0 : Int32)) hx hb hr (fun t ht _ => ⟨(0 : Int32), rfl, ho, ht⟩) (fun _ h => by cases h) dX1_kindOf_21
    · replace ho := ho.2 c_13
      refine lv_iconst (v := 1) hx hb dX1_kindOf_16 (by decide) ?_
      refine lv_goto (tgt := 21) hx hb dX1_kindOf_17 (by decide) ?_
      subst hQ; exact W.iret (v := (1 : Int32)) hx hb hr (fun t ht _ => ⟨(1 : Int32), rfl, ho, ht⟩) (fun _ h => by cases h) dX1_kindOf_21

def wp_X1_oddFactor (post : Int32 → Prop) (fl_f : Int32) (fl_signBit : Int32) (p1 : Int32) : Prop := wp_X1_factor (fun r2 => (((¬ r2 = 0) → (wp_J6_numberOfTrailingZeros_0f7a4 (fun r16 => (post (r2 >>> (r16 &&& 31)))) r2)) ∧ ((¬ (¬ r2 = 0)) → (post (0 : Int32))))) fl_f fl_signBit p1
set_option maxHeartbeats 4000000 in
set_option maxRecDepth 100000 in
theorem c_X1_oddFactor (l : Launch) (D : va_G) (cI cJ cZ : ClassId) (a_fl : Nat) (fl_e : Int32) (fl_f : Int32) (fl_bias : Int32) (fl_codes : Int32) (fl_signBit : Int32) (fl_endless : Int32) (p1 : Int32) (post : Int32 → Prop) (ho : wp_X1_oddFactor post fl_f fl_signBit p1) : Met l yX1_oddFactor wsX1_oddFactor ({ frames := 3, cells := 0, slots := 0, locals := 63 } : Room) (ro_P D [(cI, .int), (cJ, .long), (cZ, .boolean)] [.ref a_fl, .int p1] [(a_fl, oX1 fl_e fl_f fl_bias fl_codes fl_signBit fl_endless)]) (vp_Si post) 0 0 (fun _ => False) := by
  refine Met.ofW (cc := cX1_oddFactor) (maxL := 3) (ret := (some .int)) (by decide) rfl ?_
  intro p e s m args below meth c s₁ B hml hv
  obtain ⟨hargs, hP, hK, hN⟩ := hv
  have hx := B.exec
  have hb := B.bytes
  have hr := B.returns
  have hts := atoms_spec (ws := wsX1_oddFactor) B.pre
  have hown : s.vm.findClass RX1 = some m.cls := findClass_of_methodNamed B.named
  have hlocks := B.notSynchronized
  have hl := lv_entry ([.ref a_fl, .int p1]) (n := 3) (Nat.le_of_ble_eq_true rfl)
  rw [hargs, lg_entry_eq, ← hargs]
  generalize (lg_sl ([.ref a_fl, .int p1]) ++ List.replicate (3 - (lg_sl ([.ref a_fl, .int p1])).length) Slot.unset).toArray = ls at hl ⊢
  replace hl : lv_has ls 3 [(0, .ref a_fl), (1, .int p1)] := hl
  have hRf : ∀ n, n ≤ 3 → n ≤ (headSpec wsX1_oddFactor ({ frames := 3, cells := 0, slots := 0, locals := 63 } : Room)).room.frames := fun n h => h
  have hRl : ∀ n, n ≤ 63 → n ≤ (headSpec wsX1_oddFactor ({ frames := 3, cells := 0, slots := 0, locals := 63 } : Room)).room.locals := fun n h => h
  generalize (headSpec wsX1_oddFactor ({ frames := 3, cells := 0, slots := 0, locals := 63 } : Room)).room = R at hRf hRl ⊢
  generalize hQ : MQ below _ args s 0 0 _ = Q
  unfold wp_X1_oddFactor at ho
  refine lv_aload_n hx hb dX1_oddFactor_0 rfl (lv_at hl 0 rfl) ?_
  refine lv_iload_n hx hb dX1_oddFactor_1 rfl (lv_at hl 1 rfl) ?_
  refine ca_Vi (b := a_fl) (As := [.int p1]) (rest := []) ⟨hx, hb, hml, hown, hts⟩ (c_X1_factor l D cI cJ cZ a_fl fl_e fl_f fl_bias fl_codes fl_signBit fl_endless p1 _ ho) (cwV 1 hts gX1_oddFactor_X1_factor rfl rfl rfl (by decide +kernel) ⟨hRf _ (Nat.le_of_ble_eq_true rfl), hRl _ (Nat.le_of_ble_eq_true rfl)⟩) hK hN hP [0] rfl 0 1 rfl rfl rfl rfl hl.1 rfl (Nat.le_of_ble_eq_true rfl) dX1_oddFactor_2 ⟨Nat.zero_le _, Nat.zero_le _⟩ (fun r2 ho => ?_)
  refine lv_istore_n (lv' := [(2, .int r2), (0, .ref a_fl), (1, .int p1)]) hx hb dX1_oddFactor_5 rfl hl (by decide) rfl (fun ls hl => ?_)
  refine lv_iload_n hx hb dX1_oddFactor_6 rfl (lv_at hl 0 rfl) ?_
  refine lv_if_ne (tgt := 14) hx hb dX1_oddFactor_7 (by decide) (fun c_7 => ?_) (fun c_7 => ?_)
  · replace ho := ho.1 c_7
    refine lv_iload_n hx hb dX1_oddFactor_14 rfl (lv_at hl 0 rfl) ?_
    refine lv_iload_n hx hb dX1_oddFactor_15 rfl (lv_at hl 0 rfl) ?_
    refine ca_Si (As := [.int r2]) (rest := [.int r2]) ⟨hx, hb, hml, hown, hts⟩ (c_J6_numberOfTrailingZeros_0f7a4 l D cI cJ cZ   r2 _ ho) (va_cwS 1 hts gX1_oddFactor_J6_numberOfTrailingZeros_0f7a4 rfl rfl rfl (by decide +kernel) ⟨hRf _ (Nat.le_of_ble_eq_true rfl), hRl _ (Nat.le_of_ble_eq_true rfl)⟩) hK hN hP [] rfl rfl hl.1 rfl (Nat.le_of_ble_eq_true rfl) dX1_oddFactor_16 ⟨Nat.zero_le _, Nat.zero_le _⟩ (fun r16 ho => ?_)
    refine lv_ishr hx hb dX1_oddFactor_19 ?_
    subst hQ; exact W.iret (v := (r2 >>> (r16 &&& 31))) hx hb hr (fun t ht _ => ⟨(r2 >>> (r16 &&& 31)), rfl, ho, ht⟩) (fun _ h => by cases h) dX1_oddFactor_20
  · replace ho := ho.2 c_7
    refine lv_iconst (v := 0) hx hb dX1_oddFactor_10 (by decide) ?_
    refine lv_goto (tgt := 20) hx hb dX1_oddFactor_11 (by decide) ?_
    subst hQ; exact W.iret (v := (0 : Int32)) hx hb hr (fun t ht _ => ⟨(0 : Int32), rfl, ho, ht⟩) (fun _ h => by cases h) dX1_oddFactor_20

def wp_X1_powerOfOddFactor (post : Int32 → Prop) (fl_f : Int32) (fl_bias : Int32) (fl_signBit : Int32) (p1 : Int32) : Prop := wp_X1_factor (fun r2 => (((¬ r2 = 0) → (wp_X1_power (fun r16 => (wp_J6_numberOfTrailingZeros_0f7a4 (fun r20 => (post (r16 + r20))) r2)) fl_f fl_bias fl_signBit p1)) ∧ ((¬ (¬ r2 = 0)) → (post (0 : Int32))))) fl_f fl_signBit p1
set_option maxHeartbeats 4000000 in
set_option maxRecDepth 100000 in
theorem c_X1_powerOfOddFactor (l : Launch) (D : va_G) (cI cJ cZ : ClassId) (a_fl : Nat) (fl_e : Int32) (fl_f : Int32) (fl_bias : Int32) (fl_codes : Int32) (fl_signBit : Int32) (fl_endless : Int32) (p1 : Int32) (post : Int32 → Prop) (ho : wp_X1_powerOfOddFactor post fl_f fl_bias fl_signBit p1) : Met l yX1_powerOfOddFactor wsX1_powerOfOddFactor ({ frames := 3, cells := 0, slots := 0, locals := 63 } : Room) (ro_P D [(cI, .int), (cJ, .long), (cZ, .boolean)] [.ref a_fl, .int p1] [(a_fl, oX1 fl_e fl_f fl_bias fl_codes fl_signBit fl_endless)]) (vp_Si post) 0 0 (fun _ => False) := by
  refine Met.ofW (cc := cX1_powerOfOddFactor) (maxL := 3) (ret := (some .int)) (by decide) rfl ?_
  intro p e s m args below meth c s₁ B hml hv
  obtain ⟨hargs, hP, hK, hN⟩ := hv
  have hx := B.exec
  have hb := B.bytes
  have hr := B.returns
  have hts := atoms_spec (ws := wsX1_powerOfOddFactor) B.pre
  have hown : s.vm.findClass RX1 = some m.cls := findClass_of_methodNamed B.named
  have hlocks := B.notSynchronized
  have hl := lv_entry ([.ref a_fl, .int p1]) (n := 3) (Nat.le_of_ble_eq_true rfl)
  rw [hargs, lg_entry_eq, ← hargs]
  generalize (lg_sl ([.ref a_fl, .int p1]) ++ List.replicate (3 - (lg_sl ([.ref a_fl, .int p1])).length) Slot.unset).toArray = ls at hl ⊢
  replace hl : lv_has ls 3 [(0, .ref a_fl), (1, .int p1)] := hl
  have hRf : ∀ n, n ≤ 3 → n ≤ (headSpec wsX1_powerOfOddFactor ({ frames := 3, cells := 0, slots := 0, locals := 63 } : Room)).room.frames := fun n h => h
  have hRl : ∀ n, n ≤ 63 → n ≤ (headSpec wsX1_powerOfOddFactor ({ frames := 3, cells := 0, slots := 0, locals := 63 } : Room)).room.locals := fun n h => h
  generalize (headSpec wsX1_powerOfOddFactor ({ frames := 3, cells := 0, slots := 0, locals := 63 } : Room)).room = R at hRf hRl ⊢
  generalize hQ : MQ below _ args s 0 0 _ = Q
  unfold wp_X1_powerOfOddFactor at ho
  refine lv_aload_n hx hb dX1_powerOfOddFactor_0 rfl (lv_at hl 0 rfl) ?_
  refine lv_iload_n hx hb dX1_powerOfOddFactor_1 rfl (lv_at hl 1 rfl) ?_
  refine ca_Vi (b := a_fl) (As := [.int p1]) (rest := []) ⟨hx, hb, hml, hown, hts⟩ (c_X1_factor l D cI cJ cZ a_fl fl_e fl_f fl_bias fl_codes fl_signBit fl_endless p1 _ ho) (cwV 1 hts gX1_powerOfOddFactor_X1_factor rfl rfl rfl (by decide +kernel) ⟨hRf _ (Nat.le_of_ble_eq_true rfl), hRl _ (Nat.le_of_ble_eq_true rfl)⟩) hK hN hP [0] rfl 0 1 rfl rfl rfl rfl hl.1 rfl (Nat.le_of_ble_eq_true rfl) dX1_powerOfOddFactor_2 ⟨Nat.zero_le _, Nat.zero_le _⟩ (fun r2 ho => ?_)
  refine lv_istore_n (lv' := [(2, .int r2), (0, .ref a_fl), (1, .int p1)]) hx hb dX1_powerOfOddFactor_5 rfl hl (by decide) rfl (fun ls hl => ?_)
  refine lv_iload_n hx hb dX1_powerOfOddFactor_6 rfl (lv_at hl 0 rfl) ?_
  refine lv_if_ne (tgt := 14) hx hb dX1_powerOfOddFactor_7 (by decide) (fun c_7 => ?_) (fun c_7 => ?_)
  · replace ho := ho.1 c_7
    refine lv_aload_n hx hb dX1_powerOfOddFactor_14 rfl (lv_at hl 1 rfl) ?_
    refine lv_iload_n hx hb dX1_powerOfOddFactor_15 rfl (lv_at hl 2 rfl) ?_
    refine ca_Vi (b := a_fl) (As := [.int p1]) (rest := []) ⟨hx, hb, hml, hown, hts⟩ (c_X1_power l D cI cJ cZ a_fl fl_e fl_f fl_bias fl_codes fl_signBit fl_endless p1 _ ho) (cwV 1 hts gX1_powerOfOddFactor_X1_power rfl rfl rfl (by decide +kernel) ⟨hRf _ (Nat.le_of_ble_eq_true rfl), hRl _ (Nat.le_of_ble_eq_true rfl)⟩) hK hN hP [0] rfl 0 1 rfl rfl rfl rfl hl.1 rfl (Nat.le_of_ble_eq_true rfl) dX1_powerOfOddFactor_16 ⟨Nat.zero_le _, Nat.zero_le _⟩ (fun r16 ho => ?_)
    refine lv_iload_n hx hb dX1_powerOfOddFactor_19 rfl (lv_at hl 0 rfl) ?_
    refine ca_Si (As := [.int r2]) (rest := [.int r16]) ⟨hx, hb, hml, hown, hts⟩ (c_J6_numberOfTrailingZeros_0f7a4 l D cI cJ cZ   r2 _ ho) (va_cwS 1 hts gX1_powerOfOddFactor_J6_numberOfTrailingZeros_0f7a4 rfl rfl rfl (by decide +kernel) ⟨hRf _ (Nat.le_of_ble_eq_true rfl), hRl _ (Nat.le_of_ble_eq_true rfl)⟩) hK hN hP [] rfl rfl hl.1 rfl (Nat.le_of_ble_eq_true rfl) dX1_powerOfOddFactor_20 ⟨Nat.zero_le _, Nat.zero_le _⟩ (fun r20 ho => ?_)
    refine lv_iadd hx hb dX1_powerOfOddFactor_23 ?_
    subst hQ; exact W.iret (v := (r16 + r20)) hx hb hr (fun t ht _ => ⟨(r16 + r20), rfl, ho, ht⟩) (fun _ h => by cases h) dX1_powerOfOddFactor_24
  · replace ho := ho.2 c_7
    refine lv_iconst (v := 0) hx hb dX1_powerOfOddFactor_10 (by decide) ?_
    refine lv_goto (tgt := 24) hx hb dX1_powerOfOddFactor_11 (by decide) ?_
    subst hQ; exact W.iret (v := (0 : Int32)) hx hb hr (fun t ht _ => ⟨(0 : Int32), rfl, ho, ht⟩) (fun _ h => by cases h) dX1_powerOfOddFactor_24

def wp_X1_stepsFromZero (post : Int32 → Prop) (fl_signBit : Int32) (p1 : Int32) : Prop := wp_X1_isBelow (fun r2 => (((r2 = 0) → (wp_X1_amount (fun r19 => (post r19)) fl_signBit p1)) ∧ ((¬ (r2 = 0)) → (wp_X1_amount (fun r10 => (post (-r10))) fl_signBit p1)))) fl_signBit p1
set_option maxHeartbeats 4000000 in
set_option maxRecDepth 100000 in
theorem c_X1_stepsFromZero (l : Launch) (D : va_G) (cI cJ cZ : ClassId) (a_fl : Nat) (fl_e : Int32) (fl_f : Int32) (fl_bias : Int32) (fl_codes : Int32) (fl_signBit : Int32) (fl_endless : Int32) (p1 : Int32) (post : Int32 → Prop) (ho : wp_X1_stepsFromZero post fl_signBit p1) : Met l yX1_stepsFromZero wsX1_stepsFromZero ({ frames := 1, cells := 0, slots := 0, locals := 21 } : Room) (ro_P D [(cI, .int), (cJ, .long), (cZ, .boolean)] [.ref a_fl, .int p1] [(a_fl, oX1 fl_e fl_f fl_bias fl_codes fl_signBit fl_endless)]) (vp_Si post) 0 0 (fun _ => False) := by
  refine Met.ofW (cc := cX1_stepsFromZero) (maxL := 2) (ret := (some .int)) (by decide) rfl ?_
  intro p e s m args below meth c s₁ B hml hv
  obtain ⟨hargs, hP, hK, hN⟩ := hv
  have hx := B.exec
  have hb := B.bytes
  have hr := B.returns
  have hts := atoms_spec (ws := wsX1_stepsFromZero) B.pre
  have hown : s.vm.findClass RX1 = some m.cls := findClass_of_methodNamed B.named
  have hlocks := B.notSynchronized
  have hl := lv_entry ([.ref a_fl, .int p1]) (n := 2) (Nat.le_of_ble_eq_true rfl)
  rw [hargs, lg_entry_eq, ← hargs]
  generalize (lg_sl ([.ref a_fl, .int p1]) ++ List.replicate (2 - (lg_sl ([.ref a_fl, .int p1])).length) Slot.unset).toArray = ls at hl ⊢
  replace hl : lv_has ls 2 [(0, .ref a_fl), (1, .int p1)] := hl
  have hRf : ∀ n, n ≤ 1 → n ≤ (headSpec wsX1_stepsFromZero ({ frames := 1, cells := 0, slots := 0, locals := 21 } : Room)).room.frames := fun n h => h
  have hRl : ∀ n, n ≤ 21 → n ≤ (headSpec wsX1_stepsFromZero ({ frames := 1, cells := 0, slots := 0, locals := 21 } : Room)).room.locals := fun n h => h
  generalize (headSpec wsX1_stepsFromZero ({ frames := 1, cells := 0, slots := 0, locals := 21 } : Room)).room = R at hRf hRl ⊢
  generalize hQ : MQ below _ args s 0 0 _ = Q
  unfold wp_X1_stepsFromZero at ho
  refine lv_aload_n hx hb dX1_stepsFromZero_0 rfl (lv_at hl 0 rfl) ?_
  refine lv_iload_n hx hb dX1_stepsFromZero_1 rfl (lv_at hl 1 rfl) ?_
  refine ca_Vi (b := a_fl) (As := [.int p1]) (rest := []) ⟨hx, hb, hml, hown, hts⟩ (c_X1_isBelow l D cI cJ cZ a_fl fl_e fl_f fl_bias fl_codes fl_signBit fl_endless p1 _ ho) (cwV 1 hts gX1_stepsFromZero_X1_isBelow rfl rfl rfl (by decide +kernel) ⟨hRf _ (Nat.le_of_ble_eq_true rfl), hRl _ (Nat.le_of_ble_eq_true rfl)⟩) hK hN hP [0] rfl 0 1 rfl rfl rfl rfl hl.1 rfl (Nat.le_of_ble_eq_true rfl) dX1_stepsFromZero_2 ⟨Nat.zero_le _, Nat.zero_le _⟩ (fun r2 ho => ?_)
  refine lv_if_eq (tgt := 17) hx hb dX1_stepsFromZero_5 (by decide) (fun c_5 => ?_) (fun c_5 => ?_)
  · replace ho := ho.1 c_5
    refine lv_aload_n hx hb dX1_stepsFromZero_17 rfl (lv_at hl 0 rfl) ?_
    refine lv_iload_n hx hb dX1_stepsFromZero_18 rfl (lv_at hl 1 rfl) ?_
    refine ca_Vi (b := a_fl) (As := [.int p1]) (rest := []) ⟨hx, hb, hml, hown, hts⟩ (c_X1_amount l D cI cJ cZ a_fl fl_e fl_f fl_bias fl_codes fl_signBit fl_endless p1 _ ho) (cwV 1 hts gX1_stepsFromZero_X1_amount rfl rfl rfl (by decide +kernel) ⟨hRf _ (Nat.le_of_ble_eq_true rfl), hRl _ (Nat.le_of_ble_eq_true rfl)⟩) hK hN hP [0] rfl 0 1 rfl rfl rfl rfl hl.1 rfl (Nat.le_of_ble_eq_true rfl) dX1_stepsFromZero_19 ⟨Nat.zero_le _, Nat.zero_le _⟩ (fun r19 ho => ?_)
    subst hQ; exact W.iret (v := r19) hx hb hr (fun t ht _ => ⟨r19, rfl, ho, ht⟩) (fun _ h => by cases h) dX1_stepsFromZero_22
  · replace ho := ho.2 c_5
    refine lv_aload_n hx hb dX1_stepsFromZero_8 rfl (lv_at hl 0 rfl) ?_
    refine lv_iload_n hx hb dX1_stepsFromZero_9 rfl (lv_at hl 1 rfl) ?_
    refine ca_Vi (b := a_fl) (As := [.int p1]) (rest := []) ⟨hx, hb, hml, hown, hts⟩ (c_X1_amount l D cI cJ cZ a_fl fl_e fl_f fl_bias fl_codes fl_signBit fl_endless p1 _ ho) (cwV 1 hts gX1_stepsFromZero_X1_amount rfl rfl rfl (by decide +kernel) ⟨hRf _ (Nat.le_of_ble_eq_true rfl), hRl _ (Nat.le_of_ble_eq_true rfl)⟩) hK hN hP [0] rfl 0 1 rfl rfl rfl rfl hl.1 rfl (Nat.le_of_ble_eq_true rfl) dX1_stepsFromZero_10 ⟨Nat.zero_le _, Nat.zero_le _⟩ (fun r10 ho => ?_)
    refine lv_ineg hx hb dX1_stepsFromZero_13 ?_
    refine lv_goto (tgt := 22) hx hb dX1_stepsFromZero_14 (by decide) ?_
    subst hQ; exact W.iret (v := (-r10)) hx hb hr (fun t ht _ => ⟨(-r10), rfl, ho, ht⟩) (fun _ h => by cases h) dX1_stepsFromZero_22

def wp_X1_codeAbove (post : Int32 → Prop) (fl_signBit : Int32) (p1 : Int32) : Prop := wp_X1_stepsFromZero (fun r2 => (((0 ≤ (r2 + (1 : Int32))) → (post (r2 + (1 : Int32)))) ∧ ((¬ (0 ≤ (r2 + (1 : Int32)))) → (post (fl_signBit - (r2 + (1 : Int32))))))) fl_signBit p1
set_option maxRecDepth 20000 in
theorem in_X1_codeAbove_X1 : ∀ w ∈ u_ws RX1 TX1 6, w ∈ wsX1_codeAbove := fun w h => (goodIn_r wsX10 [15, 16, 17, 18, 19, 20] (by decide +kernel) (by decide +kernel) w h).1
set_option maxHeartbeats 4000000 in
set_option maxRecDepth 100000 in
theorem c_X1_codeAbove (l : Launch) (D : va_G) (cI cJ cZ : ClassId) (a_fl : Nat) (fl_e : Int32) (fl_f : Int32) (fl_bias : Int32) (fl_codes : Int32) (fl_signBit : Int32) (fl_endless : Int32) (p1 : Int32) (post : Int32 → Prop) (ho : wp_X1_codeAbove post fl_signBit p1) : Met l yX1_codeAbove wsX1_codeAbove ({ frames := 2, cells := 0, slots := 0, locals := 42 } : Room) (ro_P D [(cI, .int), (cJ, .long), (cZ, .boolean)] [.ref a_fl, .int p1] [(a_fl, oX1 fl_e fl_f fl_bias fl_codes fl_signBit fl_endless)]) (vp_Si post) 0 0 (fun _ => False) := by
  refine Met.ofW (cc := cX1_codeAbove) (maxL := 3) (ret := (some .int)) (by decide) rfl ?_
  intro p e s m args below meth c s₁ B hml hv
  obtain ⟨hargs, hP, hK, hN⟩ := hv
  have hx := B.exec
  have hb := B.bytes
  have hr := B.returns
  have hts := atoms_spec (ws := wsX1_codeAbove) B.pre
  have hown : s.vm.findClass RX1 = some m.cls := findClass_of_methodNamed B.named
  have hlocks := B.notSynchronized
  have hl := lv_entry ([.ref a_fl, .int p1]) (n := 3) (Nat.le_of_ble_eq_true rfl)
  rw [hargs, lg_entry_eq, ← hargs]
  generalize (lg_sl ([.ref a_fl, .int p1]) ++ List.replicate (3 - (lg_sl ([.ref a_fl, .int p1])).length) Slot.unset).toArray = ls at hl ⊢
  replace hl : lv_has ls 3 [(0, .ref a_fl), (1, .int p1)] := hl
  have hRf : ∀ n, n ≤ 2 → n ≤ (headSpec wsX1_codeAbove ({ frames := 2, cells := 0, slots := 0, locals := 42 } : Room)).room.frames := fun n h => h
  have hRl : ∀ n, n ≤ 42 → n ≤ (headSpec wsX1_codeAbove ({ frames := 2, cells := 0, slots := 0, locals := 42 } : Room)).room.locals := fun n h => h
  generalize (headSpec wsX1_codeAbove ({ frames := 2, cells := 0, slots := 0, locals := 42 } : Room)).room = R at hRf hRl ⊢
  generalize hQ : MQ below _ args s 0 0 _ = Q
  unfold wp_X1_codeAbove at ho
  refine lv_aload_n hx hb dX1_codeAbove_0 rfl (lv_at hl 0 rfl) ?_
  refine lv_iload_n hx hb dX1_codeAbove_1 rfl (lv_at hl 1 rfl) ?_
  refine ca_Vi (b := a_fl) (As := [.int p1]) (rest := []) ⟨hx, hb, hml, hown, hts⟩ (c_X1_stepsFromZero l D cI cJ cZ a_fl fl_e fl_f fl_bias fl_codes fl_signBit fl_endless p1 _ ho) (cwV 1 hts gX1_codeAbove_X1_stepsFromZero rfl rfl rfl (by decide +kernel) ⟨hRf _ (Nat.le_of_ble_eq_true rfl), hRl _ (Nat.le_of_ble_eq_true rfl)⟩) hK hN hP [0] rfl 0 1 rfl rfl rfl rfl hl.1 rfl (Nat.le_of_ble_eq_true rfl) dX1_codeAbove_2 ⟨Nat.zero_le _, Nat.zero_le _⟩ (fun r2 ho => ?_)
  refine lv_iconst (v := 1) hx hb dX1_codeAbove_5 (by decide) ?_
  refine lv_iadd hx hb dX1_codeAbove_6 ?_
  refine lv_istore_n (lv' := [(2, .int (r2 + (1 : Int32))), (0, .ref a_fl), (1, .int p1)]) hx hb dX1_codeAbove_7 rfl hl (by decide) rfl (fun ls hl => ?_)
  refine lv_iload_n hx hb dX1_codeAbove_8 rfl (lv_at hl 0 rfl) ?_
  refine lv_if_ge (tgt := 21) hx hb dX1_codeAbove_9 (by decide) (fun c_9 => ?_) (fun c_9 => ?_)
  · replace ho := ho.1 c_9
    refine lv_iload_n hx hb dX1_codeAbove_21 rfl (lv_at hl 0 rfl) ?_
    subst hQ; exact W.iret (v := (r2 + (1 : Int32))) hx hb hr (fun t ht _ => ⟨(r2 + (1 : Int32)), rfl, ho, ht⟩) (fun _ h => by cases h) dX1_codeAbove_22
  · replace ho := ho.2 c_9
    refine lv_aload_n hx hb dX1_codeAbove_12 rfl (lv_at hl 1 rfl) ?_
    refine va_get (D := D) (ci := 1) (v := .int fl_signBit) (C := RX1) (T := TX1) (N := 6) hx hb hts in_X1_codeAbove_X1 hown hK hP 0 rfl rfl 4 (by decide) (hts (.fieldLink RX1 26 "HardBench$Floats" "signBit" "I") (List.mem_of_getElem? (i := 1) (by decide +kernel))) (fun _ h9 => h9) rfl dX1_codeAbove_13 ?_
    refine lv_iload_n hx hb dX1_codeAbove_16 rfl (lv_at hl 0 rfl) ?_
    refine lv_isub hx hb dX1_codeAbove_17 ?_
    refine lv_goto (tgt := 22) hx hb dX1_codeAbove_18 (by decide) ?_
    subst hQ; exact W.iret (v := (fl_signBit - (r2 + (1 : Int32)))) hx hb hr (fun t ht _ => ⟨(fl_signBit - (r2 + (1 : Int32))), rfl, ho, ht⟩) (fun _ h => by cases h) dX1_codeAbove_22
