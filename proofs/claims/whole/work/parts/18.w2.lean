def wp_X2_onLine (post : Int64 → Prop) (p1 : Int64) (p2 : Int64) (p3 : Int64) (p4 : Int32) : Prop := post ((p1 + (p2 * p3)) >>> (p4.toInt64 &&& 63))
set_option maxHeartbeats 4000000 in
set_option maxRecDepth 100000 in
theorem c_X2_onLine (l : Launch) (D : va_G) (cI cJ cZ : ClassId)   (p1 : Int64) (p2 : Int64) (p3 : Int64) (p4 : Int32) (post : Int64 → Prop) (ho : wp_X2_onLine post p1 p2 p3 p4) : Met l yX2_onLine wsX2_onLine ({ frames := 0, cells := 0, slots := 0, locals := 0 } : Room) (ro_P D [(cI, .int), (cJ, .long), (cZ, .boolean)] [.long p1, .long p2, .long p3, .int p4] []) (vp_Sl post) 0 0 (fun _ => False) := by
  refine Met.ofW (cc := cX2_onLine) (maxL := 7) (ret := (some .long)) (by decide) rfl ?_
  intro p e s m args below meth c s₁ B hml hv
  obtain ⟨hargs, hP, hK, hN⟩ := hv
  have hx := B.exec
  have hb := B.bytes
  have hr := B.returns
  have hts := atoms_spec (ws := wsX2_onLine) B.pre
  have hown : s.vm.findClass RX2 = some m.cls := findClass_of_methodNamed B.named
  have hlocks := B.notSynchronized
  have hl := lv_entry ([.long p1, .long p2, .long p3, .int p4]) (n := 7) (Nat.le_of_ble_eq_true rfl)
  rw [hargs, lg_entry_eq, ← hargs]
  generalize (lg_sl ([.long p1, .long p2, .long p3, .int p4]) ++ List.replicate (7 - (lg_sl ([.long p1, .long p2, .long p3, .int p4])).length) Slot.unset).toArray = ls at hl ⊢
  replace hl : lv_has ls 7 [(0, .long p1), (2, .long p2), (4, .long p3), (6, .int p4)] := hl
  have hRf : ∀ n, n ≤ 0 → n ≤ (headSpec wsX2_onLine ({ frames := 0, cells := 0, slots := 0, locals := 0 } : Room)).room.frames := fun n h => h
  have hRl : ∀ n, n ≤ 0 → n ≤ (headSpec wsX2_onLine ({ frames := 0, cells := 0, slots := 0, locals := 0 } : Room)).room.locals := fun n h => h
  generalize (headSpec wsX2_onLine ({ frames := 0, cells := 0, slots := 0, locals := 0 } : Room)).room = R at hRf hRl ⊢
  generalize hQ : MQ below _ args s 0 0 _ = Q
  unfold wp_X2_onLine at ho
  refine lv_lload_n hx hb dX2_onLine_0 rfl (lv_at hl 0 rfl) ?_
  refine lv_lload_n hx hb dX2_onLine_1 rfl (lv_at hl 1 rfl) ?_
  refine lv_lload hx hb dX2_onLine_2 (lv_at hl 2 rfl) ?_
  refine lv_lmul hx hb dX2_onLine_4 ?_
  refine lv_ladd hx hb dX2_onLine_5 ?_
  refine lv_iload hx hb dX2_onLine_6 (lv_at hl 3 rfl) ?_
  refine lv_lshr hx hb dX2_onLine_8 rfl ?_
  subst hQ; exact W.lret (v := ((p1 + (p2 * p3)) >>> (p4.toInt64 &&& 63))) hx hb hr (fun t ht _ => ⟨((p1 + (p2 * p3)) >>> (p4.toInt64 &&& 63)), rfl, ho, ht⟩) (fun _ h => by cases h) dX2_onLine_9

def wp_X2_forget (post : Int32 → Prop)  : Prop := post  (0 : Int32)
set_option maxRecDepth 20000 in
theorem in_X2_forget_X2 : ∀ w ∈ u_ws RX2 TX2 10, w ∈ wsX2_forget := fun w h => (goodIn_r wsX20 [2, 3, 4, 5, 6, 7, 8, 9, 10, 11] (by decide +kernel) (by decide +kernel) w h).1
set_option maxHeartbeats 4000000 in
set_option maxRecDepth 100000 in
theorem c_X2_forget (l : Launch) (D : va_G) (cI cJ cZ : ClassId) (a_fl : Nat) (a_va : Nat) (a_li : Nat) (a_liD : Nat) (a_liF : Nat) (a_liA : Nat) (a_liB : Nat) (sz : Nat) (li_parts : Int32) (li_s : Int32) (li_least : Int64) (li_greatest : Int64)  (post : Int32 → Prop) (A : Nat → Prop) (hAe : A = va_A [(a_li, oX2 a_fl a_va a_liD a_liF a_liA a_liB li_parts li_s li_least li_greatest)] sz) (ho : wp_X2_forget post ) : Met l yX2_forget wsX2_forget ({ frames := 0, cells := 0, slots := 0, locals := 0 } : Room) (rw_P D [(cI, .int), (cJ, .long), (cZ, .boolean)] [.ref a_li] sz [(a_li, oX2 a_fl a_va a_liD a_liF a_liA a_liB li_parts li_s li_least li_greatest)]) (va_Qv (fun (u : (Int32)) => post u) (rw_B D A (fun (u : (Int32)) => [(a_li, oX2 a_fl a_va a_liD a_liF a_liA a_liB u li_s li_least li_greatest)])) A) 0 0 A := by
  refine Met.ofW (cc := cX2_forget) (maxL := 1) (ret := none) (by decide) rfl ?_
  intro p e s m args below meth c s₁ B hml hv
  obtain ⟨hargs, hsz, hP, hK, hN, hD0⟩ := hv
  have hx := B.exec
  have hb := B.bytes
  have hr := B.returns
  have hts := atoms_spec (ws := wsX2_forget) B.pre
  have hown : s.vm.findClass RX2 = some m.cls := findClass_of_methodNamed B.named
  have hlocks := B.notSynchronized
  subst hsz
  have hD : va_D A [(a_li, oX2 a_fl a_va a_liD a_liF a_liA a_liB li_parts li_s li_least li_greatest)] := by rw [hAe]; exact hD0.self
  have hA : ∀ q : Nat, s.heap.size ≤ q → A q := fun q h => by rw [hAe]; exact Or.inr h
  have hS : va_S A s.heap s.heap [] := va_S.rf
  have hl := lv_entry ([.ref a_li]) (n := 1) (Nat.le_of_ble_eq_true rfl)
  rw [hargs, lg_entry_eq, ← hargs]
  generalize (lg_sl ([.ref a_li]) ++ List.replicate (1 - (lg_sl ([.ref a_li])).length) Slot.unset).toArray = ls at hl ⊢
  replace hl : lv_has ls 1 [(0, .ref a_li)] := hl
  have hRf : ∀ n, n ≤ 0 → n ≤ (headSpec wsX2_forget ({ frames := 0, cells := 0, slots := 0, locals := 0 } : Room)).room.frames := fun n h => h
  have hRl : ∀ n, n ≤ 0 → n ≤ (headSpec wsX2_forget ({ frames := 0, cells := 0, slots := 0, locals := 0 } : Room)).room.locals := fun n h => h
  generalize (headSpec wsX2_forget ({ frames := 0, cells := 0, slots := 0, locals := 0 } : Room)).room = R at hRf hRl ⊢
  generalize hQ : MQ below _ args s 0 0 _ = Q
  unfold wp_X2_forget at ho
  refine lv_aload_n hx hb dX2_forget_0 rfl (lv_at hl 0 rfl) ?_
  refine lv_iconst (v := 0) hx hb dX2_forget_1 (by decide) ?_
  refine va_put (D := D) (ci := 2) (v := .int (0 : Int32)) (ty := .int) (C := RX2) (T := TX2) (N := 10) hx hb hts in_X2_forget_X2 tyX2 tyX2_ok nmX2 hown hK hP hD hS 0 rfl rfl 6 (by decide) (hts (.fieldLink RX2 32 "HardBench$Lines" "parts" "I") (List.mem_of_getElem? (i := 1) (by decide +kernel))) (fun _ h9 => h9) rfl (by decide +kernel) rfl rfl (Nat.le_of_ble_eq_true rfl) dX2_forget_2 (fun H locs hP hD hS => ?_)
  replace hP : va_P D vwCl [(a_li, oX2 a_fl a_va a_liD a_liF a_liA a_liB (0 : Int32) li_s li_least li_greatest)] H := hP
  replace hD : va_D A [(a_li, oX2 a_fl a_va a_liD a_liF a_liA a_liB (0 : Int32) li_s li_least li_greatest)] := hD
  subst hQ; exact W.vret hx hb hr (fun t ht hW => ⟨⟨(0 : Int32), rfl, ho, by rw [ht]; exact hP, hD⟩, hS.F ht⟩) (fun q hq => hS.2.2 q hq) dX2_forget_5

def wp_X2_parts (post : Int32 → Prop) (li_parts : Int32) : Prop := post li_parts
set_option maxRecDepth 20000 in
theorem in_X2_parts_X2 : ∀ w ∈ u_ws RX2 TX2 10, w ∈ wsX2_parts := fun w h => (goodIn_r wsX20 [2, 3, 4, 5, 6, 7, 8, 9, 10, 11] (by decide +kernel) (by decide +kernel) w h).1
set_option maxHeartbeats 4000000 in
set_option maxRecDepth 100000 in
theorem c_X2_parts (l : Launch) (D : va_G) (cI cJ cZ : ClassId) (a_fl : Nat) (a_va : Nat) (a_li : Nat) (a_liD : Nat) (a_liF : Nat) (a_liA : Nat) (a_liB : Nat) (li_parts : Int32) (li_s : Int32) (li_least : Int64) (li_greatest : Int64)  (post : Int32 → Prop) (ho : wp_X2_parts post li_parts) : Met l yX2_parts wsX2_parts ({ frames := 0, cells := 0, slots := 0, locals := 0 } : Room) (ro_P D [(cI, .int), (cJ, .long), (cZ, .boolean)] [.ref a_li] [(a_li, oX2 a_fl a_va a_liD a_liF a_liA a_liB li_parts li_s li_least li_greatest)]) (vp_Si post) 0 0 (fun _ => False) := by
  refine Met.ofW (cc := cX2_parts) (maxL := 1) (ret := (some .int)) (by decide) rfl ?_
  intro p e s m args below meth c s₁ B hml hv
  obtain ⟨hargs, hP, hK, hN⟩ := hv
  have hx := B.exec
  have hb := B.bytes
  have hr := B.returns
  have hts := atoms_spec (ws := wsX2_parts) B.pre
  have hown : s.vm.findClass RX2 = some m.cls := findClass_of_methodNamed B.named
  have hlocks := B.notSynchronized
  have hl := lv_entry ([.ref a_li]) (n := 1) (Nat.le_of_ble_eq_true rfl)
  rw [hargs, lg_entry_eq, ← hargs]
  generalize (lg_sl ([.ref a_li]) ++ List.replicate (1 - (lg_sl ([.ref a_li])).length) Slot.unset).toArray = ls at hl ⊢
  replace hl : lv_has ls 1 [(0, .ref a_li)] := hl
  have hRf : ∀ n, n ≤ 0 → n ≤ (headSpec wsX2_parts ({ frames := 0, cells := 0, slots := 0, locals := 0 } : Room)).room.frames := fun n h => h
  have hRl : ∀ n, n ≤ 0 → n ≤ (headSpec wsX2_parts ({ frames := 0, cells := 0, slots := 0, locals := 0 } : Room)).room.locals := fun n h => h
  generalize (headSpec wsX2_parts ({ frames := 0, cells := 0, slots := 0, locals := 0 } : Room)).room = R at hRf hRl ⊢
  generalize hQ : MQ below _ args s 0 0 _ = Q
  unfold wp_X2_parts at ho
  refine lv_aload_n hx hb dX2_parts_0 rfl (lv_at hl 0 rfl) ?_
  refine va_get (D := D) (ci := 2) (v := .int li_parts) (C := RX2) (T := TX2) (N := 10) hx hb hts in_X2_parts_X2 hown hK hP 0 rfl rfl 6 (by decide) (hts (.fieldLink RX2 32 "HardBench$Lines" "parts" "I") (List.mem_of_getElem? (i := 1) (by decide +kernel))) (fun _ h9 => h9) rfl dX2_parts_1 ?_
  subst hQ; exact W.iret (v := li_parts) hx hb hr (fun t ht _ => ⟨li_parts, rfl, ho, ht⟩) (fun _ h => by cases h) dX2_parts_4

def wp_X2_firstZ (post : Int32 → Prop) (liF_r : Nat → Int32) (p1 : Int32) : Prop := wp_X4_at (fun r5 => (post r5)) 256 liF_r p1
set_option maxRecDepth 20000 in
theorem in_X2_firstZ_X2 : ∀ w ∈ u_ws RX2 TX2 10, w ∈ wsX2_firstZ := fun w h => (goodIn_r wsX20 [6, 7, 8, 9, 10, 11, 12, 13, 14, 15] (by decide +kernel) (by decide +kernel) w h).1
set_option maxHeartbeats 4000000 in
set_option maxRecDepth 100000 in
theorem c_X2_firstZ (l : Launch) (D : va_G) (cI cJ cZ : ClassId) (a_fl : Nat) (a_va : Nat) (a_li : Nat) (a_liD : Nat) (a_liF : Nat) (a_liA : Nat) (a_liB : Nat) (li_parts : Int32) (li_s : Int32) (li_least : Int64) (li_greatest : Int64) (liF_r : Nat → Int32) (p1 : Int32) (post : Int32 → Prop) (ho : wp_X2_firstZ post liF_r p1) : Met l yX2_firstZ wsX2_firstZ ({ frames := 1, cells := 0, slots := 0, locals := 21 } : Room) (ro_P D [(cI, .int), (cJ, .long), (cZ, .boolean)] [.ref a_li, .int p1] [(a_li, oX2 a_fl a_va a_liD a_liF a_liA a_liB li_parts li_s li_least li_greatest), (a_liF, .inl (cI, 256, .inl liF_r))]) (vp_Si post) 0 0 (fun _ => False) := by
  refine Met.ofW (cc := cX2_firstZ) (maxL := 2) (ret := (some .int)) (by decide) rfl ?_
  intro p e s m args below meth c s₁ B hml hv
  obtain ⟨hargs, hP, hK, hN⟩ := hv
  have hx := B.exec
  have hb := B.bytes
  have hr := B.returns
  have hts := atoms_spec (ws := wsX2_firstZ) B.pre
  have hown : s.vm.findClass RX2 = some m.cls := findClass_of_methodNamed B.named
  have hlocks := B.notSynchronized
  have hl := lv_entry ([.ref a_li, .int p1]) (n := 2) (Nat.le_of_ble_eq_true rfl)
  rw [hargs, lg_entry_eq, ← hargs]
  generalize (lg_sl ([.ref a_li, .int p1]) ++ List.replicate (2 - (lg_sl ([.ref a_li, .int p1])).length) Slot.unset).toArray = ls at hl ⊢
  replace hl : lv_has ls 2 [(0, .ref a_li), (1, .int p1)] := hl
  have hRf : ∀ n, n ≤ 1 → n ≤ (headSpec wsX2_firstZ ({ frames := 1, cells := 0, slots := 0, locals := 21 } : Room)).room.frames := fun n h => h
  have hRl : ∀ n, n ≤ 21 → n ≤ (headSpec wsX2_firstZ ({ frames := 1, cells := 0, slots := 0, locals := 21 } : Room)).room.locals := fun n h => h
  generalize (headSpec wsX2_firstZ ({ frames := 1, cells := 0, slots := 0, locals := 21 } : Room)).room = R at hRf hRl ⊢
  generalize hQ : MQ below _ args s 0 0 _ = Q
  unfold wp_X2_firstZ at ho
  refine lv_aload_n hx hb dX2_firstZ_0 rfl (lv_at hl 0 rfl) ?_
  refine va_get (D := D) (ci := 2) (v := .ref a_liF) (C := RX2) (T := TX2) (N := 10) hx hb hts in_X2_firstZ_X2 hown hK hP 0 rfl rfl 3 (by decide) (hts (.fieldLink RX2 23 "HardBench$Lines" "firsts" "[I") (List.mem_of_getElem? (i := 1) (by decide +kernel))) (fun _ h9 => h9) rfl dX2_firstZ_1 ?_
  refine lv_iload_n hx hb dX2_firstZ_4 rfl (lv_at hl 1 rfl) ?_
  refine ca_Si (As := [.ref a_liF, .int p1]) (rest := []) ⟨hx, hb, hml, hown, hts⟩ (c_X4_at l D cI cJ cZ a_liF 256 liF_r p1 _ ho) (va_cwS 2 hts gX2_firstZ_X4_at rfl rfl rfl (by decide +kernel) ⟨hRf _ (Nat.le_of_ble_eq_true rfl), hRl _ (Nat.le_of_ble_eq_true rfl)⟩) hK hN hP [1] rfl rfl hl.1 rfl (Nat.le_of_ble_eq_true rfl) dX2_firstZ_5 ⟨Nat.zero_le _, Nat.zero_le _⟩ (fun r5 ho => ?_)
  subst hQ; exact W.iret (v := r5) hx hb hr (fun t ht _ => ⟨r5, rfl, ho, ht⟩) (fun _ h => by cases h) dX2_firstZ_8

def wp_X2_lastZ (post : Int32 → Prop) (fl_f : Int32) (li_parts : Int32) (liF_r : Nat → Int32) (p1 : Int32) : Prop := ((li_parts ≤ (p1 + (1 : Int32))) → (wp_X1_zs (fun r24 => (post (r24 - (1 : Int32)))) fl_f)) ∧ ((¬ (li_parts ≤ (p1 + (1 : Int32)))) → (wp_X2_firstZ (fun r14 => (post (r14 - (1 : Int32)))) liF_r (p1 + (1 : Int32))))
set_option maxRecDepth 20000 in
theorem in_X2_lastZ_X2 : ∀ w ∈ u_ws RX2 TX2 10, w ∈ wsX2_lastZ := fun w h => (goodIn_r wsX20 [19, 20, 21, 22, 23, 24, 25, 26, 27, 28] (by decide +kernel) (by decide +kernel) w h).1
set_option maxHeartbeats 4000000 in
set_option maxRecDepth 100000 in
theorem c_X2_lastZ (l : Launch) (D : va_G) (cI cJ cZ : ClassId) (a_fl : Nat) (a_va : Nat) (a_li : Nat) (a_liD : Nat) (a_liF : Nat) (a_liA : Nat) (a_liB : Nat) (fl_e : Int32) (fl_f : Int32) (fl_bias : Int32) (fl_codes : Int32) (fl_signBit : Int32) (fl_endless : Int32) (li_parts : Int32) (li_s : Int32) (li_least : Int64) (li_greatest : Int64) (liF_r : Nat → Int32) (p1 : Int32) (post : Int32 → Prop) (ho : wp_X2_lastZ post fl_f li_parts liF_r p1) : Met l yX2_lastZ wsX2_lastZ ({ frames := 2, cells := 0, slots := 0, locals := 42 } : Room) (ro_P D [(cI, .int), (cJ, .long), (cZ, .boolean)] [.ref a_li, .int p1] [(a_fl, oX1 fl_e fl_f fl_bias fl_codes fl_signBit fl_endless), (a_li, oX2 a_fl a_va a_liD a_liF a_liA a_liB li_parts li_s li_least li_greatest), (a_liF, .inl (cI, 256, .inl liF_r))]) (vp_Si post) 0 0 (fun _ => False) := by
  refine Met.ofW (cc := cX2_lastZ) (maxL := 2) (ret := (some .int)) (by decide) rfl ?_
  intro p e s m args below meth c s₁ B hml hv
  obtain ⟨hargs, hP, hK, hN⟩ := hv
  have hx := B.exec
  have hb := B.bytes
  have hr := B.returns
  have hts := atoms_spec (ws := wsX2_lastZ) B.pre
  have hown : s.vm.findClass RX2 = some m.cls := findClass_of_methodNamed B.named
  have hlocks := B.notSynchronized
  have hl := lv_entry ([.ref a_li, .int p1]) (n := 2) (Nat.le_of_ble_eq_true rfl)
  rw [hargs, lg_entry_eq, ← hargs]
  generalize (lg_sl ([.ref a_li, .int p1]) ++ List.replicate (2 - (lg_sl ([.ref a_li, .int p1])).length) Slot.unset).toArray = ls at hl ⊢
  replace hl : lv_has ls 2 [(0, .ref a_li), (1, .int p1)] := hl
  have hRf : ∀ n, n ≤ 2 → n ≤ (headSpec wsX2_lastZ ({ frames := 2, cells := 0, slots := 0, locals := 42 } : Room)).room.frames := fun n h => h
  have hRl : ∀ n, n ≤ 42 → n ≤ (headSpec wsX2_lastZ ({ frames := 2, cells := 0, slots := 0, locals := 42 } : Room)).room.locals := fun n h => h
  generalize (headSpec wsX2_lastZ ({ frames := 2, cells := 0, slots := 0, locals := 42 } : Room)).room = R at hRf hRl ⊢
  generalize hQ : MQ below _ args s 0 0 _ = Q
  unfold wp_X2_lastZ at ho
  refine lv_iload_n hx hb dX2_lastZ_0 rfl (lv_at hl 1 rfl) ?_
  refine lv_iconst (v := 1) hx hb dX2_lastZ_1 (by decide) ?_
  refine lv_iadd hx hb dX2_lastZ_2 ?_
  refine lv_aload_n hx hb dX2_lastZ_3 rfl (lv_at hl 0 rfl) ?_
  refine va_get (D := D) (ci := 2) (v := .int li_parts) (C := RX2) (T := TX2) (N := 10) hx hb hts in_X2_lastZ_X2 hown hK hP 1 rfl rfl 6 (by decide) (hts (.fieldLink RX2 32 "HardBench$Lines" "parts" "I") (List.mem_of_getElem? (i := 1) (by decide +kernel))) (fun _ h9 => h9) rfl dX2_lastZ_4 ?_
  refine lv_icmp_ge (tgt := 20) hx hb dX2_lastZ_7 (by decide) (fun c_7 => ?_) (fun c_7 => ?_)
  · replace ho := ho.1 c_7
    refine lv_aload_n hx hb dX2_lastZ_20 rfl (lv_at hl 0 rfl) ?_
    refine va_get (D := D) (ci := 2) (v := .ref a_fl) (C := RX2) (T := TX2) (N := 10) hx hb hts in_X2_lastZ_X2 hown hK hP 1 rfl rfl 0 (by decide) (hts (.fieldLink RX2 9 "HardBench$Lines" "floats" "LHardBench$Floats;") (List.mem_of_getElem? (i := 2) (by decide +kernel))) (fun _ h9 => h9) rfl dX2_lastZ_21 ?_
    refine ca_Vi (b := a_fl) (As := []) (rest := []) ⟨hx, hb, hml, hown, hts⟩ (c_X1_zs l D cI cJ cZ a_fl fl_e fl_f fl_bias fl_codes fl_signBit fl_endless  _ ho) (cwV 0 hts gX2_lastZ_X1_zs rfl rfl rfl (by decide +kernel) ⟨hRf _ (Nat.le_of_ble_eq_true rfl), hRl _ (Nat.le_of_ble_eq_true rfl)⟩) hK hN hP [0] rfl 0 1 rfl rfl rfl rfl hl.1 rfl (Nat.le_of_ble_eq_true rfl) dX2_lastZ_24 ⟨Nat.zero_le _, Nat.zero_le _⟩ (fun r24 ho => ?_)
    refine lv_iconst (v := 1) hx hb dX2_lastZ_27 (by decide) ?_
    refine lv_isub hx hb dX2_lastZ_28 ?_
    subst hQ; exact W.iret (v := (r24 - (1 : Int32))) hx hb hr (fun t ht _ => ⟨(r24 - (1 : Int32)), rfl, ho, ht⟩) (fun _ h => by cases h) dX2_lastZ_29
  · replace ho := ho.2 c_7
    refine lv_aload_n hx hb dX2_lastZ_10 rfl (lv_at hl 0 rfl) ?_
    refine lv_iload_n hx hb dX2_lastZ_11 rfl (lv_at hl 1 rfl) ?_
    refine lv_iconst (v := 1) hx hb dX2_lastZ_12 (by decide) ?_
    refine lv_iadd hx hb dX2_lastZ_13 ?_
    refine ca_Vi (b := a_li) (As := [.int (p1 + (1 : Int32))]) (rest := []) ⟨hx, hb, hml, hown, hts⟩ (c_X2_firstZ l D cI cJ cZ a_fl a_va a_li a_liD a_liF a_liA a_liB li_parts li_s li_least li_greatest liF_r (p1 + (1 : Int32)) _ ho) (cwV 1 hts gX2_lastZ_X2_firstZ rfl rfl rfl (by decide +kernel) ⟨hRf _ (Nat.le_of_ble_eq_true rfl), hRl _ (Nat.le_of_ble_eq_true rfl)⟩) hK hN hP [1, 2] rfl 0 2 rfl rfl rfl rfl hl.1 rfl (Nat.le_of_ble_eq_true rfl) dX2_lastZ_14 ⟨Nat.zero_le _, Nat.zero_le _⟩ (fun r14 ho => ?_)
    refine lv_goto (tgt := 27) hx hb dX2_lastZ_17 (by decide) ?_
    refine lv_iconst (v := 1) hx hb dX2_lastZ_27 (by decide) ?_
    refine lv_isub hx hb dX2_lastZ_28 ?_
    subst hQ; exact W.iret (v := (r14 - (1 : Int32))) hx hb hr (fun t ht _ => ⟨(r14 - (1 : Int32)), rfl, ho, ht⟩) (fun _ h => by cases h) dX2_lastZ_29

def wp_X2_lineStart (post : Int32 → Prop) (liA_r : Nat → Int32) (p1 : Int32) : Prop := wp_X4_at (fun r5 => (post r5)) 256 liA_r p1
set_option maxRecDepth 20000 in
theorem in_X2_lineStart_X2 : ∀ w ∈ u_ws RX2 TX2 10, w ∈ wsX2_lineStart := fun w h => (goodIn_r wsX20 [6, 7, 8, 9, 10, 11, 12, 13, 14, 15] (by decide +kernel) (by decide +kernel) w h).1
set_option maxHeartbeats 4000000 in
set_option maxRecDepth 100000 in
theorem c_X2_lineStart (l : Launch) (D : va_G) (cI cJ cZ : ClassId) (a_fl : Nat) (a_va : Nat) (a_li : Nat) (a_liD : Nat) (a_liF : Nat) (a_liA : Nat) (a_liB : Nat) (li_parts : Int32) (li_s : Int32) (li_least : Int64) (li_greatest : Int64) (liA_r : Nat → Int32) (p1 : Int32) (post : Int32 → Prop) (ho : wp_X2_lineStart post liA_r p1) : Met l yX2_lineStart wsX2_lineStart ({ frames := 1, cells := 0, slots := 0, locals := 21 } : Room) (ro_P D [(cI, .int), (cJ, .long), (cZ, .boolean)] [.ref a_li, .int p1] [(a_li, oX2 a_fl a_va a_liD a_liF a_liA a_liB li_parts li_s li_least li_greatest), (a_liA, .inl (cI, 256, .inl liA_r))]) (vp_Si post) 0 0 (fun _ => False) := by
  refine Met.ofW (cc := cX2_lineStart) (maxL := 2) (ret := (some .int)) (by decide) rfl ?_
  intro p e s m args below meth c s₁ B hml hv
  obtain ⟨hargs, hP, hK, hN⟩ := hv
  have hx := B.exec
  have hb := B.bytes
  have hr := B.returns
  have hts := atoms_spec (ws := wsX2_lineStart) B.pre
  have hown : s.vm.findClass RX2 = some m.cls := findClass_of_methodNamed B.named
  have hlocks := B.notSynchronized
  have hl := lv_entry ([.ref a_li, .int p1]) (n := 2) (Nat.le_of_ble_eq_true rfl)
  rw [hargs, lg_entry_eq, ← hargs]
  generalize (lg_sl ([.ref a_li, .int p1]) ++ List.replicate (2 - (lg_sl ([.ref a_li, .int p1])).length) Slot.unset).toArray = ls at hl ⊢
  replace hl : lv_has ls 2 [(0, .ref a_li), (1, .int p1)] := hl
  have hRf : ∀ n, n ≤ 1 → n ≤ (headSpec wsX2_lineStart ({ frames := 1, cells := 0, slots := 0, locals := 21 } : Room)).room.frames := fun n h => h
  have hRl : ∀ n, n ≤ 21 → n ≤ (headSpec wsX2_lineStart ({ frames := 1, cells := 0, slots := 0, locals := 21 } : Room)).room.locals := fun n h => h
  generalize (headSpec wsX2_lineStart ({ frames := 1, cells := 0, slots := 0, locals := 21 } : Room)).room = R at hRf hRl ⊢
  generalize hQ : MQ below _ args s 0 0 _ = Q
  unfold wp_X2_lineStart at ho
  refine lv_aload_n hx hb dX2_lineStart_0 rfl (lv_at hl 0 rfl) ?_
  refine va_get (D := D) (ci := 2) (v := .ref a_liA) (C := RX2) (T := TX2) (N := 10) hx hb hts in_X2_lineStart_X2 hown hK hP 0 rfl rfl 4 (by decide) (hts (.fieldLink RX2 26 "HardBench$Lines" "starts" "[I") (List.mem_of_getElem? (i := 1) (by decide +kernel))) (fun _ h9 => h9) rfl dX2_lineStart_1 ?_
  refine lv_iload_n hx hb dX2_lineStart_4 rfl (lv_at hl 1 rfl) ?_
  refine ca_Si (As := [.ref a_liA, .int p1]) (rest := []) ⟨hx, hb, hml, hown, hts⟩ (c_X4_at l D cI cJ cZ a_liA 256 liA_r p1 _ ho) (va_cwS 2 hts gX2_lineStart_X4_at rfl rfl rfl (by decide +kernel) ⟨hRf _ (Nat.le_of_ble_eq_true rfl), hRl _ (Nat.le_of_ble_eq_true rfl)⟩) hK hN hP [1] rfl rfl hl.1 rfl (Nat.le_of_ble_eq_true rfl) dX2_lineStart_5 ⟨Nat.zero_le _, Nat.zero_le _⟩ (fun r5 ho => ?_)
  subst hQ; exact W.iret (v := r5) hx hb hr (fun t ht _ => ⟨r5, rfl, ho, ht⟩) (fun _ h => by cases h) dX2_lineStart_8

def wp_X2_lineSlope (post : Int32 → Prop) (liB_r : Nat → Int32) (p1 : Int32) : Prop := wp_X4_at (fun r5 => (post r5)) 256 liB_r p1
set_option maxRecDepth 20000 in
theorem in_X2_lineSlope_X2 : ∀ w ∈ u_ws RX2 TX2 10, w ∈ wsX2_lineSlope := fun w h => (goodIn_r wsX20 [6, 7, 8, 9, 10, 11, 12, 13, 14, 15] (by decide +kernel) (by decide +kernel) w h).1
set_option maxHeartbeats 4000000 in
set_option maxRecDepth 100000 in
theorem c_X2_lineSlope (l : Launch) (D : va_G) (cI cJ cZ : ClassId) (a_fl : Nat) (a_va : Nat) (a_li : Nat) (a_liD : Nat) (a_liF : Nat) (a_liA : Nat) (a_liB : Nat) (li_parts : Int32) (li_s : Int32) (li_least : Int64) (li_greatest : Int64) (liB_r : Nat → Int32) (p1 : Int32) (post : Int32 → Prop) (ho : wp_X2_lineSlope post liB_r p1) : Met l yX2_lineSlope wsX2_lineSlope ({ frames := 1, cells := 0, slots := 0, locals := 21 } : Room) (ro_P D [(cI, .int), (cJ, .long), (cZ, .boolean)] [.ref a_li, .int p1] [(a_li, oX2 a_fl a_va a_liD a_liF a_liA a_liB li_parts li_s li_least li_greatest), (a_liB, .inl (cI, 256, .inl liB_r))]) (vp_Si post) 0 0 (fun _ => False) := by
  refine Met.ofW (cc := cX2_lineSlope) (maxL := 2) (ret := (some .int)) (by decide) rfl ?_
  intro p e s m args below meth c s₁ B hml hv
  obtain ⟨hargs, hP, hK, hN⟩ := hv
  have hx := B.exec
  have hb := B.bytes
  have hr := B.returns
  have hts := atoms_spec (ws := wsX2_lineSlope) B.pre
  have hown : s.vm.findClass RX2 = some m.cls := findClass_of_methodNamed B.named
  have hlocks := B.notSynchronized
  have hl := lv_entry ([.ref a_li, .int p1]) (n := 2) (Nat.le_of_ble_eq_true rfl)
  rw [hargs, lg_entry_eq, ← hargs]
  generalize (lg_sl ([.ref a_li, .int p1]) ++ List.replicate (2 - (lg_sl ([.ref a_li, .int p1])).length) Slot.unset).toArray = ls at hl ⊢
  replace hl : lv_has ls 2 [(0, .ref a_li), (1, .int p1)] := hl
  have hRf : ∀ n, n ≤ 1 → n ≤ (headSpec wsX2_lineSlope ({ frames := 1, cells := 0, slots := 0, locals := 21 } : Room)).room.frames := fun n h => h
  have hRl : ∀ n, n ≤ 21 → n ≤ (headSpec wsX2_lineSlope ({ frames := 1, cells := 0, slots := 0, locals := 21 } : Room)).room.locals := fun n h => h
  generalize (headSpec wsX2_lineSlope ({ frames := 1, cells := 0, slots := 0, locals := 21 } : Room)).room = R at hRf hRl ⊢
  generalize hQ : MQ below _ args s 0 0 _ = Q
  unfold wp_X2_lineSlope at ho
  refine lv_aload_n hx hb dX2_lineSlope_0 rfl (lv_at hl 0 rfl) ?_
  refine va_get (D := D) (ci := 2) (v := .ref a_liB) (C := RX2) (T := TX2) (N := 10) hx hb hts in_X2_lineSlope_X2 hown hK hP 0 rfl rfl 5 (by decide) (hts (.fieldLink RX2 29 "HardBench$Lines" "slopes" "[I") (List.mem_of_getElem? (i := 1) (by decide +kernel))) (fun _ h9 => h9) rfl dX2_lineSlope_1 ?_
  refine lv_iload_n hx hb dX2_lineSlope_4 rfl (lv_at hl 1 rfl) ?_
  refine ca_Si (As := [.ref a_liB, .int p1]) (rest := []) ⟨hx, hb, hml, hown, hts⟩ (c_X4_at l D cI cJ cZ a_liB 256 liB_r p1 _ ho) (va_cwS 2 hts gX2_lineSlope_X4_at rfl rfl rfl (by decide +kernel) ⟨hRf _ (Nat.le_of_ble_eq_true rfl), hRl _ (Nat.le_of_ble_eq_true rfl)⟩) hK hN hP [1] rfl rfl hl.1 rfl (Nat.le_of_ble_eq_true rfl) dX2_lineSlope_5 ⟨Nat.zero_le _, Nat.zero_le _⟩ (fun r5 ho => ?_)
  subst hQ; exact W.iret (v := r5) hx hb hr (fun t ht _ => ⟨r5, rfl, ho, ht⟩) (fun _ h => by cases h) dX2_lineSlope_8

def wp_X2_toldFor_25 (post : Int32 → Prop)  (li_s : Int32) (liA_r : Nat → Int32) (liB_r : Nat → Int32) (p1 : Int32) (x2 : Int32) : Prop := wp_X2_lineStart (fun r27 => (wp_X2_lineSlope (fun r33 => (wp_X2_onLine (fun r43 => (post r43.toInt32)) r27.toInt64 r33.toInt64 p1.toInt64 li_s)) liB_r x2)) liA_r x2
def wp_X2_toldFor_2_b (post : Int32 → Prop)  (fl_f : Int32) (li_parts : Int32) (li_s : Int32) (liF_r : Nat → Int32) (liA_r : Nat → Int32) (liB_r : Nat → Int32) (p1 : Int32) (K_2 : Int32 → Prop) (x2 : Int32) : Prop := ((li_parts ≤ x2) → (wp_X2_toldFor_25 post li_s liA_r liB_r p1 x2)) ∧ ((¬ (li_parts ≤ x2)) → (wp_X2_lastZ (fun r12 => (((p1 ≤ r12) → (wp_X2_toldFor_25 post li_s liA_r liB_r p1 x2)) ∧ ((¬ (p1 ≤ r12)) → (K_2 (x2 + (1 : Int32)))))) fl_f li_parts liF_r x2))
noncomputable def wp_X2_toldFor_2 (post : Int32 → Prop)  (fl_f : Int32) (li_parts : Int32) (li_s : Int32) (liF_r : Nat → Int32) (liA_r : Nat → Int32) (liB_r : Nat → Int32) (p1 : Int32) (n : Nat) : Int32 → Prop := Nat.rec (motive := fun _ => Int32 → Prop) (fun _ => False) (fun _ K_2 => wp_X2_toldFor_2_b post fl_f li_parts li_s liF_r liA_r liB_r p1 K_2) n
def wp_X2_toldFor (post : Int32 → Prop) (fl_f : Int32) (li_parts : Int32) (li_s : Int32) (liF_r : Nat → Int32) (liA_r : Nat → Int32) (liB_r : Nat → Int32) (p1 : Int32) : Prop := ∃ n, wp_X2_toldFor_2 post fl_f li_parts li_s liF_r liA_r liB_r p1 n (0 : Int32)
set_option maxRecDepth 20000 in
theorem in_X2_toldFor_X2 : ∀ w ∈ u_ws RX2 TX2 10, w ∈ wsX2_toldFor := fun w h => (goodIn_r wsX20 [37, 38, 39, 40, 41, 42, 43, 44, 45, 46] (by decide +kernel) (by decide +kernel) w h).1
set_option maxHeartbeats 4000000 in
set_option maxRecDepth 100000 in
theorem c_X2_toldFor (l : Launch) (D : va_G) (cI cJ cZ : ClassId) (a_fl : Nat) (a_va : Nat) (a_li : Nat) (a_liD : Nat) (a_liF : Nat) (a_liA : Nat) (a_liB : Nat) (fl_e : Int32) (fl_f : Int32) (fl_bias : Int32) (fl_codes : Int32) (fl_signBit : Int32) (fl_endless : Int32) (li_parts : Int32) (li_s : Int32) (li_least : Int64) (li_greatest : Int64) (liF_r : Nat → Int32) (liA_r : Nat → Int32) (liB_r : Nat → Int32) (p1 : Int32) (post : Int32 → Prop) (ho : wp_X2_toldFor post fl_f li_parts li_s liF_r liA_r liB_r p1) : Met l yX2_toldFor wsX2_toldFor ({ frames := 3, cells := 0, slots := 0, locals := 63 } : Room) (ro_P D [(cI, .int), (cJ, .long), (cZ, .boolean)] [.ref a_li, .int p1] [(a_fl, oX1 fl_e fl_f fl_bias fl_codes fl_signBit fl_endless), (a_li, oX2 a_fl a_va a_liD a_liF a_liA a_liB li_parts li_s li_least li_greatest), (a_liF, .inl (cI, 256, .inl liF_r)), (a_liA, .inl (cI, 256, .inl liA_r)), (a_liB, .inl (cI, 256, .inl liB_r))]) (vp_Si post) 0 0 (fun _ => False) := by
  refine Met.ofW (cc := cX2_toldFor) (maxL := 3) (ret := (some .int)) (by decide) rfl ?_
  intro p e s m args below meth c s₁ B hml hv
  obtain ⟨hargs, hP, hK, hN⟩ := hv
  have hx := B.exec
  have hb := B.bytes
  have hr := B.returns
  have hts := atoms_spec (ws := wsX2_toldFor) B.pre
  have hown : s.vm.findClass RX2 = some m.cls := findClass_of_methodNamed B.named
  have hlocks := B.notSynchronized
  have hl := lv_entry ([.ref a_li, .int p1]) (n := 3) (Nat.le_of_ble_eq_true rfl)
  rw [hargs, lg_entry_eq, ← hargs]
  generalize (lg_sl ([.ref a_li, .int p1]) ++ List.replicate (3 - (lg_sl ([.ref a_li, .int p1])).length) Slot.unset).toArray = ls at hl ⊢
  replace hl : lv_has ls 3 [(0, .ref a_li), (1, .int p1)] := hl
  have hRf : ∀ n, n ≤ 3 → n ≤ (headSpec wsX2_toldFor ({ frames := 3, cells := 0, slots := 0, locals := 63 } : Room)).room.frames := fun n h => h
  have hRl : ∀ n, n ≤ 63 → n ≤ (headSpec wsX2_toldFor ({ frames := 3, cells := 0, slots := 0, locals := 63 } : Room)).room.locals := fun n h => h
  generalize (headSpec wsX2_toldFor ({ frames := 3, cells := 0, slots := 0, locals := 63 } : Room)).room = R at hRf hRl ⊢
  generalize hQ : MQ below _ args s 0 0 _ = Q
  have C_25 : ∀ (x2 : Int32) (ls : Array Slot), wp_X2_toldFor_25 post  li_s liA_r liB_r p1 x2 → lv_has ls 3 [(0, .ref a_li), (1, .int p1), (2, .int x2)] → W p l e R s m args below meth c s.heap [] 0 0 Q (F0 m 25 ls []) := by
    intro x2 ls ho hl
    unfold wp_X2_toldFor_25 at ho
    refine lv_aload_n hx hb dX2_toldFor_25 rfl (lv_at hl 0 rfl) ?_
    refine lv_iload_n hx hb dX2_toldFor_26 rfl (lv_at hl 2 rfl) ?_
    refine ca_Vi (b := a_li) (As := [.int x2]) (rest := []) ⟨hx, hb, hml, hown, hts⟩ (c_X2_lineStart l D cI cJ cZ a_fl a_va a_li a_liD a_liF a_liA a_liB li_parts li_s li_least li_greatest liA_r x2 _ ho) (cwV 1 hts gX2_toldFor_X2_lineStart rfl rfl rfl (by decide +kernel) ⟨hRf _ (Nat.le_of_ble_eq_true rfl), hRl _ (Nat.le_of_ble_eq_true rfl)⟩) hK hN hP [1, 3] rfl 0 2 rfl rfl rfl rfl hl.1 rfl (Nat.le_of_ble_eq_true rfl) dX2_toldFor_27 ⟨Nat.zero_le _, Nat.zero_le _⟩ (fun r27 ho => ?_)
    refine lv_i2l hx hb dX2_toldFor_30 rfl ?_
    refine lv_aload_n hx hb dX2_toldFor_31 rfl (lv_at hl 0 rfl) ?_
    refine lv_iload_n hx hb dX2_toldFor_32 rfl (lv_at hl 2 rfl) ?_
    refine ca_Vi (b := a_li) (As := [.int x2]) (rest := [.long r27.toInt64]) ⟨hx, hb, hml, hown, hts⟩ (c_X2_lineSlope l D cI cJ cZ a_fl a_va a_li a_liD a_liF a_liA a_liB li_parts li_s li_least li_greatest liB_r x2 _ ho) (cwV 1 hts gX2_toldFor_X2_lineSlope rfl rfl rfl (by decide +kernel) ⟨hRf _ (Nat.le_of_ble_eq_true rfl), hRl _ (Nat.le_of_ble_eq_true rfl)⟩) hK hN hP [1, 4] rfl 0 2 rfl rfl rfl rfl hl.1 rfl (Nat.le_of_ble_eq_true rfl) dX2_toldFor_33 ⟨Nat.zero_le _, Nat.zero_le _⟩ (fun r33 ho => ?_)
    refine lv_i2l hx hb dX2_toldFor_36 rfl ?_
    refine lv_iload_n hx hb dX2_toldFor_37 rfl (lv_at hl 1 rfl) ?_
    refine lv_i2l hx hb dX2_toldFor_38 rfl ?_
    refine lv_aload_n hx hb dX2_toldFor_39 rfl (lv_at hl 0 rfl) ?_
    refine va_get (D := D) (ci := 2) (v := .int li_s) (C := RX2) (T := TX2) (N := 10) hx hb hts in_X2_toldFor_X2 hown hK hP 1 rfl rfl 7 (by decide) (hts (.fieldLink RX2 61 "HardBench$Lines" "s" "I") (List.mem_of_getElem? (i := 2) (by decide +kernel))) (fun _ h9 => h9) rfl dX2_toldFor_40 ?_
    refine ca_Sl (As := [.long r27.toInt64, .long r33.toInt64, .long p1.toInt64, .int li_s]) (rest := []) ⟨hx, hb, hml, hown, hts⟩ (c_X2_onLine l D cI cJ cZ   r27.toInt64 r33.toInt64 p1.toInt64 li_s _ ho) (va_cwS 4 hts gX2_toldFor_X2_onLine rfl rfl rfl (by decide +kernel) ⟨hRf _ (Nat.le_of_ble_eq_true rfl), hRl _ (Nat.le_of_ble_eq_true rfl)⟩) hK hN hP [] rfl rfl hl.1 rfl (Nat.le_of_ble_eq_true rfl) dX2_toldFor_43 ⟨Nat.zero_le _, Nat.zero_le _⟩ (fun r43 ho => ?_)
    refine lv_l2i hx hb dX2_toldFor_46 rfl ?_
    subst hQ; exact W.iret (v := r43.toInt32) hx hb hr (fun t ht _ => ⟨r43.toInt32, rfl, ho, ht⟩) (fun _ h => by cases h) dX2_toldFor_47
  have C_2 : ∀ n : Nat, ∀ (x2 : Int32) (ls : Array Slot), wp_X2_toldFor_2 post  fl_f li_parts li_s liF_r liA_r liB_r p1 n x2 → lv_has ls 3 [(0, .ref a_li), (1, .int p1), (2, .int x2)] → W p l e R s m args below meth c s.heap [] 0 0 Q (F0 m 2 ls []) := by
    intro n
    induction n with
    | zero => intro x2 ls ho hl; exact ho.elim
    | succ n_2 ih_2 =>
      intro x2 ls ho hl
      replace ho : wp_X2_toldFor_2_b post fl_f li_parts li_s liF_r liA_r liB_r p1 (wp_X2_toldFor_2 post fl_f li_parts li_s liF_r liA_r liB_r p1 n_2) x2 := ho
      unfold wp_X2_toldFor_2_b at ho
      refine lv_iload_n hx hb dX2_toldFor_2 rfl (lv_at hl 2 rfl) ?_
      refine lv_aload_n hx hb dX2_toldFor_3 rfl (lv_at hl 0 rfl) ?_
      refine va_get (D := D) (ci := 2) (v := .int li_parts) (C := RX2) (T := TX2) (N := 10) hx hb hts in_X2_toldFor_X2 hown hK hP 1 rfl rfl 6 (by decide) (hts (.fieldLink RX2 32 "HardBench$Lines" "parts" "I") (List.mem_of_getElem? (i := 1) (by decide +kernel))) (fun _ h9 => h9) rfl dX2_toldFor_4 ?_
      refine lv_icmp_ge (tgt := 25) hx hb dX2_toldFor_7 (by decide) (fun c_7 => ?_) (fun c_7 => ?_)
      · replace ho := ho.1 c_7
        exact C_25 x2 ls ho (lv_sub hl [0, 1, 2] rfl)
      · replace ho := ho.2 c_7
        refine lv_aload_n hx hb dX2_toldFor_10 rfl (lv_at hl 0 rfl) ?_
        refine lv_iload_n hx hb dX2_toldFor_11 rfl (lv_at hl 2 rfl) ?_
        refine ca_Vi (b := a_li) (As := [.int x2]) (rest := []) ⟨hx, hb, hml, hown, hts⟩ (c_X2_lastZ l D cI cJ cZ a_fl a_va a_li a_liD a_liF a_liA a_liB fl_e fl_f fl_bias fl_codes fl_signBit fl_endless li_parts li_s li_least li_greatest liF_r x2 _ ho) (cwV 1 hts gX2_toldFor_X2_lastZ rfl rfl rfl (by decide +kernel) ⟨hRf _ (Nat.le_of_ble_eq_true rfl), hRl _ (Nat.le_of_ble_eq_true rfl)⟩) hK hN hP [0, 1, 2] rfl 1 2 rfl rfl rfl rfl hl.1 rfl (Nat.le_of_ble_eq_true rfl) dX2_toldFor_12 ⟨Nat.zero_le _, Nat.zero_le _⟩ (fun r12 ho => ?_)
        refine lv_iload_n hx hb dX2_toldFor_15 rfl (lv_at hl 1 rfl) ?_
        refine lv_icmp_ge (tgt := 25) hx hb dX2_toldFor_16 (by decide) (fun c_16 => ?_) (fun c_16 => ?_)
        · replace ho := ho.1 c_16
          exact C_25 x2 ls ho (lv_sub hl [0, 1, 2] rfl)
        · replace ho := ho.2 c_16
          refine lv_iinc (v := (x2 + (1 : Int32))) (lv' := [(2, .int (x2 + (1 : Int32))), (0, .ref a_li), (1, .int p1)]) hx hb dX2_toldFor_19 hl (k := 2) rfl rfl (by decide) rfl (fun ls hl => ?_)
          refine lv_goto (tgt := 2) hx hb dX2_toldFor_22 (by decide) ?_
          exact ih_2 (x2 + (1 : Int32)) ls ho (lv_sub hl [1, 2, 0] rfl)
  unfold wp_X2_toldFor at ho
  refine lv_iconst (v := 0) hx hb dX2_toldFor_0 (by decide) ?_
  refine lv_istore_n (lv' := [(2, .int (0 : Int32)), (0, .ref a_li), (1, .int p1)]) hx hb dX2_toldFor_1 rfl hl (by decide) rfl (fun ls hl => ?_)
  obtain ⟨n_2, ho⟩ := ho
  exact C_2 n_2 (0 : Int32) ls ho (lv_sub hl [1, 2, 0] rfl)

def wp_X2_readDue_3_b (post : Int64 → Int32 → Int32 → Int32 → Int32 → Int32 → Int32 → Int32 → Int32 → Int32 → Int32 → (Nat → Int32) → Prop)  (fl_f : Int32) (fl_bias : Int32) (fl_signBit : Int32) (fl_endless : Int32) (p1 : Int32) (p2 : Int32) (p3 : Int32) (K_3 : Int64 → Int32 → Int32 → Int32 → Int32 → Int32 → Int32 → Int32 → Int32 → Int32 → Int32 → (Nat → Int32) → Int32 → Prop) (va_m : Int64) (va_x : Int32) (va_more : Int32) (va_laid : Int32) (va_below : Int32) (va_settled : Int32) (va_sort : Int32) (p2_lower : Int32) (p2_way : Int32) (p2_more : Int32) (p2_beyond : Int32) (liD_r : Nat → Int32) (x4 : Int32) : Prop := wp_X1_zs (fun r9 => (((r9 ≤ x4) → (post  va_m va_x va_more va_laid va_below va_settled va_sort p2_lower p2_way p2_more p2_beyond liD_r)) ∧ ((¬ (r9 ≤ x4)) → (wp_X1_codeOf (fun r33 => (wp_X6_resultAt (fun r37 u37_1 u37_2 u37_3 u37_4 u37_5 u37_6 u37_7 u37_8 u37_9 u37_10 u37_11 => (wp_X4_put (fun u40 => (K_3 u37_1 u37_2 u37_3 u37_4 u37_5 u37_6 u37_7 u37_8 u37_9 u37_10 u37_11 u40 (x4 + (1 : Int32)))) 256 liD_r x4 r37)) fl_f fl_bias fl_signBit fl_endless va_m va_x va_more va_below va_settled p2_lower p2_way p2_more p2_beyond p1 r33 p2)) fl_f p3 x4)))) fl_f
noncomputable def wp_X2_readDue_3 (post : Int64 → Int32 → Int32 → Int32 → Int32 → Int32 → Int32 → Int32 → Int32 → Int32 → Int32 → (Nat → Int32) → Prop)  (fl_f : Int32) (fl_bias : Int32) (fl_signBit : Int32) (fl_endless : Int32) (p1 : Int32) (p2 : Int32) (p3 : Int32) (n : Nat) : Int64 → Int32 → Int32 → Int32 → Int32 → Int32 → Int32 → Int32 → Int32 → Int32 → Int32 → (Nat → Int32) → Int32 → Prop := Nat.rec (motive := fun _ => Int64 → Int32 → Int32 → Int32 → Int32 → Int32 → Int32 → Int32 → Int32 → Int32 → Int32 → (Nat → Int32) → Int32 → Prop) (fun _ _ _ _ _ _ _ _ _ _ _ _ _ => False) (fun _ K_3 => wp_X2_readDue_3_b post fl_f fl_bias fl_signBit fl_endless p1 p2 p3 K_3) n
def wp_X2_readDue (post : Int64 → Int32 → Int32 → Int32 → Int32 → Int32 → Int32 → Int32 → Int32 → Int32 → Int32 → (Nat → Int32) → Prop) (fl_f : Int32) (fl_bias : Int32) (fl_signBit : Int32) (fl_endless : Int32) (va_m : Int64) (va_x : Int32) (va_more : Int32) (va_laid : Int32) (va_below : Int32) (va_settled : Int32) (va_sort : Int32) (p2_lower : Int32) (p2_way : Int32) (p2_more : Int32) (p2_beyond : Int32) (liD_r : Nat → Int32) (p1 : Int32) (p2 : Int32) (p3 : Int32) : Prop := ∃ n, wp_X2_readDue_3 post fl_f fl_bias fl_signBit fl_endless p1 p2 p3 n va_m va_x va_more va_laid va_below va_settled va_sort p2_lower p2_way p2_more p2_beyond liD_r (0 : Int32)
set_option maxRecDepth 20000 in
theorem in_X2_readDue_X2 : ∀ w ∈ u_ws RX2 TX2 10, w ∈ wsX2_readDue := fun w h => (goodIn_r wsX20 [157, 158, 159, 160, 161, 162, 163, 164, 165, 166] (by decide +kernel) (by decide +kernel) w h).1
set_option maxHeartbeats 4000000 in
set_option maxRecDepth 100000 in
theorem c_X2_readDue (l : Launch) (D : va_G) (cI cJ cZ : ClassId) (a_fl : Nat) (a_va : Nat) (a_p2 : Nat) (a_li : Nat) (a_liD : Nat) (a_liF : Nat) (a_liA : Nat) (a_liB : Nat) (sz : Nat) (fl_e : Int32) (fl_f : Int32) (fl_bias : Int32) (fl_codes : Int32) (fl_signBit : Int32) (fl_endless : Int32) (va_m : Int64) (va_x : Int32) (va_more : Int32) (va_laid : Int32) (va_below : Int32) (va_settled : Int32) (va_sort : Int32) (p2_lower : Int32) (p2_way : Int32) (p2_more : Int32) (p2_beyond : Int32) (li_parts : Int32) (li_s : Int32) (li_least : Int64) (li_greatest : Int64) (liD_r : Nat → Int32) (p1 : Int32) (p2 : Int32) (p3 : Int32) (post : Int64 → Int32 → Int32 → Int32 → Int32 → Int32 → Int32 → Int32 → Int32 → Int32 → Int32 → (Nat → Int32) → Prop) (A : Nat → Prop) (hAe : A = va_A [(a_fl, oX1 fl_e fl_f fl_bias fl_codes fl_signBit fl_endless), (a_va, oX6 a_fl a_p2 va_m va_x va_more va_laid va_below va_settled va_sort), (a_p2, oX3 a_fl p2_lower p2_way p2_more p2_beyond), (a_li, oX2 a_fl a_va a_liD a_liF a_liA a_liB li_parts li_s li_least li_greatest), (a_liD, .inl (cI, 256, .inl liD_r))] sz) (ho : wp_X2_readDue post fl_f fl_bias fl_signBit fl_endless va_m va_x va_more va_laid va_below va_settled va_sort p2_lower p2_way p2_more p2_beyond liD_r p1 p2 p3) : Met l yX2_readDue wsX2_readDue ({ frames := 5, cells := 0, slots := 0, locals := 126 } : Room) (rw_P D [(cI, .int), (cJ, .long), (cZ, .boolean)] [.ref a_li, .int p1, .int p2, .int p3] sz [(a_fl, oX1 fl_e fl_f fl_bias fl_codes fl_signBit fl_endless), (a_va, oX6 a_fl a_p2 va_m va_x va_more va_laid va_below va_settled va_sort), (a_p2, oX3 a_fl p2_lower p2_way p2_more p2_beyond), (a_li, oX2 a_fl a_va a_liD a_liF a_liA a_liB li_parts li_s li_least li_greatest), (a_liD, .inl (cI, 256, .inl liD_r))]) (va_Qv (fun (u : (Int64) × (Int32) × (Int32) × (Int32) × (Int32) × (Int32) × (Int32) × (Int32) × (Int32) × (Int32) × (Int32) × (Nat → Int32)) => post u.1 u.2.1 u.2.2.1 u.2.2.2.1 u.2.2.2.2.1 u.2.2.2.2.2.1 u.2.2.2.2.2.2.1 u.2.2.2.2.2.2.2.1 u.2.2.2.2.2.2.2.2.1 u.2.2.2.2.2.2.2.2.2.1 u.2.2.2.2.2.2.2.2.2.2.1 u.2.2.2.2.2.2.2.2.2.2.2) (rw_B D A (fun (u : (Int64) × (Int32) × (Int32) × (Int32) × (Int32) × (Int32) × (Int32) × (Int32) × (Int32) × (Int32) × (Int32) × (Nat → Int32)) => [(a_fl, oX1 fl_e fl_f fl_bias fl_codes fl_signBit fl_endless), (a_va, oX6 a_fl a_p2 u.1 u.2.1 u.2.2.1 u.2.2.2.1 u.2.2.2.2.1 u.2.2.2.2.2.1 u.2.2.2.2.2.2.1), (a_p2, oX3 a_fl u.2.2.2.2.2.2.2.1 u.2.2.2.2.2.2.2.2.1 u.2.2.2.2.2.2.2.2.2.1 u.2.2.2.2.2.2.2.2.2.2.1), (a_li, oX2 a_fl a_va a_liD a_liF a_liA a_liB li_parts li_s li_least li_greatest), (a_liD, .inl (cI, 256, .inl u.2.2.2.2.2.2.2.2.2.2.2))])) A) 0 0 A := by
  refine Met.ofW (cc := cX2_readDue) (maxL := 5) (ret := none) (by decide) rfl ?_
  intro p e s m args below meth c s₁ B hml hv
  obtain ⟨hargs, hsz, hP, hK, hN, hD0⟩ := hv
  have hx := B.exec
  have hb := B.bytes
  have hr := B.returns
  have hts := atoms_spec (ws := wsX2_readDue) B.pre
  have hown : s.vm.findClass RX2 = some m.cls := findClass_of_methodNamed B.named
  have hlocks := B.notSynchronized
  subst hsz
  have hD : va_D A [(a_fl, oX1 fl_e fl_f fl_bias fl_codes fl_signBit fl_endless), (a_va, oX6 a_fl a_p2 va_m va_x va_more va_laid va_below va_settled va_sort), (a_p2, oX3 a_fl p2_lower p2_way p2_more p2_beyond), (a_li, oX2 a_fl a_va a_liD a_liF a_liA a_liB li_parts li_s li_least li_greatest), (a_liD, .inl (cI, 256, .inl liD_r))] := by rw [hAe]; exact hD0.self
  have hA : ∀ q : Nat, s.heap.size ≤ q → A q := fun q h => by rw [hAe]; exact Or.inr h
  have hS : va_S A s.heap s.heap [] := va_S.rf
  have hl := lv_entry ([.ref a_li, .int p1, .int p2, .int p3]) (n := 5) (Nat.le_of_ble_eq_true rfl)
  rw [hargs, lg_entry_eq, ← hargs]
  generalize (lg_sl ([.ref a_li, .int p1, .int p2, .int p3]) ++ List.replicate (5 - (lg_sl ([.ref a_li, .int p1, .int p2, .int p3])).length) Slot.unset).toArray = ls at hl ⊢
  replace hl : lv_has ls 5 [(0, .ref a_li), (1, .int p1), (2, .int p2), (3, .int p3)] := hl
  have hRf : ∀ n, n ≤ 5 → n ≤ (headSpec wsX2_readDue ({ frames := 5, cells := 0, slots := 0, locals := 126 } : Room)).room.frames := fun n h => h
  have hRl : ∀ n, n ≤ 126 → n ≤ (headSpec wsX2_readDue ({ frames := 5, cells := 0, slots := 0, locals := 126 } : Room)).room.locals := fun n h => h
  generalize (headSpec wsX2_readDue ({ frames := 5, cells := 0, slots := 0, locals := 126 } : Room)).room = R at hRf hRl ⊢
  generalize hQ : MQ below _ args s 0 0 _ = Q
  have C_3 : ∀ n : Nat, ∀ (va_m : Int64) (va_x : Int32) (va_more : Int32) (va_laid : Int32) (va_below : Int32) (va_settled : Int32) (va_sort : Int32) (p2_lower : Int32) (p2_way : Int32) (p2_more : Int32) (p2_beyond : Int32) (liD_r : Nat → Int32) (x4 : Int32) (H : Heap) (locs : List Loc) (ls : Array Slot), wp_X2_readDue_3 post  fl_f fl_bias fl_signBit fl_endless p1 p2 p3 n va_m va_x va_more va_laid va_below va_settled va_sort p2_lower p2_way p2_more p2_beyond liD_r x4 → va_P D vwCl [(a_fl, oX1 fl_e fl_f fl_bias fl_codes fl_signBit fl_endless), (a_va, oX6 a_fl a_p2 va_m va_x va_more va_laid va_below va_settled va_sort), (a_p2, oX3 a_fl p2_lower p2_way p2_more p2_beyond), (a_li, oX2 a_fl a_va a_liD a_liF a_liA a_liB li_parts li_s li_least li_greatest), (a_liD, .inl (cI, 256, .inl liD_r))] H → va_D A [(a_fl, oX1 fl_e fl_f fl_bias fl_codes fl_signBit fl_endless), (a_va, oX6 a_fl a_p2 va_m va_x va_more va_laid va_below va_settled va_sort), (a_p2, oX3 a_fl p2_lower p2_way p2_more p2_beyond), (a_li, oX2 a_fl a_va a_liD a_liF a_liA a_liB li_parts li_s li_least li_greatest), (a_liD, .inl (cI, 256, .inl liD_r))] → va_S A s.heap H locs → lv_has ls 5 [(0, .ref a_li), (1, .int p1), (2, .int p2), (3, .int p3), (4, .int x4)] → W p l e R s m args below meth c H locs 0 0 Q (F0 m 3 ls []) := by
    intro n
    induction n with
    | zero => intro va_m va_x va_more va_laid va_below va_settled va_sort p2_lower p2_way p2_more p2_beyond liD_r x4 H locs ls ho hP hD hS hl; exact ho.elim
    | succ n_3 ih_3 =>
      intro va_m va_x va_more va_laid va_below va_settled va_sort p2_lower p2_way p2_more p2_beyond liD_r x4 H locs ls ho hP hD hS hl
      replace ho : wp_X2_readDue_3_b post fl_f fl_bias fl_signBit fl_endless p1 p2 p3 (wp_X2_readDue_3 post fl_f fl_bias fl_signBit fl_endless p1 p2 p3 n_3) va_m va_x va_more va_laid va_below va_settled va_sort p2_lower p2_way p2_more p2_beyond liD_r x4 := ho
      unfold wp_X2_readDue_3_b at ho
      refine lv_iload hx hb dX2_readDue_3 (lv_at hl 4 rfl) ?_
      refine lv_aload_n hx hb dX2_readDue_5 rfl (lv_at hl 0 rfl) ?_
      refine va_get (D := D) (ci := 2) (v := .ref a_fl) (C := RX2) (T := TX2) (N := 10) hx hb hts in_X2_readDue_X2 hown hK hP 3 rfl rfl 0 (by decide) (hts (.fieldLink RX2 9 "HardBench$Lines" "floats" "LHardBench$Floats;") (List.mem_of_getElem? (i := 1) (by decide +kernel))) (fun _ h9 => h9) rfl dX2_readDue_6 ?_
      refine ca_Vi (b := a_fl) (As := []) (rest := [.int x4]) ⟨hx, hb, hml, hown, hts⟩ (c_X1_zs l D cI cJ cZ a_fl fl_e fl_f fl_bias fl_codes fl_signBit fl_endless  _ ho) (cwV 0 hts gX2_readDue_X1_zs rfl rfl rfl (by decide +kernel) ⟨hRf _ (Nat.le_of_ble_eq_true rfl), hRl _ (Nat.le_of_ble_eq_true rfl)⟩) hK hN hP [0] rfl 0 1 rfl rfl rfl rfl hl.1 rfl (Nat.le_of_ble_eq_true rfl) dX2_readDue_9 ⟨Nat.zero_le _, Nat.zero_le _⟩ (fun r9 ho => ?_)
      refine lv_icmp_ge (tgt := 49) hx hb dX2_readDue_12 (by decide) (fun c_12 => ?_) (fun c_12 => ?_)
      · replace ho := ho.1 c_12
        subst hQ; exact W.vret hx hb hr (fun t ht hW => ⟨⟨(va_m, va_x, va_more, va_laid, va_below, va_settled, va_sort, p2_lower, p2_way, p2_more, p2_beyond, liD_r), rfl, ho, by rw [ht]; exact hP, hD⟩, hS.F ht⟩) (fun q hq => hS.2.2 q hq) dX2_readDue_49
      · replace ho := ho.2 c_12
        refine lv_aload_n hx hb dX2_readDue_15 rfl (lv_at hl 0 rfl) ?_
        refine va_get (D := D) (ci := 2) (v := .ref a_liD) (C := RX2) (T := TX2) (N := 10) hx hb hts in_X2_readDue_X2 hown hK hP 3 rfl rfl 2 (by decide) (hts (.fieldLink RX2 19 "HardBench$Lines" "due" "[I") (List.mem_of_getElem? (i := 2) (by decide +kernel))) (fun _ h9 => h9) rfl dX2_readDue_16 ?_
        refine lv_iload hx hb dX2_readDue_19 (lv_at hl 4 rfl) ?_
        refine lv_aload_n hx hb dX2_readDue_21 rfl (lv_at hl 0 rfl) ?_
        refine va_get (D := D) (ci := 2) (v := .ref a_va) (C := RX2) (T := TX2) (N := 10) hx hb hts in_X2_readDue_X2 hown hK hP 3 rfl rfl 1 (by decide) (hts (.fieldLink RX2 15 "HardBench$Lines" "value" "LHardBench$Value;") (List.mem_of_getElem? (i := 3) (by decide +kernel))) (fun _ h9 => h9) rfl dX2_readDue_22 ?_
        refine lv_iload_n hx hb dX2_readDue_25 rfl (lv_at hl 1 rfl) ?_
        refine lv_aload_n hx hb dX2_readDue_26 rfl (lv_at hl 0 rfl) ?_
        refine va_get (D := D) (ci := 2) (v := .ref a_fl) (C := RX2) (T := TX2) (N := 10) hx hb hts in_X2_readDue_X2 hown hK hP 3 rfl rfl 0 (by decide) (hts (.fieldLink RX2 9 "HardBench$Lines" "floats" "LHardBench$Floats;") (List.mem_of_getElem? (i := 1) (by decide +kernel))) (fun _ h9 => h9) rfl dX2_readDue_27 ?_
        refine lv_iload_n hx hb dX2_readDue_30 rfl (lv_at hl 3 rfl) ?_
        refine lv_iload hx hb dX2_readDue_31 (lv_at hl 4 rfl) ?_
        refine ca_Vi (b := a_fl) (As := [.int p3, .int x4]) (rest := [.int p1, .ref a_va, .int x4, .ref a_liD]) ⟨hx, hb, hml, hown, hts⟩ (c_X1_codeOf l D cI cJ cZ a_fl fl_e fl_f fl_bias fl_codes fl_signBit fl_endless p3 x4 _ ho) (cwV 2 hts gX2_readDue_X1_codeOf rfl rfl rfl (by decide +kernel) ⟨hRf _ (Nat.le_of_ble_eq_true rfl), hRl _ (Nat.le_of_ble_eq_true rfl)⟩) hK hN hP [0] rfl 0 1 rfl rfl rfl rfl hl.1 rfl (Nat.le_of_ble_eq_true rfl) dX2_readDue_33 ⟨Nat.zero_le _, Nat.zero_le _⟩ (fun r33 ho => ?_)
        refine lv_iload_n hx hb dX2_readDue_36 rfl (lv_at hl 2 rfl) ?_
        refine ca_Wi (b := a_va) (As := [.int p1, .int r33, .int p2]) (rest := [.int x4, .ref a_liD]) (wr := [(a_li, oX2 a_fl a_va a_liD a_liF a_liA a_liB li_parts li_s li_least li_greatest), (a_liD, .inl (cI, 256, .inl liD_r))]) (wo := fun u => [(a_fl, oX1 fl_e fl_f fl_bias fl_codes fl_signBit fl_endless), (a_va, oX6 a_fl a_p2 u.1 u.2.1 u.2.2.1 u.2.2.2.1 u.2.2.2.2.1 u.2.2.2.2.2.1 u.2.2.2.2.2.2.1), (a_p2, oX3 a_fl u.2.2.2.2.2.2.2.1 u.2.2.2.2.2.2.2.2.1 u.2.2.2.2.2.2.2.2.2.1 u.2.2.2.2.2.2.2.2.2.2)]) (wn := fun u => [(a_fl, oX1 fl_e fl_f fl_bias fl_codes fl_signBit fl_endless), (a_va, oX6 a_fl a_p2 u.1 u.2.1 u.2.2.1 u.2.2.2.1 u.2.2.2.2.1 u.2.2.2.2.2.1 u.2.2.2.2.2.2.1), (a_p2, oX3 a_fl u.2.2.2.2.2.2.2.1 u.2.2.2.2.2.2.2.2.1 u.2.2.2.2.2.2.2.2.2.1 u.2.2.2.2.2.2.2.2.2.2), (a_li, oX2 a_fl a_va a_liD a_liF a_liA a_liB li_parts li_s li_least li_greatest), (a_liD, .inl (cI, 256, .inl liD_r))]) ⟨hx, hb, hml, hown, hts⟩ (c_X6_resultAt l D cI cJ cZ a_fl a_va a_p2 H.size fl_e fl_f fl_bias fl_codes fl_signBit fl_endless va_m va_x va_more va_laid va_below va_settled va_sort p2_lower p2_way p2_more p2_beyond p1 r33 p2 _ _ rfl ho) (cwV 3 hts gX2_readDue_X6_resultAt rfl rfl rfl (by decide +kernel) ⟨hRf _ (Nat.le_of_ble_eq_true rfl), hRl _ (Nat.le_of_ble_eq_true rfl)⟩) hK hN hP hD hS hA [0, 1, 2] [3, 4] [2, 3, 4, 0, 1] rfl rfl (by decide) (by decide) (by decide) (by decide) (fun _ => rfl) 1 5 rfl rfl rfl rfl hl.1 rfl (Nat.le_of_ble_eq_true rfl) dX2_readDue_37 ⟨Nat.zero_le _, Nat.zero_le _⟩ (fun r37 u37 H locs ho hP hD hS => ?_)
        obtain ⟨u37_1, u37_2, u37_3, u37_4, u37_5, u37_6, u37_7, u37_8, u37_9, u37_10, u37_11⟩ := u37
        try dsimp only at ho
        replace hP : va_P D vwCl [(a_fl, oX1 fl_e fl_f fl_bias fl_codes fl_signBit fl_endless), (a_va, oX6 a_fl a_p2 u37_1 u37_2 u37_3 u37_4 u37_5 u37_6 u37_7), (a_p2, oX3 a_fl u37_8 u37_9 u37_10 u37_11), (a_li, oX2 a_fl a_va a_liD a_liF a_liA a_liB li_parts li_s li_least li_greatest), (a_liD, .inl (cI, 256, .inl liD_r))] H := hP
        replace hD : va_D A [(a_fl, oX1 fl_e fl_f fl_bias fl_codes fl_signBit fl_endless), (a_va, oX6 a_fl a_p2 u37_1 u37_2 u37_3 u37_4 u37_5 u37_6 u37_7), (a_p2, oX3 a_fl u37_8 u37_9 u37_10 u37_11), (a_li, oX2 a_fl a_va a_liD a_liF a_liA a_liB li_parts li_s li_least li_greatest), (a_liD, .inl (cI, 256, .inl liD_r))] := hD
        refine ca_Tv (As := [.ref a_liD, .int x4, .int r37]) (rest := []) (wr := [(a_fl, oX1 fl_e fl_f fl_bias fl_codes fl_signBit fl_endless), (a_va, oX6 a_fl a_p2 u37_1 u37_2 u37_3 u37_4 u37_5 u37_6 u37_7), (a_p2, oX3 a_fl u37_8 u37_9 u37_10 u37_11), (a_li, oX2 a_fl a_va a_liD a_liF a_liA a_liB li_parts li_s li_least li_greatest)]) (wo := fun u => [(a_liD, .inl (cI, 256, .inl u))]) (wn := fun u => [(a_fl, oX1 fl_e fl_f fl_bias fl_codes fl_signBit fl_endless), (a_va, oX6 a_fl a_p2 u37_1 u37_2 u37_3 u37_4 u37_5 u37_6 u37_7), (a_p2, oX3 a_fl u37_8 u37_9 u37_10 u37_11), (a_li, oX2 a_fl a_va a_liD a_liF a_liA a_liB li_parts li_s li_least li_greatest), (a_liD, .inl (cI, 256, .inl u))]) ⟨hx, hb, hml, hown, hts⟩ (c_X4_put l D cI cJ cZ a_liD H.size 256 liD_r x4 r37 _ _ rfl ho) (va_cwS 3 hts gX2_readDue_X4_put rfl rfl rfl (by decide +kernel) ⟨hRf _ (Nat.le_of_ble_eq_true rfl), hRl _ (Nat.le_of_ble_eq_true rfl)⟩) hK hN hP hD hS hA [4] [0, 1, 2, 3] [0, 1, 2, 3, 4] rfl rfl (by decide) (by decide) (by decide) (by decide) (fun _ => rfl) rfl hl.1 rfl (Nat.le_of_ble_eq_true rfl) dX2_readDue_40 ⟨Nat.zero_le _, Nat.zero_le _⟩ (fun  u40 H locs ho hP hD hS => ?_)
        try dsimp only at ho
        replace hP : va_P D vwCl [(a_fl, oX1 fl_e fl_f fl_bias fl_codes fl_signBit fl_endless), (a_va, oX6 a_fl a_p2 u37_1 u37_2 u37_3 u37_4 u37_5 u37_6 u37_7), (a_p2, oX3 a_fl u37_8 u37_9 u37_10 u37_11), (a_li, oX2 a_fl a_va a_liD a_liF a_liA a_liB li_parts li_s li_least li_greatest), (a_liD, .inl (cI, 256, .inl u40))] H := hP
        replace hD : va_D A [(a_fl, oX1 fl_e fl_f fl_bias fl_codes fl_signBit fl_endless), (a_va, oX6 a_fl a_p2 u37_1 u37_2 u37_3 u37_4 u37_5 u37_6 u37_7), (a_p2, oX3 a_fl u37_8 u37_9 u37_10 u37_11), (a_li, oX2 a_fl a_va a_liD a_liF a_liA a_liB li_parts li_s li_least li_greatest), (a_liD, .inl (cI, 256, .inl u40))] := hD
        refine lv_iinc (v := (x4 + (1 : Int32))) (lv' := [(4, .int (x4 + (1 : Int32))), (0, .ref a_li), (1, .int p1), (2, .int p2), (3, .int p3)]) hx hb dX2_readDue_43 hl (k := 4) rfl rfl (by decide) rfl (fun ls hl => ?_)
        refine lv_goto (tgt := 3) hx hb dX2_readDue_46 (by decide) ?_
        exact ih_3 u37_1 u37_2 u37_3 u37_4 u37_5 u37_6 u37_7 u37_8 u37_9 u37_10 u37_11 u40 (x4 + (1 : Int32)) H locs ls ho hP hD hS (lv_sub hl [1, 2, 3, 4, 0] rfl)
  unfold wp_X2_readDue at ho
  refine lv_iconst (v := 0) hx hb dX2_readDue_0 (by decide) ?_
  refine lv_istore (lv' := [(4, .int (0 : Int32)), (0, .ref a_li), (1, .int p1), (2, .int p2), (3, .int p3)]) hx hb dX2_readDue_1 hl (by decide) rfl (fun ls hl => ?_)
  obtain ⟨n_3, ho⟩ := ho
  exact C_3 n_3 va_m va_x va_more va_laid va_below va_settled va_sort p2_lower p2_way p2_more p2_beyond liD_r (0 : Int32) H locs ls ho hP hD hS (lv_sub hl [1, 2, 3, 4, 0] rfl)

def wp_X2_widen_12 (post : Int64 → Int64 → Prop)  (p1 : Int32) (y0 : Int64) : Prop := ((¬ p1 = 0) → (post  y0 (1099511627776 : Int64))) ∧ ((¬ (¬ p1 = 0)) → (post  y0 (0 : Int64)))
def wp_X2_widen (post : Int64 → Int64 → Prop) (p1 : Int32) : Prop := ((¬ p1 = 0) → (wp_X2_widen_12 post p1 (-1099511627776 : Int64))) ∧ ((¬ (¬ p1 = 0)) → (wp_X2_widen_12 post p1 (0 : Int64)))
set_option maxRecDepth 20000 in
theorem in_X2_widen_X2 : ∀ w ∈ u_ws RX2 TX2 10, w ∈ wsX2_widen := fun w h => (goodIn_r wsX20 [5, 6, 7, 8, 9, 10, 11, 12, 13, 14] (by decide +kernel) (by decide +kernel) w h).1
set_option maxHeartbeats 4000000 in
set_option maxRecDepth 100000 in
theorem c_X2_widen (l : Launch) (D : va_G) (cI cJ cZ : ClassId) (a_fl : Nat) (a_va : Nat) (a_li : Nat) (a_liD : Nat) (a_liF : Nat) (a_liA : Nat) (a_liB : Nat) (sz : Nat) (li_parts : Int32) (li_s : Int32) (li_least : Int64) (li_greatest : Int64) (p1 : Int32) (post : Int64 → Int64 → Prop) (A : Nat → Prop) (hAe : A = va_A [(a_li, oX2 a_fl a_va a_liD a_liF a_liA a_liB li_parts li_s li_least li_greatest)] sz) (ho : wp_X2_widen post p1) : Met l yX2_widen wsX2_widen ({ frames := 0, cells := 0, slots := 0, locals := 0 } : Room) (rw_P D [(cI, .int), (cJ, .long), (cZ, .boolean)] [.ref a_li, .int p1] sz [(a_li, oX2 a_fl a_va a_liD a_liF a_liA a_liB li_parts li_s li_least li_greatest)]) (va_Qv (fun (u : (Int64) × (Int64)) => post u.1 u.2) (rw_B D A (fun (u : (Int64) × (Int64)) => [(a_li, oX2 a_fl a_va a_liD a_liF a_liA a_liB li_parts li_s u.1 u.2)])) A) 0 0 A := by
  refine Met.ofW (cc := cX2_widen) (maxL := 2) (ret := none) (by decide) rfl ?_
  intro p e s m args below meth c s₁ B hml hv
  obtain ⟨hargs, hsz, hP, hK, hN, hD0⟩ := hv
  have hx := B.exec
  have hb := B.bytes
  have hr := B.returns
  have hts := atoms_spec (ws := wsX2_widen) B.pre
  have hown : s.vm.findClass RX2 = some m.cls := findClass_of_methodNamed B.named
  have hlocks := B.notSynchronized
  subst hsz
  have hD : va_D A [(a_li, oX2 a_fl a_va a_liD a_liF a_liA a_liB li_parts li_s li_least li_greatest)] := by rw [hAe]; exact hD0.self
  have hA : ∀ q : Nat, s.heap.size ≤ q → A q := fun q h => by rw [hAe]; exact Or.inr h
  have hS : va_S A s.heap s.heap [] := va_S.rf
  have hl := lv_entry ([.ref a_li, .int p1]) (n := 2) (Nat.le_of_ble_eq_true rfl)
  rw [hargs, lg_entry_eq, ← hargs]
  generalize (lg_sl ([.ref a_li, .int p1]) ++ List.replicate (2 - (lg_sl ([.ref a_li, .int p1])).length) Slot.unset).toArray = ls at hl ⊢
  replace hl : lv_has ls 2 [(0, .ref a_li), (1, .int p1)] := hl
  have hRf : ∀ n, n ≤ 0 → n ≤ (headSpec wsX2_widen ({ frames := 0, cells := 0, slots := 0, locals := 0 } : Room)).room.frames := fun n h => h
  have hRl : ∀ n, n ≤ 0 → n ≤ (headSpec wsX2_widen ({ frames := 0, cells := 0, slots := 0, locals := 0 } : Room)).room.locals := fun n h => h
  generalize (headSpec wsX2_widen ({ frames := 0, cells := 0, slots := 0, locals := 0 } : Room)).room = R at hRf hRl ⊢
  generalize hQ : MQ below _ args s 0 0 _ = Q
  have C_12 : ∀ (li_least : Int64) (li_greatest : Int64) (y0 : Int64) (H : Heap) (locs : List Loc) (ls : Array Slot), wp_X2_widen_12 post  p1 y0 → va_P D vwCl [(a_li, oX2 a_fl a_va a_liD a_liF a_liA a_liB li_parts li_s li_least li_greatest)] H → va_D A [(a_li, oX2 a_fl a_va a_liD a_liF a_liA a_liB li_parts li_s li_least li_greatest)] → va_S A s.heap H locs → lv_has ls 2 [(0, .ref a_li), (1, .int p1)] → W p l e R s m args below meth c H locs 0 0 Q (F0 m 12 ls [.long y0, .ref a_li]) := by
    intro li_least li_greatest y0 H locs ls ho hP hD hS hl
    unfold wp_X2_widen_12 at ho
    refine va_put (D := D) (ci := 2) (v := .long y0) (ty := .long) (C := RX2) (T := TX2) (N := 10) hx hb hts in_X2_widen_X2 tyX2 tyX2_ok nmX2 hown hK hP hD hS 0 rfl rfl 8 (by decide) (hts (.fieldLink RX2 96 "HardBench$Lines" "least" "J") (List.mem_of_getElem? (i := 2) (by decide +kernel))) (fun _ h9 => h9) rfl (by decide +kernel) rfl rfl (Nat.le_of_ble_eq_true rfl) dX2_widen_12 (fun H locs hP hD hS => ?_)
    replace hP : va_P D vwCl [(a_li, oX2 a_fl a_va a_liD a_liF a_liA a_liB li_parts li_s y0 li_greatest)] H := hP
    replace hD : va_D A [(a_li, oX2 a_fl a_va a_liD a_liF a_liA a_liB li_parts li_s y0 li_greatest)] := hD
    refine lv_aload_n hx hb dX2_widen_15 rfl (lv_at hl 0 rfl) ?_
    refine lv_iload_n hx hb dX2_widen_16 rfl (lv_at hl 1 rfl) ?_
    refine lv_if_ne (tgt := 24) hx hb dX2_widen_17 (by decide) (fun c_17 => ?_) (fun c_17 => ?_)
    · replace ho := ho.1 c_17
      refine lv_ldc2 hx hb hown (hts (.constantLong RX2 100 (1099511627776)) (List.mem_of_getElem? (i := 3) (by decide +kernel))) dX2_widen_24 ?_
      refine va_put (D := D) (ci := 2) (v := .long (1099511627776 : Int64)) (ty := .long) (C := RX2) (T := TX2) (N := 10) hx hb hts in_X2_widen_X2 tyX2 tyX2_ok nmX2 hown hK hP hD hS 0 rfl rfl 9 (by decide) (hts (.fieldLink RX2 102 "HardBench$Lines" "greatest" "J") (List.mem_of_getElem? (i := 4) (by decide +kernel))) (fun _ h9 => h9) rfl (by decide +kernel) rfl rfl (Nat.le_of_ble_eq_true rfl) dX2_widen_27 (fun H locs hP hD hS => ?_)
      replace hP : va_P D vwCl [(a_li, oX2 a_fl a_va a_liD a_liF a_liA a_liB li_parts li_s y0 (1099511627776 : Int64))] H := hP
      replace hD : va_D A [(a_li, oX2 a_fl a_va a_liD a_liF a_liA a_liB li_parts li_s y0 (1099511627776 : Int64))] := hD
      subst hQ; exact W.vret hx hb hr (fun t ht hW => ⟨⟨(y0, (1099511627776 : Int64)), rfl, ho, by rw [ht]; exact hP, hD⟩, hS.F ht⟩) (fun q hq => hS.2.2 q hq) dX2_widen_30
    · replace ho := ho.2 c_17
      refine lv_lconst (v := 0) hx hb dX2_widen_20 (by decide) ?_
      refine lv_goto (tgt := 27) hx hb dX2_widen_21 (by decide) ?_
      refine va_put (D := D) (ci := 2) (v := .long (0 : Int64)) (ty := .long) (C := RX2) (T := TX2) (N := 10) hx hb hts in_X2_widen_X2 tyX2 tyX2_ok nmX2 hown hK hP hD hS 0 rfl rfl 9 (by decide) (hts (.fieldLink RX2 102 "HardBench$Lines" "greatest" "J") (List.mem_of_getElem? (i := 4) (by decide +kernel))) (fun _ h9 => h9) rfl (by decide +kernel) rfl rfl (Nat.le_of_ble_eq_true rfl) dX2_widen_27 (fun H locs hP hD hS => ?_)
      replace hP : va_P D vwCl [(a_li, oX2 a_fl a_va a_liD a_liF a_liA a_liB li_parts li_s y0 (0 : Int64))] H := hP
      replace hD : va_D A [(a_li, oX2 a_fl a_va a_liD a_liF a_liA a_liB li_parts li_s y0 (0 : Int64))] := hD
      subst hQ; exact W.vret hx hb hr (fun t ht hW => ⟨⟨(y0, (0 : Int64)), rfl, ho, by rw [ht]; exact hP, hD⟩, hS.F ht⟩) (fun q hq => hS.2.2 q hq) dX2_widen_30
  unfold wp_X2_widen at ho
  refine lv_aload_n hx hb dX2_widen_0 rfl (lv_at hl 0 rfl) ?_
  refine lv_iload_n hx hb dX2_widen_1 rfl (lv_at hl 1 rfl) ?_
  refine lv_if_ne (tgt := 9) hx hb dX2_widen_2 (by decide) (fun c_2 => ?_) (fun c_2 => ?_)
  · replace ho := ho.1 c_2
    refine lv_ldc2 hx hb hown (hts (.constantLong RX2 94 (-1099511627776)) (List.mem_of_getElem? (i := 1) (by decide +kernel))) dX2_widen_9 ?_
    exact C_12 li_least li_greatest (-1099511627776 : Int64) H locs ls ho hP hD hS (lv_sub hl [0, 1] rfl)
  · replace ho := ho.2 c_2
    refine lv_lconst (v := 0) hx hb dX2_widen_5 (by decide) ?_
    refine lv_goto (tgt := 12) hx hb dX2_widen_6 (by decide) ?_
    exact C_12 li_least li_greatest (0 : Int64) H locs ls ho hP hD hS (lv_sub hl [0, 1] rfl)

def wp_X2_floorBy (post : Int64 → Prop) (p1 : Int64) (p2 : Int64) : Prop := (((lg_cmp p2 (0 : Int64)) ≤ 0) → (post (0 : Int64))) ∧ ((¬ ((lg_cmp p2 (0 : Int64)) ≤ 0)) → (wp_J9_floorDiv_f86c9 (fun r8 => (post r8)) p1 p2))
set_option maxHeartbeats 4000000 in
set_option maxRecDepth 100000 in
theorem c_X2_floorBy (l : Launch) (D : va_G) (cI cJ cZ : ClassId)   (p1 : Int64) (p2 : Int64) (post : Int64 → Prop) (ho : wp_X2_floorBy post p1 p2) : Met l yX2_floorBy wsX2_floorBy ({ frames := 1, cells := 0, slots := 0, locals := 25 } : Room) (ro_P D [(cI, .int), (cJ, .long), (cZ, .boolean)] [.long p1, .long p2] []) (vp_Sl post) 0 0 (fun _ => False) := by
  refine Met.ofW (cc := cX2_floorBy) (maxL := 4) (ret := (some .long)) (by decide) rfl ?_
  intro p e s m args below meth c s₁ B hml hv
  obtain ⟨hargs, hP, hK, hN⟩ := hv
  have hx := B.exec
  have hb := B.bytes
  have hr := B.returns
  have hts := atoms_spec (ws := wsX2_floorBy) B.pre
  have hown : s.vm.findClass RX2 = some m.cls := findClass_of_methodNamed B.named
  have hlocks := B.notSynchronized
  have hl := lv_entry ([.long p1, .long p2]) (n := 4) (Nat.le_of_ble_eq_true rfl)
  rw [hargs, lg_entry_eq, ← hargs]
  generalize (lg_sl ([.long p1, .long p2]) ++ List.replicate (4 - (lg_sl ([.long p1, .long p2])).length) Slot.unset).toArray = ls at hl ⊢
  replace hl : lv_has ls 4 [(0, .long p1), (2, .long p2)] := hl
  have hRf : ∀ n, n ≤ 1 → n ≤ (headSpec wsX2_floorBy ({ frames := 1, cells := 0, slots := 0, locals := 25 } : Room)).room.frames := fun n h => h
  have hRl : ∀ n, n ≤ 25 → n ≤ (headSpec wsX2_floorBy ({ frames := 1, cells := 0, slots := 0, locals := 25 } : Room)).room.locals := fun n h => h
  generalize (headSpec wsX2_floorBy ({ frames := 1, cells := 0, slots := 0, locals := 25 } : Room)).room = R at hRf hRl ⊢
  generalize hQ : MQ below _ args s 0 0 _ = Q
  unfold wp_X2_floorBy at ho
  refine lv_lload_n hx hb dX2_floorBy_0 rfl (lv_at hl 1 rfl) ?_
  refine lv_lconst (v := 0) hx hb dX2_floorBy_1 (by decide) ?_
  refine W.lcmp hx hb dX2_floorBy_2 ?_
  refine lv_if_le (tgt := 14) hx hb dX2_floorBy_3 (by decide) (fun c_3 => ?_) (fun c_3 => ?_)
  · replace ho := ho.1 c_3
    refine lv_lconst (v := 0) hx hb dX2_floorBy_14 (by decide) ?_
    subst hQ; exact W.lret (v := (0 : Int64)) hx hb hr (fun t ht _ => ⟨(0 : Int64), rfl, ho, ht⟩) (fun _ h => by cases h) dX2_floorBy_15
  · replace ho := ho.2 c_3
    refine lv_lload_n hx hb dX2_floorBy_6 rfl (lv_at hl 0 rfl) ?_
    refine lv_lload_n hx hb dX2_floorBy_7 rfl (lv_at hl 1 rfl) ?_
    refine ca_Sl (As := [.long p1, .long p2]) (rest := []) ⟨hx, hb, hml, hown, hts⟩ (c_J9_floorDiv_f86c9 l D cI cJ cZ   p1 p2 _ ho) (va_cwS 2 hts gX2_floorBy_J9_floorDiv_f86c9 rfl rfl rfl (by decide +kernel) ⟨hRf _ (Nat.le_of_ble_eq_true rfl), hRl _ (Nat.le_of_ble_eq_true rfl)⟩) hK hN hP [] rfl rfl hl.1 rfl (Nat.le_of_ble_eq_true rfl) dX2_floorBy_8 ⟨Nat.zero_le _, Nat.zero_le _⟩ (fun r8 ho => ?_)
    refine lv_goto (tgt := 15) hx hb dX2_floorBy_11 (by decide) ?_
    subst hQ; exact W.lret (v := r8) hx hb hr (fun t ht _ => ⟨r8, rfl, ho, ht⟩) (fun _ h => by cases h) dX2_floorBy_15

def wp_X2_narrow_22_b (post : Int32 → Int64 → Int64 → Prop)  (liD_r : Nat → Int32) (p2 : Int32) (K_22 : Int64 → Int64 → Int64 → Int64 → Int64 → Int32 → Prop) (li_least : Int64) (li_greatest : Int64) (x3 : Int64) (x5 : Int64) (x7 : Int64) (x9 : Int32) : Prop := ((p2 ≤ x9) → ((((lg_cmp x5 x7) ≤ 0) → (post (1 : Int32) x5 x7)) ∧ ((¬ ((lg_cmp x5 x7) ≤ 0)) → (post (0 : Int32) li_least li_greatest)))) ∧ ((¬ (p2 ≤ x9)) → (wp_X4_at (fun r33 => (wp_X4_at (fun r42 => (wp_X2_floorBy (fun r64 => (wp_X2_floorBy (fun r86 => (K_22 li_least li_greatest x3 (if (-r64) < x5 then x5 else (-r64)) (if r86 < x7 then r86 else x7) (x9 + (1 : Int32)))) ((x3 - (1 : Int64)) + (((r33 - r42).toInt64) * x3)) ((p2 - x9).toInt64))) ((x3 - (1 : Int64)) - (((r33 - r42).toInt64) * x3)) ((p2 - x9).toInt64))) 256 liD_r x9)) 256 liD_r p2))
noncomputable def wp_X2_narrow_22 (post : Int32 → Int64 → Int64 → Prop)  (liD_r : Nat → Int32) (p2 : Int32) (n : Nat) : Int64 → Int64 → Int64 → Int64 → Int64 → Int32 → Prop := Nat.rec (motive := fun _ => Int64 → Int64 → Int64 → Int64 → Int64 → Int32 → Prop) (fun _ _ _ _ _ _ => False) (fun _ K_22 => wp_X2_narrow_22_b post liD_r p2 K_22) n
def wp_X2_narrow (post : Int32 → Int64 → Int64 → Prop) (li_s : Int32) (li_least : Int64) (li_greatest : Int64) (liD_r : Nat → Int32) (p1 : Int32) (p2 : Int32) : Prop := ∃ n, wp_X2_narrow_22 post liD_r p2 n li_least li_greatest ((1 : Int64) <<< (li_s.toInt64 &&& 63)) li_least li_greatest p1
set_option maxRecDepth 20000 in
theorem in_X2_narrow_X2 : ∀ w ∈ u_ws RX2 TX2 10, w ∈ wsX2_narrow := fun w h => (goodIn_r wsX20 [24, 25, 26, 27, 28, 29, 30, 31, 32, 33] (by decide +kernel) (by decide +kernel) w h).1
set_option maxHeartbeats 4000000 in
set_option maxRecDepth 100000 in
theorem c_X2_narrow (l : Launch) (D : va_G) (cI cJ cZ : ClassId) (a_fl : Nat) (a_va : Nat) (a_li : Nat) (a_liD : Nat) (a_liF : Nat) (a_liA : Nat) (a_liB : Nat) (sz : Nat) (li_parts : Int32) (li_s : Int32) (li_least : Int64) (li_greatest : Int64) (liD_r : Nat → Int32) (p1 : Int32) (p2 : Int32) (post : Int32 → Int64 → Int64 → Prop) (A : Nat → Prop) (hAe : A = va_A [(a_li, oX2 a_fl a_va a_liD a_liF a_liA a_liB li_parts li_s li_least li_greatest), (a_liD, .inl (cI, 256, .inl liD_r))] sz) (ho : wp_X2_narrow post li_s li_least li_greatest liD_r p1 p2) : Met l yX2_narrow wsX2_narrow ({ frames := 2, cells := 0, slots := 0, locals := 48 } : Room) (rw_P D [(cI, .int), (cJ, .long), (cZ, .boolean)] [.ref a_li, .int p1, .int p2] sz [(a_li, oX2 a_fl a_va a_liD a_liF a_liA a_liB li_parts li_s li_least li_greatest), (a_liD, .inl (cI, 256, .inl liD_r))]) (va_Qi (fun (r : Int32) (u : (Int64) × (Int64)) => post r u.1 u.2) (rw_B D A (fun (u : (Int64) × (Int64)) => [(a_li, oX2 a_fl a_va a_liD a_liF a_liA a_liB li_parts li_s u.1 u.2), (a_liD, .inl (cI, 256, .inl liD_r))])) A) 0 0 A := by
  refine Met.ofW (cc := cX2_narrow) (maxL := 12) (ret := (some .boolean)) (by decide) rfl ?_
  intro p e s m args below meth c s₁ B hml hv
  obtain ⟨hargs, hsz, hP, hK, hN, hD0⟩ := hv
  have hx := B.exec
  have hb := B.bytes
  have hr := B.returns
  have hts := atoms_spec (ws := wsX2_narrow) B.pre
  have hown : s.vm.findClass RX2 = some m.cls := findClass_of_methodNamed B.named
  have hlocks := B.notSynchronized
  subst hsz
  have hD : va_D A [(a_li, oX2 a_fl a_va a_liD a_liF a_liA a_liB li_parts li_s li_least li_greatest), (a_liD, .inl (cI, 256, .inl liD_r))] := by rw [hAe]; exact hD0.self
  have hA : ∀ q : Nat, s.heap.size ≤ q → A q := fun q h => by rw [hAe]; exact Or.inr h
  have hS : va_S A s.heap s.heap [] := va_S.rf
  have hl := lv_entry ([.ref a_li, .int p1, .int p2]) (n := 12) (Nat.le_of_ble_eq_true rfl)
  rw [hargs, lg_entry_eq, ← hargs]
  generalize (lg_sl ([.ref a_li, .int p1, .int p2]) ++ List.replicate (12 - (lg_sl ([.ref a_li, .int p1, .int p2])).length) Slot.unset).toArray = ls at hl ⊢
  replace hl : lv_has ls 12 [(0, .ref a_li), (1, .int p1), (2, .int p2)] := hl
  have hRf : ∀ n, n ≤ 2 → n ≤ (headSpec wsX2_narrow ({ frames := 2, cells := 0, slots := 0, locals := 48 } : Room)).room.frames := fun n h => h
  have hRl : ∀ n, n ≤ 48 → n ≤ (headSpec wsX2_narrow ({ frames := 2, cells := 0, slots := 0, locals := 48 } : Room)).room.locals := fun n h => h
  generalize (headSpec wsX2_narrow ({ frames := 2, cells := 0, slots := 0, locals := 48 } : Room)).room = R at hRf hRl ⊢
  generalize hQ : MQ below _ args s 0 0 _ = Q
  have C_22 : ∀ n : Nat, ∀ (li_least : Int64) (li_greatest : Int64) (x3 : Int64) (x5 : Int64) (x7 : Int64) (x9 : Int32) (H : Heap) (locs : List Loc) (ls : Array Slot), wp_X2_narrow_22 post  liD_r p2 n li_least li_greatest x3 x5 x7 x9 → va_P D vwCl [(a_li, oX2 a_fl a_va a_liD a_liF a_liA a_liB li_parts li_s li_least li_greatest), (a_liD, .inl (cI, 256, .inl liD_r))] H → va_D A [(a_li, oX2 a_fl a_va a_liD a_liF a_liA a_liB li_parts li_s li_least li_greatest), (a_liD, .inl (cI, 256, .inl liD_r))] → va_S A s.heap H locs → lv_has ls 12 [(0, .ref a_li), (2, .int p2), (3, .long x3), (5, .long x5), (7, .long x7), (9, .int x9)] → W p l e R s m args below meth c H locs 0 0 Q (F0 m 22 ls []) := by
    intro n
    induction n with
    | zero => intro li_least li_greatest x3 x5 x7 x9 H locs ls ho hP hD hS hl; exact ho.elim
    | succ n_22 ih_22 =>
      intro li_least li_greatest x3 x5 x7 x9 H locs ls ho hP hD hS hl
      replace ho : wp_X2_narrow_22_b post liD_r p2 (wp_X2_narrow_22 post liD_r p2 n_22) li_least li_greatest x3 x5 x7 x9 := ho
      unfold wp_X2_narrow_22_b at ho
      refine lv_iload hx hb dX2_narrow_22 (lv_at hl 5 rfl) ?_
      refine lv_iload_n hx hb dX2_narrow_24 rfl (lv_at hl 1 rfl) ?_
      refine lv_icmp_ge (tgt := 100) hx hb dX2_narrow_25 (by decide) (fun c_25 => ?_) (fun c_25 => ?_)
      · replace ho := ho.1 c_25
        refine lv_lload hx hb dX2_narrow_100 (lv_at hl 3 rfl) ?_
        refine lv_lload hx hb dX2_narrow_102 (lv_at hl 4 rfl) ?_
        refine W.lcmp hx hb dX2_narrow_104 ?_
        refine lv_if_le (tgt := 110) hx hb dX2_narrow_105 (by decide) (fun c_105 => ?_) (fun c_105 => ?_)
        · replace ho := ho.1 c_105
          refine lv_aload_n hx hb dX2_narrow_110 rfl (lv_at hl 0 rfl) ?_
          refine lv_lload hx hb dX2_narrow_111 (lv_at hl 3 rfl) ?_
          refine va_put (D := D) (ci := 2) (v := .long x5) (ty := .long) (C := RX2) (T := TX2) (N := 10) hx hb hts in_X2_narrow_X2 tyX2 tyX2_ok nmX2 hown hK hP hD hS 0 rfl rfl 8 (by decide) (hts (.fieldLink RX2 96 "HardBench$Lines" "least" "J") (List.mem_of_getElem? (i := 2) (by decide +kernel))) (fun _ h9 => h9) rfl (by decide +kernel) rfl rfl (Nat.le_of_ble_eq_true rfl) dX2_narrow_113 (fun H locs hP hD hS => ?_)
          replace hP : va_P D vwCl [(a_li, oX2 a_fl a_va a_liD a_liF a_liA a_liB li_parts li_s x5 li_greatest), (a_liD, .inl (cI, 256, .inl liD_r))] H := hP
          replace hD : va_D A [(a_li, oX2 a_fl a_va a_liD a_liF a_liA a_liB li_parts li_s x5 li_greatest), (a_liD, .inl (cI, 256, .inl liD_r))] := hD
          refine lv_aload_n hx hb dX2_narrow_116 rfl (lv_at hl 0 rfl) ?_
          refine lv_lload hx hb dX2_narrow_117 (lv_at hl 4 rfl) ?_
          refine va_put (D := D) (ci := 2) (v := .long x7) (ty := .long) (C := RX2) (T := TX2) (N := 10) hx hb hts in_X2_narrow_X2 tyX2 tyX2_ok nmX2 hown hK hP hD hS 0 rfl rfl 9 (by decide) (hts (.fieldLink RX2 102 "HardBench$Lines" "greatest" "J") (List.mem_of_getElem? (i := 3) (by decide +kernel))) (fun _ h9 => h9) rfl (by decide +kernel) rfl rfl (Nat.le_of_ble_eq_true rfl) dX2_narrow_119 (fun H locs hP hD hS => ?_)
          replace hP : va_P D vwCl [(a_li, oX2 a_fl a_va a_liD a_liF a_liA a_liB li_parts li_s x5 x7), (a_liD, .inl (cI, 256, .inl liD_r))] H := hP
          replace hD : va_D A [(a_li, oX2 a_fl a_va a_liD a_liF a_liA a_liB li_parts li_s x5 x7), (a_liD, .inl (cI, 256, .inl liD_r))] := hD
          refine lv_iconst (v := 1) hx hb dX2_narrow_122 (by decide) ?_
          subst hQ; exact W.zret (v := (1 : Int32)) hx hb hr rfl (fun t ht hW => ⟨⟨(1 : Int32), (x5, x7), rfl, ho, by rw [ht]; exact hP, hD⟩, hS.F ht⟩) (fun q hq => hS.2.2 q hq) dX2_narrow_123
        · replace ho := ho.2 c_105
          refine lv_iconst (v := 0) hx hb dX2_narrow_108 (by decide) ?_
          subst hQ; exact W.zret (v := (0 : Int32)) hx hb hr rfl (fun t ht hW => ⟨⟨(0 : Int32), (li_least, li_greatest), rfl, ho, by rw [ht]; exact hP, hD⟩, hS.F ht⟩) (fun q hq => hS.2.2 q hq) dX2_narrow_109
      · replace ho := ho.2 c_25
        refine lv_aload_n hx hb dX2_narrow_28 rfl (lv_at hl 0 rfl) ?_
        refine va_get (D := D) (ci := 2) (v := .ref a_liD) (C := RX2) (T := TX2) (N := 10) hx hb hts in_X2_narrow_X2 hown hK hP 0 rfl rfl 2 (by decide) (hts (.fieldLink RX2 19 "HardBench$Lines" "due" "[I") (List.mem_of_getElem? (i := 4) (by decide +kernel))) (fun _ h9 => h9) rfl dX2_narrow_29 ?_
        refine lv_iload_n hx hb dX2_narrow_32 rfl (lv_at hl 1 rfl) ?_
        refine ca_Si (As := [.ref a_liD, .int p2]) (rest := []) ⟨hx, hb, hml, hown, hts⟩ (c_X4_at l D cI cJ cZ a_liD 256 liD_r p2 _ ho) (va_cwS 2 hts gX2_narrow_X4_at rfl rfl rfl (by decide +kernel) ⟨hRf _ (Nat.le_of_ble_eq_true rfl), hRl _ (Nat.le_of_ble_eq_true rfl)⟩) hK hN hP [1] rfl rfl hl.1 rfl (Nat.le_of_ble_eq_true rfl) dX2_narrow_33 ⟨Nat.zero_le _, Nat.zero_le _⟩ (fun r33 ho => ?_)
        refine lv_aload_n hx hb dX2_narrow_36 rfl (lv_at hl 0 rfl) ?_
        refine va_get (D := D) (ci := 2) (v := .ref a_liD) (C := RX2) (T := TX2) (N := 10) hx hb hts in_X2_narrow_X2 hown hK hP 0 rfl rfl 2 (by decide) (hts (.fieldLink RX2 19 "HardBench$Lines" "due" "[I") (List.mem_of_getElem? (i := 4) (by decide +kernel))) (fun _ h9 => h9) rfl dX2_narrow_37 ?_
        refine lv_iload hx hb dX2_narrow_40 (lv_at hl 5 rfl) ?_
        refine ca_Si (As := [.ref a_liD, .int x9]) (rest := [.int r33]) ⟨hx, hb, hml, hown, hts⟩ (c_X4_at l D cI cJ cZ a_liD 256 liD_r x9 _ ho) (va_cwS 2 hts gX2_narrow_X4_at rfl rfl rfl (by decide +kernel) ⟨hRf _ (Nat.le_of_ble_eq_true rfl), hRl _ (Nat.le_of_ble_eq_true rfl)⟩) hK hN hP [1] rfl rfl hl.1 rfl (Nat.le_of_ble_eq_true rfl) dX2_narrow_42 ⟨Nat.zero_le _, Nat.zero_le _⟩ (fun r42 ho => ?_)
        refine lv_isub hx hb dX2_narrow_45 ?_
        refine lv_i2l hx hb dX2_narrow_46 rfl ?_
        refine lv_lload_n hx hb dX2_narrow_47 rfl (lv_at hl 2 rfl) ?_
        refine lv_lmul hx hb dX2_narrow_48 ?_
        refine lv_lstore (lv' := [(10, .long (((r33 - r42).toInt64) * x3)), (0, .ref a_li), (2, .int p2), (3, .long x3), (5, .long x5), (7, .long x7), (9, .int x9)]) hx hb dX2_narrow_49 hl (by decide) rfl (fun ls hl => ?_)
        refine lv_lload hx hb dX2_narrow_51 (lv_at hl 4 rfl) ?_
        refine lv_lload_n hx hb dX2_narrow_53 rfl (lv_at hl 3 rfl) ?_
        refine lv_lconst (v := 1) hx hb dX2_narrow_54 (by decide) ?_
        refine lv_lsub hx hb dX2_narrow_55 ?_
        refine lv_lload hx hb dX2_narrow_56 (lv_at hl 0 rfl) ?_
        refine lv_lsub hx hb dX2_narrow_58 ?_
        refine lv_iload_n hx hb dX2_narrow_59 rfl (lv_at hl 2 rfl) ?_
        refine lv_iload hx hb dX2_narrow_60 (lv_at hl 6 rfl) ?_
        refine lv_isub hx hb dX2_narrow_62 ?_
        refine lv_i2l hx hb dX2_narrow_63 rfl ?_
        refine ca_Sl (As := [.long ((x3 - (1 : Int64)) - (((r33 - r42).toInt64) * x3)), .long ((p2 - x9).toInt64)]) (rest := [.long x5]) ⟨hx, hb, hml, hown, hts⟩ (c_X2_floorBy l D cI cJ cZ   ((x3 - (1 : Int64)) - (((r33 - r42).toInt64) * x3)) ((p2 - x9).toInt64) _ ho) (va_cwS 2 hts gX2_narrow_X2_floorBy rfl rfl rfl (by decide +kernel) ⟨hRf _ (Nat.le_of_ble_eq_true rfl), hRl _ (Nat.le_of_ble_eq_true rfl)⟩) hK hN hP [] rfl rfl hl.1 rfl (Nat.le_of_ble_eq_true rfl) dX2_narrow_64 ⟨Nat.zero_le _, Nat.zero_le _⟩ (fun r64 ho => ?_)
        refine lv_lneg hx hb dX2_narrow_67 ?_
        refine va_mmax_long hx hb (hml.trans hl.1.symm) hown (hts (.methodLink RX2 109 Lib.MathLoose.max_long.x) (List.mem_of_getElem? (i := 5) (by decide +kernel))) (hts (.static Lib.MathLoose.max_long.x) (List.mem_of_getElem? (i := 6) (by decide +kernel))) (hts (.initialized "java/lang/Math") (List.mem_of_getElem? (i := 7) (by decide +kernel))) (hts (.code Lib.MathLoose.max_long.x Lib.MathLoose.max_long.code 4 (some .long)) (List.mem_of_getElem? (i := 8) (by decide +kernel))) (hRf 1 (Nat.le_of_ble_eq_true rfl)) (hRl _ (Nat.le_of_ble_eq_true rfl)) (Nat.zero_le _) (Nat.zero_le _) dX2_narrow_68 ?_
        refine lv_lstore (lv' := [(5, .long (if (-r64) < x5 then x5 else (-r64))), (10, .long (((r33 - r42).toInt64) * x3)), (0, .ref a_li), (2, .int p2), (3, .long x3), (7, .long x7), (9, .int x9)]) hx hb dX2_narrow_71 hl (by decide) rfl (fun ls hl => ?_)
        refine lv_lload hx hb dX2_narrow_73 (lv_at hl 5 rfl) ?_
        refine lv_lload_n hx hb dX2_narrow_75 rfl (lv_at hl 4 rfl) ?_
        refine lv_lconst (v := 1) hx hb dX2_narrow_76 (by decide) ?_
        refine lv_lsub hx hb dX2_narrow_77 ?_
        refine lv_lload hx hb dX2_narrow_78 (lv_at hl 1 rfl) ?_
        refine lv_ladd hx hb dX2_narrow_80 ?_
        refine lv_iload_n hx hb dX2_narrow_81 rfl (lv_at hl 3 rfl) ?_
        refine lv_iload hx hb dX2_narrow_82 (lv_at hl 6 rfl) ?_
        refine lv_isub hx hb dX2_narrow_84 ?_
        refine lv_i2l hx hb dX2_narrow_85 rfl ?_
        refine ca_Sl (As := [.long ((x3 - (1 : Int64)) + (((r33 - r42).toInt64) * x3)), .long ((p2 - x9).toInt64)]) (rest := [.long x7]) ⟨hx, hb, hml, hown, hts⟩ (c_X2_floorBy l D cI cJ cZ   ((x3 - (1 : Int64)) + (((r33 - r42).toInt64) * x3)) ((p2 - x9).toInt64) _ ho) (va_cwS 2 hts gX2_narrow_X2_floorBy rfl rfl rfl (by decide +kernel) ⟨hRf _ (Nat.le_of_ble_eq_true rfl), hRl _ (Nat.le_of_ble_eq_true rfl)⟩) hK hN hP [] rfl rfl hl.1 rfl (Nat.le_of_ble_eq_true rfl) dX2_narrow_86 ⟨Nat.zero_le _, Nat.zero_le _⟩ (fun r86 ho => ?_)
        refine va_mmin_long hx hb (hml.trans hl.1.symm) hown (hts (.methodLink RX2 114 Lib.MathLoose.min_long.x) (List.mem_of_getElem? (i := 9) (by decide +kernel))) (hts (.static Lib.MathLoose.min_long.x) (List.mem_of_getElem? (i := 10) (by decide +kernel))) (hts (.initialized "java/lang/Math") (List.mem_of_getElem? (i := 7) (by decide +kernel))) (hts (.code Lib.MathLoose.min_long.x Lib.MathLoose.min_long.code 4 (some .long)) (List.mem_of_getElem? (i := 11) (by decide +kernel))) (hRf 1 (Nat.le_of_ble_eq_true rfl)) (hRl _ (Nat.le_of_ble_eq_true rfl)) (Nat.zero_le _) (Nat.zero_le _) dX2_narrow_89 ?_
        refine lv_lstore (lv' := [(7, .long (if r86 < x7 then r86 else x7)), (5, .long (if (-r64) < x5 then x5 else (-r64))), (10, .long (((r33 - r42).toInt64) * x3)), (0, .ref a_li), (2, .int p2), (3, .long x3), (9, .int x9)]) hx hb dX2_narrow_92 hl (by decide) rfl (fun ls hl => ?_)
        refine lv_iinc (v := (x9 + (1 : Int32))) (lv' := [(9, .int (x9 + (1 : Int32))), (7, .long (if r86 < x7 then r86 else x7)), (5, .long (if (-r64) < x5 then x5 else (-r64))), (10, .long (((r33 - r42).toInt64) * x3)), (0, .ref a_li), (2, .int p2), (3, .long x3)]) hx hb dX2_narrow_94 hl (k := 6) rfl rfl (by decide) rfl (fun ls hl => ?_)
        refine lv_goto (tgt := 22) hx hb dX2_narrow_97 (by decide) ?_
        exact ih_22 li_least li_greatest x3 (if (-r64) < x5 then x5 else (-r64)) (if r86 < x7 then r86 else x7) (x9 + (1 : Int32)) H locs ls ho hP hD hS (lv_sub hl [4, 5, 6, 2, 1, 0] rfl)
  unfold wp_X2_narrow at ho
  refine lv_lconst (v := 1) hx hb dX2_narrow_0 (by decide) ?_
  refine lv_aload_n hx hb dX2_narrow_1 rfl (lv_at hl 0 rfl) ?_
  refine va_get (D := D) (ci := 2) (v := .int li_s) (C := RX2) (T := TX2) (N := 10) hx hb hts in_X2_narrow_X2 hown hK hP 0 rfl rfl 7 (by decide) (hts (.fieldLink RX2 61 "HardBench$Lines" "s" "I") (List.mem_of_getElem? (i := 1) (by decide +kernel))) (fun _ h9 => h9) rfl dX2_narrow_2 ?_
  refine lv_lshl hx hb dX2_narrow_5 rfl ?_
  refine lv_lstore_n (lv' := [(3, .long ((1 : Int64) <<< (li_s.toInt64 &&& 63))), (0, .ref a_li), (1, .int p1), (2, .int p2)]) hx hb dX2_narrow_6 rfl hl (by decide) rfl (fun ls hl => ?_)
  refine lv_aload_n hx hb dX2_narrow_7 rfl (lv_at hl 1 rfl) ?_
  refine va_get (D := D) (ci := 2) (v := .long li_least) (C := RX2) (T := TX2) (N := 10) hx hb hts in_X2_narrow_X2 hown hK hP 0 rfl rfl 8 (by decide) (hts (.fieldLink RX2 96 "HardBench$Lines" "least" "J") (List.mem_of_getElem? (i := 2) (by decide +kernel))) (fun _ h9 => h9) rfl dX2_narrow_8 ?_
  refine lv_lstore (lv' := [(5, .long li_least), (3, .long ((1 : Int64) <<< (li_s.toInt64 &&& 63))), (0, .ref a_li), (1, .int p1), (2, .int p2)]) hx hb dX2_narrow_11 hl (by decide) rfl (fun ls hl => ?_)
  refine lv_aload_n hx hb dX2_narrow_13 rfl (lv_at hl 2 rfl) ?_
  refine va_get (D := D) (ci := 2) (v := .long li_greatest) (C := RX2) (T := TX2) (N := 10) hx hb hts in_X2_narrow_X2 hown hK hP 0 rfl rfl 9 (by decide) (hts (.fieldLink RX2 102 "HardBench$Lines" "greatest" "J") (List.mem_of_getElem? (i := 3) (by decide +kernel))) (fun _ h9 => h9) rfl dX2_narrow_14 ?_
  refine lv_lstore (lv' := [(7, .long li_greatest), (5, .long li_least), (3, .long ((1 : Int64) <<< (li_s.toInt64 &&& 63))), (0, .ref a_li), (1, .int p1), (2, .int p2)]) hx hb dX2_narrow_17 hl (by decide) rfl (fun ls hl => ?_)
  refine lv_iload_n hx hb dX2_narrow_19 rfl (lv_at hl 4 rfl) ?_
  refine lv_istore (lv' := [(9, .int p1), (7, .long li_greatest), (5, .long li_least), (3, .long ((1 : Int64) <<< (li_s.toInt64 &&& 63))), (0, .ref a_li), (1, .int p1), (2, .int p2)]) hx hb dX2_narrow_20 hl (by decide) rfl (fun ls hl => ?_)
  obtain ⟨n_22, ho⟩ := ho
  exact C_22 n_22 li_least li_greatest ((1 : Int64) <<< (li_s.toInt64 &&& 63)) li_least li_greatest p1 H locs ls ho hP hD hS (lv_sub hl [4, 6, 3, 2, 1, 0] rfl)

def wp_X2_closePart_24_b (post : Int32 → (Nat → Int32) → (Nat → Int32) → (Nat → Int32) → Prop)  (li_s : Int32) (liD_r : Nat → Int32) (p1 : Int32) (p2 : Int32) (K_24 : Int32 → (Nat → Int32) → (Nat → Int32) → (Nat → Int32) → Int64 → Int64 → Int32 → Prop) (li_parts : Int32) (liF_r : Nat → Int32) (liA_r : Nat → Int32) (liB_r : Nat → Int32) (x3 : Int64) (x5 : Int64) (x7 : Int32) : Prop := ((p2 < x7) → (wp_X4_put (fun u73 => (wp_X4_put (fun u87 => (wp_X4_put (fun u100 => (post  (li_parts + (1 : Int32)) u73 u87 u100)) 256 liB_r li_parts x3.toInt32)) 256 liA_r li_parts x5.toInt32)) 256 liF_r li_parts p1)) ∧ ((¬ (p2 < x7)) → (wp_X4_at (fun r38 => (K_24 li_parts liF_r liA_r liB_r x3 (if ((r38.toInt64 <<< (li_s.toInt64 &&& 63)) - (x3 * x7.toInt64)) < x5 then x5 else ((r38.toInt64 <<< (li_s.toInt64 &&& 63)) - (x3 * x7.toInt64))) (x7 + (1 : Int32)))) 256 liD_r x7))
noncomputable def wp_X2_closePart_24 (post : Int32 → (Nat → Int32) → (Nat → Int32) → (Nat → Int32) → Prop)  (li_s : Int32) (liD_r : Nat → Int32) (p1 : Int32) (p2 : Int32) (n : Nat) : Int32 → (Nat → Int32) → (Nat → Int32) → (Nat → Int32) → Int64 → Int64 → Int32 → Prop := Nat.rec (motive := fun _ => Int32 → (Nat → Int32) → (Nat → Int32) → (Nat → Int32) → Int64 → Int64 → Int32 → Prop) (fun _ _ _ _ _ _ _ => False) (fun _ K_24 => wp_X2_closePart_24_b post li_s liD_r p1 p2 K_24) n
def wp_X2_closePart (post : Int32 → (Nat → Int32) → (Nat → Int32) → (Nat → Int32) → Prop) (li_parts : Int32) (li_s : Int32) (li_least : Int64) (li_greatest : Int64) (liD_r : Nat → Int32) (liF_r : Nat → Int32) (liA_r : Nat → Int32) (liB_r : Nat → Int32) (p1 : Int32) (p2 : Int32) : Prop := ∃ n, wp_X2_closePart_24 post li_s liD_r p1 p2 n li_parts liF_r liA_r liB_r (if (if (0 : Int64) < li_greatest then (0 : Int64) else li_greatest) < li_least then li_least else (if (0 : Int64) < li_greatest then (0 : Int64) else li_greatest)) (-9223372036854775808 : Int64) p1
set_option maxRecDepth 20000 in
theorem in_X2_closePart_X2 : ∀ w ∈ u_ws RX2 TX2 10, w ∈ wsX2_closePart := fun w h => (goodIn_r wsX20 [24, 25, 26, 27, 28, 29, 30, 31, 32, 33] (by decide +kernel) (by decide +kernel) w h).1
set_option maxHeartbeats 4000000 in
set_option maxRecDepth 100000 in
theorem c_X2_closePart (l : Launch) (D : va_G) (cI cJ cZ : ClassId) (a_fl : Nat) (a_va : Nat) (a_li : Nat) (a_liD : Nat) (a_liF : Nat) (a_liA : Nat) (a_liB : Nat) (sz : Nat) (li_parts : Int32) (li_s : Int32) (li_least : Int64) (li_greatest : Int64) (liD_r : Nat → Int32) (liF_r : Nat → Int32) (liA_r : Nat → Int32) (liB_r : Nat → Int32) (p1 : Int32) (p2 : Int32) (post : Int32 → (Nat → Int32) → (Nat → Int32) → (Nat → Int32) → Prop) (A : Nat → Prop) (hAe : A = va_A [(a_li, oX2 a_fl a_va a_liD a_liF a_liA a_liB li_parts li_s li_least li_greatest), (a_liD, .inl (cI, 256, .inl liD_r)), (a_liF, .inl (cI, 256, .inl liF_r)), (a_liA, .inl (cI, 256, .inl liA_r)), (a_liB, .inl (cI, 256, .inl liB_r))] sz) (ho : wp_X2_closePart post li_parts li_s li_least li_greatest liD_r liF_r liA_r liB_r p1 p2) : Met l yX2_closePart wsX2_closePart ({ frames := 1, cells := 0, slots := 0, locals := 23 } : Room) (rw_P D [(cI, .int), (cJ, .long), (cZ, .boolean)] [.ref a_li, .int p1, .int p2] sz [(a_li, oX2 a_fl a_va a_liD a_liF a_liA a_liB li_parts li_s li_least li_greatest), (a_liD, .inl (cI, 256, .inl liD_r)), (a_liF, .inl (cI, 256, .inl liF_r)), (a_liA, .inl (cI, 256, .inl liA_r)), (a_liB, .inl (cI, 256, .inl liB_r))]) (va_Qv (fun (u : (Int32) × (Nat → Int32) × (Nat → Int32) × (Nat → Int32)) => post u.1 u.2.1 u.2.2.1 u.2.2.2) (rw_B D A (fun (u : (Int32) × (Nat → Int32) × (Nat → Int32) × (Nat → Int32)) => [(a_li, oX2 a_fl a_va a_liD a_liF a_liA a_liB u.1 li_s li_least li_greatest), (a_liD, .inl (cI, 256, .inl liD_r)), (a_liF, .inl (cI, 256, .inl u.2.1)), (a_liA, .inl (cI, 256, .inl u.2.2.1)), (a_liB, .inl (cI, 256, .inl u.2.2.2))])) A) 0 0 A := by
  refine Met.ofW (cc := cX2_closePart) (maxL := 8) (ret := none) (by decide) rfl ?_
  intro p e s m args below meth c s₁ B hml hv
  obtain ⟨hargs, hsz, hP, hK, hN, hD0⟩ := hv
  have hx := B.exec
  have hb := B.bytes
  have hr := B.returns
  have hts := atoms_spec (ws := wsX2_closePart) B.pre
  have hown : s.vm.findClass RX2 = some m.cls := findClass_of_methodNamed B.named
  have hlocks := B.notSynchronized
  subst hsz
  have hD : va_D A [(a_li, oX2 a_fl a_va a_liD a_liF a_liA a_liB li_parts li_s li_least li_greatest), (a_liD, .inl (cI, 256, .inl liD_r)), (a_liF, .inl (cI, 256, .inl liF_r)), (a_liA, .inl (cI, 256, .inl liA_r)), (a_liB, .inl (cI, 256, .inl liB_r))] := by rw [hAe]; exact hD0.self
  have hA : ∀ q : Nat, s.heap.size ≤ q → A q := fun q h => by rw [hAe]; exact Or.inr h
  have hS : va_S A s.heap s.heap [] := va_S.rf
  have hl := lv_entry ([.ref a_li, .int p1, .int p2]) (n := 8) (Nat.le_of_ble_eq_true rfl)
  rw [hargs, lg_entry_eq, ← hargs]
  generalize (lg_sl ([.ref a_li, .int p1, .int p2]) ++ List.replicate (8 - (lg_sl ([.ref a_li, .int p1, .int p2])).length) Slot.unset).toArray = ls at hl ⊢
  replace hl : lv_has ls 8 [(0, .ref a_li), (1, .int p1), (2, .int p2)] := hl
  have hRf : ∀ n, n ≤ 1 → n ≤ (headSpec wsX2_closePart ({ frames := 1, cells := 0, slots := 0, locals := 23 } : Room)).room.frames := fun n h => h
  have hRl : ∀ n, n ≤ 23 → n ≤ (headSpec wsX2_closePart ({ frames := 1, cells := 0, slots := 0, locals := 23 } : Room)).room.locals := fun n h => h
  generalize (headSpec wsX2_closePart ({ frames := 1, cells := 0, slots := 0, locals := 23 } : Room)).room = R at hRf hRl ⊢
  generalize hQ : MQ below _ args s 0 0 _ = Q
  have C_24 : ∀ n : Nat, ∀ (li_parts : Int32) (liF_r : Nat → Int32) (liA_r : Nat → Int32) (liB_r : Nat → Int32) (x3 : Int64) (x5 : Int64) (x7 : Int32) (H : Heap) (locs : List Loc) (ls : Array Slot), wp_X2_closePart_24 post  li_s liD_r p1 p2 n li_parts liF_r liA_r liB_r x3 x5 x7 → va_P D vwCl [(a_li, oX2 a_fl a_va a_liD a_liF a_liA a_liB li_parts li_s li_least li_greatest), (a_liD, .inl (cI, 256, .inl liD_r)), (a_liF, .inl (cI, 256, .inl liF_r)), (a_liA, .inl (cI, 256, .inl liA_r)), (a_liB, .inl (cI, 256, .inl liB_r))] H → va_D A [(a_li, oX2 a_fl a_va a_liD a_liF a_liA a_liB li_parts li_s li_least li_greatest), (a_liD, .inl (cI, 256, .inl liD_r)), (a_liF, .inl (cI, 256, .inl liF_r)), (a_liA, .inl (cI, 256, .inl liA_r)), (a_liB, .inl (cI, 256, .inl liB_r))] → va_S A s.heap H locs → lv_has ls 8 [(0, .ref a_li), (1, .int p1), (2, .int p2), (3, .long x3), (5, .long x5), (7, .int x7)] → W p l e R s m args below meth c H locs 0 0 Q (F0 m 24 ls []) := by
    intro n
    induction n with
    | zero => intro li_parts liF_r liA_r liB_r x3 x5 x7 H locs ls ho hP hD hS hl; exact ho.elim
    | succ n_24 ih_24 =>
      intro li_parts liF_r liA_r liB_r x3 x5 x7 H locs ls ho hP hD hS hl
      replace ho : wp_X2_closePart_24_b post li_s liD_r p1 p2 (wp_X2_closePart_24 post li_s liD_r p1 p2 n_24) li_parts liF_r liA_r liB_r x3 x5 x7 := ho
      unfold wp_X2_closePart_24_b at ho
      refine lv_iload hx hb dX2_closePart_24 (lv_at hl 5 rfl) ?_
      refine lv_iload_n hx hb dX2_closePart_26 rfl (lv_at hl 2 rfl) ?_
      refine lv_icmp_gt (tgt := 64) hx hb dX2_closePart_27 (by decide) (fun c_27 => ?_) (fun c_27 => ?_)
      · replace ho := ho.1 c_27
        refine lv_aload_n hx hb dX2_closePart_64 rfl (lv_at hl 0 rfl) ?_
        refine va_get (D := D) (ci := 2) (v := .ref a_liF) (C := RX2) (T := TX2) (N := 10) hx hb hts in_X2_closePart_X2 hown hK hP 0 rfl rfl 3 (by decide) (hts (.fieldLink RX2 23 "HardBench$Lines" "firsts" "[I") (List.mem_of_getElem? (i := 13) (by decide +kernel))) (fun _ h9 => h9) rfl dX2_closePart_65 ?_
        refine lv_aload_n hx hb dX2_closePart_68 rfl (lv_at hl 0 rfl) ?_
        refine va_get (D := D) (ci := 2) (v := .int li_parts) (C := RX2) (T := TX2) (N := 10) hx hb hts in_X2_closePart_X2 hown hK hP 0 rfl rfl 6 (by decide) (hts (.fieldLink RX2 32 "HardBench$Lines" "parts" "I") (List.mem_of_getElem? (i := 14) (by decide +kernel))) (fun _ h9 => h9) rfl dX2_closePart_69 ?_
        refine lv_iload_n hx hb dX2_closePart_72 rfl (lv_at hl 1 rfl) ?_
        refine ca_Tv (As := [.ref a_liF, .int li_parts, .int p1]) (rest := []) (wr := [(a_li, oX2 a_fl a_va a_liD a_liF a_liA a_liB li_parts li_s li_least li_greatest), (a_liD, .inl (cI, 256, .inl liD_r)), (a_liA, .inl (cI, 256, .inl liA_r)), (a_liB, .inl (cI, 256, .inl liB_r))]) (wo := fun u => [(a_liF, .inl (cI, 256, .inl u))]) (wn := fun u => [(a_li, oX2 a_fl a_va a_liD a_liF a_liA a_liB li_parts li_s li_least li_greatest), (a_liD, .inl (cI, 256, .inl liD_r)), (a_liF, .inl (cI, 256, .inl u)), (a_liA, .inl (cI, 256, .inl liA_r)), (a_liB, .inl (cI, 256, .inl liB_r))]) ⟨hx, hb, hml, hown, hts⟩ (c_X4_put l D cI cJ cZ a_liF H.size 256 liF_r li_parts p1 _ _ rfl ho) (va_cwS 3 hts gX2_closePart_X4_put rfl rfl rfl (by decide +kernel) ⟨hRf _ (Nat.le_of_ble_eq_true rfl), hRl _ (Nat.le_of_ble_eq_true rfl)⟩) hK hN hP hD hS hA [2] [0, 1, 3, 4] [0, 1, 4, 2, 3] rfl rfl (by decide) (by decide) (by decide) (by decide) (fun _ => rfl) rfl hl.1 rfl (Nat.le_of_ble_eq_true rfl) dX2_closePart_73 ⟨Nat.zero_le _, Nat.zero_le _⟩ (fun  u73 H locs ho hP hD hS => ?_)
        try dsimp only at ho
        replace hP : va_P D vwCl [(a_li, oX2 a_fl a_va a_liD a_liF a_liA a_liB li_parts li_s li_least li_greatest), (a_liD, .inl (cI, 256, .inl liD_r)), (a_liF, .inl (cI, 256, .inl u73)), (a_liA, .inl (cI, 256, .inl liA_r)), (a_liB, .inl (cI, 256, .inl liB_r))] H := hP
        replace hD : va_D A [(a_li, oX2 a_fl a_va a_liD a_liF a_liA a_liB li_parts li_s li_least li_greatest), (a_liD, .inl (cI, 256, .inl liD_r)), (a_liF, .inl (cI, 256, .inl u73)), (a_liA, .inl (cI, 256, .inl liA_r)), (a_liB, .inl (cI, 256, .inl liB_r))] := hD
        refine lv_aload_n hx hb dX2_closePart_76 rfl (lv_at hl 0 rfl) ?_
        refine va_get (D := D) (ci := 2) (v := .ref a_liA) (C := RX2) (T := TX2) (N := 10) hx hb hts in_X2_closePart_X2 hown hK hP 0 rfl rfl 4 (by decide) (hts (.fieldLink RX2 26 "HardBench$Lines" "starts" "[I") (List.mem_of_getElem? (i := 15) (by decide +kernel))) (fun _ h9 => h9) rfl dX2_closePart_77 ?_
        refine lv_aload_n hx hb dX2_closePart_80 rfl (lv_at hl 0 rfl) ?_
        refine va_get (D := D) (ci := 2) (v := .int li_parts) (C := RX2) (T := TX2) (N := 10) hx hb hts in_X2_closePart_X2 hown hK hP 0 rfl rfl 6 (by decide) (hts (.fieldLink RX2 32 "HardBench$Lines" "parts" "I") (List.mem_of_getElem? (i := 14) (by decide +kernel))) (fun _ h9 => h9) rfl dX2_closePart_81 ?_
        refine lv_lload hx hb dX2_closePart_84 (lv_at hl 4 rfl) ?_
        refine lv_l2i hx hb dX2_closePart_86 rfl ?_
        refine ca_Tv (As := [.ref a_liA, .int li_parts, .int x5.toInt32]) (rest := []) (wr := [(a_li, oX2 a_fl a_va a_liD a_liF a_liA a_liB li_parts li_s li_least li_greatest), (a_liD, .inl (cI, 256, .inl liD_r)), (a_liF, .inl (cI, 256, .inl u73)), (a_liB, .inl (cI, 256, .inl liB_r))]) (wo := fun u => [(a_liA, .inl (cI, 256, .inl u))]) (wn := fun u => [(a_li, oX2 a_fl a_va a_liD a_liF a_liA a_liB li_parts li_s li_least li_greatest), (a_liD, .inl (cI, 256, .inl liD_r)), (a_liF, .inl (cI, 256, .inl u73)), (a_liA, .inl (cI, 256, .inl u)), (a_liB, .inl (cI, 256, .inl liB_r))]) ⟨hx, hb, hml, hown, hts⟩ (c_X4_put l D cI cJ cZ a_liA H.size 256 liA_r li_parts x5.toInt32 _ _ rfl ho) (va_cwS 3 hts gX2_closePart_X4_put rfl rfl rfl (by decide +kernel) ⟨hRf _ (Nat.le_of_ble_eq_true rfl), hRl _ (Nat.le_of_ble_eq_true rfl)⟩) hK hN hP hD hS hA [3] [0, 1, 2, 4] [0, 1, 2, 4, 3] rfl rfl (by decide) (by decide) (by decide) (by decide) (fun _ => rfl) rfl hl.1 rfl (Nat.le_of_ble_eq_true rfl) dX2_closePart_87 ⟨Nat.zero_le _, Nat.zero_le _⟩ (fun  u87 H locs ho hP hD hS => ?_)
        try dsimp only at ho
        replace hP : va_P D vwCl [(a_li, oX2 a_fl a_va a_liD a_liF a_liA a_liB li_parts li_s li_least li_greatest), (a_liD, .inl (cI, 256, .inl liD_r)), (a_liF, .inl (cI, 256, .inl u73)), (a_liA, .inl (cI, 256, .inl u87)), (a_liB, .inl (cI, 256, .inl liB_r))] H := hP
        replace hD : va_D A [(a_li, oX2 a_fl a_va a_liD a_liF a_liA a_liB li_parts li_s li_least li_greatest), (a_liD, .inl (cI, 256, .inl liD_r)), (a_liF, .inl (cI, 256, .inl u73)), (a_liA, .inl (cI, 256, .inl u87)), (a_liB, .inl (cI, 256, .inl liB_r))] := hD
        refine lv_aload_n hx hb dX2_closePart_90 rfl (lv_at hl 0 rfl) ?_
        refine va_get (D := D) (ci := 2) (v := .ref a_liB) (C := RX2) (T := TX2) (N := 10) hx hb hts in_X2_closePart_X2 hown hK hP 0 rfl rfl 5 (by decide) (hts (.fieldLink RX2 29 "HardBench$Lines" "slopes" "[I") (List.mem_of_getElem? (i := 16) (by decide +kernel))) (fun _ h9 => h9) rfl dX2_closePart_91 ?_
        refine lv_aload_n hx hb dX2_closePart_94 rfl (lv_at hl 0 rfl) ?_
        refine va_get (D := D) (ci := 2) (v := .int li_parts) (C := RX2) (T := TX2) (N := 10) hx hb hts in_X2_closePart_X2 hown hK hP 0 rfl rfl 6 (by decide) (hts (.fieldLink RX2 32 "HardBench$Lines" "parts" "I") (List.mem_of_getElem? (i := 14) (by decide +kernel))) (fun _ h9 => h9) rfl dX2_closePart_95 ?_
        refine lv_lload_n hx hb dX2_closePart_98 rfl (lv_at hl 3 rfl) ?_
        refine lv_l2i hx hb dX2_closePart_99 rfl ?_
        refine ca_Tv (As := [.ref a_liB, .int li_parts, .int x3.toInt32]) (rest := []) (wr := [(a_li, oX2 a_fl a_va a_liD a_liF a_liA a_liB li_parts li_s li_least li_greatest), (a_liD, .inl (cI, 256, .inl liD_r)), (a_liF, .inl (cI, 256, .inl u73)), (a_liA, .inl (cI, 256, .inl u87))]) (wo := fun u => [(a_liB, .inl (cI, 256, .inl u))]) (wn := fun u => [(a_li, oX2 a_fl a_va a_liD a_liF a_liA a_liB li_parts li_s li_least li_greatest), (a_liD, .inl (cI, 256, .inl liD_r)), (a_liF, .inl (cI, 256, .inl u73)), (a_liA, .inl (cI, 256, .inl u87)), (a_liB, .inl (cI, 256, .inl u))]) ⟨hx, hb, hml, hown, hts⟩ (c_X4_put l D cI cJ cZ a_liB H.size 256 liB_r li_parts x3.toInt32 _ _ rfl ho) (va_cwS 3 hts gX2_closePart_X4_put rfl rfl rfl (by decide +kernel) ⟨hRf _ (Nat.le_of_ble_eq_true rfl), hRl _ (Nat.le_of_ble_eq_true rfl)⟩) hK hN hP hD hS hA [4] [0, 1, 2, 3] [0, 1, 2, 3, 4] rfl rfl (by decide) (by decide) (by decide) (by decide) (fun _ => rfl) rfl hl.1 rfl (Nat.le_of_ble_eq_true rfl) dX2_closePart_100 ⟨Nat.zero_le _, Nat.zero_le _⟩ (fun  u100 H locs ho hP hD hS => ?_)
        try dsimp only at ho
        replace hP : va_P D vwCl [(a_li, oX2 a_fl a_va a_liD a_liF a_liA a_liB li_parts li_s li_least li_greatest), (a_liD, .inl (cI, 256, .inl liD_r)), (a_liF, .inl (cI, 256, .inl u73)), (a_liA, .inl (cI, 256, .inl u87)), (a_liB, .inl (cI, 256, .inl u100))] H := hP
        replace hD : va_D A [(a_li, oX2 a_fl a_va a_liD a_liF a_liA a_liB li_parts li_s li_least li_greatest), (a_liD, .inl (cI, 256, .inl liD_r)), (a_liF, .inl (cI, 256, .inl u73)), (a_liA, .inl (cI, 256, .inl u87)), (a_liB, .inl (cI, 256, .inl u100))] := hD
        refine lv_aload_n hx hb dX2_closePart_103 rfl (lv_at hl 0 rfl) ?_
        refine lv_dup hx hb dX2_closePart_104 rfl ?_
        refine va_get (D := D) (ci := 2) (v := .int li_parts) (C := RX2) (T := TX2) (N := 10) hx hb hts in_X2_closePart_X2 hown hK hP 0 rfl rfl 6 (by decide) (hts (.fieldLink RX2 32 "HardBench$Lines" "parts" "I") (List.mem_of_getElem? (i := 14) (by decide +kernel))) (fun _ h9 => h9) rfl dX2_closePart_105 ?_
        refine lv_iconst (v := 1) hx hb dX2_closePart_108 (by decide) ?_
        refine lv_iadd hx hb dX2_closePart_109 ?_
        refine va_put (D := D) (ci := 2) (v := .int (li_parts + (1 : Int32))) (ty := .int) (C := RX2) (T := TX2) (N := 10) hx hb hts in_X2_closePart_X2 tyX2 tyX2_ok nmX2 hown hK hP hD hS 0 rfl rfl 6 (by decide) (hts (.fieldLink RX2 32 "HardBench$Lines" "parts" "I") (List.mem_of_getElem? (i := 14) (by decide +kernel))) (fun _ h9 => h9) rfl (by decide +kernel) rfl rfl (Nat.le_of_ble_eq_true rfl) dX2_closePart_110 (fun H locs hP hD hS => ?_)
        replace hP : va_P D vwCl [(a_li, oX2 a_fl a_va a_liD a_liF a_liA a_liB (li_parts + (1 : Int32)) li_s li_least li_greatest), (a_liD, .inl (cI, 256, .inl liD_r)), (a_liF, .inl (cI, 256, .inl u73)), (a_liA, .inl (cI, 256, .inl u87)), (a_liB, .inl (cI, 256, .inl u100))] H := hP
        replace hD : va_D A [(a_li, oX2 a_fl a_va a_liD a_liF a_liA a_liB (li_parts + (1 : Int32)) li_s li_least li_greatest), (a_liD, .inl (cI, 256, .inl liD_r)), (a_liF, .inl (cI, 256, .inl u73)), (a_liA, .inl (cI, 256, .inl u87)), (a_liB, .inl (cI, 256, .inl u100))] := hD
        subst hQ; exact W.vret hx hb hr (fun t ht hW => ⟨⟨((li_parts + (1 : Int32)), u73, u87, u100), rfl, ho, by rw [ht]; exact hP, hD⟩, hS.F ht⟩) (fun q hq => hS.2.2 q hq) dX2_closePart_113
      · replace ho := ho.2 c_27
        refine lv_lload hx hb dX2_closePart_30 (lv_at hl 4 rfl) ?_
        refine lv_aload_n hx hb dX2_closePart_32 rfl (lv_at hl 0 rfl) ?_
        refine va_get (D := D) (ci := 2) (v := .ref a_liD) (C := RX2) (T := TX2) (N := 10) hx hb hts in_X2_closePart_X2 hown hK hP 0 rfl rfl 2 (by decide) (hts (.fieldLink RX2 19 "HardBench$Lines" "due" "[I") (List.mem_of_getElem? (i := 11) (by decide +kernel))) (fun _ h9 => h9) rfl dX2_closePart_33 ?_
        refine lv_iload hx hb dX2_closePart_36 (lv_at hl 5 rfl) ?_
        refine ca_Si (As := [.ref a_liD, .int x7]) (rest := [.long x5]) ⟨hx, hb, hml, hown, hts⟩ (c_X4_at l D cI cJ cZ a_liD 256 liD_r x7 _ ho) (va_cwS 2 hts gX2_closePart_X4_at rfl rfl rfl (by decide +kernel) ⟨hRf _ (Nat.le_of_ble_eq_true rfl), hRl _ (Nat.le_of_ble_eq_true rfl)⟩) hK hN hP [1] rfl rfl hl.1 rfl (Nat.le_of_ble_eq_true rfl) dX2_closePart_38 ⟨Nat.zero_le _, Nat.zero_le _⟩ (fun r38 ho => ?_)
        refine lv_i2l hx hb dX2_closePart_41 rfl ?_
        refine lv_aload_n hx hb dX2_closePart_42 rfl (lv_at hl 0 rfl) ?_
        refine va_get (D := D) (ci := 2) (v := .int li_s) (C := RX2) (T := TX2) (N := 10) hx hb hts in_X2_closePart_X2 hown hK hP 0 rfl rfl 7 (by decide) (hts (.fieldLink RX2 61 "HardBench$Lines" "s" "I") (List.mem_of_getElem? (i := 12) (by decide +kernel))) (fun _ h9 => h9) rfl dX2_closePart_43 ?_
        refine lv_lshl hx hb dX2_closePart_46 rfl ?_
        refine lv_lload_n hx hb dX2_closePart_47 rfl (lv_at hl 3 rfl) ?_
        refine lv_iload hx hb dX2_closePart_48 (lv_at hl 5 rfl) ?_
        refine lv_i2l hx hb dX2_closePart_50 rfl ?_
        refine lv_lmul hx hb dX2_closePart_51 ?_
        refine lv_lsub hx hb dX2_closePart_52 ?_
        refine va_mmax_long hx hb (hml.trans hl.1.symm) hown (hts (.methodLink RX2 109 Lib.MathLoose.max_long.x) (List.mem_of_getElem? (i := 7) (by decide +kernel))) (hts (.static Lib.MathLoose.max_long.x) (List.mem_of_getElem? (i := 8) (by decide +kernel))) (hts (.initialized "java/lang/Math") (List.mem_of_getElem? (i := 5) (by decide +kernel))) (hts (.code Lib.MathLoose.max_long.x Lib.MathLoose.max_long.code 4 (some .long)) (List.mem_of_getElem? (i := 9) (by decide +kernel))) (hRf 1 (Nat.le_of_ble_eq_true rfl)) (hRl _ (Nat.le_of_ble_eq_true rfl)) (Nat.zero_le _) (Nat.zero_le _) dX2_closePart_53 ?_
        refine lv_lstore (lv' := [(5, .long (if ((r38.toInt64 <<< (li_s.toInt64 &&& 63)) - (x3 * x7.toInt64)) < x5 then x5 else ((r38.toInt64 <<< (li_s.toInt64 &&& 63)) - (x3 * x7.toInt64)))), (0, .ref a_li), (1, .int p1), (2, .int p2), (3, .long x3), (7, .int x7)]) hx hb dX2_closePart_56 hl (by decide) rfl (fun ls hl => ?_)
        refine lv_iinc (v := (x7 + (1 : Int32))) (lv' := [(7, .int (x7 + (1 : Int32))), (5, .long (if ((r38.toInt64 <<< (li_s.toInt64 &&& 63)) - (x3 * x7.toInt64)) < x5 then x5 else ((r38.toInt64 <<< (li_s.toInt64 &&& 63)) - (x3 * x7.toInt64)))), (0, .ref a_li), (1, .int p1), (2, .int p2), (3, .long x3)]) hx hb dX2_closePart_58 hl (k := 5) rfl rfl (by decide) rfl (fun ls hl => ?_)
        refine lv_goto (tgt := 24) hx hb dX2_closePart_61 (by decide) ?_
        exact ih_24 li_parts liF_r liA_r liB_r x3 (if ((r38.toInt64 <<< (li_s.toInt64 &&& 63)) - (x3 * x7.toInt64)) < x5 then x5 else ((r38.toInt64 <<< (li_s.toInt64 &&& 63)) - (x3 * x7.toInt64))) (x7 + (1 : Int32)) H locs ls ho hP hD hS (lv_sub hl [2, 3, 4, 5, 1, 0] rfl)
  unfold wp_X2_closePart at ho
  refine lv_aload_n hx hb dX2_closePart_0 rfl (lv_at hl 0 rfl) ?_
  refine va_get (D := D) (ci := 2) (v := .long li_least) (C := RX2) (T := TX2) (N := 10) hx hb hts in_X2_closePart_X2 hown hK hP 0 rfl rfl 8 (by decide) (hts (.fieldLink RX2 96 "HardBench$Lines" "least" "J") (List.mem_of_getElem? (i := 1) (by decide +kernel))) (fun _ h9 => h9) rfl dX2_closePart_1 ?_
  refine lv_aload_n hx hb dX2_closePart_4 rfl (lv_at hl 0 rfl) ?_
  refine va_get (D := D) (ci := 2) (v := .long li_greatest) (C := RX2) (T := TX2) (N := 10) hx hb hts in_X2_closePart_X2 hown hK hP 0 rfl rfl 9 (by decide) (hts (.fieldLink RX2 102 "HardBench$Lines" "greatest" "J") (List.mem_of_getElem? (i := 2) (by decide +kernel))) (fun _ h9 => h9) rfl dX2_closePart_5 ?_
  refine lv_lconst (v := 0) hx hb dX2_closePart_8 (by decide) ?_
  refine va_mmin_long hx hb (hml.trans hl.1.symm) hown (hts (.methodLink RX2 114 Lib.MathLoose.min_long.x) (List.mem_of_getElem? (i := 3) (by decide +kernel))) (hts (.static Lib.MathLoose.min_long.x) (List.mem_of_getElem? (i := 4) (by decide +kernel))) (hts (.initialized "java/lang/Math") (List.mem_of_getElem? (i := 5) (by decide +kernel))) (hts (.code Lib.MathLoose.min_long.x Lib.MathLoose.min_long.code 4 (some .long)) (List.mem_of_getElem? (i := 6) (by decide +kernel))) (hRf 1 (Nat.le_of_ble_eq_true rfl)) (hRl _ (Nat.le_of_ble_eq_true rfl)) (Nat.zero_le _) (Nat.zero_le _) dX2_closePart_9 ?_
  refine va_mmax_long hx hb (hml.trans hl.1.symm) hown (hts (.methodLink RX2 109 Lib.MathLoose.max_long.x) (List.mem_of_getElem? (i := 7) (by decide +kernel))) (hts (.static Lib.MathLoose.max_long.x) (List.mem_of_getElem? (i := 8) (by decide +kernel))) (hts (.initialized "java/lang/Math") (List.mem_of_getElem? (i := 5) (by decide +kernel))) (hts (.code Lib.MathLoose.max_long.x Lib.MathLoose.max_long.code 4 (some .long)) (List.mem_of_getElem? (i := 9) (by decide +kernel))) (hRf 1 (Nat.le_of_ble_eq_true rfl)) (hRl _ (Nat.le_of_ble_eq_true rfl)) (Nat.zero_le _) (Nat.zero_le _) dX2_closePart_12 ?_
  refine lv_lstore_n (lv' := [(3, .long (if (if (0 : Int64) < li_greatest then (0 : Int64) else li_greatest) < li_least then li_least else (if (0 : Int64) < li_greatest then (0 : Int64) else li_greatest))), (0, .ref a_li), (1, .int p1), (2, .int p2)]) hx hb dX2_closePart_15 rfl hl (by decide) rfl (fun ls hl => ?_)
  refine lv_ldc2 hx hb hown (hts (.constantLong RX2 122 (-9223372036854775808)) (List.mem_of_getElem? (i := 10) (by decide +kernel))) dX2_closePart_16 ?_
  refine lv_lstore (lv' := [(5, .long (-9223372036854775808 : Int64)), (3, .long (if (if (0 : Int64) < li_greatest then (0 : Int64) else li_greatest) < li_least then li_least else (if (0 : Int64) < li_greatest then (0 : Int64) else li_greatest))), (0, .ref a_li), (1, .int p1), (2, .int p2)]) hx hb dX2_closePart_19 hl (by decide) rfl (fun ls hl => ?_)
  refine lv_iload_n hx hb dX2_closePart_21 rfl (lv_at hl 3 rfl) ?_
  refine lv_istore (lv' := [(7, .int p1), (5, .long (-9223372036854775808 : Int64)), (3, .long (if (if (0 : Int64) < li_greatest then (0 : Int64) else li_greatest) < li_least then li_least else (if (0 : Int64) < li_greatest then (0 : Int64) else li_greatest))), (0, .ref a_li), (1, .int p1), (2, .int p2)]) hx hb dX2_closePart_22 hl (by decide) rfl (fun ls hl => ?_)
  obtain ⟨n_24, ho⟩ := ho
  exact C_24 n_24 li_parts liF_r liA_r liB_r (if (if (0 : Int64) < li_greatest then (0 : Int64) else li_greatest) < li_least then li_least else (if (0 : Int64) < li_greatest then (0 : Int64) else li_greatest)) (-9223372036854775808 : Int64) p1 H locs ls ho hP hD hS (lv_sub hl [3, 4, 5, 2, 1, 0] rfl)

def wp_X2_cutParts_59 (post : Int32 → Int32 → Int64 → Int64 → (Nat → Int32) → (Nat → Int32) → (Nat → Int32) → Prop) (K_20 : Int32 → Int32 → Int64 → Int64 → (Nat → Int32) → (Nat → Int32) → (Nat → Int32) → Int32 → Int32 → Prop) (li_parts : Int32) (li_s : Int32) (li_least : Int64) (li_greatest : Int64) (liF_r : Nat → Int32) (liA_r : Nat → Int32) (liB_r : Nat → Int32) (x3 : Int32) (x4 : Int32) : Prop := K_20 li_parts li_s li_least li_greatest liF_r liA_r liB_r x3 (x4 + (1 : Int32))
def wp_X2_cutParts_20_b (post : Int32 → Int32 → Int64 → Int64 → (Nat → Int32) → (Nat → Int32) → (Nat → Int32) → Prop)  (fl_f : Int32) (liD_r : Nat → Int32) (p1 : Int32) (K_20 : Int32 → Int32 → Int64 → Int64 → (Nat → Int32) → (Nat → Int32) → (Nat → Int32) → Int32 → Int32 → Prop) (li_parts : Int32) (li_s : Int32) (li_least : Int64) (li_greatest : Int64) (liF_r : Nat → Int32) (liA_r : Nat → Int32) (liB_r : Nat → Int32) (x3 : Int32) (x4 : Int32) : Prop := wp_X1_zs (fun r26 => (((r26 ≤ x4) → (wp_X1_zs (fun r71 => (wp_X2_closePart (fun u76_1 u76_2 u76_3 u76_4 => (post  u76_1 li_s li_least li_greatest u76_2 u76_3 u76_4)) li_parts li_s li_least li_greatest liD_r liF_r liA_r liB_r x3 (r71 - (1 : Int32)))) fl_f)) ∧ ((¬ (r26 ≤ x4)) → (wp_X2_narrow (fun r36 u36_1 u36_2 => (((¬ r36 = 0) → (wp_X2_cutParts_59 post K_20 li_parts li_s u36_1 u36_2 liF_r liA_r liB_r x3 x4)) ∧ ((¬ (¬ r36 = 0)) → (wp_X2_closePart (fun u48_1 u48_2 u48_3 u48_4 => (wp_X2_widen (fun u56_1 u56_2 => (wp_X2_cutParts_59 post K_20 u48_1 li_s u56_1 u56_2 u48_2 u48_3 u48_4 x4 x4)) p1)) li_parts li_s u36_1 u36_2 liD_r liF_r liA_r liB_r x3 (x4 - (1 : Int32)))))) li_s li_least li_greatest liD_r x3 x4)))) fl_f
noncomputable def wp_X2_cutParts_20 (post : Int32 → Int32 → Int64 → Int64 → (Nat → Int32) → (Nat → Int32) → (Nat → Int32) → Prop)  (fl_f : Int32) (liD_r : Nat → Int32) (p1 : Int32) (n : Nat) : Int32 → Int32 → Int64 → Int64 → (Nat → Int32) → (Nat → Int32) → (Nat → Int32) → Int32 → Int32 → Prop := Nat.rec (motive := fun _ => Int32 → Int32 → Int64 → Int64 → (Nat → Int32) → (Nat → Int32) → (Nat → Int32) → Int32 → Int32 → Prop) (fun _ _ _ _ _ _ _ _ _ => False) (fun _ K_20 => wp_X2_cutParts_20_b post fl_f liD_r p1 K_20) n
def wp_X2_cutParts (post : Int32 → Int32 → Int64 → Int64 → (Nat → Int32) → (Nat → Int32) → (Nat → Int32) → Prop) (fl_f : Int32) (liD_r : Nat → Int32) (liF_r : Nat → Int32) (liA_r : Nat → Int32) (liB_r : Nat → Int32) (p1 : Int32) (p2 : Int32) : Prop := wp_X2_widen (fun u14_1 u14_2 => (∃ n, wp_X2_cutParts_20 post fl_f liD_r p1 n (0 : Int32) p2 u14_1 u14_2 liF_r liA_r liB_r (0 : Int32) (1 : Int32))) p1
set_option maxRecDepth 20000 in
theorem in_X2_cutParts_X2 : ∀ w ∈ u_ws RX2 TX2 10, w ∈ wsX2_cutParts := fun w h => (goodIn_r wsX20 [53, 54, 55, 56, 57, 58, 59, 60, 61, 62] (by decide +kernel) (by decide +kernel) w h).1
set_option maxHeartbeats 4000000 in
set_option maxRecDepth 100000 in
theorem c_X2_cutParts (l : Launch) (D : va_G) (cI cJ cZ : ClassId) (a_fl : Nat) (a_va : Nat) (a_li : Nat) (a_liD : Nat) (a_liF : Nat) (a_liA : Nat) (a_liB : Nat) (sz : Nat) (fl_e : Int32) (fl_f : Int32) (fl_bias : Int32) (fl_codes : Int32) (fl_signBit : Int32) (fl_endless : Int32) (li_parts : Int32) (li_s : Int32) (li_least : Int64) (li_greatest : Int64) (liD_r : Nat → Int32) (liF_r : Nat → Int32) (liA_r : Nat → Int32) (liB_r : Nat → Int32) (p1 : Int32) (p2 : Int32) (post : Int32 → Int32 → Int64 → Int64 → (Nat → Int32) → (Nat → Int32) → (Nat → Int32) → Prop) (A : Nat → Prop) (hAe : A = va_A [(a_fl, oX1 fl_e fl_f fl_bias fl_codes fl_signBit fl_endless), (a_li, oX2 a_fl a_va a_liD a_liF a_liA a_liB li_parts li_s li_least li_greatest), (a_liD, .inl (cI, 256, .inl liD_r)), (a_liF, .inl (cI, 256, .inl liF_r)), (a_liA, .inl (cI, 256, .inl liA_r)), (a_liB, .inl (cI, 256, .inl liB_r))] sz) (ho : wp_X2_cutParts post fl_f liD_r liF_r liA_r liB_r p1 p2) : Met l yX2_cutParts wsX2_cutParts ({ frames := 3, cells := 0, slots := 0, locals := 79 } : Room) (rw_P D [(cI, .int), (cJ, .long), (cZ, .boolean)] [.ref a_li, .int p1, .int p2] sz [(a_fl, oX1 fl_e fl_f fl_bias fl_codes fl_signBit fl_endless), (a_li, oX2 a_fl a_va a_liD a_liF a_liA a_liB li_parts li_s li_least li_greatest), (a_liD, .inl (cI, 256, .inl liD_r)), (a_liF, .inl (cI, 256, .inl liF_r)), (a_liA, .inl (cI, 256, .inl liA_r)), (a_liB, .inl (cI, 256, .inl liB_r))]) (va_Qv (fun (u : (Int32) × (Int32) × (Int64) × (Int64) × (Nat → Int32) × (Nat → Int32) × (Nat → Int32)) => post u.1 u.2.1 u.2.2.1 u.2.2.2.1 u.2.2.2.2.1 u.2.2.2.2.2.1 u.2.2.2.2.2.2) (rw_B D A (fun (u : (Int32) × (Int32) × (Int64) × (Int64) × (Nat → Int32) × (Nat → Int32) × (Nat → Int32)) => [(a_fl, oX1 fl_e fl_f fl_bias fl_codes fl_signBit fl_endless), (a_li, oX2 a_fl a_va a_liD a_liF a_liA a_liB u.1 u.2.1 u.2.2.1 u.2.2.2.1), (a_liD, .inl (cI, 256, .inl liD_r)), (a_liF, .inl (cI, 256, .inl u.2.2.2.2.1)), (a_liA, .inl (cI, 256, .inl u.2.2.2.2.2.1)), (a_liB, .inl (cI, 256, .inl u.2.2.2.2.2.2))])) A) 0 0 A := by
  refine Met.ofW (cc := cX2_cutParts) (maxL := 5) (ret := none) (by decide) rfl ?_
  intro p e s m args below meth c s₁ B hml hv
  obtain ⟨hargs, hsz, hP, hK, hN, hD0⟩ := hv
  have hx := B.exec
  have hb := B.bytes
  have hr := B.returns
  have hts := atoms_spec (ws := wsX2_cutParts) B.pre
  have hown : s.vm.findClass RX2 = some m.cls := findClass_of_methodNamed B.named
  have hlocks := B.notSynchronized
  subst hsz
  have hD : va_D A [(a_fl, oX1 fl_e fl_f fl_bias fl_codes fl_signBit fl_endless), (a_li, oX2 a_fl a_va a_liD a_liF a_liA a_liB li_parts li_s li_least li_greatest), (a_liD, .inl (cI, 256, .inl liD_r)), (a_liF, .inl (cI, 256, .inl liF_r)), (a_liA, .inl (cI, 256, .inl liA_r)), (a_liB, .inl (cI, 256, .inl liB_r))] := by rw [hAe]; exact hD0.self
  have hA : ∀ q : Nat, s.heap.size ≤ q → A q := fun q h => by rw [hAe]; exact Or.inr h
  have hS : va_S A s.heap s.heap [] := va_S.rf
  have hl := lv_entry ([.ref a_li, .int p1, .int p2]) (n := 5) (Nat.le_of_ble_eq_true rfl)
  rw [hargs, lg_entry_eq, ← hargs]
  generalize (lg_sl ([.ref a_li, .int p1, .int p2]) ++ List.replicate (5 - (lg_sl ([.ref a_li, .int p1, .int p2])).length) Slot.unset).toArray = ls at hl ⊢
  replace hl : lv_has ls 5 [(0, .ref a_li), (1, .int p1), (2, .int p2)] := hl
  have hRf : ∀ n, n ≤ 3 → n ≤ (headSpec wsX2_cutParts ({ frames := 3, cells := 0, slots := 0, locals := 79 } : Room)).room.frames := fun n h => h
  have hRl : ∀ n, n ≤ 79 → n ≤ (headSpec wsX2_cutParts ({ frames := 3, cells := 0, slots := 0, locals := 79 } : Room)).room.locals := fun n h => h
  generalize (headSpec wsX2_cutParts ({ frames := 3, cells := 0, slots := 0, locals := 79 } : Room)).room = R at hRf hRl ⊢
  generalize hQ : MQ below _ args s 0 0 _ = Q
  have C_20 : ∀ n : Nat, ∀ (li_parts : Int32) (li_s : Int32) (li_least : Int64) (li_greatest : Int64) (liF_r : Nat → Int32) (liA_r : Nat → Int32) (liB_r : Nat → Int32) (x3 : Int32) (x4 : Int32) (H : Heap) (locs : List Loc) (ls : Array Slot), wp_X2_cutParts_20 post  fl_f liD_r p1 n li_parts li_s li_least li_greatest liF_r liA_r liB_r x3 x4 → va_P D vwCl [(a_fl, oX1 fl_e fl_f fl_bias fl_codes fl_signBit fl_endless), (a_li, oX2 a_fl a_va a_liD a_liF a_liA a_liB li_parts li_s li_least li_greatest), (a_liD, .inl (cI, 256, .inl liD_r)), (a_liF, .inl (cI, 256, .inl liF_r)), (a_liA, .inl (cI, 256, .inl liA_r)), (a_liB, .inl (cI, 256, .inl liB_r))] H → va_D A [(a_fl, oX1 fl_e fl_f fl_bias fl_codes fl_signBit fl_endless), (a_li, oX2 a_fl a_va a_liD a_liF a_liA a_liB li_parts li_s li_least li_greatest), (a_liD, .inl (cI, 256, .inl liD_r)), (a_liF, .inl (cI, 256, .inl liF_r)), (a_liA, .inl (cI, 256, .inl liA_r)), (a_liB, .inl (cI, 256, .inl liB_r))] → va_S A s.heap H locs → lv_has ls 5 [(0, .ref a_li), (1, .int p1), (3, .int x3), (4, .int x4)] → W p l e R s m args below meth c H locs 0 0 Q (F0 m 20 ls []) := by
    intro n
    induction n with
    | zero => intro li_parts li_s li_least li_greatest liF_r liA_r liB_r x3 x4 H locs ls ho hP hD hS hl; exact ho.elim
    | succ n_20 ih_20 =>
      have C_59 : ∀ (li_parts : Int32) (li_s : Int32) (li_least : Int64) (li_greatest : Int64) (liF_r : Nat → Int32) (liA_r : Nat → Int32) (liB_r : Nat → Int32) (x3 : Int32) (x4 : Int32) (H : Heap) (locs : List Loc) (ls : Array Slot), wp_X2_cutParts_59 post (wp_X2_cutParts_20 post fl_f liD_r p1 n_20) li_parts li_s li_least li_greatest liF_r liA_r liB_r x3 x4 → va_P D vwCl [(a_fl, oX1 fl_e fl_f fl_bias fl_codes fl_signBit fl_endless), (a_li, oX2 a_fl a_va a_liD a_liF a_liA a_liB li_parts li_s li_least li_greatest), (a_liD, .inl (cI, 256, .inl liD_r)), (a_liF, .inl (cI, 256, .inl liF_r)), (a_liA, .inl (cI, 256, .inl liA_r)), (a_liB, .inl (cI, 256, .inl liB_r))] H → va_D A [(a_fl, oX1 fl_e fl_f fl_bias fl_codes fl_signBit fl_endless), (a_li, oX2 a_fl a_va a_liD a_liF a_liA a_liB li_parts li_s li_least li_greatest), (a_liD, .inl (cI, 256, .inl liD_r)), (a_liF, .inl (cI, 256, .inl liF_r)), (a_liA, .inl (cI, 256, .inl liA_r)), (a_liB, .inl (cI, 256, .inl liB_r))] → va_S A s.heap H locs → lv_has ls 5 [(0, .ref a_li), (1, .int p1), (3, .int x3), (4, .int x4)] → W p l e R s m args below meth c H locs 0 0 Q (F0 m 59 ls []) := by
        intro li_parts li_s li_least li_greatest liF_r liA_r liB_r x3 x4 H locs ls ho hP hD hS hl
        unfold wp_X2_cutParts_59 at ho
        refine lv_iinc (v := (x4 + (1 : Int32))) (lv' := [(4, .int (x4 + (1 : Int32))), (0, .ref a_li), (1, .int p1), (3, .int x3)]) hx hb dX2_cutParts_59 hl (k := 3) rfl rfl (by decide) rfl (fun ls hl => ?_)
        refine lv_goto (tgt := 20) hx hb dX2_cutParts_62 (by decide) ?_
        exact ih_20 li_parts li_s li_least li_greatest liF_r liA_r liB_r x3 (x4 + (1 : Int32)) H locs ls ho hP hD hS (lv_sub hl [1, 2, 3, 0] rfl)
      intro li_parts li_s li_least li_greatest liF_r liA_r liB_r x3 x4 H locs ls ho hP hD hS hl
      replace ho : wp_X2_cutParts_20_b post fl_f liD_r p1 (wp_X2_cutParts_20 post fl_f liD_r p1 n_20) li_parts li_s li_least li_greatest liF_r liA_r liB_r x3 x4 := ho
      unfold wp_X2_cutParts_20_b at ho
      refine lv_iload hx hb dX2_cutParts_20 (lv_at hl 3 rfl) ?_
      refine lv_aload_n hx hb dX2_cutParts_22 rfl (lv_at hl 0 rfl) ?_
      refine va_get (D := D) (ci := 2) (v := .ref a_fl) (C := RX2) (T := TX2) (N := 10) hx hb hts in_X2_cutParts_X2 hown hK hP 1 rfl rfl 0 (by decide) (hts (.fieldLink RX2 9 "HardBench$Lines" "floats" "LHardBench$Floats;") (List.mem_of_getElem? (i := 3) (by decide +kernel))) (fun _ h9 => h9) rfl dX2_cutParts_23 ?_
      refine ca_Vi (b := a_fl) (As := []) (rest := [.int x4]) ⟨hx, hb, hml, hown, hts⟩ (c_X1_zs l D cI cJ cZ a_fl fl_e fl_f fl_bias fl_codes fl_signBit fl_endless  _ ho) (cwV 0 hts gX2_cutParts_X1_zs rfl rfl rfl (by decide +kernel) ⟨hRf _ (Nat.le_of_ble_eq_true rfl), hRl _ (Nat.le_of_ble_eq_true rfl)⟩) hK hN hP [0] rfl 0 1 rfl rfl rfl rfl hl.1 rfl (Nat.le_of_ble_eq_true rfl) dX2_cutParts_26 ⟨Nat.zero_le _, Nat.zero_le _⟩ (fun r26 ho => ?_)
      refine lv_icmp_ge (tgt := 65) hx hb dX2_cutParts_29 (by decide) (fun c_29 => ?_) (fun c_29 => ?_)
      · replace ho := ho.1 c_29
        refine lv_aload_n hx hb dX2_cutParts_65 rfl (lv_at hl 0 rfl) ?_
        refine lv_iload_n hx hb dX2_cutParts_66 rfl (lv_at hl 2 rfl) ?_
        refine lv_aload_n hx hb dX2_cutParts_67 rfl (lv_at hl 0 rfl) ?_
        refine va_get (D := D) (ci := 2) (v := .ref a_fl) (C := RX2) (T := TX2) (N := 10) hx hb hts in_X2_cutParts_X2 hown hK hP 1 rfl rfl 0 (by decide) (hts (.fieldLink RX2 9 "HardBench$Lines" "floats" "LHardBench$Floats;") (List.mem_of_getElem? (i := 3) (by decide +kernel))) (fun _ h9 => h9) rfl dX2_cutParts_68 ?_
        refine ca_Vi (b := a_fl) (As := []) (rest := [.int x3, .ref a_li]) ⟨hx, hb, hml, hown, hts⟩ (c_X1_zs l D cI cJ cZ a_fl fl_e fl_f fl_bias fl_codes fl_signBit fl_endless  _ ho) (cwV 0 hts gX2_cutParts_X1_zs rfl rfl rfl (by decide +kernel) ⟨hRf _ (Nat.le_of_ble_eq_true rfl), hRl _ (Nat.le_of_ble_eq_true rfl)⟩) hK hN hP [0] rfl 0 1 rfl rfl rfl rfl hl.1 rfl (Nat.le_of_ble_eq_true rfl) dX2_cutParts_71 ⟨Nat.zero_le _, Nat.zero_le _⟩ (fun r71 ho => ?_)
        refine lv_iconst (v := 1) hx hb dX2_cutParts_74 (by decide) ?_
        refine lv_isub hx hb dX2_cutParts_75 ?_
        refine ca_Wv (b := a_li) (As := [.int x3, .int (r71 - (1 : Int32))]) (rest := []) (wr := [(a_fl, oX1 fl_e fl_f fl_bias fl_codes fl_signBit fl_endless)]) (wo := fun u => [(a_li, oX2 a_fl a_va a_liD a_liF a_liA a_liB u.1 li_s li_least li_greatest), (a_liD, .inl (cI, 256, .inl liD_r)), (a_liF, .inl (cI, 256, .inl u.2.1)), (a_liA, .inl (cI, 256, .inl u.2.2.1)), (a_liB, .inl (cI, 256, .inl u.2.2.2))]) (wn := fun u => [(a_fl, oX1 fl_e fl_f fl_bias fl_codes fl_signBit fl_endless), (a_li, oX2 a_fl a_va a_liD a_liF a_liA a_liB u.1 li_s li_least li_greatest), (a_liD, .inl (cI, 256, .inl liD_r)), (a_liF, .inl (cI, 256, .inl u.2.1)), (a_liA, .inl (cI, 256, .inl u.2.2.1)), (a_liB, .inl (cI, 256, .inl u.2.2.2))]) ⟨hx, hb, hml, hown, hts⟩ (c_X2_closePart l D cI cJ cZ a_fl a_va a_li a_liD a_liF a_liA a_liB H.size li_parts li_s li_least li_greatest liD_r liF_r liA_r liB_r x3 (r71 - (1 : Int32)) _ _ rfl ho) (cwV 2 hts gX2_cutParts_X2_closePart rfl rfl rfl (by decide +kernel) ⟨hRf _ (Nat.le_of_ble_eq_true rfl), hRl _ (Nat.le_of_ble_eq_true rfl)⟩) hK hN hP hD hS hA [1, 2, 3, 4, 5] [0] [0, 1, 2, 3, 4, 5] rfl rfl (by decide) (by decide) (by decide) (by decide) (fun _ => rfl) 0 2 rfl rfl rfl rfl hl.1 rfl (Nat.le_of_ble_eq_true rfl) dX2_cutParts_76 ⟨Nat.zero_le _, Nat.zero_le _⟩ (fun  u76 H locs ho hP hD hS => ?_)
        obtain ⟨u76_1, u76_2, u76_3, u76_4⟩ := u76
        try dsimp only at ho
        replace hP : va_P D vwCl [(a_fl, oX1 fl_e fl_f fl_bias fl_codes fl_signBit fl_endless), (a_li, oX2 a_fl a_va a_liD a_liF a_liA a_liB u76_1 li_s li_least li_greatest), (a_liD, .inl (cI, 256, .inl liD_r)), (a_liF, .inl (cI, 256, .inl u76_2)), (a_liA, .inl (cI, 256, .inl u76_3)), (a_liB, .inl (cI, 256, .inl u76_4))] H := hP
        replace hD : va_D A [(a_fl, oX1 fl_e fl_f fl_bias fl_codes fl_signBit fl_endless), (a_li, oX2 a_fl a_va a_liD a_liF a_liA a_liB u76_1 li_s li_least li_greatest), (a_liD, .inl (cI, 256, .inl liD_r)), (a_liF, .inl (cI, 256, .inl u76_2)), (a_liA, .inl (cI, 256, .inl u76_3)), (a_liB, .inl (cI, 256, .inl u76_4))] := hD
        subst hQ; exact W.vret hx hb hr (fun t ht hW => ⟨⟨(u76_1, li_s, li_least, li_greatest, u76_2, u76_3, u76_4), rfl, ho, by rw [ht]; exact hP, hD⟩, hS.F ht⟩) (fun q hq => hS.2.2 q hq) dX2_cutParts_79
      · replace ho := ho.2 c_29
        refine lv_aload_n hx hb dX2_cutParts_32 rfl (lv_at hl 0 rfl) ?_
        refine lv_iload_n hx hb dX2_cutParts_33 rfl (lv_at hl 2 rfl) ?_
        refine lv_iload hx hb dX2_cutParts_34 (lv_at hl 3 rfl) ?_
        refine ca_Wi (b := a_li) (As := [.int x3, .int x4]) (rest := []) (wr := [(a_fl, oX1 fl_e fl_f fl_bias fl_codes fl_signBit fl_endless), (a_liF, .inl (cI, 256, .inl liF_r)), (a_liA, .inl (cI, 256, .inl liA_r)), (a_liB, .inl (cI, 256, .inl liB_r))]) (wo := fun u => [(a_li, oX2 a_fl a_va a_liD a_liF a_liA a_liB li_parts li_s u.1 u.2), (a_liD, .inl (cI, 256, .inl liD_r))]) (wn := fun u => [(a_fl, oX1 fl_e fl_f fl_bias fl_codes fl_signBit fl_endless), (a_li, oX2 a_fl a_va a_liD a_liF a_liA a_liB li_parts li_s u.1 u.2), (a_liD, .inl (cI, 256, .inl liD_r)), (a_liF, .inl (cI, 256, .inl liF_r)), (a_liA, .inl (cI, 256, .inl liA_r)), (a_liB, .inl (cI, 256, .inl liB_r))]) ⟨hx, hb, hml, hown, hts⟩ (c_X2_narrow l D cI cJ cZ a_fl a_va a_li a_liD a_liF a_liA a_liB H.size li_parts li_s li_least li_greatest liD_r x3 x4 _ _ rfl ho) (cwV 2 hts gX2_cutParts_X2_narrow rfl rfl rfl (by decide +kernel) ⟨hRf _ (Nat.le_of_ble_eq_true rfl), hRl _ (Nat.le_of_ble_eq_true rfl)⟩) hK hN hP hD hS hA [1, 2] [0, 3, 4, 5] [0, 4, 5, 1, 2, 3] rfl rfl (by decide) (by decide) (by decide) (by decide) (fun _ => rfl) 0 2 rfl rfl rfl rfl hl.1 rfl (Nat.le_of_ble_eq_true rfl) dX2_cutParts_36 ⟨Nat.zero_le _, Nat.zero_le _⟩ (fun r36 u36 H locs ho hP hD hS => ?_)
        obtain ⟨u36_1, u36_2⟩ := u36
        try dsimp only at ho
        replace hP : va_P D vwCl [(a_fl, oX1 fl_e fl_f fl_bias fl_codes fl_signBit fl_endless), (a_li, oX2 a_fl a_va a_liD a_liF a_liA a_liB li_parts li_s u36_1 u36_2), (a_liD, .inl (cI, 256, .inl liD_r)), (a_liF, .inl (cI, 256, .inl liF_r)), (a_liA, .inl (cI, 256, .inl liA_r)), (a_liB, .inl (cI, 256, .inl liB_r))] H := hP
        replace hD : va_D A [(a_fl, oX1 fl_e fl_f fl_bias fl_codes fl_signBit fl_endless), (a_li, oX2 a_fl a_va a_liD a_liF a_liA a_liB li_parts li_s u36_1 u36_2), (a_liD, .inl (cI, 256, .inl liD_r)), (a_liF, .inl (cI, 256, .inl liF_r)), (a_liA, .inl (cI, 256, .inl liA_r)), (a_liB, .inl (cI, 256, .inl liB_r))] := hD
        refine lv_if_ne (tgt := 59) hx hb dX2_cutParts_39 (by decide) (fun c_39 => ?_) (fun c_39 => ?_)
        · replace ho := ho.1 c_39
          exact C_59 li_parts li_s u36_1 u36_2 liF_r liA_r liB_r x3 x4 H locs ls ho hP hD hS (lv_sub hl [0, 1, 2, 3] rfl)
        · replace ho := ho.2 c_39
          refine lv_aload_n hx hb dX2_cutParts_42 rfl (lv_at hl 0 rfl) ?_
          refine lv_iload_n hx hb dX2_cutParts_43 rfl (lv_at hl 2 rfl) ?_
          refine lv_iload hx hb dX2_cutParts_44 (lv_at hl 3 rfl) ?_
          refine lv_iconst (v := 1) hx hb dX2_cutParts_46 (by decide) ?_
          refine lv_isub hx hb dX2_cutParts_47 ?_
          refine ca_Wv (b := a_li) (As := [.int x3, .int (x4 - (1 : Int32))]) (rest := []) (wr := [(a_fl, oX1 fl_e fl_f fl_bias fl_codes fl_signBit fl_endless)]) (wo := fun u => [(a_li, oX2 a_fl a_va a_liD a_liF a_liA a_liB u.1 li_s u36_1 u36_2), (a_liD, .inl (cI, 256, .inl liD_r)), (a_liF, .inl (cI, 256, .inl u.2.1)), (a_liA, .inl (cI, 256, .inl u.2.2.1)), (a_liB, .inl (cI, 256, .inl u.2.2.2))]) (wn := fun u => [(a_fl, oX1 fl_e fl_f fl_bias fl_codes fl_signBit fl_endless), (a_li, oX2 a_fl a_va a_liD a_liF a_liA a_liB u.1 li_s u36_1 u36_2), (a_liD, .inl (cI, 256, .inl liD_r)), (a_liF, .inl (cI, 256, .inl u.2.1)), (a_liA, .inl (cI, 256, .inl u.2.2.1)), (a_liB, .inl (cI, 256, .inl u.2.2.2))]) ⟨hx, hb, hml, hown, hts⟩ (c_X2_closePart l D cI cJ cZ a_fl a_va a_li a_liD a_liF a_liA a_liB H.size li_parts li_s u36_1 u36_2 liD_r liF_r liA_r liB_r x3 (x4 - (1 : Int32)) _ _ rfl ho) (cwV 2 hts gX2_cutParts_X2_closePart rfl rfl rfl (by decide +kernel) ⟨hRf _ (Nat.le_of_ble_eq_true rfl), hRl _ (Nat.le_of_ble_eq_true rfl)⟩) hK hN hP hD hS hA [1, 2, 3, 4, 5] [0] [0, 1, 2, 3, 4, 5] rfl rfl (by decide) (by decide) (by decide) (by decide) (fun _ => rfl) 0 2 rfl rfl rfl rfl hl.1 rfl (Nat.le_of_ble_eq_true rfl) dX2_cutParts_48 ⟨Nat.zero_le _, Nat.zero_le _⟩ (fun  u48 H locs ho hP hD hS => ?_)
          obtain ⟨u48_1, u48_2, u48_3, u48_4⟩ := u48
          try dsimp only at ho
          replace hP : va_P D vwCl [(a_fl, oX1 fl_e fl_f fl_bias fl_codes fl_signBit fl_endless), (a_li, oX2 a_fl a_va a_liD a_liF a_liA a_liB u48_1 li_s u36_1 u36_2), (a_liD, .inl (cI, 256, .inl liD_r)), (a_liF, .inl (cI, 256, .inl u48_2)), (a_liA, .inl (cI, 256, .inl u48_3)), (a_liB, .inl (cI, 256, .inl u48_4))] H := hP
          replace hD : va_D A [(a_fl, oX1 fl_e fl_f fl_bias fl_codes fl_signBit fl_endless), (a_li, oX2 a_fl a_va a_liD a_liF a_liA a_liB u48_1 li_s u36_1 u36_2), (a_liD, .inl (cI, 256, .inl liD_r)), (a_liF, .inl (cI, 256, .inl u48_2)), (a_liA, .inl (cI, 256, .inl u48_3)), (a_liB, .inl (cI, 256, .inl u48_4))] := hD
          refine lv_iload hx hb dX2_cutParts_51 (lv_at hl 3 rfl) ?_
          refine lv_istore_n (lv' := [(3, .int x4), (0, .ref a_li), (1, .int p1), (4, .int x4)]) hx hb dX2_cutParts_53 rfl hl (by decide) rfl (fun ls hl => ?_)
          refine lv_aload_n hx hb dX2_cutParts_54 rfl (lv_at hl 1 rfl) ?_
          refine lv_iload_n hx hb dX2_cutParts_55 rfl (lv_at hl 2 rfl) ?_
          refine ca_Wv (b := a_li) (As := [.int p1]) (rest := []) (wr := [(a_fl, oX1 fl_e fl_f fl_bias fl_codes fl_signBit fl_endless), (a_liD, .inl (cI, 256, .inl liD_r)), (a_liF, .inl (cI, 256, .inl u48_2)), (a_liA, .inl (cI, 256, .inl u48_3)), (a_liB, .inl (cI, 256, .inl u48_4))]) (wo := fun u => [(a_li, oX2 a_fl a_va a_liD a_liF a_liA a_liB u48_1 li_s u.1 u.2)]) (wn := fun u => [(a_fl, oX1 fl_e fl_f fl_bias fl_codes fl_signBit fl_endless), (a_li, oX2 a_fl a_va a_liD a_liF a_liA a_liB u48_1 li_s u.1 u.2), (a_liD, .inl (cI, 256, .inl liD_r)), (a_liF, .inl (cI, 256, .inl u48_2)), (a_liA, .inl (cI, 256, .inl u48_3)), (a_liB, .inl (cI, 256, .inl u48_4))]) ⟨hx, hb, hml, hown, hts⟩ (c_X2_widen l D cI cJ cZ a_fl a_va a_li a_liD a_liF a_liA a_liB H.size u48_1 li_s u36_1 u36_2 p1 _ _ rfl ho) (cwV 1 hts gX2_cutParts_X2_widen rfl rfl rfl (by decide +kernel) ⟨hRf _ (Nat.le_of_ble_eq_true rfl), hRl _ (Nat.le_of_ble_eq_true rfl)⟩) hK hN hP hD hS hA [1] [0, 2, 3, 4, 5] [0, 5, 1, 2, 3, 4] rfl rfl (by decide) (by decide) (by decide) (by decide) (fun _ => rfl) 0 2 rfl rfl rfl rfl hl.1 rfl (Nat.le_of_ble_eq_true rfl) dX2_cutParts_56 ⟨Nat.zero_le _, Nat.zero_le _⟩ (fun  u56 H locs ho hP hD hS => ?_)
          obtain ⟨u56_1, u56_2⟩ := u56
          try dsimp only at ho
          replace hP : va_P D vwCl [(a_fl, oX1 fl_e fl_f fl_bias fl_codes fl_signBit fl_endless), (a_li, oX2 a_fl a_va a_liD a_liF a_liA a_liB u48_1 li_s u56_1 u56_2), (a_liD, .inl (cI, 256, .inl liD_r)), (a_liF, .inl (cI, 256, .inl u48_2)), (a_liA, .inl (cI, 256, .inl u48_3)), (a_liB, .inl (cI, 256, .inl u48_4))] H := hP
          replace hD : va_D A [(a_fl, oX1 fl_e fl_f fl_bias fl_codes fl_signBit fl_endless), (a_li, oX2 a_fl a_va a_liD a_liF a_liA a_liB u48_1 li_s u56_1 u56_2), (a_liD, .inl (cI, 256, .inl liD_r)), (a_liF, .inl (cI, 256, .inl u48_2)), (a_liA, .inl (cI, 256, .inl u48_3)), (a_liB, .inl (cI, 256, .inl u48_4))] := hD
          exact C_59 u48_1 li_s u56_1 u56_2 u48_2 u48_3 u48_4 x4 x4 H locs ls ho hP hD hS (lv_sub hl [1, 2, 0, 3] rfl)
  unfold wp_X2_cutParts at ho
  refine lv_aload_n hx hb dX2_cutParts_0 rfl (lv_at hl 0 rfl) ?_
  refine lv_iload_n hx hb dX2_cutParts_1 rfl (lv_at hl 2 rfl) ?_
  refine va_put (D := D) (ci := 2) (v := .int p2) (ty := .int) (C := RX2) (T := TX2) (N := 10) hx hb hts in_X2_cutParts_X2 tyX2 tyX2_ok nmX2 hown hK hP hD hS 1 rfl rfl 7 (by decide) (hts (.fieldLink RX2 61 "HardBench$Lines" "s" "I") (List.mem_of_getElem? (i := 1) (by decide +kernel))) (fun _ h9 => h9) rfl (by decide +kernel) rfl rfl (Nat.le_of_ble_eq_true rfl) dX2_cutParts_2 (fun H locs hP hD hS => ?_)
  replace hP : va_P D vwCl [(a_fl, oX1 fl_e fl_f fl_bias fl_codes fl_signBit fl_endless), (a_li, oX2 a_fl a_va a_liD a_liF a_liA a_liB li_parts p2 li_least li_greatest), (a_liD, .inl (cI, 256, .inl liD_r)), (a_liF, .inl (cI, 256, .inl liF_r)), (a_liA, .inl (cI, 256, .inl liA_r)), (a_liB, .inl (cI, 256, .inl liB_r))] H := hP
  replace hD : va_D A [(a_fl, oX1 fl_e fl_f fl_bias fl_codes fl_signBit fl_endless), (a_li, oX2 a_fl a_va a_liD a_liF a_liA a_liB li_parts p2 li_least li_greatest), (a_liD, .inl (cI, 256, .inl liD_r)), (a_liF, .inl (cI, 256, .inl liF_r)), (a_liA, .inl (cI, 256, .inl liA_r)), (a_liB, .inl (cI, 256, .inl liB_r))] := hD
  refine lv_aload_n hx hb dX2_cutParts_5 rfl (lv_at hl 0 rfl) ?_
  refine lv_iconst (v := 0) hx hb dX2_cutParts_6 (by decide) ?_
  refine va_put (D := D) (ci := 2) (v := .int (0 : Int32)) (ty := .int) (C := RX2) (T := TX2) (N := 10) hx hb hts in_X2_cutParts_X2 tyX2 tyX2_ok nmX2 hown hK hP hD hS 1 rfl rfl 6 (by decide) (hts (.fieldLink RX2 32 "HardBench$Lines" "parts" "I") (List.mem_of_getElem? (i := 2) (by decide +kernel))) (fun _ h9 => h9) rfl (by decide +kernel) rfl rfl (Nat.le_of_ble_eq_true rfl) dX2_cutParts_7 (fun H locs hP hD hS => ?_)
  replace hP : va_P D vwCl [(a_fl, oX1 fl_e fl_f fl_bias fl_codes fl_signBit fl_endless), (a_li, oX2 a_fl a_va a_liD a_liF a_liA a_liB (0 : Int32) p2 li_least li_greatest), (a_liD, .inl (cI, 256, .inl liD_r)), (a_liF, .inl (cI, 256, .inl liF_r)), (a_liA, .inl (cI, 256, .inl liA_r)), (a_liB, .inl (cI, 256, .inl liB_r))] H := hP
  replace hD : va_D A [(a_fl, oX1 fl_e fl_f fl_bias fl_codes fl_signBit fl_endless), (a_li, oX2 a_fl a_va a_liD a_liF a_liA a_liB (0 : Int32) p2 li_least li_greatest), (a_liD, .inl (cI, 256, .inl liD_r)), (a_liF, .inl (cI, 256, .inl liF_r)), (a_liA, .inl (cI, 256, .inl liA_r)), (a_liB, .inl (cI, 256, .inl liB_r))] := hD
  refine lv_iconst (v := 0) hx hb dX2_cutParts_10 (by decide) ?_
  refine lv_istore_n (lv' := [(3, .int (0 : Int32)), (0, .ref a_li), (1, .int p1), (2, .int p2)]) hx hb dX2_cutParts_11 rfl hl (by decide) rfl (fun ls hl => ?_)
  refine lv_aload_n hx hb dX2_cutParts_12 rfl (lv_at hl 1 rfl) ?_
  refine lv_iload_n hx hb dX2_cutParts_13 rfl (lv_at hl 2 rfl) ?_
  refine ca_Wv (b := a_li) (As := [.int p1]) (rest := []) (wr := [(a_fl, oX1 fl_e fl_f fl_bias fl_codes fl_signBit fl_endless), (a_liD, .inl (cI, 256, .inl liD_r)), (a_liF, .inl (cI, 256, .inl liF_r)), (a_liA, .inl (cI, 256, .inl liA_r)), (a_liB, .inl (cI, 256, .inl liB_r))]) (wo := fun u => [(a_li, oX2 a_fl a_va a_liD a_liF a_liA a_liB (0 : Int32) p2 u.1 u.2)]) (wn := fun u => [(a_fl, oX1 fl_e fl_f fl_bias fl_codes fl_signBit fl_endless), (a_li, oX2 a_fl a_va a_liD a_liF a_liA a_liB (0 : Int32) p2 u.1 u.2), (a_liD, .inl (cI, 256, .inl liD_r)), (a_liF, .inl (cI, 256, .inl liF_r)), (a_liA, .inl (cI, 256, .inl liA_r)), (a_liB, .inl (cI, 256, .inl liB_r))]) ⟨hx, hb, hml, hown, hts⟩ (c_X2_widen l D cI cJ cZ a_fl a_va a_li a_liD a_liF a_liA a_liB H.size (0 : Int32) p2 li_least li_greatest p1 _ _ rfl ho) (cwV 1 hts gX2_cutParts_X2_widen rfl rfl rfl (by decide +kernel) ⟨hRf _ (Nat.le_of_ble_eq_true rfl), hRl _ (Nat.le_of_ble_eq_true rfl)⟩) hK hN hP hD hS hA [1] [0, 2, 3, 4, 5] [0, 5, 1, 2, 3, 4] rfl rfl (by decide) (by decide) (by decide) (by decide) (fun _ => rfl) 0 2 rfl rfl rfl rfl hl.1 rfl (Nat.le_of_ble_eq_true rfl) dX2_cutParts_14 ⟨Nat.zero_le _, Nat.zero_le _⟩ (fun  u14 H locs ho hP hD hS => ?_)
  obtain ⟨u14_1, u14_2⟩ := u14
  try dsimp only at ho
  replace hP : va_P D vwCl [(a_fl, oX1 fl_e fl_f fl_bias fl_codes fl_signBit fl_endless), (a_li, oX2 a_fl a_va a_liD a_liF a_liA a_liB (0 : Int32) p2 u14_1 u14_2), (a_liD, .inl (cI, 256, .inl liD_r)), (a_liF, .inl (cI, 256, .inl liF_r)), (a_liA, .inl (cI, 256, .inl liA_r)), (a_liB, .inl (cI, 256, .inl liB_r))] H := hP
  replace hD : va_D A [(a_fl, oX1 fl_e fl_f fl_bias fl_codes fl_signBit fl_endless), (a_li, oX2 a_fl a_va a_liD a_liF a_liA a_liB (0 : Int32) p2 u14_1 u14_2), (a_liD, .inl (cI, 256, .inl liD_r)), (a_liF, .inl (cI, 256, .inl liF_r)), (a_liA, .inl (cI, 256, .inl liA_r)), (a_liB, .inl (cI, 256, .inl liB_r))] := hD
  refine lv_iconst (v := 1) hx hb dX2_cutParts_17 (by decide) ?_
  refine lv_istore (lv' := [(4, .int (1 : Int32)), (3, .int (0 : Int32)), (0, .ref a_li), (1, .int p1), (2, .int p2)]) hx hb dX2_cutParts_18 hl (by decide) rfl (fun ls hl => ?_)
  obtain ⟨n_20, ho⟩ := ho
  exact C_20 n_20 (0 : Int32) p2 u14_1 u14_2 liF_r liA_r liB_r (0 : Int32) (1 : Int32) H locs ls ho hP hD hS (lv_sub hl [2, 3, 1, 0] rfl)
