def w_X2_onLine : List Cond := .code yX2_onLine cX2_onLine 7 (some .long) :: wsL_law
set_option maxHeartbeats 4000000 in
set_option maxRecDepth 100000 in
theorem c_X2_onLine (l : Launch) (D : va_G) (cI cJ cZ : ClassId)   (p1 : Int64) (p2 : Int64) (p3 : Int64) (p4 : Int32) (post : Int64 → Prop) (ho : wp_X2_onLine post p1 p2 p3 p4) : Met l yX2_onLine w_X2_onLine ({ frames := 0, cells := 0, slots := 0, locals := 0 } : Room) (ro_P D [(cI, .int), (cJ, .long), (cZ, .boolean)] [.long p1, .long p2, .long p3, .int p4] []) (vp_Sl post) 0 0 (fun _ => False) := by
  refine Met.ofW (cc := cX2_onLine) (maxL := 7) (ret := (some .long)) (by decide) rfl ?_
  intro p e s m args below meth c s₁ B hml hv
  obtain ⟨hargs, hP, hK, hN⟩ := hv
  have hx := B.exec
  have hb := B.bytes
  have hr := B.returns
  have hts : ∀ w ∈ wsL_law, w.before args s = true := fun w h => atoms_spec (ws := w_X2_onLine) B.pre w (List.mem_cons_of_mem _ h)
  have hown : s.vm.findClass RX2 = some m.cls := findClass_of_methodNamed B.named
  have hlocks := B.notSynchronized
  have hl := lv_entry ([.long p1, .long p2, .long p3, .int p4]) (n := 7) (Nat.le_of_ble_eq_true rfl)
  rw [hargs, lg_entry_eq, ← hargs]
  generalize (lg_sl ([.long p1, .long p2, .long p3, .int p4]) ++ List.replicate (7 - (lg_sl ([.long p1, .long p2, .long p3, .int p4])).length) Slot.unset).toArray = ls at hl ⊢
  replace hl : lv_has ls 7 [(0, .long p1), (2, .long p2), (4, .long p3), (6, .int p4)] := hl
  have hRf : ∀ n, n ≤ 0 → n ≤ (headSpec w_X2_onLine ({ frames := 0, cells := 0, slots := 0, locals := 0 } : Room)).room.frames := fun n h => h
  have hRl : ∀ n, n ≤ 0 → n ≤ (headSpec w_X2_onLine ({ frames := 0, cells := 0, slots := 0, locals := 0 } : Room)).room.locals := fun n h => h
  generalize (headSpec w_X2_onLine ({ frames := 0, cells := 0, slots := 0, locals := 0 } : Room)).room = R at hRf hRl ⊢
  generalize hQ : MQ below _ args s 0 0 _ = Q
  unfold wp_X2_onLine at ho
  refine lv_lload_n hx hb dX2_onLine_0 rfl (lv_at hl 0 rfl) ?_
  refine lv_lload_n hx hb dX2_onLine_1 rfl (lv_at hl 1 rfl) ?_
  refine lv_lload hx hb dX2_onLine_2 (lv_at hl 2 rfl) ?_
  refine lv_lmul hx hb dX2_onLine_4 ?_
  refine lv_ladd hx hb dX2_onLine_5 ?_
  refine lv_iload hx hb dX2_onLine_6 (lv_at hl 3 rfl) ?_
  refine lv_lshr hx hb dX2_onLine_8 rfl ?_
  subst hQ; exact W.lret (v := ((p1 + (p2 * p3)) >>> (p4.toInt64 &&& 63))) hx hb hr (fun t ht _ => ⟨((p1 + (p2 * p3)) >>> (p4.toInt64 &&& 63)), rfl, ho, ht⟩) (fun _ h => by cases h) dX2_onLine_9

def w_X2_forget : List Cond := .code yX2_forget cX2_forget 1 none :: wsL_law
set_option maxHeartbeats 4000000 in
set_option maxRecDepth 100000 in
theorem c_X2_forget (l : Launch) (D : va_G) (cI cJ cZ : ClassId) (a_fl : Nat) (a_va : Nat) (a_li : Nat) (a_liD : Nat) (a_liF : Nat) (a_liA : Nat) (a_liB : Nat) (sz : Nat) (li_parts : Int32) (li_s : Int32) (li_least : Int64) (li_greatest : Int64)  (post : Int32 → Prop) (A : Nat → Prop) (hAe : A = va_A [(a_li, oX2 a_fl a_va a_liD a_liF a_liA a_liB li_parts li_s li_least li_greatest)] sz) (ho : wp_X2_forget post ) : Met l yX2_forget w_X2_forget ({ frames := 0, cells := 0, slots := 0, locals := 0 } : Room) (rw_P D [(cI, .int), (cJ, .long), (cZ, .boolean)] [.ref a_li] sz [(a_li, oX2 a_fl a_va a_liD a_liF a_liA a_liB li_parts li_s li_least li_greatest)]) (va_Qv (fun (u : (Int32)) => post u) (rw_B D A (fun (u : (Int32)) => [(a_li, oX2 a_fl a_va a_liD a_liF a_liA a_liB u li_s li_least li_greatest)])) A) 0 0 A := by
  refine Met.ofW (cc := cX2_forget) (maxL := 1) (ret := none) (by decide) rfl ?_
  intro p e s m args below meth c s₁ B hml hv
  obtain ⟨hargs, hsz, hP, hK, hN, hD0⟩ := hv
  have hx := B.exec
  have hb := B.bytes
  have hr := B.returns
  have hts : ∀ w ∈ wsL_law, w.before args s = true := fun w h => atoms_spec (ws := w_X2_forget) B.pre w (List.mem_cons_of_mem _ h)
  have hown : s.vm.findClass RX2 = some m.cls := findClass_of_methodNamed B.named
  have hlocks := B.notSynchronized
  subst hsz
  have hD : va_D A [(a_li, oX2 a_fl a_va a_liD a_liF a_liA a_liB li_parts li_s li_least li_greatest)] := by rw [hAe]; exact hD0.self
  have hA : ∀ q : Nat, s.heap.size ≤ q → A q := fun q h => by rw [hAe]; exact Or.inr h
  have hS : va_S A s.heap s.heap [] := va_S.rf
  have hl := lv_entry ([.ref a_li]) (n := 1) (Nat.le_of_ble_eq_true rfl)
  rw [hargs, lg_entry_eq, ← hargs]
  generalize (lg_sl ([.ref a_li]) ++ List.replicate (1 - (lg_sl ([.ref a_li])).length) Slot.unset).toArray = ls at hl ⊢
  replace hl : lv_has ls 1 [(0, .ref a_li)] := hl
  have hRf : ∀ n, n ≤ 0 → n ≤ (headSpec w_X2_forget ({ frames := 0, cells := 0, slots := 0, locals := 0 } : Room)).room.frames := fun n h => h
  have hRl : ∀ n, n ≤ 0 → n ≤ (headSpec w_X2_forget ({ frames := 0, cells := 0, slots := 0, locals := 0 } : Room)).room.locals := fun n h => h
  generalize (headSpec w_X2_forget ({ frames := 0, cells := 0, slots := 0, locals := 0 } : Room)).room = R at hRf hRl ⊢
  generalize hQ : MQ below _ args s 0 0 _ = Q
  suffices main : ∀ (H : Heap) (locs : List Loc), va_P D vwCl [(a_li, oX2 a_fl a_va a_liD a_liF a_liA a_liB li_parts li_s li_least li_greatest)] H → va_S A s.heap H locs → W p l e R s m args below meth c H locs 0 0 Q (F0 m 0 ls []) from main _ _ hP hS
  intro H locs hP hS
  unfold wp_X2_forget at ho
  refine lv_aload_n hx hb dX2_forget_0 rfl (lv_at hl 0 rfl) ?_
  refine lv_iconst (v := 0) hx hb dX2_forget_1 (by decide) ?_
  refine va_put (D := D) (ci := 2) (v := .int (0 : Int32)) (ty := .int) (C := RX2) (T := TX2) (N := 10) hx hb hts inlX2 tyX2 tyX2_ok nmX2 hown hK hP hD hS 0 rfl rfl 6 (by decide) (hts _ wl_160) (fun _ h9 => h9) rfl (by decide +kernel) rfl rfl (Nat.le_of_ble_eq_true rfl) dX2_forget_2 (fun H locs hP hD hS => ?_)
  replace hP : va_P D vwCl [(a_li, oX2 a_fl a_va a_liD a_liF a_liA a_liB (0 : Int32) li_s li_least li_greatest)] H := hP
  replace hD : va_D A [(a_li, oX2 a_fl a_va a_liD a_liF a_liA a_liB (0 : Int32) li_s li_least li_greatest)] := hD
  subst hQ; exact W.vret hx hb hr (fun t ht hW => ⟨⟨(0 : Int32), rfl, ho, by rw [ht]; exact hP, hD⟩, hS.F ht⟩) (fun q hq => hS.2.2 q hq) dX2_forget_5

def w_X2_parts : List Cond := .code yX2_parts cX2_parts 1 (some .int) :: wsL_law
set_option maxHeartbeats 4000000 in
set_option maxRecDepth 100000 in
theorem c_X2_parts (l : Launch) (D : va_G) (cI cJ cZ : ClassId) (a_fl : Nat) (a_va : Nat) (a_li : Nat) (a_liD : Nat) (a_liF : Nat) (a_liA : Nat) (a_liB : Nat) (li_parts : Int32) (li_s : Int32) (li_least : Int64) (li_greatest : Int64)  (post : Int32 → Prop) (ho : wp_X2_parts post li_parts) : Met l yX2_parts w_X2_parts ({ frames := 0, cells := 0, slots := 0, locals := 0 } : Room) (ro_P D [(cI, .int), (cJ, .long), (cZ, .boolean)] [.ref a_li] [(a_li, oX2 a_fl a_va a_liD a_liF a_liA a_liB li_parts li_s li_least li_greatest)]) (vp_Si post) 0 0 (fun _ => False) := by
  refine Met.ofW (cc := cX2_parts) (maxL := 1) (ret := (some .int)) (by decide) rfl ?_
  intro p e s m args below meth c s₁ B hml hv
  obtain ⟨hargs, hP, hK, hN⟩ := hv
  have hx := B.exec
  have hb := B.bytes
  have hr := B.returns
  have hts : ∀ w ∈ wsL_law, w.before args s = true := fun w h => atoms_spec (ws := w_X2_parts) B.pre w (List.mem_cons_of_mem _ h)
  have hown : s.vm.findClass RX2 = some m.cls := findClass_of_methodNamed B.named
  have hlocks := B.notSynchronized
  have hl := lv_entry ([.ref a_li]) (n := 1) (Nat.le_of_ble_eq_true rfl)
  rw [hargs, lg_entry_eq, ← hargs]
  generalize (lg_sl ([.ref a_li]) ++ List.replicate (1 - (lg_sl ([.ref a_li])).length) Slot.unset).toArray = ls at hl ⊢
  replace hl : lv_has ls 1 [(0, .ref a_li)] := hl
  have hRf : ∀ n, n ≤ 0 → n ≤ (headSpec w_X2_parts ({ frames := 0, cells := 0, slots := 0, locals := 0 } : Room)).room.frames := fun n h => h
  have hRl : ∀ n, n ≤ 0 → n ≤ (headSpec w_X2_parts ({ frames := 0, cells := 0, slots := 0, locals := 0 } : Room)).room.locals := fun n h => h
  generalize (headSpec w_X2_parts ({ frames := 0, cells := 0, slots := 0, locals := 0 } : Room)).room = R at hRf hRl ⊢
  generalize hQ : MQ below _ args s 0 0 _ = Q
  unfold wp_X2_parts at ho
  refine lv_aload_n hx hb dX2_parts_0 rfl (lv_at hl 0 rfl) ?_
  refine va_get (D := D) (ci := 2) (v := .int li_parts) (C := RX2) (T := TX2) (N := 10) hx hb hts inlX2 hown hK hP 0 rfl rfl 6 (by decide) (hts _ wl_160) (fun _ h9 => h9) rfl dX2_parts_1 ?_
  subst hQ; exact W.iret (v := li_parts) hx hb hr (fun t ht _ => ⟨li_parts, rfl, ho, ht⟩) (fun _ h => by cases h) dX2_parts_4

def w_X2_firstZ : List Cond := .code yX2_firstZ cX2_firstZ 2 (some .int) :: wsL_law
set_option maxHeartbeats 4000000 in
set_option maxRecDepth 100000 in
theorem c_X2_firstZ (l : Launch) (D : va_G) (cI cJ cZ : ClassId) (a_fl : Nat) (a_va : Nat) (a_li : Nat) (a_liD : Nat) (a_liF : Nat) (a_liA : Nat) (a_liB : Nat) (li_parts : Int32) (li_s : Int32) (li_least : Int64) (li_greatest : Int64) (liF_r : Nat → Int32) (p1 : Int32) (post : Int32 → Prop) (ho : wp_X2_firstZ post liF_r p1) : Met l yX2_firstZ w_X2_firstZ ({ frames := 1, cells := 0, slots := 0, locals := 21 } : Room) (ro_P D [(cI, .int), (cJ, .long), (cZ, .boolean)] [.ref a_li, .int p1] [(a_li, oX2 a_fl a_va a_liD a_liF a_liA a_liB li_parts li_s li_least li_greatest), (a_liF, .inl (cI, 256, .inl liF_r))]) (vp_Si post) 0 0 (fun _ => False) := by
  refine Met.ofW (cc := cX2_firstZ) (maxL := 2) (ret := (some .int)) (by decide) rfl ?_
  intro p e s m args below meth c s₁ B hml hv
  obtain ⟨hargs, hP, hK, hN⟩ := hv
  have hx := B.exec
  have hb := B.bytes
  have hr := B.returns
  have hts : ∀ w ∈ wsL_law, w.before args s = true := fun w h => atoms_spec (ws := w_X2_firstZ) B.pre w (List.mem_cons_of_mem _ h)
  have hown : s.vm.findClass RX2 = some m.cls := findClass_of_methodNamed B.named
  have hlocks := B.notSynchronized
  have hl := lv_entry ([.ref a_li, .int p1]) (n := 2) (Nat.le_of_ble_eq_true rfl)
  rw [hargs, lg_entry_eq, ← hargs]
  generalize (lg_sl ([.ref a_li, .int p1]) ++ List.replicate (2 - (lg_sl ([.ref a_li, .int p1])).length) Slot.unset).toArray = ls at hl ⊢
  replace hl : lv_has ls 2 [(0, .ref a_li), (1, .int p1)] := hl
  have hRf : ∀ n, n ≤ 1 → n ≤ (headSpec w_X2_firstZ ({ frames := 1, cells := 0, slots := 0, locals := 21 } : Room)).room.frames := fun n h => h
  have hRl : ∀ n, n ≤ 21 → n ≤ (headSpec w_X2_firstZ ({ frames := 1, cells := 0, slots := 0, locals := 21 } : Room)).room.locals := fun n h => h
  generalize (headSpec w_X2_firstZ ({ frames := 1, cells := 0, slots := 0, locals := 21 } : Room)).room = R at hRf hRl ⊢
  generalize hQ : MQ below _ args s 0 0 _ = Q
  unfold wp_X2_firstZ at ho
  refine lv_aload_n hx hb dX2_firstZ_0 rfl (lv_at hl 0 rfl) ?_
  refine va_get (D := D) (ci := 2) (v := .ref a_liF) (C := RX2) (T := TX2) (N := 10) hx hb hts inlX2 hown hK hP 0 rfl rfl 3 (by decide) (hts _ wl_91) (fun _ h9 => h9) rfl dX2_firstZ_1 ?_
  refine lv_iload_n hx hb dX2_firstZ_4 rfl (lv_at hl 1 rfl) ?_
  refine ca_Si (As := [.ref a_liF, .int p1]) (rest := []) ⟨hx, hb, hml, hown, hts⟩ (c_X4_at l D cI cJ cZ a_liF 256 liF_r p1 _ ho) (va_cwS 2 hts (gdS wl_684 wl_137 wl_134 wl_138) rfl rfl rfl (by decide +kernel) ⟨hRf _ (Nat.le_of_ble_eq_true rfl), hRl _ (Nat.le_of_ble_eq_true rfl)⟩) hK hN hP [1] rfl rfl hl.1 rfl (Nat.le_of_ble_eq_true rfl) dX2_firstZ_5 ⟨Nat.zero_le _, Nat.zero_le _⟩ (fun r5 ho => ?_)
  subst hQ; exact W.iret (v := r5) hx hb hr (fun t ht _ => ⟨r5, rfl, ho, ht⟩) (fun _ h => by cases h) dX2_firstZ_8

def w_X2_lastZ : List Cond := .code yX2_lastZ cX2_lastZ 2 (some .int) :: wsL_law
set_option maxHeartbeats 4000000 in
set_option maxRecDepth 100000 in
theorem c_X2_lastZ (l : Launch) (D : va_G) (cI cJ cZ : ClassId) (a_fl : Nat) (a_va : Nat) (a_li : Nat) (a_liD : Nat) (a_liF : Nat) (a_liA : Nat) (a_liB : Nat) (fl_e : Int32) (fl_f : Int32) (fl_bias : Int32) (fl_codes : Int32) (fl_signBit : Int32) (fl_endless : Int32) (li_parts : Int32) (li_s : Int32) (li_least : Int64) (li_greatest : Int64) (liF_r : Nat → Int32) (p1 : Int32) (post : Int32 → Prop) (ho : wp_X2_lastZ post fl_f li_parts liF_r p1) : Met l yX2_lastZ w_X2_lastZ ({ frames := 2, cells := 0, slots := 0, locals := 42 } : Room) (ro_P D [(cI, .int), (cJ, .long), (cZ, .boolean)] [.ref a_li, .int p1] [(a_fl, oX1 fl_e fl_f fl_bias fl_codes fl_signBit fl_endless), (a_li, oX2 a_fl a_va a_liD a_liF a_liA a_liB li_parts li_s li_least li_greatest), (a_liF, .inl (cI, 256, .inl liF_r))]) (vp_Si post) 0 0 (fun _ => False) := by
  refine Met.ofW (cc := cX2_lastZ) (maxL := 2) (ret := (some .int)) (by decide) rfl ?_
  intro p e s m args below meth c s₁ B hml hv
  obtain ⟨hargs, hP, hK, hN⟩ := hv
  have hx := B.exec
  have hb := B.bytes
  have hr := B.returns
  have hts : ∀ w ∈ wsL_law, w.before args s = true := fun w h => atoms_spec (ws := w_X2_lastZ) B.pre w (List.mem_cons_of_mem _ h)
  have hown : s.vm.findClass RX2 = some m.cls := findClass_of_methodNamed B.named
  have hlocks := B.notSynchronized
  have hl := lv_entry ([.ref a_li, .int p1]) (n := 2) (Nat.le_of_ble_eq_true rfl)
  rw [hargs, lg_entry_eq, ← hargs]
  generalize (lg_sl ([.ref a_li, .int p1]) ++ List.replicate (2 - (lg_sl ([.ref a_li, .int p1])).length) Slot.unset).toArray = ls at hl ⊢
  replace hl : lv_has ls 2 [(0, .ref a_li), (1, .int p1)] := hl
  have hRf : ∀ n, n ≤ 2 → n ≤ (headSpec w_X2_lastZ ({ frames := 2, cells := 0, slots := 0, locals := 42 } : Room)).room.frames := fun n h => h
  have hRl : ∀ n, n ≤ 42 → n ≤ (headSpec w_X2_lastZ ({ frames := 2, cells := 0, slots := 0, locals := 42 } : Room)).room.locals := fun n h => h
  generalize (headSpec w_X2_lastZ ({ frames := 2, cells := 0, slots := 0, locals := 42 } : Room)).room = R at hRf hRl ⊢
  generalize hQ : MQ below _ args s 0 0 _ = Q
  unfold wp_X2_lastZ at ho
  refine lv_iload_n hx hb dX2_lastZ_0 rfl (lv_at hl 1 rfl) ?_
  refine lv_iconst (v := 1) hx hb dX2_lastZ_1 (by decide) ?_
  refine lv_iadd hx hb dX2_lastZ_2 ?_
  refine lv_aload_n hx hb dX2_lastZ_3 rfl (lv_at hl 0 rfl) ?_
  refine va_get (D := D) (ci := 2) (v := .int li_parts) (C := RX2) (T := TX2) (N := 10) hx hb hts inlX2 hown hK hP 1 rfl rfl 6 (by decide) (hts _ wl_160) (fun _ h9 => h9) rfl dX2_lastZ_4 ?_
  refine lv_icmp_ge (tgt := 20) hx hb dX2_lastZ_7 (by decide) (fun c_7 => ?_) (fun c_7 => ?_)
  · replace ho := ho.1 c_7
    refine lv_aload_n hx hb dX2_lastZ_20 rfl (lv_at hl 0 rfl) ?_
    refine va_get (D := D) (ci := 2) (v := .ref a_fl) (C := RX2) (T := TX2) (N := 10) hx hb hts inlX2 hown hK hP 1 rfl rfl 0 (by decide) (hts _ wl_88) (fun _ h9 => h9) rfl dX2_lastZ_21 ?_
    refine ca_Vi (b := a_fl) (As := []) (rest := []) ⟨hx, hb, hml, hown, hts⟩ (c_X1_zs l D cI cJ cZ a_fl fl_e fl_f fl_bias fl_codes fl_signBit fl_endless  _ ho) (cwV 0 hts (gdV wl_654 wl_216 wl_217 wl_14 wl_218) rfl rfl rfl (by decide +kernel) ⟨hRf _ (Nat.le_of_ble_eq_true rfl), hRl _ (Nat.le_of_ble_eq_true rfl)⟩) hK hN hP [0] rfl 0 1 rfl rfl rfl rfl hl.1 rfl (Nat.le_of_ble_eq_true rfl) dX2_lastZ_24 ⟨Nat.zero_le _, Nat.zero_le _⟩ (fun r24 ho => ?_)
    refine lv_iconst (v := 1) hx hb dX2_lastZ_27 (by decide) ?_
    refine lv_isub hx hb dX2_lastZ_28 ?_
    subst hQ; exact W.iret (v := (r24 - (1 : Int32))) hx hb hr (fun t ht _ => ⟨(r24 - (1 : Int32)), rfl, ho, ht⟩) (fun _ h => by cases h) dX2_lastZ_29
  · replace ho := ho.2 c_7
    refine lv_aload_n hx hb dX2_lastZ_10 rfl (lv_at hl 0 rfl) ?_
    refine lv_iload_n hx hb dX2_lastZ_11 rfl (lv_at hl 1 rfl) ?_
    refine lv_iconst (v := 1) hx hb dX2_lastZ_12 (by decide) ?_
    refine lv_iadd hx hb dX2_lastZ_13 ?_
    refine ca_Vi (b := a_li) (As := [.int (p1 + (1 : Int32))]) (rest := []) ⟨hx, hb, hml, hown, hts⟩ (c_X2_firstZ l D cI cJ cZ a_fl a_va a_li a_liD a_liF a_liA a_liB li_parts li_s li_least li_greatest liF_r (p1 + (1 : Int32)) _ ho) (cwV 1 hts (gdV wl_741 wl_734 wl_735 wl_34 wl_736) rfl rfl rfl (by decide +kernel) ⟨hRf _ (Nat.le_of_ble_eq_true rfl), hRl _ (Nat.le_of_ble_eq_true rfl)⟩) hK hN hP [1, 2] rfl 0 2 rfl rfl rfl rfl hl.1 rfl (Nat.le_of_ble_eq_true rfl) dX2_lastZ_14 ⟨Nat.zero_le _, Nat.zero_le _⟩ (fun r14 ho => ?_)
    refine lv_goto (tgt := 27) hx hb dX2_lastZ_17 (by decide) ?_
    refine lv_iconst (v := 1) hx hb dX2_lastZ_27 (by decide) ?_
    refine lv_isub hx hb dX2_lastZ_28 ?_
    subst hQ; exact W.iret (v := (r14 - (1 : Int32))) hx hb hr (fun t ht _ => ⟨(r14 - (1 : Int32)), rfl, ho, ht⟩) (fun _ h => by cases h) dX2_lastZ_29

def w_X2_lineStart : List Cond := .code yX2_lineStart cX2_lineStart 2 (some .int) :: wsL_law
set_option maxHeartbeats 4000000 in
set_option maxRecDepth 100000 in
theorem c_X2_lineStart (l : Launch) (D : va_G) (cI cJ cZ : ClassId) (a_fl : Nat) (a_va : Nat) (a_li : Nat) (a_liD : Nat) (a_liF : Nat) (a_liA : Nat) (a_liB : Nat) (li_parts : Int32) (li_s : Int32) (li_least : Int64) (li_greatest : Int64) (liA_r : Nat → Int32) (p1 : Int32) (post : Int32 → Prop) (ho : wp_X2_lineStart post liA_r p1) : Met l yX2_lineStart w_X2_lineStart ({ frames := 1, cells := 0, slots := 0, locals := 21 } : Room) (ro_P D [(cI, .int), (cJ, .long), (cZ, .boolean)] [.ref a_li, .int p1] [(a_li, oX2 a_fl a_va a_liD a_liF a_liA a_liB li_parts li_s li_least li_greatest), (a_liA, .inl (cI, 256, .inl liA_r))]) (vp_Si post) 0 0 (fun _ => False) := by
  refine Met.ofW (cc := cX2_lineStart) (maxL := 2) (ret := (some .int)) (by decide) rfl ?_
  intro p e s m args below meth c s₁ B hml hv
  obtain ⟨hargs, hP, hK, hN⟩ := hv
  have hx := B.exec
  have hb := B.bytes
  have hr := B.returns
  have hts : ∀ w ∈ wsL_law, w.before args s = true := fun w h => atoms_spec (ws := w_X2_lineStart) B.pre w (List.mem_cons_of_mem _ h)
  have hown : s.vm.findClass RX2 = some m.cls := findClass_of_methodNamed B.named
  have hlocks := B.notSynchronized
  have hl := lv_entry ([.ref a_li, .int p1]) (n := 2) (Nat.le_of_ble_eq_true rfl)
  rw [hargs, lg_entry_eq, ← hargs]
  generalize (lg_sl ([.ref a_li, .int p1]) ++ List.replicate (2 - (lg_sl ([.ref a_li, .int p1])).length) Slot.unset).toArray = ls at hl ⊢
  replace hl : lv_has ls 2 [(0, .ref a_li), (1, .int p1)] := hl
  have hRf : ∀ n, n ≤ 1 → n ≤ (headSpec w_X2_lineStart ({ frames := 1, cells := 0, slots := 0, locals := 21 } : Room)).room.frames := fun n h => h
  have hRl : ∀ n, n ≤ 21 → n ≤ (headSpec w_X2_lineStart ({ frames := 1, cells := 0, slots := 0, locals := 21 } : Room)).room.locals := fun n h => h
  generalize (headSpec w_X2_lineStart ({ frames := 1, cells := 0, slots := 0, locals := 21 } : Room)).room = R at hRf hRl ⊢
  generalize hQ : MQ below _ args s 0 0 _ = Q
  unfold wp_X2_lineStart at ho
  refine lv_aload_n hx hb dX2_lineStart_0 rfl (lv_at hl 0 rfl) ?_
  refine va_get (D := D) (ci := 2) (v := .ref a_liA) (C := RX2) (T := TX2) (N := 10) hx hb hts inlX2 hown hK hP 0 rfl rfl 4 (by decide) (hts _ wl_92) (fun _ h9 => h9) rfl dX2_lineStart_1 ?_
  refine lv_iload_n hx hb dX2_lineStart_4 rfl (lv_at hl 1 rfl) ?_
  refine ca_Si (As := [.ref a_liA, .int p1]) (rest := []) ⟨hx, hb, hml, hown, hts⟩ (c_X4_at l D cI cJ cZ a_liA 256 liA_r p1 _ ho) (va_cwS 2 hts (gdS wl_684 wl_137 wl_134 wl_138) rfl rfl rfl (by decide +kernel) ⟨hRf _ (Nat.le_of_ble_eq_true rfl), hRl _ (Nat.le_of_ble_eq_true rfl)⟩) hK hN hP [1] rfl rfl hl.1 rfl (Nat.le_of_ble_eq_true rfl) dX2_lineStart_5 ⟨Nat.zero_le _, Nat.zero_le _⟩ (fun r5 ho => ?_)
  subst hQ; exact W.iret (v := r5) hx hb hr (fun t ht _ => ⟨r5, rfl, ho, ht⟩) (fun _ h => by cases h) dX2_lineStart_8

def w_X2_lineSlope : List Cond := .code yX2_lineSlope cX2_lineSlope 2 (some .int) :: wsL_law
set_option maxHeartbeats 4000000 in
set_option maxRecDepth 100000 in
theorem c_X2_lineSlope (l : Launch) (D : va_G) (cI cJ cZ : ClassId) (a_fl : Nat) (a_va : Nat) (a_li : Nat) (a_liD : Nat) (a_liF : Nat) (a_liA : Nat) (a_liB : Nat) (li_parts : Int32) (li_s : Int32) (li_least : Int64) (li_greatest : Int64) (liB_r : Nat → Int32) (p1 : Int32) (post : Int32 → Prop) (ho : wp_X2_lineSlope post liB_r p1) : Met l yX2_lineSlope w_X2_lineSlope ({ frames := 1, cells := 0, slots := 0, locals := 21 } : Room) (ro_P D [(cI, .int), (cJ, .long), (cZ, .boolean)] [.ref a_li, .int p1] [(a_li, oX2 a_fl a_va a_liD a_liF a_liA a_liB li_parts li_s li_least li_greatest), (a_liB, .inl (cI, 256, .inl liB_r))]) (vp_Si post) 0 0 (fun _ => False) := by
  refine Met.ofW (cc := cX2_lineSlope) (maxL := 2) (ret := (some .int)) (by decide) rfl ?_
  intro p e s m args below meth c s₁ B hml hv
  obtain ⟨hargs, hP, hK, hN⟩ := hv
  have hx := B.exec
  have hb := B.bytes
  have hr := B.returns
  have hts : ∀ w ∈ wsL_law, w.before args s = true := fun w h => atoms_spec (ws := w_X2_lineSlope) B.pre w (List.mem_cons_of_mem _ h)
  have hown : s.vm.findClass RX2 = some m.cls := findClass_of_methodNamed B.named
  have hlocks := B.notSynchronized
  have hl := lv_entry ([.ref a_li, .int p1]) (n := 2) (Nat.le_of_ble_eq_true rfl)
  rw [hargs, lg_entry_eq, ← hargs]
  generalize (lg_sl ([.ref a_li, .int p1]) ++ List.replicate (2 - (lg_sl ([.ref a_li, .int p1])).length) Slot.unset).toArray = ls at hl ⊢
  replace hl : lv_has ls 2 [(0, .ref a_li), (1, .int p1)] := hl
  have hRf : ∀ n, n ≤ 1 → n ≤ (headSpec w_X2_lineSlope ({ frames := 1, cells := 0, slots := 0, locals := 21 } : Room)).room.frames := fun n h => h
  have hRl : ∀ n, n ≤ 21 → n ≤ (headSpec w_X2_lineSlope ({ frames := 1, cells := 0, slots := 0, locals := 21 } : Room)).room.locals := fun n h => h
  generalize (headSpec w_X2_lineSlope ({ frames := 1, cells := 0, slots := 0, locals := 21 } : Room)).room = R at hRf hRl ⊢
  generalize hQ : MQ below _ args s 0 0 _ = Q
  unfold wp_X2_lineSlope at ho
  refine lv_aload_n hx hb dX2_lineSlope_0 rfl (lv_at hl 0 rfl) ?_
  refine va_get (D := D) (ci := 2) (v := .ref a_liB) (C := RX2) (T := TX2) (N := 10) hx hb hts inlX2 hown hK hP 0 rfl rfl 5 (by decide) (hts _ wl_93) (fun _ h9 => h9) rfl dX2_lineSlope_1 ?_
  refine lv_iload_n hx hb dX2_lineSlope_4 rfl (lv_at hl 1 rfl) ?_
  refine ca_Si (As := [.ref a_liB, .int p1]) (rest := []) ⟨hx, hb, hml, hown, hts⟩ (c_X4_at l D cI cJ cZ a_liB 256 liB_r p1 _ ho) (va_cwS 2 hts (gdS wl_684 wl_137 wl_134 wl_138) rfl rfl rfl (by decide +kernel) ⟨hRf _ (Nat.le_of_ble_eq_true rfl), hRl _ (Nat.le_of_ble_eq_true rfl)⟩) hK hN hP [1] rfl rfl hl.1 rfl (Nat.le_of_ble_eq_true rfl) dX2_lineSlope_5 ⟨Nat.zero_le _, Nat.zero_le _⟩ (fun r5 ho => ?_)
  subst hQ; exact W.iret (v := r5) hx hb hr (fun t ht _ => ⟨r5, rfl, ho, ht⟩) (fun _ h => by cases h) dX2_lineSlope_8

def w_X2_toldFor : List Cond := .code yX2_toldFor cX2_toldFor 3 (some .int) :: wsL_law
set_option maxHeartbeats 4000000 in
set_option maxRecDepth 100000 in
theorem c_X2_toldFor (l : Launch) (D : va_G) (cI cJ cZ : ClassId) (a_fl : Nat) (a_va : Nat) (a_li : Nat) (a_liD : Nat) (a_liF : Nat) (a_liA : Nat) (a_liB : Nat) (fl_e : Int32) (fl_f : Int32) (fl_bias : Int32) (fl_codes : Int32) (fl_signBit : Int32) (fl_endless : Int32) (li_parts : Int32) (li_s : Int32) (li_least : Int64) (li_greatest : Int64) (liF_r : Nat → Int32) (liA_r : Nat → Int32) (liB_r : Nat → Int32) (p1 : Int32) (post : Int32 → Prop) (ho : wp_X2_toldFor post fl_f li_parts li_s liF_r liA_r liB_r p1) : Met l yX2_toldFor w_X2_toldFor ({ frames := 3, cells := 0, slots := 0, locals := 63 } : Room) (ro_P D [(cI, .int), (cJ, .long), (cZ, .boolean)] [.ref a_li, .int p1] [(a_fl, oX1 fl_e fl_f fl_bias fl_codes fl_signBit fl_endless), (a_li, oX2 a_fl a_va a_liD a_liF a_liA a_liB li_parts li_s li_least li_greatest), (a_liF, .inl (cI, 256, .inl liF_r)), (a_liA, .inl (cI, 256, .inl liA_r)), (a_liB, .inl (cI, 256, .inl liB_r))]) (vp_Si post) 0 0 (fun _ => False) := by
  refine Met.ofW (cc := cX2_toldFor) (maxL := 3) (ret := (some .int)) (by decide) rfl ?_
  intro p e s m args below meth c s₁ B hml hv
  obtain ⟨hargs, hP, hK, hN⟩ := hv
  have hx := B.exec
  have hb := B.bytes
  have hr := B.returns
  have hts : ∀ w ∈ wsL_law, w.before args s = true := fun w h => atoms_spec (ws := w_X2_toldFor) B.pre w (List.mem_cons_of_mem _ h)
  have hown : s.vm.findClass RX2 = some m.cls := findClass_of_methodNamed B.named
  have hlocks := B.notSynchronized
  have hl := lv_entry ([.ref a_li, .int p1]) (n := 3) (Nat.le_of_ble_eq_true rfl)
  rw [hargs, lg_entry_eq, ← hargs]
  generalize (lg_sl ([.ref a_li, .int p1]) ++ List.replicate (3 - (lg_sl ([.ref a_li, .int p1])).length) Slot.unset).toArray = ls at hl ⊢
  replace hl : lv_has ls 3 [(0, .ref a_li), (1, .int p1)] := hl
  have hRf : ∀ n, n ≤ 3 → n ≤ (headSpec w_X2_toldFor ({ frames := 3, cells := 0, slots := 0, locals := 63 } : Room)).room.frames := fun n h => h
  have hRl : ∀ n, n ≤ 63 → n ≤ (headSpec w_X2_toldFor ({ frames := 3, cells := 0, slots := 0, locals := 63 } : Room)).room.locals := fun n h => h
  generalize (headSpec w_X2_toldFor ({ frames := 3, cells := 0, slots := 0, locals := 63 } : Room)).room = R at hRf hRl ⊢
  generalize hQ : MQ below _ args s 0 0 _ = Q
  have C_25 : ∀ (x2 : Int32) (ls : Array Slot), wp_X2_toldFor_25 post  li_s liA_r liB_r p1 x2 → lv_has ls 3 [(0, .ref a_li), (1, .int p1), (2, .int x2)] → W p l e R s m args below meth c s.heap [] 0 0 Q (F0 m 25 ls []) := by
    intro x2 ls ho hl
    unfold wp_X2_toldFor_25 at ho
    refine lv_aload_n hx hb dX2_toldFor_25 rfl (lv_at hl 0 rfl) ?_
    refine lv_iload_n hx hb dX2_toldFor_26 rfl (lv_at hl 2 rfl) ?_
    refine ca_Vi (b := a_li) (As := [.int x2]) (rest := []) ⟨hx, hb, hml, hown, hts⟩ (c_X2_lineStart l D cI cJ cZ a_fl a_va a_li a_liD a_liF a_liA a_liB li_parts li_s li_least li_greatest liA_r x2 _ ho) (cwV 1 hts (gdV wl_767 wl_743 wl_744 wl_34 wl_745) rfl rfl rfl (by decide +kernel) ⟨hRf _ (Nat.le_of_ble_eq_true rfl), hRl _ (Nat.le_of_ble_eq_true rfl)⟩) hK hN hP [1, 3] rfl 0 2 rfl rfl rfl rfl hl.1 rfl (Nat.le_of_ble_eq_true rfl) dX2_toldFor_27 ⟨Nat.zero_le _, Nat.zero_le _⟩ (fun r27 ho => ?_)
    refine lv_i2l hx hb dX2_toldFor_30 rfl ?_
    refine lv_aload_n hx hb dX2_toldFor_31 rfl (lv_at hl 0 rfl) ?_
    refine lv_iload_n hx hb dX2_toldFor_32 rfl (lv_at hl 2 rfl) ?_
    refine ca_Vi (b := a_li) (As := [.int x2]) (rest := [.long r27.toInt64]) ⟨hx, hb, hml, hown, hts⟩ (c_X2_lineSlope l D cI cJ cZ a_fl a_va a_li a_liD a_liF a_liA a_liB li_parts li_s li_least li_greatest liB_r x2 _ ho) (cwV 1 hts (gdV wl_768 wl_747 wl_748 wl_34 wl_749) rfl rfl rfl (by decide +kernel) ⟨hRf _ (Nat.le_of_ble_eq_true rfl), hRl _ (Nat.le_of_ble_eq_true rfl)⟩) hK hN hP [1, 4] rfl 0 2 rfl rfl rfl rfl hl.1 rfl (Nat.le_of_ble_eq_true rfl) dX2_toldFor_33 ⟨Nat.zero_le _, Nat.zero_le _⟩ (fun r33 ho => ?_)
    refine lv_i2l hx hb dX2_toldFor_36 rfl ?_
    refine lv_iload_n hx hb dX2_toldFor_37 rfl (lv_at hl 1 rfl) ?_
    refine lv_i2l hx hb dX2_toldFor_38 rfl ?_
    refine lv_aload_n hx hb dX2_toldFor_39 rfl (lv_at hl 0 rfl) ?_
    refine va_get (D := D) (ci := 2) (v := .int li_s) (C := RX2) (T := TX2) (N := 10) hx hb hts inlX2 hown hK hP 1 rfl rfl 7 (by decide) (hts _ wl_665) (fun _ h9 => h9) rfl dX2_toldFor_40 ?_
    refine ca_Sl (As := [.long r27.toInt64, .long r33.toInt64, .long p1.toInt64, .int li_s]) (rest := []) ⟨hx, hb, hml, hown, hts⟩ (c_X2_onLine l D cI cJ cZ   r27.toInt64 r33.toInt64 p1.toInt64 li_s _ ho) (va_cwS 4 hts (gdS wl_769 wl_770 wl_34 wl_771) rfl rfl rfl (by decide +kernel) ⟨hRf _ (Nat.le_of_ble_eq_true rfl), hRl _ (Nat.le_of_ble_eq_true rfl)⟩) hK hN hP [] rfl rfl hl.1 rfl (Nat.le_of_ble_eq_true rfl) dX2_toldFor_43 ⟨Nat.zero_le _, Nat.zero_le _⟩ (fun r43 ho => ?_)
    refine lv_l2i hx hb dX2_toldFor_46 rfl ?_
    subst hQ; exact W.iret (v := r43.toInt32) hx hb hr (fun t ht _ => ⟨r43.toInt32, rfl, ho, ht⟩) (fun _ h => by cases h) dX2_toldFor_47
  have C_2 : ∀ n : Nat, ∀ (x2 : Int32) (ls : Array Slot), wp_X2_toldFor_2 post  fl_f li_parts li_s liF_r liA_r liB_r p1 n x2 → lv_has ls 3 [(0, .ref a_li), (1, .int p1), (2, .int x2)] → W p l e R s m args below meth c s.heap [] 0 0 Q (F0 m 2 ls []) := by
    intro n
    induction n with
    | zero => intro x2 ls ho hl; exact ho.elim
    | succ n_2 ih_2 =>
      intro x2 ls ho hl
      replace ho : wp_X2_toldFor_2_b post fl_f li_parts li_s liF_r liA_r liB_r p1 (wp_X2_toldFor_2 post fl_f li_parts li_s liF_r liA_r liB_r p1 n_2) x2 := ho
      unfold wp_X2_toldFor_2_b at ho
      refine lv_iload_n hx hb dX2_toldFor_2 rfl (lv_at hl 2 rfl) ?_
      refine lv_aload_n hx hb dX2_toldFor_3 rfl (lv_at hl 0 rfl) ?_
      refine va_get (D := D) (ci := 2) (v := .int li_parts) (C := RX2) (T := TX2) (N := 10) hx hb hts inlX2 hown hK hP 1 rfl rfl 6 (by decide) (hts _ wl_160) (fun _ h9 => h9) rfl dX2_toldFor_4 ?_
      refine lv_icmp_ge (tgt := 25) hx hb dX2_toldFor_7 (by decide) (fun c_7 => ?_) (fun c_7 => ?_)
      · replace ho := ho.1 c_7
        exact C_25 x2 ls ho (lv_sub hl [0, 1, 2] rfl)
      · replace ho := ho.2 c_7
        refine lv_aload_n hx hb dX2_toldFor_10 rfl (lv_at hl 0 rfl) ?_
        refine lv_iload_n hx hb dX2_toldFor_11 rfl (lv_at hl 2 rfl) ?_
        refine ca_Vi (b := a_li) (As := [.int x2]) (rest := []) ⟨hx, hb, hml, hown, hts⟩ (c_X2_lastZ l D cI cJ cZ a_fl a_va a_li a_liD a_liF a_liA a_liB fl_e fl_f fl_bias fl_codes fl_signBit fl_endless li_parts li_s li_least li_greatest liF_r x2 _ ho) (cwV 1 hts (gdV wl_766 wl_738 wl_739 wl_34 wl_740) rfl rfl rfl (by decide +kernel) ⟨hRf _ (Nat.le_of_ble_eq_true rfl), hRl _ (Nat.le_of_ble_eq_true rfl)⟩) hK hN hP [0, 1, 2] rfl 1 2 rfl rfl rfl rfl hl.1 rfl (Nat.le_of_ble_eq_true rfl) dX2_toldFor_12 ⟨Nat.zero_le _, Nat.zero_le _⟩ (fun r12 ho => ?_)
        refine lv_iload_n hx hb dX2_toldFor_15 rfl (lv_at hl 1 rfl) ?_
        refine lv_icmp_ge (tgt := 25) hx hb dX2_toldFor_16 (by decide) (fun c_16 => ?_) (fun c_16 => ?_)
        · replace ho := ho.1 c_16
          exact C_25 x2 ls ho (lv_sub hl [0, 1, 2] rfl)
        · replace ho := ho.2 c_16
          refine lv_iinc (v := (x2 + (1 : Int32))) (lv' := [(2, .int (x2 + (1 : Int32))), (0, .ref a_li), (1, .int p1)]) hx hb dX2_toldFor_19 hl (k := 2) rfl rfl (by decide) rfl (fun ls hl => ?_)
          refine lv_goto (tgt := 2) hx hb dX2_toldFor_22 (by decide) ?_
          exact ih_2 (x2 + (1 : Int32)) ls ho (lv_sub hl [1, 2, 0] rfl)
  unfold wp_X2_toldFor at ho
  refine lv_iconst (v := 0) hx hb dX2_toldFor_0 (by decide) ?_
  refine lv_istore_n (lv' := [(2, .int (0 : Int32)), (0, .ref a_li), (1, .int p1)]) hx hb dX2_toldFor_1 rfl hl (by decide) rfl (fun ls hl => ?_)
  obtain ⟨n_2, ho⟩ := ho
  exact C_2 n_2 (0 : Int32) ls ho (lv_sub hl [1, 2, 0] rfl)

def w_X2_readDue : List Cond := .code yX2_readDue cX2_readDue 5 none :: wsL_law
set_option maxHeartbeats 4000000 in
set_option maxRecDepth 100000 in
theorem c_X2_readDue (l : Launch) (D : va_G) (cI cJ cZ : ClassId) (a_fl : Nat) (a_va : Nat) (a_p2 : Nat) (a_li : Nat) (a_liD : Nat) (a_liF : Nat) (a_liA : Nat) (a_liB : Nat) (sz : Nat) (fl_e : Int32) (fl_f : Int32) (fl_bias : Int32) (fl_codes : Int32) (fl_signBit : Int32) (fl_endless : Int32) (va_m : Int64) (va_x : Int32) (va_more : Int32) (va_laid : Int32) (va_below : Int32) (va_settled : Int32) (va_sort : Int32) (p2_lower : Int32) (p2_way : Int32) (p2_more : Int32) (p2_beyond : Int32) (li_parts : Int32) (li_s : Int32) (li_least : Int64) (li_greatest : Int64) (liD_r : Nat → Int32) (p1 : Int32) (p2 : Int32) (p3 : Int32) (post : Int64 → Int32 → Int32 → Int32 → Int32 → Int32 → Int32 → Int32 → Int32 → Int32 → Int32 → (Nat → Int32) → Prop) (A : Nat → Prop) (hAe : A = va_A [(a_fl, oX1 fl_e fl_f fl_bias fl_codes fl_signBit fl_endless), (a_va, oX6 a_fl a_p2 va_m va_x va_more va_laid va_below va_settled va_sort), (a_p2, oX3 a_fl p2_lower p2_way p2_more p2_beyond), (a_li, oX2 a_fl a_va a_liD a_liF a_liA a_liB li_parts li_s li_least li_greatest), (a_liD, .inl (cI, 256, .inl liD_r))] sz) (ho : wp_X2_readDue post fl_f fl_bias fl_signBit fl_endless va_m va_x va_more va_laid va_below va_settled va_sort p2_lower p2_way p2_more p2_beyond liD_r p1 p2 p3) : Met l yX2_readDue w_X2_readDue ({ frames := 5, cells := 0, slots := 0, locals := 126 } : Room) (rw_P D [(cI, .int), (cJ, .long), (cZ, .boolean)] [.ref a_li, .int p1, .int p2, .int p3] sz [(a_fl, oX1 fl_e fl_f fl_bias fl_codes fl_signBit fl_endless), (a_va, oX6 a_fl a_p2 va_m va_x va_more va_laid va_below va_settled va_sort), (a_p2, oX3 a_fl p2_lower p2_way p2_more p2_beyond), (a_li, oX2 a_fl a_va a_liD a_liF a_liA a_liB li_parts li_s li_least li_greatest), (a_liD, .inl (cI, 256, .inl liD_r))]) (va_Qv (fun (u : (Int64) × (Int32) × (Int32) × (Int32) × (Int32) × (Int32) × (Int32) × (Int32) × (Int32) × (Int32) × (Int32) × (Nat → Int32)) => post u.1 u.2.1 u.2.2.1 u.2.2.2.1 u.2.2.2.2.1 u.2.2.2.2.2.1 u.2.2.2.2.2.2.1 u.2.2.2.2.2.2.2.1 u.2.2.2.2.2.2.2.2.1 u.2.2.2.2.2.2.2.2.2.1 u.2.2.2.2.2.2.2.2.2.2.1 u.2.2.2.2.2.2.2.2.2.2.2) (rw_B D A (fun (u : (Int64) × (Int32) × (Int32) × (Int32) × (Int32) × (Int32) × (Int32) × (Int32) × (Int32) × (Int32) × (Int32) × (Nat → Int32)) => [(a_fl, oX1 fl_e fl_f fl_bias fl_codes fl_signBit fl_endless), (a_va, oX6 a_fl a_p2 u.1 u.2.1 u.2.2.1 u.2.2.2.1 u.2.2.2.2.1 u.2.2.2.2.2.1 u.2.2.2.2.2.2.1), (a_p2, oX3 a_fl u.2.2.2.2.2.2.2.1 u.2.2.2.2.2.2.2.2.1 u.2.2.2.2.2.2.2.2.2.1 u.2.2.2.2.2.2.2.2.2.2.1), (a_li, oX2 a_fl a_va a_liD a_liF a_liA a_liB li_parts li_s li_least li_greatest), (a_liD, .inl (cI, 256, .inl u.2.2.2.2.2.2.2.2.2.2.2))])) A) 0 0 A := by
  refine Met.ofW (cc := cX2_readDue) (maxL := 5) (ret := none) (by decide) rfl ?_
  intro p e s m args below meth c s₁ B hml hv
  obtain ⟨hargs, hsz, hP, hK, hN, hD0⟩ := hv
  have hx := B.exec
  have hb := B.bytes
  have hr := B.returns
  have hts : ∀ w ∈ wsL_law, w.before args s = true := fun w h => atoms_spec (ws := w_X2_readDue) B.pre w (List.mem_cons_of_mem _ h)
  have hown : s.vm.findClass RX2 = some m.cls := findClass_of_methodNamed B.named
  have hlocks := B.notSynchronized
  subst hsz
  have hD : va_D A [(a_fl, oX1 fl_e fl_f fl_bias fl_codes fl_signBit fl_endless), (a_va, oX6 a_fl a_p2 va_m va_x va_more va_laid va_below va_settled va_sort), (a_p2, oX3 a_fl p2_lower p2_way p2_more p2_beyond), (a_li, oX2 a_fl a_va a_liD a_liF a_liA a_liB li_parts li_s li_least li_greatest), (a_liD, .inl (cI, 256, .inl liD_r))] := by rw [hAe]; exact hD0.self
  have hA : ∀ q : Nat, s.heap.size ≤ q → A q := fun q h => by rw [hAe]; exact Or.inr h
  have hS : va_S A s.heap s.heap [] := va_S.rf
  have hl := lv_entry ([.ref a_li, .int p1, .int p2, .int p3]) (n := 5) (Nat.le_of_ble_eq_true rfl)
  rw [hargs, lg_entry_eq, ← hargs]
  generalize (lg_sl ([.ref a_li, .int p1, .int p2, .int p3]) ++ List.replicate (5 - (lg_sl ([.ref a_li, .int p1, .int p2, .int p3])).length) Slot.unset).toArray = ls at hl ⊢
  replace hl : lv_has ls 5 [(0, .ref a_li), (1, .int p1), (2, .int p2), (3, .int p3)] := hl
  have hRf : ∀ n, n ≤ 5 → n ≤ (headSpec w_X2_readDue ({ frames := 5, cells := 0, slots := 0, locals := 126 } : Room)).room.frames := fun n h => h
  have hRl : ∀ n, n ≤ 126 → n ≤ (headSpec w_X2_readDue ({ frames := 5, cells := 0, slots := 0, locals := 126 } : Room)).room.locals := fun n h => h
  generalize (headSpec w_X2_readDue ({ frames := 5, cells := 0, slots := 0, locals := 126 } : Room)).room = R at hRf hRl ⊢
  generalize hQ : MQ below _ args s 0 0 _ = Q
  have C_3 : ∀ n : Nat, ∀ (va_m : Int64) (va_x : Int32) (va_more : Int32) (va_laid : Int32) (va_below : Int32) (va_settled : Int32) (va_sort : Int32) (p2_lower : Int32) (p2_way : Int32) (p2_more : Int32) (p2_beyond : Int32) (liD_r : Nat → Int32) (x4 : Int32) (H : Heap) (locs : List Loc) (ls : Array Slot), wp_X2_readDue_3 post  fl_f fl_bias fl_signBit fl_endless p1 p2 p3 n va_m va_x va_more va_laid va_below va_settled va_sort p2_lower p2_way p2_more p2_beyond liD_r x4 → va_P D vwCl [(a_fl, oX1 fl_e fl_f fl_bias fl_codes fl_signBit fl_endless), (a_va, oX6 a_fl a_p2 va_m va_x va_more va_laid va_below va_settled va_sort), (a_p2, oX3 a_fl p2_lower p2_way p2_more p2_beyond), (a_li, oX2 a_fl a_va a_liD a_liF a_liA a_liB li_parts li_s li_least li_greatest), (a_liD, .inl (cI, 256, .inl liD_r))] H → va_D A [(a_fl, oX1 fl_e fl_f fl_bias fl_codes fl_signBit fl_endless), (a_va, oX6 a_fl a_p2 va_m va_x va_more va_laid va_below va_settled va_sort), (a_p2, oX3 a_fl p2_lower p2_way p2_more p2_beyond), (a_li, oX2 a_fl a_va a_liD a_liF a_liA a_liB li_parts li_s li_least li_greatest), (a_liD, .inl (cI, 256, .inl liD_r))] → va_S A s.heap H locs → lv_has ls 5 [(0, .ref a_li), (1, .int p1), (2, .int p2), (3, .int p3), (4, .int x4)] → W p l e R s m args below meth c H locs 0 0 Q (F0 m 3 ls []) := by
    intro n
    induction n with
    | zero => intro va_m va_x va_more va_laid va_below va_settled va_sort p2_lower p2_way p2_more p2_beyond liD_r x4 H locs ls ho hP hD hS hl; exact ho.elim
    | succ n_3 ih_3 =>
      intro va_m va_x va_more va_laid va_below va_settled va_sort p2_lower p2_way p2_more p2_beyond liD_r x4 H locs ls ho hP hD hS hl
      replace ho : wp_X2_readDue_3_b post fl_f fl_bias fl_signBit fl_endless p1 p2 p3 (wp_X2_readDue_3 post fl_f fl_bias fl_signBit fl_endless p1 p2 p3 n_3) va_m va_x va_more va_laid va_below va_settled va_sort p2_lower p2_way p2_more p2_beyond liD_r x4 := ho
      unfold wp_X2_readDue_3_b at ho
      refine lv_iload hx hb dX2_readDue_3 (lv_at hl 4 rfl) ?_
      refine lv_aload_n hx hb dX2_readDue_5 rfl (lv_at hl 0 rfl) ?_
      refine va_get (D := D) (ci := 2) (v := .ref a_fl) (C := RX2) (T := TX2) (N := 10) hx hb hts inlX2 hown hK hP 3 rfl rfl 0 (by decide) (hts _ wl_88) (fun _ h9 => h9) rfl dX2_readDue_6 ?_
      refine ca_Vi (b := a_fl) (As := []) (rest := [.int x4]) ⟨hx, hb, hml, hown, hts⟩ (c_X1_zs l D cI cJ cZ a_fl fl_e fl_f fl_bias fl_codes fl_signBit fl_endless  _ ho) (cwV 0 hts (gdV wl_654 wl_216 wl_217 wl_14 wl_218) rfl rfl rfl (by decide +kernel) ⟨hRf _ (Nat.le_of_ble_eq_true rfl), hRl _ (Nat.le_of_ble_eq_true rfl)⟩) hK hN hP [0] rfl 0 1 rfl rfl rfl rfl hl.1 rfl (Nat.le_of_ble_eq_true rfl) dX2_readDue_9 ⟨Nat.zero_le _, Nat.zero_le _⟩ (fun r9 ho => ?_)
      refine lv_icmp_ge (tgt := 49) hx hb dX2_readDue_12 (by decide) (fun c_12 => ?_) (fun c_12 => ?_)
      · replace ho := ho.1 c_12
        subst hQ; exact W.vret hx hb hr (fun t ht hW => ⟨⟨(va_m, va_x, va_more, va_laid, va_below, va_settled, va_sort, p2_lower, p2_way, p2_more, p2_beyond, liD_r), rfl, ho, by rw [ht]; exact hP, hD⟩, hS.F ht⟩) (fun q hq => hS.2.2 q hq) dX2_readDue_49
      · replace ho := ho.2 c_12
        refine lv_aload_n hx hb dX2_readDue_15 rfl (lv_at hl 0 rfl) ?_
        refine va_get (D := D) (ci := 2) (v := .ref a_liD) (C := RX2) (T := TX2) (N := 10) hx hb hts inlX2 hown hK hP 3 rfl rfl 2 (by decide) (hts _ wl_90) (fun _ h9 => h9) rfl dX2_readDue_16 ?_
        refine lv_iload hx hb dX2_readDue_19 (lv_at hl 4 rfl) ?_
        refine lv_aload_n hx hb dX2_readDue_21 rfl (lv_at hl 0 rfl) ?_
        refine va_get (D := D) (ci := 2) (v := .ref a_va) (C := RX2) (T := TX2) (N := 10) hx hb hts inlX2 hown hK hP 3 rfl rfl 1 (by decide) (hts _ wl_89) (fun _ h9 => h9) rfl dX2_readDue_22 ?_
        refine lv_iload_n hx hb dX2_readDue_25 rfl (lv_at hl 1 rfl) ?_
        refine lv_aload_n hx hb dX2_readDue_26 rfl (lv_at hl 0 rfl) ?_
        refine va_get (D := D) (ci := 2) (v := .ref a_fl) (C := RX2) (T := TX2) (N := 10) hx hb hts inlX2 hown hK hP 3 rfl rfl 0 (by decide) (hts _ wl_88) (fun _ h9 => h9) rfl dX2_readDue_27 ?_
        refine lv_iload_n hx hb dX2_readDue_30 rfl (lv_at hl 3 rfl) ?_
        refine lv_iload hx hb dX2_readDue_31 (lv_at hl 4 rfl) ?_
        refine ca_Vi (b := a_fl) (As := [.int p3, .int x4]) (rest := [.int p1, .ref a_va, .int x4, .ref a_liD]) ⟨hx, hb, hml, hown, hts⟩ (c_X1_codeOf l D cI cJ cZ a_fl fl_e fl_f fl_bias fl_codes fl_signBit fl_endless p3 x4 _ ho) (cwV 2 hts (gdV wl_655 wl_656 wl_657 wl_14 wl_658) rfl rfl rfl (by decide +kernel) ⟨hRf _ (Nat.le_of_ble_eq_true rfl), hRl _ (Nat.le_of_ble_eq_true rfl)⟩) hK hN hP [0] rfl 0 1 rfl rfl rfl rfl hl.1 rfl (Nat.le_of_ble_eq_true rfl) dX2_readDue_33 ⟨Nat.zero_le _, Nat.zero_le _⟩ (fun r33 ho => ?_)
        refine lv_iload_n hx hb dX2_readDue_36 rfl (lv_at hl 2 rfl) ?_
        refine ca_Wi (b := a_va) (As := [.int p1, .int r33, .int p2]) (rest := [.int x4, .ref a_liD]) (wr := [(a_li, oX2 a_fl a_va a_liD a_liF a_liA a_liB li_parts li_s li_least li_greatest), (a_liD, .inl (cI, 256, .inl liD_r))]) (wo := fun (u : (Int64) × (Int32) × (Int32) × (Int32) × (Int32) × (Int32) × (Int32) × (Int32) × (Int32) × (Int32) × (Int32)) => [(a_fl, oX1 fl_e fl_f fl_bias fl_codes fl_signBit fl_endless), (a_va, oX6 a_fl a_p2 u.1 u.2.1 u.2.2.1 u.2.2.2.1 u.2.2.2.2.1 u.2.2.2.2.2.1 u.2.2.2.2.2.2.1), (a_p2, oX3 a_fl u.2.2.2.2.2.2.2.1 u.2.2.2.2.2.2.2.2.1 u.2.2.2.2.2.2.2.2.2.1 u.2.2.2.2.2.2.2.2.2.2)]) (wn := fun (u : (Int64) × (Int32) × (Int32) × (Int32) × (Int32) × (Int32) × (Int32) × (Int32) × (Int32) × (Int32) × (Int32)) => [(a_fl, oX1 fl_e fl_f fl_bias fl_codes fl_signBit fl_endless), (a_va, oX6 a_fl a_p2 u.1 u.2.1 u.2.2.1 u.2.2.2.1 u.2.2.2.2.1 u.2.2.2.2.2.1 u.2.2.2.2.2.2.1), (a_p2, oX3 a_fl u.2.2.2.2.2.2.2.1 u.2.2.2.2.2.2.2.2.1 u.2.2.2.2.2.2.2.2.2.1 u.2.2.2.2.2.2.2.2.2.2), (a_li, oX2 a_fl a_va a_liD a_liF a_liA a_liB li_parts li_s li_least li_greatest), (a_liD, .inl (cI, 256, .inl liD_r))]) ⟨hx, hb, hml, hown, hts⟩ (c_X6_resultAt l D cI cJ cZ a_fl a_va a_p2 H.size fl_e fl_f fl_bias fl_codes fl_signBit fl_endless va_m va_x va_more va_laid va_below va_settled va_sort p2_lower p2_way p2_more p2_beyond p1 r33 p2 _ _ rfl ho) (cwV 3 hts (gdV wl_659 wl_405 wl_406 wl_22 wl_407) rfl rfl rfl (by decide +kernel) ⟨hRf _ (Nat.le_of_ble_eq_true rfl), hRl _ (Nat.le_of_ble_eq_true rfl)⟩) hK hN hP hD hS hA [0, 1, 2] [3, 4] [2, 3, 4, 0, 1] rfl rfl (by decide) (by decide) (by decide) (by decide) (fun _ => rfl) 1 5 rfl rfl rfl rfl hl.1 rfl (Nat.le_of_ble_eq_true rfl) dX2_readDue_37 ⟨Nat.zero_le _, Nat.zero_le _⟩ (fun r37 u37 H locs ho hP hD hS => ?_)
        obtain ⟨u37_1, u37_2, u37_3, u37_4, u37_5, u37_6, u37_7, u37_8, u37_9, u37_10, u37_11⟩ := u37
        try dsimp only at ho
        replace hP : va_P D vwCl [(a_fl, oX1 fl_e fl_f fl_bias fl_codes fl_signBit fl_endless), (a_va, oX6 a_fl a_p2 u37_1 u37_2 u37_3 u37_4 u37_5 u37_6 u37_7), (a_p2, oX3 a_fl u37_8 u37_9 u37_10 u37_11), (a_li, oX2 a_fl a_va a_liD a_liF a_liA a_liB li_parts li_s li_least li_greatest), (a_liD, .inl (cI, 256, .inl liD_r))] H := hP
        replace hD : va_D A [(a_fl, oX1 fl_e fl_f fl_bias fl_codes fl_signBit fl_endless), (a_va, oX6 a_fl a_p2 u37_1 u37_2 u37_3 u37_4 u37_5 u37_6 u37_7), (a_p2, oX3 a_fl u37_8 u37_9 u37_10 u37_11), (a_li, oX2 a_fl a_va a_liD a_liF a_liA a_liB li_parts li_s li_least li_greatest), (a_liD, .inl (cI, 256, .inl liD_r))] := hD
        refine ca_Tv (As := [.ref a_liD, .int x4, .int r37]) (rest := []) (wr := [(a_fl, oX1 fl_e fl_f fl_bias fl_codes fl_signBit fl_endless), (a_va, oX6 a_fl a_p2 u37_1 u37_2 u37_3 u37_4 u37_5 u37_6 u37_7), (a_p2, oX3 a_fl u37_8 u37_9 u37_10 u37_11), (a_li, oX2 a_fl a_va a_liD a_liF a_liA a_liB li_parts li_s li_least li_greatest)]) (wo := fun (u : (Nat → Int32)) => [(a_liD, .inl (cI, 256, .inl u))]) (wn := fun (u : (Nat → Int32)) => [(a_fl, oX1 fl_e fl_f fl_bias fl_codes fl_signBit fl_endless), (a_va, oX6 a_fl a_p2 u37_1 u37_2 u37_3 u37_4 u37_5 u37_6 u37_7), (a_p2, oX3 a_fl u37_8 u37_9 u37_10 u37_11), (a_li, oX2 a_fl a_va a_liD a_liF a_liA a_liB li_parts li_s li_least li_greatest), (a_liD, .inl (cI, 256, .inl u))]) ⟨hx, hb, hml, hown, hts⟩ (c_X4_put l D cI cJ cZ a_liD H.size 256 liD_r x4 r37 _ _ rfl ho) (va_cwS 3 hts (gdS wl_660 wl_140 wl_134 wl_141) rfl rfl rfl (by decide +kernel) ⟨hRf _ (Nat.le_of_ble_eq_true rfl), hRl _ (Nat.le_of_ble_eq_true rfl)⟩) hK hN hP hD hS hA [4] [0, 1, 2, 3] [0, 1, 2, 3, 4] rfl rfl (by decide) (by decide) (by decide) (by decide) (fun _ => rfl) rfl hl.1 rfl (Nat.le_of_ble_eq_true rfl) dX2_readDue_40 ⟨Nat.zero_le _, Nat.zero_le _⟩ (fun  u40 H locs ho hP hD hS => ?_)
        try dsimp only at ho
        replace hP : va_P D vwCl [(a_fl, oX1 fl_e fl_f fl_bias fl_codes fl_signBit fl_endless), (a_va, oX6 a_fl a_p2 u37_1 u37_2 u37_3 u37_4 u37_5 u37_6 u37_7), (a_p2, oX3 a_fl u37_8 u37_9 u37_10 u37_11), (a_li, oX2 a_fl a_va a_liD a_liF a_liA a_liB li_parts li_s li_least li_greatest), (a_liD, .inl (cI, 256, .inl u40))] H := hP
        replace hD : va_D A [(a_fl, oX1 fl_e fl_f fl_bias fl_codes fl_signBit fl_endless), (a_va, oX6 a_fl a_p2 u37_1 u37_2 u37_3 u37_4 u37_5 u37_6 u37_7), (a_p2, oX3 a_fl u37_8 u37_9 u37_10 u37_11), (a_li, oX2 a_fl a_va a_liD a_liF a_liA a_liB li_parts li_s li_least li_greatest), (a_liD, .inl (cI, 256, .inl u40))] := hD
        refine lv_iinc (v := (x4 + (1 : Int32))) (lv' := [(4, .int (x4 + (1 : Int32))), (0, .ref a_li), (1, .int p1), (2, .int p2), (3, .int p3)]) hx hb dX2_readDue_43 hl (k := 4) rfl rfl (by decide) rfl (fun ls hl => ?_)
        refine lv_goto (tgt := 3) hx hb dX2_readDue_46 (by decide) ?_
        exact ih_3 u37_1 u37_2 u37_3 u37_4 u37_5 u37_6 u37_7 u37_8 u37_9 u37_10 u37_11 u40 (x4 + (1 : Int32)) H locs ls ho hP hD hS (lv_sub hl [1, 2, 3, 4, 0] rfl)
  suffices main : ∀ (H : Heap) (locs : List Loc), va_P D vwCl [(a_fl, oX1 fl_e fl_f fl_bias fl_codes fl_signBit fl_endless), (a_va, oX6 a_fl a_p2 va_m va_x va_more va_laid va_below va_settled va_sort), (a_p2, oX3 a_fl p2_lower p2_way p2_more p2_beyond), (a_li, oX2 a_fl a_va a_liD a_liF a_liA a_liB li_parts li_s li_least li_greatest), (a_liD, .inl (cI, 256, .inl liD_r))] H → va_S A s.heap H locs → W p l e R s m args below meth c H locs 0 0 Q (F0 m 0 ls []) from main _ _ hP hS
  intro H locs hP hS
  unfold wp_X2_readDue at ho
  refine lv_iconst (v := 0) hx hb dX2_readDue_0 (by decide) ?_
  refine lv_istore (lv' := [(4, .int (0 : Int32)), (0, .ref a_li), (1, .int p1), (2, .int p2), (3, .int p3)]) hx hb dX2_readDue_1 hl (by decide) rfl (fun ls hl => ?_)
  obtain ⟨n_3, ho⟩ := ho
  exact C_3 n_3 va_m va_x va_more va_laid va_below va_settled va_sort p2_lower p2_way p2_more p2_beyond liD_r (0 : Int32) H locs ls ho hP hD hS (lv_sub hl [1, 2, 3, 4, 0] rfl)

def w_X2_widen : List Cond := .code yX2_widen cX2_widen 2 none :: wsL_law
set_option maxHeartbeats 4000000 in
set_option maxRecDepth 100000 in
theorem c_X2_widen (l : Launch) (D : va_G) (cI cJ cZ : ClassId) (a_fl : Nat) (a_va : Nat) (a_li : Nat) (a_liD : Nat) (a_liF : Nat) (a_liA : Nat) (a_liB : Nat) (sz : Nat) (li_parts : Int32) (li_s : Int32) (li_least : Int64) (li_greatest : Int64) (p1 : Int32) (post : Int64 → Int64 → Prop) (A : Nat → Prop) (hAe : A = va_A [(a_li, oX2 a_fl a_va a_liD a_liF a_liA a_liB li_parts li_s li_least li_greatest)] sz) (ho : wp_X2_widen post p1) : Met l yX2_widen w_X2_widen ({ frames := 0, cells := 0, slots := 0, locals := 0 } : Room) (rw_P D [(cI, .int), (cJ, .long), (cZ, .boolean)] [.ref a_li, .int p1] sz [(a_li, oX2 a_fl a_va a_liD a_liF a_liA a_liB li_parts li_s li_least li_greatest)]) (va_Qv (fun (u : (Int64) × (Int64)) => post u.1 u.2) (rw_B D A (fun (u : (Int64) × (Int64)) => [(a_li, oX2 a_fl a_va a_liD a_liF a_liA a_liB li_parts li_s u.1 u.2)])) A) 0 0 A := by
  refine Met.ofW (cc := cX2_widen) (maxL := 2) (ret := none) (by decide) rfl ?_
  intro p e s m args below meth c s₁ B hml hv
  obtain ⟨hargs, hsz, hP, hK, hN, hD0⟩ := hv
  have hx := B.exec
  have hb := B.bytes
  have hr := B.returns
  have hts : ∀ w ∈ wsL_law, w.before args s = true := fun w h => atoms_spec (ws := w_X2_widen) B.pre w (List.mem_cons_of_mem _ h)
  have hown : s.vm.findClass RX2 = some m.cls := findClass_of_methodNamed B.named
  have hlocks := B.notSynchronized
  subst hsz
  have hD : va_D A [(a_li, oX2 a_fl a_va a_liD a_liF a_liA a_liB li_parts li_s li_least li_greatest)] := by rw [hAe]; exact hD0.self
  have hA : ∀ q : Nat, s.heap.size ≤ q → A q := fun q h => by rw [hAe]; exact Or.inr h
  have hS : va_S A s.heap s.heap [] := va_S.rf
  have hl := lv_entry ([.ref a_li, .int p1]) (n := 2) (Nat.le_of_ble_eq_true rfl)
  rw [hargs, lg_entry_eq, ← hargs]
  generalize (lg_sl ([.ref a_li, .int p1]) ++ List.replicate (2 - (lg_sl ([.ref a_li, .int p1])).length) Slot.unset).toArray = ls at hl ⊢
  replace hl : lv_has ls 2 [(0, .ref a_li), (1, .int p1)] := hl
  have hRf : ∀ n, n ≤ 0 → n ≤ (headSpec w_X2_widen ({ frames := 0, cells := 0, slots := 0, locals := 0 } : Room)).room.frames := fun n h => h
  have hRl : ∀ n, n ≤ 0 → n ≤ (headSpec w_X2_widen ({ frames := 0, cells := 0, slots := 0, locals := 0 } : Room)).room.locals := fun n h => h
  generalize (headSpec w_X2_widen ({ frames := 0, cells := 0, slots := 0, locals := 0 } : Room)).room = R at hRf hRl ⊢
  generalize hQ : MQ below _ args s 0 0 _ = Q
  have C_12 : ∀ (li_least : Int64) (li_greatest : Int64) (y0 : Int64) (H : Heap) (locs : List Loc) (ls : Array Slot), wp_X2_widen_12 post  p1 y0 → va_P D vwCl [(a_li, oX2 a_fl a_va a_liD a_liF a_liA a_liB li_parts li_s li_least li_greatest)] H → va_D A [(a_li, oX2 a_fl a_va a_liD a_liF a_liA a_liB li_parts li_s li_least li_greatest)] → va_S A s.heap H locs → lv_has ls 2 [(0, .ref a_li), (1, .int p1)] → W p l e R s m args below meth c H locs 0 0 Q (F0 m 12 ls [.long y0, .ref a_li]) := by
    intro li_least li_greatest y0 H locs ls ho hP hD hS hl
    unfold wp_X2_widen_12 at ho
    refine va_put (D := D) (ci := 2) (v := .long y0) (ty := .long) (C := RX2) (T := TX2) (N := 10) hx hb hts inlX2 tyX2 tyX2_ok nmX2 hown hK hP hD hS 0 rfl rfl 8 (by decide) (hts _ wl_671) (fun _ h9 => h9) rfl (by decide +kernel) rfl rfl (Nat.le_of_ble_eq_true rfl) dX2_widen_12 (fun H locs hP hD hS => ?_)
    replace hP : va_P D vwCl [(a_li, oX2 a_fl a_va a_liD a_liF a_liA a_liB li_parts li_s y0 li_greatest)] H := hP
    replace hD : va_D A [(a_li, oX2 a_fl a_va a_liD a_liF a_liA a_liB li_parts li_s y0 li_greatest)] := hD
    refine lv_aload_n hx hb dX2_widen_15 rfl (lv_at hl 0 rfl) ?_
    refine lv_iload_n hx hb dX2_widen_16 rfl (lv_at hl 1 rfl) ?_
    refine lv_if_ne (tgt := 24) hx hb dX2_widen_17 (by decide) (fun c_17 => ?_) (fun c_17 => ?_)
    · replace ho := ho.1 c_17
      refine lv_ldc2 hx hb hown (hts _ wl_672) dX2_widen_24 ?_
      refine va_put (D := D) (ci := 2) (v := .long (1099511627776 : Int64)) (ty := .long) (C := RX2) (T := TX2) (N := 10) hx hb hts inlX2 tyX2 tyX2_ok nmX2 hown hK hP hD hS 0 rfl rfl 9 (by decide) (hts _ wl_673) (fun _ h9 => h9) rfl (by decide +kernel) rfl rfl (Nat.le_of_ble_eq_true rfl) dX2_widen_27 (fun H locs hP hD hS => ?_)
      replace hP : va_P D vwCl [(a_li, oX2 a_fl a_va a_liD a_liF a_liA a_liB li_parts li_s y0 (1099511627776 : Int64))] H := hP
      replace hD : va_D A [(a_li, oX2 a_fl a_va a_liD a_liF a_liA a_liB li_parts li_s y0 (1099511627776 : Int64))] := hD
      subst hQ; exact W.vret hx hb hr (fun t ht hW => ⟨⟨(y0, (1099511627776 : Int64)), rfl, ho, by rw [ht]; exact hP, hD⟩, hS.F ht⟩) (fun q hq => hS.2.2 q hq) dX2_widen_30
    · replace ho := ho.2 c_17
      refine lv_lconst (v := 0) hx hb dX2_widen_20 (by decide) ?_
      refine lv_goto (tgt := 27) hx hb dX2_widen_21 (by decide) ?_
      refine va_put (D := D) (ci := 2) (v := .long (0 : Int64)) (ty := .long) (C := RX2) (T := TX2) (N := 10) hx hb hts inlX2 tyX2 tyX2_ok nmX2 hown hK hP hD hS 0 rfl rfl 9 (by decide) (hts _ wl_673) (fun _ h9 => h9) rfl (by decide +kernel) rfl rfl (Nat.le_of_ble_eq_true rfl) dX2_widen_27 (fun H locs hP hD hS => ?_)
      replace hP : va_P D vwCl [(a_li, oX2 a_fl a_va a_liD a_liF a_liA a_liB li_parts li_s y0 (0 : Int64))] H := hP
      replace hD : va_D A [(a_li, oX2 a_fl a_va a_liD a_liF a_liA a_liB li_parts li_s y0 (0 : Int64))] := hD
      subst hQ; exact W.vret hx hb hr (fun t ht hW => ⟨⟨(y0, (0 : Int64)), rfl, ho, by rw [ht]; exact hP, hD⟩, hS.F ht⟩) (fun q hq => hS.2.2 q hq) dX2_widen_30
  suffices main : ∀ (H : Heap) (locs : List Loc), va_P D vwCl [(a_li, oX2 a_fl a_va a_liD a_liF a_liA a_liB li_parts li_s li_least li_greatest)] H → va_S A s.heap H locs → W p l e R s m args below meth c H locs 0 0 Q (F0 m 0 ls []) from main _ _ hP hS
  intro H locs hP hS
  unfold wp_X2_widen at ho
  refine lv_aload_n hx hb dX2_widen_0 rfl (lv_at hl 0 rfl) ?_
  refine lv_iload_n hx hb dX2_widen_1 rfl (lv_at hl 1 rfl) ?_
  refine lv_if_ne (tgt := 9) hx hb dX2_widen_2 (by decide) (fun c_2 => ?_) (fun c_2 => ?_)
  · replace ho := ho.1 c_2
    refine lv_ldc2 hx hb hown (hts _ wl_670) dX2_widen_9 ?_
    exact C_12 li_least li_greatest (-1099511627776 : Int64) H locs ls ho hP hD hS (lv_sub hl [0, 1] rfl)
  · replace ho := ho.2 c_2
    refine lv_lconst (v := 0) hx hb dX2_widen_5 (by decide) ?_
    refine lv_goto (tgt := 12) hx hb dX2_widen_6 (by decide) ?_
    exact C_12 li_least li_greatest (0 : Int64) H locs ls ho hP hD hS (lv_sub hl [0, 1] rfl)

def w_X2_floorBy : List Cond := .code yX2_floorBy cX2_floorBy 4 (some .long) :: wsL_law
set_option maxHeartbeats 4000000 in
set_option maxRecDepth 100000 in
theorem c_X2_floorBy (l : Launch) (D : va_G) (cI cJ cZ : ClassId)   (p1 : Int64) (p2 : Int64) (post : Int64 → Prop) (ho : wp_X2_floorBy post p1 p2) : Met l yX2_floorBy w_X2_floorBy ({ frames := 1, cells := 0, slots := 0, locals := 25 } : Room) (ro_P D [(cI, .int), (cJ, .long), (cZ, .boolean)] [.long p1, .long p2] []) (vp_Sl post) 0 0 (fun _ => False) := by
  refine Met.ofW (cc := cX2_floorBy) (maxL := 4) (ret := (some .long)) (by decide) rfl ?_
  intro p e s m args below meth c s₁ B hml hv
  obtain ⟨hargs, hP, hK, hN⟩ := hv
  have hx := B.exec
  have hb := B.bytes
  have hr := B.returns
  have hts : ∀ w ∈ wsL_law, w.before args s = true := fun w h => atoms_spec (ws := w_X2_floorBy) B.pre w (List.mem_cons_of_mem _ h)
  have hown : s.vm.findClass RX2 = some m.cls := findClass_of_methodNamed B.named
  have hlocks := B.notSynchronized
  have hl := lv_entry ([.long p1, .long p2]) (n := 4) (Nat.le_of_ble_eq_true rfl)
  rw [hargs, lg_entry_eq, ← hargs]
  generalize (lg_sl ([.long p1, .long p2]) ++ List.replicate (4 - (lg_sl ([.long p1, .long p2])).length) Slot.unset).toArray = ls at hl ⊢
  replace hl : lv_has ls 4 [(0, .long p1), (2, .long p2)] := hl
  have hRf : ∀ n, n ≤ 1 → n ≤ (headSpec w_X2_floorBy ({ frames := 1, cells := 0, slots := 0, locals := 25 } : Room)).room.frames := fun n h => h
  have hRl : ∀ n, n ≤ 25 → n ≤ (headSpec w_X2_floorBy ({ frames := 1, cells := 0, slots := 0, locals := 25 } : Room)).room.locals := fun n h => h
  generalize (headSpec w_X2_floorBy ({ frames := 1, cells := 0, slots := 0, locals := 25 } : Room)).room = R at hRf hRl ⊢
  generalize hQ : MQ below _ args s 0 0 _ = Q
  unfold wp_X2_floorBy at ho
  refine lv_lload_n hx hb dX2_floorBy_0 rfl (lv_at hl 1 rfl) ?_
  refine lv_lconst (v := 0) hx hb dX2_floorBy_1 (by decide) ?_
  refine W.lcmp hx hb dX2_floorBy_2 ?_
  refine lv_if_le (tgt := 14) hx hb dX2_floorBy_3 (by decide) (fun c_3 => ?_) (fun c_3 => ?_)
  · replace ho := ho.1 c_3
    refine lv_lconst (v := 0) hx hb dX2_floorBy_14 (by decide) ?_
    subst hQ; exact W.lret (v := (0 : Int64)) hx hb hr (fun t ht _ => ⟨(0 : Int64), rfl, ho, ht⟩) (fun _ h => by cases h) dX2_floorBy_15
  · replace ho := ho.2 c_3
    refine lv_lload_n hx hb dX2_floorBy_6 rfl (lv_at hl 0 rfl) ?_
    refine lv_lload_n hx hb dX2_floorBy_7 rfl (lv_at hl 1 rfl) ?_
    refine ca_Sl (As := [.long p1, .long p2]) (rest := []) ⟨hx, hb, hml, hown, hts⟩ (c_J9_floorDiv_f86c9 l D cI cJ cZ   p1 p2 _ ho) (va_cwS 2 hts (gdS wl_688 wl_689 wl_244 wl_690) rfl rfl rfl (by decide +kernel) ⟨hRf _ (Nat.le_of_ble_eq_true rfl), hRl _ (Nat.le_of_ble_eq_true rfl)⟩) hK hN hP [] rfl rfl hl.1 rfl (Nat.le_of_ble_eq_true rfl) dX2_floorBy_8 ⟨Nat.zero_le _, Nat.zero_le _⟩ (fun r8 ho => ?_)
    refine lv_goto (tgt := 15) hx hb dX2_floorBy_11 (by decide) ?_
    subst hQ; exact W.lret (v := r8) hx hb hr (fun t ht _ => ⟨r8, rfl, ho, ht⟩) (fun _ h => by cases h) dX2_floorBy_15
