def w_X1_amount : List Cond := .code yX1_amount cX1_amount 2 (some .int) :: wsL_law
set_option maxHeartbeats 4000000 in
set_option maxRecDepth 100000 in
theorem c_X1_amount (l : Launch) (D : va_G) (cI cJ cZ : ClassId) (a_fl : Nat) (fl_e : Int32) (fl_f : Int32) (fl_bias : Int32) (fl_codes : Int32) (fl_signBit : Int32) (fl_endless : Int32) (p1 : Int32) (post : Int32 → Prop) (ho : wp_X1_amount post fl_signBit p1) : Met l yX1_amount w_X1_amount ({ frames := 0, cells := 0, slots := 0, locals := 0 } : Room) (ro_P D [(cI, .int), (cJ, .long), (cZ, .boolean)] [.ref a_fl, .int p1] [(a_fl, oX1 fl_e fl_f fl_bias fl_codes fl_signBit fl_endless)]) (vp_Si post) 0 0 (fun _ => False) := by
  refine Met.ofW (cc := cX1_amount) (maxL := 2) (ret := (some .int)) (by decide) rfl ?_
  intro p e s m args below meth c s₁ B hml hv
  obtain ⟨hargs, hP, hK, hN⟩ := hv
  have hx := B.exec
  have hb := B.bytes
  have hr := B.returns
  have hts : ∀ w ∈ wsL_law, w.before args s = true := fun w h => atoms_spec (ws := w_X1_amount) B.pre w (List.mem_cons_of_mem _ h)
  have hown : s.vm.findClass RX1 = some m.cls := findClass_of_methodNamed B.named
  have hlocks := B.notSynchronized
  have hl := lv_entry ([.ref a_fl, .int p1]) (n := 2) (Nat.le_of_ble_eq_true rfl)
  rw [hargs, lg_entry_eq, ← hargs]
  generalize (lg_sl ([.ref a_fl, .int p1]) ++ List.replicate (2 - (lg_sl ([.ref a_fl, .int p1])).length) Slot.unset).toArray = ls at hl ⊢
  replace hl : lv_has ls 2 [(0, .ref a_fl), (1, .int p1)] := hl
  have hRf : ∀ n, n ≤ 0 → n ≤ (headSpec w_X1_amount ({ frames := 0, cells := 0, slots := 0, locals := 0 } : Room)).room.frames := fun n h => h
  have hRl : ∀ n, n ≤ 0 → n ≤ (headSpec w_X1_amount ({ frames := 0, cells := 0, slots := 0, locals := 0 } : Room)).room.locals := fun n h => h
  generalize (headSpec w_X1_amount ({ frames := 0, cells := 0, slots := 0, locals := 0 } : Room)).room = R at hRf hRl ⊢
  generalize hQ : MQ below _ args s 0 0 _ = Q
  unfold wp_X1_amount at ho
  refine lv_iload_n hx hb dX1_amount_0 rfl (lv_at hl 1 rfl) ?_
  refine lv_aload_n hx hb dX1_amount_1 rfl (lv_at hl 0 rfl) ?_
  refine va_get (D := D) (ci := 1) (v := .int fl_signBit) (C := RX1) (T := TX1) (N := 6) hx hb hts inlX1 hown hK hP 0 rfl rfl 4 (by decide) (hts _ wl_50) (fun _ h9 => h9) rfl dX1_amount_2 ?_
  refine lv_iconst (v := 1) hx hb dX1_amount_5 (by decide) ?_
  refine lv_isub hx hb dX1_amount_6 ?_
  refine lv_iand hx hb dX1_amount_7 ?_
  subst hQ; exact W.iret (v := (p1 &&& (fl_signBit - (1 : Int32)))) hx hb hr (fun t ht _ => ⟨(p1 &&& (fl_signBit - (1 : Int32))), rfl, ho, ht⟩) (fun _ h => by cases h) dX1_amount_8

def w_X1_isZero : List Cond := .code yX1_isZero cX1_isZero 2 (some .boolean) :: wsL_law
set_option maxHeartbeats 4000000 in
set_option maxRecDepth 100000 in
theorem c_X1_isZero (l : Launch) (D : va_G) (cI cJ cZ : ClassId) (a_fl : Nat) (fl_e : Int32) (fl_f : Int32) (fl_bias : Int32) (fl_codes : Int32) (fl_signBit : Int32) (fl_endless : Int32) (p1 : Int32) (post : Int32 → Prop) (ho : wp_X1_isZero post fl_signBit p1) : Met l yX1_isZero w_X1_isZero ({ frames := 1, cells := 0, slots := 0, locals := 21 } : Room) (ro_P D [(cI, .int), (cJ, .long), (cZ, .boolean)] [.ref a_fl, .int p1] [(a_fl, oX1 fl_e fl_f fl_bias fl_codes fl_signBit fl_endless)]) (vp_Si post) 0 0 (fun _ => False) := by
  refine Met.ofW (cc := cX1_isZero) (maxL := 2) (ret := (some .boolean)) (by decide) rfl ?_
  intro p e s m args below meth c s₁ B hml hv
  obtain ⟨hargs, hP, hK, hN⟩ := hv
  have hx := B.exec
  have hb := B.bytes
  have hr := B.returns
  have hts : ∀ w ∈ wsL_law, w.before args s = true := fun w h => atoms_spec (ws := w_X1_isZero) B.pre w (List.mem_cons_of_mem _ h)
  have hown : s.vm.findClass RX1 = some m.cls := findClass_of_methodNamed B.named
  have hlocks := B.notSynchronized
  have hl := lv_entry ([.ref a_fl, .int p1]) (n := 2) (Nat.le_of_ble_eq_true rfl)
  rw [hargs, lg_entry_eq, ← hargs]
  generalize (lg_sl ([.ref a_fl, .int p1]) ++ List.replicate (2 - (lg_sl ([.ref a_fl, .int p1])).length) Slot.unset).toArray = ls at hl ⊢
  replace hl : lv_has ls 2 [(0, .ref a_fl), (1, .int p1)] := hl
  have hRf : ∀ n, n ≤ 1 → n ≤ (headSpec w_X1_isZero ({ frames := 1, cells := 0, slots := 0, locals := 21 } : Room)).room.frames := fun n h => h
  have hRl : ∀ n, n ≤ 21 → n ≤ (headSpec w_X1_isZero ({ frames := 1, cells := 0, slots := 0, locals := 21 } : Room)).room.locals := fun n h => h
  generalize (headSpec w_X1_isZero ({ frames := 1, cells := 0, slots := 0, locals := 21 } : Room)).room = R at hRf hRl ⊢
  generalize hQ : MQ below _ args s 0 0 _ = Q
  unfold wp_X1_isZero at ho
  refine lv_aload_n hx hb dX1_isZero_0 rfl (lv_at hl 0 rfl) ?_
  refine lv_iload_n hx hb dX1_isZero_1 rfl (lv_at hl 1 rfl) ?_
  refine ca_Vi (b := a_fl) (As := [.int p1]) (rest := []) ⟨hx, hb, hml, hown, hts⟩ (c_X1_amount l D cI cJ cZ a_fl fl_e fl_f fl_bias fl_codes fl_signBit fl_endless p1 _ ho) (cwV 1 hts (gdV wl_186 wl_187 wl_188 wl_14 wl_189) rfl rfl rfl (by decide +kernel) ⟨hRf _ (Nat.le_of_ble_eq_true rfl), hRl _ (Nat.le_of_ble_eq_true rfl)⟩) hK hN hP [0] rfl 0 1 rfl rfl rfl rfl hl.1 rfl (Nat.le_of_ble_eq_true rfl) dX1_isZero_2 ⟨Nat.zero_le _, Nat.zero_le _⟩ (fun r2 ho => ?_)
  refine lv_if_ne (tgt := 12) hx hb dX1_isZero_5 (by decide) (fun c_5 => ?_) (fun c_5 => ?_)
  · replace ho := ho.1 c_5
    refine lv_iconst (v := 0) hx hb dX1_isZero_12 (by decide) ?_
    subst hQ; exact W.zret (v := (0 : Int32)) hx hb hr rfl (fun t ht _ => ⟨(0 : Int32), rfl, ho, ht⟩) (fun _ h => by cases h) dX1_isZero_13
  · replace ho := ho.2 c_5
    refine lv_iconst (v := 1) hx hb dX1_isZero_8 (by decide) ?_
    refine lv_goto (tgt := 13) hx hb dX1_isZero_9 (by decide) ?_
    subst hQ; exact W.zret (v := (1 : Int32)) hx hb hr rfl (fun t ht _ => ⟨(1 : Int32), rfl, ho, ht⟩) (fun _ h => by cases h) dX1_isZero_13

def w_X1_isBelow : List Cond := .code yX1_isBelow cX1_isBelow 2 (some .boolean) :: wsL_law
set_option maxHeartbeats 4000000 in
set_option maxRecDepth 100000 in
theorem c_X1_isBelow (l : Launch) (D : va_G) (cI cJ cZ : ClassId) (a_fl : Nat) (fl_e : Int32) (fl_f : Int32) (fl_bias : Int32) (fl_codes : Int32) (fl_signBit : Int32) (fl_endless : Int32) (p1 : Int32) (post : Int32 → Prop) (ho : wp_X1_isBelow post fl_signBit p1) : Met l yX1_isBelow w_X1_isBelow ({ frames := 0, cells := 0, slots := 0, locals := 0 } : Room) (ro_P D [(cI, .int), (cJ, .long), (cZ, .boolean)] [.ref a_fl, .int p1] [(a_fl, oX1 fl_e fl_f fl_bias fl_codes fl_signBit fl_endless)]) (vp_Si post) 0 0 (fun _ => False) := by
  refine Met.ofW (cc := cX1_isBelow) (maxL := 2) (ret := (some .boolean)) (by decide) rfl ?_
  intro p e s m args below meth c s₁ B hml hv
  obtain ⟨hargs, hP, hK, hN⟩ := hv
  have hx := B.exec
  have hb := B.bytes
  have hr := B.returns
  have hts : ∀ w ∈ wsL_law, w.before args s = true := fun w h => atoms_spec (ws := w_X1_isBelow) B.pre w (List.mem_cons_of_mem _ h)
  have hown : s.vm.findClass RX1 = some m.cls := findClass_of_methodNamed B.named
  have hlocks := B.notSynchronized
  have hl := lv_entry ([.ref a_fl, .int p1]) (n := 2) (Nat.le_of_ble_eq_true rfl)
  rw [hargs, lg_entry_eq, ← hargs]
  generalize (lg_sl ([.ref a_fl, .int p1]) ++ List.replicate (2 - (lg_sl ([.ref a_fl, .int p1])).length) Slot.unset).toArray = ls at hl ⊢
  replace hl : lv_has ls 2 [(0, .ref a_fl), (1, .int p1)] := hl
  have hRf : ∀ n, n ≤ 0 → n ≤ (headSpec w_X1_isBelow ({ frames := 0, cells := 0, slots := 0, locals := 0 } : Room)).room.frames := fun n h => h
  have hRl : ∀ n, n ≤ 0 → n ≤ (headSpec w_X1_isBelow ({ frames := 0, cells := 0, slots := 0, locals := 0 } : Room)).room.locals := fun n h => h
  generalize (headSpec w_X1_isBelow ({ frames := 0, cells := 0, slots := 0, locals := 0 } : Room)).room = R at hRf hRl ⊢
  generalize hQ : MQ below _ args s 0 0 _ = Q
  unfold wp_X1_isBelow at ho
  refine lv_iload_n hx hb dX1_isBelow_0 rfl (lv_at hl 1 rfl) ?_
  refine lv_aload_n hx hb dX1_isBelow_1 rfl (lv_at hl 0 rfl) ?_
  refine va_get (D := D) (ci := 1) (v := .int fl_signBit) (C := RX1) (T := TX1) (N := 6) hx hb hts inlX1 hown hK hP 0 rfl rfl 4 (by decide) (hts _ wl_50) (fun _ h9 => h9) rfl dX1_isBelow_2 ?_
  refine lv_iand hx hb dX1_isBelow_5 ?_
  refine lv_if_eq (tgt := 13) hx hb dX1_isBelow_6 (by decide) (fun c_6 => ?_) (fun c_6 => ?_)
  · replace ho := ho.1 c_6
    refine lv_iconst (v := 0) hx hb dX1_isBelow_13 (by decide) ?_
    subst hQ; exact W.zret (v := (0 : Int32)) hx hb hr rfl (fun t ht _ => ⟨(0 : Int32), rfl, ho, ht⟩) (fun _ h => by cases h) dX1_isBelow_14
  · replace ho := ho.2 c_6
    refine lv_iconst (v := 1) hx hb dX1_isBelow_9 (by decide) ?_
    refine lv_goto (tgt := 14) hx hb dX1_isBelow_10 (by decide) ?_
    subst hQ; exact W.zret (v := (1 : Int32)) hx hb hr rfl (fun t ht _ => ⟨(1 : Int32), rfl, ho, ht⟩) (fun _ h => by cases h) dX1_isBelow_14

def w_X1_isPlain : List Cond := .code yX1_isPlain cX1_isPlain 2 (some .boolean) :: wsL_law
set_option maxHeartbeats 4000000 in
set_option maxRecDepth 100000 in
theorem c_X1_isPlain (l : Launch) (D : va_G) (cI cJ cZ : ClassId) (a_fl : Nat) (fl_e : Int32) (fl_f : Int32) (fl_bias : Int32) (fl_codes : Int32) (fl_signBit : Int32) (fl_endless : Int32) (p1 : Int32) (post : Int32 → Prop) (ho : wp_X1_isPlain post fl_signBit fl_endless p1) : Met l yX1_isPlain w_X1_isPlain ({ frames := 1, cells := 0, slots := 0, locals := 21 } : Room) (ro_P D [(cI, .int), (cJ, .long), (cZ, .boolean)] [.ref a_fl, .int p1] [(a_fl, oX1 fl_e fl_f fl_bias fl_codes fl_signBit fl_endless)]) (vp_Si post) 0 0 (fun _ => False) := by
  refine Met.ofW (cc := cX1_isPlain) (maxL := 2) (ret := (some .boolean)) (by decide) rfl ?_
  intro p e s m args below meth c s₁ B hml hv
  obtain ⟨hargs, hP, hK, hN⟩ := hv
  have hx := B.exec
  have hb := B.bytes
  have hr := B.returns
  have hts : ∀ w ∈ wsL_law, w.before args s = true := fun w h => atoms_spec (ws := w_X1_isPlain) B.pre w (List.mem_cons_of_mem _ h)
  have hown : s.vm.findClass RX1 = some m.cls := findClass_of_methodNamed B.named
  have hlocks := B.notSynchronized
  have hl := lv_entry ([.ref a_fl, .int p1]) (n := 2) (Nat.le_of_ble_eq_true rfl)
  rw [hargs, lg_entry_eq, ← hargs]
  generalize (lg_sl ([.ref a_fl, .int p1]) ++ List.replicate (2 - (lg_sl ([.ref a_fl, .int p1])).length) Slot.unset).toArray = ls at hl ⊢
  replace hl : lv_has ls 2 [(0, .ref a_fl), (1, .int p1)] := hl
  have hRf : ∀ n, n ≤ 1 → n ≤ (headSpec w_X1_isPlain ({ frames := 1, cells := 0, slots := 0, locals := 21 } : Room)).room.frames := fun n h => h
  have hRl : ∀ n, n ≤ 21 → n ≤ (headSpec w_X1_isPlain ({ frames := 1, cells := 0, slots := 0, locals := 21 } : Room)).room.locals := fun n h => h
  generalize (headSpec w_X1_isPlain ({ frames := 1, cells := 0, slots := 0, locals := 21 } : Room)).room = R at hRf hRl ⊢
  generalize hQ : MQ below _ args s 0 0 _ = Q
  unfold wp_X1_isPlain at ho
  refine lv_aload_n hx hb dX1_isPlain_0 rfl (lv_at hl 0 rfl) ?_
  refine lv_iload_n hx hb dX1_isPlain_1 rfl (lv_at hl 1 rfl) ?_
  refine ca_Vi (b := a_fl) (As := [.int p1]) (rest := []) ⟨hx, hb, hml, hown, hts⟩ (c_X1_amount l D cI cJ cZ a_fl fl_e fl_f fl_bias fl_codes fl_signBit fl_endless p1 _ ho) (cwV 1 hts (gdV wl_186 wl_187 wl_188 wl_14 wl_189) rfl rfl rfl (by decide +kernel) ⟨hRf _ (Nat.le_of_ble_eq_true rfl), hRl _ (Nat.le_of_ble_eq_true rfl)⟩) hK hN hP [0] rfl 0 1 rfl rfl rfl rfl hl.1 rfl (Nat.le_of_ble_eq_true rfl) dX1_isPlain_2 ⟨Nat.zero_le _, Nat.zero_le _⟩ (fun r2 ho => ?_)
  refine lv_aload_n hx hb dX1_isPlain_5 rfl (lv_at hl 0 rfl) ?_
  refine va_get (D := D) (ci := 1) (v := .int fl_endless) (C := RX1) (T := TX1) (N := 6) hx hb hts inlX1 hown hK hP 0 rfl rfl 5 (by decide) (hts _ wl_51) (fun _ h9 => h9) rfl dX1_isPlain_6 ?_
  refine lv_icmp_ge (tgt := 16) hx hb dX1_isPlain_9 (by decide) (fun c_9 => ?_) (fun c_9 => ?_)
  · replace ho := ho.1 c_9
    refine lv_iconst (v := 0) hx hb dX1_isPlain_16 (by decide) ?_
    subst hQ; exact W.zret (v := (0 : Int32)) hx hb hr rfl (fun t ht _ => ⟨(0 : Int32), rfl, ho, ht⟩) (fun _ h => by cases h) dX1_isPlain_17
  · replace ho := ho.2 c_9
    refine lv_iconst (v := 1) hx hb dX1_isPlain_12 (by decide) ?_
    refine lv_goto (tgt := 17) hx hb dX1_isPlain_13 (by decide) ?_
    subst hQ; exact W.zret (v := (1 : Int32)) hx hb hr rfl (fun t ht _ => ⟨(1 : Int32), rfl, ho, ht⟩) (fun _ h => by cases h) dX1_isPlain_17

def w_X1_powerBits : List Cond := .code yX1_powerBits cX1_powerBits 2 (some .int) :: wsL_law
set_option maxHeartbeats 4000000 in
set_option maxRecDepth 100000 in
theorem c_X1_powerBits (l : Launch) (D : va_G) (cI cJ cZ : ClassId) (a_fl : Nat) (fl_e : Int32) (fl_f : Int32) (fl_bias : Int32) (fl_codes : Int32) (fl_signBit : Int32) (fl_endless : Int32) (p1 : Int32) (post : Int32 → Prop) (ho : wp_X1_powerBits post fl_f fl_signBit p1) : Met l yX1_powerBits w_X1_powerBits ({ frames := 1, cells := 0, slots := 0, locals := 21 } : Room) (ro_P D [(cI, .int), (cJ, .long), (cZ, .boolean)] [.ref a_fl, .int p1] [(a_fl, oX1 fl_e fl_f fl_bias fl_codes fl_signBit fl_endless)]) (vp_Si post) 0 0 (fun _ => False) := by
  refine Met.ofW (cc := cX1_powerBits) (maxL := 2) (ret := (some .int)) (by decide) rfl ?_
  intro p e s m args below meth c s₁ B hml hv
  obtain ⟨hargs, hP, hK, hN⟩ := hv
  have hx := B.exec
  have hb := B.bytes
  have hr := B.returns
  have hts : ∀ w ∈ wsL_law, w.before args s = true := fun w h => atoms_spec (ws := w_X1_powerBits) B.pre w (List.mem_cons_of_mem _ h)
  have hown : s.vm.findClass RX1 = some m.cls := findClass_of_methodNamed B.named
  have hlocks := B.notSynchronized
  have hl := lv_entry ([.ref a_fl, .int p1]) (n := 2) (Nat.le_of_ble_eq_true rfl)
  rw [hargs, lg_entry_eq, ← hargs]
  generalize (lg_sl ([.ref a_fl, .int p1]) ++ List.replicate (2 - (lg_sl ([.ref a_fl, .int p1])).length) Slot.unset).toArray = ls at hl ⊢
  replace hl : lv_has ls 2 [(0, .ref a_fl), (1, .int p1)] := hl
  have hRf : ∀ n, n ≤ 1 → n ≤ (headSpec w_X1_powerBits ({ frames := 1, cells := 0, slots := 0, locals := 21 } : Room)).room.frames := fun n h => h
  have hRl : ∀ n, n ≤ 21 → n ≤ (headSpec w_X1_powerBits ({ frames := 1, cells := 0, slots := 0, locals := 21 } : Room)).room.locals := fun n h => h
  generalize (headSpec w_X1_powerBits ({ frames := 1, cells := 0, slots := 0, locals := 21 } : Room)).room = R at hRf hRl ⊢
  generalize hQ : MQ below _ args s 0 0 _ = Q
  unfold wp_X1_powerBits at ho
  refine lv_aload_n hx hb dX1_powerBits_0 rfl (lv_at hl 0 rfl) ?_
  refine lv_iload_n hx hb dX1_powerBits_1 rfl (lv_at hl 1 rfl) ?_
  refine ca_Vi (b := a_fl) (As := [.int p1]) (rest := []) ⟨hx, hb, hml, hown, hts⟩ (c_X1_amount l D cI cJ cZ a_fl fl_e fl_f fl_bias fl_codes fl_signBit fl_endless p1 _ ho) (cwV 1 hts (gdV wl_186 wl_187 wl_188 wl_14 wl_189) rfl rfl rfl (by decide +kernel) ⟨hRf _ (Nat.le_of_ble_eq_true rfl), hRl _ (Nat.le_of_ble_eq_true rfl)⟩) hK hN hP [0] rfl 0 1 rfl rfl rfl rfl hl.1 rfl (Nat.le_of_ble_eq_true rfl) dX1_powerBits_2 ⟨Nat.zero_le _, Nat.zero_le _⟩ (fun r2 ho => ?_)
  refine lv_aload_n hx hb dX1_powerBits_5 rfl (lv_at hl 0 rfl) ?_
  refine va_get (D := D) (ci := 1) (v := .int fl_f) (C := RX1) (T := TX1) (N := 6) hx hb hts inlX1 hown hK hP 0 rfl rfl 1 (by decide) (hts _ wl_47) (fun _ h9 => h9) rfl dX1_powerBits_6 ?_
  refine lv_ishr hx hb dX1_powerBits_9 ?_
  subst hQ; exact W.iret (v := (r2 >>> (fl_f &&& 31))) hx hb hr (fun t ht _ => ⟨(r2 >>> (fl_f &&& 31)), rfl, ho, ht⟩) (fun _ h => by cases h) dX1_powerBits_10

def w_X1_zs : List Cond := .code yX1_zs cX1_zs 1 (some .int) :: wsL_law
set_option maxHeartbeats 4000000 in
set_option maxRecDepth 100000 in
theorem c_X1_zs (l : Launch) (D : va_G) (cI cJ cZ : ClassId) (a_fl : Nat) (fl_e : Int32) (fl_f : Int32) (fl_bias : Int32) (fl_codes : Int32) (fl_signBit : Int32) (fl_endless : Int32)  (post : Int32 → Prop) (ho : wp_X1_zs post fl_f) : Met l yX1_zs w_X1_zs ({ frames := 0, cells := 0, slots := 0, locals := 0 } : Room) (ro_P D [(cI, .int), (cJ, .long), (cZ, .boolean)] [.ref a_fl] [(a_fl, oX1 fl_e fl_f fl_bias fl_codes fl_signBit fl_endless)]) (vp_Si post) 0 0 (fun _ => False) := by
  refine Met.ofW (cc := cX1_zs) (maxL := 1) (ret := (some .int)) (by decide) rfl ?_
  intro p e s m args below meth c s₁ B hml hv
  obtain ⟨hargs, hP, hK, hN⟩ := hv
  have hx := B.exec
  have hb := B.bytes
  have hr := B.returns
  have hts : ∀ w ∈ wsL_law, w.before args s = true := fun w h => atoms_spec (ws := w_X1_zs) B.pre w (List.mem_cons_of_mem _ h)
  have hown : s.vm.findClass RX1 = some m.cls := findClass_of_methodNamed B.named
  have hlocks := B.notSynchronized
  have hl := lv_entry ([.ref a_fl]) (n := 1) (Nat.le_of_ble_eq_true rfl)
  rw [hargs, lg_entry_eq, ← hargs]
  generalize (lg_sl ([.ref a_fl]) ++ List.replicate (1 - (lg_sl ([.ref a_fl])).length) Slot.unset).toArray = ls at hl ⊢
  replace hl : lv_has ls 1 [(0, .ref a_fl)] := hl
  have hRf : ∀ n, n ≤ 0 → n ≤ (headSpec w_X1_zs ({ frames := 0, cells := 0, slots := 0, locals := 0 } : Room)).room.frames := fun n h => h
  have hRl : ∀ n, n ≤ 0 → n ≤ (headSpec w_X1_zs ({ frames := 0, cells := 0, slots := 0, locals := 0 } : Room)).room.locals := fun n h => h
  generalize (headSpec w_X1_zs ({ frames := 0, cells := 0, slots := 0, locals := 0 } : Room)).room = R at hRf hRl ⊢
  generalize hQ : MQ below _ args s 0 0 _ = Q
  unfold wp_X1_zs at ho
  refine lv_iconst (v := 1) hx hb dX1_zs_0 (by decide) ?_
  refine lv_aload_n hx hb dX1_zs_1 rfl (lv_at hl 0 rfl) ?_
  refine va_get (D := D) (ci := 1) (v := .int fl_f) (C := RX1) (T := TX1) (N := 6) hx hb hts inlX1 hown hK hP 0 rfl rfl 1 (by decide) (hts _ wl_47) (fun _ h9 => h9) rfl dX1_zs_2 ?_
  refine lv_ishl hx hb dX1_zs_5 ?_
  subst hQ; exact W.iret (v := ((1 : Int32) <<< (fl_f &&& 31))) hx hb hr (fun t ht _ => ⟨((1 : Int32) <<< (fl_f &&& 31)), rfl, ho, ht⟩) (fun _ h => by cases h) dX1_zs_6

def w_X1_figureBits : List Cond := .code yX1_figureBits cX1_figureBits 2 (some .int) :: wsL_law
set_option maxHeartbeats 4000000 in
set_option maxRecDepth 100000 in
theorem c_X1_figureBits (l : Launch) (D : va_G) (cI cJ cZ : ClassId) (a_fl : Nat) (fl_e : Int32) (fl_f : Int32) (fl_bias : Int32) (fl_codes : Int32) (fl_signBit : Int32) (fl_endless : Int32) (p1 : Int32) (post : Int32 → Prop) (ho : wp_X1_figureBits post fl_f p1) : Met l yX1_figureBits w_X1_figureBits ({ frames := 1, cells := 0, slots := 0, locals := 20 } : Room) (ro_P D [(cI, .int), (cJ, .long), (cZ, .boolean)] [.ref a_fl, .int p1] [(a_fl, oX1 fl_e fl_f fl_bias fl_codes fl_signBit fl_endless)]) (vp_Si post) 0 0 (fun _ => False) := by
  refine Met.ofW (cc := cX1_figureBits) (maxL := 2) (ret := (some .int)) (by decide) rfl ?_
  intro p e s m args below meth c s₁ B hml hv
  obtain ⟨hargs, hP, hK, hN⟩ := hv
  have hx := B.exec
  have hb := B.bytes
  have hr := B.returns
  have hts : ∀ w ∈ wsL_law, w.before args s = true := fun w h => atoms_spec (ws := w_X1_figureBits) B.pre w (List.mem_cons_of_mem _ h)
  have hown : s.vm.findClass RX1 = some m.cls := findClass_of_methodNamed B.named
  have hlocks := B.notSynchronized
  have hl := lv_entry ([.ref a_fl, .int p1]) (n := 2) (Nat.le_of_ble_eq_true rfl)
  rw [hargs, lg_entry_eq, ← hargs]
  generalize (lg_sl ([.ref a_fl, .int p1]) ++ List.replicate (2 - (lg_sl ([.ref a_fl, .int p1])).length) Slot.unset).toArray = ls at hl ⊢
  replace hl : lv_has ls 2 [(0, .ref a_fl), (1, .int p1)] := hl
  have hRf : ∀ n, n ≤ 1 → n ≤ (headSpec w_X1_figureBits ({ frames := 1, cells := 0, slots := 0, locals := 20 } : Room)).room.frames := fun n h => h
  have hRl : ∀ n, n ≤ 20 → n ≤ (headSpec w_X1_figureBits ({ frames := 1, cells := 0, slots := 0, locals := 20 } : Room)).room.locals := fun n h => h
  generalize (headSpec w_X1_figureBits ({ frames := 1, cells := 0, slots := 0, locals := 20 } : Room)).room = R at hRf hRl ⊢
  generalize hQ : MQ below _ args s 0 0 _ = Q
  unfold wp_X1_figureBits at ho
  refine lv_iload_n hx hb dX1_figureBits_0 rfl (lv_at hl 1 rfl) ?_
  refine lv_aload_n hx hb dX1_figureBits_1 rfl (lv_at hl 0 rfl) ?_
  refine ca_Vi (b := a_fl) (As := []) (rest := [.int p1]) ⟨hx, hb, hml, hown, hts⟩ (c_X1_zs l D cI cJ cZ a_fl fl_e fl_f fl_bias fl_codes fl_signBit fl_endless  _ ho) (cwV 0 hts (gdV wl_215 wl_216 wl_217 wl_14 wl_218) rfl rfl rfl (by decide +kernel) ⟨hRf _ (Nat.le_of_ble_eq_true rfl), hRl _ (Nat.le_of_ble_eq_true rfl)⟩) hK hN hP [0] rfl 0 1 rfl rfl rfl rfl hl.1 rfl (Nat.le_of_ble_eq_true rfl) dX1_figureBits_2 ⟨Nat.zero_le _, Nat.zero_le _⟩ (fun r2 ho => ?_)
  refine lv_iconst (v := 1) hx hb dX1_figureBits_5 (by decide) ?_
  refine lv_isub hx hb dX1_figureBits_6 ?_
  refine lv_iand hx hb dX1_figureBits_7 ?_
  subst hQ; exact W.iret (v := (p1 &&& (r2 - (1 : Int32)))) hx hb hr (fun t ht _ => ⟨(p1 &&& (r2 - (1 : Int32))), rfl, ho, ht⟩) (fun _ h => by cases h) dX1_figureBits_8

def w_X1_factor : List Cond := .code yX1_factor cX1_factor 2 (some .int) :: wsL_law
set_option maxHeartbeats 4000000 in
set_option maxRecDepth 100000 in
theorem c_X1_factor (l : Launch) (D : va_G) (cI cJ cZ : ClassId) (a_fl : Nat) (fl_e : Int32) (fl_f : Int32) (fl_bias : Int32) (fl_codes : Int32) (fl_signBit : Int32) (fl_endless : Int32) (p1 : Int32) (post : Int32 → Prop) (ho : wp_X1_factor post fl_f fl_signBit p1) : Met l yX1_factor w_X1_factor ({ frames := 2, cells := 0, slots := 0, locals := 42 } : Room) (ro_P D [(cI, .int), (cJ, .long), (cZ, .boolean)] [.ref a_fl, .int p1] [(a_fl, oX1 fl_e fl_f fl_bias fl_codes fl_signBit fl_endless)]) (vp_Si post) 0 0 (fun _ => False) := by
  refine Met.ofW (cc := cX1_factor) (maxL := 2) (ret := (some .int)) (by decide) rfl ?_
  intro p e s m args below meth c s₁ B hml hv
  obtain ⟨hargs, hP, hK, hN⟩ := hv
  have hx := B.exec
  have hb := B.bytes
  have hr := B.returns
  have hts : ∀ w ∈ wsL_law, w.before args s = true := fun w h => atoms_spec (ws := w_X1_factor) B.pre w (List.mem_cons_of_mem _ h)
  have hown : s.vm.findClass RX1 = some m.cls := findClass_of_methodNamed B.named
  have hlocks := B.notSynchronized
  have hl := lv_entry ([.ref a_fl, .int p1]) (n := 2) (Nat.le_of_ble_eq_true rfl)
  rw [hargs, lg_entry_eq, ← hargs]
  generalize (lg_sl ([.ref a_fl, .int p1]) ++ List.replicate (2 - (lg_sl ([.ref a_fl, .int p1])).length) Slot.unset).toArray = ls at hl ⊢
  replace hl : lv_has ls 2 [(0, .ref a_fl), (1, .int p1)] := hl
  have hRf : ∀ n, n ≤ 2 → n ≤ (headSpec w_X1_factor ({ frames := 2, cells := 0, slots := 0, locals := 42 } : Room)).room.frames := fun n h => h
  have hRl : ∀ n, n ≤ 42 → n ≤ (headSpec w_X1_factor ({ frames := 2, cells := 0, slots := 0, locals := 42 } : Room)).room.locals := fun n h => h
  generalize (headSpec w_X1_factor ({ frames := 2, cells := 0, slots := 0, locals := 42 } : Room)).room = R at hRf hRl ⊢
  generalize hQ : MQ below _ args s 0 0 _ = Q
  unfold wp_X1_factor at ho
  refine lv_aload_n hx hb dX1_factor_0 rfl (lv_at hl 0 rfl) ?_
  refine lv_iload_n hx hb dX1_factor_1 rfl (lv_at hl 1 rfl) ?_
  refine ca_Vi (b := a_fl) (As := [.int p1]) (rest := []) ⟨hx, hb, hml, hown, hts⟩ (c_X1_powerBits l D cI cJ cZ a_fl fl_e fl_f fl_bias fl_codes fl_signBit fl_endless p1 _ ho) (cwV 1 hts (gdV wl_227 wl_208 wl_209 wl_14 wl_210) rfl rfl rfl (by decide +kernel) ⟨hRf _ (Nat.le_of_ble_eq_true rfl), hRl _ (Nat.le_of_ble_eq_true rfl)⟩) hK hN hP [0] rfl 0 1 rfl rfl rfl rfl hl.1 rfl (Nat.le_of_ble_eq_true rfl) dX1_factor_2 ⟨Nat.zero_le _, Nat.zero_le _⟩ (fun r2 ho => ?_)
  refine lv_if_ne (tgt := 16) hx hb dX1_factor_5 (by decide) (fun c_5 => ?_) (fun c_5 => ?_)
  · replace ho := ho.1 c_5
    refine lv_aload_n hx hb dX1_factor_16 rfl (lv_at hl 0 rfl) ?_
    refine ca_Vi (b := a_fl) (As := []) (rest := []) ⟨hx, hb, hml, hown, hts⟩ (c_X1_zs l D cI cJ cZ a_fl fl_e fl_f fl_bias fl_codes fl_signBit fl_endless  _ ho) (cwV 0 hts (gdV wl_215 wl_216 wl_217 wl_14 wl_218) rfl rfl rfl (by decide +kernel) ⟨hRf _ (Nat.le_of_ble_eq_true rfl), hRl _ (Nat.le_of_ble_eq_true rfl)⟩) hK hN hP [0] rfl 0 1 rfl rfl rfl rfl hl.1 rfl (Nat.le_of_ble_eq_true rfl) dX1_factor_17 ⟨Nat.zero_le _, Nat.zero_le _⟩ (fun r17 ho => ?_)
    refine lv_aload_n hx hb dX1_factor_20 rfl (lv_at hl 0 rfl) ?_
    refine lv_iload_n hx hb dX1_factor_21 rfl (lv_at hl 1 rfl) ?_
    refine ca_Vi (b := a_fl) (As := [.int p1]) (rest := [.int r17]) ⟨hx, hb, hml, hown, hts⟩ (c_X1_figureBits l D cI cJ cZ a_fl fl_e fl_f fl_bias fl_codes fl_signBit fl_endless p1 _ ho) (cwV 1 hts (gdV wl_228 wl_212 wl_213 wl_14 wl_214) rfl rfl rfl (by decide +kernel) ⟨hRf _ (Nat.le_of_ble_eq_true rfl), hRl _ (Nat.le_of_ble_eq_true rfl)⟩) hK hN hP [0] rfl 0 1 rfl rfl rfl rfl hl.1 rfl (Nat.le_of_ble_eq_true rfl) dX1_factor_22 ⟨Nat.zero_le _, Nat.zero_le _⟩ (fun r22 ho => ?_)
    refine lv_iadd hx hb dX1_factor_25 ?_
    subst hQ; exact W.iret (v := (r17 + r22)) hx hb hr (fun t ht _ => ⟨(r17 + r22), rfl, ho, ht⟩) (fun _ h => by cases h) dX1_factor_26
  · replace ho := ho.2 c_5
    refine lv_aload_n hx hb dX1_factor_8 rfl (lv_at hl 0 rfl) ?_
    refine lv_iload_n hx hb dX1_factor_9 rfl (lv_at hl 1 rfl) ?_
    refine ca_Vi (b := a_fl) (As := [.int p1]) (rest := []) ⟨hx, hb, hml, hown, hts⟩ (c_X1_figureBits l D cI cJ cZ a_fl fl_e fl_f fl_bias fl_codes fl_signBit fl_endless p1 _ ho) (cwV 1 hts (gdV wl_228 wl_212 wl_213 wl_14 wl_214) rfl rfl rfl (by decide +kernel) ⟨hRf _ (Nat.le_of_ble_eq_true rfl), hRl _ (Nat.le_of_ble_eq_true rfl)⟩) hK hN hP [0] rfl 0 1 rfl rfl rfl rfl hl.1 rfl (Nat.le_of_ble_eq_true rfl) dX1_factor_10 ⟨Nat.zero_le _, Nat.zero_le _⟩ (fun r10 ho => ?_)
    refine lv_goto (tgt := 26) hx hb dX1_factor_13 (by decide) ?_
    subst hQ; exact W.iret (v := r10) hx hb hr (fun t ht _ => ⟨r10, rfl, ho, ht⟩) (fun _ h => by cases h) dX1_factor_26

def w_X1_power : List Cond := .code yX1_power cX1_power 2 (some .int) :: wsL_law
set_option maxHeartbeats 4000000 in
set_option maxRecDepth 100000 in
theorem c_X1_power (l : Launch) (D : va_G) (cI cJ cZ : ClassId) (a_fl : Nat) (fl_e : Int32) (fl_f : Int32) (fl_bias : Int32) (fl_codes : Int32) (fl_signBit : Int32) (fl_endless : Int32) (p1 : Int32) (post : Int32 → Prop) (ho : wp_X1_power post fl_f fl_bias fl_signBit p1) : Met l yX1_power w_X1_power ({ frames := 2, cells := 0, slots := 0, locals := 42 } : Room) (ro_P D [(cI, .int), (cJ, .long), (cZ, .boolean)] [.ref a_fl, .int p1] [(a_fl, oX1 fl_e fl_f fl_bias fl_codes fl_signBit fl_endless)]) (vp_Si post) 0 0 (fun _ => False) := by
  refine Met.ofW (cc := cX1_power) (maxL := 2) (ret := (some .int)) (by decide) rfl ?_
  intro p e s m args below meth c s₁ B hml hv
  obtain ⟨hargs, hP, hK, hN⟩ := hv
  have hx := B.exec
  have hb := B.bytes
  have hr := B.returns
  have hts : ∀ w ∈ wsL_law, w.before args s = true := fun w h => atoms_spec (ws := w_X1_power) B.pre w (List.mem_cons_of_mem _ h)
  have hown : s.vm.findClass RX1 = some m.cls := findClass_of_methodNamed B.named
  have hlocks := B.notSynchronized
  have hl := lv_entry ([.ref a_fl, .int p1]) (n := 2) (Nat.le_of_ble_eq_true rfl)
  rw [hargs, lg_entry_eq, ← hargs]
  generalize (lg_sl ([.ref a_fl, .int p1]) ++ List.replicate (2 - (lg_sl ([.ref a_fl, .int p1])).length) Slot.unset).toArray = ls at hl ⊢
  replace hl : lv_has ls 2 [(0, .ref a_fl), (1, .int p1)] := hl
  have hRf : ∀ n, n ≤ 2 → n ≤ (headSpec w_X1_power ({ frames := 2, cells := 0, slots := 0, locals := 42 } : Room)).room.frames := fun n h => h
  have hRl : ∀ n, n ≤ 42 → n ≤ (headSpec w_X1_power ({ frames := 2, cells := 0, slots := 0, locals := 42 } : Room)).room.locals := fun n h => h
  generalize (headSpec w_X1_power ({ frames := 2, cells := 0, slots := 0, locals := 42 } : Room)).room = R at hRf hRl ⊢
  generalize hQ : MQ below _ args s 0 0 _ = Q
  unfold wp_X1_power at ho
  refine lv_aload_n hx hb dX1_power_0 rfl (lv_at hl 0 rfl) ?_
  refine lv_iload_n hx hb dX1_power_1 rfl (lv_at hl 1 rfl) ?_
  refine ca_Vi (b := a_fl) (As := [.int p1]) (rest := []) ⟨hx, hb, hml, hown, hts⟩ (c_X1_powerBits l D cI cJ cZ a_fl fl_e fl_f fl_bias fl_codes fl_signBit fl_endless p1 _ ho) (cwV 1 hts (gdV wl_227 wl_208 wl_209 wl_14 wl_210) rfl rfl rfl (by decide +kernel) ⟨hRf _ (Nat.le_of_ble_eq_true rfl), hRl _ (Nat.le_of_ble_eq_true rfl)⟩) hK hN hP [0] rfl 0 1 rfl rfl rfl rfl hl.1 rfl (Nat.le_of_ble_eq_true rfl) dX1_power_2 ⟨Nat.zero_le _, Nat.zero_le _⟩ (fun r2 ho => ?_)
  refine lv_iconst (v := 1) hx hb dX1_power_5 (by decide) ?_
  refine va_mmax hx hb (hml.trans hl.1.symm) hown (hts _ wl_242) (hts _ wl_243) (hts _ wl_244) (hts _ wl_245) (hRf 1 (Nat.le_of_ble_eq_true rfl)) (hRl _ (Nat.le_of_ble_eq_true rfl)) (Nat.zero_le _) (Nat.zero_le _) dX1_power_6 ?_
  refine lv_aload_n hx hb dX1_power_9 rfl (lv_at hl 0 rfl) ?_
  refine va_get (D := D) (ci := 1) (v := .int fl_bias) (C := RX1) (T := TX1) (N := 6) hx hb hts inlX1 hown hK hP 0 rfl rfl 2 (by decide) (hts _ wl_48) (fun _ h9 => h9) rfl dX1_power_10 ?_
  refine lv_isub hx hb dX1_power_13 ?_
  refine lv_aload_n hx hb dX1_power_14 rfl (lv_at hl 0 rfl) ?_
  refine va_get (D := D) (ci := 1) (v := .int fl_f) (C := RX1) (T := TX1) (N := 6) hx hb hts inlX1 hown hK hP 0 rfl rfl 1 (by decide) (hts _ wl_47) (fun _ h9 => h9) rfl dX1_power_15 ?_
  refine lv_isub hx hb dX1_power_18 ?_
  subst hQ; exact W.iret (v := (((if r2 < (1 : Int32) then (1 : Int32) else r2) - fl_bias) - fl_f)) hx hb hr (fun t ht _ => ⟨(((if r2 < (1 : Int32) then (1 : Int32) else r2) - fl_bias) - fl_f), rfl, ho, ht⟩) (fun _ h => by cases h) dX1_power_19

def w_X1_greatestPlain : List Cond := .code yX1_greatestPlain cX1_greatestPlain 1 (some .int) :: wsL_law
set_option maxHeartbeats 4000000 in
set_option maxRecDepth 100000 in
theorem c_X1_greatestPlain (l : Launch) (D : va_G) (cI cJ cZ : ClassId) (a_fl : Nat) (fl_e : Int32) (fl_f : Int32) (fl_bias : Int32) (fl_codes : Int32) (fl_signBit : Int32) (fl_endless : Int32)  (post : Int32 → Prop) (ho : wp_X1_greatestPlain post fl_endless) : Met l yX1_greatestPlain w_X1_greatestPlain ({ frames := 0, cells := 0, slots := 0, locals := 0 } : Room) (ro_P D [(cI, .int), (cJ, .long), (cZ, .boolean)] [.ref a_fl] [(a_fl, oX1 fl_e fl_f fl_bias fl_codes fl_signBit fl_endless)]) (vp_Si post) 0 0 (fun _ => False) := by
  refine Met.ofW (cc := cX1_greatestPlain) (maxL := 1) (ret := (some .int)) (by decide) rfl ?_
  intro p e s m args below meth c s₁ B hml hv
  obtain ⟨hargs, hP, hK, hN⟩ := hv
  have hx := B.exec
  have hb := B.bytes
  have hr := B.returns
  have hts : ∀ w ∈ wsL_law, w.before args s = true := fun w h => atoms_spec (ws := w_X1_greatestPlain) B.pre w (List.mem_cons_of_mem _ h)
  have hown : s.vm.findClass RX1 = some m.cls := findClass_of_methodNamed B.named
  have hlocks := B.notSynchronized
  have hl := lv_entry ([.ref a_fl]) (n := 1) (Nat.le_of_ble_eq_true rfl)
  rw [hargs, lg_entry_eq, ← hargs]
  generalize (lg_sl ([.ref a_fl]) ++ List.replicate (1 - (lg_sl ([.ref a_fl])).length) Slot.unset).toArray = ls at hl ⊢
  replace hl : lv_has ls 1 [(0, .ref a_fl)] := hl
  have hRf : ∀ n, n ≤ 0 → n ≤ (headSpec w_X1_greatestPlain ({ frames := 0, cells := 0, slots := 0, locals := 0 } : Room)).room.frames := fun n h => h
  have hRl : ∀ n, n ≤ 0 → n ≤ (headSpec w_X1_greatestPlain ({ frames := 0, cells := 0, slots := 0, locals := 0 } : Room)).room.locals := fun n h => h
  generalize (headSpec w_X1_greatestPlain ({ frames := 0, cells := 0, slots := 0, locals := 0 } : Room)).room = R at hRf hRl ⊢
  generalize hQ : MQ below _ args s 0 0 _ = Q
  unfold wp_X1_greatestPlain at ho
  refine lv_aload_n hx hb dX1_greatestPlain_0 rfl (lv_at hl 0 rfl) ?_
  refine va_get (D := D) (ci := 1) (v := .int fl_endless) (C := RX1) (T := TX1) (N := 6) hx hb hts inlX1 hown hK hP 0 rfl rfl 5 (by decide) (hts _ wl_51) (fun _ h9 => h9) rfl dX1_greatestPlain_1 ?_
  refine lv_iconst (v := 1) hx hb dX1_greatestPlain_4 (by decide) ?_
  refine lv_isub hx hb dX1_greatestPlain_5 ?_
  subst hQ; exact W.iret (v := (fl_endless - (1 : Int32))) hx hb hr (fun t ht _ => ⟨(fl_endless - (1 : Int32)), rfl, ho, ht⟩) (fun _ h => by cases h) dX1_greatestPlain_6

def w_X1_isNone : List Cond := .code yX1_isNone cX1_isNone 2 (some .boolean) :: wsL_law
set_option maxHeartbeats 4000000 in
set_option maxRecDepth 100000 in
theorem c_X1_isNone (l : Launch) (D : va_G) (cI cJ cZ : ClassId) (a_fl : Nat) (fl_e : Int32) (fl_f : Int32) (fl_bias : Int32) (fl_codes : Int32) (fl_signBit : Int32) (fl_endless : Int32) (p1 : Int32) (post : Int32 → Prop) (ho : wp_X1_isNone post fl_signBit fl_endless p1) : Met l yX1_isNone w_X1_isNone ({ frames := 1, cells := 0, slots := 0, locals := 21 } : Room) (ro_P D [(cI, .int), (cJ, .long), (cZ, .boolean)] [.ref a_fl, .int p1] [(a_fl, oX1 fl_e fl_f fl_bias fl_codes fl_signBit fl_endless)]) (vp_Si post) 0 0 (fun _ => False) := by
  refine Met.ofW (cc := cX1_isNone) (maxL := 2) (ret := (some .boolean)) (by decide) rfl ?_
  intro p e s m args below meth c s₁ B hml hv
  obtain ⟨hargs, hP, hK, hN⟩ := hv
  have hx := B.exec
  have hb := B.bytes
  have hr := B.returns
  have hts : ∀ w ∈ wsL_law, w.before args s = true := fun w h => atoms_spec (ws := w_X1_isNone) B.pre w (List.mem_cons_of_mem _ h)
  have hown : s.vm.findClass RX1 = some m.cls := findClass_of_methodNamed B.named
  have hlocks := B.notSynchronized
  have hl := lv_entry ([.ref a_fl, .int p1]) (n := 2) (Nat.le_of_ble_eq_true rfl)
  rw [hargs, lg_entry_eq, ← hargs]
  generalize (lg_sl ([.ref a_fl, .int p1]) ++ List.replicate (2 - (lg_sl ([.ref a_fl, .int p1])).length) Slot.unset).toArray = ls at hl ⊢
  replace hl : lv_has ls 2 [(0, .ref a_fl), (1, .int p1)] := hl
  have hRf : ∀ n, n ≤ 1 → n ≤ (headSpec w_X1_isNone ({ frames := 1, cells := 0, slots := 0, locals := 21 } : Room)).room.frames := fun n h => h
  have hRl : ∀ n, n ≤ 21 → n ≤ (headSpec w_X1_isNone ({ frames := 1, cells := 0, slots := 0, locals := 21 } : Room)).room.locals := fun n h => h
  generalize (headSpec w_X1_isNone ({ frames := 1, cells := 0, slots := 0, locals := 21 } : Room)).room = R at hRf hRl ⊢
  generalize hQ : MQ below _ args s 0 0 _ = Q
  unfold wp_X1_isNone at ho
  refine lv_aload_n hx hb dX1_isNone_0 rfl (lv_at hl 0 rfl) ?_
  refine lv_iload_n hx hb dX1_isNone_1 rfl (lv_at hl 1 rfl) ?_
  refine ca_Vi (b := a_fl) (As := [.int p1]) (rest := []) ⟨hx, hb, hml, hown, hts⟩ (c_X1_amount l D cI cJ cZ a_fl fl_e fl_f fl_bias fl_codes fl_signBit fl_endless p1 _ ho) (cwV 1 hts (gdV wl_186 wl_187 wl_188 wl_14 wl_189) rfl rfl rfl (by decide +kernel) ⟨hRf _ (Nat.le_of_ble_eq_true rfl), hRl _ (Nat.le_of_ble_eq_true rfl)⟩) hK hN hP [0] rfl 0 1 rfl rfl rfl rfl hl.1 rfl (Nat.le_of_ble_eq_true rfl) dX1_isNone_2 ⟨Nat.zero_le _, Nat.zero_le _⟩ (fun r2 ho => ?_)
  refine lv_aload_n hx hb dX1_isNone_5 rfl (lv_at hl 0 rfl) ?_
  refine va_get (D := D) (ci := 1) (v := .int fl_endless) (C := RX1) (T := TX1) (N := 6) hx hb hts inlX1 hown hK hP 0 rfl rfl 5 (by decide) (hts _ wl_51) (fun _ h9 => h9) rfl dX1_isNone_6 ?_
  refine lv_icmp_le (tgt := 16) hx hb dX1_isNone_9 (by decide) (fun c_9 => ?_) (fun c_9 => ?_)
  · replace ho := ho.1 c_9
    refine lv_iconst (v := 0) hx hb dX1_isNone_16 (by decide) ?_
    subst hQ; exact W.zret (v := (0 : Int32)) hx hb hr rfl (fun t ht _ => ⟨(0 : Int32), rfl, ho, ht⟩) (fun _ h => by cases h) dX1_isNone_17
  · replace ho := ho.2 c_9
    refine lv_iconst (v := 1) hx hb dX1_isNone_12 (by decide) ?_
    refine lv_goto (tgt := 17) hx hb dX1_isNone_13 (by decide) ?_
    subst hQ; exact W.zret (v := (1 : Int32)) hx hb hr rfl (fun t ht _ => ⟨(1 : Int32), rfl, ho, ht⟩) (fun _ h => by cases h) dX1_isNone_17

def w_X1_none : List Cond := .code yX1_none cX1_none 1 (some .int) :: wsL_law
set_option maxHeartbeats 4000000 in
set_option maxRecDepth 100000 in
theorem c_X1_none (l : Launch) (D : va_G) (cI cJ cZ : ClassId) (a_fl : Nat) (fl_e : Int32) (fl_f : Int32) (fl_bias : Int32) (fl_codes : Int32) (fl_signBit : Int32) (fl_endless : Int32)  (post : Int32 → Prop) (ho : wp_X1_none post fl_endless) : Met l yX1_none w_X1_none ({ frames := 0, cells := 0, slots := 0, locals := 0 } : Room) (ro_P D [(cI, .int), (cJ, .long), (cZ, .boolean)] [.ref a_fl] [(a_fl, oX1 fl_e fl_f fl_bias fl_codes fl_signBit fl_endless)]) (vp_Si post) 0 0 (fun _ => False) := by
  refine Met.ofW (cc := cX1_none) (maxL := 1) (ret := (some .int)) (by decide) rfl ?_
  intro p e s m args below meth c s₁ B hml hv
  obtain ⟨hargs, hP, hK, hN⟩ := hv
  have hx := B.exec
  have hb := B.bytes
  have hr := B.returns
  have hts : ∀ w ∈ wsL_law, w.before args s = true := fun w h => atoms_spec (ws := w_X1_none) B.pre w (List.mem_cons_of_mem _ h)
  have hown : s.vm.findClass RX1 = some m.cls := findClass_of_methodNamed B.named
  have hlocks := B.notSynchronized
  have hl := lv_entry ([.ref a_fl]) (n := 1) (Nat.le_of_ble_eq_true rfl)
  rw [hargs, lg_entry_eq, ← hargs]
  generalize (lg_sl ([.ref a_fl]) ++ List.replicate (1 - (lg_sl ([.ref a_fl])).length) Slot.unset).toArray = ls at hl ⊢
  replace hl : lv_has ls 1 [(0, .ref a_fl)] := hl
  have hRf : ∀ n, n ≤ 0 → n ≤ (headSpec w_X1_none ({ frames := 0, cells := 0, slots := 0, locals := 0 } : Room)).room.frames := fun n h => h
  have hRl : ∀ n, n ≤ 0 → n ≤ (headSpec w_X1_none ({ frames := 0, cells := 0, slots := 0, locals := 0 } : Room)).room.locals := fun n h => h
  generalize (headSpec w_X1_none ({ frames := 0, cells := 0, slots := 0, locals := 0 } : Room)).room = R at hRf hRl ⊢
  generalize hQ : MQ below _ args s 0 0 _ = Q
  unfold wp_X1_none at ho
  refine lv_aload_n hx hb dX1_none_0 rfl (lv_at hl 0 rfl) ?_
  refine va_get (D := D) (ci := 1) (v := .int fl_endless) (C := RX1) (T := TX1) (N := 6) hx hb hts inlX1 hown hK hP 0 rfl rfl 5 (by decide) (hts _ wl_51) (fun _ h9 => h9) rfl dX1_none_1 ?_
  refine lv_iconst (v := 1) hx hb dX1_none_4 (by decide) ?_
  refine lv_iadd hx hb dX1_none_5 ?_
  subst hQ; exact W.iret (v := (fl_endless + (1 : Int32))) hx hb hr (fun t ht _ => ⟨(fl_endless + (1 : Int32)), rfl, ho, ht⟩) (fun _ h => by cases h) dX1_none_6

def w_X1_become : List Cond := .code yX1_become cX1_become 3 none :: wsL_law
set_option maxHeartbeats 4000000 in
set_option maxRecDepth 100000 in
theorem c_X1_become (l : Launch) (D : va_G) (cI cJ cZ : ClassId) (a_fl : Nat) (sz : Nat) (fl_e : Int32) (fl_f : Int32) (fl_bias : Int32) (fl_codes : Int32) (fl_signBit : Int32) (fl_endless : Int32) (p1 : Int32) (p2 : Int32) (post : Int32 → Int32 → Int32 → Int32 → Int32 → Int32 → Prop) (A : Nat → Prop) (hAe : A = va_A [(a_fl, oX1 fl_e fl_f fl_bias fl_codes fl_signBit fl_endless)] sz) (ho : wp_X1_become post p1 p2) : Met l yX1_become w_X1_become ({ frames := 0, cells := 0, slots := 0, locals := 0 } : Room) (rw_P D [(cI, .int), (cJ, .long), (cZ, .boolean)] [.ref a_fl, .int p1, .int p2] sz [(a_fl, oX1 fl_e fl_f fl_bias fl_codes fl_signBit fl_endless)]) (va_Qv (fun (u : (Int32) × (Int32) × (Int32) × (Int32) × (Int32) × (Int32)) => post u.1 u.2.1 u.2.2.1 u.2.2.2.1 u.2.2.2.2.1 u.2.2.2.2.2) (rw_B D A (fun (u : (Int32) × (Int32) × (Int32) × (Int32) × (Int32) × (Int32)) => [(a_fl, oX1 u.1 u.2.1 u.2.2.1 u.2.2.2.1 u.2.2.2.2.1 u.2.2.2.2.2)])) A) 0 0 A := by
  refine Met.ofW (cc := cX1_become) (maxL := 3) (ret := none) (by decide) rfl ?_
  intro p e s m args below meth c s₁ B hml hv
  obtain ⟨hargs, hsz, hP, hK, hN, hD0⟩ := hv
  have hx := B.exec
  have hb := B.bytes
  have hr := B.returns
  have hts : ∀ w ∈ wsL_law, w.before args s = true := fun w h => atoms_spec (ws := w_X1_become) B.pre w (List.mem_cons_of_mem _ h)
  have hown : s.vm.findClass RX1 = some m.cls := findClass_of_methodNamed B.named
  have hlocks := B.notSynchronized
  subst hsz
  have hD : va_D A [(a_fl, oX1 fl_e fl_f fl_bias fl_codes fl_signBit fl_endless)] := by rw [hAe]; exact hD0.self
  have hA : ∀ q : Nat, s.heap.size ≤ q → A q := fun q h => by rw [hAe]; exact Or.inr h
  have hS : va_S A s.heap s.heap [] := va_S.rf
  have hl := lv_entry ([.ref a_fl, .int p1, .int p2]) (n := 3) (Nat.le_of_ble_eq_true rfl)
  rw [hargs, lg_entry_eq, ← hargs]
  generalize (lg_sl ([.ref a_fl, .int p1, .int p2]) ++ List.replicate (3 - (lg_sl ([.ref a_fl, .int p1, .int p2])).length) Slot.unset).toArray = ls at hl ⊢
  replace hl : lv_has ls 3 [(0, .ref a_fl), (1, .int p1), (2, .int p2)] := hl
  have hRf : ∀ n, n ≤ 0 → n ≤ (headSpec w_X1_become ({ frames := 0, cells := 0, slots := 0, locals := 0 } : Room)).room.frames := fun n h => h
  have hRl : ∀ n, n ≤ 0 → n ≤ (headSpec w_X1_become ({ frames := 0, cells := 0, slots := 0, locals := 0 } : Room)).room.locals := fun n h => h
  generalize (headSpec w_X1_become ({ frames := 0, cells := 0, slots := 0, locals := 0 } : Room)).room = R at hRf hRl ⊢
  generalize hQ : MQ below _ args s 0 0 _ = Q
  suffices main : ∀ (H : Heap) (locs : List Loc), va_P D vwCl [(a_fl, oX1 fl_e fl_f fl_bias fl_codes fl_signBit fl_endless)] H → va_S A s.heap H locs → W p l e R s m args below meth c H locs 0 0 Q (F0 m 0 ls []) from main _ _ hP hS
  intro H locs hP hS
  unfold wp_X1_become at ho
  refine lv_aload_n hx hb dX1_become_0 rfl (lv_at hl 0 rfl) ?_
  refine lv_iload_n hx hb dX1_become_1 rfl (lv_at hl 1 rfl) ?_
  refine va_put (D := D) (ci := 1) (v := .int p1) (ty := .int) (C := RX1) (T := TX1) (N := 6) hx hb hts inlX1 tyX1 tyX1_ok nmX1 hown hK hP hD hS 0 rfl rfl 0 (by decide) (hts _ wl_46) (fun _ h9 => h9) rfl (by decide +kernel) rfl rfl (Nat.le_of_ble_eq_true rfl) dX1_become_2 (fun H locs hP hD hS => ?_)
  replace hP : va_P D vwCl [(a_fl, oX1 p1 fl_f fl_bias fl_codes fl_signBit fl_endless)] H := hP
  replace hD : va_D A [(a_fl, oX1 p1 fl_f fl_bias fl_codes fl_signBit fl_endless)] := hD
  refine lv_aload_n hx hb dX1_become_5 rfl (lv_at hl 0 rfl) ?_
  refine lv_iload_n hx hb dX1_become_6 rfl (lv_at hl 2 rfl) ?_
  refine va_put (D := D) (ci := 1) (v := .int p2) (ty := .int) (C := RX1) (T := TX1) (N := 6) hx hb hts inlX1 tyX1 tyX1_ok nmX1 hown hK hP hD hS 0 rfl rfl 1 (by decide) (hts _ wl_47) (fun _ h9 => h9) rfl (by decide +kernel) rfl rfl (Nat.le_of_ble_eq_true rfl) dX1_become_7 (fun H locs hP hD hS => ?_)
  replace hP : va_P D vwCl [(a_fl, oX1 p1 p2 fl_bias fl_codes fl_signBit fl_endless)] H := hP
  replace hD : va_D A [(a_fl, oX1 p1 p2 fl_bias fl_codes fl_signBit fl_endless)] := hD
  refine lv_aload_n hx hb dX1_become_10 rfl (lv_at hl 0 rfl) ?_
  refine lv_iconst (v := 1) hx hb dX1_become_11 (by decide) ?_
  refine lv_aload_n hx hb dX1_become_12 rfl (lv_at hl 0 rfl) ?_
  refine va_get (D := D) (ci := 1) (v := .int p1) (C := RX1) (T := TX1) (N := 6) hx hb hts inlX1 hown hK hP 0 rfl rfl 0 (by decide) (hts _ wl_46) (fun _ h9 => h9) rfl dX1_become_13 ?_
  refine lv_iconst (v := 1) hx hb dX1_become_16 (by decide) ?_
  refine lv_isub hx hb dX1_become_17 ?_
  refine lv_ishl hx hb dX1_become_18 ?_
  refine lv_iconst (v := 1) hx hb dX1_become_19 (by decide) ?_
  refine lv_isub hx hb dX1_become_20 ?_
  refine va_put (D := D) (ci := 1) (v := .int (((1 : Int32) <<< ((p1 - (1 : Int32)) &&& 31)) - (1 : Int32))) (ty := .int) (C := RX1) (T := TX1) (N := 6) hx hb hts inlX1 tyX1 tyX1_ok nmX1 hown hK hP hD hS 0 rfl rfl 2 (by decide) (hts _ wl_48) (fun _ h9 => h9) rfl (by decide +kernel) rfl rfl (Nat.le_of_ble_eq_true rfl) dX1_become_21 (fun H locs hP hD hS => ?_)
  replace hP : va_P D vwCl [(a_fl, oX1 p1 p2 (((1 : Int32) <<< ((p1 - (1 : Int32)) &&& 31)) - (1 : Int32)) fl_codes fl_signBit fl_endless)] H := hP
  replace hD : va_D A [(a_fl, oX1 p1 p2 (((1 : Int32) <<< ((p1 - (1 : Int32)) &&& 31)) - (1 : Int32)) fl_codes fl_signBit fl_endless)] := hD
  refine lv_aload_n hx hb dX1_become_24 rfl (lv_at hl 0 rfl) ?_
  refine lv_iconst (v := 1) hx hb dX1_become_25 (by decide) ?_
  refine lv_iconst (v := 1) hx hb dX1_become_26 (by decide) ?_
  refine lv_aload_n hx hb dX1_become_27 rfl (lv_at hl 0 rfl) ?_
  refine va_get (D := D) (ci := 1) (v := .int p1) (C := RX1) (T := TX1) (N := 6) hx hb hts inlX1 hown hK hP 0 rfl rfl 0 (by decide) (hts _ wl_46) (fun _ h9 => h9) rfl dX1_become_28 ?_
  refine lv_iadd hx hb dX1_become_31 ?_
  refine lv_aload_n hx hb dX1_become_32 rfl (lv_at hl 0 rfl) ?_
  refine va_get (D := D) (ci := 1) (v := .int p2) (C := RX1) (T := TX1) (N := 6) hx hb hts inlX1 hown hK hP 0 rfl rfl 1 (by decide) (hts _ wl_47) (fun _ h9 => h9) rfl dX1_become_33 ?_
  refine lv_iadd hx hb dX1_become_36 ?_
  refine lv_ishl hx hb dX1_become_37 ?_
  refine va_put (D := D) (ci := 1) (v := .int ((1 : Int32) <<< ((((1 : Int32) + p1) + p2) &&& 31))) (ty := .int) (C := RX1) (T := TX1) (N := 6) hx hb hts inlX1 tyX1 tyX1_ok nmX1 hown hK hP hD hS 0 rfl rfl 3 (by decide) (hts _ wl_49) (fun _ h9 => h9) rfl (by decide +kernel) rfl rfl (Nat.le_of_ble_eq_true rfl) dX1_become_38 (fun H locs hP hD hS => ?_)
  replace hP : va_P D vwCl [(a_fl, oX1 p1 p2 (((1 : Int32) <<< ((p1 - (1 : Int32)) &&& 31)) - (1 : Int32)) ((1 : Int32) <<< ((((1 : Int32) + p1) + p2) &&& 31)) fl_signBit fl_endless)] H := hP
  replace hD : va_D A [(a_fl, oX1 p1 p2 (((1 : Int32) <<< ((p1 - (1 : Int32)) &&& 31)) - (1 : Int32)) ((1 : Int32) <<< ((((1 : Int32) + p1) + p2) &&& 31)) fl_signBit fl_endless)] := hD
  refine lv_aload_n hx hb dX1_become_41 rfl (lv_at hl 0 rfl) ?_
  refine lv_iconst (v := 1) hx hb dX1_become_42 (by decide) ?_
  refine lv_aload_n hx hb dX1_become_43 rfl (lv_at hl 0 rfl) ?_
  refine va_get (D := D) (ci := 1) (v := .int p1) (C := RX1) (T := TX1) (N := 6) hx hb hts inlX1 hown hK hP 0 rfl rfl 0 (by decide) (hts _ wl_46) (fun _ h9 => h9) rfl dX1_become_44 ?_
  refine lv_aload_n hx hb dX1_become_47 rfl (lv_at hl 0 rfl) ?_
  refine va_get (D := D) (ci := 1) (v := .int p2) (C := RX1) (T := TX1) (N := 6) hx hb hts inlX1 hown hK hP 0 rfl rfl 1 (by decide) (hts _ wl_47) (fun _ h9 => h9) rfl dX1_become_48 ?_
  refine lv_iadd hx hb dX1_become_51 ?_
  refine lv_ishl hx hb dX1_become_52 ?_
  refine va_put (D := D) (ci := 1) (v := .int ((1 : Int32) <<< ((p1 + p2) &&& 31))) (ty := .int) (C := RX1) (T := TX1) (N := 6) hx hb hts inlX1 tyX1 tyX1_ok nmX1 hown hK hP hD hS 0 rfl rfl 4 (by decide) (hts _ wl_50) (fun _ h9 => h9) rfl (by decide +kernel) rfl rfl (Nat.le_of_ble_eq_true rfl) dX1_become_53 (fun H locs hP hD hS => ?_)
  replace hP : va_P D vwCl [(a_fl, oX1 p1 p2 (((1 : Int32) <<< ((p1 - (1 : Int32)) &&& 31)) - (1 : Int32)) ((1 : Int32) <<< ((((1 : Int32) + p1) + p2) &&& 31)) ((1 : Int32) <<< ((p1 + p2) &&& 31)) fl_endless)] H := hP
  replace hD : va_D A [(a_fl, oX1 p1 p2 (((1 : Int32) <<< ((p1 - (1 : Int32)) &&& 31)) - (1 : Int32)) ((1 : Int32) <<< ((((1 : Int32) + p1) + p2) &&& 31)) ((1 : Int32) <<< ((p1 + p2) &&& 31)) fl_endless)] := hD
  refine lv_aload_n hx hb dX1_become_56 rfl (lv_at hl 0 rfl) ?_
  refine lv_iconst (v := 1) hx hb dX1_become_57 (by decide) ?_
  refine lv_aload_n hx hb dX1_become_58 rfl (lv_at hl 0 rfl) ?_
  refine va_get (D := D) (ci := 1) (v := .int p1) (C := RX1) (T := TX1) (N := 6) hx hb hts inlX1 hown hK hP 0 rfl rfl 0 (by decide) (hts _ wl_46) (fun _ h9 => h9) rfl dX1_become_59 ?_
  refine lv_ishl hx hb dX1_become_62 ?_
  refine lv_iconst (v := 1) hx hb dX1_become_63 (by decide) ?_
  refine lv_isub hx hb dX1_become_64 ?_
  refine lv_aload_n hx hb dX1_become_65 rfl (lv_at hl 0 rfl) ?_
  refine va_get (D := D) (ci := 1) (v := .int p2) (C := RX1) (T := TX1) (N := 6) hx hb hts inlX1 hown hK hP 0 rfl rfl 1 (by decide) (hts _ wl_47) (fun _ h9 => h9) rfl dX1_become_66 ?_
  refine lv_ishl hx hb dX1_become_69 ?_
  refine va_put (D := D) (ci := 1) (v := .int ((((1 : Int32) <<< (p1 &&& 31)) - (1 : Int32)) <<< (p2 &&& 31))) (ty := .int) (C := RX1) (T := TX1) (N := 6) hx hb hts inlX1 tyX1 tyX1_ok nmX1 hown hK hP hD hS 0 rfl rfl 5 (by decide) (hts _ wl_51) (fun _ h9 => h9) rfl (by decide +kernel) rfl rfl (Nat.le_of_ble_eq_true rfl) dX1_become_70 (fun H locs hP hD hS => ?_)
  replace hP : va_P D vwCl [(a_fl, oX1 p1 p2 (((1 : Int32) <<< ((p1 - (1 : Int32)) &&& 31)) - (1 : Int32)) ((1 : Int32) <<< ((((1 : Int32) + p1) + p2) &&& 31)) ((1 : Int32) <<< ((p1 + p2) &&& 31)) ((((1 : Int32) <<< (p1 &&& 31)) - (1 : Int32)) <<< (p2 &&& 31)))] H := hP
  replace hD : va_D A [(a_fl, oX1 p1 p2 (((1 : Int32) <<< ((p1 - (1 : Int32)) &&& 31)) - (1 : Int32)) ((1 : Int32) <<< ((((1 : Int32) + p1) + p2) &&& 31)) ((1 : Int32) <<< ((p1 + p2) &&& 31)) ((((1 : Int32) <<< (p1 &&& 31)) - (1 : Int32)) <<< (p2 &&& 31)))] := hD
  subst hQ; exact W.vret hx hb hr (fun t ht hW => ⟨⟨(p1, p2, (((1 : Int32) <<< ((p1 - (1 : Int32)) &&& 31)) - (1 : Int32)), ((1 : Int32) <<< ((((1 : Int32) + p1) + p2) &&& 31)), ((1 : Int32) <<< ((p1 + p2) &&& 31)), ((((1 : Int32) <<< (p1 &&& 31)) - (1 : Int32)) <<< (p2 &&& 31))), rfl, ho, by rw [ht]; exact hP, hD⟩, hS.F ht⟩) (fun q hq => hS.2.2 q hq) dX1_become_73

def w_X1_isCode : List Cond := .code yX1_isCode cX1_isCode 2 (some .boolean) :: wsL_law
set_option maxHeartbeats 4000000 in
set_option maxRecDepth 100000 in
theorem c_X1_isCode (l : Launch) (D : va_G) (cI cJ cZ : ClassId) (a_fl : Nat) (fl_e : Int32) (fl_f : Int32) (fl_bias : Int32) (fl_codes : Int32) (fl_signBit : Int32) (fl_endless : Int32) (p1 : Int32) (post : Int32 → Prop) (ho : wp_X1_isCode post fl_codes p1) : Met l yX1_isCode w_X1_isCode ({ frames := 0, cells := 0, slots := 0, locals := 0 } : Room) (ro_P D [(cI, .int), (cJ, .long), (cZ, .boolean)] [.ref a_fl, .int p1] [(a_fl, oX1 fl_e fl_f fl_bias fl_codes fl_signBit fl_endless)]) (vp_Si post) 0 0 (fun _ => False) := by
  refine Met.ofW (cc := cX1_isCode) (maxL := 2) (ret := (some .boolean)) (by decide) rfl ?_
  intro p e s m args below meth c s₁ B hml hv
  obtain ⟨hargs, hP, hK, hN⟩ := hv
  have hx := B.exec
  have hb := B.bytes
  have hr := B.returns
  have hts : ∀ w ∈ wsL_law, w.before args s = true := fun w h => atoms_spec (ws := w_X1_isCode) B.pre w (List.mem_cons_of_mem _ h)
  have hown : s.vm.findClass RX1 = some m.cls := findClass_of_methodNamed B.named
  have hlocks := B.notSynchronized
  have hl := lv_entry ([.ref a_fl, .int p1]) (n := 2) (Nat.le_of_ble_eq_true rfl)
  rw [hargs, lg_entry_eq, ← hargs]
  generalize (lg_sl ([.ref a_fl, .int p1]) ++ List.replicate (2 - (lg_sl ([.ref a_fl, .int p1])).length) Slot.unset).toArray = ls at hl ⊢
  replace hl : lv_has ls 2 [(0, .ref a_fl), (1, .int p1)] := hl
  have hRf : ∀ n, n ≤ 0 → n ≤ (headSpec w_X1_isCode ({ frames := 0, cells := 0, slots := 0, locals := 0 } : Room)).room.frames := fun n h => h
  have hRl : ∀ n, n ≤ 0 → n ≤ (headSpec w_X1_isCode ({ frames := 0, cells := 0, slots := 0, locals := 0 } : Room)).room.locals := fun n h => h
  generalize (headSpec w_X1_isCode ({ frames := 0, cells := 0, slots := 0, locals := 0 } : Room)).room = R at hRf hRl ⊢
  generalize hQ : MQ below _ args s 0 0 _ = Q
  unfold wp_X1_isCode at ho
  refine lv_iload_n hx hb dX1_isCode_0 rfl (lv_at hl 1 rfl) ?_
  refine lv_if_lt (tgt := 16) hx hb dX1_isCode_1 (by decide) (fun c_1 => ?_) (fun c_1 => ?_)
  · replace ho := ho.1 c_1
    refine lv_iconst (v := 0) hx hb dX1_isCode_16 (by decide) ?_
    subst hQ; exact W.zret (v := (0 : Int32)) hx hb hr rfl (fun t ht _ => ⟨(0 : Int32), rfl, ho, ht⟩) (fun _ h => by cases h) dX1_isCode_17
  · replace ho := ho.2 c_1
    refine lv_iload_n hx hb dX1_isCode_4 rfl (lv_at hl 1 rfl) ?_
    refine lv_aload_n hx hb dX1_isCode_5 rfl (lv_at hl 0 rfl) ?_
    refine va_get (D := D) (ci := 1) (v := .int fl_codes) (C := RX1) (T := TX1) (N := 6) hx hb hts inlX1 hown hK hP 0 rfl rfl 3 (by decide) (hts _ wl_49) (fun _ h9 => h9) rfl dX1_isCode_6 ?_
    refine lv_icmp_ge (tgt := 16) hx hb dX1_isCode_9 (by decide) (fun c_9 => ?_) (fun c_9 => ?_)
    · replace ho := ho.1 c_9
      refine lv_iconst (v := 0) hx hb dX1_isCode_16 (by decide) ?_
      subst hQ; exact W.zret (v := (0 : Int32)) hx hb hr rfl (fun t ht _ => ⟨(0 : Int32), rfl, ho, ht⟩) (fun _ h => by cases h) dX1_isCode_17
    · replace ho := ho.2 c_9
      refine lv_iconst (v := 1) hx hb dX1_isCode_12 (by decide) ?_
      refine lv_goto (tgt := 17) hx hb dX1_isCode_13 (by decide) ?_
      subst hQ; exact W.zret (v := (1 : Int32)) hx hb hr rfl (fun t ht _ => ⟨(1 : Int32), rfl, ho, ht⟩) (fun _ h => by cases h) dX1_isCode_17

def w_X1_isPower : List Cond := .code yX1_isPower cX1_isPower 2 (some .boolean) :: wsL_law
set_option maxHeartbeats 4000000 in
set_option maxRecDepth 100000 in
theorem c_X1_isPower (l : Launch) (D : va_G) (cI cJ cZ : ClassId) (a_fl : Nat) (fl_e : Int32) (fl_f : Int32) (fl_bias : Int32) (fl_codes : Int32) (fl_signBit : Int32) (fl_endless : Int32) (p1 : Int32) (post : Int32 → Prop) (ho : wp_X1_isPower post fl_e p1) : Met l yX1_isPower w_X1_isPower ({ frames := 0, cells := 0, slots := 0, locals := 0 } : Room) (ro_P D [(cI, .int), (cJ, .long), (cZ, .boolean)] [.ref a_fl, .int p1] [(a_fl, oX1 fl_e fl_f fl_bias fl_codes fl_signBit fl_endless)]) (vp_Si post) 0 0 (fun _ => False) := by
  refine Met.ofW (cc := cX1_isPower) (maxL := 2) (ret := (some .boolean)) (by decide) rfl ?_
  intro p e s m args below meth c s₁ B hml hv
  obtain ⟨hargs, hP, hK, hN⟩ := hv
  have hx := B.exec
  have hb := B.bytes
  have hr := B.returns
  have hts : ∀ w ∈ wsL_law, w.before args s = true := fun w h => atoms_spec (ws := w_X1_isPower) B.pre w (List.mem_cons_of_mem _ h)
  have hown : s.vm.findClass RX1 = some m.cls := findClass_of_methodNamed B.named
  have hlocks := B.notSynchronized
  have hl := lv_entry ([.ref a_fl, .int p1]) (n := 2) (Nat.le_of_ble_eq_true rfl)
  rw [hargs, lg_entry_eq, ← hargs]
  generalize (lg_sl ([.ref a_fl, .int p1]) ++ List.replicate (2 - (lg_sl ([.ref a_fl, .int p1])).length) Slot.unset).toArray = ls at hl ⊢
  replace hl : lv_has ls 2 [(0, .ref a_fl), (1, .int p1)] := hl
  have hRf : ∀ n, n ≤ 0 → n ≤ (headSpec w_X1_isPower ({ frames := 0, cells := 0, slots := 0, locals := 0 } : Room)).room.frames := fun n h => h
  have hRl : ∀ n, n ≤ 0 → n ≤ (headSpec w_X1_isPower ({ frames := 0, cells := 0, slots := 0, locals := 0 } : Room)).room.locals := fun n h => h
  generalize (headSpec w_X1_isPower ({ frames := 0, cells := 0, slots := 0, locals := 0 } : Room)).room = R at hRf hRl ⊢
  generalize hQ : MQ below _ args s 0 0 _ = Q
  unfold wp_X1_isPower at ho
  refine lv_iload_n hx hb dX1_isPower_0 rfl (lv_at hl 1 rfl) ?_
  refine lv_iconst (v := 1) hx hb dX1_isPower_1 (by decide) ?_
  refine lv_icmp_lt (tgt := 21) hx hb dX1_isPower_2 (by decide) (fun c_2 => ?_) (fun c_2 => ?_)
  · replace ho := ho.1 c_2
    refine lv_iconst (v := 0) hx hb dX1_isPower_21 (by decide) ?_
    subst hQ; exact W.zret (v := (0 : Int32)) hx hb hr rfl (fun t ht _ => ⟨(0 : Int32), rfl, ho, ht⟩) (fun _ h => by cases h) dX1_isPower_22
  · replace ho := ho.2 c_2
    refine lv_iload_n hx hb dX1_isPower_5 rfl (lv_at hl 1 rfl) ?_
    refine lv_iconst (v := 1) hx hb dX1_isPower_6 (by decide) ?_
    refine lv_aload_n hx hb dX1_isPower_7 rfl (lv_at hl 0 rfl) ?_
    refine va_get (D := D) (ci := 1) (v := .int fl_e) (C := RX1) (T := TX1) (N := 6) hx hb hts inlX1 hown hK hP 0 rfl rfl 0 (by decide) (hts _ wl_46) (fun _ h9 => h9) rfl dX1_isPower_8 ?_
    refine lv_ishl hx hb dX1_isPower_11 ?_
    refine lv_iconst (v := 1) hx hb dX1_isPower_12 (by decide) ?_
    refine lv_isub hx hb dX1_isPower_13 ?_
    refine lv_icmp_ge (tgt := 21) hx hb dX1_isPower_14 (by decide) (fun c_14 => ?_) (fun c_14 => ?_)
    · replace ho := ho.1 c_14
      refine lv_iconst (v := 0) hx hb dX1_isPower_21 (by decide) ?_
      subst hQ; exact W.zret (v := (0 : Int32)) hx hb hr rfl (fun t ht _ => ⟨(0 : Int32), rfl, ho, ht⟩) (fun _ h => by cases h) dX1_isPower_22
    · replace ho := ho.2 c_14
      refine lv_iconst (v := 1) hx hb dX1_isPower_17 (by decide) ?_
      refine lv_goto (tgt := 22) hx hb dX1_isPower_18 (by decide) ?_
      subst hQ; exact W.zret (v := (1 : Int32)) hx hb hr rfl (fun t ht _ => ⟨(1 : Int32), rfl, ho, ht⟩) (fun _ h => by cases h) dX1_isPower_22

def w_X1_isZ : List Cond := .code yX1_isZ cX1_isZ 2 (some .boolean) :: wsL_law
set_option maxHeartbeats 4000000 in
set_option maxRecDepth 100000 in
theorem c_X1_isZ (l : Launch) (D : va_G) (cI cJ cZ : ClassId) (a_fl : Nat) (fl_e : Int32) (fl_f : Int32) (fl_bias : Int32) (fl_codes : Int32) (fl_signBit : Int32) (fl_endless : Int32) (p1 : Int32) (post : Int32 → Prop) (ho : wp_X1_isZ post fl_f p1) : Met l yX1_isZ w_X1_isZ ({ frames := 1, cells := 0, slots := 0, locals := 20 } : Room) (ro_P D [(cI, .int), (cJ, .long), (cZ, .boolean)] [.ref a_fl, .int p1] [(a_fl, oX1 fl_e fl_f fl_bias fl_codes fl_signBit fl_endless)]) (vp_Si post) 0 0 (fun _ => False) := by
  refine Met.ofW (cc := cX1_isZ) (maxL := 2) (ret := (some .boolean)) (by decide) rfl ?_
  intro p e s m args below meth c s₁ B hml hv
  obtain ⟨hargs, hP, hK, hN⟩ := hv
  have hx := B.exec
  have hb := B.bytes
  have hr := B.returns
  have hts : ∀ w ∈ wsL_law, w.before args s = true := fun w h => atoms_spec (ws := w_X1_isZ) B.pre w (List.mem_cons_of_mem _ h)
  have hown : s.vm.findClass RX1 = some m.cls := findClass_of_methodNamed B.named
  have hlocks := B.notSynchronized
  have hl := lv_entry ([.ref a_fl, .int p1]) (n := 2) (Nat.le_of_ble_eq_true rfl)
  rw [hargs, lg_entry_eq, ← hargs]
  generalize (lg_sl ([.ref a_fl, .int p1]) ++ List.replicate (2 - (lg_sl ([.ref a_fl, .int p1])).length) Slot.unset).toArray = ls at hl ⊢
  replace hl : lv_has ls 2 [(0, .ref a_fl), (1, .int p1)] := hl
  have hRf : ∀ n, n ≤ 1 → n ≤ (headSpec w_X1_isZ ({ frames := 1, cells := 0, slots := 0, locals := 20 } : Room)).room.frames := fun n h => h
  have hRl : ∀ n, n ≤ 20 → n ≤ (headSpec w_X1_isZ ({ frames := 1, cells := 0, slots := 0, locals := 20 } : Room)).room.locals := fun n h => h
  generalize (headSpec w_X1_isZ ({ frames := 1, cells := 0, slots := 0, locals := 20 } : Room)).room = R at hRf hRl ⊢
  generalize hQ : MQ below _ args s 0 0 _ = Q
  unfold wp_X1_isZ at ho
  refine lv_iload_n hx hb dX1_isZ_0 rfl (lv_at hl 1 rfl) ?_
  refine lv_if_lt (tgt := 16) hx hb dX1_isZ_1 (by decide) (fun c_1 => ?_) (fun c_1 => ?_)
  · replace ho := ho.1 c_1
    refine lv_iconst (v := 0) hx hb dX1_isZ_16 (by decide) ?_
    subst hQ; exact W.zret (v := (0 : Int32)) hx hb hr rfl (fun t ht _ => ⟨(0 : Int32), rfl, ho, ht⟩) (fun _ h => by cases h) dX1_isZ_17
  · replace ho := ho.2 c_1
    refine lv_iload_n hx hb dX1_isZ_4 rfl (lv_at hl 1 rfl) ?_
    refine lv_aload_n hx hb dX1_isZ_5 rfl (lv_at hl 0 rfl) ?_
    refine ca_Vi (b := a_fl) (As := []) (rest := [.int p1]) ⟨hx, hb, hml, hown, hts⟩ (c_X1_zs l D cI cJ cZ a_fl fl_e fl_f fl_bias fl_codes fl_signBit fl_endless  _ ho) (cwV 0 hts (gdV wl_215 wl_216 wl_217 wl_14 wl_218) rfl rfl rfl (by decide +kernel) ⟨hRf _ (Nat.le_of_ble_eq_true rfl), hRl _ (Nat.le_of_ble_eq_true rfl)⟩) hK hN hP [0] rfl 0 1 rfl rfl rfl rfl hl.1 rfl (Nat.le_of_ble_eq_true rfl) dX1_isZ_6 ⟨Nat.zero_le _, Nat.zero_le _⟩ (fun r6 ho => ?_)
    refine lv_icmp_ge (tgt := 16) hx hb dX1_isZ_9 (by decide) (fun c_9 => ?_) (fun c_9 => ?_)
    · replace ho := ho.1 c_9
      refine lv_iconst (v := 0) hx hb dX1_isZ_16 (by decide) ?_
      subst hQ; exact W.zret (v := (0 : Int32)) hx hb hr rfl (fun t ht _ => ⟨(0 : Int32), rfl, ho, ht⟩) (fun _ h => by cases h) dX1_isZ_17
    · replace ho := ho.2 c_9
      refine lv_iconst (v := 1) hx hb dX1_isZ_12 (by decide) ?_
      refine lv_goto (tgt := 17) hx hb dX1_isZ_13 (by decide) ?_
      subst hQ; exact W.zret (v := (1 : Int32)) hx hb hr rfl (fun t ht _ => ⟨(1 : Int32), rfl, ho, ht⟩) (fun _ h => by cases h) dX1_isZ_17
