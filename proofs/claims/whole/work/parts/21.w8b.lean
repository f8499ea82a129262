def w_X8_isPlain : List Cond := .code yX8_isPlain cX8_isPlain 2 (some .boolean) :: wsL_law
set_option maxHeartbeats 4000000 in
set_option maxRecDepth 100000 in
theorem c_X8_isPlain (l : Launch) (D : va_G) (cI cJ cZ : ClassId) (a_mo : Nat) (a_moR : Nat) (a_moK : Nat) (a_moH : Nat) (a_moS : Nat) (a_moF : Nat) (a_moT : Nat) (a_moP : Nat) (a_moQ : Nat) (a_moA : Nat) (a_moB : Nat) (a_moD : Nat) (mo_e : Int32) (mo_f : Int32) (mo_codes : Int32) (mo_most : Int32) (mo_minus : Int32) (mo_low : Int32) (mo_function : Int32) (mo_atX : Int32) (mo_atM : Int64) (mo_spanFunction : Int32) (mo_spanRounding : Int32) (mo_spanMany : Int32) (mo_parts : Int32) (mo_shift : Int32) (p1 : Int32) (post : Int32 → Prop) (ho : wp_X8_isPlain post mo_most mo_minus p1) : Met l yX8_isPlain w_X8_isPlain ({ frames := 1, cells := 0, slots := 0, locals := 21 } : Room) (ro_P D [(cI, .int), (cJ, .long), (cZ, .boolean)] [.ref a_mo, .int p1] [(a_mo, oX8 a_moR mo_e mo_f mo_codes mo_most mo_minus mo_low mo_function mo_atX mo_atM a_moK a_moH a_moS mo_spanFunction mo_spanRounding mo_spanMany a_moF a_moT mo_parts mo_shift a_moP a_moQ a_moA a_moB a_moD)]) (vp_Si post) 0 0 (fun _ => False) := by
  refine Met.ofW (cc := cX8_isPlain) (maxL := 2) (ret := (some .boolean)) (by decide) rfl ?_
  intro p e s m args below meth c s₁ B hml hv
  obtain ⟨hargs, hP, hK, hN⟩ := hv
  have hx := B.exec
  have hb := B.bytes
  have hr := B.returns
  have hts : ∀ w ∈ wsL_law, w.before args s = true := fun w h => atoms_spec (ws := w_X8_isPlain) B.pre w (List.mem_cons_of_mem _ h)
  have hown : s.vm.findClass RX8 = some m.cls := findClass_of_methodNamed B.named
  have hlocks := B.notSynchronized
  have hl := lv_entry ([.ref a_mo, .int p1]) (n := 2) (Nat.le_of_ble_eq_true rfl)
  rw [hargs, lg_entry_eq, ← hargs]
  generalize (lg_sl ([.ref a_mo, .int p1]) ++ List.replicate (2 - (lg_sl ([.ref a_mo, .int p1])).length) Slot.unset).toArray = ls at hl ⊢
  replace hl : lv_has ls 2 [(0, .ref a_mo), (1, .int p1)] := hl
  have hRf : ∀ n, n ≤ 1 → n ≤ (headSpec w_X8_isPlain ({ frames := 1, cells := 0, slots := 0, locals := 21 } : Room)).room.frames := fun n h => h
  have hRl : ∀ n, n ≤ 21 → n ≤ (headSpec w_X8_isPlain ({ frames := 1, cells := 0, slots := 0, locals := 21 } : Room)).room.locals := fun n h => h
  generalize (headSpec w_X8_isPlain ({ frames := 1, cells := 0, slots := 0, locals := 21 } : Room)).room = R at hRf hRl ⊢
  generalize hQ : MQ below _ args s 0 0 _ = Q
  unfold wp_X8_isPlain at ho
  refine lv_aload_n hx hb dX8_isPlain_0 rfl (lv_at hl 0 rfl) ?_
  refine lv_iload_n hx hb dX8_isPlain_1 rfl (lv_at hl 1 rfl) ?_
  refine ca_Vi (b := a_mo) (As := [.int p1]) (rest := []) ⟨hx, hb, hml, hown, hts⟩ (c_X8_size l D cI cJ cZ a_mo a_moR a_moK a_moH a_moS a_moF a_moT a_moP a_moQ a_moA a_moB a_moD mo_e mo_f mo_codes mo_most mo_minus mo_low mo_function mo_atX mo_atM mo_spanFunction mo_spanRounding mo_spanMany mo_parts mo_shift p1 _ ho) (cwV 1 hts (gdV wl_262 wl_263 wl_264 wl_5 wl_265) rfl rfl rfl (by decide +kernel) ⟨hRf _ (Nat.le_of_ble_eq_true rfl), hRl _ (Nat.le_of_ble_eq_true rfl)⟩) hK hN hP [0] rfl 0 7 rfl rfl rfl rfl hl.1 rfl (Nat.le_of_ble_eq_true rfl) dX8_isPlain_2 ⟨Nat.zero_le _, Nat.zero_le _⟩ (fun r2 ho => ?_)
  refine lv_aload_n hx hb dX8_isPlain_5 rfl (lv_at hl 0 rfl) ?_
  refine va_get (D := D) (ci := 7) (v := .int mo_most) (C := RX8) (T := TX8) (N := 25) hx hb hts inlX8 hown hK hP 0 rfl rfl 4 (by decide) (hts _ wl_120) (fun _ h9 => h9) rfl dX8_isPlain_6 ?_
  refine lv_icmp_gt (tgt := 16) hx hb dX8_isPlain_9 (by decide) (fun c_9 => ?_) (fun c_9 => ?_)
  · replace ho := ho.1 c_9
    refine lv_iconst (v := 0) hx hb dX8_isPlain_16 (by decide) ?_
    subst hQ; exact W.zret (v := (0 : Int32)) hx hb hr rfl (fun t ht _ => ⟨(0 : Int32), rfl, ho, ht⟩) (fun _ h => by cases h) dX8_isPlain_17
  · replace ho := ho.2 c_9
    refine lv_iconst (v := 1) hx hb dX8_isPlain_12 (by decide) ?_
    refine lv_goto (tgt := 17) hx hb dX8_isPlain_13 (by decide) ?_
    subst hQ; exact W.zret (v := (1 : Int32)) hx hb hr rfl (fun t ht _ => ⟨(1 : Int32), rfl, ho, ht⟩) (fun _ h => by cases h) dX8_isPlain_17

def w_X8_figure : List Cond := .code yX8_figure cX8_figure 2 (some .int) :: wsL_law
set_option maxHeartbeats 4000000 in
set_option maxRecDepth 100000 in
theorem c_X8_figure (l : Launch) (D : va_G) (cI cJ cZ : ClassId) (a_mo : Nat) (a_moR : Nat) (a_moK : Nat) (a_moH : Nat) (a_moS : Nat) (a_moF : Nat) (a_moT : Nat) (a_moP : Nat) (a_moQ : Nat) (a_moA : Nat) (a_moB : Nat) (a_moD : Nat) (mo_e : Int32) (mo_f : Int32) (mo_codes : Int32) (mo_most : Int32) (mo_minus : Int32) (mo_low : Int32) (mo_function : Int32) (mo_atX : Int32) (mo_atM : Int64) (mo_spanFunction : Int32) (mo_spanRounding : Int32) (mo_spanMany : Int32) (mo_parts : Int32) (mo_shift : Int32) (p1 : Int32) (post : Int32 → Prop) (ho : wp_X8_figure post mo_f p1) : Met l yX8_figure w_X8_figure ({ frames := 0, cells := 0, slots := 0, locals := 0 } : Room) (ro_P D [(cI, .int), (cJ, .long), (cZ, .boolean)] [.ref a_mo, .int p1] [(a_mo, oX8 a_moR mo_e mo_f mo_codes mo_most mo_minus mo_low mo_function mo_atX mo_atM a_moK a_moH a_moS mo_spanFunction mo_spanRounding mo_spanMany a_moF a_moT mo_parts mo_shift a_moP a_moQ a_moA a_moB a_moD)]) (vp_Si post) 0 0 (fun _ => False) := by
  refine Met.ofW (cc := cX8_figure) (maxL := 2) (ret := (some .int)) (by decide) rfl ?_
  intro p e s m args below meth c s₁ B hml hv
  obtain ⟨hargs, hP, hK, hN⟩ := hv
  have hx := B.exec
  have hb := B.bytes
  have hr := B.returns
  have hts : ∀ w ∈ wsL_law, w.before args s = true := fun w h => atoms_spec (ws := w_X8_figure) B.pre w (List.mem_cons_of_mem _ h)
  have hown : s.vm.findClass RX8 = some m.cls := findClass_of_methodNamed B.named
  have hlocks := B.notSynchronized
  have hl := lv_entry ([.ref a_mo, .int p1]) (n := 2) (Nat.le_of_ble_eq_true rfl)
  rw [hargs, lg_entry_eq, ← hargs]
  generalize (lg_sl ([.ref a_mo, .int p1]) ++ List.replicate (2 - (lg_sl ([.ref a_mo, .int p1])).length) Slot.unset).toArray = ls at hl ⊢
  replace hl : lv_has ls 2 [(0, .ref a_mo), (1, .int p1)] := hl
  have hRf : ∀ n, n ≤ 0 → n ≤ (headSpec w_X8_figure ({ frames := 0, cells := 0, slots := 0, locals := 0 } : Room)).room.frames := fun n h => h
  have hRl : ∀ n, n ≤ 0 → n ≤ (headSpec w_X8_figure ({ frames := 0, cells := 0, slots := 0, locals := 0 } : Room)).room.locals := fun n h => h
  generalize (headSpec w_X8_figure ({ frames := 0, cells := 0, slots := 0, locals := 0 } : Room)).room = R at hRf hRl ⊢
  generalize hQ : MQ below _ args s 0 0 _ = Q
  unfold wp_X8_figure at ho
  refine lv_iload_n hx hb dX8_figure_0 rfl (lv_at hl 1 rfl) ?_
  refine lv_aload_n hx hb dX8_figure_1 rfl (lv_at hl 0 rfl) ?_
  refine va_get (D := D) (ci := 7) (v := .int mo_f) (C := RX8) (T := TX8) (N := 25) hx hb hts inlX8 hown hK hP 0 rfl rfl 2 (by decide) (hts _ wl_117) (fun _ h9 => h9) rfl dX8_figure_2 ?_
  refine lv_ishr hx hb dX8_figure_5 ?_
  refine lv_if_ne (tgt := 13) hx hb dX8_figure_6 (by decide) (fun c_6 => ?_) (fun c_6 => ?_)
  · replace ho := ho.1 c_6
    refine lv_iconst (v := 1) hx hb dX8_figure_13 (by decide) ?_
    refine lv_aload_n hx hb dX8_figure_14 rfl (lv_at hl 0 rfl) ?_
    refine va_get (D := D) (ci := 7) (v := .int mo_f) (C := RX8) (T := TX8) (N := 25) hx hb hts inlX8 hown hK hP 0 rfl rfl 2 (by decide) (hts _ wl_117) (fun _ h9 => h9) rfl dX8_figure_15 ?_
    refine lv_ishl hx hb dX8_figure_18 ?_
    refine lv_iload_n hx hb dX8_figure_19 rfl (lv_at hl 1 rfl) ?_
    refine lv_iconst (v := 1) hx hb dX8_figure_20 (by decide) ?_
    refine lv_aload_n hx hb dX8_figure_21 rfl (lv_at hl 0 rfl) ?_
    refine va_get (D := D) (ci := 7) (v := .int mo_f) (C := RX8) (T := TX8) (N := 25) hx hb hts inlX8 hown hK hP 0 rfl rfl 2 (by decide) (hts _ wl_117) (fun _ h9 => h9) rfl dX8_figure_22 ?_
    refine lv_ishl hx hb dX8_figure_25 ?_
    refine lv_iconst (v := 1) hx hb dX8_figure_26 (by decide) ?_
    refine lv_isub hx hb dX8_figure_27 ?_
    refine lv_iand hx hb dX8_figure_28 ?_
    refine lv_iadd hx hb dX8_figure_29 ?_
    subst hQ; exact W.iret (v := (((1 : Int32) <<< (mo_f &&& 31)) + (p1 &&& (((1 : Int32) <<< (mo_f &&& 31)) - (1 : Int32))))) hx hb hr (fun t ht _ => ⟨(((1 : Int32) <<< (mo_f &&& 31)) + (p1 &&& (((1 : Int32) <<< (mo_f &&& 31)) - (1 : Int32)))), rfl, ho, ht⟩) (fun _ h => by cases h) dX8_figure_30
  · replace ho := ho.2 c_6
    refine lv_iload_n hx hb dX8_figure_9 rfl (lv_at hl 1 rfl) ?_
    refine lv_goto (tgt := 30) hx hb dX8_figure_10 (by decide) ?_
    subst hQ; exact W.iret (v := p1) hx hb hr (fun t ht _ => ⟨p1, rfl, ho, ht⟩) (fun _ h => by cases h) dX8_figure_30

def w_X8_power : List Cond := .code yX8_power cX8_power 2 (some .int) :: wsL_law
set_option maxHeartbeats 4000000 in
set_option maxRecDepth 100000 in
theorem c_X8_power (l : Launch) (D : va_G) (cI cJ cZ : ClassId) (a_mo : Nat) (a_moR : Nat) (a_moK : Nat) (a_moH : Nat) (a_moS : Nat) (a_moF : Nat) (a_moT : Nat) (a_moP : Nat) (a_moQ : Nat) (a_moA : Nat) (a_moB : Nat) (a_moD : Nat) (mo_e : Int32) (mo_f : Int32) (mo_codes : Int32) (mo_most : Int32) (mo_minus : Int32) (mo_low : Int32) (mo_function : Int32) (mo_atX : Int32) (mo_atM : Int64) (mo_spanFunction : Int32) (mo_spanRounding : Int32) (mo_spanMany : Int32) (mo_parts : Int32) (mo_shift : Int32) (p1 : Int32) (post : Int32 → Prop) (ho : wp_X8_power post mo_f mo_low p1) : Met l yX8_power w_X8_power ({ frames := 0, cells := 0, slots := 0, locals := 0 } : Room) (ro_P D [(cI, .int), (cJ, .long), (cZ, .boolean)] [.ref a_mo, .int p1] [(a_mo, oX8 a_moR mo_e mo_f mo_codes mo_most mo_minus mo_low mo_function mo_atX mo_atM a_moK a_moH a_moS mo_spanFunction mo_spanRounding mo_spanMany a_moF a_moT mo_parts mo_shift a_moP a_moQ a_moA a_moB a_moD)]) (vp_Si post) 0 0 (fun _ => False) := by
  refine Met.ofW (cc := cX8_power) (maxL := 2) (ret := (some .int)) (by decide) rfl ?_
  intro p e s m args below meth c s₁ B hml hv
  obtain ⟨hargs, hP, hK, hN⟩ := hv
  have hx := B.exec
  have hb := B.bytes
  have hr := B.returns
  have hts : ∀ w ∈ wsL_law, w.before args s = true := fun w h => atoms_spec (ws := w_X8_power) B.pre w (List.mem_cons_of_mem _ h)
  have hown : s.vm.findClass RX8 = some m.cls := findClass_of_methodNamed B.named
  have hlocks := B.notSynchronized
  have hl := lv_entry ([.ref a_mo, .int p1]) (n := 2) (Nat.le_of_ble_eq_true rfl)
  rw [hargs, lg_entry_eq, ← hargs]
  generalize (lg_sl ([.ref a_mo, .int p1]) ++ List.replicate (2 - (lg_sl ([.ref a_mo, .int p1])).length) Slot.unset).toArray = ls at hl ⊢
  replace hl : lv_has ls 2 [(0, .ref a_mo), (1, .int p1)] := hl
  have hRf : ∀ n, n ≤ 0 → n ≤ (headSpec w_X8_power ({ frames := 0, cells := 0, slots := 0, locals := 0 } : Room)).room.frames := fun n h => h
  have hRl : ∀ n, n ≤ 0 → n ≤ (headSpec w_X8_power ({ frames := 0, cells := 0, slots := 0, locals := 0 } : Room)).room.locals := fun n h => h
  generalize (headSpec w_X8_power ({ frames := 0, cells := 0, slots := 0, locals := 0 } : Room)).room = R at hRf hRl ⊢
  generalize hQ : MQ below _ args s 0 0 _ = Q
  unfold wp_X8_power at ho
  refine lv_aload_n hx hb dX8_power_0 rfl (lv_at hl 0 rfl) ?_
  refine va_get (D := D) (ci := 7) (v := .int mo_low) (C := RX8) (T := TX8) (N := 25) hx hb hts inlX8 hown hK hP 0 rfl rfl 6 (by decide) (hts _ wl_121) (fun _ h9 => h9) rfl dX8_power_1 ?_
  refine lv_iload_n hx hb dX8_power_4 rfl (lv_at hl 1 rfl) ?_
  refine lv_aload_n hx hb dX8_power_5 rfl (lv_at hl 0 rfl) ?_
  refine va_get (D := D) (ci := 7) (v := .int mo_f) (C := RX8) (T := TX8) (N := 25) hx hb hts inlX8 hown hK hP 0 rfl rfl 2 (by decide) (hts _ wl_117) (fun _ h9 => h9) rfl dX8_power_6 ?_
  refine lv_ishr hx hb dX8_power_9 ?_
  refine lv_if_ne (tgt := 17) hx hb dX8_power_10 (by decide) (fun c_10 => ?_) (fun c_10 => ?_)
  · replace ho := ho.1 c_10
    refine lv_iload_n hx hb dX8_power_17 rfl (lv_at hl 1 rfl) ?_
    refine lv_aload_n hx hb dX8_power_18 rfl (lv_at hl 0 rfl) ?_
    refine va_get (D := D) (ci := 7) (v := .int mo_f) (C := RX8) (T := TX8) (N := 25) hx hb hts inlX8 hown hK hP 0 rfl rfl 2 (by decide) (hts _ wl_117) (fun _ h9 => h9) rfl dX8_power_19 ?_
    refine lv_ishr hx hb dX8_power_22 ?_
    refine lv_iconst (v := 1) hx hb dX8_power_23 (by decide) ?_
    refine lv_isub hx hb dX8_power_24 ?_
    refine lv_iadd hx hb dX8_power_25 ?_
    subst hQ; exact W.iret (v := (mo_low + ((p1 >>> (mo_f &&& 31)) - (1 : Int32)))) hx hb hr (fun t ht _ => ⟨(mo_low + ((p1 >>> (mo_f &&& 31)) - (1 : Int32))), rfl, ho, ht⟩) (fun _ h => by cases h) dX8_power_26
  · replace ho := ho.2 c_10
    refine lv_iconst (v := 0) hx hb dX8_power_13 (by decide) ?_
    refine lv_goto (tgt := 25) hx hb dX8_power_14 (by decide) ?_
    refine lv_iadd hx hb dX8_power_25 ?_
    subst hQ; exact W.iret (v := (mo_low + (0 : Int32))) hx hb hr (fun t ht _ => ⟨(mo_low + (0 : Int32)), rfl, ho, ht⟩) (fun _ h => by cases h) dX8_power_26

def w_X8_kind : List Cond := .code yX8_kind cX8_kind 3 (some .int) :: wsL_law
set_option maxHeartbeats 4000000 in
set_option maxRecDepth 100000 in
theorem c_X8_kind (l : Launch) (D : va_G) (cI cJ cZ : ClassId) (a_mo : Nat) (a_moR : Nat) (a_moK : Nat) (a_moH : Nat) (a_moS : Nat) (a_moF : Nat) (a_moT : Nat) (a_moP : Nat) (a_moQ : Nat) (a_moA : Nat) (a_moB : Nat) (a_moD : Nat) (mo_e : Int32) (mo_f : Int32) (mo_codes : Int32) (mo_most : Int32) (mo_minus : Int32) (mo_low : Int32) (mo_function : Int32) (mo_atX : Int32) (mo_atM : Int64) (mo_spanFunction : Int32) (mo_spanRounding : Int32) (mo_spanMany : Int32) (mo_parts : Int32) (mo_shift : Int32) (p1 : Int32) (post : Int32 → Prop) (ho : wp_X8_kind post mo_most mo_minus p1) : Met l yX8_kind w_X8_kind ({ frames := 1, cells := 0, slots := 0, locals := 21 } : Room) (ro_P D [(cI, .int), (cJ, .long), (cZ, .boolean)] [.ref a_mo, .int p1] [(a_mo, oX8 a_moR mo_e mo_f mo_codes mo_most mo_minus mo_low mo_function mo_atX mo_atM a_moK a_moH a_moS mo_spanFunction mo_spanRounding mo_spanMany a_moF a_moT mo_parts mo_shift a_moP a_moQ a_moA a_moB a_moD)]) (vp_Si post) 0 0 (fun _ => False) := by
  refine Met.ofW (cc := cX8_kind) (maxL := 3) (ret := (some .int)) (by decide) rfl ?_
  intro p e s m args below meth c s₁ B hml hv
  obtain ⟨hargs, hP, hK, hN⟩ := hv
  have hx := B.exec
  have hb := B.bytes
  have hr := B.returns
  have hts : ∀ w ∈ wsL_law, w.before args s = true := fun w h => atoms_spec (ws := w_X8_kind) B.pre w (List.mem_cons_of_mem _ h)
  have hown : s.vm.findClass RX8 = some m.cls := findClass_of_methodNamed B.named
  have hlocks := B.notSynchronized
  have hl := lv_entry ([.ref a_mo, .int p1]) (n := 3) (Nat.le_of_ble_eq_true rfl)
  rw [hargs, lg_entry_eq, ← hargs]
  generalize (lg_sl ([.ref a_mo, .int p1]) ++ List.replicate (3 - (lg_sl ([.ref a_mo, .int p1])).length) Slot.unset).toArray = ls at hl ⊢
  replace hl : lv_has ls 3 [(0, .ref a_mo), (1, .int p1)] := hl
  have hRf : ∀ n, n ≤ 1 → n ≤ (headSpec w_X8_kind ({ frames := 1, cells := 0, slots := 0, locals := 21 } : Room)).room.frames := fun n h => h
  have hRl : ∀ n, n ≤ 21 → n ≤ (headSpec w_X8_kind ({ frames := 1, cells := 0, slots := 0, locals := 21 } : Room)).room.locals := fun n h => h
  generalize (headSpec w_X8_kind ({ frames := 1, cells := 0, slots := 0, locals := 21 } : Room)).room = R at hRf hRl ⊢
  generalize hQ : MQ below _ args s 0 0 _ = Q
  unfold wp_X8_kind at ho
  refine lv_aload_n hx hb dX8_kind_0 rfl (lv_at hl 0 rfl) ?_
  refine lv_iload_n hx hb dX8_kind_1 rfl (lv_at hl 1 rfl) ?_
  refine ca_Vi (b := a_mo) (As := [.int p1]) (rest := []) ⟨hx, hb, hml, hown, hts⟩ (c_X8_size l D cI cJ cZ a_mo a_moR a_moK a_moH a_moS a_moF a_moT a_moP a_moQ a_moA a_moB a_moD mo_e mo_f mo_codes mo_most mo_minus mo_low mo_function mo_atX mo_atM mo_spanFunction mo_spanRounding mo_spanMany mo_parts mo_shift p1 _ ho) (cwV 1 hts (gdV wl_262 wl_263 wl_264 wl_5 wl_265) rfl rfl rfl (by decide +kernel) ⟨hRf _ (Nat.le_of_ble_eq_true rfl), hRl _ (Nat.le_of_ble_eq_true rfl)⟩) hK hN hP [0] rfl 0 7 rfl rfl rfl rfl hl.1 rfl (Nat.le_of_ble_eq_true rfl) dX8_kind_2 ⟨Nat.zero_le _, Nat.zero_le _⟩ (fun r2 ho => ?_)
  refine lv_istore_n (lv' := [(2, .int r2), (0, .ref a_mo), (1, .int p1)]) hx hb dX8_kind_5 rfl hl (by decide) rfl (fun ls hl => ?_)
  refine lv_iload_n hx hb dX8_kind_6 rfl (lv_at hl 0 rfl) ?_
  refine lv_if_ne (tgt := 14) hx hb dX8_kind_7 (by decide) (fun c_7 => ?_) (fun c_7 => ?_)
  · replace ho := ho.1 c_7
    refine lv_iload_n hx hb dX8_kind_14 rfl (lv_at hl 0 rfl) ?_
    refine lv_aload_n hx hb dX8_kind_15 rfl (lv_at hl 1 rfl) ?_
    refine va_get (D := D) (ci := 7) (v := .int mo_most) (C := RX8) (T := TX8) (N := 25) hx hb hts inlX8 hown hK hP 0 rfl rfl 4 (by decide) (hts _ wl_120) (fun _ h9 => h9) rfl dX8_kind_16 ?_
    refine lv_icmp_gt (tgt := 26) hx hb dX8_kind_19 (by decide) (fun c_19 => ?_) (fun c_19 => ?_)
    · replace ho := ho.1 c_19
      refine lv_iload_n hx hb dX8_kind_26 rfl (lv_at hl 0 rfl) ?_
      refine lv_aload_n hx hb dX8_kind_27 rfl (lv_at hl 1 rfl) ?_
      refine va_get (D := D) (ci := 7) (v := .int mo_most) (C := RX8) (T := TX8) (N := 25) hx hb hts inlX8 hown hK hP 0 rfl rfl 4 (by decide) (hts _ wl_120) (fun _ h9 => h9) rfl dX8_kind_28 ?_
      refine lv_iconst (v := 1) hx hb dX8_kind_31 (by decide) ?_
      refine lv_iadd hx hb dX8_kind_32 ?_
      refine lv_icmp_ne (tgt := 40) hx hb dX8_kind_33 (by decide) (fun c_33 => ?_) (fun c_33 => ?_)
      · replace ho := ho.1 c_33
        refine lv_iconst (v := 3) hx hb dX8_kind_40 (by decide) ?_
        subst hQ; exact W.iret (v := (3 : Int32)) hx hb hr (fun t ht _ => ⟨(3 : Int32), rfl, ho, ht⟩) (fun _ h => by cases h) dX8_kind_41
      · replace ho := ho.2 c_33
        refine lv_iconst (v := 2) hx hb dX8_kind_36 (by decide) ?_
        refine lv_goto (tgt := 41) hx hb dX8_kind_37 (by decide) ?_
        subst hQ; exact W.iret (v := (2 : Int32)) hx hb hr (fun t ht _ => ⟨(2 : Int32), rfl, ho, ht⟩) (fun _ h => by cases h) dX8_kind_41
    · replace ho := ho.2 c_19
      refine lv_iconst (v := 0) hx hb dX8_kind_22 (by decide) ?_
      refine lv_goto (tgt := 41) hx hb dX8_kind_23 (by decide) ?_
      subst hQ; exact W.iret (v := (0 : Int32)) hx hb hr (fun t ht _ => ⟨(0 : Int32), rfl, ho, ht⟩) (fun _ h => by cases h) dX8_kind_41
  · replace ho := ho.2 c_7
    refine lv_iconst (v := 1) hx hb dX8_kind_10 (by decide) ?_
    refine lv_goto (tgt := 41) hx hb dX8_kind_11 (by decide) ?_
    subst hQ; exact W.iret (v := (1 : Int32)) hx hb hr (fun t ht _ => ⟨(1 : Int32), rfl, ho, ht⟩) (fun _ h => by cases h) dX8_kind_41

def w_X8_about : List Cond := .code yX8_about cX8_about 6 (some .int) :: wsL_law
set_option maxHeartbeats 4000000 in
set_option maxRecDepth 100000 in
theorem c_X8_about (l : Launch) (D : va_G) (cI cJ cZ : ClassId) (a_mo : Nat) (a_moR : Nat) (a_moK : Nat) (a_moH : Nat) (a_moS : Nat) (a_moF : Nat) (a_moT : Nat) (a_moP : Nat) (a_moQ : Nat) (a_moA : Nat) (a_moB : Nat) (a_moD : Nat) (sz : Nat) (mo_e : Int32) (mo_f : Int32) (mo_codes : Int32) (mo_most : Int32) (mo_minus : Int32) (mo_low : Int32) (mo_function : Int32) (mo_atX : Int32) (mo_atM : Int64) (mo_spanFunction : Int32) (mo_spanRounding : Int32) (mo_spanMany : Int32) (mo_parts : Int32) (mo_shift : Int32) (moR_r : Nat → Int32) (p1 : Int32) (p2 : Int32) (post : Int32 → (Nat → Int32) → Prop) (A : Nat → Prop) (hAe : A = va_A [(a_mo, oX8 a_moR mo_e mo_f mo_codes mo_most mo_minus mo_low mo_function mo_atX mo_atM a_moK a_moH a_moS mo_spanFunction mo_spanRounding mo_spanMany a_moF a_moT mo_parts mo_shift a_moP a_moQ a_moA a_moB a_moD), (a_moR, .inl (cI, 7, .inl moR_r))] sz) (ho : wp_X8_about post mo_f mo_codes mo_most mo_minus mo_low moR_r p1 p2) : Met l yX8_about w_X8_about ({ frames := 2, cells := 0, slots := 0, locals := 43 } : Room) (rw_P D [(cI, .int), (cJ, .long), (cZ, .boolean)] [.ref a_mo, .int p1, .int p2] sz [(a_mo, oX8 a_moR mo_e mo_f mo_codes mo_most mo_minus mo_low mo_function mo_atX mo_atM a_moK a_moH a_moS mo_spanFunction mo_spanRounding mo_spanMany a_moF a_moT mo_parts mo_shift a_moP a_moQ a_moA a_moB a_moD), (a_moR, .inl (cI, 7, .inl moR_r))]) (va_Qi (fun (r : Int32) (u : (Nat → Int32)) => post r u) (rw_B D A (fun (u : (Nat → Int32)) => [(a_mo, oX8 a_moR mo_e mo_f mo_codes mo_most mo_minus mo_low mo_function mo_atX mo_atM a_moK a_moH a_moS mo_spanFunction mo_spanRounding mo_spanMany a_moF a_moT mo_parts mo_shift a_moP a_moQ a_moA a_moB a_moD), (a_moR, .inl (cI, 7, .inl u))])) A) 0 0 A := by
  refine Met.ofW (cc := cX8_about) (maxL := 6) (ret := (some .int)) (by decide) rfl ?_
  intro p e s m args below meth c s₁ B hml hv
  obtain ⟨hargs, hsz, hP, hK, hN, hD0⟩ := hv
  have hx := B.exec
  have hb := B.bytes
  have hr := B.returns
  have hts : ∀ w ∈ wsL_law, w.before args s = true := fun w h => atoms_spec (ws := w_X8_about) B.pre w (List.mem_cons_of_mem _ h)
  have hown : s.vm.findClass RX8 = some m.cls := findClass_of_methodNamed B.named
  have hlocks := B.notSynchronized
  subst hsz
  have hD : va_D A [(a_mo, oX8 a_moR mo_e mo_f mo_codes mo_most mo_minus mo_low mo_function mo_atX mo_atM a_moK a_moH a_moS mo_spanFunction mo_spanRounding mo_spanMany a_moF a_moT mo_parts mo_shift a_moP a_moQ a_moA a_moB a_moD), (a_moR, .inl (cI, 7, .inl moR_r))] := by rw [hAe]; exact hD0.self
  have hA : ∀ q : Nat, s.heap.size ≤ q → A q := fun q h => by rw [hAe]; exact Or.inr h
  have hS : va_S A s.heap s.heap [] := va_S.rf
  have hl := lv_entry ([.ref a_mo, .int p1, .int p2]) (n := 6) (Nat.le_of_ble_eq_true rfl)
  rw [hargs, lg_entry_eq, ← hargs]
  generalize (lg_sl ([.ref a_mo, .int p1, .int p2]) ++ List.replicate (6 - (lg_sl ([.ref a_mo, .int p1, .int p2])).length) Slot.unset).toArray = ls at hl ⊢
  replace hl : lv_has ls 6 [(0, .ref a_mo), (1, .int p1), (2, .int p2)] := hl
  have hRf : ∀ n, n ≤ 2 → n ≤ (headSpec w_X8_about ({ frames := 2, cells := 0, slots := 0, locals := 43 } : Room)).room.frames := fun n h => h
  have hRl : ∀ n, n ≤ 43 → n ≤ (headSpec w_X8_about ({ frames := 2, cells := 0, slots := 0, locals := 43 } : Room)).room.locals := fun n h => h
  generalize (headSpec w_X8_about ({ frames := 2, cells := 0, slots := 0, locals := 43 } : Room)).room = R at hRf hRl ⊢
  generalize hQ : MQ below _ args s 0 0 _ = Q
  have C_152 : ∀ (moR_r : Nat → Int32) (x4 : Int32) (x5 : Int32) (H : Heap) (locs : List Loc) (ls : Array Slot), wp_X8_about_152 post  moR_r p2 x4 x5 → va_P D vwCl [(a_mo, oX8 a_moR mo_e mo_f mo_codes mo_most mo_minus mo_low mo_function mo_atX mo_atM a_moK a_moH a_moS mo_spanFunction mo_spanRounding mo_spanMany a_moF a_moT mo_parts mo_shift a_moP a_moQ a_moA a_moB a_moD), (a_moR, .inl (cI, 7, .inl moR_r))] H → va_D A [(a_mo, oX8 a_moR mo_e mo_f mo_codes mo_most mo_minus mo_low mo_function mo_atX mo_atM a_moK a_moH a_moS mo_spanFunction mo_spanRounding mo_spanMany a_moF a_moT mo_parts mo_shift a_moP a_moQ a_moA a_moB a_moD), (a_moR, .inl (cI, 7, .inl moR_r))] → va_S A s.heap H locs → lv_has ls 6 [(2, .int p2), (4, .int x4), (5, .int x5)] → W p l e R s m args below meth c H locs 0 0 Q (F0 m 152 ls []) := by
    intro moR_r x4 x5 H locs ls ho hP hD hS hl
    unfold wp_X8_about_152 at ho
    refine lv_iload_n hx hb dX8_about_152 rfl (lv_at hl 0 rfl) ?_
    refine lv_iconst (v := 4) hx hb dX8_about_153 (by decide) ?_
    refine lv_icmp_ne (tgt := 162) hx hb dX8_about_154 (by decide) (fun c_154 => ?_) (fun c_154 => ?_)
    · replace ho := ho.1 c_154
      refine lv_iload hx hb dX8_about_162 (lv_at hl 1 rfl) ?_
      refine lv_if_ne (tgt := 171) hx hb dX8_about_164 (by decide) (fun c_164 => ?_) (fun c_164 => ?_)
      · replace ho := ho.1 c_164
        refine lv_iload hx hb dX8_about_171 (lv_at hl 2 rfl) ?_
        subst hQ; exact W.iret (v := x5) hx hb hr (fun t ht hW => ⟨⟨x5, moR_r, rfl, ho, by rw [ht]; exact hP, hD⟩, hS.F ht⟩) (fun q hq => hS.2.2 q hq) dX8_about_173
      · replace ho := ho.2 c_164
        refine lv_iconst (v := 0) hx hb dX8_about_167 (by decide) ?_
        refine lv_goto (tgt := 173) hx hb dX8_about_168 (by decide) ?_
        subst hQ; exact W.iret (v := (0 : Int32)) hx hb hr (fun t ht hW => ⟨⟨(0 : Int32), moR_r, rfl, ho, by rw [ht]; exact hP, hD⟩, hS.F ht⟩) (fun q hq => hS.2.2 q hq) dX8_about_173
    · replace ho := ho.2 c_154
      refine lv_iload hx hb dX8_about_157 (lv_at hl 1 rfl) ?_
      refine lv_goto (tgt := 173) hx hb dX8_about_159 (by decide) ?_
      subst hQ; exact W.iret (v := x4) hx hb hr (fun t ht hW => ⟨⟨x4, moR_r, rfl, ho, by rw [ht]; exact hP, hD⟩, hS.F ht⟩) (fun q hq => hS.2.2 q hq) dX8_about_173
  have C_128 : ∀ n : Nat, ∀ (moR_r : Nat → Int32) (x4 : Int32) (x5 : Int32) (H : Heap) (locs : List Loc) (ls : Array Slot), wp_X8_about_128 post  p2 n moR_r x4 x5 → va_P D vwCl [(a_mo, oX8 a_moR mo_e mo_f mo_codes mo_most mo_minus mo_low mo_function mo_atX mo_atM a_moK a_moH a_moS mo_spanFunction mo_spanRounding mo_spanMany a_moF a_moT mo_parts mo_shift a_moP a_moQ a_moA a_moB a_moD), (a_moR, .inl (cI, 7, .inl moR_r))] H → va_D A [(a_mo, oX8 a_moR mo_e mo_f mo_codes mo_most mo_minus mo_low mo_function mo_atX mo_atM a_moK a_moH a_moS mo_spanFunction mo_spanRounding mo_spanMany a_moF a_moT mo_parts mo_shift a_moP a_moQ a_moA a_moB a_moD), (a_moR, .inl (cI, 7, .inl moR_r))] → va_S A s.heap H locs → lv_has ls 6 [(2, .int p2), (4, .int x4), (5, .int x5)] → W p l e R s m args below meth c H locs 0 0 Q (F0 m 128 ls []) := by
    intro n
    induction n with
    | zero => intro moR_r x4 x5 H locs ls ho hP hD hS hl; exact ho.elim
    | succ n_128 ih_128 =>
      intro moR_r x4 x5 H locs ls ho hP hD hS hl
      replace ho : wp_X8_about_128_b post p2 (wp_X8_about_128 post p2 n_128) moR_r x4 x5 := ho
      unfold wp_X8_about_128_b at ho
      refine lv_iload hx hb dX8_about_128 (lv_at hl 1 rfl) ?_
      refine lv_if_le (tgt := 152) hx hb dX8_about_130 (by decide) (fun c_130 => ?_) (fun c_130 => ?_)
      · replace ho := ho.1 c_130
        exact C_152 moR_r x4 x5 H locs ls ho hP hD hS (lv_sub hl [0, 1, 2] rfl)
      · replace ho := ho.2 c_130
        refine lv_iload hx hb dX8_about_133 (lv_at hl 1 rfl) ?_
        refine lv_iconst (v := 2) hx hb dX8_about_135 (by decide) ?_
        refine lv_irem hx hb dX8_about_136 (by decide) ?_
        refine lv_if_ne (tgt := 152) hx hb dX8_about_137 (by decide) (fun c_137 => ?_) (fun c_137 => ?_)
        · replace ho := ho.1 c_137
          exact C_152 moR_r x4 x5 H locs ls ho hP hD hS (lv_sub hl [0, 1, 2] rfl)
        · replace ho := ho.2 c_137
          refine lv_iload hx hb dX8_about_140 (lv_at hl 1 rfl) ?_
          refine lv_iconst (v := 2) hx hb dX8_about_142 (by decide) ?_
          refine lv_idiv hx hb dX8_about_143 (by decide) ?_
          refine lv_istore (lv' := [(4, .int (x4 / (2 : Int32))), (2, .int p2), (5, .int x5)]) hx hb dX8_about_144 hl (by decide) rfl (fun ls hl => ?_)
          refine lv_iinc (v := (x5 + (1 : Int32))) (lv' := [(5, .int (x5 + (1 : Int32))), (4, .int (x4 / (2 : Int32))), (2, .int p2)]) hx hb dX8_about_146 hl (k := 2) rfl rfl (by decide) rfl (fun ls hl => ?_)
          refine lv_goto (tgt := 128) hx hb dX8_about_149 (by decide) ?_
          exact ih_128 moR_r (x4 / (2 : Int32)) (x5 + (1 : Int32)) H locs ls ho hP hD hS (lv_sub hl [2, 1, 0] rfl)
  suffices main : ∀ (H : Heap) (locs : List Loc), va_P D vwCl [(a_mo, oX8 a_moR mo_e mo_f mo_codes mo_most mo_minus mo_low mo_function mo_atX mo_atM a_moK a_moH a_moS mo_spanFunction mo_spanRounding mo_spanMany a_moF a_moT mo_parts mo_shift a_moP a_moQ a_moA a_moB a_moD), (a_moR, .inl (cI, 7, .inl moR_r))] H → va_S A s.heap H locs → W p l e R s m args below meth c H locs 0 0 Q (F0 m 0 ls []) from main _ _ hP hS
  intro H locs hP hS
  unfold wp_X8_about at ho
  refine lv_aload_n hx hb dX8_about_0 rfl (lv_at hl 0 rfl) ?_
  refine lv_iload_n hx hb dX8_about_1 rfl (lv_at hl 1 rfl) ?_
  refine ca_Vi (b := a_mo) (As := [.int p1]) (rest := []) ⟨hx, hb, hml, hown, hts⟩ (c_X8_isCode l D cI cJ cZ a_mo a_moR a_moK a_moH a_moS a_moF a_moT a_moP a_moQ a_moA a_moB a_moD mo_e mo_f mo_codes mo_most mo_minus mo_low mo_function mo_atX mo_atM mo_spanFunction mo_spanRounding mo_spanMany mo_parts mo_shift p1 _ ho) (cwV 1 hts (gdV wl_250 wl_251 wl_252 wl_5 wl_253) rfl rfl rfl (by decide +kernel) ⟨hRf _ (Nat.le_of_ble_eq_true rfl), hRl _ (Nat.le_of_ble_eq_true rfl)⟩) hK hN hP [0] rfl 0 7 rfl rfl rfl rfl hl.1 rfl (Nat.le_of_ble_eq_true rfl) dX8_about_2 ⟨Nat.zero_le _, Nat.zero_le _⟩ (fun r2 ho => ?_)
  refine lv_if_ne (tgt := 14) hx hb dX8_about_5 (by decide) (fun c_5 => ?_) (fun c_5 => ?_)
  · replace ho := ho.1 c_5
    refine lv_iload_n hx hb dX8_about_14 rfl (lv_at hl 2 rfl) ?_
    refine lv_bipush (v := 6) hx hb dX8_about_15 (by decide) ?_
    refine ca_Si (As := [.int p2, .int (6 : Int32)]) (rest := []) ⟨hx, hb, hml, hown, hts⟩ (c_X8_isIn l D cI cJ cZ   p2 (6 : Int32) _ ho) (va_cwS 2 hts (gdS wl_254 wl_255 wl_5 wl_256) rfl rfl rfl (by decide +kernel) ⟨hRf _ (Nat.le_of_ble_eq_true rfl), hRl _ (Nat.le_of_ble_eq_true rfl)⟩) hK hN hP [] rfl rfl hl.1 rfl (Nat.le_of_ble_eq_true rfl) dX8_about_17 ⟨Nat.zero_le _, Nat.zero_le _⟩ (fun r17 ho => ?_)
    refine lv_if_ne (tgt := 30) hx hb dX8_about_20 (by decide) (fun c_20 => ?_) (fun c_20 => ?_)
    · replace ho := ho.1 c_20
      refine lv_aload_n hx hb dX8_about_30 rfl (lv_at hl 0 rfl) ?_
      refine lv_iload_n hx hb dX8_about_31 rfl (lv_at hl 1 rfl) ?_
      refine ca_Vi (b := a_mo) (As := [.int p1]) (rest := []) ⟨hx, hb, hml, hown, hts⟩ (c_X8_size l D cI cJ cZ a_mo a_moR a_moK a_moH a_moS a_moF a_moT a_moP a_moQ a_moA a_moB a_moD mo_e mo_f mo_codes mo_most mo_minus mo_low mo_function mo_atX mo_atM mo_spanFunction mo_spanRounding mo_spanMany mo_parts mo_shift p1 _ ho) (cwV 1 hts (gdV wl_262 wl_263 wl_264 wl_5 wl_265) rfl rfl rfl (by decide +kernel) ⟨hRf _ (Nat.le_of_ble_eq_true rfl), hRl _ (Nat.le_of_ble_eq_true rfl)⟩) hK hN hP [0] rfl 0 7 rfl rfl rfl rfl hl.1 rfl (Nat.le_of_ble_eq_true rfl) dX8_about_32 ⟨Nat.zero_le _, Nat.zero_le _⟩ (fun r32 ho => ?_)
      refine lv_istore_n (lv' := [(3, .int r32), (0, .ref a_mo), (1, .int p1), (2, .int p2)]) hx hb dX8_about_35 rfl hl (by decide) rfl (fun ls hl => ?_)
      refine lv_iload_n hx hb dX8_about_36 rfl (lv_at hl 3 rfl) ?_
      refine lv_topi (fun z_37 ez_37 => ?_)
      by_cases n_37_0 : z_37 = 0
      · replace ho := ho.1 (ez_37.symm.trans n_37_0)
        subst n_37_0
        refine lv_tableIn (tgt := 68) hx hb dX8_about_37 (by decide) (by decide) rfl (by decide) ?_
        refine lv_aload_n hx hb dX8_about_68 rfl (lv_at hl 1 rfl) ?_
        refine lv_iload_n hx hb dX8_about_69 rfl (lv_at hl 2 rfl) ?_
        refine ca_Vi (b := a_mo) (As := [.int p1]) (rest := []) ⟨hx, hb, hml, hown, hts⟩ (c_X8_kind l D cI cJ cZ a_mo a_moR a_moK a_moH a_moS a_moF a_moT a_moP a_moQ a_moA a_moB a_moD mo_e mo_f mo_codes mo_most mo_minus mo_low mo_function mo_atX mo_atM mo_spanFunction mo_spanRounding mo_spanMany mo_parts mo_shift p1 _ ho) (cwV 1 hts (gdV wl_266 wl_267 wl_268 wl_5 wl_269) rfl rfl rfl (by decide +kernel) ⟨hRf _ (Nat.le_of_ble_eq_true rfl), hRl _ (Nat.le_of_ble_eq_true rfl)⟩) hK hN hP [0] rfl 0 7 rfl rfl rfl rfl hl.1 rfl (Nat.le_of_ble_eq_true rfl) dX8_about_70 ⟨Nat.zero_le _, Nat.zero_le _⟩ (fun r70 ho => ?_)
        subst hQ; exact W.iret (v := r70) hx hb hr (fun t ht hW => ⟨⟨r70, moR_r, rfl, ho, by rw [ht]; exact hP, hD⟩, hS.F ht⟩) (fun q hq => hS.2.2 q hq) dX8_about_73
      replace ho := ho.2 (fun h => n_37_0 (ez_37.trans h))
      by_cases n_37_1 : z_37 = 1
      · replace ho := ho.1 (ez_37.symm.trans n_37_1)
        subst n_37_1
        refine lv_tableIn (tgt := 74) hx hb dX8_about_37 (by decide) (by decide) rfl (by decide) ?_
        refine lv_iload_n hx hb dX8_about_74 rfl (lv_at hl 2 rfl) ?_
        refine lv_aload_n hx hb dX8_about_75 rfl (lv_at hl 1 rfl) ?_
        refine va_get (D := D) (ci := 7) (v := .int mo_minus) (C := RX8) (T := TX8) (N := 25) hx hb hts inlX8 hown hK hP 0 rfl rfl 5 (by decide) (hts _ wl_119) (fun _ h9 => h9) rfl dX8_about_76 ?_
        have o_79 := ho.1
        replace ho := ho.2
        refine lv_idiv hx hb dX8_about_79 o_79 ?_
        subst hQ; exact W.iret (v := (p1 / mo_minus)) hx hb hr (fun t ht hW => ⟨⟨(p1 / mo_minus), moR_r, rfl, ho, by rw [ht]; exact hP, hD⟩, hS.F ht⟩) (fun q hq => hS.2.2 q hq) dX8_about_80
      replace ho := ho.2 (fun h => n_37_1 (ez_37.trans h))
      by_cases n_37_2 : z_37 = 2
      · replace ho := ho.1 (ez_37.symm.trans n_37_2)
        subst n_37_2
        refine lv_tableIn (tgt := 81) hx hb dX8_about_37 (by decide) (by decide) rfl (by decide) ?_
        refine lv_iload_n hx hb dX8_about_81 rfl (lv_at hl 0 rfl) ?_
        refine lv_aload_n hx hb dX8_about_82 rfl (lv_at hl 1 rfl) ?_
        refine va_get (D := D) (ci := 7) (v := .int mo_f) (C := RX8) (T := TX8) (N := 25) hx hb hts inlX8 hown hK hP 0 rfl rfl 2 (by decide) (hts _ wl_117) (fun _ h9 => h9) rfl dX8_about_83 ?_
        refine lv_ishr hx hb dX8_about_86 ?_
        subst hQ; exact W.iret (v := (r32 >>> (mo_f &&& 31))) hx hb hr (fun t ht hW => ⟨⟨(r32 >>> (mo_f &&& 31)), moR_r, rfl, ho, by rw [ht]; exact hP, hD⟩, hS.F ht⟩) (fun q hq => hS.2.2 q hq) dX8_about_87
      replace ho := ho.2 (fun h => n_37_2 (ez_37.trans h))
      by_cases n_37_3 : z_37 = 3
      · replace ho := ho.1 (ez_37.symm.trans n_37_3)
        subst n_37_3
        refine lv_tableIn (tgt := 88) hx hb dX8_about_37 (by decide) (by decide) rfl (by decide) ?_
        refine lv_iload_n hx hb dX8_about_88 rfl (lv_at hl 0 rfl) ?_
        refine lv_iconst (v := 1) hx hb dX8_about_89 (by decide) ?_
        refine lv_aload_n hx hb dX8_about_90 rfl (lv_at hl 1 rfl) ?_
        refine va_get (D := D) (ci := 7) (v := .int mo_f) (C := RX8) (T := TX8) (N := 25) hx hb hts inlX8 hown hK hP 0 rfl rfl 2 (by decide) (hts _ wl_117) (fun _ h9 => h9) rfl dX8_about_91 ?_
        refine lv_ishl hx hb dX8_about_94 ?_
        refine lv_iconst (v := 1) hx hb dX8_about_95 (by decide) ?_
        refine lv_isub hx hb dX8_about_96 ?_
        refine lv_iand hx hb dX8_about_97 ?_
        subst hQ; exact W.iret (v := (r32 &&& (((1 : Int32) <<< (mo_f &&& 31)) - (1 : Int32)))) hx hb hr (fun t ht hW => ⟨⟨(r32 &&& (((1 : Int32) <<< (mo_f &&& 31)) - (1 : Int32))), moR_r, rfl, ho, by rw [ht]; exact hP, hD⟩, hS.F ht⟩) (fun q hq => hS.2.2 q hq) dX8_about_98
      replace ho := ho.2 (fun h => n_37_3 (ez_37.trans h))
      refine lv_tableOut (tgt := 99) hx hb dX8_about_37 (by have q_37_0 := lv_neT (a := 0) n_37_0 rfl; have q_37_1 := lv_neT (a := 1) n_37_1 rfl; have q_37_2 := lv_neT (a := 2) n_37_2 rfl; have q_37_3 := lv_neT (a := 3) n_37_3 rfl; omega) (by decide) ?_
      refine lv_aload_n hx hb dX8_about_99 rfl (lv_at hl 1 rfl) ?_
      refine lv_iload_n hx hb dX8_about_100 rfl (lv_at hl 2 rfl) ?_
      refine ca_Vi (b := a_mo) (As := [.int p1]) (rest := []) ⟨hx, hb, hml, hown, hts⟩ (c_X8_isPlain l D cI cJ cZ a_mo a_moR a_moK a_moH a_moS a_moF a_moT a_moP a_moQ a_moA a_moB a_moD mo_e mo_f mo_codes mo_most mo_minus mo_low mo_function mo_atX mo_atM mo_spanFunction mo_spanRounding mo_spanMany mo_parts mo_shift p1 _ ho) (cwV 1 hts (gdV wl_270 wl_271 wl_272 wl_5 wl_273) rfl rfl rfl (by decide +kernel) ⟨hRf _ (Nat.le_of_ble_eq_true rfl), hRl _ (Nat.le_of_ble_eq_true rfl)⟩) hK hN hP [0] rfl 0 7 rfl rfl rfl rfl hl.1 rfl (Nat.le_of_ble_eq_true rfl) dX8_about_101 ⟨Nat.zero_le _, Nat.zero_le _⟩ (fun r101 ho => ?_)
      refine lv_if_ne (tgt := 114) hx hb dX8_about_104 (by decide) (fun c_104 => ?_) (fun c_104 => ?_)
      · replace ho := ho.1 c_104
        refine lv_aload_n hx hb dX8_about_114 rfl (lv_at hl 1 rfl) ?_
        refine lv_iload_n hx hb dX8_about_115 rfl (lv_at hl 0 rfl) ?_
        refine ca_Vi (b := a_mo) (As := [.int r32]) (rest := []) ⟨hx, hb, hml, hown, hts⟩ (c_X8_figure l D cI cJ cZ a_mo a_moR a_moK a_moH a_moS a_moF a_moT a_moP a_moQ a_moA a_moB a_moD mo_e mo_f mo_codes mo_most mo_minus mo_low mo_function mo_atX mo_atM mo_spanFunction mo_spanRounding mo_spanMany mo_parts mo_shift r32 _ ho) (cwV 1 hts (gdV wl_274 wl_275 wl_276 wl_5 wl_277) rfl rfl rfl (by decide +kernel) ⟨hRf _ (Nat.le_of_ble_eq_true rfl), hRl _ (Nat.le_of_ble_eq_true rfl)⟩) hK hN hP [0] rfl 0 7 rfl rfl rfl rfl hl.1 rfl (Nat.le_of_ble_eq_true rfl) dX8_about_116 ⟨Nat.zero_le _, Nat.zero_le _⟩ (fun r116 ho => ?_)
        refine lv_istore (lv' := [(4, .int r116), (3, .int r32), (0, .ref a_mo), (1, .int p1), (2, .int p2)]) hx hb dX8_about_119 hl (by decide) rfl (fun ls hl => ?_)
        refine lv_aload_n hx hb dX8_about_121 rfl (lv_at hl 2 rfl) ?_
        refine lv_iload_n hx hb dX8_about_122 rfl (lv_at hl 1 rfl) ?_
        refine ca_Vi (b := a_mo) (As := [.int r32]) (rest := []) ⟨hx, hb, hml, hown, hts⟩ (c_X8_power l D cI cJ cZ a_mo a_moR a_moK a_moH a_moS a_moF a_moT a_moP a_moQ a_moA a_moB a_moD mo_e mo_f mo_codes mo_most mo_minus mo_low mo_function mo_atX mo_atM mo_spanFunction mo_spanRounding mo_spanMany mo_parts mo_shift r32 _ ho) (cwV 1 hts (gdV wl_278 wl_279 wl_280 wl_5 wl_281) rfl rfl rfl (by decide +kernel) ⟨hRf _ (Nat.le_of_ble_eq_true rfl), hRl _ (Nat.le_of_ble_eq_true rfl)⟩) hK hN hP [0] rfl 0 7 rfl rfl rfl rfl hl.1 rfl (Nat.le_of_ble_eq_true rfl) dX8_about_123 ⟨Nat.zero_le _, Nat.zero_le _⟩ (fun r123 ho => ?_)
        refine lv_istore (lv' := [(5, .int r123), (4, .int r116), (3, .int r32), (0, .ref a_mo), (1, .int p1), (2, .int p2)]) hx hb dX8_about_126 hl (by decide) rfl (fun ls hl => ?_)
        obtain ⟨n_128, ho⟩ := ho
        exact C_128 n_128 moR_r r116 r123 H locs ls ho hP hD hS (lv_sub hl [5, 1, 0] rfl)
      · replace ho := ho.2 c_104
        refine lv_aload_n hx hb dX8_about_107 rfl (lv_at hl 1 rfl) ?_
        refine lv_bipush (v := (-3)) hx hb dX8_about_108 (by decide) ?_
        refine ca_Wi (b := a_mo) (As := [.int (-3 : Int32)]) (rest := []) (wr := []) (wo := fun (u : (Nat → Int32)) => [(a_mo, oX8 a_moR mo_e mo_f mo_codes mo_most mo_minus mo_low mo_function mo_atX mo_atM a_moK a_moH a_moS mo_spanFunction mo_spanRounding mo_spanMany a_moF a_moT mo_parts mo_shift a_moP a_moQ a_moA a_moB a_moD), (a_moR, .inl (cI, 7, .inl u))]) (wn := fun (u : (Nat → Int32)) => [(a_mo, oX8 a_moR mo_e mo_f mo_codes mo_most mo_minus mo_low mo_function mo_atX mo_atM a_moK a_moH a_moS mo_spanFunction mo_spanRounding mo_spanMany a_moF a_moT mo_parts mo_shift a_moP a_moQ a_moA a_moB a_moD), (a_moR, .inl (cI, 7, .inl u))]) ⟨hx, hb, hml, hown, hts⟩ (c_X8_refuseFar l D cI cJ cZ a_mo a_moR a_moK a_moH a_moS a_moF a_moT a_moP a_moQ a_moA a_moB a_moD H.size mo_e mo_f mo_codes mo_most mo_minus mo_low mo_function mo_atX mo_atM mo_spanFunction mo_spanRounding mo_spanMany mo_parts mo_shift moR_r (-3 : Int32) _ _ rfl ho) (cwV 1 hts (gdV wl_257 wl_258 wl_259 wl_5 wl_260) rfl rfl rfl (by decide +kernel) ⟨hRf _ (Nat.le_of_ble_eq_true rfl), hRl _ (Nat.le_of_ble_eq_true rfl)⟩) hK hN hP hD hS hA [0, 1] [] [0, 1] rfl rfl (by decide) (by decide) (by decide) (by decide) (fun _ => rfl) 0 7 rfl rfl rfl rfl hl.1 rfl (Nat.le_of_ble_eq_true rfl) dX8_about_110 ⟨Nat.zero_le _, Nat.zero_le _⟩ (fun r110 u110 H locs ho hP hD hS => ?_)
        try dsimp only at ho
        replace hP : va_P D vwCl [(a_mo, oX8 a_moR mo_e mo_f mo_codes mo_most mo_minus mo_low mo_function mo_atX mo_atM a_moK a_moH a_moS mo_spanFunction mo_spanRounding mo_spanMany a_moF a_moT mo_parts mo_shift a_moP a_moQ a_moA a_moB a_moD), (a_moR, .inl (cI, 7, .inl u110))] H := hP
        replace hD : va_D A [(a_mo, oX8 a_moR mo_e mo_f mo_codes mo_most mo_minus mo_low mo_function mo_atX mo_atM a_moK a_moH a_moS mo_spanFunction mo_spanRounding mo_spanMany a_moF a_moT mo_parts mo_shift a_moP a_moQ a_moA a_moB a_moD), (a_moR, .inl (cI, 7, .inl u110))] := hD
        subst hQ; exact W.iret (v := r110) hx hb hr (fun t ht hW => ⟨⟨r110, u110, rfl, ho, by rw [ht]; exact hP, hD⟩, hS.F ht⟩) (fun q hq => hS.2.2 q hq) dX8_about_113
    · replace ho := ho.2 c_20
      refine lv_aload_n hx hb dX8_about_23 rfl (lv_at hl 0 rfl) ?_
      refine lv_bipush (v := (-2)) hx hb dX8_about_24 (by decide) ?_
      refine ca_Wi (b := a_mo) (As := [.int (-2 : Int32)]) (rest := []) (wr := []) (wo := fun (u : (Nat → Int32)) => [(a_mo, oX8 a_moR mo_e mo_f mo_codes mo_most mo_minus mo_low mo_function mo_atX mo_atM a_moK a_moH a_moS mo_spanFunction mo_spanRounding mo_spanMany a_moF a_moT mo_parts mo_shift a_moP a_moQ a_moA a_moB a_moD), (a_moR, .inl (cI, 7, .inl u))]) (wn := fun (u : (Nat → Int32)) => [(a_mo, oX8 a_moR mo_e mo_f mo_codes mo_most mo_minus mo_low mo_function mo_atX mo_atM a_moK a_moH a_moS mo_spanFunction mo_spanRounding mo_spanMany a_moF a_moT mo_parts mo_shift a_moP a_moQ a_moA a_moB a_moD), (a_moR, .inl (cI, 7, .inl u))]) ⟨hx, hb, hml, hown, hts⟩ (c_X8_refuseFar l D cI cJ cZ a_mo a_moR a_moK a_moH a_moS a_moF a_moT a_moP a_moQ a_moA a_moB a_moD H.size mo_e mo_f mo_codes mo_most mo_minus mo_low mo_function mo_atX mo_atM mo_spanFunction mo_spanRounding mo_spanMany mo_parts mo_shift moR_r (-2 : Int32) _ _ rfl ho) (cwV 1 hts (gdV wl_257 wl_258 wl_259 wl_5 wl_260) rfl rfl rfl (by decide +kernel) ⟨hRf _ (Nat.le_of_ble_eq_true rfl), hRl _ (Nat.le_of_ble_eq_true rfl)⟩) hK hN hP hD hS hA [0, 1] [] [0, 1] rfl rfl (by decide) (by decide) (by decide) (by decide) (fun _ => rfl) 0 7 rfl rfl rfl rfl hl.1 rfl (Nat.le_of_ble_eq_true rfl) dX8_about_26 ⟨Nat.zero_le _, Nat.zero_le _⟩ (fun r26 u26 H locs ho hP hD hS => ?_)
      try dsimp only at ho
      replace hP : va_P D vwCl [(a_mo, oX8 a_moR mo_e mo_f mo_codes mo_most mo_minus mo_low mo_function mo_atX mo_atM a_moK a_moH a_moS mo_spanFunction mo_spanRounding mo_spanMany a_moF a_moT mo_parts mo_shift a_moP a_moQ a_moA a_moB a_moD), (a_moR, .inl (cI, 7, .inl u26))] H := hP
      replace hD : va_D A [(a_mo, oX8 a_moR mo_e mo_f mo_codes mo_most mo_minus mo_low mo_function mo_atX mo_atM a_moK a_moH a_moS mo_spanFunction mo_spanRounding mo_spanMany a_moF a_moT mo_parts mo_shift a_moP a_moQ a_moA a_moB a_moD), (a_moR, .inl (cI, 7, .inl u26))] := hD
      subst hQ; exact W.iret (v := r26) hx hb hr (fun t ht hW => ⟨⟨r26, u26, rfl, ho, by rw [ht]; exact hP, hD⟩, hS.F ht⟩) (fun q hq => hS.2.2 q hq) dX8_about_29
  · replace ho := ho.2 c_5
    refine lv_aload_n hx hb dX8_about_8 rfl (lv_at hl 0 rfl) ?_
    refine lv_iconst (v := (-1)) hx hb dX8_about_9 (by decide) ?_
    refine ca_Wi (b := a_mo) (As := [.int (-1 : Int32)]) (rest := []) (wr := []) (wo := fun (u : (Nat → Int32)) => [(a_mo, oX8 a_moR mo_e mo_f mo_codes mo_most mo_minus mo_low mo_function mo_atX mo_atM a_moK a_moH a_moS mo_spanFunction mo_spanRounding mo_spanMany a_moF a_moT mo_parts mo_shift a_moP a_moQ a_moA a_moB a_moD), (a_moR, .inl (cI, 7, .inl u))]) (wn := fun (u : (Nat → Int32)) => [(a_mo, oX8 a_moR mo_e mo_f mo_codes mo_most mo_minus mo_low mo_function mo_atX mo_atM a_moK a_moH a_moS mo_spanFunction mo_spanRounding mo_spanMany a_moF a_moT mo_parts mo_shift a_moP a_moQ a_moA a_moB a_moD), (a_moR, .inl (cI, 7, .inl u))]) ⟨hx, hb, hml, hown, hts⟩ (c_X8_refuseFar l D cI cJ cZ a_mo a_moR a_moK a_moH a_moS a_moF a_moT a_moP a_moQ a_moA a_moB a_moD H.size mo_e mo_f mo_codes mo_most mo_minus mo_low mo_function mo_atX mo_atM mo_spanFunction mo_spanRounding mo_spanMany mo_parts mo_shift moR_r (-1 : Int32) _ _ rfl ho) (cwV 1 hts (gdV wl_257 wl_258 wl_259 wl_5 wl_260) rfl rfl rfl (by decide +kernel) ⟨hRf _ (Nat.le_of_ble_eq_true rfl), hRl _ (Nat.le_of_ble_eq_true rfl)⟩) hK hN hP hD hS hA [0, 1] [] [0, 1] rfl rfl (by decide) (by decide) (by decide) (by decide) (fun _ => rfl) 0 7 rfl rfl rfl rfl hl.1 rfl (Nat.le_of_ble_eq_true rfl) dX8_about_10 ⟨Nat.zero_le _, Nat.zero_le _⟩ (fun r10 u10 H locs ho hP hD hS => ?_)
    try dsimp only at ho
    replace hP : va_P D vwCl [(a_mo, oX8 a_moR mo_e mo_f mo_codes mo_most mo_minus mo_low mo_function mo_atX mo_atM a_moK a_moH a_moS mo_spanFunction mo_spanRounding mo_spanMany a_moF a_moT mo_parts mo_shift a_moP a_moQ a_moA a_moB a_moD), (a_moR, .inl (cI, 7, .inl u10))] H := hP
    replace hD : va_D A [(a_mo, oX8 a_moR mo_e mo_f mo_codes mo_most mo_minus mo_low mo_function mo_atX mo_atM a_moK a_moH a_moS mo_spanFunction mo_spanRounding mo_spanMany a_moF a_moT mo_parts mo_shift a_moP a_moQ a_moA a_moB a_moD), (a_moR, .inl (cI, 7, .inl u10))] := hD
    subst hQ; exact W.iret (v := r10) hx hb hr (fun t ht hW => ⟨⟨r10, u10, rfl, ho, by rw [ht]; exact hP, hD⟩, hS.F ht⟩) (fun q hq => hS.2.2 q hq) dX8_about_13

def w_X8_next : List Cond := .code yX8_next cX8_next 3 (some .int) :: wsL_law
set_option maxHeartbeats 4000000 in
set_option maxRecDepth 100000 in
theorem c_X8_next (l : Launch) (D : va_G) (cI cJ cZ : ClassId) (a_mo : Nat) (a_moR : Nat) (a_moK : Nat) (a_moH : Nat) (a_moS : Nat) (a_moF : Nat) (a_moT : Nat) (a_moP : Nat) (a_moQ : Nat) (a_moA : Nat) (a_moB : Nat) (a_moD : Nat) (sz : Nat) (mo_e : Int32) (mo_f : Int32) (mo_codes : Int32) (mo_most : Int32) (mo_minus : Int32) (mo_low : Int32) (mo_function : Int32) (mo_atX : Int32) (mo_atM : Int64) (mo_spanFunction : Int32) (mo_spanRounding : Int32) (mo_spanMany : Int32) (mo_parts : Int32) (mo_shift : Int32) (moR_r : Nat → Int32) (p1 : Int32) (post : Int32 → (Nat → Int32) → Prop) (A : Nat → Prop) (hAe : A = va_A [(a_mo, oX8 a_moR mo_e mo_f mo_codes mo_most mo_minus mo_low mo_function mo_atX mo_atM a_moK a_moH a_moS mo_spanFunction mo_spanRounding mo_spanMany a_moF a_moT mo_parts mo_shift a_moP a_moQ a_moA a_moB a_moD), (a_moR, .inl (cI, 7, .inl moR_r))] sz) (ho : wp_X8_next post mo_codes mo_most mo_minus moR_r p1) : Met l yX8_next w_X8_next ({ frames := 2, cells := 0, slots := 0, locals := 42 } : Room) (rw_P D [(cI, .int), (cJ, .long), (cZ, .boolean)] [.ref a_mo, .int p1] sz [(a_mo, oX8 a_moR mo_e mo_f mo_codes mo_most mo_minus mo_low mo_function mo_atX mo_atM a_moK a_moH a_moS mo_spanFunction mo_spanRounding mo_spanMany a_moF a_moT mo_parts mo_shift a_moP a_moQ a_moA a_moB a_moD), (a_moR, .inl (cI, 7, .inl moR_r))]) (va_Qi (fun (r : Int32) (u : (Nat → Int32)) => post r u) (rw_B D A (fun (u : (Nat → Int32)) => [(a_mo, oX8 a_moR mo_e mo_f mo_codes mo_most mo_minus mo_low mo_function mo_atX mo_atM a_moK a_moH a_moS mo_spanFunction mo_spanRounding mo_spanMany a_moF a_moT mo_parts mo_shift a_moP a_moQ a_moA a_moB a_moD), (a_moR, .inl (cI, 7, .inl u))])) A) 0 0 A := by
  refine Met.ofW (cc := cX8_next) (maxL := 3) (ret := (some .int)) (by decide) rfl ?_
  intro p e s m args below meth c s₁ B hml hv
  obtain ⟨hargs, hsz, hP, hK, hN, hD0⟩ := hv
  have hx := B.exec
  have hb := B.bytes
  have hr := B.returns
  have hts : ∀ w ∈ wsL_law, w.before args s = true := fun w h => atoms_spec (ws := w_X8_next) B.pre w (List.mem_cons_of_mem _ h)
  have hown : s.vm.findClass RX8 = some m.cls := findClass_of_methodNamed B.named
  have hlocks := B.notSynchronized
  subst hsz
  have hD : va_D A [(a_mo, oX8 a_moR mo_e mo_f mo_codes mo_most mo_minus mo_low mo_function mo_atX mo_atM a_moK a_moH a_moS mo_spanFunction mo_spanRounding mo_spanMany a_moF a_moT mo_parts mo_shift a_moP a_moQ a_moA a_moB a_moD), (a_moR, .inl (cI, 7, .inl moR_r))] := by rw [hAe]; exact hD0.self
  have hA : ∀ q : Nat, s.heap.size ≤ q → A q := fun q h => by rw [hAe]; exact Or.inr h
  have hS : va_S A s.heap s.heap [] := va_S.rf
  have hl := lv_entry ([.ref a_mo, .int p1]) (n := 3) (Nat.le_of_ble_eq_true rfl)
  rw [hargs, lg_entry_eq, ← hargs]
  generalize (lg_sl ([.ref a_mo, .int p1]) ++ List.replicate (3 - (lg_sl ([.ref a_mo, .int p1])).length) Slot.unset).toArray = ls at hl ⊢
  replace hl : lv_has ls 3 [(0, .ref a_mo), (1, .int p1)] := hl
  have hRf : ∀ n, n ≤ 2 → n ≤ (headSpec w_X8_next ({ frames := 2, cells := 0, slots := 0, locals := 42 } : Room)).room.frames := fun n h => h
  have hRl : ∀ n, n ≤ 42 → n ≤ (headSpec w_X8_next ({ frames := 2, cells := 0, slots := 0, locals := 42 } : Room)).room.locals := fun n h => h
  generalize (headSpec w_X8_next ({ frames := 2, cells := 0, slots := 0, locals := 42 } : Room)).room = R at hRf hRl ⊢
  generalize hQ : MQ below _ args s 0 0 _ = Q
  suffices main : ∀ (H : Heap) (locs : List Loc), va_P D vwCl [(a_mo, oX8 a_moR mo_e mo_f mo_codes mo_most mo_minus mo_low mo_function mo_atX mo_atM a_moK a_moH a_moS mo_spanFunction mo_spanRounding mo_spanMany a_moF a_moT mo_parts mo_shift a_moP a_moQ a_moA a_moB a_moD), (a_moR, .inl (cI, 7, .inl moR_r))] H → va_S A s.heap H locs → W p l e R s m args below meth c H locs 0 0 Q (F0 m 0 ls []) from main _ _ hP hS
  intro H locs hP hS
  unfold wp_X8_next at ho
  refine lv_aload_n hx hb dX8_next_0 rfl (lv_at hl 0 rfl) ?_
  refine lv_iload_n hx hb dX8_next_1 rfl (lv_at hl 1 rfl) ?_
  refine ca_Vi (b := a_mo) (As := [.int p1]) (rest := []) ⟨hx, hb, hml, hown, hts⟩ (c_X8_isCode l D cI cJ cZ a_mo a_moR a_moK a_moH a_moS a_moF a_moT a_moP a_moQ a_moA a_moB a_moD mo_e mo_f mo_codes mo_most mo_minus mo_low mo_function mo_atX mo_atM mo_spanFunction mo_spanRounding mo_spanMany mo_parts mo_shift p1 _ ho) (cwV 1 hts (gdV wl_250 wl_251 wl_252 wl_5 wl_253) rfl rfl rfl (by decide +kernel) ⟨hRf _ (Nat.le_of_ble_eq_true rfl), hRl _ (Nat.le_of_ble_eq_true rfl)⟩) hK hN hP [0] rfl 0 7 rfl rfl rfl rfl hl.1 rfl (Nat.le_of_ble_eq_true rfl) dX8_next_2 ⟨Nat.zero_le _, Nat.zero_le _⟩ (fun r2 ho => ?_)
  refine lv_if_ne (tgt := 14) hx hb dX8_next_5 (by decide) (fun c_5 => ?_) (fun c_5 => ?_)
  · replace ho := ho.1 c_5
    refine lv_aload_n hx hb dX8_next_14 rfl (lv_at hl 0 rfl) ?_
    refine lv_iload_n hx hb dX8_next_15 rfl (lv_at hl 1 rfl) ?_
    refine ca_Vi (b := a_mo) (As := [.int p1]) (rest := []) ⟨hx, hb, hml, hown, hts⟩ (c_X8_isPlain l D cI cJ cZ a_mo a_moR a_moK a_moH a_moS a_moF a_moT a_moP a_moQ a_moA a_moB a_moD mo_e mo_f mo_codes mo_most mo_minus mo_low mo_function mo_atX mo_atM mo_spanFunction mo_spanRounding mo_spanMany mo_parts mo_shift p1 _ ho) (cwV 1 hts (gdV wl_270 wl_271 wl_272 wl_5 wl_273) rfl rfl rfl (by decide +kernel) ⟨hRf _ (Nat.le_of_ble_eq_true rfl), hRl _ (Nat.le_of_ble_eq_true rfl)⟩) hK hN hP [0] rfl 0 7 rfl rfl rfl rfl hl.1 rfl (Nat.le_of_ble_eq_true rfl) dX8_next_16 ⟨Nat.zero_le _, Nat.zero_le _⟩ (fun r16 ho => ?_)
    refine lv_if_ne (tgt := 29) hx hb dX8_next_19 (by decide) (fun c_19 => ?_) (fun c_19 => ?_)
    · replace ho := ho.1 c_19
      refine lv_aload_n hx hb dX8_next_29 rfl (lv_at hl 0 rfl) ?_
      refine lv_iload_n hx hb dX8_next_30 rfl (lv_at hl 1 rfl) ?_
      refine ca_Vi (b := a_mo) (As := [.int p1]) (rest := []) ⟨hx, hb, hml, hown, hts⟩ (c_X8_size l D cI cJ cZ a_mo a_moR a_moK a_moH a_moS a_moF a_moT a_moP a_moQ a_moA a_moB a_moD mo_e mo_f mo_codes mo_most mo_minus mo_low mo_function mo_atX mo_atM mo_spanFunction mo_spanRounding mo_spanMany mo_parts mo_shift p1 _ ho) (cwV 1 hts (gdV wl_262 wl_263 wl_264 wl_5 wl_265) rfl rfl rfl (by decide +kernel) ⟨hRf _ (Nat.le_of_ble_eq_true rfl), hRl _ (Nat.le_of_ble_eq_true rfl)⟩) hK hN hP [0] rfl 0 7 rfl rfl rfl rfl hl.1 rfl (Nat.le_of_ble_eq_true rfl) dX8_next_31 ⟨Nat.zero_le _, Nat.zero_le _⟩ (fun r31 ho => ?_)
      refine lv_istore_n (lv' := [(2, .int r31), (0, .ref a_mo), (1, .int p1)]) hx hb dX8_next_34 rfl hl (by decide) rfl (fun ls hl => ?_)
      refine lv_iload_n hx hb dX8_next_35 rfl (lv_at hl 0 rfl) ?_
      refine lv_if_ne (tgt := 41) hx hb dX8_next_36 (by decide) (fun c_36 => ?_) (fun c_36 => ?_)
      · replace ho := ho.1 c_36
        refine lv_iload_n hx hb dX8_next_41 rfl (lv_at hl 2 rfl) ?_
        refine lv_aload_n hx hb dX8_next_42 rfl (lv_at hl 1 rfl) ?_
        refine va_get (D := D) (ci := 7) (v := .int mo_minus) (C := RX8) (T := TX8) (N := 25) hx hb hts inlX8 hown hK hP 0 rfl rfl 5 (by decide) (hts _ wl_119) (fun _ h9 => h9) rfl dX8_next_43 ?_
        refine lv_icmp_ge (tgt := 53) hx hb dX8_next_46 (by decide) (fun c_46 => ?_) (fun c_46 => ?_)
        · replace ho := ho.1 c_46
          refine lv_iload_n hx hb dX8_next_53 rfl (lv_at hl 0 rfl) ?_
          refine lv_iconst (v := 1) hx hb dX8_next_54 (by decide) ?_
          refine lv_icmp_ne (tgt := 62) hx hb dX8_next_55 (by decide) (fun c_55 => ?_) (fun c_55 => ?_)
          · replace ho := ho.1 c_55
            refine lv_iload_n hx hb dX8_next_62 rfl (lv_at hl 2 rfl) ?_
            refine lv_iconst (v := 1) hx hb dX8_next_63 (by decide) ?_
            refine lv_isub hx hb dX8_next_64 ?_
            subst hQ; exact W.iret (v := (p1 - (1 : Int32))) hx hb hr (fun t ht hW => ⟨⟨(p1 - (1 : Int32)), moR_r, rfl, ho, by rw [ht]; exact hP, hD⟩, hS.F ht⟩) (fun q hq => hS.2.2 q hq) dX8_next_65
          · replace ho := ho.2 c_55
            refine lv_iconst (v := 0) hx hb dX8_next_58 (by decide) ?_
            refine lv_goto (tgt := 65) hx hb dX8_next_59 (by decide) ?_
            subst hQ; exact W.iret (v := (0 : Int32)) hx hb hr (fun t ht hW => ⟨⟨(0 : Int32), moR_r, rfl, ho, by rw [ht]; exact hP, hD⟩, hS.F ht⟩) (fun q hq => hS.2.2 q hq) dX8_next_65
        · replace ho := ho.2 c_46
          refine lv_iload_n hx hb dX8_next_49 rfl (lv_at hl 2 rfl) ?_
          refine lv_iconst (v := 1) hx hb dX8_next_50 (by decide) ?_
          refine lv_iadd hx hb dX8_next_51 ?_
          subst hQ; exact W.iret (v := (p1 + (1 : Int32))) hx hb hr (fun t ht hW => ⟨⟨(p1 + (1 : Int32)), moR_r, rfl, ho, by rw [ht]; exact hP, hD⟩, hS.F ht⟩) (fun q hq => hS.2.2 q hq) dX8_next_52
      · replace ho := ho.2 c_36
        refine lv_iconst (v := 1) hx hb dX8_next_39 (by decide) ?_
        subst hQ; exact W.iret (v := (1 : Int32)) hx hb hr (fun t ht hW => ⟨⟨(1 : Int32), moR_r, rfl, ho, by rw [ht]; exact hP, hD⟩, hS.F ht⟩) (fun q hq => hS.2.2 q hq) dX8_next_40
    · replace ho := ho.2 c_19
      refine lv_aload_n hx hb dX8_next_22 rfl (lv_at hl 0 rfl) ?_
      refine lv_bipush (v := (-3)) hx hb dX8_next_23 (by decide) ?_
      refine ca_Wi (b := a_mo) (As := [.int (-3 : Int32)]) (rest := []) (wr := []) (wo := fun (u : (Nat → Int32)) => [(a_mo, oX8 a_moR mo_e mo_f mo_codes mo_most mo_minus mo_low mo_function mo_atX mo_atM a_moK a_moH a_moS mo_spanFunction mo_spanRounding mo_spanMany a_moF a_moT mo_parts mo_shift a_moP a_moQ a_moA a_moB a_moD), (a_moR, .inl (cI, 7, .inl u))]) (wn := fun (u : (Nat → Int32)) => [(a_mo, oX8 a_moR mo_e mo_f mo_codes mo_most mo_minus mo_low mo_function mo_atX mo_atM a_moK a_moH a_moS mo_spanFunction mo_spanRounding mo_spanMany a_moF a_moT mo_parts mo_shift a_moP a_moQ a_moA a_moB a_moD), (a_moR, .inl (cI, 7, .inl u))]) ⟨hx, hb, hml, hown, hts⟩ (c_X8_refuse l D cI cJ cZ a_mo a_moR a_moK a_moH a_moS a_moF a_moT a_moP a_moQ a_moA a_moB a_moD H.size mo_e mo_f mo_codes mo_most mo_minus mo_low mo_function mo_atX mo_atM mo_spanFunction mo_spanRounding mo_spanMany mo_parts mo_shift moR_r (-3 : Int32) _ _ rfl ho) (cwV 1 hts (gdV wl_165 wl_166 wl_167 wl_5 wl_168) rfl rfl rfl (by decide +kernel) ⟨hRf _ (Nat.le_of_ble_eq_true rfl), hRl _ (Nat.le_of_ble_eq_true rfl)⟩) hK hN hP hD hS hA [0, 1] [] [0, 1] rfl rfl (by decide) (by decide) (by decide) (by decide) (fun _ => rfl) 0 7 rfl rfl rfl rfl hl.1 rfl (Nat.le_of_ble_eq_true rfl) dX8_next_25 ⟨Nat.zero_le _, Nat.zero_le _⟩ (fun r25 u25 H locs ho hP hD hS => ?_)
      try dsimp only at ho
      replace hP : va_P D vwCl [(a_mo, oX8 a_moR mo_e mo_f mo_codes mo_most mo_minus mo_low mo_function mo_atX mo_atM a_moK a_moH a_moS mo_spanFunction mo_spanRounding mo_spanMany a_moF a_moT mo_parts mo_shift a_moP a_moQ a_moA a_moB a_moD), (a_moR, .inl (cI, 7, .inl u25))] H := hP
      replace hD : va_D A [(a_mo, oX8 a_moR mo_e mo_f mo_codes mo_most mo_minus mo_low mo_function mo_atX mo_atM a_moK a_moH a_moS mo_spanFunction mo_spanRounding mo_spanMany a_moF a_moT mo_parts mo_shift a_moP a_moQ a_moA a_moB a_moD), (a_moR, .inl (cI, 7, .inl u25))] := hD
      subst hQ; exact W.iret (v := r25) hx hb hr (fun t ht hW => ⟨⟨r25, u25, rfl, ho, by rw [ht]; exact hP, hD⟩, hS.F ht⟩) (fun q hq => hS.2.2 q hq) dX8_next_28
  · replace ho := ho.2 c_5
    refine lv_aload_n hx hb dX8_next_8 rfl (lv_at hl 0 rfl) ?_
    refine lv_iconst (v := (-1)) hx hb dX8_next_9 (by decide) ?_
    refine ca_Wi (b := a_mo) (As := [.int (-1 : Int32)]) (rest := []) (wr := []) (wo := fun (u : (Nat → Int32)) => [(a_mo, oX8 a_moR mo_e mo_f mo_codes mo_most mo_minus mo_low mo_function mo_atX mo_atM a_moK a_moH a_moS mo_spanFunction mo_spanRounding mo_spanMany a_moF a_moT mo_parts mo_shift a_moP a_moQ a_moA a_moB a_moD), (a_moR, .inl (cI, 7, .inl u))]) (wn := fun (u : (Nat → Int32)) => [(a_mo, oX8 a_moR mo_e mo_f mo_codes mo_most mo_minus mo_low mo_function mo_atX mo_atM a_moK a_moH a_moS mo_spanFunction mo_spanRounding mo_spanMany a_moF a_moT mo_parts mo_shift a_moP a_moQ a_moA a_moB a_moD), (a_moR, .inl (cI, 7, .inl u))]) ⟨hx, hb, hml, hown, hts⟩ (c_X8_refuse l D cI cJ cZ a_mo a_moR a_moK a_moH a_moS a_moF a_moT a_moP a_moQ a_moA a_moB a_moD H.size mo_e mo_f mo_codes mo_most mo_minus mo_low mo_function mo_atX mo_atM mo_spanFunction mo_spanRounding mo_spanMany mo_parts mo_shift moR_r (-1 : Int32) _ _ rfl ho) (cwV 1 hts (gdV wl_165 wl_166 wl_167 wl_5 wl_168) rfl rfl rfl (by decide +kernel) ⟨hRf _ (Nat.le_of_ble_eq_true rfl), hRl _ (Nat.le_of_ble_eq_true rfl)⟩) hK hN hP hD hS hA [0, 1] [] [0, 1] rfl rfl (by decide) (by decide) (by decide) (by decide) (fun _ => rfl) 0 7 rfl rfl rfl rfl hl.1 rfl (Nat.le_of_ble_eq_true rfl) dX8_next_10 ⟨Nat.zero_le _, Nat.zero_le _⟩ (fun r10 u10 H locs ho hP hD hS => ?_)
    try dsimp only at ho
    replace hP : va_P D vwCl [(a_mo, oX8 a_moR mo_e mo_f mo_codes mo_most mo_minus mo_low mo_function mo_atX mo_atM a_moK a_moH a_moS mo_spanFunction mo_spanRounding mo_spanMany a_moF a_moT mo_parts mo_shift a_moP a_moQ a_moA a_moB a_moD), (a_moR, .inl (cI, 7, .inl u10))] H := hP
    replace hD : va_D A [(a_mo, oX8 a_moR mo_e mo_f mo_codes mo_most mo_minus mo_low mo_function mo_atX mo_atM a_moK a_moH a_moS mo_spanFunction mo_spanRounding mo_spanMany a_moF a_moT mo_parts mo_shift a_moP a_moQ a_moA a_moB a_moD), (a_moR, .inl (cI, 7, .inl u10))] := hD
    subst hQ; exact W.iret (v := r10) hx hb hr (fun t ht hW => ⟨⟨r10, u10, rfl, ho, by rw [ht]; exact hP, hD⟩, hS.F ht⟩) (fun q hq => hS.2.2 q hq) dX8_next_13
