def w_X1_codeOf : List Cond := .code yX1_codeOf cX1_codeOf 3 (some .int) :: wsL_law
set_option maxHeartbeats 4000000 in
set_option maxRecDepth 100000 in
theorem c_X1_codeOf (l : Launch) (D : va_G) (cI cJ cZ : ClassId) (a_fl : Nat) (fl_e : Int32) (fl_f : Int32) (fl_bias : Int32) (fl_codes : Int32) (fl_signBit : Int32) (fl_endless : Int32) (p1 : Int32) (p2 : Int32) (post : Int32 → Prop) (ho : wp_X1_codeOf post fl_f p1 p2) : Met l yX1_codeOf w_X1_codeOf ({ frames := 0, cells := 0, slots := 0, locals := 0 } : Room) (ro_P D [(cI, .int), (cJ, .long), (cZ, .boolean)] [.ref a_fl, .int p1, .int p2] [(a_fl, oX1 fl_e fl_f fl_bias fl_codes fl_signBit fl_endless)]) (vp_Si post) 0 0 (fun _ => False) := by
  refine Met.ofW (cc := cX1_codeOf) (maxL := 3) (ret := (some .int)) (by decide) rfl ?_
  intro p e s m args below meth c s₁ B hml hv
  obtain ⟨hargs, hP, hK, hN⟩ := hv
  have hx := B.exec
  have hb := B.bytes
  have hr := B.returns
  have hts : ∀ w ∈ wsL_law, w.before args s = true := fun w h => atoms_spec (ws := w_X1_codeOf) B.pre w (List.mem_cons_of_mem _ h)
  have hown : s.vm.findClass RX1 = some m.cls := findClass_of_methodNamed B.named
  have hlocks := B.notSynchronized
  have hl := lv_entry ([.ref a_fl, .int p1, .int p2]) (n := 3) (Nat.le_of_ble_eq_true rfl)
  rw [hargs, lg_entry_eq, ← hargs]
  generalize (lg_sl ([.ref a_fl, .int p1, .int p2]) ++ List.replicate (3 - (lg_sl ([.ref a_fl, .int p1, .int p2])).length) Slot.unset).toArray = ls at hl ⊢
  replace hl : lv_has ls 3 [(0, .ref a_fl), (1, .int p1), (2, .int p2)] := hl
  have hRf : ∀ n, n ≤ 0 → n ≤ (headSpec w_X1_codeOf ({ frames := 0, cells := 0, slots := 0, locals := 0 } : Room)).room.frames := fun n h => h
  have hRl : ∀ n, n ≤ 0 → n ≤ (headSpec w_X1_codeOf ({ frames := 0, cells := 0, slots := 0, locals := 0 } : Room)).room.locals := fun n h => h
  generalize (headSpec w_X1_codeOf ({ frames := 0, cells := 0, slots := 0, locals := 0 } : Room)).room = R at hRf hRl ⊢
  generalize hQ : MQ below _ args s 0 0 _ = Q
  unfold wp_X1_codeOf at ho
  refine lv_iload_n hx hb dX1_codeOf_0 rfl (lv_at hl 1 rfl) ?_
  refine lv_aload_n hx hb dX1_codeOf_1 rfl (lv_at hl 0 rfl) ?_
  refine va_get (D := D) (ci := 1) (v := .int fl_f) (C := RX1) (T := TX1) (N := 6) hx hb hts inlX1 hown hK hP 0 rfl rfl 1 (by decide) (hts _ wl_47) (fun _ h9 => h9) rfl dX1_codeOf_2 ?_
  refine lv_ishl hx hb dX1_codeOf_5 ?_
  refine lv_iload_n hx hb dX1_codeOf_6 rfl (lv_at hl 2 rfl) ?_
  refine lv_iadd hx hb dX1_codeOf_7 ?_
  subst hQ; exact W.iret (v := ((p1 <<< (fl_f &&& 31)) + p2)) hx hb hr (fun t ht _ => ⟨((p1 <<< (fl_f &&& 31)) + p2), rfl, ho, ht⟩) (fun _ h => by cases h) dX1_codeOf_8

def w_X1_kindOf : List Cond := .code yX1_kindOf cX1_kindOf 2 (some .int) :: wsL_law
set_option maxHeartbeats 4000000 in
set_option maxRecDepth 100000 in
theorem c_X1_kindOf (l : Launch) (D : va_G) (cI cJ cZ : ClassId) (a_fl : Nat) (fl_e : Int32) (fl_f : Int32) (fl_bias : Int32) (fl_codes : Int32) (fl_signBit : Int32) (fl_endless : Int32) (p1 : Int32) (post : Int32 → Prop) (ho : wp_X1_kindOf post fl_signBit fl_endless p1) : Met l yX1_kindOf w_X1_kindOf ({ frames := 2, cells := 0, slots := 0, locals := 42 } : Room) (ro_P D [(cI, .int), (cJ, .long), (cZ, .boolean)] [.ref a_fl, .int p1] [(a_fl, oX1 fl_e fl_f fl_bias fl_codes fl_signBit fl_endless)]) (vp_Si post) 0 0 (fun _ => False) := by
  refine Met.ofW (cc := cX1_kindOf) (maxL := 2) (ret := (some .int)) (by decide) rfl ?_
  intro p e s m args below meth c s₁ B hml hv
  obtain ⟨hargs, hP, hK, hN⟩ := hv
  have hx := B.exec
  have hb := B.bytes
  have hr := B.returns
  have hts : ∀ w ∈ wsL_law, w.before args s = true := fun w h => atoms_spec (ws := w_X1_kindOf) B.pre w (List.mem_cons_of_mem _ h)
  have hown : s.vm.findClass RX1 = some m.cls := findClass_of_methodNamed B.named
  have hlocks := B.notSynchronized
  have hl := lv_entry ([.ref a_fl, .int p1]) (n := 2) (Nat.le_of_ble_eq_true rfl)
  rw [hargs, lg_entry_eq, ← hargs]
  generalize (lg_sl ([.ref a_fl, .int p1]) ++ List.replicate (2 - (lg_sl ([.ref a_fl, .int p1])).length) Slot.unset).toArray = ls at hl ⊢
  replace hl : lv_has ls 2 [(0, .ref a_fl), (1, .int p1)] := hl
  have hRf : ∀ n, n ≤ 2 → n ≤ (headSpec w_X1_kindOf ({ frames := 2, cells := 0, slots := 0, locals := 42 } : Room)).room.frames := fun n h => h
  have hRl : ∀ n, n ≤ 42 → n ≤ (headSpec w_X1_kindOf ({ frames := 2, cells := 0, slots := 0, locals := 42 } : Room)).room.locals := fun n h => h
  generalize (headSpec w_X1_kindOf ({ frames := 2, cells := 0, slots := 0, locals := 42 } : Room)).room = R at hRf hRl ⊢
  generalize hQ : MQ below _ args s 0 0 _ = Q
  unfold wp_X1_kindOf at ho
  refine lv_aload_n hx hb dX1_kindOf_0 rfl (lv_at hl 0 rfl) ?_
  refine lv_iload_n hx hb dX1_kindOf_1 rfl (lv_at hl 1 rfl) ?_
  refine ca_Vi (b := a_fl) (As := [.int p1]) (rest := []) ⟨hx, hb, hml, hown, hts⟩ (c_X1_isPlain l D cI cJ cZ a_fl fl_e fl_f fl_bias fl_codes fl_signBit fl_endless p1 _ ho) (cwV 1 hts (gdV wl_194 wl_183 wl_184 wl_14 wl_185) rfl rfl rfl (by decide +kernel) ⟨hRf _ (Nat.le_of_ble_eq_true rfl), hRl _ (Nat.le_of_ble_eq_true rfl)⟩) hK hN hP [0] rfl 0 1 rfl rfl rfl rfl hl.1 rfl (Nat.le_of_ble_eq_true rfl) dX1_kindOf_2 ⟨Nat.zero_le _, Nat.zero_le _⟩ (fun r2 ho => ?_)
  refine lv_if_eq (tgt := 22) hx hb dX1_kindOf_5 (by decide) (fun c_5 => ?_) (fun c_5 => ?_)
  · replace ho := ho.1 c_5
    refine lv_aload_n hx hb dX1_kindOf_22 rfl (lv_at hl 0 rfl) ?_
    refine lv_iload_n hx hb dX1_kindOf_23 rfl (lv_at hl 1 rfl) ?_
    refine ca_Vi (b := a_fl) (As := [.int p1]) (rest := []) ⟨hx, hb, hml, hown, hts⟩ (c_X1_isNone l D cI cJ cZ a_fl fl_e fl_f fl_bias fl_codes fl_signBit fl_endless p1 _ ho) (cwV 1 hts (gdV wl_199 wl_200 wl_201 wl_14 wl_202) rfl rfl rfl (by decide +kernel) ⟨hRf _ (Nat.le_of_ble_eq_true rfl), hRl _ (Nat.le_of_ble_eq_true rfl)⟩) hK hN hP [0] rfl 0 1 rfl rfl rfl rfl hl.1 rfl (Nat.le_of_ble_eq_true rfl) dX1_kindOf_24 ⟨Nat.zero_le _, Nat.zero_le _⟩ (fun r24 ho => ?_)
    refine lv_if_eq (tgt := 34) hx hb dX1_kindOf_27 (by decide) (fun c_27 => ?_) (fun c_27 => ?_)
    · replace ho := ho.1 c_27
      refine lv_iconst (v := 2) hx hb dX1_kindOf_34 (by decide) ?_
      subst hQ; exact W.iret (v := (2 : Int32)) hx hb hr (fun t ht _ => ⟨(2 : Int32), rfl, ho, ht⟩) (fun _ h => by cases h) dX1_kindOf_35
    · replace ho := ho.2 c_27
      refine lv_iconst (v := 3) hx hb dX1_kindOf_30 (by decide) ?_
      refine lv_goto (tgt := 35) hx hb dX1_kindOf_31 (by decide) ?_
      subst hQ; exact W.iret (v := (3 : Int32)) hx hb hr (fun t ht _ => ⟨(3 : Int32), rfl, ho, ht⟩) (fun _ h => by cases h) dX1_kindOf_35
  · replace ho := ho.2 c_5
    refine lv_aload_n hx hb dX1_kindOf_8 rfl (lv_at hl 0 rfl) ?_
    refine lv_iload_n hx hb dX1_kindOf_9 rfl (lv_at hl 1 rfl) ?_
    refine ca_Vi (b := a_fl) (As := [.int p1]) (rest := []) ⟨hx, hb, hml, hown, hts⟩ (c_X1_isZero l D cI cJ cZ a_fl fl_e fl_f fl_bias fl_codes fl_signBit fl_endless p1 _ ho) (cwV 1 hts (gdV wl_195 wl_196 wl_197 wl_14 wl_198) rfl rfl rfl (by decide +kernel) ⟨hRf _ (Nat.le_of_ble_eq_true rfl), hRl _ (Nat.le_of_ble_eq_true rfl)⟩) hK hN hP [0] rfl 0 1 rfl rfl rfl rfl hl.1 rfl (Nat.le_of_ble_eq_true rfl) dX1_kindOf_10 ⟨Nat.zero_le _, Nat.zero_le _⟩ (fun r10 ho => ?_)
    refine lv_if_eq (tgt := 20) hx hb dX1_kindOf_13 (by decide) (fun c_13 => ?_) (fun c_13 => ?_)
    · replace ho := ho.1 c_13
      refine lv_iconst (v := 0) hx hb dX1_kindOf_20 (by decide) ?_
      subst hQ; exact W.iret (v := (0 : Int32)) hx hb hr (fun t ht _ => ⟨(0 : Int32), rfl, ho, ht⟩) (fun _ h => by cases h) dX1_kindOf_21
    · replace ho := ho.2 c_13
      refine lv_iconst (v := 1) hx hb dX1_kindOf_16 (by decide) ?_
      refine lv_goto (tgt := 21) hx hb dX1_kindOf_17 (by decide) ?_
      subst hQ; exact W.iret (v := (1 : Int32)) hx hb hr (fun t ht _ => ⟨(1 : Int32), rfl, ho, ht⟩) (fun _ h => by cases h) dX1_kindOf_21

def w_X1_oddFactor : List Cond := .code yX1_oddFactor cX1_oddFactor 3 (some .int) :: wsL_law
set_option maxHeartbeats 4000000 in
set_option maxRecDepth 100000 in
theorem c_X1_oddFactor (l : Launch) (D : va_G) (cI cJ cZ : ClassId) (a_fl : Nat) (fl_e : Int32) (fl_f : Int32) (fl_bias : Int32) (fl_codes : Int32) (fl_signBit : Int32) (fl_endless : Int32) (p1 : Int32) (post : Int32 → Prop) (ho : wp_X1_oddFactor post fl_f fl_signBit p1) : Met l yX1_oddFactor w_X1_oddFactor ({ frames := 3, cells := 0, slots := 0, locals := 63 } : Room) (ro_P D [(cI, .int), (cJ, .long), (cZ, .boolean)] [.ref a_fl, .int p1] [(a_fl, oX1 fl_e fl_f fl_bias fl_codes fl_signBit fl_endless)]) (vp_Si post) 0 0 (fun _ => False) := by
  refine Met.ofW (cc := cX1_oddFactor) (maxL := 3) (ret := (some .int)) (by decide) rfl ?_
  intro p e s m args below meth c s₁ B hml hv
  obtain ⟨hargs, hP, hK, hN⟩ := hv
  have hx := B.exec
  have hb := B.bytes
  have hr := B.returns
  have hts : ∀ w ∈ wsL_law, w.before args s = true := fun w h => atoms_spec (ws := w_X1_oddFactor) B.pre w (List.mem_cons_of_mem _ h)
  have hown : s.vm.findClass RX1 = some m.cls := findClass_of_methodNamed B.named
  have hlocks := B.notSynchronized
  have hl := lv_entry ([.ref a_fl, .int p1]) (n := 3) (Nat.le_of_ble_eq_true rfl)
  rw [hargs, lg_entry_eq, ← hargs]
  generalize (lg_sl ([.ref a_fl, .int p1]) ++ List.replicate (3 - (lg_sl ([.ref a_fl, .int p1])).length) Slot.unset).toArray = ls at hl ⊢
  replace hl : lv_has ls 3 [(0, .ref a_fl), (1, .int p1)] := hl
  have hRf : ∀ n, n ≤ 3 → n ≤ (headSpec w_X1_oddFactor ({ frames := 3, cells := 0, slots := 0, locals := 63 } : Room)).room.frames := fun n h => h
  have hRl : ∀ n, n ≤ 63 → n ≤ (headSpec w_X1_oddFactor ({ frames := 3, cells := 0, slots := 0, locals := 63 } : Room)).room.locals := fun n h => h
  generalize (headSpec w_X1_oddFactor ({ frames := 3, cells := 0, slots := 0, locals := 63 } : Room)).room = R at hRf hRl ⊢
  generalize hQ : MQ below _ args s 0 0 _ = Q
  unfold wp_X1_oddFactor at ho
  refine lv_aload_n hx hb dX1_oddFactor_0 rfl (lv_at hl 0 rfl) ?_
  refine lv_iload_n hx hb dX1_oddFactor_1 rfl (lv_at hl 1 rfl) ?_
  refine ca_Vi (b := a_fl) (As := [.int p1]) (rest := []) ⟨hx, hb, hml, hown, hts⟩ (c_X1_factor l D cI cJ cZ a_fl fl_e fl_f fl_bias fl_codes fl_signBit fl_endless p1 _ ho) (cwV 1 hts (gdV wl_223 wl_224 wl_225 wl_14 wl_226) rfl rfl rfl (by decide +kernel) ⟨hRf _ (Nat.le_of_ble_eq_true rfl), hRl _ (Nat.le_of_ble_eq_true rfl)⟩) hK hN hP [0] rfl 0 1 rfl rfl rfl rfl hl.1 rfl (Nat.le_of_ble_eq_true rfl) dX1_oddFactor_2 ⟨Nat.zero_le _, Nat.zero_le _⟩ (fun r2 ho => ?_)
  refine lv_istore_n (lv' := [(2, .int r2), (0, .ref a_fl), (1, .int p1)]) hx hb dX1_oddFactor_5 rfl hl (by decide) rfl (fun ls hl => ?_)
  refine lv_iload_n hx hb dX1_oddFactor_6 rfl (lv_at hl 0 rfl) ?_
  refine lv_if_ne (tgt := 14) hx hb dX1_oddFactor_7 (by decide) (fun c_7 => ?_) (fun c_7 => ?_)
  · replace ho := ho.1 c_7
    refine lv_iload_n hx hb dX1_oddFactor_14 rfl (lv_at hl 0 rfl) ?_
    refine lv_iload_n hx hb dX1_oddFactor_15 rfl (lv_at hl 0 rfl) ?_
    refine ca_Si (As := [.int r2]) (rest := [.int r2]) ⟨hx, hb, hml, hown, hts⟩ (c_J6_numberOfTrailingZeros_0f7a4 l D cI cJ cZ   r2 _ ho) (va_cwS 1 hts (gdS wl_229 wl_230 wl_231 wl_232) rfl rfl rfl (by decide +kernel) ⟨hRf _ (Nat.le_of_ble_eq_true rfl), hRl _ (Nat.le_of_ble_eq_true rfl)⟩) hK hN hP [] rfl rfl hl.1 rfl (Nat.le_of_ble_eq_true rfl) dX1_oddFactor_16 ⟨Nat.zero_le _, Nat.zero_le _⟩ (fun r16 ho => ?_)
    refine lv_ishr hx hb dX1_oddFactor_19 ?_
    subst hQ; exact W.iret (v := (r2 >>> (r16 &&& 31))) hx hb hr (fun t ht _ => ⟨(r2 >>> (r16 &&& 31)), rfl, ho, ht⟩) (fun _ h => by cases h) dX1_oddFactor_20
  · replace ho := ho.2 c_7
    refine lv_iconst (v := 0) hx hb dX1_oddFactor_10 (by decide) ?_
    refine lv_goto (tgt := 20) hx hb dX1_oddFactor_11 (by decide) ?_
    subst hQ; exact W.iret (v := (0 : Int32)) hx hb hr (fun t ht _ => ⟨(0 : Int32), rfl, ho, ht⟩) (fun _ h => by cases h) dX1_oddFactor_20

def w_X1_powerOfOddFactor : List Cond := .code yX1_powerOfOddFactor cX1_powerOfOddFactor 3 (some .int) :: wsL_law
set_option maxHeartbeats 4000000 in
set_option maxRecDepth 100000 in
theorem c_X1_powerOfOddFactor (l : Launch) (D : va_G) (cI cJ cZ : ClassId) (a_fl : Nat) (fl_e : Int32) (fl_f : Int32) (fl_bias : Int32) (fl_codes : Int32) (fl_signBit : Int32) (fl_endless : Int32) (p1 : Int32) (post : Int32 → Prop) (ho : wp_X1_powerOfOddFactor post fl_f fl_bias fl_signBit p1) : Met l yX1_powerOfOddFactor w_X1_powerOfOddFactor ({ frames := 3, cells := 0, slots := 0, locals := 63 } : Room) (ro_P D [(cI, .int), (cJ, .long), (cZ, .boolean)] [.ref a_fl, .int p1] [(a_fl, oX1 fl_e fl_f fl_bias fl_codes fl_signBit fl_endless)]) (vp_Si post) 0 0 (fun _ => False) := by
  refine Met.ofW (cc := cX1_powerOfOddFactor) (maxL := 3) (ret := (some .int)) (by decide) rfl ?_
  intro p e s m args below meth c s₁ B hml hv
  obtain ⟨hargs, hP, hK, hN⟩ := hv
  have hx := B.exec
  have hb := B.bytes
  have hr := B.returns
  have hts : ∀ w ∈ wsL_law, w.before args s = true := fun w h => atoms_spec (ws := w_X1_powerOfOddFactor) B.pre w (List.mem_cons_of_mem _ h)
  have hown : s.vm.findClass RX1 = some m.cls := findClass_of_methodNamed B.named
  have hlocks := B.notSynchronized
  have hl := lv_entry ([.ref a_fl, .int p1]) (n := 3) (Nat.le_of_ble_eq_true rfl)
  rw [hargs, lg_entry_eq, ← hargs]
  generalize (lg_sl ([.ref a_fl, .int p1]) ++ List.replicate (3 - (lg_sl ([.ref a_fl, .int p1])).length) Slot.unset).toArray = ls at hl ⊢
  replace hl : lv_has ls 3 [(0, .ref a_fl), (1, .int p1)] := hl
  have hRf : ∀ n, n ≤ 3 → n ≤ (headSpec w_X1_powerOfOddFactor ({ frames := 3, cells := 0, slots := 0, locals := 63 } : Room)).room.frames := fun n h => h
  have hRl : ∀ n, n ≤ 63 → n ≤ (headSpec w_X1_powerOfOddFactor ({ frames := 3, cells := 0, slots := 0, locals := 63 } : Room)).room.locals := fun n h => h
  generalize (headSpec w_X1_powerOfOddFactor ({ frames := 3, cells := 0, slots := 0, locals := 63 } : Room)).room = R at hRf hRl ⊢
  generalize hQ : MQ below _ args s 0 0 _ = Q
  unfold wp_X1_powerOfOddFactor at ho
  refine lv_aload_n hx hb dX1_powerOfOddFactor_0 rfl (lv_at hl 0 rfl) ?_
  refine lv_iload_n hx hb dX1_powerOfOddFactor_1 rfl (lv_at hl 1 rfl) ?_
  refine ca_Vi (b := a_fl) (As := [.int p1]) (rest := []) ⟨hx, hb, hml, hown, hts⟩ (c_X1_factor l D cI cJ cZ a_fl fl_e fl_f fl_bias fl_codes fl_signBit fl_endless p1 _ ho) (cwV 1 hts (gdV wl_223 wl_224 wl_225 wl_14 wl_226) rfl rfl rfl (by decide +kernel) ⟨hRf _ (Nat.le_of_ble_eq_true rfl), hRl _ (Nat.le_of_ble_eq_true rfl)⟩) hK hN hP [0] rfl 0 1 rfl rfl rfl rfl hl.1 rfl (Nat.le_of_ble_eq_true rfl) dX1_powerOfOddFactor_2 ⟨Nat.zero_le _, Nat.zero_le _⟩ (fun r2 ho => ?_)
  refine lv_istore_n (lv' := [(2, .int r2), (0, .ref a_fl), (1, .int p1)]) hx hb dX1_powerOfOddFactor_5 rfl hl (by decide) rfl (fun ls hl => ?_)
  refine lv_iload_n hx hb dX1_powerOfOddFactor_6 rfl (lv_at hl 0 rfl) ?_
  refine lv_if_ne (tgt := 14) hx hb dX1_powerOfOddFactor_7 (by decide) (fun c_7 => ?_) (fun c_7 => ?_)
  · replace ho := ho.1 c_7
    refine lv_aload_n hx hb dX1_powerOfOddFactor_14 rfl (lv_at hl 1 rfl) ?_
    refine lv_iload_n hx hb dX1_powerOfOddFactor_15 rfl (lv_at hl 2 rfl) ?_
    refine ca_Vi (b := a_fl) (As := [.int p1]) (rest := []) ⟨hx, hb, hml, hown, hts⟩ (c_X1_power l D cI cJ cZ a_fl fl_e fl_f fl_bias fl_codes fl_signBit fl_endless p1 _ ho) (cwV 1 hts (gdV wl_238 wl_239 wl_240 wl_14 wl_241) rfl rfl rfl (by decide +kernel) ⟨hRf _ (Nat.le_of_ble_eq_true rfl), hRl _ (Nat.le_of_ble_eq_true rfl)⟩) hK hN hP [0] rfl 0 1 rfl rfl rfl rfl hl.1 rfl (Nat.le_of_ble_eq_true rfl) dX1_powerOfOddFactor_16 ⟨Nat.zero_le _, Nat.zero_le _⟩ (fun r16 ho => ?_)
    refine lv_iload_n hx hb dX1_powerOfOddFactor_19 rfl (lv_at hl 0 rfl) ?_
    refine ca_Si (As := [.int r2]) (rest := [.int r16]) ⟨hx, hb, hml, hown, hts⟩ (c_J6_numberOfTrailingZeros_0f7a4 l D cI cJ cZ   r2 _ ho) (va_cwS 1 hts (gdS wl_229 wl_230 wl_231 wl_232) rfl rfl rfl (by decide +kernel) ⟨hRf _ (Nat.le_of_ble_eq_true rfl), hRl _ (Nat.le_of_ble_eq_true rfl)⟩) hK hN hP [] rfl rfl hl.1 rfl (Nat.le_of_ble_eq_true rfl) dX1_powerOfOddFactor_20 ⟨Nat.zero_le _, Nat.zero_le _⟩ (fun r20 ho => ?_)
    refine lv_iadd hx hb dX1_powerOfOddFactor_23 ?_
    subst hQ; exact W.iret (v := (r16 + r20)) hx hb hr (fun t ht _ => ⟨(r16 + r20), rfl, ho, ht⟩) (fun _ h => by cases h) dX1_powerOfOddFactor_24
  · replace ho := ho.2 c_7
    refine lv_iconst (v := 0) hx hb dX1_powerOfOddFactor_10 (by decide) ?_
    refine lv_goto (tgt := 24) hx hb dX1_powerOfOddFactor_11 (by decide) ?_
    subst hQ; exact W.iret (v := (0 : Int32)) hx hb hr (fun t ht _ => ⟨(0 : Int32), rfl, ho, ht⟩) (fun _ h => by cases h) dX1_powerOfOddFactor_24

def w_X1_stepsFromZero : List Cond := .code yX1_stepsFromZero cX1_stepsFromZero 2 (some .int) :: wsL_law
set_option maxHeartbeats 4000000 in
set_option maxRecDepth 100000 in
theorem c_X1_stepsFromZero (l : Launch) (D : va_G) (cI cJ cZ : ClassId) (a_fl : Nat) (fl_e : Int32) (fl_f : Int32) (fl_bias : Int32) (fl_codes : Int32) (fl_signBit : Int32) (fl_endless : Int32) (p1 : Int32) (post : Int32 → Prop) (ho : wp_X1_stepsFromZero post fl_signBit p1) : Met l yX1_stepsFromZero w_X1_stepsFromZero ({ frames := 1, cells := 0, slots := 0, locals := 21 } : Room) (ro_P D [(cI, .int), (cJ, .long), (cZ, .boolean)] [.ref a_fl, .int p1] [(a_fl, oX1 fl_e fl_f fl_bias fl_codes fl_signBit fl_endless)]) (vp_Si post) 0 0 (fun _ => False) := by
  refine Met.ofW (cc := cX1_stepsFromZero) (maxL := 2) (ret := (some .int)) (by decide) rfl ?_
  intro p e s m args below meth c s₁ B hml hv
  obtain ⟨hargs, hP, hK, hN⟩ := hv
  have hx := B.exec
  have hb := B.bytes
  have hr := B.returns
  have hts : ∀ w ∈ wsL_law, w.before args s = true := fun w h => atoms_spec (ws := w_X1_stepsFromZero) B.pre w (List.mem_cons_of_mem _ h)
  have hown : s.vm.findClass RX1 = some m.cls := findClass_of_methodNamed B.named
  have hlocks := B.notSynchronized
  have hl := lv_entry ([.ref a_fl, .int p1]) (n := 2) (Nat.le_of_ble_eq_true rfl)
  rw [hargs, lg_entry_eq, ← hargs]
  generalize (lg_sl ([.ref a_fl, .int p1]) ++ List.replicate (2 - (lg_sl ([.ref a_fl, .int p1])).length) Slot.unset).toArray = ls at hl ⊢
  replace hl : lv_has ls 2 [(0, .ref a_fl), (1, .int p1)] := hl
  have hRf : ∀ n, n ≤ 1 → n ≤ (headSpec w_X1_stepsFromZero ({ frames := 1, cells := 0, slots := 0, locals := 21 } : Room)).room.frames := fun n h => h
  have hRl : ∀ n, n ≤ 21 → n ≤ (headSpec w_X1_stepsFromZero ({ frames := 1, cells := 0, slots := 0, locals := 21 } : Room)).room.locals := fun n h => h
  generalize (headSpec w_X1_stepsFromZero ({ frames := 1, cells := 0, slots := 0, locals := 21 } : Room)).room = R at hRf hRl ⊢
  generalize hQ : MQ below _ args s 0 0 _ = Q
  unfold wp_X1_stepsFromZero at ho
  refine lv_aload_n hx hb dX1_stepsFromZero_0 rfl (lv_at hl 0 rfl) ?_
  refine lv_iload_n hx hb dX1_stepsFromZero_1 rfl (lv_at hl 1 rfl) ?_
  refine ca_Vi (b := a_fl) (As := [.int p1]) (rest := []) ⟨hx, hb, hml, hown, hts⟩ (c_X1_isBelow l D cI cJ cZ a_fl fl_e fl_f fl_bias fl_codes fl_signBit fl_endless p1 _ ho) (cwV 1 hts (gdV wl_294 wl_204 wl_205 wl_14 wl_206) rfl rfl rfl (by decide +kernel) ⟨hRf _ (Nat.le_of_ble_eq_true rfl), hRl _ (Nat.le_of_ble_eq_true rfl)⟩) hK hN hP [0] rfl 0 1 rfl rfl rfl rfl hl.1 rfl (Nat.le_of_ble_eq_true rfl) dX1_stepsFromZero_2 ⟨Nat.zero_le _, Nat.zero_le _⟩ (fun r2 ho => ?_)
  refine lv_if_eq (tgt := 17) hx hb dX1_stepsFromZero_5 (by decide) (fun c_5 => ?_) (fun c_5 => ?_)
  · replace ho := ho.1 c_5
    refine lv_aload_n hx hb dX1_stepsFromZero_17 rfl (lv_at hl 0 rfl) ?_
    refine lv_iload_n hx hb dX1_stepsFromZero_18 rfl (lv_at hl 1 rfl) ?_
    refine ca_Vi (b := a_fl) (As := [.int p1]) (rest := []) ⟨hx, hb, hml, hown, hts⟩ (c_X1_amount l D cI cJ cZ a_fl fl_e fl_f fl_bias fl_codes fl_signBit fl_endless p1 _ ho) (cwV 1 hts (gdV wl_186 wl_187 wl_188 wl_14 wl_189) rfl rfl rfl (by decide +kernel) ⟨hRf _ (Nat.le_of_ble_eq_true rfl), hRl _ (Nat.le_of_ble_eq_true rfl)⟩) hK hN hP [0] rfl 0 1 rfl rfl rfl rfl hl.1 rfl (Nat.le_of_ble_eq_true rfl) dX1_stepsFromZero_19 ⟨Nat.zero_le _, Nat.zero_le _⟩ (fun r19 ho => ?_)
    subst hQ; exact W.iret (v := r19) hx hb hr (fun t ht _ => ⟨r19, rfl, ho, ht⟩) (fun _ h => by cases h) dX1_stepsFromZero_22
  · replace ho := ho.2 c_5
    refine lv_aload_n hx hb dX1_stepsFromZero_8 rfl (lv_at hl 0 rfl) ?_
    refine lv_iload_n hx hb dX1_stepsFromZero_9 rfl (lv_at hl 1 rfl) ?_
    refine ca_Vi (b := a_fl) (As := [.int p1]) (rest := []) ⟨hx, hb, hml, hown, hts⟩ (c_X1_amount l D cI cJ cZ a_fl fl_e fl_f fl_bias fl_codes fl_signBit fl_endless p1 _ ho) (cwV 1 hts (gdV wl_186 wl_187 wl_188 wl_14 wl_189) rfl rfl rfl (by decide +kernel) ⟨hRf _ (Nat.le_of_ble_eq_true rfl), hRl _ (Nat.le_of_ble_eq_true rfl)⟩) hK hN hP [0] rfl 0 1 rfl rfl rfl rfl hl.1 rfl (Nat.le_of_ble_eq_true rfl) dX1_stepsFromZero_10 ⟨Nat.zero_le _, Nat.zero_le _⟩ (fun r10 ho => ?_)
    refine lv_ineg hx hb dX1_stepsFromZero_13 ?_
    refine lv_goto (tgt := 22) hx hb dX1_stepsFromZero_14 (by decide) ?_
    subst hQ; exact W.iret (v := (-r10)) hx hb hr (fun t ht _ => ⟨(-r10), rfl, ho, ht⟩) (fun _ h => by cases h) dX1_stepsFromZero_22

def w_X1_codeAbove : List Cond := .code yX1_codeAbove cX1_codeAbove 3 (some .int) :: wsL_law
set_option maxHeartbeats 4000000 in
set_option maxRecDepth 100000 in
theorem c_X1_codeAbove (l : Launch) (D : va_G) (cI cJ cZ : ClassId) (a_fl : Nat) (fl_e : Int32) (fl_f : Int32) (fl_bias : Int32) (fl_codes : Int32) (fl_signBit : Int32) (fl_endless : Int32) (p1 : Int32) (post : Int32 → Prop) (ho : wp_X1_codeAbove post fl_signBit p1) : Met l yX1_codeAbove w_X1_codeAbove ({ frames := 2, cells := 0, slots := 0, locals := 42 } : Room) (ro_P D [(cI, .int), (cJ, .long), (cZ, .boolean)] [.ref a_fl, .int p1] [(a_fl, oX1 fl_e fl_f fl_bias fl_codes fl_signBit fl_endless)]) (vp_Si post) 0 0 (fun _ => False) := by
  refine Met.ofW (cc := cX1_codeAbove) (maxL := 3) (ret := (some .int)) (by decide) rfl ?_
  intro p e s m args below meth c s₁ B hml hv
  obtain ⟨hargs, hP, hK, hN⟩ := hv
  have hx := B.exec
  have hb := B.bytes
  have hr := B.returns
  have hts : ∀ w ∈ wsL_law, w.before args s = true := fun w h => atoms_spec (ws := w_X1_codeAbove) B.pre w (List.mem_cons_of_mem _ h)
  have hown : s.vm.findClass RX1 = some m.cls := findClass_of_methodNamed B.named
  have hlocks := B.notSynchronized
  have hl := lv_entry ([.ref a_fl, .int p1]) (n := 3) (Nat.le_of_ble_eq_true rfl)
  rw [hargs, lg_entry_eq, ← hargs]
  generalize (lg_sl ([.ref a_fl, .int p1]) ++ List.replicate (3 - (lg_sl ([.ref a_fl, .int p1])).length) Slot.unset).toArray = ls at hl ⊢
  replace hl : lv_has ls 3 [(0, .ref a_fl), (1, .int p1)] := hl
  have hRf : ∀ n, n ≤ 2 → n ≤ (headSpec w_X1_codeAbove ({ frames := 2, cells := 0, slots := 0, locals := 42 } : Room)).room.frames := fun n h => h
  have hRl : ∀ n, n ≤ 42 → n ≤ (headSpec w_X1_codeAbove ({ frames := 2, cells := 0, slots := 0, locals := 42 } : Room)).room.locals := fun n h => h
  generalize (headSpec w_X1_codeAbove ({ frames := 2, cells := 0, slots := 0, locals := 42 } : Room)).room = R at hRf hRl ⊢
  generalize hQ : MQ below _ args s 0 0 _ = Q
  unfold wp_X1_codeAbove at ho
  refine lv_aload_n hx hb dX1_codeAbove_0 rfl (lv_at hl 0 rfl) ?_
  refine lv_iload_n hx hb dX1_codeAbove_1 rfl (lv_at hl 1 rfl) ?_
  refine ca_Vi (b := a_fl) (As := [.int p1]) (rest := []) ⟨hx, hb, hml, hown, hts⟩ (c_X1_stepsFromZero l D cI cJ cZ a_fl fl_e fl_f fl_bias fl_codes fl_signBit fl_endless p1 _ ho) (cwV 1 hts (gdV wl_290 wl_291 wl_292 wl_14 wl_293) rfl rfl rfl (by decide +kernel) ⟨hRf _ (Nat.le_of_ble_eq_true rfl), hRl _ (Nat.le_of_ble_eq_true rfl)⟩) hK hN hP [0] rfl 0 1 rfl rfl rfl rfl hl.1 rfl (Nat.le_of_ble_eq_true rfl) dX1_codeAbove_2 ⟨Nat.zero_le _, Nat.zero_le _⟩ (fun r2 ho => ?_)
  refine lv_iconst (v := 1) hx hb dX1_codeAbove_5 (by decide) ?_
  refine lv_iadd hx hb dX1_codeAbove_6 ?_
  refine lv_istore_n (lv' := [(2, .int (r2 + (1 : Int32))), (0, .ref a_fl), (1, .int p1)]) hx hb dX1_codeAbove_7 rfl hl (by decide) rfl (fun ls hl => ?_)
  refine lv_iload_n hx hb dX1_codeAbove_8 rfl (lv_at hl 0 rfl) ?_
  refine lv_if_ge (tgt := 21) hx hb dX1_codeAbove_9 (by decide) (fun c_9 => ?_) (fun c_9 => ?_)
  · replace ho := ho.1 c_9
    refine lv_iload_n hx hb dX1_codeAbove_21 rfl (lv_at hl 0 rfl) ?_
    subst hQ; exact W.iret (v := (r2 + (1 : Int32))) hx hb hr (fun t ht _ => ⟨(r2 + (1 : Int32)), rfl, ho, ht⟩) (fun _ h => by cases h) dX1_codeAbove_22
  · replace ho := ho.2 c_9
    refine lv_aload_n hx hb dX1_codeAbove_12 rfl (lv_at hl 1 rfl) ?_
    refine va_get (D := D) (ci := 1) (v := .int fl_signBit) (C := RX1) (T := TX1) (N := 6) hx hb hts inlX1 hown hK hP 0 rfl rfl 4 (by decide) (hts _ wl_50) (fun _ h9 => h9) rfl dX1_codeAbove_13 ?_
    refine lv_iload_n hx hb dX1_codeAbove_16 rfl (lv_at hl 0 rfl) ?_
    refine lv_isub hx hb dX1_codeAbove_17 ?_
    refine lv_goto (tgt := 22) hx hb dX1_codeAbove_18 (by decide) ?_
    subst hQ; exact W.iret (v := (fl_signBit - (r2 + (1 : Int32)))) hx hb hr (fun t ht _ => ⟨(fl_signBit - (r2 + (1 : Int32))), rfl, ho, ht⟩) (fun _ h => by cases h) dX1_codeAbove_22
