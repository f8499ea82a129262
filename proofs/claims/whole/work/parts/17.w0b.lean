def w_X0_greatestHardness : List Cond := .code yX0_greatestHardness cX0_greatestHardness 3 (some .int) :: wsL_law
set_option maxHeartbeats 4000000 in
set_option maxRecDepth 100000 in
theorem c_X0_greatestHardness (l : Launch) (D : va_G) (cI cJ cZ : ClassId) (a_fl : Nat) (a_va : Nat) (a_ce : Nat) (a_ceT : Nat) (a_ceS : Nat) (a_ceH : Nat) (a_ceG : Nat) (a_ceV : Nat) (ceH_r : Nat → Int32) (p1 : Int32) (post : Int32 → Prop) (ho : wp_X0_greatestHardness post ceH_r p1) : Met l yX0_greatestHardness w_X0_greatestHardness ({ frames := 2, cells := 0, slots := 0, locals := 43 } : Room) (ro_P D [(cI, .int), (cJ, .long), (cZ, .boolean)] [.ref a_ce, .int p1] [(a_ce, oX0 a_fl a_va a_ceT a_ceS a_ceH a_ceG a_ceV), (a_ceH, .inl (cI, 50, .inl ceH_r))]) (vp_Si post) 0 0 (fun _ => False) := by
  refine Met.ofW (cc := cX0_greatestHardness) (maxL := 3) (ret := (some .int)) (by decide) rfl ?_
  intro p e s m args below meth c s₁ B hml hv
  obtain ⟨hargs, hP, hK, hN⟩ := hv
  have hx := B.exec
  have hb := B.bytes
  have hr := B.returns
  have hts : ∀ w ∈ wsL_law, w.before args s = true := fun w h => atoms_spec (ws := w_X0_greatestHardness) B.pre w (List.mem_cons_of_mem _ h)
  have hown : s.vm.findClass RX0 = some m.cls := findClass_of_methodNamed B.named
  have hlocks := B.notSynchronized
  have hl := lv_entry ([.ref a_ce, .int p1]) (n := 3) (Nat.le_of_ble_eq_true rfl)
  rw [hargs, lg_entry_eq, ← hargs]
  generalize (lg_sl ([.ref a_ce, .int p1]) ++ List.replicate (3 - (lg_sl ([.ref a_ce, .int p1])).length) Slot.unset).toArray = ls at hl ⊢
  replace hl : lv_has ls 3 [(0, .ref a_ce), (1, .int p1)] := hl
  have hRf : ∀ n, n ≤ 2 → n ≤ (headSpec w_X0_greatestHardness ({ frames := 2, cells := 0, slots := 0, locals := 43 } : Room)).room.frames := fun n h => h
  have hRl : ∀ n, n ≤ 43 → n ≤ (headSpec w_X0_greatestHardness ({ frames := 2, cells := 0, slots := 0, locals := 43 } : Room)).room.locals := fun n h => h
  generalize (headSpec w_X0_greatestHardness ({ frames := 2, cells := 0, slots := 0, locals := 43 } : Room)).room = R at hRf hRl ⊢
  generalize hQ : MQ below _ args s 0 0 _ = Q
  have C_3 : ∀ n : Nat, ∀ (x2 : Int32) (ls : Array Slot), wp_X0_greatestHardness_3 post  ceH_r p1 n x2 → lv_has ls 3 [(0, .ref a_ce), (1, .int p1), (2, .int x2)] → W p l e R s m args below meth c s.heap [] 0 0 Q (F0 m 3 ls []) := by
    intro n
    induction n with
    | zero => intro x2 ls ho hl; exact ho.elim
    | succ n_3 ih_3 =>
      intro x2 ls ho hl
      replace ho : wp_X0_greatestHardness_3_b post ceH_r p1 (wp_X0_greatestHardness_3 post ceH_r p1 n_3) x2 := ho
      unfold wp_X0_greatestHardness_3_b at ho
      refine lv_iload_n hx hb dX0_greatestHardness_3 rfl (lv_at hl 2 rfl) ?_
      refine lv_if_le (tgt := 22) hx hb dX0_greatestHardness_4 (by decide) (fun c_4 => ?_) (fun c_4 => ?_)
      · replace ho := ho.1 c_4
        refine lv_iload_n hx hb dX0_greatestHardness_22 rfl (lv_at hl 2 rfl) ?_
        subst hQ; exact W.iret (v := x2) hx hb hr (fun t ht _ => ⟨x2, rfl, ho, ht⟩) (fun _ h => by cases h) dX0_greatestHardness_23
      · replace ho := ho.2 c_4
        refine lv_aload_n hx hb dX0_greatestHardness_7 rfl (lv_at hl 0 rfl) ?_
        refine lv_iload_n hx hb dX0_greatestHardness_8 rfl (lv_at hl 1 rfl) ?_
        refine lv_iload_n hx hb dX0_greatestHardness_9 rfl (lv_at hl 2 rfl) ?_
        refine ca_Vi (b := a_ce) (As := [.int p1, .int x2]) (rest := []) ⟨hx, hb, hml, hown, hts⟩ (c_X0_ofHardness l D cI cJ cZ a_fl a_va a_ce a_ceT a_ceS a_ceH a_ceG a_ceV ceH_r p1 x2 _ ho) (cwV 2 hts (gdV wl_564 wl_565 wl_566 wl_26 wl_567) rfl rfl rfl (by decide +kernel) ⟨hRf _ (Nat.le_of_ble_eq_true rfl), hRl _ (Nat.le_of_ble_eq_true rfl)⟩) hK hN hP [0, 1] rfl 0 0 rfl rfl rfl rfl hl.1 rfl (Nat.le_of_ble_eq_true rfl) dX0_greatestHardness_10 ⟨Nat.zero_le _, Nat.zero_le _⟩ (fun r10 ho => ?_)
        refine lv_if_ne (tgt := 22) hx hb dX0_greatestHardness_13 (by decide) (fun c_13 => ?_) (fun c_13 => ?_)
        · replace ho := ho.1 c_13
          refine lv_iload_n hx hb dX0_greatestHardness_22 rfl (lv_at hl 2 rfl) ?_
          subst hQ; exact W.iret (v := x2) hx hb hr (fun t ht _ => ⟨x2, rfl, ho, ht⟩) (fun _ h => by cases h) dX0_greatestHardness_23
        · replace ho := ho.2 c_13
          refine lv_iinc (v := (x2 + (-1 : Int32))) (lv' := [(2, .int (x2 + (-1 : Int32))), (0, .ref a_ce), (1, .int p1)]) hx hb dX0_greatestHardness_16 hl (k := 2) rfl rfl (by decide) rfl (fun ls hl => ?_)
          refine lv_goto (tgt := 3) hx hb dX0_greatestHardness_19 (by decide) ?_
          exact ih_3 (x2 + (-1 : Int32)) ls ho (lv_sub hl [1, 2, 0] rfl)
  unfold wp_X0_greatestHardness at ho
  refine lv_bipush (v := 9) hx hb dX0_greatestHardness_0 (by decide) ?_
  refine lv_istore_n (lv' := [(2, .int (9 : Int32)), (0, .ref a_ce), (1, .int p1)]) hx hb dX0_greatestHardness_2 rfl hl (by decide) rfl (fun ls hl => ?_)
  obtain ⟨n_3, ho⟩ := ho
  exact C_3 n_3 (9 : Int32) ls ho (lv_sub hl [1, 2, 0] rfl)

def w_X0_inBlock : List Cond := .code yX0_inBlock cX0_inBlock 5 (some .int) :: wsL_law
set_option maxHeartbeats 4000000 in
set_option maxRecDepth 100000 in
theorem c_X0_inBlock (l : Launch) (D : va_G) (cI cJ cZ : ClassId) (a_fl : Nat) (a_va : Nat) (a_ce : Nat) (a_ceT : Nat) (a_ceS : Nat) (a_ceH : Nat) (a_ceG : Nat) (a_ceV : Nat) (ceG_r : Nat → Int32) (ceV_r : Nat → Int32) (p1 : Int32) (p2 : Int32) (p3 : Int32) (post : Int32 → Prop) (ho : wp_X0_inBlock post ceG_r ceV_r p1 p2 p3) : Met l yX0_inBlock w_X0_inBlock ({ frames := 1, cells := 0, slots := 0, locals := 21 } : Room) (ro_P D [(cI, .int), (cJ, .long), (cZ, .boolean)] [.ref a_ce, .int p1, .int p2, .int p3] [(a_ce, oX0 a_fl a_va a_ceT a_ceS a_ceH a_ceG a_ceV), (a_ceG, .inl (cI, 320, .inl ceG_r)), (a_ceV, .inl (cI, 320, .inl ceV_r))]) (vp_Si post) 0 0 (fun _ => False) := by
  refine Met.ofW (cc := cX0_inBlock) (maxL := 5) (ret := (some .int)) (by decide) rfl ?_
  intro p e s m args below meth c s₁ B hml hv
  obtain ⟨hargs, hP, hK, hN⟩ := hv
  have hx := B.exec
  have hb := B.bytes
  have hr := B.returns
  have hts : ∀ w ∈ wsL_law, w.before args s = true := fun w h => atoms_spec (ws := w_X0_inBlock) B.pre w (List.mem_cons_of_mem _ h)
  have hown : s.vm.findClass RX0 = some m.cls := findClass_of_methodNamed B.named
  have hlocks := B.notSynchronized
  have hl := lv_entry ([.ref a_ce, .int p1, .int p2, .int p3]) (n := 5) (Nat.le_of_ble_eq_true rfl)
  rw [hargs, lg_entry_eq, ← hargs]
  generalize (lg_sl ([.ref a_ce, .int p1, .int p2, .int p3]) ++ List.replicate (5 - (lg_sl ([.ref a_ce, .int p1, .int p2, .int p3])).length) Slot.unset).toArray = ls at hl ⊢
  replace hl : lv_has ls 5 [(0, .ref a_ce), (1, .int p1), (2, .int p2), (3, .int p3)] := hl
  have hRf : ∀ n, n ≤ 1 → n ≤ (headSpec w_X0_inBlock ({ frames := 1, cells := 0, slots := 0, locals := 21 } : Room)).room.frames := fun n h => h
  have hRl : ∀ n, n ≤ 21 → n ≤ (headSpec w_X0_inBlock ({ frames := 1, cells := 0, slots := 0, locals := 21 } : Room)).room.locals := fun n h => h
  generalize (headSpec w_X0_inBlock ({ frames := 1, cells := 0, slots := 0, locals := 21 } : Room)).room = R at hRf hRl ⊢
  generalize hQ : MQ below _ args s 0 0 _ = Q
  unfold wp_X0_inBlock at ho
  refine lv_iload_n hx hb dX0_inBlock_0 rfl (lv_at hl 1 rfl) ?_
  refine lv_bipush (v := 64) hx hb dX0_inBlock_1 (by decide) ?_
  refine lv_imul hx hb dX0_inBlock_3 ?_
  refine lv_iload_n hx hb dX0_inBlock_4 rfl (lv_at hl 2 rfl) ?_
  refine lv_iadd hx hb dX0_inBlock_5 ?_
  refine lv_istore (lv' := [(4, .int ((p1 * (64 : Int32)) + p2)), (0, .ref a_ce), (1, .int p1), (2, .int p2), (3, .int p3)]) hx hb dX0_inBlock_6 hl (by decide) rfl (fun ls hl => ?_)
  refine lv_aload_n hx hb dX0_inBlock_8 rfl (lv_at hl 1 rfl) ?_
  refine va_get (D := D) (ci := 0) (v := .ref a_ceG) (C := RX0) (T := TX0) (N := 7) hx hb hts inlX0 hown hK hP 0 rfl rfl 5 (by decide) (hts _ wl_74) (fun _ h9 => h9) rfl dX0_inBlock_9 ?_
  refine lv_iload hx hb dX0_inBlock_12 (lv_at hl 0 rfl) ?_
  refine ca_Si (As := [.ref a_ceG, .int ((p1 * (64 : Int32)) + p2)]) (rest := []) ⟨hx, hb, hml, hown, hts⟩ (c_X4_at l D cI cJ cZ a_ceG 320 ceG_r ((p1 * (64 : Int32)) + p2) _ ho) (va_cwS 2 hts (gdS wl_546 wl_137 wl_134 wl_138) rfl rfl rfl (by decide +kernel) ⟨hRf _ (Nat.le_of_ble_eq_true rfl), hRl _ (Nat.le_of_ble_eq_true rfl)⟩) hK hN hP [1] rfl rfl hl.1 rfl (Nat.le_of_ble_eq_true rfl) dX0_inBlock_14 ⟨Nat.zero_le _, Nat.zero_le _⟩ (fun r14 ho => ?_)
  refine lv_iload_n hx hb dX0_inBlock_17 rfl (lv_at hl 4 rfl) ?_
  refine lv_icmp_ne (tgt := 33) hx hb dX0_inBlock_18 (by decide) (fun c_18 => ?_) (fun c_18 => ?_)
  · replace ho := ho.1 c_18
    refine lv_iconst (v := 0) hx hb dX0_inBlock_33 (by decide) ?_
    subst hQ; exact W.iret (v := (0 : Int32)) hx hb hr (fun t ht _ => ⟨(0 : Int32), rfl, ho, ht⟩) (fun _ h => by cases h) dX0_inBlock_34
  · replace ho := ho.2 c_18
    refine lv_aload_n hx hb dX0_inBlock_21 rfl (lv_at hl 1 rfl) ?_
    refine va_get (D := D) (ci := 0) (v := .ref a_ceV) (C := RX0) (T := TX0) (N := 7) hx hb hts inlX0 hown hK hP 0 rfl rfl 6 (by decide) (hts _ wl_75) (fun _ h9 => h9) rfl dX0_inBlock_22 ?_
    refine lv_iload hx hb dX0_inBlock_25 (lv_at hl 0 rfl) ?_
    refine ca_Si (As := [.ref a_ceV, .int ((p1 * (64 : Int32)) + p2)]) (rest := []) ⟨hx, hb, hml, hown, hts⟩ (c_X4_at l D cI cJ cZ a_ceV 320 ceV_r ((p1 * (64 : Int32)) + p2) _ ho) (va_cwS 2 hts (gdS wl_546 wl_137 wl_134 wl_138) rfl rfl rfl (by decide +kernel) ⟨hRf _ (Nat.le_of_ble_eq_true rfl), hRl _ (Nat.le_of_ble_eq_true rfl)⟩) hK hN hP [2] rfl rfl hl.1 rfl (Nat.le_of_ble_eq_true rfl) dX0_inBlock_27 ⟨Nat.zero_le _, Nat.zero_le _⟩ (fun r27 ho => ?_)
    refine lv_goto (tgt := 34) hx hb dX0_inBlock_30 (by decide) ?_
    subst hQ; exact W.iret (v := r27) hx hb hr (fun t ht _ => ⟨r27, rfl, ho, ht⟩) (fun _ h => by cases h) dX0_inBlock_34

def w_X0_hardestCode : List Cond := .code yX0_hardestCode cX0_hardestCode 7 (some .int) :: wsL_law
set_option maxHeartbeats 4000000 in
set_option maxRecDepth 100000 in
theorem c_X0_hardestCode (l : Launch) (D : va_G) (cI cJ cZ : ClassId) (a_fl : Nat) (a_va : Nat) (a_p2 : Nat) (a_ce : Nat) (a_ceT : Nat) (a_ceS : Nat) (a_ceH : Nat) (a_ceG : Nat) (a_ceV : Nat) (sz : Nat) (fl_e : Int32) (fl_f : Int32) (fl_bias : Int32) (fl_codes : Int32) (fl_signBit : Int32) (fl_endless : Int32) (va_m : Int64) (va_x : Int32) (va_more : Int32) (va_laid : Int32) (va_below : Int32) (va_settled : Int32) (va_sort : Int32) (p2_lower : Int32) (p2_way : Int32) (p2_more : Int32) (p2_beyond : Int32) (ceH_r : Nat → Int32) (ceG_r : Nat → Int32) (ceV_r : Nat → Int32) (p1 : Int32) (p2 : Int32) (post : Int32 → Int64 → Int32 → Int32 → Int32 → Int32 → Int32 → Int32 → Int32 → Int32 → Int32 → Int32 → Prop) (A : Nat → Prop) (hAe : A = va_A [(a_fl, oX1 fl_e fl_f fl_bias fl_codes fl_signBit fl_endless), (a_va, oX6 a_fl a_p2 va_m va_x va_more va_laid va_below va_settled va_sort), (a_p2, oX3 a_fl p2_lower p2_way p2_more p2_beyond), (a_ce, oX0 a_fl a_va a_ceT a_ceS a_ceH a_ceG a_ceV), (a_ceH, .inl (cI, 50, .inl ceH_r)), (a_ceG, .inl (cI, 320, .inl ceG_r)), (a_ceV, .inl (cI, 320, .inl ceV_r))] sz) (ho : wp_X0_hardestCode post fl_f fl_bias fl_codes fl_signBit fl_endless va_m va_x va_more va_laid va_below va_settled va_sort p2_lower p2_way p2_more p2_beyond ceH_r ceG_r ceV_r p1 p2) : Met l yX0_hardestCode w_X0_hardestCode ({ frames := 4, cells := 0, slots := 0, locals := 103 } : Room) (rw_P D [(cI, .int), (cJ, .long), (cZ, .boolean)] [.ref a_ce, .int p1, .int p2] sz [(a_fl, oX1 fl_e fl_f fl_bias fl_codes fl_signBit fl_endless), (a_va, oX6 a_fl a_p2 va_m va_x va_more va_laid va_below va_settled va_sort), (a_p2, oX3 a_fl p2_lower p2_way p2_more p2_beyond), (a_ce, oX0 a_fl a_va a_ceT a_ceS a_ceH a_ceG a_ceV), (a_ceH, .inl (cI, 50, .inl ceH_r)), (a_ceG, .inl (cI, 320, .inl ceG_r)), (a_ceV, .inl (cI, 320, .inl ceV_r))]) (va_Qi (fun (r : Int32) (u : (Int64) × (Int32) × (Int32) × (Int32) × (Int32) × (Int32) × (Int32) × (Int32) × (Int32) × (Int32) × (Int32)) => post r u.1 u.2.1 u.2.2.1 u.2.2.2.1 u.2.2.2.2.1 u.2.2.2.2.2.1 u.2.2.2.2.2.2.1 u.2.2.2.2.2.2.2.1 u.2.2.2.2.2.2.2.2.1 u.2.2.2.2.2.2.2.2.2.1 u.2.2.2.2.2.2.2.2.2.2) (rw_B D A (fun (u : (Int64) × (Int32) × (Int32) × (Int32) × (Int32) × (Int32) × (Int32) × (Int32) × (Int32) × (Int32) × (Int32)) => [(a_fl, oX1 fl_e fl_f fl_bias fl_codes fl_signBit fl_endless), (a_va, oX6 a_fl a_p2 u.1 u.2.1 u.2.2.1 u.2.2.2.1 u.2.2.2.2.1 u.2.2.2.2.2.1 u.2.2.2.2.2.2.1), (a_p2, oX3 a_fl u.2.2.2.2.2.2.2.1 u.2.2.2.2.2.2.2.2.1 u.2.2.2.2.2.2.2.2.2.1 u.2.2.2.2.2.2.2.2.2.2), (a_ce, oX0 a_fl a_va a_ceT a_ceS a_ceH a_ceG a_ceV), (a_ceH, .inl (cI, 50, .inl ceH_r)), (a_ceG, .inl (cI, 320, .inl ceG_r)), (a_ceV, .inl (cI, 320, .inl ceV_r))])) A) 0 0 A := by
  refine Met.ofW (cc := cX0_hardestCode) (maxL := 7) (ret := (some .int)) (by decide) rfl ?_
  intro p e s m args below meth c s₁ B hml hv
  obtain ⟨hargs, hsz, hP, hK, hN, hD0⟩ := hv
  have hx := B.exec
  have hb := B.bytes
  have hr := B.returns
  have hts : ∀ w ∈ wsL_law, w.before args s = true := fun w h => atoms_spec (ws := w_X0_hardestCode) B.pre w (List.mem_cons_of_mem _ h)
  have hown : s.vm.findClass RX0 = some m.cls := findClass_of_methodNamed B.named
  have hlocks := B.notSynchronized
  subst hsz
  have hD : va_D A [(a_fl, oX1 fl_e fl_f fl_bias fl_codes fl_signBit fl_endless), (a_va, oX6 a_fl a_p2 va_m va_x va_more va_laid va_below va_settled va_sort), (a_p2, oX3 a_fl p2_lower p2_way p2_more p2_beyond), (a_ce, oX0 a_fl a_va a_ceT a_ceS a_ceH a_ceG a_ceV), (a_ceH, .inl (cI, 50, .inl ceH_r)), (a_ceG, .inl (cI, 320, .inl ceG_r)), (a_ceV, .inl (cI, 320, .inl ceV_r))] := by rw [hAe]; exact hD0.self
  have hA : ∀ q : Nat, s.heap.size ≤ q → A q := fun q h => by rw [hAe]; exact Or.inr h
  have hS : va_S A s.heap s.heap [] := va_S.rf
  have hl := lv_entry ([.ref a_ce, .int p1, .int p2]) (n := 7) (Nat.le_of_ble_eq_true rfl)
  rw [hargs, lg_entry_eq, ← hargs]
  generalize (lg_sl ([.ref a_ce, .int p1, .int p2]) ++ List.replicate (7 - (lg_sl ([.ref a_ce, .int p1, .int p2])).length) Slot.unset).toArray = ls at hl ⊢
  replace hl : lv_has ls 7 [(0, .ref a_ce), (1, .int p1), (2, .int p2)] := hl
  have hRf : ∀ n, n ≤ 4 → n ≤ (headSpec w_X0_hardestCode ({ frames := 4, cells := 0, slots := 0, locals := 103 } : Room)).room.frames := fun n h => h
  have hRl : ∀ n, n ≤ 103 → n ≤ (headSpec w_X0_hardestCode ({ frames := 4, cells := 0, slots := 0, locals := 103 } : Room)).room.locals := fun n h => h
  generalize (headSpec w_X0_hardestCode ({ frames := 4, cells := 0, slots := 0, locals := 103 } : Room)).room = R at hRf hRl ⊢
  generalize hQ : MQ below _ args s 0 0 _ = Q
  have C_75 : ∀ n : Nat, ∀ (va_m : Int64) (va_x : Int32) (va_more : Int32) (va_laid : Int32) (va_below : Int32) (va_settled : Int32) (va_sort : Int32) (p2_lower : Int32) (p2_way : Int32) (p2_more : Int32) (p2_beyond : Int32) (x3 : Int32) (x4 : Int32) (x6 : Int32) (H : Heap) (locs : List Loc) (ls : Array Slot), wp_X0_hardestCode_75 post  fl_f fl_bias fl_codes fl_signBit fl_endless p1 n va_m va_x va_more va_laid va_below va_settled va_sort p2_lower p2_way p2_more p2_beyond x3 x4 x6 → va_P D vwCl [(a_fl, oX1 fl_e fl_f fl_bias fl_codes fl_signBit fl_endless), (a_va, oX6 a_fl a_p2 va_m va_x va_more va_laid va_below va_settled va_sort), (a_p2, oX3 a_fl p2_lower p2_way p2_more p2_beyond), (a_ce, oX0 a_fl a_va a_ceT a_ceS a_ceH a_ceG a_ceV), (a_ceH, .inl (cI, 50, .inl ceH_r)), (a_ceG, .inl (cI, 320, .inl ceG_r)), (a_ceV, .inl (cI, 320, .inl ceV_r))] H → va_D A [(a_fl, oX1 fl_e fl_f fl_bias fl_codes fl_signBit fl_endless), (a_va, oX6 a_fl a_p2 va_m va_x va_more va_laid va_below va_settled va_sort), (a_p2, oX3 a_fl p2_lower p2_way p2_more p2_beyond), (a_ce, oX0 a_fl a_va a_ceT a_ceS a_ceH a_ceG a_ceV), (a_ceH, .inl (cI, 50, .inl ceH_r)), (a_ceG, .inl (cI, 320, .inl ceG_r)), (a_ceV, .inl (cI, 320, .inl ceV_r))] → va_S A s.heap H locs → lv_has ls 7 [(0, .ref a_ce), (1, .int p1), (3, .int x3), (4, .int x4), (6, .int x6)] → W p l e R s m args below meth c H locs 0 0 Q (F0 m 75 ls []) := by
    intro n
    induction n with
    | zero => intro va_m va_x va_more va_laid va_below va_settled va_sort p2_lower p2_way p2_more p2_beyond x3 x4 x6 H locs ls ho hP hD hS hl; exact ho.elim
    | succ n_75 ih_75 =>
      have C_115 : ∀ (va_m : Int64) (va_x : Int32) (va_more : Int32) (va_laid : Int32) (va_below : Int32) (va_settled : Int32) (va_sort : Int32) (p2_lower : Int32) (p2_way : Int32) (p2_more : Int32) (p2_beyond : Int32) (x3 : Int32) (x6 : Int32) (y0 : Int32) (y1 : Int32) (H : Heap) (locs : List Loc) (ls : Array Slot), wp_X0_hardestCode_115 post (wp_X0_hardestCode_75 post fl_f fl_bias fl_codes fl_signBit fl_endless p1 n_75) va_m va_x va_more va_laid va_below va_settled va_sort p2_lower p2_way p2_more p2_beyond x3 x6 y0 y1 → va_P D vwCl [(a_fl, oX1 fl_e fl_f fl_bias fl_codes fl_signBit fl_endless), (a_va, oX6 a_fl a_p2 va_m va_x va_more va_laid va_below va_settled va_sort), (a_p2, oX3 a_fl p2_lower p2_way p2_more p2_beyond), (a_ce, oX0 a_fl a_va a_ceT a_ceS a_ceH a_ceG a_ceV), (a_ceH, .inl (cI, 50, .inl ceH_r)), (a_ceG, .inl (cI, 320, .inl ceG_r)), (a_ceV, .inl (cI, 320, .inl ceV_r))] H → va_D A [(a_fl, oX1 fl_e fl_f fl_bias fl_codes fl_signBit fl_endless), (a_va, oX6 a_fl a_p2 va_m va_x va_more va_laid va_below va_settled va_sort), (a_p2, oX3 a_fl p2_lower p2_way p2_more p2_beyond), (a_ce, oX0 a_fl a_va a_ceT a_ceS a_ceH a_ceG a_ceV), (a_ceH, .inl (cI, 50, .inl ceH_r)), (a_ceG, .inl (cI, 320, .inl ceG_r)), (a_ceV, .inl (cI, 320, .inl ceV_r))] → va_S A s.heap H locs → lv_has ls 7 [(0, .ref a_ce), (1, .int p1), (3, .int x3), (6, .int x6)] → W p l e R s m args below meth c H locs 0 0 Q (F0 m 115 ls [.int y0, .int y1]) := by
        intro va_m va_x va_more va_laid va_below va_settled va_sort p2_lower p2_way p2_more p2_beyond x3 x6 y0 y1 H locs ls ho hP hD hS hl
        unfold wp_X0_hardestCode_115 at ho
        refine lv_isub hx hb dX0_hardestCode_115 ?_
        refine lv_istore (lv' := [(4, .int (y1 - y0)), (0, .ref a_ce), (1, .int p1), (3, .int x3), (6, .int x6)]) hx hb dX0_hardestCode_116 hl (by decide) rfl (fun ls hl => ?_)
        refine lv_iload hx hb dX0_hardestCode_118 (lv_at hl 0 rfl) ?_
        refine lv_if_ge (tgt := 126) hx hb dX0_hardestCode_120 (by decide) (fun c_120 => ?_) (fun c_120 => ?_)
        · replace ho := ho.1 c_120
          refine lv_iinc (v := (x6 + (1 : Int32))) (lv' := [(6, .int (x6 + (1 : Int32))), (4, .int (y1 - y0)), (0, .ref a_ce), (1, .int p1), (3, .int x3)]) hx hb dX0_hardestCode_126 hl (k := 4) rfl rfl (by decide) rfl (fun ls hl => ?_)
          refine lv_goto (tgt := 75) hx hb dX0_hardestCode_129 (by decide) ?_
          exact ih_75 va_m va_x va_more va_laid va_below va_settled va_sort p2_lower p2_way p2_more p2_beyond x3 (y1 - y0) (x6 + (1 : Int32)) H locs ls ho hP hD hS (lv_sub hl [2, 3, 4, 1, 0] rfl)
        · replace ho := ho.2 c_120
          refine lv_iload hx hb dX0_hardestCode_123 (lv_at hl 4 rfl) ?_
          subst hQ; exact W.iret (v := x6) hx hb hr (fun t ht hW => ⟨⟨x6, (va_m, va_x, va_more, va_laid, va_below, va_settled, va_sort, p2_lower, p2_way, p2_more, p2_beyond), rfl, ho, by rw [ht]; exact hP, hD⟩, hS.F ht⟩) (fun q hq => hS.2.2 q hq) dX0_hardestCode_125
      intro va_m va_x va_more va_laid va_below va_settled va_sort p2_lower p2_way p2_more p2_beyond x3 x4 x6 H locs ls ho hP hD hS hl
      replace ho : wp_X0_hardestCode_75_b post fl_f fl_bias fl_codes fl_signBit fl_endless p1 (wp_X0_hardestCode_75 post fl_f fl_bias fl_codes fl_signBit fl_endless p1 n_75) va_m va_x va_more va_laid va_below va_settled va_sort p2_lower p2_way p2_more p2_beyond x3 x4 x6 := ho
      unfold wp_X0_hardestCode_75_b at ho
      refine lv_iload hx hb dX0_hardestCode_75 (lv_at hl 4 rfl) ?_
      refine lv_aload_n hx hb dX0_hardestCode_77 rfl (lv_at hl 0 rfl) ?_
      refine va_get (D := D) (ci := 0) (v := .ref a_fl) (C := RX0) (T := TX0) (N := 7) hx hb hts inlX0 hown hK hP 3 rfl rfl 0 (by decide) (hts _ wl_69) (fun _ h9 => h9) rfl dX0_hardestCode_78 ?_
      refine va_getN (D := D) (ci := 1) (v := .int fl_codes) (C := RX1) (T := TX1) (N := 6) hx hb hts inlX1 hown hK hP 0 rfl rfl 3 (by decide) hN.fRX0_51 (fun _ h9 => h9) rfl dX0_hardestCode_81 ?_
      refine lv_icmp_ge (tgt := 132) hx hb dX0_hardestCode_84 (by decide) (fun c_84 => ?_) (fun c_84 => ?_)
      · replace ho := ho.1 c_84
        refine lv_bipush (v := (-9)) hx hb dX0_hardestCode_132 (by decide) ?_
        subst hQ; exact W.iret (v := (-9 : Int32)) hx hb hr (fun t ht hW => ⟨⟨(-9 : Int32), (va_m, va_x, va_more, va_laid, va_below, va_settled, va_sort, p2_lower, p2_way, p2_more, p2_beyond), rfl, ho, by rw [ht]; exact hP, hD⟩, hS.F ht⟩) (fun q hq => hS.2.2 q hq) dX0_hardestCode_134
      · replace ho := ho.2 c_84
        refine lv_aload_n hx hb dX0_hardestCode_87 rfl (lv_at hl 0 rfl) ?_
        refine va_get (D := D) (ci := 0) (v := .ref a_va) (C := RX0) (T := TX0) (N := 7) hx hb hts inlX0 hown hK hP 3 rfl rfl 1 (by decide) (hts _ wl_70) (fun _ h9 => h9) rfl dX0_hardestCode_88 ?_
        refine lv_iload_n hx hb dX0_hardestCode_91 rfl (lv_at hl 1 rfl) ?_
        refine lv_iload hx hb dX0_hardestCode_92 (lv_at hl 4 rfl) ?_
        refine ca_Wv (b := a_va) (As := [.int p1, .int x6]) (rest := []) (wr := [(a_ce, oX0 a_fl a_va a_ceT a_ceS a_ceH a_ceG a_ceV), (a_ceH, .inl (cI, 50, .inl ceH_r)), (a_ceG, .inl (cI, 320, .inl ceG_r)), (a_ceV, .inl (cI, 320, .inl ceV_r))]) (wo := fun (u : (Int64) × (Int32) × (Int32) × (Int32) × (Int32) × (Int32) × (Int32) × (Int32) × (Int32) × (Int32) × (Int32)) => [(a_fl, oX1 fl_e fl_f fl_bias fl_codes fl_signBit fl_endless), (a_va, oX6 a_fl a_p2 u.1 u.2.1 u.2.2.1 u.2.2.2.1 u.2.2.2.2.1 u.2.2.2.2.2.1 u.2.2.2.2.2.2.1), (a_p2, oX3 a_fl u.2.2.2.2.2.2.2.1 u.2.2.2.2.2.2.2.2.1 u.2.2.2.2.2.2.2.2.2.1 u.2.2.2.2.2.2.2.2.2.2)]) (wn := fun (u : (Int64) × (Int32) × (Int32) × (Int32) × (Int32) × (Int32) × (Int32) × (Int32) × (Int32) × (Int32) × (Int32)) => [(a_fl, oX1 fl_e fl_f fl_bias fl_codes fl_signBit fl_endless), (a_va, oX6 a_fl a_p2 u.1 u.2.1 u.2.2.1 u.2.2.2.1 u.2.2.2.2.1 u.2.2.2.2.2.1 u.2.2.2.2.2.2.1), (a_p2, oX3 a_fl u.2.2.2.2.2.2.2.1 u.2.2.2.2.2.2.2.2.1 u.2.2.2.2.2.2.2.2.2.1 u.2.2.2.2.2.2.2.2.2.2), (a_ce, oX0 a_fl a_va a_ceT a_ceS a_ceH a_ceG a_ceV), (a_ceH, .inl (cI, 50, .inl ceH_r)), (a_ceG, .inl (cI, 320, .inl ceG_r)), (a_ceV, .inl (cI, 320, .inl ceV_r))]) ⟨hx, hb, hml, hown, hts⟩ (c_X6_read l D cI cJ cZ a_fl a_va a_p2 H.size fl_e fl_f fl_bias fl_codes fl_signBit fl_endless va_m va_x va_more va_laid va_below va_settled va_sort p2_lower p2_way p2_more p2_beyond p1 x6 _ _ rfl ho) (cwV 2 hts (gdV wl_548 wl_412 wl_413 wl_22 wl_414) rfl rfl rfl (by decide +kernel) ⟨hRf _ (Nat.le_of_ble_eq_true rfl), hRl _ (Nat.le_of_ble_eq_true rfl)⟩) hK hN hP hD hS hA [0, 1, 2] [3, 4, 5, 6] [4, 5, 6, 0, 1, 2, 3] rfl rfl (by decide) (by decide) (by decide) (by decide) (fun _ => rfl) 1 5 rfl rfl rfl rfl hl.1 rfl (Nat.le_of_ble_eq_true rfl) dX0_hardestCode_94 ⟨Nat.zero_le _, Nat.zero_le _⟩ (fun  u94 H locs ho hP hD hS => ?_)
        obtain ⟨u94_1, u94_2, u94_3, u94_4, u94_5, u94_6, u94_7, u94_8, u94_9, u94_10, u94_11⟩ := u94
        try dsimp only at ho
        replace hP : va_P D vwCl [(a_fl, oX1 fl_e fl_f fl_bias fl_codes fl_signBit fl_endless), (a_va, oX6 a_fl a_p2 u94_1 u94_2 u94_3 u94_4 u94_5 u94_6 u94_7), (a_p2, oX3 a_fl u94_8 u94_9 u94_10 u94_11), (a_ce, oX0 a_fl a_va a_ceT a_ceS a_ceH a_ceG a_ceV), (a_ceH, .inl (cI, 50, .inl ceH_r)), (a_ceG, .inl (cI, 320, .inl ceG_r)), (a_ceV, .inl (cI, 320, .inl ceV_r))] H := hP
        replace hD : va_D A [(a_fl, oX1 fl_e fl_f fl_bias fl_codes fl_signBit fl_endless), (a_va, oX6 a_fl a_p2 u94_1 u94_2 u94_3 u94_4 u94_5 u94_6 u94_7), (a_p2, oX3 a_fl u94_8 u94_9 u94_10 u94_11), (a_ce, oX0 a_fl a_va a_ceT a_ceS a_ceH a_ceG a_ceV), (a_ceH, .inl (cI, 50, .inl ceH_r)), (a_ceG, .inl (cI, 320, .inl ceG_r)), (a_ceV, .inl (cI, 320, .inl ceV_r))] := hD
        refine lv_iload hx hb dX0_hardestCode_97 (lv_at hl 3 rfl) ?_
        refine lv_aload_n hx hb dX0_hardestCode_99 rfl (lv_at hl 0 rfl) ?_
        refine va_get (D := D) (ci := 0) (v := .ref a_va) (C := RX0) (T := TX0) (N := 7) hx hb hts inlX0 hown hK hP 3 rfl rfl 1 (by decide) (hts _ wl_70) (fun _ h9 => h9) rfl dX0_hardestCode_100 ?_
        refine ca_Vi (b := a_va) (As := []) (rest := [.int x4]) ⟨hx, hb, hml, hown, hts⟩ (c_X6_hardnessRead l D cI cJ cZ a_fl a_va a_p2 fl_e fl_f fl_bias fl_codes fl_signBit fl_endless u94_1 u94_2 u94_3 u94_4 u94_5 u94_6 u94_7 u94_8 u94_9 u94_10 u94_11  _ ho) (cwV 0 hts (gdV wl_549 wl_526 wl_527 wl_22 wl_528) rfl rfl rfl (by decide +kernel) ⟨hRf _ (Nat.le_of_ble_eq_true rfl), hRl _ (Nat.le_of_ble_eq_true rfl)⟩) hK hN hP [0, 1, 2] rfl 1 5 rfl rfl rfl rfl hl.1 rfl (Nat.le_of_ble_eq_true rfl) dX0_hardestCode_103 ⟨Nat.zero_le _, Nat.zero_le _⟩ (fun r103 ho => ?_)
        refine lv_iload_n hx hb dX0_hardestCode_106 rfl (lv_at hl 2 rfl) ?_
        refine lv_icmp_ne (tgt := 114) hx hb dX0_hardestCode_107 (by decide) (fun c_107 => ?_) (fun c_107 => ?_)
        · replace ho := ho.1 c_107
          refine lv_iconst (v := 0) hx hb dX0_hardestCode_114 (by decide) ?_
          exact C_115 u94_1 u94_2 u94_3 u94_4 u94_5 u94_6 u94_7 u94_8 u94_9 u94_10 u94_11 x3 x6 (0 : Int32) x4 H locs ls ho hP hD hS (lv_sub hl [0, 1, 2, 4] rfl)
        · replace ho := ho.2 c_107
          refine lv_iconst (v := 1) hx hb dX0_hardestCode_110 (by decide) ?_
          refine lv_goto (tgt := 115) hx hb dX0_hardestCode_111 (by decide) ?_
          exact C_115 u94_1 u94_2 u94_3 u94_4 u94_5 u94_6 u94_7 u94_8 u94_9 u94_10 u94_11 x3 x6 (1 : Int32) x4 H locs ls ho hP hD hS (lv_sub hl [0, 1, 2, 4] rfl)
  have C_68 : ∀ (va_m : Int64) (va_x : Int32) (va_more : Int32) (va_laid : Int32) (va_below : Int32) (va_settled : Int32) (va_sort : Int32) (p2_lower : Int32) (p2_way : Int32) (p2_more : Int32) (p2_beyond : Int32) (x3 : Int32) (x4 : Int32) (x5 : Int32) (H : Heap) (locs : List Loc) (ls : Array Slot), wp_X0_hardestCode_68 post  fl_f fl_bias fl_codes fl_signBit fl_endless va_m va_x va_more va_laid va_below va_settled va_sort p2_lower p2_way p2_more p2_beyond p1 x3 x4 x5 → va_P D vwCl [(a_fl, oX1 fl_e fl_f fl_bias fl_codes fl_signBit fl_endless), (a_va, oX6 a_fl a_p2 va_m va_x va_more va_laid va_below va_settled va_sort), (a_p2, oX3 a_fl p2_lower p2_way p2_more p2_beyond), (a_ce, oX0 a_fl a_va a_ceT a_ceS a_ceH a_ceG a_ceV), (a_ceH, .inl (cI, 50, .inl ceH_r)), (a_ceG, .inl (cI, 320, .inl ceG_r)), (a_ceV, .inl (cI, 320, .inl ceV_r))] H → va_D A [(a_fl, oX1 fl_e fl_f fl_bias fl_codes fl_signBit fl_endless), (a_va, oX6 a_fl a_p2 va_m va_x va_more va_laid va_below va_settled va_sort), (a_p2, oX3 a_fl p2_lower p2_way p2_more p2_beyond), (a_ce, oX0 a_fl a_va a_ceT a_ceS a_ceH a_ceG a_ceV), (a_ceH, .inl (cI, 50, .inl ceH_r)), (a_ceG, .inl (cI, 320, .inl ceG_r)), (a_ceV, .inl (cI, 320, .inl ceV_r))] → va_S A s.heap H locs → lv_has ls 7 [(0, .ref a_ce), (1, .int p1), (3, .int x3), (4, .int x4), (5, .int x5)] → W p l e R s m args below meth c H locs 0 0 Q (F0 m 68 ls []) := by
    intro va_m va_x va_more va_laid va_below va_settled va_sort p2_lower p2_way p2_more p2_beyond x3 x4 x5 H locs ls ho hP hD hS hl
    unfold wp_X0_hardestCode_68 at ho
    refine lv_iload hx hb dX0_hardestCode_68 (lv_at hl 4 rfl) ?_
    refine lv_bipush (v := 8) hx hb dX0_hardestCode_70 (by decide) ?_
    refine lv_ishl hx hb dX0_hardestCode_72 ?_
    refine lv_istore (lv' := [(6, .int (x5 <<< ((8 : Int32) &&& 31))), (0, .ref a_ce), (1, .int p1), (3, .int x3), (4, .int x4), (5, .int x5)]) hx hb dX0_hardestCode_73 hl (by decide) rfl (fun ls hl => ?_)
    obtain ⟨n_75, ho⟩ := ho
    exact C_75 n_75 va_m va_x va_more va_laid va_below va_settled va_sort p2_lower p2_way p2_more p2_beyond x3 x4 (x5 <<< ((8 : Int32) &&& 31)) H locs ls ho hP hD hS (lv_sub hl [1, 2, 3, 4, 0] rfl)
  have C_29 : ∀ n : Nat, ∀ (va_m : Int64) (va_x : Int32) (va_more : Int32) (va_laid : Int32) (va_below : Int32) (va_settled : Int32) (va_sort : Int32) (p2_lower : Int32) (p2_way : Int32) (p2_more : Int32) (p2_beyond : Int32) (x3 : Int32) (x4 : Int32) (x5 : Int32) (H : Heap) (locs : List Loc) (ls : Array Slot), wp_X0_hardestCode_29 post  fl_f fl_bias fl_codes fl_signBit fl_endless ceG_r ceV_r p1 n va_m va_x va_more va_laid va_below va_settled va_sort p2_lower p2_way p2_more p2_beyond x3 x4 x5 → va_P D vwCl [(a_fl, oX1 fl_e fl_f fl_bias fl_codes fl_signBit fl_endless), (a_va, oX6 a_fl a_p2 va_m va_x va_more va_laid va_below va_settled va_sort), (a_p2, oX3 a_fl p2_lower p2_way p2_more p2_beyond), (a_ce, oX0 a_fl a_va a_ceT a_ceS a_ceH a_ceG a_ceV), (a_ceH, .inl (cI, 50, .inl ceH_r)), (a_ceG, .inl (cI, 320, .inl ceG_r)), (a_ceV, .inl (cI, 320, .inl ceV_r))] H → va_D A [(a_fl, oX1 fl_e fl_f fl_bias fl_codes fl_signBit fl_endless), (a_va, oX6 a_fl a_p2 va_m va_x va_more va_laid va_below va_settled va_sort), (a_p2, oX3 a_fl p2_lower p2_way p2_more p2_beyond), (a_ce, oX0 a_fl a_va a_ceT a_ceS a_ceH a_ceG a_ceV), (a_ceH, .inl (cI, 50, .inl ceH_r)), (a_ceG, .inl (cI, 320, .inl ceG_r)), (a_ceV, .inl (cI, 320, .inl ceV_r))] → va_S A s.heap H locs → lv_has ls 7 [(0, .ref a_ce), (1, .int p1), (3, .int x3), (4, .int x4), (5, .int x5)] → W p l e R s m args below meth c H locs 0 0 Q (F0 m 29 ls []) := by
    intro n
    induction n with
    | zero => intro va_m va_x va_more va_laid va_below va_settled va_sort p2_lower p2_way p2_more p2_beyond x3 x4 x5 H locs ls ho hP hD hS hl; exact ho.elim
    | succ n_29 ih_29 =>
      intro va_m va_x va_more va_laid va_below va_settled va_sort p2_lower p2_way p2_more p2_beyond x3 x4 x5 H locs ls ho hP hD hS hl
      replace ho : wp_X0_hardestCode_29_b post fl_f fl_bias fl_codes fl_signBit fl_endless ceG_r ceV_r p1 (wp_X0_hardestCode_29 post fl_f fl_bias fl_codes fl_signBit fl_endless ceG_r ceV_r p1 n_29) va_m va_x va_more va_laid va_below va_settled va_sort p2_lower p2_way p2_more p2_beyond x3 x4 x5 := ho
      unfold wp_X0_hardestCode_29_b at ho
      refine lv_iload hx hb dX0_hardestCode_29 (lv_at hl 4 rfl) ?_
      refine lv_bipush (v := 64) hx hb dX0_hardestCode_31 (by decide) ?_
      refine lv_icmp_ge (tgt := 68) hx hb dX0_hardestCode_33 (by decide) (fun c_33 => ?_) (fun c_33 => ?_)
      · replace ho := ho.1 c_33
        exact C_68 va_m va_x va_more va_laid va_below va_settled va_sort p2_lower p2_way p2_more p2_beyond x3 x4 x5 H locs ls ho hP hD hS (lv_sub hl [0, 1, 2, 3, 4] rfl)
      · replace ho := ho.2 c_33
        refine lv_iload hx hb dX0_hardestCode_36 (lv_at hl 3 rfl) ?_
        refine lv_aload_n hx hb dX0_hardestCode_38 rfl (lv_at hl 0 rfl) ?_
        refine lv_iload_n hx hb dX0_hardestCode_39 rfl (lv_at hl 1 rfl) ?_
        refine lv_iload hx hb dX0_hardestCode_40 (lv_at hl 4 rfl) ?_
        refine lv_iload_n hx hb dX0_hardestCode_42 rfl (lv_at hl 2 rfl) ?_
        refine ca_Vi (b := a_ce) (As := [.int p1, .int x5, .int x3]) (rest := [.int x4]) ⟨hx, hb, hml, hown, hts⟩ (c_X0_inBlock l D cI cJ cZ a_fl a_va a_ce a_ceT a_ceS a_ceH a_ceG a_ceV ceG_r ceV_r p1 x5 x3 _ ho) (cwV 3 hts (gdV wl_568 wl_569 wl_570 wl_26 wl_571) rfl rfl rfl (by decide +kernel) ⟨hRf _ (Nat.le_of_ble_eq_true rfl), hRl _ (Nat.le_of_ble_eq_true rfl)⟩) hK hN hP [3, 5, 6] rfl 0 0 rfl rfl rfl rfl hl.1 rfl (Nat.le_of_ble_eq_true rfl) dX0_hardestCode_43 ⟨Nat.zero_le _, Nat.zero_le _⟩ (fun r43 ho => ?_)
        refine lv_icmp_lt (tgt := 68) hx hb dX0_hardestCode_46 (by decide) (fun c_46 => ?_) (fun c_46 => ?_)
        · replace ho := ho.1 c_46
          exact C_68 va_m va_x va_more va_laid va_below va_settled va_sort p2_lower p2_way p2_more p2_beyond x3 x4 x5 H locs ls ho hP hD hS (lv_sub hl [0, 1, 2, 3, 4] rfl)
        · replace ho := ho.2 c_46
          refine lv_iload hx hb dX0_hardestCode_49 (lv_at hl 3 rfl) ?_
          refine lv_aload_n hx hb dX0_hardestCode_51 rfl (lv_at hl 0 rfl) ?_
          refine lv_iload_n hx hb dX0_hardestCode_52 rfl (lv_at hl 1 rfl) ?_
          refine lv_iload hx hb dX0_hardestCode_53 (lv_at hl 4 rfl) ?_
          refine lv_iload_n hx hb dX0_hardestCode_55 rfl (lv_at hl 2 rfl) ?_
          refine ca_Vi (b := a_ce) (As := [.int p1, .int x5, .int x3]) (rest := [.int x4]) ⟨hx, hb, hml, hown, hts⟩ (c_X0_inBlock l D cI cJ cZ a_fl a_va a_ce a_ceT a_ceS a_ceH a_ceG a_ceV ceG_r ceV_r p1 x5 x3 _ ho) (cwV 3 hts (gdV wl_568 wl_569 wl_570 wl_26 wl_571) rfl rfl rfl (by decide +kernel) ⟨hRf _ (Nat.le_of_ble_eq_true rfl), hRl _ (Nat.le_of_ble_eq_true rfl)⟩) hK hN hP [3, 5, 6] rfl 0 0 rfl rfl rfl rfl hl.1 rfl (Nat.le_of_ble_eq_true rfl) dX0_hardestCode_56 ⟨Nat.zero_le _, Nat.zero_le _⟩ (fun r56 ho => ?_)
          refine lv_isub hx hb dX0_hardestCode_59 ?_
          refine lv_istore (lv' := [(4, .int (x4 - r56)), (0, .ref a_ce), (1, .int p1), (3, .int x3), (5, .int x5)]) hx hb dX0_hardestCode_60 hl (by decide) rfl (fun ls hl => ?_)
          refine lv_iinc (v := (x5 + (1 : Int32))) (lv' := [(5, .int (x5 + (1 : Int32))), (4, .int (x4 - r56)), (0, .ref a_ce), (1, .int p1), (3, .int x3)]) hx hb dX0_hardestCode_62 hl (k := 4) rfl rfl (by decide) rfl (fun ls hl => ?_)
          refine lv_goto (tgt := 29) hx hb dX0_hardestCode_65 (by decide) ?_
          exact ih_29 va_m va_x va_more va_laid va_below va_settled va_sort p2_lower p2_way p2_more p2_beyond x3 (x4 - r56) (x5 + (1 : Int32)) H locs ls ho hP hD hS (lv_sub hl [2, 3, 4, 1, 0] rfl)
  suffices main : ∀ (H : Heap) (locs : List Loc), va_P D vwCl [(a_fl, oX1 fl_e fl_f fl_bias fl_codes fl_signBit fl_endless), (a_va, oX6 a_fl a_p2 va_m va_x va_more va_laid va_below va_settled va_sort), (a_p2, oX3 a_fl p2_lower p2_way p2_more p2_beyond), (a_ce, oX0 a_fl a_va a_ceT a_ceS a_ceH a_ceG a_ceV), (a_ceH, .inl (cI, 50, .inl ceH_r)), (a_ceG, .inl (cI, 320, .inl ceG_r)), (a_ceV, .inl (cI, 320, .inl ceV_r))] H → va_S A s.heap H locs → W p l e R s m args below meth c H locs 0 0 Q (F0 m 0 ls []) from main _ _ hP hS
  intro H locs hP hS
  unfold wp_X0_hardestCode at ho
  refine lv_aload_n hx hb dX0_hardestCode_0 rfl (lv_at hl 0 rfl) ?_
  refine lv_iload_n hx hb dX0_hardestCode_1 rfl (lv_at hl 1 rfl) ?_
  refine ca_Vi (b := a_ce) (As := [.int p1]) (rest := []) ⟨hx, hb, hml, hown, hts⟩ (c_X0_greatestHardness l D cI cJ cZ a_fl a_va a_ce a_ceT a_ceS a_ceH a_ceG a_ceV ceH_r p1 _ ho) (cwV 1 hts (gdV wl_560 wl_561 wl_562 wl_26 wl_563) rfl rfl rfl (by decide +kernel) ⟨hRf _ (Nat.le_of_ble_eq_true rfl), hRl _ (Nat.le_of_ble_eq_true rfl)⟩) hK hN hP [3, 4] rfl 0 0 rfl rfl rfl rfl hl.1 rfl (Nat.le_of_ble_eq_true rfl) dX0_hardestCode_2 ⟨Nat.zero_le _, Nat.zero_le _⟩ (fun r2 ho => ?_)
  refine lv_istore_n (lv' := [(3, .int r2), (0, .ref a_ce), (1, .int p1), (2, .int p2)]) hx hb dX0_hardestCode_5 rfl hl (by decide) rfl (fun ls hl => ?_)
  refine lv_iload_n hx hb dX0_hardestCode_6 rfl (lv_at hl 3 rfl) ?_
  refine lv_if_lt (tgt := 20) hx hb dX0_hardestCode_7 (by decide) (fun c_7 => ?_) (fun c_7 => ?_)
  · replace ho := ho.1 c_7
    refine lv_bipush (v := (-9)) hx hb dX0_hardestCode_20 (by decide) ?_
    subst hQ; exact W.iret (v := (-9 : Int32)) hx hb hr (fun t ht hW => ⟨⟨(-9 : Int32), (va_m, va_x, va_more, va_laid, va_below, va_settled, va_sort, p2_lower, p2_way, p2_more, p2_beyond), rfl, ho, by rw [ht]; exact hP, hD⟩, hS.F ht⟩) (fun q hq => hS.2.2 q hq) dX0_hardestCode_22
  · replace ho := ho.2 c_7
    refine lv_iload_n hx hb dX0_hardestCode_10 rfl (lv_at hl 3 rfl) ?_
    refine lv_aload_n hx hb dX0_hardestCode_11 rfl (lv_at hl 1 rfl) ?_
    refine lv_iload_n hx hb dX0_hardestCode_12 rfl (lv_at hl 2 rfl) ?_
    refine lv_iload_n hx hb dX0_hardestCode_13 rfl (lv_at hl 0 rfl) ?_
    refine ca_Vi (b := a_ce) (As := [.int p1, .int r2]) (rest := [.int p2]) ⟨hx, hb, hml, hown, hts⟩ (c_X0_ofHardness l D cI cJ cZ a_fl a_va a_ce a_ceT a_ceS a_ceH a_ceG a_ceV ceH_r p1 r2 _ ho) (cwV 2 hts (gdV wl_564 wl_565 wl_566 wl_26 wl_567) rfl rfl rfl (by decide +kernel) ⟨hRf _ (Nat.le_of_ble_eq_true rfl), hRl _ (Nat.le_of_ble_eq_true rfl)⟩) hK hN hP [3, 4] rfl 0 0 rfl rfl rfl rfl hl.1 rfl (Nat.le_of_ble_eq_true rfl) dX0_hardestCode_14 ⟨Nat.zero_le _, Nat.zero_le _⟩ (fun r14 ho => ?_)
    refine lv_icmp_lt (tgt := 23) hx hb dX0_hardestCode_17 (by decide) (fun c_17 => ?_) (fun c_17 => ?_)
    · replace ho := ho.1 c_17
      refine lv_iload_n hx hb dX0_hardestCode_23 rfl (lv_at hl 3 rfl) ?_
      refine lv_istore (lv' := [(4, .int p2), (3, .int r2), (0, .ref a_ce), (1, .int p1), (2, .int p2)]) hx hb dX0_hardestCode_24 hl (by decide) rfl (fun ls hl => ?_)
      refine lv_iconst (v := 0) hx hb dX0_hardestCode_26 (by decide) ?_
      refine lv_istore (lv' := [(5, .int (0 : Int32)), (4, .int p2), (3, .int r2), (0, .ref a_ce), (1, .int p1), (2, .int p2)]) hx hb dX0_hardestCode_27 hl (by decide) rfl (fun ls hl => ?_)
      obtain ⟨n_29, ho⟩ := ho
      exact C_29 n_29 va_m va_x va_more va_laid va_below va_settled va_sort p2_lower p2_way p2_more p2_beyond r2 p2 (0 : Int32) H locs ls ho hP hD hS (lv_sub hl [3, 4, 2, 1, 0] rfl)
    · replace ho := ho.2 c_17
      refine lv_bipush (v := (-9)) hx hb dX0_hardestCode_20 (by decide) ?_
      subst hQ; exact W.iret (v := (-9 : Int32)) hx hb hr (fun t ht hW => ⟨⟨(-9 : Int32), (va_m, va_x, va_more, va_laid, va_below, va_settled, va_sort, p2_lower, p2_way, p2_more, p2_beyond), rfl, ho, by rw [ht]; exact hP, hD⟩, hS.F ht⟩) (fun q hq => hS.2.2 q hq) dX0_hardestCode_22
