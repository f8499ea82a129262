def w_X6_sortRead : List Cond := .code yX6_sortRead cX6_sortRead 1 (some .int) :: wsL_law
set_option maxHeartbeats 4000000 in
set_option maxRecDepth 100000 in
theorem c_X6_sortRead (l : Launch) (D : va_G) (cI cJ cZ : ClassId) (a_fl : Nat) (a_va : Nat) (a_p2 : Nat) (va_m : Int64) (va_x : Int32) (va_more : Int32) (va_laid : Int32) (va_below : Int32) (va_settled : Int32) (va_sort : Int32)  (post : Int32 → Prop) (ho : wp_X6_sortRead post va_sort) : Met l yX6_sortRead w_X6_sortRead ({ frames := 0, cells := 0, slots := 0, locals := 0 } : Room) (ro_P D [(cI, .int), (cJ, .long), (cZ, .boolean)] [.ref a_va] [(a_va, oX6 a_fl a_p2 va_m va_x va_more va_laid va_below va_settled va_sort)]) (vp_Si post) 0 0 (fun _ => False) := by
  refine Met.ofW (cc := cX6_sortRead) (maxL := 1) (ret := (some .int)) (by decide) rfl ?_
  intro p e s m args below meth c s₁ B hml hv
  obtain ⟨hargs, hP, hK, hN⟩ := hv
  have hx := B.exec
  have hb := B.bytes
  have hr := B.returns
  have hts : ∀ w ∈ wsL_law, w.before args s = true := fun w h => atoms_spec (ws := w_X6_sortRead) B.pre w (List.mem_cons_of_mem _ h)
  have hown : s.vm.findClass RX6 = some m.cls := findClass_of_methodNamed B.named
  have hlocks := B.notSynchronized
  have hl := lv_entry ([.ref a_va]) (n := 1) (Nat.le_of_ble_eq_true rfl)
  rw [hargs, lg_entry_eq, ← hargs]
  generalize (lg_sl ([.ref a_va]) ++ List.replicate (1 - (lg_sl ([.ref a_va])).length) Slot.unset).toArray = ls at hl ⊢
  replace hl : lv_has ls 1 [(0, .ref a_va)] := hl
  have hRf : ∀ n, n ≤ 0 → n ≤ (headSpec w_X6_sortRead ({ frames := 0, cells := 0, slots := 0, locals := 0 } : Room)).room.frames := fun n h => h
  have hRl : ∀ n, n ≤ 0 → n ≤ (headSpec w_X6_sortRead ({ frames := 0, cells := 0, slots := 0, locals := 0 } : Room)).room.locals := fun n h => h
  generalize (headSpec w_X6_sortRead ({ frames := 0, cells := 0, slots := 0, locals := 0 } : Room)).room = R at hRf hRl ⊢
  generalize hQ : MQ below _ args s 0 0 _ = Q
  unfold wp_X6_sortRead at ho
  refine lv_aload_n hx hb dX6_sortRead_0 rfl (lv_at hl 0 rfl) ?_
  refine va_get (D := D) (ci := 5) (v := .int va_sort) (C := RX6) (T := TX6) (N := 9) hx hb hts inlX6 hown hK hP 0 rfl rfl 8 (by decide) (hts _ wl_418) (fun _ h9 => h9) rfl dX6_sortRead_1 ?_
  subst hQ; exact W.iret (v := va_sort) hx hb hr (fun t ht _ => ⟨va_sort, rfl, ho, ht⟩) (fun _ h => by cases h) dX6_sortRead_4

def w_X6_resultAt : List Cond := .code yX6_resultAt cX6_resultAt 4 (some .int) :: wsL_law
set_option maxHeartbeats 4000000 in
set_option maxRecDepth 100000 in
theorem c_X6_resultAt (l : Launch) (D : va_G) (cI cJ cZ : ClassId) (a_fl : Nat) (a_va : Nat) (a_p2 : Nat) (sz : Nat) (fl_e : Int32) (fl_f : Int32) (fl_bias : Int32) (fl_codes : Int32) (fl_signBit : Int32) (fl_endless : Int32) (va_m : Int64) (va_x : Int32) (va_more : Int32) (va_laid : Int32) (va_below : Int32) (va_settled : Int32) (va_sort : Int32) (p2_lower : Int32) (p2_way : Int32) (p2_more : Int32) (p2_beyond : Int32) (p1 : Int32) (p2 : Int32) (p3 : Int32) (post : Int32 → Int64 → Int32 → Int32 → Int32 → Int32 → Int32 → Int32 → Int32 → Int32 → Int32 → Int32 → Prop) (A : Nat → Prop) (hAe : A = va_A [(a_fl, oX1 fl_e fl_f fl_bias fl_codes fl_signBit fl_endless), (a_va, oX6 a_fl a_p2 va_m va_x va_more va_laid va_below va_settled va_sort), (a_p2, oX3 a_fl p2_lower p2_way p2_more p2_beyond)] sz) (ho : wp_X6_resultAt post fl_f fl_bias fl_signBit fl_endless va_m va_x va_more va_below va_settled p2_lower p2_way p2_more p2_beyond p1 p2 p3) : Met l yX6_resultAt w_X6_resultAt ({ frames := 4, cells := 0, slots := 0, locals := 103 } : Room) (rw_P D [(cI, .int), (cJ, .long), (cZ, .boolean)] [.ref a_va, .int p1, .int p2, .int p3] sz [(a_fl, oX1 fl_e fl_f fl_bias fl_codes fl_signBit fl_endless), (a_va, oX6 a_fl a_p2 va_m va_x va_more va_laid va_below va_settled va_sort), (a_p2, oX3 a_fl p2_lower p2_way p2_more p2_beyond)]) (va_Qi (fun (r : Int32) (u : (Int64) × (Int32) × (Int32) × (Int32) × (Int32) × (Int32) × (Int32) × (Int32) × (Int32) × (Int32) × (Int32)) => post r u.1 u.2.1 u.2.2.1 u.2.2.2.1 u.2.2.2.2.1 u.2.2.2.2.2.1 u.2.2.2.2.2.2.1 u.2.2.2.2.2.2.2.1 u.2.2.2.2.2.2.2.2.1 u.2.2.2.2.2.2.2.2.2.1 u.2.2.2.2.2.2.2.2.2.2) (rw_B D A (fun (u : (Int64) × (Int32) × (Int32) × (Int32) × (Int32) × (Int32) × (Int32) × (Int32) × (Int32) × (Int32) × (Int32)) => [(a_fl, oX1 fl_e fl_f fl_bias fl_codes fl_signBit fl_endless), (a_va, oX6 a_fl a_p2 u.1 u.2.1 u.2.2.1 u.2.2.2.1 u.2.2.2.2.1 u.2.2.2.2.2.1 u.2.2.2.2.2.2.1), (a_p2, oX3 a_fl u.2.2.2.2.2.2.2.1 u.2.2.2.2.2.2.2.2.1 u.2.2.2.2.2.2.2.2.2.1 u.2.2.2.2.2.2.2.2.2.2)])) A) 0 0 A := by
  refine Met.ofW (cc := cX6_resultAt) (maxL := 4) (ret := (some .int)) (by decide) rfl ?_
  intro p e s m args below meth c s₁ B hml hv
  obtain ⟨hargs, hsz, hP, hK, hN, hD0⟩ := hv
  have hx := B.exec
  have hb := B.bytes
  have hr := B.returns
  have hts : ∀ w ∈ wsL_law, w.before args s = true := fun w h => atoms_spec (ws := w_X6_resultAt) B.pre w (List.mem_cons_of_mem _ h)
  have hown : s.vm.findClass RX6 = some m.cls := findClass_of_methodNamed B.named
  have hlocks := B.notSynchronized
  subst hsz
  have hD : va_D A [(a_fl, oX1 fl_e fl_f fl_bias fl_codes fl_signBit fl_endless), (a_va, oX6 a_fl a_p2 va_m va_x va_more va_laid va_below va_settled va_sort), (a_p2, oX3 a_fl p2_lower p2_way p2_more p2_beyond)] := by rw [hAe]; exact hD0.self
  have hA : ∀ q : Nat, s.heap.size ≤ q → A q := fun q h => by rw [hAe]; exact Or.inr h
  have hS : va_S A s.heap s.heap [] := va_S.rf
  have hl := lv_entry ([.ref a_va, .int p1, .int p2, .int p3]) (n := 4) (Nat.le_of_ble_eq_true rfl)
  rw [hargs, lg_entry_eq, ← hargs]
  generalize (lg_sl ([.ref a_va, .int p1, .int p2, .int p3]) ++ List.replicate (4 - (lg_sl ([.ref a_va, .int p1, .int p2, .int p3])).length) Slot.unset).toArray = ls at hl ⊢
  replace hl : lv_has ls 4 [(0, .ref a_va), (1, .int p1), (2, .int p2), (3, .int p3)] := hl
  have hRf : ∀ n, n ≤ 4 → n ≤ (headSpec w_X6_resultAt ({ frames := 4, cells := 0, slots := 0, locals := 103 } : Room)).room.frames := fun n h => h
  have hRl : ∀ n, n ≤ 103 → n ≤ (headSpec w_X6_resultAt ({ frames := 4, cells := 0, slots := 0, locals := 103 } : Room)).room.locals := fun n h => h
  generalize (headSpec w_X6_resultAt ({ frames := 4, cells := 0, slots := 0, locals := 103 } : Room)).room = R at hRf hRl ⊢
  generalize hQ : MQ below _ args s 0 0 _ = Q
  suffices main : ∀ (H : Heap) (locs : List Loc), va_P D vwCl [(a_fl, oX1 fl_e fl_f fl_bias fl_codes fl_signBit fl_endless), (a_va, oX6 a_fl a_p2 va_m va_x va_more va_laid va_below va_settled va_sort), (a_p2, oX3 a_fl p2_lower p2_way p2_more p2_beyond)] H → va_S A s.heap H locs → W p l e R s m args below meth c H locs 0 0 Q (F0 m 0 ls []) from main _ _ hP hS
  intro H locs hP hS
  unfold wp_X6_resultAt at ho
  refine lv_aload_n hx hb dX6_resultAt_0 rfl (lv_at hl 0 rfl) ?_
  refine lv_iload_n hx hb dX6_resultAt_1 rfl (lv_at hl 1 rfl) ?_
  refine lv_iload_n hx hb dX6_resultAt_2 rfl (lv_at hl 2 rfl) ?_
  refine ca_Wv (b := a_va) (As := [.int p1, .int p2]) (rest := []) (wr := []) (wo := fun (u : (Int64) × (Int32) × (Int32) × (Int32) × (Int32) × (Int32) × (Int32) × (Int32) × (Int32) × (Int32) × (Int32)) => [(a_fl, oX1 fl_e fl_f fl_bias fl_codes fl_signBit fl_endless), (a_va, oX6 a_fl a_p2 u.1 u.2.1 u.2.2.1 u.2.2.2.1 u.2.2.2.2.1 u.2.2.2.2.2.1 u.2.2.2.2.2.2.1), (a_p2, oX3 a_fl u.2.2.2.2.2.2.2.1 u.2.2.2.2.2.2.2.2.1 u.2.2.2.2.2.2.2.2.2.1 u.2.2.2.2.2.2.2.2.2.2)]) (wn := fun (u : (Int64) × (Int32) × (Int32) × (Int32) × (Int32) × (Int32) × (Int32) × (Int32) × (Int32) × (Int32) × (Int32)) => [(a_fl, oX1 fl_e fl_f fl_bias fl_codes fl_signBit fl_endless), (a_va, oX6 a_fl a_p2 u.1 u.2.1 u.2.2.1 u.2.2.2.1 u.2.2.2.2.1 u.2.2.2.2.2.1 u.2.2.2.2.2.2.1), (a_p2, oX3 a_fl u.2.2.2.2.2.2.2.1 u.2.2.2.2.2.2.2.2.1 u.2.2.2.2.2.2.2.2.2.1 u.2.2.2.2.2.2.2.2.2.2)]) ⟨hx, hb, hml, hown, hts⟩ (c_X6_read l D cI cJ cZ a_fl a_va a_p2 H.size fl_e fl_f fl_bias fl_codes fl_signBit fl_endless va_m va_x va_more va_laid va_below va_settled va_sort p2_lower p2_way p2_more p2_beyond p1 p2 _ _ rfl ho) (cwV 2 hts (gdV wl_411 wl_412 wl_413 wl_22 wl_414) rfl rfl rfl (by decide +kernel) ⟨hRf _ (Nat.le_of_ble_eq_true rfl), hRl _ (Nat.le_of_ble_eq_true rfl)⟩) hK hN hP hD hS hA [0, 1, 2] [] [0, 1, 2] rfl rfl (by decide) (by decide) (by decide) (by decide) (fun _ => rfl) 1 5 rfl rfl rfl rfl hl.1 rfl (Nat.le_of_ble_eq_true rfl) dX6_resultAt_3 ⟨Nat.zero_le _, Nat.zero_le _⟩ (fun  u3 H locs ho hP hD hS => ?_)
  obtain ⟨u3_1, u3_2, u3_3, u3_4, u3_5, u3_6, u3_7, u3_8, u3_9, u3_10, u3_11⟩ := u3
  try dsimp only at ho
  replace hP : va_P D vwCl [(a_fl, oX1 fl_e fl_f fl_bias fl_codes fl_signBit fl_endless), (a_va, oX6 a_fl a_p2 u3_1 u3_2 u3_3 u3_4 u3_5 u3_6 u3_7), (a_p2, oX3 a_fl u3_8 u3_9 u3_10 u3_11)] H := hP
  replace hD : va_D A [(a_fl, oX1 fl_e fl_f fl_bias fl_codes fl_signBit fl_endless), (a_va, oX6 a_fl a_p2 u3_1 u3_2 u3_3 u3_4 u3_5 u3_6 u3_7), (a_p2, oX3 a_fl u3_8 u3_9 u3_10 u3_11)] := hD
  refine lv_aload_n hx hb dX6_resultAt_6 rfl (lv_at hl 0 rfl) ?_
  refine va_get (D := D) (ci := 5) (v := .int u3_4) (C := RX6) (T := TX6) (N := 9) hx hb hts inlX6 hown hK hP 1 rfl rfl 5 (by decide) (hts _ wl_408) (fun _ h9 => h9) rfl dX6_resultAt_7 ?_
  refine lv_if_eq (tgt := 28) hx hb dX6_resultAt_10 (by decide) (fun c_10 => ?_) (fun c_10 => ?_)
  · replace ho := ho.1 c_10
    refine lv_aload_n hx hb dX6_resultAt_28 rfl (lv_at hl 0 rfl) ?_
    refine va_get (D := D) (ci := 5) (v := .int u3_6) (C := RX6) (T := TX6) (N := 9) hx hb hts inlX6 hown hK hP 1 rfl rfl 7 (by decide) (hts _ wl_410) (fun _ h9 => h9) rfl dX6_resultAt_29 ?_
    subst hQ; exact W.iret (v := u3_6) hx hb hr (fun t ht hW => ⟨⟨u3_6, (u3_1, u3_2, u3_3, u3_4, u3_5, u3_6, u3_7, u3_8, u3_9, u3_10, u3_11), rfl, ho, by rw [ht]; exact hP, hD⟩, hS.F ht⟩) (fun q hq => hS.2.2 q hq) dX6_resultAt_32
  · replace ho := ho.2 c_10
    refine lv_aload_n hx hb dX6_resultAt_13 rfl (lv_at hl 0 rfl) ?_
    refine va_get (D := D) (ci := 5) (v := .ref a_p2) (C := RX6) (T := TX6) (N := 9) hx hb hts inlX6 hown hK hP 1 rfl rfl 1 (by decide) (hts _ wl_63) (fun _ h9 => h9) rfl dX6_resultAt_14 ?_
    refine lv_aload_n hx hb dX6_resultAt_17 rfl (lv_at hl 0 rfl) ?_
    refine va_get (D := D) (ci := 5) (v := .int u3_5) (C := RX6) (T := TX6) (N := 9) hx hb hts inlX6 hown hK hP 1 rfl rfl 6 (by decide) (hts _ wl_409) (fun _ h9 => h9) rfl dX6_resultAt_18 ?_
    refine lv_iload_n hx hb dX6_resultAt_21 rfl (lv_at hl 3 rfl) ?_
    refine ca_Vi (b := a_p2) (As := [.int u3_5, .int p3]) (rest := []) ⟨hx, hb, hml, hown, hts⟩ (c_X3_rounded l D cI cJ cZ a_fl a_p2 fl_e fl_f fl_bias fl_codes fl_signBit fl_endless u3_8 u3_9 u3_10 u3_11 u3_5 p3 _ ho) (cwV 2 hts (gdV wl_464 wl_350 wl_351 wl_18 wl_352) rfl rfl rfl (by decide +kernel) ⟨hRf _ (Nat.le_of_ble_eq_true rfl), hRl _ (Nat.le_of_ble_eq_true rfl)⟩) hK hN hP [0, 2] rfl 1 3 rfl rfl rfl rfl hl.1 rfl (Nat.le_of_ble_eq_true rfl) dX6_resultAt_22 ⟨Nat.zero_le _, Nat.zero_le _⟩ (fun r22 ho => ?_)
    refine lv_goto (tgt := 32) hx hb dX6_resultAt_25 (by decide) ?_
    subst hQ; exact W.iret (v := r22) hx hb hr (fun t ht hW => ⟨⟨r22, (u3_1, u3_2, u3_3, u3_4, u3_5, u3_6, u3_7, u3_8, u3_9, u3_10, u3_11), rfl, ho, by rw [ht]; exact hP, hD⟩, hS.F ht⟩) (fun q hq => hS.2.2 q hq) dX6_resultAt_32
