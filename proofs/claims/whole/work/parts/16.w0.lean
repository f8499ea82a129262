def wp_X0_forget (post : (Nat → Int32) → (Nat → Int32) → (Nat → Int32) → (Nat → Int32) → (Nat → Int32) → Prop) (ceT_r : Nat → Int32) (ceS_r : Nat → Int32) (ceH_r : Nat → Int32) (ceG_r : Nat → Int32) (ceV_r : Nat → Int32) : Prop := wp_J7_fill_53178 (fun u5 => (wp_J7_fill_53178 (fun u13 => (wp_J7_fill_53178 (fun u21 => (wp_J7_fill_53178 (fun u29 => (wp_J7_fill_53178 (fun u37 => (post  u5 u13 u21 u29 u37)) 320 ceV_r (0 : Int32))) 320 ceG_r (0 : Int32))) 50 ceH_r (0 : Int32))) 20 ceS_r (0 : Int32))) 5 ceT_r (0 : Int32)
set_option maxRecDepth 20000 in
theorem in_X0_forget_X0 : ∀ w ∈ u_ws RX0 TX0 7, w ∈ wsX0_forget := fun w h => (goodIn_r wsX00 [10, 11, 12, 13, 14, 15, 16] (by decide +kernel) (by decide +kernel) w h).1
set_option maxHeartbeats 4000000 in
set_option maxRecDepth 100000 in
theorem c_X0_forget (l : Launch) (D : va_G) (cI cJ cZ : ClassId) (a_fl : Nat) (a_va : Nat) (a_ce : Nat) (a_ceT : Nat) (a_ceS : Nat) (a_ceH : Nat) (a_ceG : Nat) (a_ceV : Nat) (sz : Nat) (ceT_r : Nat → Int32) (ceS_r : Nat → Int32) (ceH_r : Nat → Int32) (ceG_r : Nat → Int32) (ceV_r : Nat → Int32)  (post : (Nat → Int32) → (Nat → Int32) → (Nat → Int32) → (Nat → Int32) → (Nat → Int32) → Prop) (A : Nat → Prop) (hAe : A = va_A [(a_ce, oX0 a_fl a_va a_ceT a_ceS a_ceH a_ceG a_ceV), (a_ceT, .inl (cI, 5, .inl ceT_r)), (a_ceS, .inl (cI, 20, .inl ceS_r)), (a_ceH, .inl (cI, 50, .inl ceH_r)), (a_ceG, .inl (cI, 320, .inl ceG_r)), (a_ceV, .inl (cI, 320, .inl ceV_r))] sz) (ho : wp_X0_forget post ceT_r ceS_r ceH_r ceG_r ceV_r) : Met l yX0_forget wsX0_forget ({ frames := 1, cells := 0, slots := 0, locals := 23 } : Room) (rw_P D [(cI, .int), (cJ, .long), (cZ, .boolean)] [.ref a_ce] sz [(a_ce, oX0 a_fl a_va a_ceT a_ceS a_ceH a_ceG a_ceV), (a_ceT, .inl (cI, 5, .inl ceT_r)), (a_ceS, .inl (cI, 20, .inl ceS_r)), (a_ceH, .inl (cI, 50, .inl ceH_r)), (a_ceG, .inl (cI, 320, .inl ceG_r)), (a_ceV, .inl (cI, 320, .inl ceV_r))]) (va_Qv (fun (u : (Nat → Int32) × (Nat → Int32) × (Nat → Int32) × (Nat → Int32) × (Nat → Int32)) => post u.1 u.2.1 u.2.2.1 u.2.2.2.1 u.2.2.2.2) (rw_B D A (fun (u : (Nat → Int32) × (Nat → Int32) × (Nat → Int32) × (Nat → Int32) × (Nat → Int32)) => [(a_ce, oX0 a_fl a_va a_ceT a_ceS a_ceH a_ceG a_ceV), (a_ceT, .inl (cI, 5, .inl u.1)), (a_ceS, .inl (cI, 20, .inl u.2.1)), (a_ceH, .inl (cI, 50, .inl u.2.2.1)), (a_ceG, .inl (cI, 320, .inl u.2.2.2.1)), (a_ceV, .inl (cI, 320, .inl u.2.2.2.2))])) A) 0 0 A := by
  refine Met.ofW (cc := cX0_forget) (maxL := 1) (ret := none) (by decide) rfl ?_
  intro p e s m args below meth c s₁ B hml hv
  obtain ⟨hargs, hsz, hP, hK, hN, hD0⟩ := hv
  have hx := B.exec
  have hb := B.bytes
  have hr := B.returns
  have hts := atoms_spec (ws := wsX0_forget) B.pre
  have hown : s.vm.findClass RX0 = some m.cls := findClass_of_methodNamed B.named
  have hlocks := B.notSynchronized
  subst hsz
  have hD : va_D A [(a_ce, oX0 a_fl a_va a_ceT a_ceS a_ceH a_ceG a_ceV), (a_ceT, .inl (cI, 5, .inl ceT_r)), (a_ceS, .inl (cI, 20, .inl ceS_r)), (a_ceH, .inl (cI, 50, .inl ceH_r)), (a_ceG, .inl (cI, 320, .inl ceG_r)), (a_ceV, .inl (cI, 320, .inl ceV_r))] := by rw [hAe]; exact hD0.self
  have hA : ∀ q : Nat, s.heap.size ≤ q → A q := fun q h => by rw [hAe]; exact Or.inr h
  have hS : va_S A s.heap s.heap [] := va_S.rf
  have hl := lv_entry ([.ref a_ce]) (n := 1) (Nat.le_of_ble_eq_true rfl)
  rw [hargs, lg_entry_eq, ← hargs]
  generalize (lg_sl ([.ref a_ce]) ++ List.replicate (1 - (lg_sl ([.ref a_ce])).length) Slot.unset).toArray = ls at hl ⊢
  replace hl : lv_has ls 1 [(0, .ref a_ce)] := hl
  have hRf : ∀ n, n ≤ 1 → n ≤ (headSpec wsX0_forget ({ frames := 1, cells := 0, slots := 0, locals := 23 } : Room)).room.frames := fun n h => h
  have hRl : ∀ n, n ≤ 23 → n ≤ (headSpec wsX0_forget ({ frames := 1, cells := 0, slots := 0, locals := 23 } : Room)).room.locals := fun n h => h
  generalize (headSpec wsX0_forget ({ frames := 1, cells := 0, slots := 0, locals := 23 } : Room)).room = R at hRf hRl ⊢
  generalize hQ : MQ below _ args s 0 0 _ = Q
  unfold wp_X0_forget at ho
  refine lv_aload_n hx hb dX0_forget_0 rfl (lv_at hl 0 rfl) ?_
  refine va_get (D := D) (ci := 0) (v := .ref a_ceT) (C := RX0) (T := TX0) (N := 7) hx hb hts in_X0_forget_X0 hown hK hP 0 rfl rfl 2 (by decide) (hts (.fieldLink RX0 19 "HardBench$Census" "taken" "[I") (List.mem_of_getElem? (i := 1) (by decide +kernel))) (fun _ h9 => h9) rfl dX0_forget_1 ?_
  refine lv_iconst (v := 0) hx hb dX0_forget_4 (by decide) ?_
  refine ca_Tv (As := [.ref a_ceT, .int (0 : Int32)]) (rest := []) (wr := [(a_ce, oX0 a_fl a_va a_ceT a_ceS a_ceH a_ceG a_ceV), (a_ceS, .inl (cI, 20, .inl ceS_r)), (a_ceH, .inl (cI, 50, .inl ceH_r)), (a_ceG, .inl (cI, 320, .inl ceG_r)), (a_ceV, .inl (cI, 320, .inl ceV_r))]) (wo := fun u => [(a_ceT, .inl (cI, 5, .inl u))]) (wn := fun u => [(a_ce, oX0 a_fl a_va a_ceT a_ceS a_ceH a_ceG a_ceV), (a_ceT, .inl (cI, 5, .inl u)), (a_ceS, .inl (cI, 20, .inl ceS_r)), (a_ceH, .inl (cI, 50, .inl ceH_r)), (a_ceG, .inl (cI, 320, .inl ceG_r)), (a_ceV, .inl (cI, 320, .inl ceV_r))]) ⟨hx, hb, hml, hown, hts⟩ (c_J7_fill_53178 l D cI cJ cZ a_ceT H.size 5 ceT_r (0 : Int32) _ _ rfl ho) (va_cwS 2 hts gX0_forget_J7_fill_53178 rfl rfl rfl (by decide +kernel) ⟨hRf _ (Nat.le_of_ble_eq_true rfl), hRl _ (Nat.le_of_ble_eq_true rfl)⟩) hK hN hP hD hS hA [1] [0, 2, 3, 4, 5] [0, 5, 1, 2, 3, 4] rfl rfl (by decide) (by decide) (by decide) (by decide) (fun _ => rfl) rfl hl.1 rfl (Nat.le_of_ble_eq_true rfl) dX0_forget_5 ⟨Nat.zero_le _, Nat.zero_le _⟩ (fun  u5 H locs ho hP hD hS => ?_)
  try dsimp only at ho
  replace hP : va_P D vwCl [(a_ce, oX0 a_fl a_va a_ceT a_ceS a_ceH a_ceG a_ceV), (a_ceT, .inl (cI, 5, .inl u5)), (a_ceS, .inl (cI, 20, .inl ceS_r)), (a_ceH, .inl (cI, 50, .inl ceH_r)), (a_ceG, .inl (cI, 320, .inl ceG_r)), (a_ceV, .inl (cI, 320, .inl ceV_r))] H := hP
  replace hD : va_D A [(a_ce, oX0 a_fl a_va a_ceT a_ceS a_ceH a_ceG a_ceV), (a_ceT, .inl (cI, 5, .inl u5)), (a_ceS, .inl (cI, 20, .inl ceS_r)), (a_ceH, .inl (cI, 50, .inl ceH_r)), (a_ceG, .inl (cI, 320, .inl ceG_r)), (a_ceV, .inl (cI, 320, .inl ceV_r))] := hD
  refine lv_aload_n hx hb dX0_forget_8 rfl (lv_at hl 0 rfl) ?_
  refine va_get (D := D) (ci := 0) (v := .ref a_ceS) (C := RX0) (T := TX0) (N := 7) hx hb hts in_X0_forget_X0 hown hK hP 0 rfl rfl 3 (by decide) (hts (.fieldLink RX0 23 "HardBench$Census" "sorts" "[I") (List.mem_of_getElem? (i := 2) (by decide +kernel))) (fun _ h9 => h9) rfl dX0_forget_9 ?_
  refine lv_iconst (v := 0) hx hb dX0_forget_12 (by decide) ?_
  refine ca_Tv (As := [.ref a_ceS, .int (0 : Int32)]) (rest := []) (wr := [(a_ce, oX0 a_fl a_va a_ceT a_ceS a_ceH a_ceG a_ceV), (a_ceT, .inl (cI, 5, .inl u5)), (a_ceH, .inl (cI, 50, .inl ceH_r)), (a_ceG, .inl (cI, 320, .inl ceG_r)), (a_ceV, .inl (cI, 320, .inl ceV_r))]) (wo := fun u => [(a_ceS, .inl (cI, 20, .inl u))]) (wn := fun u => [(a_ce, oX0 a_fl a_va a_ceT a_ceS a_ceH a_ceG a_ceV), (a_ceT, .inl (cI, 5, .inl u5)), (a_ceS, .inl (cI, 20, .inl u)), (a_ceH, .inl (cI, 50, .inl ceH_r)), (a_ceG, .inl (cI, 320, .inl ceG_r)), (a_ceV, .inl (cI, 320, .inl ceV_r))]) ⟨hx, hb, hml, hown, hts⟩ (c_J7_fill_53178 l D cI cJ cZ a_ceS H.size 20 ceS_r (0 : Int32) _ _ rfl ho) (va_cwS 2 hts gX0_forget_J7_fill_53178 rfl rfl rfl (by decide +kernel) ⟨hRf _ (Nat.le_of_ble_eq_true rfl), hRl _ (Nat.le_of_ble_eq_true rfl)⟩) hK hN hP hD hS hA [2] [0, 1, 3, 4, 5] [0, 1, 5, 2, 3, 4] rfl rfl (by decide) (by decide) (by decide) (by decide) (fun _ => rfl) rfl hl.1 rfl (Nat.le_of_ble_eq_true rfl) dX0_forget_13 ⟨Nat.zero_le _, Nat.zero_le _⟩ (fun  u13 H locs ho hP hD hS => ?_)
  try dsimp only at ho
  replace hP : va_P D vwCl [(a_ce, oX0 a_fl a_va a_ceT a_ceS a_ceH a_ceG a_ceV), (a_ceT, .inl (cI, 5, .inl u5)), (a_ceS, .inl (cI, 20, .inl u13)), (a_ceH, .inl (cI, 50, .inl ceH_r)), (a_ceG, .inl (cI, 320, .inl ceG_r)), (a_ceV, .inl (cI, 320, .inl ceV_r))] H := hP
  replace hD : va_D A [(a_ce, oX0 a_fl a_va a_ceT a_ceS a_ceH a_ceG a_ceV), (a_ceT, .inl (cI, 5, .inl u5)), (a_ceS, .inl (cI, 20, .inl u13)), (a_ceH, .inl (cI, 50, .inl ceH_r)), (a_ceG, .inl (cI, 320, .inl ceG_r)), (a_ceV, .inl (cI, 320, .inl ceV_r))] := hD
  refine lv_aload_n hx hb dX0_forget_16 rfl (lv_at hl 0 rfl) ?_
  refine va_get (D := D) (ci := 0) (v := .ref a_ceH) (C := RX0) (T := TX0) (N := 7) hx hb hts in_X0_forget_X0 hown hK hP 0 rfl rfl 4 (by decide) (hts (.fieldLink RX0 26 "HardBench$Census" "hardnesses" "[I") (List.mem_of_getElem? (i := 3) (by decide +kernel))) (fun _ h9 => h9) rfl dX0_forget_17 ?_
  refine lv_iconst (v := 0) hx hb dX0_forget_20 (by decide) ?_
  refine ca_Tv (As := [.ref a_ceH, .int (0 : Int32)]) (rest := []) (wr := [(a_ce, oX0 a_fl a_va a_ceT a_ceS a_ceH a_ceG a_ceV), (a_ceT, .inl (cI, 5, .inl u5)), (a_ceS, .inl (cI, 20, .inl u13)), (a_ceG, .inl (cI, 320, .inl ceG_r)), (a_ceV, .inl (cI, 320, .inl ceV_r))]) (wo := fun u => [(a_ceH, .inl (cI, 50, .inl u))]) (wn := fun u => [(a_ce, oX0 a_fl a_va a_ceT a_ceS a_ceH a_ceG a_ceV), (a_ceT, .inl (cI, 5, .inl u5)), (a_ceS, .inl (cI, 20, .inl u13)), (a_ceH, .inl (cI, 50, .inl u)), (a_ceG, .inl (cI, 320, .inl ceG_r)), (a_ceV, .inl (cI, 320, .inl ceV_r))]) ⟨hx, hb, hml, hown, hts⟩ (c_J7_fill_53178 l D cI cJ cZ a_ceH H.size 50 ceH_r (0 : Int32) _ _ rfl ho) (va_cwS 2 hts gX0_forget_J7_fill_53178 rfl rfl rfl (by decide +kernel) ⟨hRf _ (Nat.le_of_ble_eq_true rfl), hRl _ (Nat.le_of_ble_eq_true rfl)⟩) hK hN hP hD hS hA [3] [0, 1, 2, 4, 5] [0, 1, 2, 5, 3, 4] rfl rfl (by decide) (by decide) (by decide) (by decide) (fun _ => rfl) rfl hl.1 rfl (Nat.le_of_ble_eq_true rfl) dX0_forget_21 ⟨Nat.zero_le _, Nat.zero_le _⟩ (fun  u21 H locs ho hP hD hS => ?_)
  try dsimp only at ho
  replace hP : va_P D vwCl [(a_ce, oX0 a_fl a_va a_ceT a_ceS a_ceH a_ceG a_ceV), (a_ceT, .inl (cI, 5, .inl u5)), (a_ceS, .inl (cI, 20, .inl u13)), (a_ceH, .inl (cI, 50, .inl u21)), (a_ceG, .inl (cI, 320, .inl ceG_r)), (a_ceV, .inl (cI, 320, .inl ceV_r))] H := hP
  replace hD : va_D A [(a_ce, oX0 a_fl a_va a_ceT a_ceS a_ceH a_ceG a_ceV), (a_ceT, .inl (cI, 5, .inl u5)), (a_ceS, .inl (cI, 20, .inl u13)), (a_ceH, .inl (cI, 50, .inl u21)), (a_ceG, .inl (cI, 320, .inl ceG_r)), (a_ceV, .inl (cI, 320, .inl ceV_r))] := hD
  refine lv_aload_n hx hb dX0_forget_24 rfl (lv_at hl 0 rfl) ?_
  refine va_get (D := D) (ci := 0) (v := .ref a_ceG) (C := RX0) (T := TX0) (N := 7) hx hb hts in_X0_forget_X0 hown hK hP 0 rfl rfl 5 (by decide) (hts (.fieldLink RX0 29 "HardBench$Census" "blockGreatest" "[I") (List.mem_of_getElem? (i := 4) (by decide +kernel))) (fun _ h9 => h9) rfl dX0_forget_25 ?_
  refine lv_iconst (v := 0) hx hb dX0_forget_28 (by decide) ?_
  refine ca_Tv (As := [.ref a_ceG, .int (0 : Int32)]) (rest := []) (wr := [(a_ce, oX0 a_fl a_va a_ceT a_ceS a_ceH a_ceG a_ceV), (a_ceT, .inl (cI, 5, .inl u5)), (a_ceS, .inl (cI, 20, .inl u13)), (a_ceH, .inl (cI, 50, .inl u21)), (a_ceV, .inl (cI, 320, .inl ceV_r))]) (wo := fun u => [(a_ceG, .inl (cI, 320, .inl u))]) (wn := fun u => [(a_ce, oX0 a_fl a_va a_ceT a_ceS a_ceH a_ceG a_ceV), (a_ceT, .inl (cI, 5, .inl u5)), (a_ceS, .inl (cI, 20, .inl u13)), (a_ceH, .inl (cI, 50, .inl u21)), (a_ceG, .inl (cI, 320, .inl u)), (a_ceV, .inl (cI, 320, .inl ceV_r))]) ⟨hx, hb, hml, hown, hts⟩ (c_J7_fill_53178 l D cI cJ cZ a_ceG H.size 320 ceG_r (0 : Int32) _ _ rfl ho) (va_cwS 2 hts gX0_forget_J7_fill_53178 rfl rfl rfl (by decide +kernel) ⟨hRf _ (Nat.le_of_ble_eq_true rfl), hRl _ (Nat.le_of_ble_eq_true rfl)⟩) hK hN hP hD hS hA [4] [0, 1, 2, 3, 5] [0, 1, 2, 3, 5, 4] rfl rfl (by decide) (by decide) (by decide) (by decide) (fun _ => rfl) rfl hl.1 rfl (Nat.le_of_ble_eq_true rfl) dX0_forget_29 ⟨Nat.zero_le _, Nat.zero_le _⟩ (fun  u29 H locs ho hP hD hS => ?_)
  try dsimp only at ho
  replace hP : va_P D vwCl [(a_ce, oX0 a_fl a_va a_ceT a_ceS a_ceH a_ceG a_ceV), (a_ceT, .inl (cI, 5, .inl u5)), (a_ceS, .inl (cI, 20, .inl u13)), (a_ceH, .inl (cI, 50, .inl u21)), (a_ceG, .inl (cI, 320, .inl u29)), (a_ceV, .inl (cI, 320, .inl ceV_r))] H := hP
  replace hD : va_D A [(a_ce, oX0 a_fl a_va a_ceT a_ceS a_ceH a_ceG a_ceV), (a_ceT, .inl (cI, 5, .inl u5)), (a_ceS, .inl (cI, 20, .inl u13)), (a_ceH, .inl (cI, 50, .inl u21)), (a_ceG, .inl (cI, 320, .inl u29)), (a_ceV, .inl (cI, 320, .inl ceV_r))] := hD
  refine lv_aload_n hx hb dX0_forget_32 rfl (lv_at hl 0 rfl) ?_
  refine va_get (D := D) (ci := 0) (v := .ref a_ceV) (C := RX0) (T := TX0) (N := 7) hx hb hts in_X0_forget_X0 hown hK hP 0 rfl rfl 6 (by decide) (hts (.fieldLink RX0 32 "HardBench$Census" "blockHave" "[I") (List.mem_of_getElem? (i := 5) (by decide +kernel))) (fun _ h9 => h9) rfl dX0_forget_33 ?_
  refine lv_iconst (v := 0) hx hb dX0_forget_36 (by decide) ?_
  refine ca_Tv (As := [.ref a_ceV, .int (0 : Int32)]) (rest := []) (wr := [(a_ce, oX0 a_fl a_va a_ceT a_ceS a_ceH a_ceG a_ceV), (a_ceT, .inl (cI, 5, .inl u5)), (a_ceS, .inl (cI, 20, .inl u13)), (a_ceH, .inl (cI, 50, .inl u21)), (a_ceG, .inl (cI, 320, .inl u29))]) (wo := fun u => [(a_ceV, .inl (cI, 320, .inl u))]) (wn := fun u => [(a_ce, oX0 a_fl a_va a_ceT a_ceS a_ceH a_ceG a_ceV), (a_ceT, .inl (cI, 5, .inl u5)), (a_ceS, .inl (cI, 20, .inl u13)), (a_ceH, .inl (cI, 50, .inl u21)), (a_ceG, .inl (cI, 320, .inl u29)), (a_ceV, .inl (cI, 320, .inl u))]) ⟨hx, hb, hml, hown, hts⟩ (c_J7_fill_53178 l D cI cJ cZ a_ceV H.size 320 ceV_r (0 : Int32) _ _ rfl ho) (va_cwS 2 hts gX0_forget_J7_fill_53178 rfl rfl rfl (by decide +kernel) ⟨hRf _ (Nat.le_of_ble_eq_true rfl), hRl _ (Nat.le_of_ble_eq_true rfl)⟩) hK hN hP hD hS hA [5] [0, 1, 2, 3, 4] [0, 1, 2, 3, 4, 5] rfl rfl (by decide) (by decide) (by decide) (by decide) (fun _ => rfl) rfl hl.1 rfl (Nat.le_of_ble_eq_true rfl) dX0_forget_37 ⟨Nat.zero_le _, Nat.zero_le _⟩ (fun  u37 H locs ho hP hD hS => ?_)
  try dsimp only at ho
  replace hP : va_P D vwCl [(a_ce, oX0 a_fl a_va a_ceT a_ceS a_ceH a_ceG a_ceV), (a_ceT, .inl (cI, 5, .inl u5)), (a_ceS, .inl (cI, 20, .inl u13)), (a_ceH, .inl (cI, 50, .inl u21)), (a_ceG, .inl (cI, 320, .inl u29)), (a_ceV, .inl (cI, 320, .inl u37))] H := hP
  replace hD : va_D A [(a_ce, oX0 a_fl a_va a_ceT a_ceS a_ceH a_ceG a_ceV), (a_ceT, .inl (cI, 5, .inl u5)), (a_ceS, .inl (cI, 20, .inl u13)), (a_ceH, .inl (cI, 50, .inl u21)), (a_ceG, .inl (cI, 320, .inl u29)), (a_ceV, .inl (cI, 320, .inl u37))] := hD
  subst hQ; exact W.vret hx hb hr (fun t ht hW => ⟨⟨(u5, u13, u21, u29, u37), rfl, ho, by rw [ht]; exact hP, hD⟩, hS.F ht⟩) (fun q hq => hS.2.2 q hq) dX0_forget_40

def wp_X0_addToBlock_30 (post : (Nat → Int32) → (Nat → Int32) → Prop)  (ceG_r : Nat → Int32) (ceV_r : Nat → Int32) (p1 : Int32) (p2 : Int32) : Prop := wp_X4_at (fun r36 => (((¬ p2 = r36) → (post  ceG_r ceV_r)) ∧ ((¬ (¬ p2 = r36)) → (wp_X4_addOne (fun u47 => (post  ceG_r u47)) 320 ceV_r p1)))) 320 ceG_r p1
def wp_X0_addToBlock (post : (Nat → Int32) → (Nat → Int32) → Prop) (ceG_r : Nat → Int32) (ceV_r : Nat → Int32) (p1 : Int32) (p2 : Int32) : Prop := wp_X4_at (fun r6 => (((p2 ≤ r6) → (wp_X0_addToBlock_30 post ceG_r ceV_r p1 p2)) ∧ ((¬ (p2 ≤ r6)) → (wp_X4_put (fun u18 => (wp_X4_put (fun u27 => (wp_X0_addToBlock_30 post u18 u27 p1 p2)) 320 ceV_r p1 (0 : Int32))) 320 ceG_r p1 p2)))) 320 ceG_r p1
set_option maxRecDepth 20000 in
theorem in_X0_addToBlock_X0 : ∀ w ∈ u_ws RX0 TX0 7, w ∈ wsX0_addToBlock := fun w h => (goodIn_r wsX00 [15, 16, 17, 18, 19, 20, 21] (by decide +kernel) (by decide +kernel) w h).1
set_option maxHeartbeats 4000000 in
set_option maxRecDepth 100000 in
theorem c_X0_addToBlock (l : Launch) (D : va_G) (cI cJ cZ : ClassId) (a_fl : Nat) (a_va : Nat) (a_ce : Nat) (a_ceT : Nat) (a_ceS : Nat) (a_ceH : Nat) (a_ceG : Nat) (a_ceV : Nat) (sz : Nat) (ceG_r : Nat → Int32) (ceV_r : Nat → Int32) (p1 : Int32) (p2 : Int32) (post : (Nat → Int32) → (Nat → Int32) → Prop) (A : Nat → Prop) (hAe : A = va_A [(a_ce, oX0 a_fl a_va a_ceT a_ceS a_ceH a_ceG a_ceV), (a_ceG, .inl (cI, 320, .inl ceG_r)), (a_ceV, .inl (cI, 320, .inl ceV_r))] sz) (ho : wp_X0_addToBlock post ceG_r ceV_r p1 p2) : Met l yX0_addToBlock wsX0_addToBlock ({ frames := 2, cells := 0, slots := 0, locals := 43 } : Room) (rw_P D [(cI, .int), (cJ, .long), (cZ, .boolean)] [.ref a_ce, .int p1, .int p2] sz [(a_ce, oX0 a_fl a_va a_ceT a_ceS a_ceH a_ceG a_ceV), (a_ceG, .inl (cI, 320, .inl ceG_r)), (a_ceV, .inl (cI, 320, .inl ceV_r))]) (va_Qv (fun (u : (Nat → Int32) × (Nat → Int32)) => post u.1 u.2) (rw_B D A (fun (u : (Nat → Int32) × (Nat → Int32)) => [(a_ce, oX0 a_fl a_va a_ceT a_ceS a_ceH a_ceG a_ceV), (a_ceG, .inl (cI, 320, .inl u.1)), (a_ceV, .inl (cI, 320, .inl u.2))])) A) 0 0 A := by
  refine Met.ofW (cc := cX0_addToBlock) (maxL := 3) (ret := none) (by decide) rfl ?_
  intro p e s m args below meth c s₁ B hml hv
  obtain ⟨hargs, hsz, hP, hK, hN, hD0⟩ := hv
  have hx := B.exec
  have hb := B.bytes
  have hr := B.returns
  have hts := atoms_spec (ws := wsX0_addToBlock) B.pre
  have hown : s.vm.findClass RX0 = some m.cls := findClass_of_methodNamed B.named
  have hlocks := B.notSynchronized
  subst hsz
  have hD : va_D A [(a_ce, oX0 a_fl a_va a_ceT a_ceS a_ceH a_ceG a_ceV), (a_ceG, .inl (cI, 320, .inl ceG_r)), (a_ceV, .inl (cI, 320, .inl ceV_r))] := by rw [hAe]; exact hD0.self
  have hA : ∀ q : Nat, s.heap.size ≤ q → A q := fun q h => by rw [hAe]; exact Or.inr h
  have hS : va_S A s.heap s.heap [] := va_S.rf
  have hl := lv_entry ([.ref a_ce, .int p1, .int p2]) (n := 3) (Nat.le_of_ble_eq_true rfl)
  rw [hargs, lg_entry_eq, ← hargs]
  generalize (lg_sl ([.ref a_ce, .int p1, .int p2]) ++ List.replicate (3 - (lg_sl ([.ref a_ce, .int p1, .int p2])).length) Slot.unset).toArray = ls at hl ⊢
  replace hl : lv_has ls 3 [(0, .ref a_ce), (1, .int p1), (2, .int p2)] := hl
  have hRf : ∀ n, n ≤ 2 → n ≤ (headSpec wsX0_addToBlock ({ frames := 2, cells := 0, slots := 0, locals := 43 } : Room)).room.frames := fun n h => h
  have hRl : ∀ n, n ≤ 43 → n ≤ (headSpec wsX0_addToBlock ({ frames := 2, cells := 0, slots := 0, locals := 43 } : Room)).room.locals := fun n h => h
  generalize (headSpec wsX0_addToBlock ({ frames := 2, cells := 0, slots := 0, locals := 43 } : Room)).room = R at hRf hRl ⊢
  generalize hQ : MQ below _ args s 0 0 _ = Q
  have C_30 : ∀ (ceG_r : Nat → Int32) (ceV_r : Nat → Int32) (H : Heap) (locs : List Loc) (ls : Array Slot), wp_X0_addToBlock_30 post  ceG_r ceV_r p1 p2 → va_P D vwCl [(a_ce, oX0 a_fl a_va a_ceT a_ceS a_ceH a_ceG a_ceV), (a_ceG, .inl (cI, 320, .inl ceG_r)), (a_ceV, .inl (cI, 320, .inl ceV_r))] H → va_D A [(a_ce, oX0 a_fl a_va a_ceT a_ceS a_ceH a_ceG a_ceV), (a_ceG, .inl (cI, 320, .inl ceG_r)), (a_ceV, .inl (cI, 320, .inl ceV_r))] → va_S A s.heap H locs → lv_has ls 3 [(0, .ref a_ce), (1, .int p1), (2, .int p2)] → W p l e R s m args below meth c H locs 0 0 Q (F0 m 30 ls []) := by
    intro ceG_r ceV_r H locs ls ho hP hD hS hl
    unfold wp_X0_addToBlock_30 at ho
    refine lv_iload_n hx hb dX0_addToBlock_30 rfl (lv_at hl 2 rfl) ?_
    refine lv_aload_n hx hb dX0_addToBlock_31 rfl (lv_at hl 0 rfl) ?_
    refine va_get (D := D) (ci := 0) (v := .ref a_ceG) (C := RX0) (T := TX0) (N := 7) hx hb hts in_X0_addToBlock_X0 hown hK hP 0 rfl rfl 5 (by decide) (hts (.fieldLink RX0 29 "HardBench$Census" "blockGreatest" "[I") (List.mem_of_getElem? (i := 1) (by decide +kernel))) (fun _ h9 => h9) rfl dX0_addToBlock_32 ?_
    refine lv_iload_n hx hb dX0_addToBlock_35 rfl (lv_at hl 1 rfl) ?_
    refine ca_Si (As := [.ref a_ceG, .int p1]) (rest := [.int p2]) ⟨hx, hb, hml, hown, hts⟩ (c_X4_at l D cI cJ cZ a_ceG 320 ceG_r p1 _ ho) (va_cwS 2 hts gX0_addToBlock_X4_at rfl rfl rfl (by decide +kernel) ⟨hRf _ (Nat.le_of_ble_eq_true rfl), hRl _ (Nat.le_of_ble_eq_true rfl)⟩) hK hN hP [1] rfl rfl hl.1 rfl (Nat.le_of_ble_eq_true rfl) dX0_addToBlock_36 ⟨Nat.zero_le _, Nat.zero_le _⟩ (fun r36 ho => ?_)
    refine lv_icmp_ne (tgt := 50) hx hb dX0_addToBlock_39 (by decide) (fun c_39 => ?_) (fun c_39 => ?_)
    · replace ho := ho.1 c_39
      subst hQ; exact W.vret hx hb hr (fun t ht hW => ⟨⟨(ceG_r, ceV_r), rfl, ho, by rw [ht]; exact hP, hD⟩, hS.F ht⟩) (fun q hq => hS.2.2 q hq) dX0_addToBlock_50
    · replace ho := ho.2 c_39
      refine lv_aload_n hx hb dX0_addToBlock_42 rfl (lv_at hl 0 rfl) ?_
      refine va_get (D := D) (ci := 0) (v := .ref a_ceV) (C := RX0) (T := TX0) (N := 7) hx hb hts in_X0_addToBlock_X0 hown hK hP 0 rfl rfl 6 (by decide) (hts (.fieldLink RX0 32 "HardBench$Census" "blockHave" "[I") (List.mem_of_getElem? (i := 2) (by decide +kernel))) (fun _ h9 => h9) rfl dX0_addToBlock_43 ?_
      refine lv_iload_n hx hb dX0_addToBlock_46 rfl (lv_at hl 1 rfl) ?_
      refine ca_Tv (As := [.ref a_ceV, .int p1]) (rest := []) (wr := [(a_ce, oX0 a_fl a_va a_ceT a_ceS a_ceH a_ceG a_ceV), (a_ceG, .inl (cI, 320, .inl ceG_r))]) (wo := fun u => [(a_ceV, .inl (cI, 320, .inl u))]) (wn := fun u => [(a_ce, oX0 a_fl a_va a_ceT a_ceS a_ceH a_ceG a_ceV), (a_ceG, .inl (cI, 320, .inl ceG_r)), (a_ceV, .inl (cI, 320, .inl u))]) ⟨hx, hb, hml, hown, hts⟩ (c_X4_addOne l D cI cJ cZ a_ceV H.size 320 ceV_r p1 _ _ rfl ho) (va_cwS 2 hts gX0_addToBlock_X4_addOne rfl rfl rfl (by decide +kernel) ⟨hRf _ (Nat.le_of_ble_eq_true rfl), hRl _ (Nat.le_of_ble_eq_true rfl)⟩) hK hN hP hD hS hA [2] [0, 1] [0, 1, 2] rfl rfl (by decide) (by decide) (by decide) (by decide) (fun _ => rfl) rfl hl.1 rfl (Nat.le_of_ble_eq_true rfl) dX0_addToBlock_47 ⟨Nat.zero_le _, Nat.zero_le _⟩ (fun  u47 H locs ho hP hD hS => ?_)
      try dsimp only at ho
      replace hP : va_P D vwCl [(a_ce, oX0 a_fl a_va a_ceT a_ceS a_ceH a_ceG a_ceV), (a_ceG, .inl (cI, 320, .inl ceG_r)), (a_ceV, .inl (cI, 320, .inl u47))] H := hP
      replace hD : va_D A [(a_ce, oX0 a_fl a_va a_ceT a_ceS a_ceH a_ceG a_ceV), (a_ceG, .inl (cI, 320, .inl ceG_r)), (a_ceV, .inl (cI, 320, .inl u47))] := hD
      subst hQ; exact W.vret hx hb hr (fun t ht hW => ⟨⟨(ceG_r, u47), rfl, ho, by rw [ht]; exact hP, hD⟩, hS.F ht⟩) (fun q hq => hS.2.2 q hq) dX0_addToBlock_50
  unfold wp_X0_addToBlock at ho
  refine lv_iload_n hx hb dX0_addToBlock_0 rfl (lv_at hl 2 rfl) ?_
  refine lv_aload_n hx hb dX0_addToBlock_1 rfl (lv_at hl 0 rfl) ?_
  refine va_get (D := D) (ci := 0) (v := .ref a_ceG) (C := RX0) (T := TX0) (N := 7) hx hb hts in_X0_addToBlock_X0 hown hK hP 0 rfl rfl 5 (by decide) (hts (.fieldLink RX0 29 "HardBench$Census" "blockGreatest" "[I") (List.mem_of_getElem? (i := 1) (by decide +kernel))) (fun _ h9 => h9) rfl dX0_addToBlock_2 ?_
  refine lv_iload_n hx hb dX0_addToBlock_5 rfl (lv_at hl 1 rfl) ?_
  refine ca_Si (As := [.ref a_ceG, .int p1]) (rest := [.int p2]) ⟨hx, hb, hml, hown, hts⟩ (c_X4_at l D cI cJ cZ a_ceG 320 ceG_r p1 _ ho) (va_cwS 2 hts gX0_addToBlock_X4_at rfl rfl rfl (by decide +kernel) ⟨hRf _ (Nat.le_of_ble_eq_true rfl), hRl _ (Nat.le_of_ble_eq_true rfl)⟩) hK hN hP [1] rfl rfl hl.1 rfl (Nat.le_of_ble_eq_true rfl) dX0_addToBlock_6 ⟨Nat.zero_le _, Nat.zero_le _⟩ (fun r6 ho => ?_)
  refine lv_icmp_le (tgt := 30) hx hb dX0_addToBlock_9 (by decide) (fun c_9 => ?_) (fun c_9 => ?_)
  · replace ho := ho.1 c_9
    exact C_30 ceG_r ceV_r H locs ls ho hP hD hS (lv_sub hl [0, 1, 2] rfl)
  · replace ho := ho.2 c_9
    refine lv_aload_n hx hb dX0_addToBlock_12 rfl (lv_at hl 0 rfl) ?_
    refine va_get (D := D) (ci := 0) (v := .ref a_ceG) (C := RX0) (T := TX0) (N := 7) hx hb hts in_X0_addToBlock_X0 hown hK hP 0 rfl rfl 5 (by decide) (hts (.fieldLink RX0 29 "HardBench$Census" "blockGreatest" "[I") (List.mem_of_getElem? (i := 1) (by decide +kernel))) (fun _ h9 => h9) rfl dX0_addToBlock_13 ?_
    refine lv_iload_n hx hb dX0_addToBlock_16 rfl (lv_at hl 1 rfl) ?_
    refine lv_iload_n hx hb dX0_addToBlock_17 rfl (lv_at hl 2 rfl) ?_
    refine ca_Tv (As := [.ref a_ceG, .int p1, .int p2]) (rest := []) (wr := [(a_ce, oX0 a_fl a_va a_ceT a_ceS a_ceH a_ceG a_ceV), (a_ceV, .inl (cI, 320, .inl ceV_r))]) (wo := fun u => [(a_ceG, .inl (cI, 320, .inl u))]) (wn := fun u => [(a_ce, oX0 a_fl a_va a_ceT a_ceS a_ceH a_ceG a_ceV), (a_ceG, .inl (cI, 320, .inl u)), (a_ceV, .inl (cI, 320, .inl ceV_r))]) ⟨hx, hb, hml, hown, hts⟩ (c_X4_put l D cI cJ cZ a_ceG H.size 320 ceG_r p1 p2 _ _ rfl ho) (va_cwS 3 hts gX0_addToBlock_X4_put rfl rfl rfl (by decide +kernel) ⟨hRf _ (Nat.le_of_ble_eq_true rfl), hRl _ (Nat.le_of_ble_eq_true rfl)⟩) hK hN hP hD hS hA [1] [0, 2] [0, 2, 1] rfl rfl (by decide) (by decide) (by decide) (by decide) (fun _ => rfl) rfl hl.1 rfl (Nat.le_of_ble_eq_true rfl) dX0_addToBlock_18 ⟨Nat.zero_le _, Nat.zero_le _⟩ (fun  u18 H locs ho hP hD hS => ?_)
    try dsimp only at ho
    replace hP : va_P D vwCl [(a_ce, oX0 a_fl a_va a_ceT a_ceS a_ceH a_ceG a_ceV), (a_ceG, .inl (cI, 320, .inl u18)), (a_ceV, .inl (cI, 320, .inl ceV_r))] H := hP
    replace hD : va_D A [(a_ce, oX0 a_fl a_va a_ceT a_ceS a_ceH a_ceG a_ceV), (a_ceG, .inl (cI, 320, .inl u18)), (a_ceV, .inl (cI, 320, .inl ceV_r))] := hD
    refine lv_aload_n hx hb dX0_addToBlock_21 rfl (lv_at hl 0 rfl) ?_
    refine va_get (D := D) (ci := 0) (v := .ref a_ceV) (C := RX0) (T := TX0) (N := 7) hx hb hts in_X0_addToBlock_X0 hown hK hP 0 rfl rfl 6 (by decide) (hts (.fieldLink RX0 32 "HardBench$Census" "blockHave" "[I") (List.mem_of_getElem? (i := 2) (by decide +kernel))) (fun _ h9 => h9) rfl dX0_addToBlock_22 ?_
    refine lv_iload_n hx hb dX0_addToBlock_25 rfl (lv_at hl 1 rfl) ?_
    refine lv_iconst (v := 0) hx hb dX0_addToBlock_26 (by decide) ?_
    refine ca_Tv (As := [.ref a_ceV, .int p1, .int (0 : Int32)]) (rest := []) (wr := [(a_ce, oX0 a_fl a_va a_ceT a_ceS a_ceH a_ceG a_ceV), (a_ceG, .inl (cI, 320, .inl u18))]) (wo := fun u => [(a_ceV, .inl (cI, 320, .inl u))]) (wn := fun u => [(a_ce, oX0 a_fl a_va a_ceT a_ceS a_ceH a_ceG a_ceV), (a_ceG, .inl (cI, 320, .inl u18)), (a_ceV, .inl (cI, 320, .inl u))]) ⟨hx, hb, hml, hown, hts⟩ (c_X4_put l D cI cJ cZ a_ceV H.size 320 ceV_r p1 (0 : Int32) _ _ rfl ho) (va_cwS 3 hts gX0_addToBlock_X4_put rfl rfl rfl (by decide +kernel) ⟨hRf _ (Nat.le_of_ble_eq_true rfl), hRl _ (Nat.le_of_ble_eq_true rfl)⟩) hK hN hP hD hS hA [2] [0, 1] [0, 1, 2] rfl rfl (by decide) (by decide) (by decide) (by decide) (fun _ => rfl) rfl hl.1 rfl (Nat.le_of_ble_eq_true rfl) dX0_addToBlock_27 ⟨Nat.zero_le _, Nat.zero_le _⟩ (fun  u27 H locs ho hP hD hS => ?_)
    try dsimp only at ho
    replace hP : va_P D vwCl [(a_ce, oX0 a_fl a_va a_ceT a_ceS a_ceH a_ceG a_ceV), (a_ceG, .inl (cI, 320, .inl u18)), (a_ceV, .inl (cI, 320, .inl u27))] H := hP
    replace hD : va_D A [(a_ce, oX0 a_fl a_va a_ceT a_ceS a_ceH a_ceG a_ceV), (a_ceG, .inl (cI, 320, .inl u18)), (a_ceV, .inl (cI, 320, .inl u27))] := hD
    exact C_30 u18 u27 H locs ls ho hP hD hS (lv_sub hl [0, 1, 2] rfl)

def wp_X0_take_23_b (post : Int64 → Int32 → Int32 → Int32 → Int32 → Int32 → Int32 → Int32 → Int32 → Int32 → Int32 → (Nat → Int32) → (Nat → Int32) → (Nat → Int32) → (Nat → Int32) → (Nat → Int32) → Prop)  (fl_f : Int32) (fl_bias : Int32) (fl_codes : Int32) (fl_signBit : Int32) (fl_endless : Int32) (p1 : Int32) (K_23 : Int64 → Int32 → Int32 → Int32 → Int32 → Int32 → Int32 → Int32 → Int32 → Int32 → Int32 → (Nat → Int32) → (Nat → Int32) → (Nat → Int32) → (Nat → Int32) → (Nat → Int32) → Int32 → Prop) (va_m : Int64) (va_x : Int32) (va_more : Int32) (va_laid : Int32) (va_below : Int32) (va_settled : Int32) (va_sort : Int32) (p2_lower : Int32) (p2_way : Int32) (p2_more : Int32) (p2_beyond : Int32) (ceT_r : Nat → Int32) (ceS_r : Nat → Int32) (ceH_r : Nat → Int32) (ceG_r : Nat → Int32) (ceV_r : Nat → Int32) (x2 : Int32) : Prop := ((fl_codes ≤ x2) → (post  va_m va_x va_more va_laid va_below va_settled va_sort p2_lower p2_way p2_more p2_beyond ceT_r ceS_r ceH_r ceG_r ceV_r)) ∧ ((¬ (fl_codes ≤ x2)) → (wp_X6_read (fun u40_1 u40_2 u40_3 u40_4 u40_5 u40_6 u40_7 u40_8 u40_9 u40_10 u40_11 => (wp_X6_hardnessRead (fun r47 => (wp_X6_sortRead (fun r62 => (wp_X4_addOne (fun u66 => (wp_X4_addOne (fun u79 => (wp_X0_addToBlock (fun u93_1 u93_2 => (K_23 u40_1 u40_2 u40_3 u40_4 u40_5 u40_6 u40_7 u40_8 u40_9 u40_10 u40_11 ceT_r u66 u79 u93_1 u93_2 (x2 + (1 : Int32)))) ceG_r ceV_r ((p1 * (64 : Int32)) + (x2 >>> ((8 : Int32) &&& 31))) r47)) 50 ceH_r ((p1 * (10 : Int32)) + r47))) 20 ceS_r ((p1 * (4 : Int32)) + r62))) u40_7)) fl_endless u40_4 u40_8 u40_9 u40_10 u40_11)) fl_f fl_bias fl_signBit fl_endless va_m va_x va_more va_below va_settled p2_lower p2_way p2_more p2_beyond p1 x2))
noncomputable def wp_X0_take_23 (post : Int64 → Int32 → Int32 → Int32 → Int32 → Int32 → Int32 → Int32 → Int32 → Int32 → Int32 → (Nat → Int32) → (Nat → Int32) → (Nat → Int32) → (Nat → Int32) → (Nat → Int32) → Prop)  (fl_f : Int32) (fl_bias : Int32) (fl_codes : Int32) (fl_signBit : Int32) (fl_endless : Int32) (p1 : Int32) (n : Nat) : Int64 → Int32 → Int32 → Int32 → Int32 → Int32 → Int32 → Int32 → Int32 → Int32 → Int32 → (Nat → Int32) → (Nat → Int32) → (Nat → Int32) → (Nat → Int32) → (Nat → Int32) → Int32 → Prop := Nat.rec (motive := fun _ => Int64 → Int32 → Int32 → Int32 → Int32 → Int32 → Int32 → Int32 → Int32 → Int32 → Int32 → (Nat → Int32) → (Nat → Int32) → (Nat → Int32) → (Nat → Int32) → (Nat → Int32) → Int32 → Prop) (fun _ _ _ _ _ _ _ _ _ _ _ _ _ _ _ _ _ => False) (fun _ K_23 => wp_X0_take_23_b post fl_f fl_bias fl_codes fl_signBit fl_endless p1 K_23) n
def wp_X0_take (post : Int64 → Int32 → Int32 → Int32 → Int32 → Int32 → Int32 → Int32 → Int32 → Int32 → Int32 → (Nat → Int32) → (Nat → Int32) → (Nat → Int32) → (Nat → Int32) → (Nat → Int32) → Prop) (fl_f : Int32) (fl_bias : Int32) (fl_codes : Int32) (fl_signBit : Int32) (fl_endless : Int32) (va_m : Int64) (va_x : Int32) (va_more : Int32) (va_laid : Int32) (va_below : Int32) (va_settled : Int32) (va_sort : Int32) (p2_lower : Int32) (p2_way : Int32) (p2_more : Int32) (p2_beyond : Int32) (ceT_r : Nat → Int32) (ceS_r : Nat → Int32) (ceH_r : Nat → Int32) (ceG_r : Nat → Int32) (ceV_r : Nat → Int32) (p1 : Int32) : Prop := wp_X4_at (fun r5 => (((r5 = 0) → (wp_X4_put (fun u18 => (∃ n, wp_X0_take_23 post fl_f fl_bias fl_codes fl_signBit fl_endless p1 n va_m va_x va_more va_laid va_below va_settled va_sort p2_lower p2_way p2_more p2_beyond u18 ceS_r ceH_r ceG_r ceV_r (0 : Int32))) 5 ceT_r p1 (1 : Int32))) ∧ ((¬ (r5 = 0)) → (post  va_m va_x va_more va_laid va_below va_settled va_sort p2_lower p2_way p2_more p2_beyond ceT_r ceS_r ceH_r ceG_r ceV_r)))) 5 ceT_r p1
set_option maxRecDepth 20000 in
theorem in_X0_take_X0 : ∀ w ∈ u_ws RX0 TX0 7, w ∈ wsX0_take := fun w h => (goodIn_r wsX00 [173, 174, 175, 176, 177, 178, 179] (by decide +kernel) (by decide +kernel) w h).1
set_option maxRecDepth 20000 in
theorem in_X0_take_X1 : ∀ w ∈ u_ws RX1 TX1 6, w ∈ wsX0_take := fun w h => (goodIn_r wsX10 [180, 181, 182, 183, 184, 185] (by decide +kernel) (by decide +kernel) w h).1
set_option maxHeartbeats 4000000 in
set_option maxRecDepth 100000 in
theorem c_X0_take (l : Launch) (D : va_G) (cI cJ cZ : ClassId) (a_fl : Nat) (a_va : Nat) (a_p2 : Nat) (a_ce : Nat) (a_ceT : Nat) (a_ceS : Nat) (a_ceH : Nat) (a_ceG : Nat) (a_ceV : Nat) (sz : Nat) (fl_e : Int32) (fl_f : Int32) (fl_bias : Int32) (fl_codes : Int32) (fl_signBit : Int32) (fl_endless : Int32) (va_m : Int64) (va_x : Int32) (va_more : Int32) (va_laid : Int32) (va_below : Int32) (va_settled : Int32) (va_sort : Int32) (p2_lower : Int32) (p2_way : Int32) (p2_more : Int32) (p2_beyond : Int32) (ceT_r : Nat → Int32) (ceS_r : Nat → Int32) (ceH_r : Nat → Int32) (ceG_r : Nat → Int32) (ceV_r : Nat → Int32) (p1 : Int32) (post : Int64 → Int32 → Int32 → Int32 → Int32 → Int32 → Int32 → Int32 → Int32 → Int32 → Int32 → (Nat → Int32) → (Nat → Int32) → (Nat → Int32) → (Nat → Int32) → (Nat → Int32) → Prop) (A : Nat → Prop) (hAe : A = va_A [(a_fl, oX1 fl_e fl_f fl_bias fl_codes fl_signBit fl_endless), (a_va, oX6 a_fl a_p2 va_m va_x va_more va_laid va_below va_settled va_sort), (a_p2, oX3 a_fl p2_lower p2_way p2_more p2_beyond), (a_ce, oX0 a_fl a_va a_ceT a_ceS a_ceH a_ceG a_ceV), (a_ceT, .inl (cI, 5, .inl ceT_r)), (a_ceS, .inl (cI, 20, .inl ceS_r)), (a_ceH, .inl (cI, 50, .inl ceH_r)), (a_ceG, .inl (cI, 320, .inl ceG_r)), (a_ceV, .inl (cI, 320, .inl ceV_r))] sz) (ho : wp_X0_take post fl_f fl_bias fl_codes fl_signBit fl_endless va_m va_x va_more va_laid va_below va_settled va_sort p2_lower p2_way p2_more p2_beyond ceT_r ceS_r ceH_r ceG_r ceV_r p1) : Met l yX0_take wsX0_take ({ frames := 4, cells := 0, slots := 0, locals := 103 } : Room) (rw_P D [(cI, .int), (cJ, .long), (cZ, .boolean)] [.ref a_ce, .int p1] sz [(a_fl, oX1 fl_e fl_f fl_bias fl_codes fl_signBit fl_endless), (a_va, oX6 a_fl a_p2 va_m va_x va_more va_laid va_below va_settled va_sort), (a_p2, oX3 a_fl p2_lower p2_way p2_more p2_beyond), (a_ce, oX0 a_fl a_va a_ceT a_ceS a_ceH a_ceG a_ceV), (a_ceT, .inl (cI, 5, .inl ceT_r)), (a_ceS, .inl (cI, 20, .inl ceS_r)), (a_ceH, .inl (cI, 50, .inl ceH_r)), (a_ceG, .inl (cI, 320, .inl ceG_r)), (a_ceV, .inl (cI, 320, .inl ceV_r))]) (va_Qv (fun (u : (Int64) × (Int32) × (Int32) × (Int32) × (Int32) × (Int32) × (Int32) × (Int32) × (Int32) × (Int32) × (Int32) × (Nat → Int32) × (Nat → Int32) × (Nat → Int32) × (Nat → Int32) × (Nat → Int32)) => post u.1 u.2.1 u.2.2.1 u.2.2.2.1 u.2.2.2.2.1 u.2.2.2.2.2.1 u.2.2.2.2.2.2.1 u.2.2.2.2.2.2.2.1 u.2.2.2.2.2.2.2.2.1 u.2.2.2.2.2.2.2.2.2.1 u.2.2.2.2.2.2.2.2.2.2.1 u.2.2.2.2.2.2.2.2.2.2.2.1 u.2.2.2.2.2.2.2.2.2.2.2.2.1 u.2.2.2.2.2.2.2.2.2.2.2.2.2.1 u.2.2.2.2.2.2.2.2.2.2.2.2.2.2.1 u.2.2.2.2.2.2.2.2.2.2.2.2.2.2.2) (rw_B D A (fun (u : (Int64) × (Int32) × (Int32) × (Int32) × (Int32) × (Int32) × (Int32) × (Int32) × (Int32) × (Int32) × (Int32) × (Nat → Int32) × (Nat → Int32) × (Nat → Int32) × (Nat → Int32) × (Nat → Int32)) => [(a_fl, oX1 fl_e fl_f fl_bias fl_codes fl_signBit fl_endless), (a_va, oX6 a_fl a_p2 u.1 u.2.1 u.2.2.1 u.2.2.2.1 u.2.2.2.2.1 u.2.2.2.2.2.1 u.2.2.2.2.2.2.1), (a_p2, oX3 a_fl u.2.2.2.2.2.2.2.1 u.2.2.2.2.2.2.2.2.1 u.2.2.2.2.2.2.2.2.2.1 u.2.2.2.2.2.2.2.2.2.2.1), (a_ce, oX0 a_fl a_va a_ceT a_ceS a_ceH a_ceG a_ceV), (a_ceT, .inl (cI, 5, .inl u.2.2.2.2.2.2.2.2.2.2.2.1)), (a_ceS, .inl (cI, 20, .inl u.2.2.2.2.2.2.2.2.2.2.2.2.1)), (a_ceH, .inl (cI, 50, .inl u.2.2.2.2.2.2.2.2.2.2.2.2.2.1)), (a_ceG, .inl (cI, 320, .inl u.2.2.2.2.2.2.2.2.2.2.2.2.2.2.1)), (a_ceV, .inl (cI, 320, .inl u.2.2.2.2.2.2.2.2.2.2.2.2.2.2.2))])) A) 0 0 A := by
  refine Met.ofW (cc := cX0_take) (maxL := 4) (ret := none) (by decide) rfl ?_
  intro p e s m args below meth c s₁ B hml hv
  obtain ⟨hargs, hsz, hP, hK, hN, hD0⟩ := hv
  have hx := B.exec
  have hb := B.bytes
  have hr := B.returns
  have hts := atoms_spec (ws := wsX0_take) B.pre
  have hown : s.vm.findClass RX0 = some m.cls := findClass_of_methodNamed B.named
  have hlocks := B.notSynchronized
  subst hsz
  have hD : va_D A [(a_fl, oX1 fl_e fl_f fl_bias fl_codes fl_signBit fl_endless), (a_va, oX6 a_fl a_p2 va_m va_x va_more va_laid va_below va_settled va_sort), (a_p2, oX3 a_fl p2_lower p2_way p2_more p2_beyond), (a_ce, oX0 a_fl a_va a_ceT a_ceS a_ceH a_ceG a_ceV), (a_ceT, .inl (cI, 5, .inl ceT_r)), (a_ceS, .inl (cI, 20, .inl ceS_r)), (a_ceH, .inl (cI, 50, .inl ceH_r)), (a_ceG, .inl (cI, 320, .inl ceG_r)), (a_ceV, .inl (cI, 320, .inl ceV_r))] := by rw [hAe]; exact hD0.self
  have hA : ∀ q : Nat, s.heap.size ≤ q → A q := fun q h => by rw [hAe]; exact Or.inr h
  have hS : va_S A s.heap s.heap [] := va_S.rf
  have hl := lv_entry ([.ref a_ce, .int p1]) (n := 4) (Nat.le_of_ble_eq_true rfl)
  rw [hargs, lg_entry_eq, ← hargs]
  generalize (lg_sl ([.ref a_ce, .int p1]) ++ List.replicate (4 - (lg_sl ([.ref a_ce, .int p1])).length) Slot.unset).toArray = ls at hl ⊢
  replace hl : lv_has ls 4 [(0, .ref a_ce), (1, .int p1)] := hl
  have hRf : ∀ n, n ≤ 4 → n ≤ (headSpec wsX0_take ({ frames := 4, cells := 0, slots := 0, locals := 103 } : Room)).room.frames := fun n h => h
  have hRl : ∀ n, n ≤ 103 → n ≤ (headSpec wsX0_take ({ frames := 4, cells := 0, slots := 0, locals := 103 } : Room)).room.locals := fun n h => h
  generalize (headSpec wsX0_take ({ frames := 4, cells := 0, slots := 0, locals := 103 } : Room)).room = R at hRf hRl ⊢
  generalize hQ : MQ below _ args s 0 0 _ = Q
  have C_23 : ∀ n : Nat, ∀ (va_m : Int64) (va_x : Int32) (va_more : Int32) (va_laid : Int32) (va_below : Int32) (va_settled : Int32) (va_sort : Int32) (p2_lower : Int32) (p2_way : Int32) (p2_more : Int32) (p2_beyond : Int32) (ceT_r : Nat → Int32) (ceS_r : Nat → Int32) (ceH_r : Nat → Int32) (ceG_r : Nat → Int32) (ceV_r : Nat → Int32) (x2 : Int32) (H : Heap) (locs : List Loc) (ls : Array Slot), wp_X0_take_23 post  fl_f fl_bias fl_codes fl_signBit fl_endless p1 n va_m va_x va_more va_laid va_below va_settled va_sort p2_lower p2_way p2_more p2_beyond ceT_r ceS_r ceH_r ceG_r ceV_r x2 → va_P D vwCl [(a_fl, oX1 fl_e fl_f fl_bias fl_codes fl_signBit fl_endless), (a_va, oX6 a_fl a_p2 va_m va_x va_more va_laid va_below va_settled va_sort), (a_p2, oX3 a_fl p2_lower p2_way p2_more p2_beyond), (a_ce, oX0 a_fl a_va a_ceT a_ceS a_ceH a_ceG a_ceV), (a_ceT, .inl (cI, 5, .inl ceT_r)), (a_ceS, .inl (cI, 20, .inl ceS_r)), (a_ceH, .inl (cI, 50, .inl ceH_r)), (a_ceG, .inl (cI, 320, .inl ceG_r)), (a_ceV, .inl (cI, 320, .inl ceV_r))] H → va_D A [(a_fl, oX1 fl_e fl_f fl_bias fl_codes fl_signBit fl_endless), (a_va, oX6 a_fl a_p2 va_m va_x va_more va_laid va_below va_settled va_sort), (a_p2, oX3 a_fl p2_lower p2_way p2_more p2_beyond), (a_ce, oX0 a_fl a_va a_ceT a_ceS a_ceH a_ceG a_ceV), (a_ceT, .inl (cI, 5, .inl ceT_r)), (a_ceS, .inl (cI, 20, .inl ceS_r)), (a_ceH, .inl (cI, 50, .inl ceH_r)), (a_ceG, .inl (cI, 320, .inl ceG_r)), (a_ceV, .inl (cI, 320, .inl ceV_r))] → va_S A s.heap H locs → lv_has ls 4 [(0, .ref a_ce), (1, .int p1), (2, .int x2)] → W p l e R s m args below meth c H locs 0 0 Q (F0 m 23 ls []) := by
    intro n
    induction n with
    | zero => intro va_m va_x va_more va_laid va_below va_settled va_sort p2_lower p2_way p2_more p2_beyond ceT_r ceS_r ceH_r ceG_r ceV_r x2 H locs ls ho hP hD hS hl; exact ho.elim
    | succ n_23 ih_23 =>
      intro va_m va_x va_more va_laid va_below va_settled va_sort p2_lower p2_way p2_more p2_beyond ceT_r ceS_r ceH_r ceG_r ceV_r x2 H locs ls ho hP hD hS hl
      replace ho : wp_X0_take_23_b post fl_f fl_bias fl_codes fl_signBit fl_endless p1 (wp_X0_take_23 post fl_f fl_bias fl_codes fl_signBit fl_endless p1 n_23) va_m va_x va_more va_laid va_below va_settled va_sort p2_lower p2_way p2_more p2_beyond ceT_r ceS_r ceH_r ceG_r ceV_r x2 := ho
      unfold wp_X0_take_23_b at ho
      refine lv_iload_n hx hb dX0_take_23 rfl (lv_at hl 2 rfl) ?_
      refine lv_aload_n hx hb dX0_take_24 rfl (lv_at hl 0 rfl) ?_
      refine va_get (D := D) (ci := 0) (v := .ref a_fl) (C := RX0) (T := TX0) (N := 7) hx hb hts in_X0_take_X0 hown hK hP 3 rfl rfl 0 (by decide) (hts (.fieldLink RX0 9 "HardBench$Census" "floats" "LHardBench$Floats;") (List.mem_of_getElem? (i := 2) (by decide +kernel))) (fun _ h9 => h9) rfl dX0_take_25 ?_
      refine va_getN (D := D) (ci := 1) (v := .int fl_codes) (C := RX1) (T := TX1) (N := 6) hx hb hts in_X0_take_X1 hown hK hP 0 rfl rfl 3 (by decide) hN.fRX0_51 (fun _ h9 => h9) rfl dX0_take_28 ?_
      refine lv_icmp_ge (tgt := 102) hx hb dX0_take_31 (by decide) (fun c_31 => ?_) (fun c_31 => ?_)
      · replace ho := ho.1 c_31
        subst hQ; exact W.vret hx hb hr (fun t ht hW => ⟨⟨(va_m, va_x, va_more, va_laid, va_below, va_settled, va_sort, p2_lower, p2_way, p2_more, p2_beyond, ceT_r, ceS_r, ceH_r, ceG_r, ceV_r), rfl, ho, by rw [ht]; exact hP, hD⟩, hS.F ht⟩) (fun q hq => hS.2.2 q hq) dX0_take_102
      · replace ho := ho.2 c_31
        refine lv_aload_n hx hb dX0_take_34 rfl (lv_at hl 0 rfl) ?_
        refine va_get (D := D) (ci := 0) (v := .ref a_va) (C := RX0) (T := TX0) (N := 7) hx hb hts in_X0_take_X0 hown hK hP 3 rfl rfl 1 (by decide) (hts (.fieldLink RX0 15 "HardBench$Census" "value" "LHardBench$Value;") (List.mem_of_getElem? (i := 3) (by decide +kernel))) (fun _ h9 => h9) rfl dX0_take_35 ?_
        refine lv_iload_n hx hb dX0_take_38 rfl (lv_at hl 1 rfl) ?_
        refine lv_iload_n hx hb dX0_take_39 rfl (lv_at hl 2 rfl) ?_
        refine ca_Wv (b := a_va) (As := [.int p1, .int x2]) (rest := []) (wr := [(a_ce, oX0 a_fl a_va a_ceT a_ceS a_ceH a_ceG a_ceV), (a_ceT, .inl (cI, 5, .inl ceT_r)), (a_ceS, .inl (cI, 20, .inl ceS_r)), (a_ceH, .inl (cI, 50, .inl ceH_r)), (a_ceG, .inl (cI, 320, .inl ceG_r)), (a_ceV, .inl (cI, 320, .inl ceV_r))]) (wo := fun u => [(a_fl, oX1 fl_e fl_f fl_bias fl_codes fl_signBit fl_endless), (a_va, oX6 a_fl a_p2 u.1 u.2.1 u.2.2.1 u.2.2.2.1 u.2.2.2.2.1 u.2.2.2.2.2.1 u.2.2.2.2.2.2.1), (a_p2, oX3 a_fl u.2.2.2.2.2.2.2.1 u.2.2.2.2.2.2.2.2.1 u.2.2.2.2.2.2.2.2.2.1 u.2.2.2.2.2.2.2.2.2.2)]) (wn := fun u => [(a_fl, oX1 fl_e fl_f fl_bias fl_codes fl_signBit fl_endless), (a_va, oX6 a_fl a_p2 u.1 u.2.1 u.2.2.1 u.2.2.2.1 u.2.2.2.2.1 u.2.2.2.2.2.1 u.2.2.2.2.2.2.1), (a_p2, oX3 a_fl u.2.2.2.2.2.2.2.1 u.2.2.2.2.2.2.2.2.1 u.2.2.2.2.2.2.2.2.2.1 u.2.2.2.2.2.2.2.2.2.2), (a_ce, oX0 a_fl a_va a_ceT a_ceS a_ceH a_ceG a_ceV), (a_ceT, .inl (cI, 5, .inl ceT_r)), (a_ceS, .inl (cI, 20, .inl ceS_r)), (a_ceH, .inl (cI, 50, .inl ceH_r)), (a_ceG, .inl (cI, 320, .inl ceG_r)), (a_ceV, .inl (cI, 320, .inl ceV_r))]) ⟨hx, hb, hml, hown, hts⟩ (c_X6_read l D cI cJ cZ a_fl a_va a_p2 H.size fl_e fl_f fl_bias fl_codes fl_signBit fl_endless va_m va_x va_more va_laid va_below va_settled va_sort p2_lower p2_way p2_more p2_beyond p1 x2 _ _ rfl ho) (cwV 2 hts gX0_take_X6_read rfl rfl rfl (by decide +kernel) ⟨hRf _ (Nat.le_of_ble_eq_true rfl), hRl _ (Nat.le_of_ble_eq_true rfl)⟩) hK hN hP hD hS hA [0, 1, 2] [3, 4, 5, 6, 7, 8] [6, 7, 8, 0, 1, 2, 3, 4, 5] rfl rfl (by decide) (by decide) (by decide) (by decide) (fun _ => rfl) 1 5 rfl rfl rfl rfl hl.1 rfl (Nat.le_of_ble_eq_true rfl) dX0_take_40 ⟨Nat.zero_le _, Nat.zero_le _⟩ (fun  u40 H locs ho hP hD hS => ?_)
        obtain ⟨u40_1, u40_2, u40_3, u40_4, u40_5, u40_6, u40_7, u40_8, u40_9, u40_10, u40_11⟩ := u40
        try dsimp only at ho
        replace hP : va_P D vwCl [(a_fl, oX1 fl_e fl_f fl_bias fl_codes fl_signBit fl_endless), (a_va, oX6 a_fl a_p2 u40_1 u40_2 u40_3 u40_4 u40_5 u40_6 u40_7), (a_p2, oX3 a_fl u40_8 u40_9 u40_10 u40_11), (a_ce, oX0 a_fl a_va a_ceT a_ceS a_ceH a_ceG a_ceV), (a_ceT, .inl (cI, 5, .inl ceT_r)), (a_ceS, .inl (cI, 20, .inl ceS_r)), (a_ceH, .inl (cI, 50, .inl ceH_r)), (a_ceG, .inl (cI, 320, .inl ceG_r)), (a_ceV, .inl (cI, 320, .inl ceV_r))] H := hP
        replace hD : va_D A [(a_fl, oX1 fl_e fl_f fl_bias fl_codes fl_signBit fl_endless), (a_va, oX6 a_fl a_p2 u40_1 u40_2 u40_3 u40_4 u40_5 u40_6 u40_7), (a_p2, oX3 a_fl u40_8 u40_9 u40_10 u40_11), (a_ce, oX0 a_fl a_va a_ceT a_ceS a_ceH a_ceG a_ceV), (a_ceT, .inl (cI, 5, .inl ceT_r)), (a_ceS, .inl (cI, 20, .inl ceS_r)), (a_ceH, .inl (cI, 50, .inl ceH_r)), (a_ceG, .inl (cI, 320, .inl ceG_r)), (a_ceV, .inl (cI, 320, .inl ceV_r))] := hD
        refine lv_aload_n hx hb dX0_take_43 rfl (lv_at hl 0 rfl) ?_
        refine va_get (D := D) (ci := 0) (v := .ref a_va) (C := RX0) (T := TX0) (N := 7) hx hb hts in_X0_take_X0 hown hK hP 3 rfl rfl 1 (by decide) (hts (.fieldLink RX0 15 "HardBench$Census" "value" "LHardBench$Value;") (List.mem_of_getElem? (i := 3) (by decide +kernel))) (fun _ h9 => h9) rfl dX0_take_44 ?_
        refine ca_Vi (b := a_va) (As := []) (rest := []) ⟨hx, hb, hml, hown, hts⟩ (c_X6_hardnessRead l D cI cJ cZ a_fl a_va a_p2 fl_e fl_f fl_bias fl_codes fl_signBit fl_endless u40_1 u40_2 u40_3 u40_4 u40_5 u40_6 u40_7 u40_8 u40_9 u40_10 u40_11  _ ho) (cwV 0 hts gX0_take_X6_hardnessRead rfl rfl rfl (by decide +kernel) ⟨hRf _ (Nat.le_of_ble_eq_true rfl), hRl _ (Nat.le_of_ble_eq_true rfl)⟩) hK hN hP [0, 1, 2] rfl 1 5 rfl rfl rfl rfl hl.1 rfl (Nat.le_of_ble_eq_true rfl) dX0_take_47 ⟨Nat.zero_le _, Nat.zero_le _⟩ (fun r47 ho => ?_)
        refine lv_istore_n (lv' := [(3, .int r47), (0, .ref a_ce), (1, .int p1), (2, .int x2)]) hx hb dX0_take_50 rfl hl (by decide) rfl (fun ls hl => ?_)
        refine lv_aload_n hx hb dX0_take_51 rfl (lv_at hl 1 rfl) ?_
        refine va_get (D := D) (ci := 0) (v := .ref a_ceS) (C := RX0) (T := TX0) (N := 7) hx hb hts in_X0_take_X0 hown hK hP 3 rfl rfl 3 (by decide) (hts (.fieldLink RX0 23 "HardBench$Census" "sorts" "[I") (List.mem_of_getElem? (i := 4) (by decide +kernel))) (fun _ h9 => h9) rfl dX0_take_52 ?_
        refine lv_iload_n hx hb dX0_take_55 rfl (lv_at hl 2 rfl) ?_
        refine lv_iconst (v := 4) hx hb dX0_take_56 (by decide) ?_
        refine lv_imul hx hb dX0_take_57 ?_
        refine lv_aload_n hx hb dX0_take_58 rfl (lv_at hl 1 rfl) ?_
        refine va_get (D := D) (ci := 0) (v := .ref a_va) (C := RX0) (T := TX0) (N := 7) hx hb hts in_X0_take_X0 hown hK hP 3 rfl rfl 1 (by decide) (hts (.fieldLink RX0 15 "HardBench$Census" "value" "LHardBench$Value;") (List.mem_of_getElem? (i := 3) (by decide +kernel))) (fun _ h9 => h9) rfl dX0_take_59 ?_
        refine ca_Vi (b := a_va) (As := []) (rest := [.int (p1 * (4 : Int32)), .ref a_ceS]) ⟨hx, hb, hml, hown, hts⟩ (c_X6_sortRead l D cI cJ cZ a_fl a_va a_p2 u40_1 u40_2 u40_3 u40_4 u40_5 u40_6 u40_7  _ ho) (cwV 0 hts gX0_take_X6_sortRead rfl rfl rfl (by decide +kernel) ⟨hRf _ (Nat.le_of_ble_eq_true rfl), hRl _ (Nat.le_of_ble_eq_true rfl)⟩) hK hN hP [1] rfl 0 5 rfl rfl rfl rfl hl.1 rfl (Nat.le_of_ble_eq_true rfl) dX0_take_62 ⟨Nat.zero_le _, Nat.zero_le _⟩ (fun r62 ho => ?_)
        refine lv_iadd hx hb dX0_take_65 ?_
        refine ca_Tv (As := [.ref a_ceS, .int ((p1 * (4 : Int32)) + r62)]) (rest := []) (wr := [(a_fl, oX1 fl_e fl_f fl_bias fl_codes fl_signBit fl_endless), (a_va, oX6 a_fl a_p2 u40_1 u40_2 u40_3 u40_4 u40_5 u40_6 u40_7), (a_p2, oX3 a_fl u40_8 u40_9 u40_10 u40_11), (a_ce, oX0 a_fl a_va a_ceT a_ceS a_ceH a_ceG a_ceV), (a_ceT, .inl (cI, 5, .inl ceT_r)), (a_ceH, .inl (cI, 50, .inl ceH_r)), (a_ceG, .inl (cI, 320, .inl ceG_r)), (a_ceV, .inl (cI, 320, .inl ceV_r))]) (wo := fun u => [(a_ceS, .inl (cI, 20, .inl u))]) (wn := fun u => [(a_fl, oX1 fl_e fl_f fl_bias fl_codes fl_signBit fl_endless), (a_va, oX6 a_fl a_p2 u40_1 u40_2 u40_3 u40_4 u40_5 u40_6 u40_7), (a_p2, oX3 a_fl u40_8 u40_9 u40_10 u40_11), (a_ce, oX0 a_fl a_va a_ceT a_ceS a_ceH a_ceG a_ceV), (a_ceT, .inl (cI, 5, .inl ceT_r)), (a_ceS, .inl (cI, 20, .inl u)), (a_ceH, .inl (cI, 50, .inl ceH_r)), (a_ceG, .inl (cI, 320, .inl ceG_r)), (a_ceV, .inl (cI, 320, .inl ceV_r))]) ⟨hx, hb, hml, hown, hts⟩ (c_X4_addOne l D cI cJ cZ a_ceS H.size 20 ceS_r ((p1 * (4 : Int32)) + r62) _ _ rfl ho) (va_cwS 2 hts gX0_take_X4_addOne rfl rfl rfl (by decide +kernel) ⟨hRf _ (Nat.le_of_ble_eq_true rfl), hRl _ (Nat.le_of_ble_eq_true rfl)⟩) hK hN hP hD hS hA [5] [0, 1, 2, 3, 4, 6, 7, 8] [0, 1, 2, 3, 4, 8, 5, 6, 7] rfl rfl (by decide) (by decide) (by decide) (by decide) (fun _ => rfl) rfl hl.1 rfl (Nat.le_of_ble_eq_true rfl) dX0_take_66 ⟨Nat.zero_le _, Nat.zero_le _⟩ (fun  u66 H locs ho hP hD hS => ?_)
        try dsimp only at ho
        replace hP : va_P D vwCl [(a_fl, oX1 fl_e fl_f fl_bias fl_codes fl_signBit fl_endless), (a_va, oX6 a_fl a_p2 u40_1 u40_2 u40_3 u40_4 u40_5 u40_6 u40_7), (a_p2, oX3 a_fl u40_8 u40_9 u40_10 u40_11), (a_ce, oX0 a_fl a_va a_ceT a_ceS a_ceH a_ceG a_ceV), (a_ceT, .inl (cI, 5, .inl ceT_r)), (a_ceS, .inl (cI, 20, .inl u66)), (a_ceH, .inl (cI, 50, .inl ceH_r)), (a_ceG, .inl (cI, 320, .inl ceG_r)), (a_ceV, .inl (cI, 320, .inl ceV_r))] H := hP
        replace hD : va_D A [(a_fl, oX1 fl_e fl_f fl_bias fl_codes fl_signBit fl_endless), (a_va, oX6 a_fl a_p2 u40_1 u40_2 u40_3 u40_4 u40_5 u40_6 u40_7), (a_p2, oX3 a_fl u40_8 u40_9 u40_10 u40_11), (a_ce, oX0 a_fl a_va a_ceT a_ceS a_ceH a_ceG a_ceV), (a_ceT, .inl (cI, 5, .inl ceT_r)), (a_ceS, .inl (cI, 20, .inl u66)), (a_ceH, .inl (cI, 50, .inl ceH_r)), (a_ceG, .inl (cI, 320, .inl ceG_r)), (a_ceV, .inl (cI, 320, .inl ceV_r))] := hD
        refine lv_aload_n hx hb dX0_take_69 rfl (lv_at hl 1 rfl) ?_
        refine va_get (D := D) (ci := 0) (v := .ref a_ceH) (C := RX0) (T := TX0) (N := 7) hx hb hts in_X0_take_X0 hown hK hP 3 rfl rfl 4 (by decide) (hts (.fieldLink RX0 26 "HardBench$Census" "hardnesses" "[I") (List.mem_of_getElem? (i := 5) (by decide +kernel))) (fun _ h9 => h9) rfl dX0_take_70 ?_
        refine lv_iload_n hx hb dX0_take_73 rfl (lv_at hl 2 rfl) ?_
        refine lv_bipush (v := 10) hx hb dX0_take_74 (by decide) ?_
        refine lv_imul hx hb dX0_take_76 ?_
        refine lv_iload_n hx hb dX0_take_77 rfl (lv_at hl 0 rfl) ?_
        refine lv_iadd hx hb dX0_take_78 ?_
        refine ca_Tv (As := [.ref a_ceH, .int ((p1 * (10 : Int32)) + r47)]) (rest := []) (wr := [(a_fl, oX1 fl_e fl_f fl_bias fl_codes fl_signBit fl_endless), (a_va, oX6 a_fl a_p2 u40_1 u40_2 u40_3 u40_4 u40_5 u40_6 u40_7), (a_p2, oX3 a_fl u40_8 u40_9 u40_10 u40_11), (a_ce, oX0 a_fl a_va a_ceT a_ceS a_ceH a_ceG a_ceV), (a_ceT, .inl (cI, 5, .inl ceT_r)), (a_ceS, .inl (cI, 20, .inl u66)), (a_ceG, .inl (cI, 320, .inl ceG_r)), (a_ceV, .inl (cI, 320, .inl ceV_r))]) (wo := fun u => [(a_ceH, .inl (cI, 50, .inl u))]) (wn := fun u => [(a_fl, oX1 fl_e fl_f fl_bias fl_codes fl_signBit fl_endless), (a_va, oX6 a_fl a_p2 u40_1 u40_2 u40_3 u40_4 u40_5 u40_6 u40_7), (a_p2, oX3 a_fl u40_8 u40_9 u40_10 u40_11), (a_ce, oX0 a_fl a_va a_ceT a_ceS a_ceH a_ceG a_ceV), (a_ceT, .inl (cI, 5, .inl ceT_r)), (a_ceS, .inl (cI, 20, .inl u66)), (a_ceH, .inl (cI, 50, .inl u)), (a_ceG, .inl (cI, 320, .inl ceG_r)), (a_ceV, .inl (cI, 320, .inl ceV_r))]) ⟨hx, hb, hml, hown, hts⟩ (c_X4_addOne l D cI cJ cZ a_ceH H.size 50 ceH_r ((p1 * (10 : Int32)) + r47) _ _ rfl ho) (va_cwS 2 hts gX0_take_X4_addOne rfl rfl rfl (by decide +kernel) ⟨hRf _ (Nat.le_of_ble_eq_true rfl), hRl _ (Nat.le_of_ble_eq_true rfl)⟩) hK hN hP hD hS hA [6] [0, 1, 2, 3, 4, 5, 7, 8] [0, 1, 2, 3, 4, 5, 8, 6, 7] rfl rfl (by decide) (by decide) (by decide) (by decide) (fun _ => rfl) rfl hl.1 rfl (Nat.le_of_ble_eq_true rfl) dX0_take_79 ⟨Nat.zero_le _, Nat.zero_le _⟩ (fun  u79 H locs ho hP hD hS => ?_)
        try dsimp only at ho
        replace hP : va_P D vwCl [(a_fl, oX1 fl_e fl_f fl_bias fl_codes fl_signBit fl_endless), (a_va, oX6 a_fl a_p2 u40_1 u40_2 u40_3 u40_4 u40_5 u40_6 u40_7), (a_p2, oX3 a_fl u40_8 u40_9 u40_10 u40_11), (a_ce, oX0 a_fl a_va a_ceT a_ceS a_ceH a_ceG a_ceV), (a_ceT, .inl (cI, 5, .inl ceT_r)), (a_ceS, .inl (cI, 20, .inl u66)), (a_ceH, .inl (cI, 50, .inl u79)), (a_ceG, .inl (cI, 320, .inl ceG_r)), (a_ceV, .inl (cI, 320, .inl ceV_r))] H := hP
        replace hD : va_D A [(a_fl, oX1 fl_e fl_f fl_bias fl_codes fl_signBit fl_endless), (a_va, oX6 a_fl a_p2 u40_1 u40_2 u40_3 u40_4 u40_5 u40_6 u40_7), (a_p2, oX3 a_fl u40_8 u40_9 u40_10 u40_11), (a_ce, oX0 a_fl a_va a_ceT a_ceS a_ceH a_ceG a_ceV), (a_ceT, .inl (cI, 5, .inl ceT_r)), (a_ceS, .inl (cI, 20, .inl u66)), (a_ceH, .inl (cI, 50, .inl u79)), (a_ceG, .inl (cI, 320, .inl ceG_r)), (a_ceV, .inl (cI, 320, .inl ceV_r))] := hD
        refine lv_aload_n hx hb dX0_take_82 rfl (lv_at hl 1 rfl) ?_
        refine lv_iload_n hx hb dX0_take_83 rfl (lv_at hl 2 rfl) ?_
        refine lv_bipush (v := 64) hx hb dX0_take_84 (by decide) ?_
        refine lv_imul hx hb dX0_take_86 ?_
        refine lv_iload_n hx hb dX0_take_87 rfl (lv_at hl 3 rfl) ?_
        refine lv_bipush (v := 8) hx hb dX0_take_88 (by decide) ?_
        refine lv_ishr hx hb dX0_take_90 ?_
        refine lv_iadd hx hb dX0_take_91 ?_
        refine lv_iload_n hx hb dX0_take_92 rfl (lv_at hl 0 rfl) ?_
        refine ca_Wv (b := a_ce) (As := [.int ((p1 * (64 : Int32)) + (x2 >>> ((8 : Int32) &&& 31))), .int r47]) (rest := []) (wr := [(a_fl, oX1 fl_e fl_f fl_bias fl_codes fl_signBit fl_endless), (a_va, oX6 a_fl a_p2 u40_1 u40_2 u40_3 u40_4 u40_5 u40_6 u40_7), (a_p2, oX3 a_fl u40_8 u40_9 u40_10 u40_11), (a_ceT, .inl (cI, 5, .inl ceT_r)), (a_ceS, .inl (cI, 20, .inl u66)), (a_ceH, .inl (cI, 50, .inl u79))]) (wo := fun u => [(a_ce, oX0 a_fl a_va a_ceT a_ceS a_ceH a_ceG a_ceV), (a_ceG, .inl (cI, 320, .inl u.1)), (a_ceV, .inl (cI, 320, .inl u.2))]) (wn := fun u => [(a_fl, oX1 fl_e fl_f fl_bias fl_codes fl_signBit fl_endless), (a_va, oX6 a_fl a_p2 u40_1 u40_2 u40_3 u40_4 u40_5 u40_6 u40_7), (a_p2, oX3 a_fl u40_8 u40_9 u40_10 u40_11), (a_ce, oX0 a_fl a_va a_ceT a_ceS a_ceH a_ceG a_ceV), (a_ceT, .inl (cI, 5, .inl ceT_r)), (a_ceS, .inl (cI, 20, .inl u66)), (a_ceH, .inl (cI, 50, .inl u79)), (a_ceG, .inl (cI, 320, .inl u.1)), (a_ceV, .inl (cI, 320, .inl u.2))]) ⟨hx, hb, hml, hown, hts⟩ (c_X0_addToBlock l D cI cJ cZ a_fl a_va a_ce a_ceT a_ceS a_ceH a_ceG a_ceV H.size ceG_r ceV_r ((p1 * (64 : Int32)) + (x2 >>> ((8 : Int32) &&& 31))) r47 _ _ rfl ho) (cwV 2 hts gX0_take_X0_addToBlock rfl rfl rfl (by decide +kernel) ⟨hRf _ (Nat.le_of_ble_eq_true rfl), hRl _ (Nat.le_of_ble_eq_true rfl)⟩) hK hN hP hD hS hA [3, 7, 8] [0, 1, 2, 4, 5, 6] [0, 1, 2, 6, 3, 4, 5, 7, 8] rfl rfl (by decide) (by decide) (by decide) (by decide) (fun _ => rfl) 0 0 rfl rfl rfl rfl hl.1 rfl (Nat.le_of_ble_eq_true rfl) dX0_take_93 ⟨Nat.zero_le _, Nat.zero_le _⟩ (fun  u93 H locs ho hP hD hS => ?_)
        obtain ⟨u93_1, u93_2⟩ := u93
        try dsimp only at ho
        replace hP : va_P D vwCl [(a_fl, oX1 fl_e fl_f fl_bias fl_codes fl_signBit fl_endless), (a_va, oX6 a_fl a_p2 u40_1 u40_2 u40_3 u40_4 u40_5 u40_6 u40_7), (a_p2, oX3 a_fl u40_8 u40_9 u40_10 u40_11), (a_ce, oX0 a_fl a_va a_ceT a_ceS a_ceH a_ceG a_ceV), (a_ceT, .inl (cI, 5, .inl ceT_r)), (a_ceS, .inl (cI, 20, .inl u66)), (a_ceH, .inl (cI, 50, .inl u79)), (a_ceG, .inl (cI, 320, .inl u93_1)), (a_ceV, .inl (cI, 320, .inl u93_2))] H := hP
        replace hD : va_D A [(a_fl, oX1 fl_e fl_f fl_bias fl_codes fl_signBit fl_endless), (a_va, oX6 a_fl a_p2 u40_1 u40_2 u40_3 u40_4 u40_5 u40_6 u40_7), (a_p2, oX3 a_fl u40_8 u40_9 u40_10 u40_11), (a_ce, oX0 a_fl a_va a_ceT a_ceS a_ceH a_ceG a_ceV), (a_ceT, .inl (cI, 5, .inl ceT_r)), (a_ceS, .inl (cI, 20, .inl u66)), (a_ceH, .inl (cI, 50, .inl u79)), (a_ceG, .inl (cI, 320, .inl u93_1)), (a_ceV, .inl (cI, 320, .inl u93_2))] := hD
        refine lv_iinc (v := (x2 + (1 : Int32))) (lv' := [(2, .int (x2 + (1 : Int32))), (3, .int r47), (0, .ref a_ce), (1, .int p1)]) hx hb dX0_take_96 hl (k := 3) rfl rfl (by decide) rfl (fun ls hl => ?_)
        refine lv_goto (tgt := 23) hx hb dX0_take_99 (by decide) ?_
        exact ih_23 u40_1 u40_2 u40_3 u40_4 u40_5 u40_6 u40_7 u40_8 u40_9 u40_10 u40_11 ceT_r u66 u79 u93_1 u93_2 (x2 + (1 : Int32)) H locs ls ho hP hD hS (lv_sub hl [2, 3, 0] rfl)
  unfold wp_X0_take at ho
  refine lv_aload_n hx hb dX0_take_0 rfl (lv_at hl 0 rfl) ?_
  refine va_get (D := D) (ci := 0) (v := .ref a_ceT) (C := RX0) (T := TX0) (N := 7) hx hb hts in_X0_take_X0 hown hK hP 3 rfl rfl 2 (by decide) (hts (.fieldLink RX0 19 "HardBench$Census" "taken" "[I") (List.mem_of_getElem? (i := 1) (by decide +kernel))) (fun _ h9 => h9) rfl dX0_take_1 ?_
  refine lv_iload_n hx hb dX0_take_4 rfl (lv_at hl 1 rfl) ?_
  refine ca_Si (As := [.ref a_ceT, .int p1]) (rest := []) ⟨hx, hb, hml, hown, hts⟩ (c_X4_at l D cI cJ cZ a_ceT 5 ceT_r p1 _ ho) (va_cwS 2 hts gX0_take_X4_at rfl rfl rfl (by decide +kernel) ⟨hRf _ (Nat.le_of_ble_eq_true rfl), hRl _ (Nat.le_of_ble_eq_true rfl)⟩) hK hN hP [4] rfl rfl hl.1 rfl (Nat.le_of_ble_eq_true rfl) dX0_take_5 ⟨Nat.zero_le _, Nat.zero_le _⟩ (fun r5 ho => ?_)
  refine lv_if_eq (tgt := 12) hx hb dX0_take_8 (by decide) (fun c_8 => ?_) (fun c_8 => ?_)
  · replace ho := ho.1 c_8
    refine lv_aload_n hx hb dX0_take_12 rfl (lv_at hl 0 rfl) ?_
    refine va_get (D := D) (ci := 0) (v := .ref a_ceT) (C := RX0) (T := TX0) (N := 7) hx hb hts in_X0_take_X0 hown hK hP 3 rfl rfl 2 (by decide) (hts (.fieldLink RX0 19 "HardBench$Census" "taken" "[I") (List.mem_of_getElem? (i := 1) (by decide +kernel))) (fun _ h9 => h9) rfl dX0_take_13 ?_
    refine lv_iload_n hx hb dX0_take_16 rfl (lv_at hl 1 rfl) ?_
    refine lv_iconst (v := 1) hx hb dX0_take_17 (by decide) ?_
    refine ca_Tv (As := [.ref a_ceT, .int p1, .int (1 : Int32)]) (rest := []) (wr := [(a_fl, oX1 fl_e fl_f fl_bias fl_codes fl_signBit fl_endless), (a_va, oX6 a_fl a_p2 va_m va_x va_more va_laid va_below va_settled va_sort), (a_p2, oX3 a_fl p2_lower p2_way p2_more p2_beyond), (a_ce, oX0 a_fl a_va a_ceT a_ceS a_ceH a_ceG a_ceV), (a_ceS, .inl (cI, 20, .inl ceS_r)), (a_ceH, .inl (cI, 50, .inl ceH_r)), (a_ceG, .inl (cI, 320, .inl ceG_r)), (a_ceV, .inl (cI, 320, .inl ceV_r))]) (wo := fun u => [(a_ceT, .inl (cI, 5, .inl u))]) (wn := fun u => [(a_fl, oX1 fl_e fl_f fl_bias fl_codes fl_signBit fl_endless), (a_va, oX6 a_fl a_p2 va_m va_x va_more va_laid va_below va_settled va_sort), (a_p2, oX3 a_fl p2_lower p2_way p2_more p2_beyond), (a_ce, oX0 a_fl a_va a_ceT a_ceS a_ceH a_ceG a_ceV), (a_ceT, .inl (cI, 5, .inl u)), (a_ceS, .inl (cI, 20, .inl ceS_r)), (a_ceH, .inl (cI, 50, .inl ceH_r)), (a_ceG, .inl (cI, 320, .inl ceG_r)), (a_ceV, .inl (cI, 320, .inl ceV_r))]) ⟨hx, hb, hml, hown, hts⟩ (c_X4_put l D cI cJ cZ a_ceT H.size 5 ceT_r p1 (1 : Int32) _ _ rfl ho) (va_cwS 3 hts gX0_take_X4_put rfl rfl rfl (by decide +kernel) ⟨hRf _ (Nat.le_of_ble_eq_true rfl), hRl _ (Nat.le_of_ble_eq_true rfl)⟩) hK hN hP hD hS hA [4] [0, 1, 2, 3, 5, 6, 7, 8] [0, 1, 2, 3, 8, 4, 5, 6, 7] rfl rfl (by decide) (by decide) (by decide) (by decide) (fun _ => rfl) rfl hl.1 rfl (Nat.le_of_ble_eq_true rfl) dX0_take_18 ⟨Nat.zero_le _, Nat.zero_le _⟩ (fun  u18 H locs ho hP hD hS => ?_)
    try dsimp only at ho
    replace hP : va_P D vwCl [(a_fl, oX1 fl_e fl_f fl_bias fl_codes fl_signBit fl_endless), (a_va, oX6 a_fl a_p2 va_m va_x va_more va_laid va_below va_settled va_sort), (a_p2, oX3 a_fl p2_lower p2_way p2_more p2_beyond), (a_ce, oX0 a_fl a_va a_ceT a_ceS a_ceH a_ceG a_ceV), (a_ceT, .inl (cI, 5, .inl u18)), (a_ceS, .inl (cI, 20, .inl ceS_r)), (a_ceH, .inl (cI, 50, .inl ceH_r)), (a_ceG, .inl (cI, 320, .inl ceG_r)), (a_ceV, .inl (cI, 320, .inl ceV_r))] H := hP
    replace hD : va_D A [(a_fl, oX1 fl_e fl_f fl_bias fl_codes fl_signBit fl_endless), (a_va, oX6 a_fl a_p2 va_m va_x va_more va_laid va_below va_settled va_sort), (a_p2, oX3 a_fl p2_lower p2_way p2_more p2_beyond), (a_ce, oX0 a_fl a_va a_ceT a_ceS a_ceH a_ceG a_ceV), (a_ceT, .inl (cI, 5, .inl u18)), (a_ceS, .inl (cI, 20, .inl ceS_r)), (a_ceH, .inl (cI, 50, .inl ceH_r)), (a_ceG, .inl (cI, 320, .inl ceG_r)), (a_ceV, .inl (cI, 320, .inl ceV_r))] := hD
    refine lv_iconst (v := 0) hx hb dX0_take_21 (by decide) ?_
    refine lv_istore_n (lv' := [(2, .int (0 : Int32)), (0, .ref a_ce), (1, .int p1)]) hx hb dX0_take_22 rfl hl (by decide) rfl (fun ls hl => ?_)
    obtain ⟨n_23, ho⟩ := ho
    exact C_23 n_23 va_m va_x va_more va_laid va_below va_settled va_sort p2_lower p2_way p2_more p2_beyond u18 ceS_r ceH_r ceG_r ceV_r (0 : Int32) H locs ls ho hP hD hS (lv_sub hl [1, 2, 0] rfl)
  · replace ho := ho.2 c_8
    subst hQ; exact W.vret hx hb hr (fun t ht hW => ⟨⟨(va_m, va_x, va_more, va_laid, va_below, va_settled, va_sort, p2_lower, p2_way, p2_more, p2_beyond, ceT_r, ceS_r, ceH_r, ceG_r, ceV_r), rfl, ho, by rw [ht]; exact hP, hD⟩, hS.F ht⟩) (fun q hq => hS.2.2 q hq) dX0_take_11

def wp_X0_ofSort (post : Int32 → Prop) (ceS_r : Nat → Int32) (p1 : Int32) (p2 : Int32) : Prop := wp_X4_at (fun r9 => (post r9)) 20 ceS_r ((p1 * (4 : Int32)) + p2)
set_option maxRecDepth 20000 in
theorem in_X0_ofSort_X0 : ∀ w ∈ u_ws RX0 TX0 7, w ∈ wsX0_ofSort := fun w h => (goodIn_r wsX00 [6, 7, 8, 9, 10, 11, 12] (by decide +kernel) (by decide +kernel) w h).1
set_option maxHeartbeats 4000000 in
set_option maxRecDepth 100000 in
theorem c_X0_ofSort (l : Launch) (D : va_G) (cI cJ cZ : ClassId) (a_fl : Nat) (a_va : Nat) (a_ce : Nat) (a_ceT : Nat) (a_ceS : Nat) (a_ceH : Nat) (a_ceG : Nat) (a_ceV : Nat) (ceS_r : Nat → Int32) (p1 : Int32) (p2 : Int32) (post : Int32 → Prop) (ho : wp_X0_ofSort post ceS_r p1 p2) : Met l yX0_ofSort wsX0_ofSort ({ frames := 1, cells := 0, slots := 0, locals := 21 } : Room) (ro_P D [(cI, .int), (cJ, .long), (cZ, .boolean)] [.ref a_ce, .int p1, .int p2] [(a_ce, oX0 a_fl a_va a_ceT a_ceS a_ceH a_ceG a_ceV), (a_ceS, .inl (cI, 20, .inl ceS_r))]) (vp_Si post) 0 0 (fun _ => False) := by
  refine Met.ofW (cc := cX0_ofSort) (maxL := 3) (ret := (some .int)) (by decide) rfl ?_
  intro p e s m args below meth c s₁ B hml hv
  obtain ⟨hargs, hP, hK, hN⟩ := hv
  have hx := B.exec
  have hb := B.bytes
  have hr := B.returns
  have hts := atoms_spec (ws := wsX0_ofSort) B.pre
  have hown : s.vm.findClass RX0 = some m.cls := findClass_of_methodNamed B.named
  have hlocks := B.notSynchronized
  have hl := lv_entry ([.ref a_ce, .int p1, .int p2]) (n := 3) (Nat.le_of_ble_eq_true rfl)
  rw [hargs, lg_entry_eq, ← hargs]
  generalize (lg_sl ([.ref a_ce, .int p1, .int p2]) ++ List.replicate (3 - (lg_sl ([.ref a_ce, .int p1, .int p2])).length) Slot.unset).toArray = ls at hl ⊢
  replace hl : lv_has ls 3 [(0, .ref a_ce), (1, .int p1), (2, .int p2)] := hl
  have hRf : ∀ n, n ≤ 1 → n ≤ (headSpec wsX0_ofSort ({ frames := 1, cells := 0, slots := 0, locals := 21 } : Room)).room.frames := fun n h => h
  have hRl : ∀ n, n ≤ 21 → n ≤ (headSpec wsX0_ofSort ({ frames := 1, cells := 0, slots := 0, locals := 21 } : Room)).room.locals := fun n h => h
  generalize (headSpec wsX0_ofSort ({ frames := 1, cells := 0, slots := 0, locals := 21 } : Room)).room = R at hRf hRl ⊢
  generalize hQ : MQ below _ args s 0 0 _ = Q
  unfold wp_X0_ofSort at ho
  refine lv_aload_n hx hb dX0_ofSort_0 rfl (lv_at hl 0 rfl) ?_
  refine va_get (D := D) (ci := 0) (v := .ref a_ceS) (C := RX0) (T := TX0) (N := 7) hx hb hts in_X0_ofSort_X0 hown hK hP 0 rfl rfl 3 (by decide) (hts (.fieldLink RX0 23 "HardBench$Census" "sorts" "[I") (List.mem_of_getElem? (i := 1) (by decide +kernel))) (fun _ h9 => h9) rfl dX0_ofSort_1 ?_
  refine lv_iload_n hx hb dX0_ofSort_4 rfl (lv_at hl 1 rfl) ?_
  refine lv_iconst (v := 4) hx hb dX0_ofSort_5 (by decide) ?_
  refine lv_imul hx hb dX0_ofSort_6 ?_
  refine lv_iload_n hx hb dX0_ofSort_7 rfl (lv_at hl 2 rfl) ?_
  refine lv_iadd hx hb dX0_ofSort_8 ?_
  refine ca_Si (As := [.ref a_ceS, .int ((p1 * (4 : Int32)) + p2)]) (rest := []) ⟨hx, hb, hml, hown, hts⟩ (c_X4_at l D cI cJ cZ a_ceS 20 ceS_r ((p1 * (4 : Int32)) + p2) _ ho) (va_cwS 2 hts gX0_ofSort_X4_at rfl rfl rfl (by decide +kernel) ⟨hRf _ (Nat.le_of_ble_eq_true rfl), hRl _ (Nat.le_of_ble_eq_true rfl)⟩) hK hN hP [1] rfl rfl hl.1 rfl (Nat.le_of_ble_eq_true rfl) dX0_ofSort_9 ⟨Nat.zero_le _, Nat.zero_le _⟩ (fun r9 ho => ?_)
  subst hQ; exact W.iret (v := r9) hx hb hr (fun t ht _ => ⟨r9, rfl, ho, ht⟩) (fun _ h => by cases h) dX0_ofSort_12

def wp_X0_ofHardness (post : Int32 → Prop) (ceH_r : Nat → Int32) (p1 : Int32) (p2 : Int32) : Prop := wp_X4_at (fun r10 => (post r10)) 50 ceH_r ((p1 * (10 : Int32)) + p2)
set_option maxRecDepth 20000 in
theorem in_X0_ofHardness_X0 : ∀ w ∈ u_ws RX0 TX0 7, w ∈ wsX0_ofHardness := fun w h => (goodIn_r wsX00 [6, 7, 8, 9, 10, 11, 12] (by decide +kernel) (by decide +kernel) w h).1
set_option maxHeartbeats 4000000 in
set_option maxRecDepth 100000 in
theorem c_X0_ofHardness (l : Launch) (D : va_G) (cI cJ cZ : ClassId) (a_fl : Nat) (a_va : Nat) (a_ce : Nat) (a_ceT : Nat) (a_ceS : Nat) (a_ceH : Nat) (a_ceG : Nat) (a_ceV : Nat) (ceH_r : Nat → Int32) (p1 : Int32) (p2 : Int32) (post : Int32 → Prop) (ho : wp_X0_ofHardness post ceH_r p1 p2) : Met l yX0_ofHardness wsX0_ofHardness ({ frames := 1, cells := 0, slots := 0, locals := 21 } : Room) (ro_P D [(cI, .int), (cJ, .long), (cZ, .boolean)] [.ref a_ce, .int p1, .int p2] [(a_ce, oX0 a_fl a_va a_ceT a_ceS a_ceH a_ceG a_ceV), (a_ceH, .inl (cI, 50, .inl ceH_r))]) (vp_Si post) 0 0 (fun _ => False) := by
  refine Met.ofW (cc := cX0_ofHardness) (maxL := 3) (ret := (some .int)) (by decide) rfl ?_
  intro p e s m args below meth c s₁ B hml hv
  obtain ⟨hargs, hP, hK, hN⟩ := hv
  have hx := B.exec
  have hb := B.bytes
  have hr := B.returns
  have hts := atoms_spec (ws := wsX0_ofHardness) B.pre
  have hown : s.vm.findClass RX0 = some m.cls := findClass_of_methodNamed B.named
  have hlocks := B.notSynchronized
  have hl := lv_entry ([.ref a_ce, .int p1, .int p2]) (n := 3) (Nat.le_of_ble_eq_true rfl)
  rw [hargs, lg_entry_eq, ← hargs]
  generalize (lg_sl ([.ref a_ce, .int p1, .int p2]) ++ List.replicate (3 - (lg_sl ([.ref a_ce, .int p1, .int p2])).length) Slot.unset).toArray = ls at hl ⊢
  replace hl : lv_has ls 3 [(0, .ref a_ce), (1, .int p1), (2, .int p2)] := hl
  have hRf : ∀ n, n ≤ 1 → n ≤ (headSpec wsX0_ofHardness ({ frames := 1, cells := 0, slots := 0, locals := 21 } : Room)).room.frames := fun n h => h
  have hRl : ∀ n, n ≤ 21 → n ≤ (headSpec wsX0_ofHardness ({ frames := 1, cells := 0, slots := 0, locals := 21 } : Room)).room.locals := fun n h => h
  generalize (headSpec wsX0_ofHardness ({ frames := 1, cells := 0, slots := 0, locals := 21 } : Room)).room = R at hRf hRl ⊢
  generalize hQ : MQ below _ args s 0 0 _ = Q
  unfold wp_X0_ofHardness at ho
  refine lv_aload_n hx hb dX0_ofHardness_0 rfl (lv_at hl 0 rfl) ?_
  refine va_get (D := D) (ci := 0) (v := .ref a_ceH) (C := RX0) (T := TX0) (N := 7) hx hb hts in_X0_ofHardness_X0 hown hK hP 0 rfl rfl 4 (by decide) (hts (.fieldLink RX0 26 "HardBench$Census" "hardnesses" "[I") (List.mem_of_getElem? (i := 1) (by decide +kernel))) (fun _ h9 => h9) rfl dX0_ofHardness_1 ?_
  refine lv_iload_n hx hb dX0_ofHardness_4 rfl (lv_at hl 1 rfl) ?_
  refine lv_bipush (v := 10) hx hb dX0_ofHardness_5 (by decide) ?_
  refine lv_imul hx hb dX0_ofHardness_7 ?_
  refine lv_iload_n hx hb dX0_ofHardness_8 rfl (lv_at hl 2 rfl) ?_
  refine lv_iadd hx hb dX0_ofHardness_9 ?_
  refine ca_Si (As := [.ref a_ceH, .int ((p1 * (10 : Int32)) + p2)]) (rest := []) ⟨hx, hb, hml, hown, hts⟩ (c_X4_at l D cI cJ cZ a_ceH 50 ceH_r ((p1 * (10 : Int32)) + p2) _ ho) (va_cwS 2 hts gX0_ofHardness_X4_at rfl rfl rfl (by decide +kernel) ⟨hRf _ (Nat.le_of_ble_eq_true rfl), hRl _ (Nat.le_of_ble_eq_true rfl)⟩) hK hN hP [1] rfl rfl hl.1 rfl (Nat.le_of_ble_eq_true rfl) dX0_ofHardness_10 ⟨Nat.zero_le _, Nat.zero_le _⟩ (fun r10 ho => ?_)
  subst hQ; exact W.iret (v := r10) hx hb hr (fun t ht _ => ⟨r10, rfl, ho, ht⟩) (fun _ h => by cases h) dX0_ofHardness_13

def wp_X0_greatestHardness_3_b (post : Int32 → Prop)  (ceH_r : Nat → Int32) (p1 : Int32) (K_3 : Int32 → Prop) (x2 : Int32) : Prop := ((x2 ≤ 0) → (post x2)) ∧ ((¬ (x2 ≤ 0)) → (wp_X0_ofHardness (fun r10 => (((¬ r10 = 0) → (post x2)) ∧ ((¬ (¬ r10 = 0)) → (K_3 (x2 + (-1 : Int32)))))) ceH_r p1 x2))
noncomputable def wp_X0_greatestHardness_3 (post : Int32 → Prop)  (ceH_r : Nat → Int32) (p1 : Int32) (n : Nat) : Int32 → Prop := Nat.rec (motive := fun _ => Int32 → Prop) (fun _ => False) (fun _ K_3 => wp_X0_greatestHardness_3_b post ceH_r p1 K_3) n
def wp_X0_greatestHardness (post : Int32 → Prop) (ceH_r : Nat → Int32) (p1 : Int32) : Prop := ∃ n, wp_X0_greatestHardness_3 post ceH_r p1 n (9 : Int32)
set_option maxHeartbeats 4000000 in
set_option maxRecDepth 100000 in
theorem c_X0_greatestHardness (l : Launch) (D : va_G) (cI cJ cZ : ClassId) (a_fl : Nat) (a_va : Nat) (a_ce : Nat) (a_ceT : Nat) (a_ceS : Nat) (a_ceH : Nat) (a_ceG : Nat) (a_ceV : Nat) (ceH_r : Nat → Int32) (p1 : Int32) (post : Int32 → Prop) (ho : wp_X0_greatestHardness post ceH_r p1) : Met l yX0_greatestHardness wsX0_greatestHardness ({ frames := 2, cells := 0, slots := 0, locals := 43 } : Room) (ro_P D [(cI, .int), (cJ, .long), (cZ, .boolean)] [.ref a_ce, .int p1] [(a_ce, oX0 a_fl a_va a_ceT a_ceS a_ceH a_ceG a_ceV), (a_ceH, .inl (cI, 50, .inl ceH_r))]) (vp_Si post) 0 0 (fun _ => False) := by
  refine Met.ofW (cc := cX0_greatestHardness) (maxL := 3) (ret := (some .int)) (by decide) rfl ?_
  intro p e s m args below meth c s₁ B hml hv
  obtain ⟨hargs, hP, hK, hN⟩ := hv
  have hx := B.exec
  have hb := B.bytes
  have hr := B.returns
  have hts := atoms_spec (ws := wsX0_greatestHardness) B.pre
  have hown : s.vm.findClass RX0 = some m.cls := findClass_of_methodNamed B.named
  have hlocks := B.notSynchronized
  have hl := lv_entry ([.ref a_ce, .int p1]) (n := 3) (Nat.le_of_ble_eq_true rfl)
  rw [hargs, lg_entry_eq, ← hargs]
  generalize (lg_sl ([.ref a_ce, .int p1]) ++ List.replicate (3 - (lg_sl ([.ref a_ce, .int p1])).length) Slot.unset).toArray = ls at hl ⊢
  replace hl : lv_has ls 3 [(0, .ref a_ce), (1, .int p1)] := hl
  have hRf : ∀ n, n ≤ 2 → n ≤ (headSpec wsX0_greatestHardness ({ frames := 2, cells := 0, slots := 0, locals := 43 } : Room)).room.frames := fun n h => h
  have hRl : ∀ n, n ≤ 43 → n ≤ (headSpec wsX0_greatestHardness ({ frames := 2, cells := 0, slots := 0, locals := 43 } : Room)).room.locals := fun n h => h
  generalize (headSpec wsX0_greatestHardness ({ frames := 2, cells := 0, slots := 0, locals := 43 } : Room)).room = R at hRf hRl ⊢
  generalize hQ : MQ below _ args s 0 0 _ = Q
  have C_3 : ∀ n : Nat, ∀ (x2 : Int32) (ls : Array Slot), wp_X0_greatestHardness_3 post  ceH_r p1 n x2 → lv_has ls 3 [(0, .ref a_ce), (1, .int p1), (2, .int x2)] → W p l e R s m args below meth c s.heap [] 0 0 Q (F0 m 3 ls []) := by
    intro n
    induction n with
    | zero => intro x2 ls ho hl; exact ho.elim
    | succ n_3 ih_3 =>
      intro x2 ls ho hl
      replace ho : wp_X0_greatestHardness_3_b post ceH_r p1 (wp_X0_greatestHardness_3 post ceH_r p1 n_3) x2 := ho
      unfold wp_X0_greatestHardness_3_b at ho
      refine lv_iload_n hx hb dX0_greatestHardness_3 rfl (lv_at hl 2 rfl) ?_
      refine lv_if_le (tgt := 22) hx hb dX0_greatestHardness_4 (by decide) (fun c_4 => ?_) (fun c_4 => ?_)
      · replace ho := ho.1 c_4
        refine lv_iload_n hx hb dX0_greatestHardness_22 rfl (lv_at hl 2 rfl) ?_
        subst hQ; exact W.iret (v := x2) hx hb hr (fun t ht _ => ⟨x2, rfl, ho, ht⟩) (fun _ h => by cases h) dX0_greatestHardness_23
      · replace ho := ho.2 c_4
        refine lv_aload_n hx hb dX0_greatestHardness_7 rfl (lv_at hl 0 rfl) ?_
        refine lv_iload_n hx hb dX0_greatestHardness_8 rfl (lv_at hl 1 rfl) ?_
        refine lv_iload_n hx hb dX0_greatestHardness_9 rfl (lv_at hl 2 rfl) ?_
        refine ca_Vi (b := a_ce) (As := [.int p1, .int x2]) (rest := []) ⟨hx, hb, hml, hown, hts⟩ (c_X0_ofHardness l D cI cJ cZ a_fl a_va a_ce a_ceT a_ceS a_ceH a_ceG a_ceV ceH_r p1 x2 _ ho) (cwV 2 hts gX0_greatestHardness_X0_ofHardness rfl rfl rfl (by decide +kernel) ⟨hRf _ (Nat.le_of_ble_eq_true rfl), hRl _ (Nat.le_of_ble_eq_true rfl)⟩) hK hN hP [0, 1] rfl 0 0 rfl rfl rfl rfl hl.1 rfl (Nat.le_of_ble_eq_true rfl) dX0_greatestHardness_10 ⟨Nat.zero_le _, Nat.zero_le _⟩ (fun r10 ho => ?_)
        refine lv_if_ne (tgt := 22) hx hb dX0_greatestHardness_13 (by decide) (fun c_13 => ?_) (fun c_13 => ?_)
        · replace ho := ho.1 c_13
          refine lv_iload_n hx hb dX0_greatestHardness_22 rfl (lv_at hl 2 rfl) ?_
          subst hQ; exact W.iret (v := x2) hx hb hr (fun t ht _ => ⟨x2, rfl, ho, ht⟩) (fun _ h => by cases h) dX0_greatestHardness_23
        · replace ho := ho.2 c_13
          refine lv_iinc (v := (x2 + (-1 : Int32))) (lv' := [(2, .int (x2 + (-1 : Int32))), (0, .ref a_ce), (1, .int p1)]) hx hb dX0_greatestHardness_16 hl (k := 2) rfl rfl (by decide) rfl (fun ls hl => ?_)
          refine lv_goto (tgt := 3) hx hb dX0_greatestHardness_19 (by decide) ?_
          exact ih_3 (x2 + (-1 : Int32)) ls ho (lv_sub hl [1, 2, 0] rfl)
  unfold wp_X0_greatestHardness at ho
  refine lv_bipush (v := 9) hx hb dX0_greatestHardness_0 (by decide) ?_
  refine lv_istore_n (lv' := [(2, .int (9 : Int32)), (0, .ref a_ce), (1, .int p1)]) hx hb dX0_greatestHardness_2 rfl hl (by decide) rfl (fun ls hl => ?_)
  obtain ⟨n_3, ho⟩ := ho
  exact C_3 n_3 (9 : Int32) ls ho (lv_sub hl [1, 2, 0] rfl)

def wp_X0_inBlock (post : Int32 → Prop) (ceG_r : Nat → Int32) (ceV_r : Nat → Int32) (p1 : Int32) (p2 : Int32) (p3 : Int32) : Prop := wp_X4_at (fun r14 => (((¬ r14 = p3) → (post (0 : Int32))) ∧ ((¬ (¬ r14 = p3)) → (wp_X4_at (fun r27 => (post r27)) 320 ceV_r ((p1 * (64 : Int32)) + p2))))) 320 ceG_r ((p1 * (64 : Int32)) + p2)
set_option maxRecDepth 20000 in
theorem in_X0_inBlock_X0 : ∀ w ∈ u_ws RX0 TX0 7, w ∈ wsX0_inBlock := fun w h => (goodIn_r wsX00 [7, 8, 9, 10, 11, 12, 13] (by decide +kernel) (by decide +kernel) w h).1
set_option maxHeartbeats 4000000 in
set_option maxRecDepth 100000 in
theorem c_X0_inBlock (l : Launch) (D : va_G) (cI cJ cZ : ClassId) (a_fl : Nat) (a_va : Nat) (a_ce : Nat) (a_ceT : Nat) (a_ceS : Nat) (a_ceH : Nat) (a_ceG : Nat) (a_ceV : Nat) (ceG_r : Nat → Int32) (ceV_r : Nat → Int32) (p1 : Int32) (p2 : Int32) (p3 : Int32) (post : Int32 → Prop) (ho : wp_X0_inBlock post ceG_r ceV_r p1 p2 p3) : Met l yX0_inBlock wsX0_inBlock ({ frames := 1, cells := 0, slots := 0, locals := 21 } : Room) (ro_P D [(cI, .int), (cJ, .long), (cZ, .boolean)] [.ref a_ce, .int p1, .int p2, .int p3] [(a_ce, oX0 a_fl a_va a_ceT a_ceS a_ceH a_ceG a_ceV), (a_ceG, .inl (cI, 320, .inl ceG_r)), (a_ceV, .inl (cI, 320, .inl ceV_r))]) (vp_Si post) 0 0 (fun _ => False) := by
  refine Met.ofW (cc := cX0_inBlock) (maxL := 5) (ret := (some .int)) (by decide) rfl ?_
  intro p e s m args below meth c s₁ B hml hv
  obtain ⟨hargs, hP, hK, hN⟩ := hv
  have hx := B.exec
  have hb := B.bytes
  have hr := B.returns
  have hts := atoms_spec (ws := wsX0_inBlock) B.pre
  have hown : s.vm.findClass RX0 = some m.cls := findClass_of_methodNamed B.named
  have hlocks := B.notSynchronized
  have hl := lv_entry ([.ref a_ce, .int p1, .int p2, .int p3]) (n := 5) (Nat.le_of_ble_eq_true rfl)
  rw [hargs, lg_entry_eq, ← hargs]
  generalize (lg_sl ([.ref a_ce, .int p1, .int p2, .int p3]) ++ List.replicate (5 - (lg_sl ([.ref a_ce, .int p1, .int p2, .int p3])).length) Slot.unset).toArray = ls at hl ⊢
  replace hl : lv_has ls 5 [(0, .ref a_ce), (1, .int p1), (2, .int p2), (3, .int p3)] := hl
  have hRf : ∀ n, n ≤ 1 → n ≤ (headSpec wsX0_inBlock ({ frames := 1, cells := 0, slots := 0, locals := 21 } : Room)).room.frames := fun n h => h
  have hRl : ∀ n, n ≤ 21 → n ≤ (headSpec wsX0_inBlock ({ frames := 1, cells := 0, slots := 0, locals := 21 } : Room)).room.locals := fun n h => h
  generalize (headSpec wsX0_inBlock ({ frames := 1, cells := 0, slots := 0, locals := 21 } : Room)).room = R at hRf hRl ⊢
  generalize hQ : MQ below _ args s 0 0 _ = Q
  unfold wp_X0_inBlock at ho
  refine lv_iload_n hx hb dX0_inBlock_0 rfl (lv_at hl 1 rfl) ?_
  refine lv_bipush (v := 64) hx hb dX0_inBlock_1 (by decide) ?_
  refine lv_imul hx hb dX0_inBlock_3 ?_
  refine lv_iload_n hx hb dX0_inBlock_4 rfl (lv_at hl 2 rfl) ?_
  refine lv_iadd hx hb dX0_inBlock_5 ?_
  refine lv_istore (lv' := [(4, .int ((p1 * (64 : Int32)) + p2)), (0, .ref a_ce), (1, .int p1), (2, .int p2), (3, .int p3)]) hx hb dX0_inBlock_6 hl (by decide) rfl (fun ls hl => ?_)
  refine lv_aload_n hx hb dX0_inBlock_8 rfl (lv_at hl 1 rfl) ?_
  refine va_get (D := D) (ci := 0) (v := .ref a_ceG) (C := RX0) (T := TX0) (N := 7) hx hb hts in_X0_inBlock_X0 hown hK hP 0 rfl rfl 5 (by decide) (hts (.fieldLink RX0 29 "HardBench$Census" "blockGreatest" "[I") (List.mem_of_getElem? (i := 1) (by decide +kernel))) (fun _ h9 => h9) rfl dX0_inBlock_9 ?_
  refine lv_iload hx hb dX0_inBlock_12 (lv_at hl 0 rfl) ?_
  refine ca_Si (As := [.ref a_ceG, .int ((p1 * (64 : Int32)) + p2)]) (rest := []) ⟨hx, hb, hml, hown, hts⟩ (c_X4_at l D cI cJ cZ a_ceG 320 ceG_r ((p1 * (64 : Int32)) + p2) _ ho) (va_cwS 2 hts gX0_inBlock_X4_at rfl rfl rfl (by decide +kernel) ⟨hRf _ (Nat.le_of_ble_eq_true rfl), hRl _ (Nat.le_of_ble_eq_true rfl)⟩) hK hN hP [1] rfl rfl hl.1 rfl (Nat.le_of_ble_eq_true rfl) dX0_inBlock_14 ⟨Nat.zero_le _, Nat.zero_le _⟩ (fun r14 ho => ?_)
  refine lv_iload_n hx hb dX0_inBlock_17 rfl (lv_at hl 4 rfl) ?_
  refine lv_icmp_ne (tgt := 33) hx hb dX0_inBlock_18 (by decide) (fun c_18 => ?_) (fun c_18 => ?_)
  · replace ho := ho.1 c_18
    refine lv_iconst (v := 0) hx hb dX0_inBlock_33 (by decide) ?_
    subst hQ; exact W.iret (v := (0 : Int32)) hx hb hr (fun t ht _ => ⟨(0 : Int32), rfl, ho, ht⟩) (fun _ h => by cases h) dX0_inBlock_34
  · replace ho := ho.2 c_18
    refine lv_aload_n hx hb dX0_inBlock_21 rfl (lv_at hl 1 rfl) ?_
    refine va_get (D := D) (ci := 0) (v := .ref a_ceV) (C := RX0) (T := TX0) (N := 7) hx hb hts in_X0_inBlock_X0 hown hK hP 0 rfl rfl 6 (by decide) (hts (.fieldLink RX0 32 "HardBench$Census" "blockHave" "[I") (List.mem_of_getElem? (i := 2) (by decide +kernel))) (fun _ h9 => h9) rfl dX0_inBlock_22 ?_
    refine lv_iload hx hb dX0_inBlock_25 (lv_at hl 0 rfl) ?_
    refine ca_Si (As := [.ref a_ceV, .int ((p1 * (64 : Int32)) + p2)]) (rest := []) ⟨hx, hb, hml, hown, hts⟩ (c_X4_at l D cI cJ cZ a_ceV 320 ceV_r ((p1 * (64 : Int32)) + p2) _ ho) (va_cwS 2 hts gX0_inBlock_X4_at rfl rfl rfl (by decide +kernel) ⟨hRf _ (Nat.le_of_ble_eq_true rfl), hRl _ (Nat.le_of_ble_eq_true rfl)⟩) hK hN hP [2] rfl rfl hl.1 rfl (Nat.le_of_ble_eq_true rfl) dX0_inBlock_27 ⟨Nat.zero_le _, Nat.zero_le _⟩ (fun r27 ho => ?_)
    refine lv_goto (tgt := 34) hx hb dX0_inBlock_30 (by decide) ?_
    subst hQ; exact W.iret (v := r27) hx hb hr (fun t ht _ => ⟨r27, rfl, ho, ht⟩) (fun _ h => by cases h) dX0_inBlock_34

def wp_X0_hardestCode_115 (post : Int32 → Int64 → Int32 → Int32 → Int32 → Int32 → Int32 → Int32 → Int32 → Int32 → Int32 → Int32 → Prop) (K_75 : Int64 → Int32 → Int32 → Int32 → Int32 → Int32 → Int32 → Int32 → Int32 → Int32 → Int32 → Int32 → Int32 → Int32 → Prop) (va_m : Int64) (va_x : Int32) (va_more : Int32) (va_laid : Int32) (va_below : Int32) (va_settled : Int32) (va_sort : Int32) (p2_lower : Int32) (p2_way : Int32) (p2_more : Int32) (p2_beyond : Int32) (x3 : Int32) (x6 : Int32) (y0 : Int32) (y1 : Int32) : Prop := ((0 ≤ (y1 - y0)) → (K_75 va_m va_x va_more va_laid va_below va_settled va_sort p2_lower p2_way p2_more p2_beyond x3 (y1 - y0) (x6 + (1 : Int32)))) ∧ ((¬ (0 ≤ (y1 - y0))) → (post x6 va_m va_x va_more va_laid va_below va_settled va_sort p2_lower p2_way p2_more p2_beyond))
def wp_X0_hardestCode_75_b (post : Int32 → Int64 → Int32 → Int32 → Int32 → Int32 → Int32 → Int32 → Int32 → Int32 → Int32 → Int32 → Prop)  (fl_f : Int32) (fl_bias : Int32) (fl_codes : Int32) (fl_signBit : Int32) (fl_endless : Int32) (p1 : Int32) (K_75 : Int64 → Int32 → Int32 → Int32 → Int32 → Int32 → Int32 → Int32 → Int32 → Int32 → Int32 → Int32 → Int32 → Int32 → Prop) (va_m : Int64) (va_x : Int32) (va_more : Int32) (va_laid : Int32) (va_below : Int32) (va_settled : Int32) (va_sort : Int32) (p2_lower : Int32) (p2_way : Int32) (p2_more : Int32) (p2_beyond : Int32) (x3 : Int32) (x4 : Int32) (x6 : Int32) : Prop := ((fl_codes ≤ x6) → (post (-9 : Int32) va_m va_x va_more va_laid va_below va_settled va_sort p2_lower p2_way p2_more p2_beyond)) ∧ ((¬ (fl_codes ≤ x6)) → (wp_X6_read (fun u94_1 u94_2 u94_3 u94_4 u94_5 u94_6 u94_7 u94_8 u94_9 u94_10 u94_11 => (wp_X6_hardnessRead (fun r103 => (((¬ r103 = x3) → (wp_X0_hardestCode_115 post K_75 u94_1 u94_2 u94_3 u94_4 u94_5 u94_6 u94_7 u94_8 u94_9 u94_10 u94_11 x3 x6 (0 : Int32) x4)) ∧ ((¬ (¬ r103 = x3)) → (wp_X0_hardestCode_115 post K_75 u94_1 u94_2 u94_3 u94_4 u94_5 u94_6 u94_7 u94_8 u94_9 u94_10 u94_11 x3 x6 (1 : Int32) x4)))) fl_endless u94_4 u94_8 u94_9 u94_10 u94_11)) fl_f fl_bias fl_signBit fl_endless va_m va_x va_more va_below va_settled p2_lower p2_way p2_more p2_beyond p1 x6))
noncomputable def wp_X0_hardestCode_75 (post : Int32 → Int64 → Int32 → Int32 → Int32 → Int32 → Int32 → Int32 → Int32 → Int32 → Int32 → Int32 → Prop)  (fl_f : Int32) (fl_bias : Int32) (fl_codes : Int32) (fl_signBit : Int32) (fl_endless : Int32) (p1 : Int32) (n : Nat) : Int64 → Int32 → Int32 → Int32 → Int32 → Int32 → Int32 → Int32 → Int32 → Int32 → Int32 → Int32 → Int32 → Int32 → Prop := Nat.rec (motive := fun _ => Int64 → Int32 → Int32 → Int32 → Int32 → Int32 → Int32 → Int32 → Int32 → Int32 → Int32 → Int32 → Int32 → Int32 → Prop) (fun _ _ _ _ _ _ _ _ _ _ _ _ _ _ => False) (fun _ K_75 => wp_X0_hardestCode_75_b post fl_f fl_bias fl_codes fl_signBit fl_endless p1 K_75) n
def wp_X0_hardestCode_68 (post : Int32 → Int64 → Int32 → Int32 → Int32 → Int32 → Int32 → Int32 → Int32 → Int32 → Int32 → Int32 → Prop)  (fl_f : Int32) (fl_bias : Int32) (fl_codes : Int32) (fl_signBit : Int32) (fl_endless : Int32) (va_m : Int64) (va_x : Int32) (va_more : Int32) (va_laid : Int32) (va_below : Int32) (va_settled : Int32) (va_sort : Int32) (p2_lower : Int32) (p2_way : Int32) (p2_more : Int32) (p2_beyond : Int32) (p1 : Int32) (x3 : Int32) (x4 : Int32) (x5 : Int32) : Prop := ∃ n, wp_X0_hardestCode_75 post fl_f fl_bias fl_codes fl_signBit fl_endless p1 n va_m va_x va_more va_laid va_below va_settled va_sort p2_lower p2_way p2_more p2_beyond x3 x4 (x5 <<< ((8 : Int32) &&& 31))
def wp_X0_hardestCode_29_b (post : Int32 → Int64 → Int32 → Int32 → Int32 → Int32 → Int32 → Int32 → Int32 → Int32 → Int32 → Int32 → Prop)  (fl_f : Int32) (fl_bias : Int32) (fl_codes : Int32) (fl_signBit : Int32) (fl_endless : Int32) (ceG_r : Nat → Int32) (ceV_r : Nat → Int32) (p1 : Int32) (K_29 : Int64 → Int32 → Int32 → Int32 → Int32 → Int32 → Int32 → Int32 → Int32 → Int32 → Int32 → Int32 → Int32 → Int32 → Prop) (va_m : Int64) (va_x : Int32) (va_more : Int32) (va_laid : Int32) (va_below : Int32) (va_settled : Int32) (va_sort : Int32) (p2_lower : Int32) (p2_way : Int32) (p2_more : Int32) (p2_beyond : Int32) (x3 : Int32) (x4 : Int32) (x5 : Int32) : Prop := (((64 : Int32) ≤ x5) → (wp_X0_hardestCode_68 post fl_f fl_bias fl_codes fl_signBit fl_endless va_m va_x va_more va_laid va_below va_settled va_sort p2_lower p2_way p2_more p2_beyond p1 x3 x4 x5)) ∧ ((¬ ((64 : Int32) ≤ x5)) → (wp_X0_inBlock (fun r43 => (((x4 < r43) → (wp_X0_hardestCode_68 post fl_f fl_bias fl_codes fl_signBit fl_endless va_m va_x va_more va_laid va_below va_settled va_sort p2_lower p2_way p2_more p2_beyond p1 x3 x4 x5)) ∧ ((¬ (x4 < r43)) → (wp_X0_inBlock (fun r56 => (K_29 va_m va_x va_more va_laid va_below va_settled va_sort p2_lower p2_way p2_more p2_beyond x3 (x4 - r56) (x5 + (1 : Int32)))) ceG_r ceV_r p1 x5 x3)))) ceG_r ceV_r p1 x5 x3))
noncomputable def wp_X0_hardestCode_29 (post : Int32 → Int64 → Int32 → Int32 → Int32 → Int32 → Int32 → Int32 → Int32 → Int32 → Int32 → Int32 → Prop)  (fl_f : Int32) (fl_bias : Int32) (fl_codes : Int32) (fl_signBit : Int32) (fl_endless : Int32) (ceG_r : Nat → Int32) (ceV_r : Nat → Int32) (p1 : Int32) (n : Nat) : Int64 → Int32 → Int32 → Int32 → Int32 → Int32 → Int32 → Int32 → Int32 → Int32 → Int32 → Int32 → Int32 → Int32 → Prop := Nat.rec (motive := fun _ => Int64 → Int32 → Int32 → Int32 → Int32 → Int32 → Int32 → Int32 → Int32 → Int32 → Int32 → Int32 → Int32 → Int32 → Prop) (fun _ _ _ _ _ _ _ _ _ _ _ _ _ _ => False) (fun _ K_29 => wp_X0_hardestCode_29_b post fl_f fl_bias fl_codes fl_signBit fl_endless ceG_r ceV_r p1 K_29) n
def wp_X0_hardestCode (post : Int32 → Int64 → Int32 → Int32 → Int32 → Int32 → Int32 → Int32 → Int32 → Int32 → Int32 → Int32 → Prop) (fl_f : Int32) (fl_bias : Int32) (fl_codes : Int32) (fl_signBit : Int32) (fl_endless : Int32) (va_m : Int64) (va_x : Int32) (va_more : Int32) (va_laid : Int32) (va_below : Int32) (va_settled : Int32) (va_sort : Int32) (p2_lower : Int32) (p2_way : Int32) (p2_more : Int32) (p2_beyond : Int32) (ceH_r : Nat → Int32) (ceG_r : Nat → Int32) (ceV_r : Nat → Int32) (p1 : Int32) (p2 : Int32) : Prop := wp_X0_greatestHardness (fun r2 => (((p2 < 0) → (post (-9 : Int32) va_m va_x va_more va_laid va_below va_settled va_sort p2_lower p2_way p2_more p2_beyond)) ∧ ((¬ (p2 < 0)) → (wp_X0_ofHardness (fun r14 => (((p2 < r14) → (∃ n, wp_X0_hardestCode_29 post fl_f fl_bias fl_codes fl_signBit fl_endless ceG_r ceV_r p1 n va_m va_x va_more va_laid va_below va_settled va_sort p2_lower p2_way p2_more p2_beyond r2 p2 (0 : Int32))) ∧ ((¬ (p2 < r14)) → (post (-9 : Int32) va_m va_x va_more va_laid va_below va_settled va_sort p2_lower p2_way p2_more p2_beyond)))) ceH_r p1 r2)))) ceH_r p1
set_option maxRecDepth 20000 in
theorem in_X0_hardestCode_X0 : ∀ w ∈ u_ws RX0 TX0 7, w ∈ wsX0_hardestCode := fun w h => (goodIn_r wsX00 [167, 168, 169, 170, 171, 172, 173] (by decide +kernel) (by decide +kernel) w h).1
set_option maxRecDepth 20000 in
theorem in_X0_hardestCode_X1 : ∀ w ∈ u_ws RX1 TX1 6, w ∈ wsX0_hardestCode := fun w h => (goodIn_r wsX10 [174, 175, 176, 177, 178, 179] (by decide +kernel) (by decide +kernel) w h).1
set_option maxHeartbeats 4000000 in
set_option maxRecDepth 100000 in
theorem c_X0_hardestCode (l : Launch) (D : va_G) (cI cJ cZ : ClassId) (a_fl : Nat) (a_va : Nat) (a_p2 : Nat) (a_ce : Nat) (a_ceT : Nat) (a_ceS : Nat) (a_ceH : Nat) (a_ceG : Nat) (a_ceV : Nat) (sz : Nat) (fl_e : Int32) (fl_f : Int32) (fl_bias : Int32) (fl_codes : Int32) (fl_signBit : Int32) (fl_endless : Int32) (va_m : Int64) (va_x : Int32) (va_more : Int32) (va_laid : Int32) (va_below : Int32) (va_settled : Int32) (va_sort : Int32) (p2_lower : Int32) (p2_way : Int32) (p2_more : Int32) (p2_beyond : Int32) (ceH_r : Nat → Int32) (ceG_r : Nat → Int32) (ceV_r : Nat → Int32) (p1 : Int32) (p2 : Int32) (post : Int32 → Int64 → Int32 → Int32 → Int32 → Int32 → Int32 → Int32 → Int32 → Int32 → Int32 → Int32 → Prop) (A : Nat → Prop) (hAe : A = va_A [(a_fl, oX1 fl_e fl_f fl_bias fl_codes fl_signBit fl_endless), (a_va, oX6 a_fl a_p2 va_m va_x va_more va_laid va_below va_settled va_sort), (a_p2, oX3 a_fl p2_lower p2_way p2_more p2_beyond), (a_ce, oX0 a_fl a_va a_ceT a_ceS a_ceH a_ceG a_ceV), (a_ceH, .inl (cI, 50, .inl ceH_r)), (a_ceG, .inl (cI, 320, .inl ceG_r)), (a_ceV, .inl (cI, 320, .inl ceV_r))] sz) (ho : wp_X0_hardestCode post fl_f fl_bias fl_codes fl_signBit fl_endless va_m va_x va_more va_laid va_below va_settled va_sort p2_lower p2_way p2_more p2_beyond ceH_r ceG_r ceV_r p1 p2) : Met l yX0_hardestCode wsX0_hardestCode ({ frames := 4, cells := 0, slots := 0, locals := 103 } : Room) (rw_P D [(cI, .int), (cJ, .long), (cZ, .boolean)] [.ref a_ce, .int p1, .int p2] sz [(a_fl, oX1 fl_e fl_f fl_bias fl_codes fl_signBit fl_endless), (a_va, oX6 a_fl a_p2 va_m va_x va_more va_laid va_below va_settled va_sort), (a_p2, oX3 a_fl p2_lower p2_way p2_more p2_beyond), (a_ce, oX0 a_fl a_va a_ceT a_ceS a_ceH a_ceG a_ceV), (a_ceH, .inl (cI, 50, .inl ceH_r)), (a_ceG, .inl (cI, 320, .inl ceG_r)), (a_ceV, .inl (cI, 320, .inl ceV_r))]) (va_Qi (fun (r : Int32) (u : (Int64) × (Int32) × (Int32) × (Int32) × (Int32) × (Int32) × (Int32) × (Int32) × (Int32) × (Int32) × (Int32)) => post r u.1 u.2.1 u.2.2.1 u.2.2.2.1 u.2.2.2.2.1 u.2.2.2.2.2.1 u.2.2.2.2.2.2.1 u.2.2.2.2.2.2.2.1 u.2.2.2.2.2.2.2.2.1 u.2.2.2.2.2.2.2.2.2.1 u.2.2.2.2.2.2.2.2.2.2) (rw_B D A (fun (u : (Int64) × (Int32) × (Int32) × (Int32) × (Int32) × (Int32) × (Int32) × (Int32) × (Int32) × (Int32) × (Int32)) => [(a_fl, oX1 fl_e fl_f fl_bias fl_codes fl_signBit fl_endless), (a_va, oX6 a_fl a_p2 u.1 u.2.1 u.2.2.1 u.2.2.2.1 u.2.2.2.2.1 u.2.2.2.2.2.1 u.2.2.2.2.2.2.1), (a_p2, oX3 a_fl u.2.2.2.2.2.2.2.1 u.2.2.2.2.2.2.2.2.1 u.2.2.2.2.2.2.2.2.2.1 u.2.2.2.2.2.2.2.2.2.2), (a_ce, oX0 a_fl a_va a_ceT a_ceS a_ceH a_ceG a_ceV), (a_ceH, .inl (cI, 50, .inl ceH_r)), (a_ceG, .inl (cI, 320, .inl ceG_r)), (a_ceV, .inl (cI, 320, .inl ceV_r))])) A) 0 0 A := by
  refine Met.ofW (cc := cX0_hardestCode) (maxL := 7) (ret := (some .int)) (by decide) rfl ?_
  intro p e s m args below meth c s₁ B hml hv
  obtain ⟨hargs, hsz, hP, hK, hN, hD0⟩ := hv
  have hx := B.exec
  have hb := B.bytes
  have hr := B.returns
  have hts := atoms_spec (ws := wsX0_hardestCode) B.pre
  have hown : s.vm.findClass RX0 = some m.cls := findClass_of_methodNamed B.named
  have hlocks := B.notSynchronized
  subst hsz
  have hD : va_D A [(a_fl, oX1 fl_e fl_f fl_bias fl_codes fl_signBit fl_endless), (a_va, oX6 a_fl a_p2 va_m va_x va_more va_laid va_below va_settled va_sort), (a_p2, oX3 a_fl p2_lower p2_way p2_more p2_beyond), (a_ce, oX0 a_fl a_va a_ceT a_ceS a_ceH a_ceG a_ceV), (a_ceH, .inl (cI, 50, .inl ceH_r)), (a_ceG, .inl (cI, 320, .inl ceG_r)), (a_ceV, .inl (cI, 320, .inl ceV_r))] := by rw [hAe]; exact hD0.self
  have hA : ∀ q : Nat, s.heap.size ≤ q → A q := fun q h => by rw [hAe]; exact Or.inr h
  have hS : va_S A s.heap s.heap [] := va_S.rf
  have hl := lv_entry ([.ref a_ce, .int p1, .int p2]) (n := 7) (Nat.le_of_ble_eq_true rfl)
  rw [hargs, lg_entry_eq, ← hargs]
  generalize (lg_sl ([.ref a_ce, .int p1, .int p2]) ++ List.replicate (7 - (lg_sl ([.ref a_ce, .int p1, .int p2])).length) Slot.unset).toArray = ls at hl ⊢
  replace hl : lv_has ls 7 [(0, .ref a_ce), (1, .int p1), (2, .int p2)] := hl
  have hRf : ∀ n, n ≤ 4 → n ≤ (headSpec wsX0_hardestCode ({ frames := 4, cells := 0, slots := 0, locals := 103 } : Room)).room.frames := fun n h => h
  have hRl : ∀ n, n ≤ 103 → n ≤ (headSpec wsX0_hardestCode ({ frames := 4, cells := 0, slots := 0, locals := 103 } : Room)).room.locals := fun n h => h
  generalize (headSpec wsX0_hardestCode ({ frames := 4, cells := 0, slots := 0, locals := 103 } : Room)).room = R at hRf hRl ⊢
  generalize hQ : MQ below _ args s 0 0 _ = Q
  have C_75 : ∀ n : Nat, ∀ (va_m : Int64) (va_x : Int32) (va_more : Int32) (va_laid : Int32) (va_below : Int32) (va_settled : Int32) (va_sort : Int32) (p2_lower : Int32) (p2_way : Int32) (p2_more : Int32) (p2_beyond : Int32) (x3 : Int32) (x4 : Int32) (x6 : Int32) (H : Heap) (locs : List Loc) (ls : Array Slot), wp_X0_hardestCode_75 post  fl_f fl_bias fl_codes fl_signBit fl_endless p1 n va_m va_x va_more va_laid va_below va_settled va_sort p2_lower p2_way p2_more p2_beyond x3 x4 x6 → va_P D vwCl [(a_fl, oX1 fl_e fl_f fl_bias fl_codes fl_signBit fl_endless), (a_va, oX6 a_fl a_p2 va_m va_x va_more va_laid va_below va_settled va_sort), (a_p2, oX3 a_fl p2_lower p2_way p2_more p2_beyond), (a_ce, oX0 a_fl a_va a_ceT a_ceS a_ceH a_ceG a_ceV), (a_ceH, .inl (cI, 50, .inl ceH_r)), (a_ceG, .inl (cI, 320, .inl ceG_r)), (a_ceV, .inl (cI, 320, .inl ceV_r))] H → va_D A [(a_fl, oX1 fl_e fl_f fl_bias fl_codes fl_signBit fl_endless), (a_va, oX6 a_fl a_p2 va_m va_x va_more va_laid va_below va_settled va_sort), (a_p2, oX3 a_fl p2_lower p2_way p2_more p2_beyond), (a_ce, oX0 a_fl a_va a_ceT a_ceS a_ceH a_ceG a_ceV), (a_ceH, .inl (cI, 50, .inl ceH_r)), (a_ceG, .inl (cI, 320, .inl ceG_r)), (a_ceV, .inl (cI, 320, .inl ceV_r))] → va_S A s.heap H locs → lv_has ls 7 [(0, .ref a_ce), (1, .int p1), (3, .int x3), (4, .int x4), (6, .int x6)] → W p l e R s m args below meth c H locs 0 0 Q (F0 m 75 ls []) := by
    intro n
    induction n with
    | zero => intro va_m va_x va_more va_laid va_below va_settled va_sort p2_lower p2_way p2_more p2_beyond x3 x4 x6 H locs ls ho hP hD hS hl; exact ho.elim
    | succ n_75 ih_75 =>
      have C_115 : ∀ (va_m : Int64) (va_x : Int32) (va_more : Int32) (va_laid : Int32) (va_below : Int32) (va_settled : Int32) (va_sort : Int32) (p2_lower : Int32) (p2_way : Int32) (p2_more : Int32) (p2_beyond : Int32) (x3 : Int32) (x6 : Int32) (y0 : Int32) (y1 : Int32) (H : Heap) (locs : List Loc) (ls : Array Slot), wp_X0_hardestCode_115 post (wp_X0_hardestCode_75 post fl_f fl_bias fl_codes fl_signBit fl_endless p1 n_75) va_m va_x va_more va_laid va_below va_settled va_sort p2_lower p2_way p2_more p2_beyond x3 x6 y0 y1 → va_P D vwCl [(a_fl, oX1 fl_e fl_f fl_bias fl_codes fl_signBit fl_endless), (a_va, oX6 a_fl a_p2 va_m va_x va_more va_laid va_below va_settled va_sort), (a_p2, oX3 a_fl p2_lower p2_way p2_more p2_beyond), (a_ce, oX0 a_fl a_va a_ceT a_ceS a_ceH a_ceG a_ceV), (a_ceH, .inl (cI, 50, .inl ceH_r)), (a_ceG, .inl (cI, 320, .inl ceG_r)), (a_ceV, .inl (cI, 320, .inl ceV_r))] H → va_D A [(a_fl, oX1 fl_e fl_f fl_bias fl_codes fl_signBit fl_endless), (a_va, oX6 a_fl a_p2 va_m va_x va_more va_laid va_below va_settled va_sort), (a_p2, oX3 a_fl p2_lower p2_way p2_more p2_beyond), (a_ce, oX0 a_fl a_va a_ceT a_ceS a_ceH a_ceG a_ceV), (a_ceH, .inl (cI, 50, .inl ceH_r)), (a_ceG, .inl (cI, 320, .inl ceG_r)), (a_ceV, .inl (cI, 320, .inl ceV_r))] → va_S A s.heap H locs → lv_has ls 7 [(0, .ref a_ce), (1, .int p1), (3, .int x3), (6, .int x6)] → W p l e R s m args below meth c H locs 0 0 Q (F0 m 115 ls [.int y0, .int y1]) := by
        intro va_m va_x va_more va_laid va_below va_settled va_sort p2_lower p2_way p2_more p2_beyond x3 x6 y0 y1 H locs ls ho hP hD hS hl
        unfold wp_X0_hardestCode_115 at ho
        refine lv_isub hx hb dX0_hardestCode_115 ?_
        refine lv_istore (lv' := [(4, .int (y1 - y0)), (0, .ref a_ce), (1, .int p1), (3, .int x3), (6, .int x6)]) hx hb dX0_hardestCode_116 hl (by decide) rfl (fun ls hl => ?_)
        refine lv_iload hx hb dX0_hardestCode_118 (lv_at hl 0 rfl) ?_
        refine lv_if_ge (tgt := 126) hx hb dX0_hardestCode_120 (by decide) (fun c_120 => ?_) (fun c_120 => ?_)
        · replace ho := ho.1 c_120
          refine lv_iinc (v := (x6 + (1 : Int32))) (lv' := [(6, .int (x6 + (1 : Int32))), (4, .int (y1 - y0)), (0, .ref a_ce), (1, .int p1), (3, .int x3)]) hx hb dX0_hardestCode_126 hl (k := 4) rfl rfl (by decide) rfl (fun ls hl => ?_)
          refine lv_goto (tgt := 75) hx hb dX0_hardestCode_129 (by decide) ?_
          exact ih_75 va_m va_x va_more va_laid va_below va_settled va_sort p2_lower p2_way p2_more p2_beyond x3 (y1 - y0) (x6 + (1 : Int32)) H locs ls ho hP hD hS (lv_sub hl [2, 3, 4, 1, 0] rfl)
        · replace ho := ho.2 c_120
          refine lv_iload hx hb dX0_hardestCode_123 (lv_at hl 4 rfl) ?_
          subst hQ; exact W.iret (v := x6) hx hb hr (fun t ht hW => ⟨⟨x6, (va_m, va_x, va_more, va_laid, va_below, va_settled, va_sort, p2_lower, p2_way, p2_more, p2_beyond), rfl, ho, by rw [ht]; exact hP, hD⟩, hS.F ht⟩) (fun q hq => hS.2.2 q hq) dX0_hardestCode_125
      intro va_m va_x va_more va_laid va_below va_settled va_sort p2_lower p2_way p2_more p2_beyond x3 x4 x6 H locs ls ho hP hD hS hl
      replace ho : wp_X0_hardestCode_75_b post fl_f fl_bias fl_codes fl_signBit fl_endless p1 (wp_X0_hardestCode_75 post fl_f fl_bias fl_codes fl_signBit fl_endless p1 n_75) va_m va_x va_more va_laid va_below va_settled va_sort p2_lower p2_way p2_more p2_beyond x3 x4 x6 := ho
      unfold wp_X0_hardestCode_75_b at ho
      refine lv_iload hx hb dX0_hardestCode_75 (lv_at hl 4 rfl) ?_
      refine lv_aload_n hx hb dX0_hardestCode_77 rfl (lv_at hl 0 rfl) ?_
      refine va_get (D := D) (ci := 0) (v := .ref a_fl) (C := RX0) (T := TX0) (N := 7) hx hb hts in_X0_hardestCode_X0 hown hK hP 3 rfl rfl 0 (by decide) (hts (.fieldLink RX0 9 "HardBench$Census" "floats" "LHardBench$Floats;") (List.mem_of_getElem? (i := 1) (by decide +kernel))) (fun _ h9 => h9) rfl dX0_hardestCode_78 ?_
      refine va_getN (D := D) (ci := 1) (v := .int fl_codes) (C := RX1) (T := TX1) (N := 6) hx hb hts in_X0_hardestCode_X1 hown hK hP 0 rfl rfl 3 (by decide) hN.fRX0_51 (fun _ h9 => h9) rfl dX0_hardestCode_81 ?_
      refine lv_icmp_ge (tgt := 132) hx hb dX0_hardestCode_84 (by decide) (fun c_84 => ?_) (fun c_84 => ?_)
      · replace ho := ho.1 c_84
        refine lv_bipush (v := (-9)) hx hb dX0_hardestCode_132 (by decide) ?_
        subst hQ; exact W.iret (v := (-9 : Int32)) hx hb hr (fun t ht hW => ⟨⟨(-9 : Int32), (va_m, va_x, va_more, va_laid, va_below, va_settled, va_sort, p2_lower, p2_way, p2_more, p2_beyond), rfl, ho, by rw [ht]; exact hP, hD⟩, hS.F ht⟩) (fun q hq => hS.2.2 q hq) dX0_hardestCode_134
      · replace ho := ho.2 c_84
        refine lv_aload_n hx hb dX0_hardestCode_87 rfl (lv_at hl 0 rfl) ?_
        refine va_get (D := D) (ci := 0) (v := .ref a_va) (C := RX0) (T := TX0) (N := 7) hx hb hts in_X0_hardestCode_X0 hown hK hP 3 rfl rfl 1 (by decide) (hts (.fieldLink RX0 15 "HardBench$Census" "value" "LHardBench$Value;") (List.mem_of_getElem? (i := 2) (by decide +kernel))) (fun _ h9 => h9) rfl dX0_hardestCode_88 ?_
        refine lv_iload_n hx hb dX0_hardestCode_91 rfl (lv_at hl 1 rfl) ?_
        refine lv_iload hx hb dX0_hardestCode_92 (lv_at hl 4 rfl) ?_
        refine ca_Wv (b := a_va) (As := [.int p1, .int x6]) (rest := []) (wr := [(a_ce, oX0 a_fl a_va a_ceT a_ceS a_ceH a_ceG a_ceV), (a_ceH, .inl (cI, 50, .inl ceH_r)), (a_ceG, .inl (cI, 320, .inl ceG_r)), (a_ceV, .inl (cI, 320, .inl ceV_r))]) (wo := fun u => [(a_fl, oX1 fl_e fl_f fl_bias fl_codes fl_signBit fl_endless), (a_va, oX6 a_fl a_p2 u.1 u.2.1 u.2.2.1 u.2.2.2.1 u.2.2.2.2.1 u.2.2.2.2.2.1 u.2.2.2.2.2.2.1), (a_p2, oX3 a_fl u.2.2.2.2.2.2.2.1 u.2.2.2.2.2.2.2.2.1 u.2.2.2.2.2.2.2.2.2.1 u.2.2.2.2.2.2.2.2.2.2)]) (wn := fun u => [(a_fl, oX1 fl_e fl_f fl_bias fl_codes fl_signBit fl_endless), (a_va, oX6 a_fl a_p2 u.1 u.2.1 u.2.2.1 u.2.2.2.1 u.2.2.2.2.1 u.2.2.2.2.2.1 u.2.2.2.2.2.2.1), (a_p2, oX3 a_fl u.2.2.2.2.2.2.2.1 u.2.2.2.2.2.2.2.2.1 u.2.2.2.2.2.2.2.2.2.1 u.2.2.2.2.2.2.2.2.2.2), (a_ce, oX0 a_fl a_va a_ceT a_ceS a_ceH a_ceG a_ceV), (a_ceH, .inl (cI, 50, .inl ceH_r)), (a_ceG, .inl (cI, 320, .inl ceG_r)), (a_ceV, .inl (cI, 320, .inl ceV_r))]) ⟨hx, hb, hml, hown, hts⟩ (c_X6_read l D cI cJ cZ a_fl a_va a_p2 H.size fl_e fl_f fl_bias fl_codes fl_signBit fl_endless va_m va_x va_more va_laid va_below va_settled va_sort p2_lower p2_way p2_more p2_beyond p1 x6 _ _ rfl ho) (cwV 2 hts gX0_hardestCode_X6_read rfl rfl rfl (by decide +kernel) ⟨hRf _ (Nat.le_of_ble_eq_true rfl), hRl _ (Nat.le_of_ble_eq_true rfl)⟩) hK hN hP hD hS hA [0, 1, 2] [3, 4, 5, 6] [4, 5, 6, 0, 1, 2, 3] rfl rfl (by decide) (by decide) (by decide) (by decide) (fun _ => rfl) 1 5 rfl rfl rfl rfl hl.1 rfl (Nat.le_of_ble_eq_true rfl) dX0_hardestCode_94 ⟨Nat.zero_le _, Nat.zero_le _⟩ (fun  u94 H locs ho hP hD hS => ?_)
        obtain ⟨u94_1, u94_2, u94_3, u94_4, u94_5, u94_6, u94_7, u94_8, u94_9, u94_10, u94_11⟩ := u94
        try dsimp only at ho
        replace hP : va_P D vwCl [(a_fl, oX1 fl_e fl_f fl_bias fl_codes fl_signBit fl_endless), (a_va, oX6 a_fl a_p2 u94_1 u94_2 u94_3 u94_4 u94_5 u94_6 u94_7), (a_p2, oX3 a_fl u94_8 u94_9 u94_10 u94_11), (a_ce, oX0 a_fl a_va a_ceT a_ceS a_ceH a_ceG a_ceV), (a_ceH, .inl (cI, 50, .inl ceH_r)), (a_ceG, .inl (cI, 320, .inl ceG_r)), (a_ceV, .inl (cI, 320, .inl ceV_r))] H := hP
        replace hD : va_D A [(a_fl, oX1 fl_e fl_f fl_bias fl_codes fl_signBit fl_endless), (a_va, oX6 a_fl a_p2 u94_1 u94_2 u94_3 u94_4 u94_5 u94_6 u94_7), (a_p2, oX3 a_fl u94_8 u94_9 u94_10 u94_11), (a_ce, oX0 a_fl a_va a_ceT a_ceS a_ceH a_ceG a_ceV), (a_ceH, .inl (cI, 50, .inl ceH_r)), (a_ceG, .inl (cI, 320, .inl ceG_r)), (a_ceV, .inl (cI, 320, .inl ceV_r))] := hD
        refine lv_iload hx hb dX0_hardestCode_97 (lv_at hl 3 rfl) ?_
        refine lv_aload_n hx hb dX0_hardestCode_99 rfl (lv_at hl 0 rfl) ?_
        refine va_get (D := D) (ci := 0) (v := .ref a_va) (C := RX0) (T := TX0) (N := 7) hx hb hts in_X0_hardestCode_X0 hown hK hP 3 rfl rfl 1 (by decide) (hts (.fieldLink RX0 15 "HardBench$Census" "value" "LHardBench$Value;") (List.mem_of_getElem? (i := 2) (by decide +kernel))) (fun _ h9 => h9) rfl dX0_hardestCode_100 ?_
        refine ca_Vi (b := a_va) (As := []) (rest := [.int x4]) ⟨hx, hb, hml, hown, hts⟩ (c_X6_hardnessRead l D cI cJ cZ a_fl a_va a_p2 fl_e fl_f fl_bias fl_codes fl_signBit fl_endless u94_1 u94_2 u94_3 u94_4 u94_5 u94_6 u94_7 u94_8 u94_9 u94_10 u94_11  _ ho) (cwV 0 hts gX0_hardestCode_X6_hardnessRead rfl rfl rfl (by decide +kernel) ⟨hRf _ (Nat.le_of_ble_eq_true rfl), hRl _ (Nat.le_of_ble_eq_true rfl)⟩) hK hN hP [0, 1, 2] rfl 1 5 rfl rfl rfl rfl hl.1 rfl (Nat.le_of_ble_eq_true rfl) dX0_hardestCode_103 ⟨Nat.zero_le _, Nat.zero_le _⟩ (fun r103 ho => ?_)
        refine lv_iload_n hx hb dX0_hardestCode_106 rfl (lv_at hl 2 rfl) ?_
        refine lv_icmp_ne (tgt := 114) hx hb dX0_hardestCode_107 (by decide) (fun c_107 => ?_) (fun c_107 => ?_)
        · replace ho := ho.1 c_107
          refine lv_iconst (v := 0) hx hb dX0_hardestCode_114 (by decide) ?_
          exact C_115 u94_1 u94_2 u94_3 u94_4 u94_5 u94_6 u94_7 u94_8 u94_9 u94_10 u94_11 x3 x6 (0 : Int32) x4 H locs ls ho hP hD hS (lv_sub hl [0, 1, 2, 4] rfl)
        · replace ho := ho.2 c_107
          refine lv_iconst (v := 1) hx hb dX0_hardestCode_110 (by decide) ?_
          refine lv_goto (tgt := 115) hx hb dX0_hardestCode_111 (by decide) ?_
          exact C_115 u94_1 u94_2 u94_3 u94_4 u94_5 u94_6 u94_7 u94_8 u94_9 u94_10 u94_11 x3 x6 (1 : Int32) x4 H locs ls ho hP hD hS (lv_sub hl [0, 1, 2, 4] rfl)
  have C_68 : ∀ (va_m : Int64) (va_x : Int32) (va_more : Int32) (va_laid : Int32) (va_below : Int32) (va_settled : Int32) (va_sort : Int32) (p2_lower : Int32) (p2_way : Int32) (p2_more : Int32) (p2_beyond : Int32) (x3 : Int32) (x4 : Int32) (x5 : Int32) (H : Heap) (locs : List Loc) (ls : Array Slot), wp_X0_hardestCode_68 post  fl_f fl_bias fl_codes fl_signBit fl_endless va_m va_x va_more va_laid va_below va_settled va_sort p2_lower p2_way p2_more p2_beyond p1 x3 x4 x5 → va_P D vwCl [(a_fl, oX1 fl_e fl_f fl_bias fl_codes fl_signBit fl_endless), (a_va, oX6 a_fl a_p2 va_m va_x va_more va_laid va_below va_settled va_sort), (a_p2, oX3 a_fl p2_lower p2_way p2_more p2_beyond), (a_ce, oX0 a_fl a_va a_ceT a_ceS a_ceH a_ceG a_ceV), (a_ceH, .inl (cI, 50, .inl ceH_r)), (a_ceG, .inl (cI, 320, .inl ceG_r)), (a_ceV, .inl (cI, 320, .inl ceV_r))] H → va_D A [(a_fl, oX1 fl_e fl_f fl_bias fl_codes fl_signBit fl_endless), (a_va, oX6 a_fl a_p2 va_m va_x va_more va_laid va_below va_settled va_sort), (a_p2, oX3 a_fl p2_lower p2_way p2_more p2_beyond), (a_ce, oX0 a_fl a_va a_ceT a_ceS a_ceH a_ceG a_ceV), (a_ceH, .inl (cI, 50, .inl ceH_r)), (a_ceG, .inl (cI, 320, .inl ceG_r)), (a_ceV, .inl (cI, 320, .inl ceV_r))] → va_S A s.heap H locs → lv_has ls 7 [(0, .ref a_ce), (1, .int p1), (3, .int x3), (4, .int x4), (5, .int x5)] → W p l e R s m args below meth c H locs 0 0 Q (F0 m 68 ls []) := by
    intro va_m va_x va_more va_laid va_below va_settled va_sort p2_lower p2_way p2_more p2_beyond x3 x4 x5 H locs ls ho hP hD hS hl
    unfold wp_X0_hardestCode_68 at ho
    refine lv_iload hx hb dX0_hardestCode_68 (lv_at hl 4 rfl) ?_
    refine lv_bipush (v := 8) hx hb dX0_hardestCode_70 (by decide) ?_
    refine lv_ishl hx hb dX0_hardestCode_72 ?_
    refine lv_istore (lv' := [(6, .int (x5 <<< ((8 : Int32) &&& 31))), (0, .ref a_ce), (1, .int p1), (3, .int x3), (4, .int x4), (5, .int x5)]) hx hb dX0_hardestCode_73 hl (by decide) rfl (fun ls hl => ?_)
    obtain ⟨n_75, ho⟩ := ho
    exact C_75 n_75 va_m va_x va_more va_laid va_below va_settled va_sort p2_lower p2_way p2_more p2_beyond x3 x4 (x5 <<< ((8 : Int32) &&& 31)) H locs ls ho hP hD hS (lv_sub hl [1, 2, 3, 4, 0] rfl)
  have C_29 : ∀ n : Nat, ∀ (va_m : Int64) (va_x : Int32) (va_more : Int32) (va_laid : Int32) (va_below : Int32) (va_settled : Int32) (va_sort : Int32) (p2_lower : Int32) (p2_way : Int32) (p2_more : Int32) (p2_beyond : Int32) (x3 : Int32) (x4 : Int32) (x5 : Int32) (H : Heap) (locs : List Loc) (ls : Array Slot), wp_X0_hardestCode_29 post  fl_f fl_bias fl_codes fl_signBit fl_endless ceG_r ceV_r p1 n va_m va_x va_more va_laid va_below va_settled va_sort p2_lower p2_way p2_more p2_beyond x3 x4 x5 → va_P D vwCl [(a_fl, oX1 fl_e fl_f fl_bias fl_codes fl_signBit fl_endless), (a_va, oX6 a_fl a_p2 va_m va_x va_more va_laid va_below va_settled va_sort), (a_p2, oX3 a_fl p2_lower p2_way p2_more p2_beyond), (a_ce, oX0 a_fl a_va a_ceT a_ceS a_ceH a_ceG a_ceV), (a_ceH, .inl (cI, 50, .inl ceH_r)), (a_ceG, .inl (cI, 320, .inl ceG_r)), (a_ceV, .inl (cI, 320, .inl ceV_r))] H → va_D A [(a_fl, oX1 fl_e fl_f fl_bias fl_codes fl_signBit fl_endless), (a_va, oX6 a_fl a_p2 va_m va_x va_more va_laid va_below va_settled va_sort), (a_p2, oX3 a_fl p2_lower p2_way p2_more p2_beyond), (a_ce, oX0 a_fl a_va a_ceT a_ceS a_ceH a_ceG a_ceV), (a_ceH, .inl (cI, 50, .inl ceH_r)), (a_ceG, .inl (cI, 320, .inl ceG_r)), (a_ceV, .inl (cI, 320, .inl ceV_r))] → va_S A s.heap H locs → lv_has ls 7 [(0, .ref a_ce), (1, .int p1), (3, .int x3), (4, .int x4), (5, .int x5)] → W p l e R s m args below meth c H locs 0 0 Q (F0 m 29 ls []) := by
    intro n
    induction n with
    | zero => intro va_m va_x va_more va_laid va_below va_settled va_sort p2_lower p2_way p2_more p2_beyond x3 x4 x5 H locs ls ho hP hD hS hl; exact ho.elim
    | succ n_29 ih_29 =>
      intro va_m va_x va_more va_laid va_below va_settled va_sort p2_lower p2_way p2_more p2_beyond x3 x4 x5 H locs ls ho hP hD hS hl
      replace ho : wp_X0_hardestCode_29_b post fl_f fl_bias fl_codes fl_signBit fl_endless ceG_r ceV_r p1 (wp_X0_hardestCode_29 post fl_f fl_bias fl_codes fl_signBit fl_endless ceG_r ceV_r p1 n_29) va_m va_x va_more va_laid va_below va_settled va_sort p2_lower p2_way p2_more p2_beyond x3 x4 x5 := ho
      unfold wp_X0_hardestCode_29_b at ho
      refine lv_iload hx hb dX0_hardestCode_29 (lv_at hl 4 rfl) ?_
      refine lv_bipush (v := 64) hx hb dX0_hardestCode_31 (by decide) ?_
      refine lv_icmp_ge (tgt := 68) hx hb dX0_hardestCode_33 (by decide) (fun c_33 => ?_) (fun c_33 => ?_)
      · replace ho := ho.1 c_33
        exact C_68 va_m va_x va_more va_laid va_below va_settled va_sort p2_lower p2_way p2_more p2_beyond x3 x4 x5 H locs ls ho hP hD hS (lv_sub hl [0, 1, 2, 3, 4] rfl)
      · replace ho := ho.2 c_33
        refine lv_iload hx hb dX0_hardestCode_36 (lv_at hl 3 rfl) ?_
        refine lv_aload_n hx hb dX0_hardestCode_38 rfl (lv_at hl 0 rfl) ?_
        refine lv_iload_n hx hb dX0_hardestCode_39 rfl (lv_at hl 1 rfl) ?_
        refine lv_iload hx hb dX0_hardestCode_40 (lv_at hl 4 rfl) ?_
        refine lv_iload_n hx hb dX0_hardestCode_42 rfl (lv_at hl 2 rfl) ?_
        refine ca_Vi (b := a_ce) (As := [.int p1, .int x5, .int x3]) (rest := [.int x4]) ⟨hx, hb, hml, hown, hts⟩ (c_X0_inBlock l D cI cJ cZ a_fl a_va a_ce a_ceT a_ceS a_ceH a_ceG a_ceV ceG_r ceV_r p1 x5 x3 _ ho) (cwV 3 hts gX0_hardestCode_X0_inBlock rfl rfl rfl (by decide +kernel) ⟨hRf _ (Nat.le_of_ble_eq_true rfl), hRl _ (Nat.le_of_ble_eq_true rfl)⟩) hK hN hP [3, 5, 6] rfl 0 0 rfl rfl rfl rfl hl.1 rfl (Nat.le_of_ble_eq_true rfl) dX0_hardestCode_43 ⟨Nat.zero_le _, Nat.zero_le _⟩ (fun r43 ho => ?_)
        refine lv_icmp_lt (tgt := 68) hx hb dX0_hardestCode_46 (by decide) (fun c_46 => ?_) (fun c_46 => ?_)
        · replace ho := ho.1 c_46
          exact C_68 va_m va_x va_more va_laid va_below va_settled va_sort p2_lower p2_way p2_more p2_beyond x3 x4 x5 H locs ls ho hP hD hS (lv_sub hl [0, 1, 2, 3, 4] rfl)
        · replace ho := ho.2 c_46
          refine lv_iload hx hb dX0_hardestCode_49 (lv_at hl 3 rfl) ?_
          refine lv_aload_n hx hb dX0_hardestCode_51 rfl (lv_at hl 0 rfl) ?_
          refine lv_iload_n hx hb dX0_hardestCode_52 rfl (lv_at hl 1 rfl) ?_
          refine lv_iload hx hb dX0_hardestCode_53 (lv_at hl 4 rfl) ?_
          refine lv_iload_n hx hb dX0_hardestCode_55 rfl (lv_at hl 2 rfl) ?_
          refine ca_Vi (b := a_ce) (As := [.int p1, .int x5, .int x3]) (rest := [.int x4]) ⟨hx, hb, hml, hown, hts⟩ (c_X0_inBlock l D cI cJ cZ a_fl a_va a_ce a_ceT a_ceS a_ceH a_ceG a_ceV ceG_r ceV_r p1 x5 x3 _ ho) (cwV 3 hts gX0_hardestCode_X0_inBlock rfl rfl rfl (by decide +kernel) ⟨hRf _ (Nat.le_of_ble_eq_true rfl), hRl _ (Nat.le_of_ble_eq_true rfl)⟩) hK hN hP [3, 5, 6] rfl 0 0 rfl rfl rfl rfl hl.1 rfl (Nat.le_of_ble_eq_true rfl) dX0_hardestCode_56 ⟨Nat.zero_le _, Nat.zero_le _⟩ (fun r56 ho => ?_)
          refine lv_isub hx hb dX0_hardestCode_59 ?_
          refine lv_istore (lv' := [(4, .int (x4 - r56)), (0, .ref a_ce), (1, .int p1), (3, .int x3), (5, .int x5)]) hx hb dX0_hardestCode_60 hl (by decide) rfl (fun ls hl => ?_)
          refine lv_iinc (v := (x5 + (1 : Int32))) (lv' := [(5, .int (x5 + (1 : Int32))), (4, .int (x4 - r56)), (0, .ref a_ce), (1, .int p1), (3, .int x3)]) hx hb dX0_hardestCode_62 hl (k := 4) rfl rfl (by decide) rfl (fun ls hl => ?_)
          refine lv_goto (tgt := 29) hx hb dX0_hardestCode_65 (by decide) ?_
          exact ih_29 va_m va_x va_more va_laid va_below va_settled va_sort p2_lower p2_way p2_more p2_beyond x3 (x4 - r56) (x5 + (1 : Int32)) H locs ls ho hP hD hS (lv_sub hl [2, 3, 4, 1, 0] rfl)
  unfold wp_X0_hardestCode at ho
  refine lv_aload_n hx hb dX0_hardestCode_0 rfl (lv_at hl 0 rfl) ?_
  refine lv_iload_n hx hb dX0_hardestCode_1 rfl (lv_at hl 1 rfl) ?_
  refine ca_Vi (b := a_ce) (As := [.int p1]) (rest := []) ⟨hx, hb, hml, hown, hts⟩ (c_X0_greatestHardness l D cI cJ cZ a_fl a_va a_ce a_ceT a_ceS a_ceH a_ceG a_ceV ceH_r p1 _ ho) (cwV 1 hts gX0_hardestCode_X0_greatestHardness rfl rfl rfl (by decide +kernel) ⟨hRf _ (Nat.le_of_ble_eq_true rfl), hRl _ (Nat.le_of_ble_eq_true rfl)⟩) hK hN hP [3, 4] rfl 0 0 rfl rfl rfl rfl hl.1 rfl (Nat.le_of_ble_eq_true rfl) dX0_hardestCode_2 ⟨Nat.zero_le _, Nat.zero_le _⟩ (fun r2 ho => ?_)
  refine lv_istore_n (lv' := [(3, .int r2), (0, .ref a_ce), (1, .int p1), (2, .int p2)]) hx hb dX0_hardestCode_5 rfl hl (by decide) rfl (fun ls hl => ?_)
  refine lv_iload_n hx hb dX0_hardestCode_6 rfl (lv_at hl 3 rfl) ?_
  refine lv_if_lt (tgt := 20) hx hb dX0_hardestCode_7 (by decide) (fun c_7 => ?_) (fun c_7 => ?_)
  · replace ho := ho.1 c_7
    refine lv_bipush (v := (-9)) hx hb dX0_hardestCode_20 (by decide) ?_
    subst hQ; exact W.iret (v := (-9 : Int32)) hx hb hr (fun t ht hW => ⟨⟨(-9 : Int32), (va_m, va_x, va_more, va_laid, va_below, va_settled, va_sort, p2_lower, p2_way, p2_more, p2_beyond), rfl, ho, by rw [ht]; exact hP, hD⟩, hS.F ht⟩) (fun q hq => hS.2.2 q hq) dX0_hardestCode_22
  · replace ho := ho.2 c_7
    refine lv_iload_n hx hb dX0_hardestCode_10 rfl (lv_at hl 3 rfl) ?_
    refine lv_aload_n hx hb dX0_hardestCode_11 rfl (lv_at hl 1 rfl) ?_
    refine lv_iload_n hx hb dX0_hardestCode_12 rfl (lv_at hl 2 rfl) ?_
    refine lv_iload_n hx hb dX0_hardestCode_13 rfl (lv_at hl 0 rfl) ?_
    refine ca_Vi (b := a_ce) (As := [.int p1, .int r2]) (rest := [.int p2]) ⟨hx, hb, hml, hown, hts⟩ (c_X0_ofHardness l D cI cJ cZ a_fl a_va a_ce a_ceT a_ceS a_ceH a_ceG a_ceV ceH_r p1 r2 _ ho) (cwV 2 hts gX0_hardestCode_X0_ofHardness rfl rfl rfl (by decide +kernel) ⟨hRf _ (Nat.le_of_ble_eq_true rfl), hRl _ (Nat.le_of_ble_eq_true rfl)⟩) hK hN hP [3, 4] rfl 0 0 rfl rfl rfl rfl hl.1 rfl (Nat.le_of_ble_eq_true rfl) dX0_hardestCode_14 ⟨Nat.zero_le _, Nat.zero_le _⟩ (fun r14 ho => ?_)
    refine lv_icmp_lt (tgt := 23) hx hb dX0_hardestCode_17 (by decide) (fun c_17 => ?_) (fun c_17 => ?_)
    · replace ho := ho.1 c_17
      refine lv_iload_n hx hb dX0_hardestCode_23 rfl (lv_at hl 3 rfl) ?_
      refine lv_istore (lv' := [(4, .int p2), (3, .int r2), (0, .ref a_ce), (1, .int p1), (2, .int p2)]) hx hb dX0_hardestCode_24 hl (by decide) rfl (fun ls hl => ?_)
      refine lv_iconst (v := 0) hx hb dX0_hardestCode_26 (by decide) ?_
      refine lv_istore (lv' := [(5, .int (0 : Int32)), (4, .int p2), (3, .int r2), (0, .ref a_ce), (1, .int p1), (2, .int p2)]) hx hb dX0_hardestCode_27 hl (by decide) rfl (fun ls hl => ?_)
      obtain ⟨n_29, ho⟩ := ho
      exact C_29 n_29 va_m va_x va_more va_laid va_below va_settled va_sort p2_lower p2_way p2_more p2_beyond r2 p2 (0 : Int32) H locs ls ho hP hD hS (lv_sub hl [3, 4, 2, 1, 0] rfl)
    · replace ho := ho.2 c_17
      refine lv_bipush (v := (-9)) hx hb dX0_hardestCode_20 (by decide) ?_
      subst hQ; exact W.iret (v := (-9 : Int32)) hx hb hr (fun t ht hW => ⟨⟨(-9 : Int32), (va_m, va_x, va_more, va_laid, va_below, va_settled, va_sort, p2_lower, p2_way, p2_more, p2_beyond), rfl, ho, by rw [ht]; exact hP, hD⟩, hS.F ht⟩) (fun q hq => hS.2.2 q hq) dX0_hardestCode_22
