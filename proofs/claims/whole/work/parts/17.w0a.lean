def w_X0_forget : List Cond := .code yX0_forget cX0_forget 1 none :: wsL_law
set_option maxHeartbeats 4000000 in
set_option maxRecDepth 100000 in
theorem c_X0_forget (l : Launch) (D : va_G) (cI cJ cZ : ClassId) (a_fl : Nat) (a_va : Nat) (a_ce : Nat) (a_ceT : Nat) (a_ceS : Nat) (a_ceH : Nat) (a_ceG : Nat) (a_ceV : Nat) (sz : Nat) (ceT_r : Nat → Int32) (ceS_r : Nat → Int32) (ceH_r : Nat → Int32) (ceG_r : Nat → Int32) (ceV_r : Nat → Int32)  (post : (Nat → Int32) → (Nat → Int32) → (Nat → Int32) → (Nat → Int32) → (Nat → Int32) → Prop) (A : Nat → Prop) (hAe : A = va_A [(a_ce, oX0 a_fl a_va a_ceT a_ceS a_ceH a_ceG a_ceV), (a_ceT, .inl (cI, 5, .inl ceT_r)), (a_ceS, .inl (cI, 20, .inl ceS_r)), (a_ceH, .inl (cI, 50, .inl ceH_r)), (a_ceG, .inl (cI, 320, .inl ceG_r)), (a_ceV, .inl (cI, 320, .inl ceV_r))] sz) (ho : wp_X0_forget post ceT_r ceS_r ceH_r ceG_r ceV_r) : Met l yX0_forget w_X0_forget ({ frames := 1, cells := 0, slots := 0, locals := 23 } : Room) (rw_P D [(cI, .int), (cJ, .long), (cZ, .boolean)] [.ref a_ce] sz [(a_ce, oX0 a_fl a_va a_ceT a_ceS a_ceH a_ceG a_ceV), (a_ceT, .inl (cI, 5, .inl ceT_r)), (a_ceS, .inl (cI, 20, .inl ceS_r)), (a_ceH, .inl (cI, 50, .inl ceH_r)), (a_ceG, .inl (cI, 320, .inl ceG_r)), (a_ceV, .inl (cI, 320, .inl ceV_r))]) (va_Qv (fun (u : (Nat → Int32) × (Nat → Int32) × (Nat → Int32) × (Nat → Int32) × (Nat → Int32)) => post u.1 u.2.1 u.2.2.1 u.2.2.2.1 u.2.2.2.2) (rw_B D A (fun (u : (Nat → Int32) × (Nat → Int32) × (Nat → Int32) × (Nat → Int32) × (Nat → Int32)) => [(a_ce, oX0 a_fl a_va a_ceT a_ceS a_ceH a_ceG a_ceV), (a_ceT, .inl (cI, 5, .inl u.1)), (a_ceS, .inl (cI, 20, .inl u.2.1)), (a_ceH, .inl (cI, 50, .inl u.2.2.1)), (a_ceG, .inl (cI, 320, .inl u.2.2.2.1)), (a_ceV, .inl (cI, 320, .inl u.2.2.2.2))])) A) 0 0 A := by
  refine Met.ofW (cc := cX0_forget) (maxL := 1) (ret := none) (by decide) rfl ?_
  intro p e s m args below meth c s₁ B hml hv
  obtain ⟨hargs, hsz, hP, hK, hN, hD0⟩ := hv
  have hx := B.exec
  have hb := B.bytes
  have hr := B.returns
  have hts : ∀ w ∈ wsL_law, w.before args s = true := fun w h => atoms_spec (ws := w_X0_forget) B.pre w (List.mem_cons_of_mem _ h)
  have hown : s.vm.findClass RX0 = some m.cls := findClass_of_methodNamed B.named
  have hlocks := B.notSynchronized
  subst hsz
  have hD : va_D A [(a_ce, oX0 a_fl a_va a_ceT a_ceS a_ceH a_ceG a_ceV), (a_ceT, .inl (cI, 5, .inl ceT_r)), (a_ceS, .inl (cI, 20, .inl ceS_r)), (a_ceH, .inl (cI, 50, .inl ceH_r)), (a_ceG, .inl (cI, 320, .inl ceG_r)), (a_ceV, .inl (cI, 320, .inl ceV_r))] := by rw [hAe]; exact hD0.self
  have hA : ∀ q : Nat, s.heap.size ≤ q → A q := fun q h => by rw [hAe]; exact Or.inr h
  have hS : va_S A s.heap s.heap [] := va_S.rf
  have hl := lv_entry ([.ref a_ce]) (n := 1) (Nat.le_of_ble_eq_true rfl)
  rw [hargs, lg_entry_eq, ← hargs]
  generalize (lg_sl ([.ref a_ce]) ++ List.replicate (1 - (lg_sl ([.ref a_ce])).length) Slot.unset).toArray = ls at hl ⊢
  replace hl : lv_has ls 1 [(0, .ref a_ce)] := hl
  have hRf : ∀ n, n ≤ 1 → n ≤ (headSpec w_X0_forget ({ frames := 1, cells := 0, slots := 0, locals := 23 } : Room)).room.frames := fun n h => h
  have hRl : ∀ n, n ≤ 23 → n ≤ (headSpec w_X0_forget ({ frames := 1, cells := 0, slots := 0, locals := 23 } : Room)).room.locals := fun n h => h
  generalize (headSpec w_X0_forget ({ frames := 1, cells := 0, slots := 0, locals := 23 } : Room)).room = R at hRf hRl ⊢
  generalize hQ : MQ below _ args s 0 0 _ = Q
  suffices main : ∀ (H : Heap) (locs : List Loc), va_P D vwCl [(a_ce, oX0 a_fl a_va a_ceT a_ceS a_ceH a_ceG a_ceV), (a_ceT, .inl (cI, 5, .inl ceT_r)), (a_ceS, .inl (cI, 20, .inl ceS_r)), (a_ceH, .inl (cI, 50, .inl ceH_r)), (a_ceG, .inl (cI, 320, .inl ceG_r)), (a_ceV, .inl (cI, 320, .inl ceV_r))] H → va_S A s.heap H locs → W p l e R s m args below meth c H locs 0 0 Q (F0 m 0 ls []) from main _ _ hP hS
  intro H locs hP hS
  unfold wp_X0_forget at ho
  refine lv_aload_n hx hb dX0_forget_0 rfl (lv_at hl 0 rfl) ?_
  refine va_get (D := D) (ci := 0) (v := .ref a_ceT) (C := RX0) (T := TX0) (N := 7) hx hb hts inlX0 hown hK hP 0 rfl rfl 2 (by decide) (hts _ wl_71) (fun _ h9 => h9) rfl dX0_forget_1 ?_
  refine lv_iconst (v := 0) hx hb dX0_forget_4 (by decide) ?_
  refine ca_Tv (As := [.ref a_ceT, .int (0 : Int32)]) (rest := []) (wr := [(a_ce, oX0 a_fl a_va a_ceT a_ceS a_ceH a_ceG a_ceV), (a_ceS, .inl (cI, 20, .inl ceS_r)), (a_ceH, .inl (cI, 50, .inl ceH_r)), (a_ceG, .inl (cI, 320, .inl ceG_r)), (a_ceV, .inl (cI, 320, .inl ceV_r))]) (wo := fun (u : (Nat → Int32)) => [(a_ceT, .inl (cI, 5, .inl u))]) (wn := fun (u : (Nat → Int32)) => [(a_ce, oX0 a_fl a_va a_ceT a_ceS a_ceH a_ceG a_ceV), (a_ceT, .inl (cI, 5, .inl u)), (a_ceS, .inl (cI, 20, .inl ceS_r)), (a_ceH, .inl (cI, 50, .inl ceH_r)), (a_ceG, .inl (cI, 320, .inl ceG_r)), (a_ceV, .inl (cI, 320, .inl ceV_r))]) ⟨hx, hb, hml, hown, hts⟩ (c_J7_fill_53178 l D cI cJ cZ a_ceT H.size 5 ceT_r (0 : Int32) _ _ rfl ho) (va_cwS 2 hts (gdS wl_147 wl_148 wl_149 wl_150) rfl rfl rfl (by decide +kernel) ⟨hRf _ (Nat.le_of_ble_eq_true rfl), hRl _ (Nat.le_of_ble_eq_true rfl)⟩) hK hN hP hD hS hA [1] [0, 2, 3, 4, 5] [0, 5, 1, 2, 3, 4] rfl rfl (by decide) (by decide) (by decide) (by decide) (fun _ => rfl) rfl hl.1 rfl (Nat.le_of_ble_eq_true rfl) dX0_forget_5 ⟨Nat.zero_le _, Nat.zero_le _⟩ (fun  u5 H locs ho hP hD hS => ?_)
  try dsimp only at ho
  replace hP : va_P D vwCl [(a_ce, oX0 a_fl a_va a_ceT a_ceS a_ceH a_ceG a_ceV), (a_ceT, .inl (cI, 5, .inl u5)), (a_ceS, .inl (cI, 20, .inl ceS_r)), (a_ceH, .inl (cI, 50, .inl ceH_r)), (a_ceG, .inl (cI, 320, .inl ceG_r)), (a_ceV, .inl (cI, 320, .inl ceV_r))] H := hP
  replace hD : va_D A [(a_ce, oX0 a_fl a_va a_ceT a_ceS a_ceH a_ceG a_ceV), (a_ceT, .inl (cI, 5, .inl u5)), (a_ceS, .inl (cI, 20, .inl ceS_r)), (a_ceH, .inl (cI, 50, .inl ceH_r)), (a_ceG, .inl (cI, 320, .inl ceG_r)), (a_ceV, .inl (cI, 320, .inl ceV_r))] := hD
  refine lv_aload_n hx hb dX0_forget_8 rfl (lv_at hl 0 rfl) ?_
  refine va_get (D := D) (ci := 0) (v := .ref a_ceS) (C := RX0) (T := TX0) (N := 7) hx hb hts inlX0 hown hK hP 0 rfl rfl 3 (by decide) (hts _ wl_72) (fun _ h9 => h9) rfl dX0_forget_9 ?_
  refine lv_iconst (v := 0) hx hb dX0_forget_12 (by decide) ?_
  refine ca_Tv (As := [.ref a_ceS, .int (0 : Int32)]) (rest := []) (wr := [(a_ce, oX0 a_fl a_va a_ceT a_ceS a_ceH a_ceG a_ceV), (a_ceT, .inl (cI, 5, .inl u5)), (a_ceH, .inl (cI, 50, .inl ceH_r)), (a_ceG, .inl (cI, 320, .inl ceG_r)), (a_ceV, .inl (cI, 320, .inl ceV_r))]) (wo := fun (u : (Nat → Int32)) => [(a_ceS, .inl (cI, 20, .inl u))]) (wn := fun (u : (Nat → Int32)) => [(a_ce, oX0 a_fl a_va a_ceT a_ceS a_ceH a_ceG a_ceV), (a_ceT, .inl (cI, 5, .inl u5)), (a_ceS, .inl (cI, 20, .inl u)), (a_ceH, .inl (cI, 50, .inl ceH_r)), (a_ceG, .inl (cI, 320, .inl ceG_r)), (a_ceV, .inl (cI, 320, .inl ceV_r))]) ⟨hx, hb, hml, hown, hts⟩ (c_J7_fill_53178 l D cI cJ cZ a_ceS H.size 20 ceS_r (0 : Int32) _ _ rfl ho) (va_cwS 2 hts (gdS wl_147 wl_148 wl_149 wl_150) rfl rfl rfl (by decide +kernel) ⟨hRf _ (Nat.le_of_ble_eq_true rfl), hRl _ (Nat.le_of_ble_eq_true rfl)⟩) hK hN hP hD hS hA [2] [0, 1, 3, 4, 5] [0, 1, 5, 2, 3, 4] rfl rfl (by decide) (by decide) (by decide) (by decide) (fun _ => rfl) rfl hl.1 rfl (Nat.le_of_ble_eq_true rfl) dX0_forget_13 ⟨Nat.zero_le _, Nat.zero_le _⟩ (fun  u13 H locs ho hP hD hS => ?_)
  try dsimp only at ho
  replace hP : va_P D vwCl [(a_ce, oX0 a_fl a_va a_ceT a_ceS a_ceH a_ceG a_ceV), (a_ceT, .inl (cI, 5, .inl u5)), (a_ceS, .inl (cI, 20, .inl u13)), (a_ceH, .inl (cI, 50, .inl ceH_r)), (a_ceG, .inl (cI, 320, .inl ceG_r)), (a_ceV, .inl (cI, 320, .inl ceV_r))] H := hP
  replace hD : va_D A [(a_ce, oX0 a_fl a_va a_ceT a_ceS a_ceH a_ceG a_ceV), (a_ceT, .inl (cI, 5, .inl u5)), (a_ceS, .inl (cI, 20, .inl u13)), (a_ceH, .inl (cI, 50, .inl ceH_r)), (a_ceG, .inl (cI, 320, .inl ceG_r)), (a_ceV, .inl (cI, 320, .inl ceV_r))] := hD
  refine lv_aload_n hx hb dX0_forget_16 rfl (lv_at hl 0 rfl) ?_
  refine va_get (D := D) (ci := 0) (v := .ref a_ceH) (C := RX0) (T := TX0) (N := 7) hx hb hts inlX0 hown hK hP 0 rfl rfl 4 (by decide) (hts _ wl_73) (fun _ h9 => h9) rfl dX0_forget_17 ?_
  refine lv_iconst (v := 0) hx hb dX0_forget_20 (by decide) ?_
  refine ca_Tv (As := [.ref a_ceH, .int (0 : Int32)]) (rest := []) (wr := [(a_ce, oX0 a_fl a_va a_ceT a_ceS a_ceH a_ceG a_ceV), (a_ceT, .inl (cI, 5, .inl u5)), (a_ceS, .inl (cI, 20, .inl u13)), (a_ceG, .inl (cI, 320, .inl ceG_r)), (a_ceV, .inl (cI, 320, .inl ceV_r))]) (wo := fun (u : (Nat → Int32)) => [(a_ceH, .inl (cI, 50, .inl u))]) (wn := fun (u : (Nat → Int32)) => [(a_ce, oX0 a_fl a_va a_ceT a_ceS a_ceH a_ceG a_ceV), (a_ceT, .inl (cI, 5, .inl u5)), (a_ceS, .inl (cI, 20, .inl u13)), (a_ceH, .inl (cI, 50, .inl u)), (a_ceG, .inl (cI, 320, .inl ceG_r)), (a_ceV, .inl (cI, 320, .inl ceV_r))]) ⟨hx, hb, hml, hown, hts⟩ (c_J7_fill_53178 l D cI cJ cZ a_ceH H.size 50 ceH_r (0 : Int32) _ _ rfl ho) (va_cwS 2 hts (gdS wl_147 wl_148 wl_149 wl_150) rfl rfl rfl (by decide +kernel) ⟨hRf _ (Nat.le_of_ble_eq_true rfl), hRl _ (Nat.le_of_ble_eq_true rfl)⟩) hK hN hP hD hS hA [3] [0, 1, 2, 4, 5] [0, 1, 2, 5, 3, 4] rfl rfl (by decide) (by decide) (by decide) (by decide) (fun _ => rfl) rfl hl.1 rfl (Nat.le_of_ble_eq_true rfl) dX0_forget_21 ⟨Nat.zero_le _, Nat.zero_le _⟩ (fun  u21 H locs ho hP hD hS => ?_)
  try dsimp only at ho
  replace hP : va_P D vwCl [(a_ce, oX0 a_fl a_va a_ceT a_ceS a_ceH a_ceG a_ceV), (a_ceT, .inl (cI, 5, .inl u5)), (a_ceS, .inl (cI, 20, .inl u13)), (a_ceH, .inl (cI, 50, .inl u21)), (a_ceG, .inl (cI, 320, .inl ceG_r)), (a_ceV, .inl (cI, 320, .inl ceV_r))] H := hP
  replace hD : va_D A [(a_ce, oX0 a_fl a_va a_ceT a_ceS a_ceH a_ceG a_ceV), (a_ceT, .inl (cI, 5, .inl u5)), (a_ceS, .inl (cI, 20, .inl u13)), (a_ceH, .inl (cI, 50, .inl u21)), (a_ceG, .inl (cI, 320, .inl ceG_r)), (a_ceV, .inl (cI, 320, .inl ceV_r))] := hD
  refine lv_aload_n hx hb dX0_forget_24 rfl (lv_at hl 0 rfl) ?_
  refine va_get (D := D) (ci := 0) (v := .ref a_ceG) (C := RX0) (T := TX0) (N := 7) hx hb hts inlX0 hown hK hP 0 rfl rfl 5 (by decide) (hts _ wl_74) (fun _ h9 => h9) rfl dX0_forget_25 ?_
  refine lv_iconst (v := 0) hx hb dX0_forget_28 (by decide) ?_
  refine ca_Tv (As := [.ref a_ceG, .int (0 : Int32)]) (rest := []) (wr := [(a_ce, oX0 a_fl a_va a_ceT a_ceS a_ceH a_ceG a_ceV), (a_ceT, .inl (cI, 5, .inl u5)), (a_ceS, .inl (cI, 20, .inl u13)), (a_ceH, .inl (cI, 50, .inl u21)), (a_ceV, .inl (cI, 320, .inl ceV_r))]) (wo := fun (u : (Nat → Int32)) => [(a_ceG, .inl (cI, 320, .inl u))]) (wn := fun (u : (Nat → Int32)) => [(a_ce, oX0 a_fl a_va a_ceT a_ceS a_ceH a_ceG a_ceV), (a_ceT, .inl (cI, 5, .inl u5)), (a_ceS, .inl (cI, 20, .inl u13)), (a_ceH, .inl (cI, 50, .inl u21)), (a_ceG, .inl (cI, 320, .inl u)), (a_ceV, .inl (cI, 320, .inl ceV_r))]) ⟨hx, hb, hml, hown, hts⟩ (c_J7_fill_53178 l D cI cJ cZ a_ceG H.size 320 ceG_r (0 : Int32) _ _ rfl ho) (va_cwS 2 hts (gdS wl_147 wl_148 wl_149 wl_150) rfl rfl rfl (by decide +kernel) ⟨hRf _ (Nat.le_of_ble_eq_true rfl), hRl _ (Nat.le_of_ble_eq_true rfl)⟩) hK hN hP hD hS hA [4] [0, 1, 2, 3, 5] [0, 1, 2, 3, 5, 4] rfl rfl (by decide) (by decide) (by decide) (by decide) (fun _ => rfl) rfl hl.1 rfl (Nat.le_of_ble_eq_true rfl) dX0_forget_29 ⟨Nat.zero_le _, Nat.zero_le _⟩ (fun  u29 H locs ho hP hD hS => ?_)
  try dsimp only at ho
  replace hP : va_P D vwCl [(a_ce, oX0 a_fl a_va a_ceT a_ceS a_ceH a_ceG a_ceV), (a_ceT, .inl (cI, 5, .inl u5)), (a_ceS, .inl (cI, 20, .inl u13)), (a_ceH, .inl (cI, 50, .inl u21)), (a_ceG, .inl (cI, 320, .inl u29)), (a_ceV, .inl (cI, 320, .inl ceV_r))] H := hP
  replace hD : va_D A [(a_ce, oX0 a_fl a_va a_ceT a_ceS a_ceH a_ceG a_ceV), (a_ceT, .inl (cI, 5, .inl u5)), (a_ceS, .inl (cI, 20, .inl u13)), (a_ceH, .inl (cI, 50, .inl u21)), (a_ceG, .inl (cI, 320, .inl u29)), (a_ceV, .inl (cI, 320, .inl ceV_r))] := hD
  refine lv_aload_n hx hb dX0_forget_32 rfl (lv_at hl 0 rfl) ?_
  refine va_get (D := D) (ci := 0) (v := .ref a_ceV) (C := RX0) (T := TX0) (N := 7) hx hb hts inlX0 hown hK hP 0 rfl rfl 6 (by decide) (hts _ wl_75) (fun _ h9 => h9) rfl dX0_forget_33 ?_
  refine lv_iconst (v := 0) hx hb dX0_forget_36 (by decide) ?_
  refine ca_Tv (As := [.ref a_ceV, .int (0 : Int32)]) (rest := []) (wr := [(a_ce, oX0 a_fl a_va a_ceT a_ceS a_ceH a_ceG a_ceV), (a_ceT, .inl (cI, 5, .inl u5)), (a_ceS, .inl (cI, 20, .inl u13)), (a_ceH, .inl (cI, 50, .inl u21)), (a_ceG, .inl (cI, 320, .inl u29))]) (wo := fun (u : (Nat → Int32)) => [(a_ceV, .inl (cI, 320, .inl u))]) (wn := fun (u : (Nat → Int32)) => [(a_ce, oX0 a_fl a_va a_ceT a_ceS a_ceH a_ceG a_ceV), (a_ceT, .inl (cI, 5, .inl u5)), (a_ceS, .inl (cI, 20, .inl u13)), (a_ceH, .inl (cI, 50, .inl u21)), (a_ceG, .inl (cI, 320, .inl u29)), (a_ceV, .inl (cI, 320, .inl u))]) ⟨hx, hb, hml, hown, hts⟩ (c_J7_fill_53178 l D cI cJ cZ a_ceV H.size 320 ceV_r (0 : Int32) _ _ rfl ho) (va_cwS 2 hts (gdS wl_147 wl_148 wl_149 wl_150) rfl rfl rfl (by decide +kernel) ⟨hRf _ (Nat.le_of_ble_eq_true rfl), hRl _ (Nat.le_of_ble_eq_true rfl)⟩) hK hN hP hD hS hA [5] [0, 1, 2, 3, 4] [0, 1, 2, 3, 4, 5] rfl rfl (by decide) (by decide) (by decide) (by decide) (fun _ => rfl) rfl hl.1 rfl (Nat.le_of_ble_eq_true rfl) dX0_forget_37 ⟨Nat.zero_le _, Nat.zero_le _⟩ (fun  u37 H locs ho hP hD hS => ?_)
  try dsimp only at ho
  replace hP : va_P D vwCl [(a_ce, oX0 a_fl a_va a_ceT a_ceS a_ceH a_ceG a_ceV), (a_ceT, .inl (cI, 5, .inl u5)), (a_ceS, .inl (cI, 20, .inl u13)), (a_ceH, .inl (cI, 50, .inl u21)), (a_ceG, .inl (cI, 320, .inl u29)), (a_ceV, .inl (cI, 320, .inl u37))] H := hP
  replace hD : va_D A [(a_ce, oX0 a_fl a_va a_ceT a_ceS a_ceH a_ceG a_ceV), (a_ceT, .inl (cI, 5, .inl u5)), (a_ceS, .inl (cI, 20, .inl u13)), (a_ceH, .inl (cI, 50, .inl u21)), (a_ceG, .inl (cI, 320, .inl u29)), (a_ceV, .inl (cI, 320, .inl u37))] := hD
  subst hQ; exact W.vret hx hb hr (fun t ht hW => ⟨⟨(u5, u13, u21, u29, u37), rfl, ho, by rw [ht]; exact hP, hD⟩, hS.F ht⟩) (fun q hq => hS.2.2 q hq) dX0_forget_40

def w_X0_addToBlock : List Cond := .code yX0_addToBlock cX0_addToBlock 3 none :: wsL_law
set_option maxHeartbeats 4000000 in
set_option maxRecDepth 100000 in
theorem c_X0_addToBlock (l : Launch) (D : va_G) (cI cJ cZ : ClassId) (a_fl : Nat) (a_va : Nat) (a_ce : Nat) (a_ceT : Nat) (a_ceS : Nat) (a_ceH : Nat) (a_ceG : Nat) (a_ceV : Nat) (sz : Nat) (ceG_r : Nat → Int32) (ceV_r : Nat → Int32) (p1 : Int32) (p2 : Int32) (post : (Nat → Int32) → (Nat → Int32) → Prop) (A : Nat → Prop) (hAe : A = va_A [(a_ce, oX0 a_fl a_va a_ceT a_ceS a_ceH a_ceG a_ceV), (a_ceG, .inl (cI, 320, .inl ceG_r)), (a_ceV, .inl (cI, 320, .inl ceV_r))] sz) (ho : wp_X0_addToBlock post ceG_r ceV_r p1 p2) : Met l yX0_addToBlock w_X0_addToBlock ({ frames := 2, cells := 0, slots := 0, locals := 43 } : Room) (rw_P D [(cI, .int), (cJ, .long), (cZ, .boolean)] [.ref a_ce, .int p1, .int p2] sz [(a_ce, oX0 a_fl a_va a_ceT a_ceS a_ceH a_ceG a_ceV), (a_ceG, .inl (cI, 320, .inl ceG_r)), (a_ceV, .inl (cI, 320, .inl ceV_r))]) (va_Qv (fun (u : (Nat → Int32) × (Nat → Int32)) => post u.1 u.2) (rw_B D A (fun (u : (Nat → Int32) × (Nat → Int32)) => [(a_ce, oX0 a_fl a_va a_ceT a_ceS a_ceH a_ceG a_ceV), (a_ceG, .inl (cI, 320, .inl u.1)), (a_ceV, .inl (cI, 320, .inl u.2))])) A) 0 0 A := by
  refine Met.ofW (cc := cX0_addToBlock) (maxL := 3) (ret := none) (by decide) rfl ?_
  intro p e s m args below meth c s₁ B hml hv
  obtain ⟨hargs, hsz, hP, hK, hN, hD0⟩ := hv
  have hx := B.exec
  have hb := B.bytes
  have hr := B.returns
  have hts : ∀ w ∈ wsL_law, w.before args s = true := fun w h => atoms_spec (ws := w_X0_addToBlock) B.pre w (List.mem_cons_of_mem _ h)
  have hown : s.vm.findClass RX0 = some m.cls := findClass_of_methodNamed B.named
  have hlocks := B.notSynchronized
  subst hsz
  have hD : va_D A [(a_ce, oX0 a_fl a_va a_ceT a_ceS a_ceH a_ceG a_ceV), (a_ceG, .inl (cI, 320, .inl ceG_r)), (a_ceV, .inl (cI, 320, .inl ceV_r))] := by rw [hAe]; exact hD0.self
  have hA : ∀ q : Nat, s.heap.size ≤ q → A q := fun q h => by rw [hAe]; exact Or.inr h
  have hS : va_S A s.heap s.heap [] := va_S.rf
  have hl := lv_entry ([.ref a_ce, .int p1, .int p2]) (n := 3) (Nat.le_of_ble_eq_true rfl)
  rw [hargs, lg_entry_eq, ← hargs]
  generalize (lg_sl ([.ref a_ce, .int p1, .int p2]) ++ List.replicate (3 - (lg_sl ([.ref a_ce, .int p1, .int p2])).length) Slot.unset).toArray = ls at hl ⊢
  replace hl : lv_has ls 3 [(0, .ref a_ce), (1, .int p1), (2, .int p2)] := hl
  have hRf : ∀ n, n ≤ 2 → n ≤ (headSpec w_X0_addToBlock ({ frames := 2, cells := 0, slots := 0, locals := 43 } : Room)).room.frames := fun n h => h
  have hRl : ∀ n, n ≤ 43 → n ≤ (headSpec w_X0_addToBlock ({ frames := 2, cells := 0, slots := 0, locals := 43 } : Room)).room.locals := fun n h => h
  generalize (headSpec w_X0_addToBlock ({ frames := 2, cells := 0, slots := 0, locals := 43 } : Room)).room = R at hRf hRl ⊢
  generalize hQ : MQ below _ args s 0 0 _ = Q
  have C_30 : ∀ (ceG_r : Nat → Int32) (ceV_r : Nat → Int32) (H : Heap) (locs : List Loc) (ls : Array Slot), wp_X0_addToBlock_30 post  ceG_r ceV_r p1 p2 → va_P D vwCl [(a_ce, oX0 a_fl a_va a_ceT a_ceS a_ceH a_ceG a_ceV), (a_ceG, .inl (cI, 320, .inl ceG_r)), (a_ceV, .inl (cI, 320, .inl ceV_r))] H → va_D A [(a_ce, oX0 a_fl a_va a_ceT a_ceS a_ceH a_ceG a_ceV), (a_ceG, .inl (cI, 320, .inl ceG_r)), (a_ceV, .inl (cI, 320, .inl ceV_r))] → va_S A s.heap H locs → lv_has ls 3 [(0, .ref a_ce), (1, .int p1), (2, .int p2)] → W p l e R s m args below meth c H locs 0 0 Q (F0 m 30 ls []) := by
    intro ceG_r ceV_r H locs ls ho hP hD hS hl
    unfold wp_X0_addToBlock_30 at ho
    refine lv_iload_n hx hb dX0_addToBlock_30 rfl (lv_at hl 2 rfl) ?_
    refine lv_aload_n hx hb dX0_addToBlock_31 rfl (lv_at hl 0 rfl) ?_
    refine va_get (D := D) (ci := 0) (v := .ref a_ceG) (C := RX0) (T := TX0) (N := 7) hx hb hts inlX0 hown hK hP 0 rfl rfl 5 (by decide) (hts _ wl_74) (fun _ h9 => h9) rfl dX0_addToBlock_32 ?_
    refine lv_iload_n hx hb dX0_addToBlock_35 rfl (lv_at hl 1 rfl) ?_
    refine ca_Si (As := [.ref a_ceG, .int p1]) (rest := [.int p2]) ⟨hx, hb, hml, hown, hts⟩ (c_X4_at l D cI cJ cZ a_ceG 320 ceG_r p1 _ ho) (va_cwS 2 hts (gdS wl_546 wl_137 wl_134 wl_138) rfl rfl rfl (by decide +kernel) ⟨hRf _ (Nat.le_of_ble_eq_true rfl), hRl _ (Nat.le_of_ble_eq_true rfl)⟩) hK hN hP [1] rfl rfl hl.1 rfl (Nat.le_of_ble_eq_true rfl) dX0_addToBlock_36 ⟨Nat.zero_le _, Nat.zero_le _⟩ (fun r36 ho => ?_)
    refine lv_icmp_ne (tgt := 50) hx hb dX0_addToBlock_39 (by decide) (fun c_39 => ?_) (fun c_39 => ?_)
    · replace ho := ho.1 c_39
      subst hQ; exact W.vret hx hb hr (fun t ht hW => ⟨⟨(ceG_r, ceV_r), rfl, ho, by rw [ht]; exact hP, hD⟩, hS.F ht⟩) (fun q hq => hS.2.2 q hq) dX0_addToBlock_50
    · replace ho := ho.2 c_39
      refine lv_aload_n hx hb dX0_addToBlock_42 rfl (lv_at hl 0 rfl) ?_
      refine va_get (D := D) (ci := 0) (v := .ref a_ceV) (C := RX0) (T := TX0) (N := 7) hx hb hts inlX0 hown hK hP 0 rfl rfl 6 (by decide) (hts _ wl_75) (fun _ h9 => h9) rfl dX0_addToBlock_43 ?_
      refine lv_iload_n hx hb dX0_addToBlock_46 rfl (lv_at hl 1 rfl) ?_
      refine ca_Tv (As := [.ref a_ceV, .int p1]) (rest := []) (wr := [(a_ce, oX0 a_fl a_va a_ceT a_ceS a_ceH a_ceG a_ceV), (a_ceG, .inl (cI, 320, .inl ceG_r))]) (wo := fun (u : (Nat → Int32)) => [(a_ceV, .inl (cI, 320, .inl u))]) (wn := fun (u : (Nat → Int32)) => [(a_ce, oX0 a_fl a_va a_ceT a_ceS a_ceH a_ceG a_ceV), (a_ceG, .inl (cI, 320, .inl ceG_r)), (a_ceV, .inl (cI, 320, .inl u))]) ⟨hx, hb, hml, hown, hts⟩ (c_X4_addOne l D cI cJ cZ a_ceV H.size 320 ceV_r p1 _ _ rfl ho) (va_cwS 2 hts (gdS wl_551 wl_133 wl_134 wl_135) rfl rfl rfl (by decide +kernel) ⟨hRf _ (Nat.le_of_ble_eq_true rfl), hRl _ (Nat.le_of_ble_eq_true rfl)⟩) hK hN hP hD hS hA [2] [0, 1] [0, 1, 2] rfl rfl (by decide) (by decide) (by decide) (by decide) (fun _ => rfl) rfl hl.1 rfl (Nat.le_of_ble_eq_true rfl) dX0_addToBlock_47 ⟨Nat.zero_le _, Nat.zero_le _⟩ (fun  u47 H locs ho hP hD hS => ?_)
      try dsimp only at ho
      replace hP : va_P D vwCl [(a_ce, oX0 a_fl a_va a_ceT a_ceS a_ceH a_ceG a_ceV), (a_ceG, .inl (cI, 320, .inl ceG_r)), (a_ceV, .inl (cI, 320, .inl u47))] H := hP
      replace hD : va_D A [(a_ce, oX0 a_fl a_va a_ceT a_ceS a_ceH a_ceG a_ceV), (a_ceG, .inl (cI, 320, .inl ceG_r)), (a_ceV, .inl (cI, 320, .inl u47))] := hD
      subst hQ; exact W.vret hx hb hr (fun t ht hW => ⟨⟨(ceG_r, u47), rfl, ho, by rw [ht]; exact hP, hD⟩, hS.F ht⟩) (fun q hq => hS.2.2 q hq) dX0_addToBlock_50
  suffices main : ∀ (H : Heap) (locs : List Loc), va_P D vwCl [(a_ce, oX0 a_fl a_va a_ceT a_ceS a_ceH a_ceG a_ceV), (a_ceG, .inl (cI, 320, .inl ceG_r)), (a_ceV, .inl (cI, 320, .inl ceV_r))] H → va_S A s.heap H locs → W p l e R s m args below meth c H locs 0 0 Q (F0 m 0 ls []) from main _ _ hP hS
  intro H locs hP hS
  unfold wp_X0_addToBlock at ho
  refine lv_iload_n hx hb dX0_addToBlock_0 rfl (lv_at hl 2 rfl) ?_
  refine lv_aload_n hx hb dX0_addToBlock_1 rfl (lv_at hl 0 rfl) ?_
  refine va_get (D := D) (ci := 0) (v := .ref a_ceG) (C := RX0) (T := TX0) (N := 7) hx hb hts inlX0 hown hK hP 0 rfl rfl 5 (by decide) (hts _ wl_74) (fun _ h9 => h9) rfl dX0_addToBlock_2 ?_
  refine lv_iload_n hx hb dX0_addToBlock_5 rfl (lv_at hl 1 rfl) ?_
  refine ca_Si (As := [.ref a_ceG, .int p1]) (rest := [.int p2]) ⟨hx, hb, hml, hown, hts⟩ (c_X4_at l D cI cJ cZ a_ceG 320 ceG_r p1 _ ho) (va_cwS 2 hts (gdS wl_546 wl_137 wl_134 wl_138) rfl rfl rfl (by decide +kernel) ⟨hRf _ (Nat.le_of_ble_eq_true rfl), hRl _ (Nat.le_of_ble_eq_true rfl)⟩) hK hN hP [1] rfl rfl hl.1 rfl (Nat.le_of_ble_eq_true rfl) dX0_addToBlock_6 ⟨Nat.zero_le _, Nat.zero_le _⟩ (fun r6 ho => ?_)
  refine lv_icmp_le (tgt := 30) hx hb dX0_addToBlock_9 (by decide) (fun c_9 => ?_) (fun c_9 => ?_)
  · replace ho := ho.1 c_9
    exact C_30 ceG_r ceV_r H locs ls ho hP hD hS (lv_sub hl [0, 1, 2] rfl)
  · replace ho := ho.2 c_9
    refine lv_aload_n hx hb dX0_addToBlock_12 rfl (lv_at hl 0 rfl) ?_
    refine va_get (D := D) (ci := 0) (v := .ref a_ceG) (C := RX0) (T := TX0) (N := 7) hx hb hts inlX0 hown hK hP 0 rfl rfl 5 (by decide) (hts _ wl_74) (fun _ h9 => h9) rfl dX0_addToBlock_13 ?_
    refine lv_iload_n hx hb dX0_addToBlock_16 rfl (lv_at hl 1 rfl) ?_
    refine lv_iload_n hx hb dX0_addToBlock_17 rfl (lv_at hl 2 rfl) ?_
    refine ca_Tv (As := [.ref a_ceG, .int p1, .int p2]) (rest := []) (wr := [(a_ce, oX0 a_fl a_va a_ceT a_ceS a_ceH a_ceG a_ceV), (a_ceV, .inl (cI, 320, .inl ceV_r))]) (wo := fun (u : (Nat → Int32)) => [(a_ceG, .inl (cI, 320, .inl u))]) (wn := fun (u : (Nat → Int32)) => [(a_ce, oX0 a_fl a_va a_ceT a_ceS a_ceH a_ceG a_ceV), (a_ceG, .inl (cI, 320, .inl u)), (a_ceV, .inl (cI, 320, .inl ceV_r))]) ⟨hx, hb, hml, hown, hts⟩ (c_X4_put l D cI cJ cZ a_ceG H.size 320 ceG_r p1 p2 _ _ rfl ho) (va_cwS 3 hts (gdS wl_547 wl_140 wl_134 wl_141) rfl rfl rfl (by decide +kernel) ⟨hRf _ (Nat.le_of_ble_eq_true rfl), hRl _ (Nat.le_of_ble_eq_true rfl)⟩) hK hN hP hD hS hA [1] [0, 2] [0, 2, 1] rfl rfl (by decide) (by decide) (by decide) (by decide) (fun _ => rfl) rfl hl.1 rfl (Nat.le_of_ble_eq_true rfl) dX0_addToBlock_18 ⟨Nat.zero_le _, Nat.zero_le _⟩ (fun  u18 H locs ho hP hD hS => ?_)
    try dsimp only at ho
    replace hP : va_P D vwCl [(a_ce, oX0 a_fl a_va a_ceT a_ceS a_ceH a_ceG a_ceV), (a_ceG, .inl (cI, 320, .inl u18)), (a_ceV, .inl (cI, 320, .inl ceV_r))] H := hP
    replace hD : va_D A [(a_ce, oX0 a_fl a_va a_ceT a_ceS a_ceH a_ceG a_ceV), (a_ceG, .inl (cI, 320, .inl u18)), (a_ceV, .inl (cI, 320, .inl ceV_r))] := hD
    refine lv_aload_n hx hb dX0_addToBlock_21 rfl (lv_at hl 0 rfl) ?_
    refine va_get (D := D) (ci := 0) (v := .ref a_ceV) (C := RX0) (T := TX0) (N := 7) hx hb hts inlX0 hown hK hP 0 rfl rfl 6 (by decide) (hts _ wl_75) (fun _ h9 => h9) rfl dX0_addToBlock_22 ?_
    refine lv_iload_n hx hb dX0_addToBlock_25 rfl (lv_at hl 1 rfl) ?_
    refine lv_iconst (v := 0) hx hb dX0_addToBlock_26 (by decide) ?_
    refine ca_Tv (As := [.ref a_ceV, .int p1, .int (0 : Int32)]) (rest := []) (wr := [(a_ce, oX0 a_fl a_va a_ceT a_ceS a_ceH a_ceG a_ceV), (a_ceG, .inl (cI, 320, .inl u18))]) (wo := fun (u : (Nat → Int32)) => [(a_ceV, .inl (cI, 320, .inl u))]) (wn := fun (u : (Nat → Int32)) => [(a_ce, oX0 a_fl a_va a_ceT a_ceS a_ceH a_ceG a_ceV), (a_ceG, .inl (cI, 320, .inl u18)), (a_ceV, .inl (cI, 320, .inl u))]) ⟨hx, hb, hml, hown, hts⟩ (c_X4_put l D cI cJ cZ a_ceV H.size 320 ceV_r p1 (0 : Int32) _ _ rfl ho) (va_cwS 3 hts (gdS wl_547 wl_140 wl_134 wl_141) rfl rfl rfl (by decide +kernel) ⟨hRf _ (Nat.le_of_ble_eq_true rfl), hRl _ (Nat.le_of_ble_eq_true rfl)⟩) hK hN hP hD hS hA [2] [0, 1] [0, 1, 2] rfl rfl (by decide) (by decide) (by decide) (by decide) (fun _ => rfl) rfl hl.1 rfl (Nat.le_of_ble_eq_true rfl) dX0_addToBlock_27 ⟨Nat.zero_le _, Nat.zero_le _⟩ (fun  u27 H locs ho hP hD hS => ?_)
    try dsimp only at ho
    replace hP : va_P D vwCl [(a_ce, oX0 a_fl a_va a_ceT a_ceS a_ceH a_ceG a_ceV), (a_ceG, .inl (cI, 320, .inl u18)), (a_ceV, .inl (cI, 320, .inl u27))] H := hP
    replace hD : va_D A [(a_ce, oX0 a_fl a_va a_ceT a_ceS a_ceH a_ceG a_ceV), (a_ceG, .inl (cI, 320, .inl u18)), (a_ceV, .inl (cI, 320, .inl u27))] := hD
    exact C_30 u18 u27 H locs ls ho hP hD hS (lv_sub hl [0, 1, 2] rfl)

def w_X0_take : List Cond := .code yX0_take cX0_take 4 none :: wsL_law
set_option maxHeartbeats 4000000 in
set_option maxRecDepth 100000 in
theorem c_X0_take (l : Launch) (D : va_G) (cI cJ cZ : ClassId) (a_fl : Nat) (a_va : Nat) (a_p2 : Nat) (a_ce : Nat) (a_ceT : Nat) (a_ceS : Nat) (a_ceH : Nat) (a_ceG : Nat) (a_ceV : Nat) (sz : Nat) (fl_e : Int32) (fl_f : Int32) (fl_bias : Int32) (fl_codes : Int32) (fl_signBit : Int32) (fl_endless : Int32) (va_m : Int64) (va_x : Int32) (va_more : Int32) (va_laid : Int32) (va_below : Int32) (va_settled : Int32) (va_sort : Int32) (p2_lower : Int32) (p2_way : Int32) (p2_more : Int32) (p2_beyond : Int32) (ceT_r : Nat → Int32) (ceS_r : Nat → Int32) (ceH_r : Nat → Int32) (ceG_r : Nat → Int32) (ceV_r : Nat → Int32) (p1 : Int32) (post : Int64 → Int32 → Int32 → Int32 → Int32 → Int32 → Int32 → Int32 → Int32 → Int32 → Int32 → (Nat → Int32) → (Nat → Int32) → (Nat → Int32) → (Nat → Int32) → (Nat → Int32) → Prop) (A : Nat → Prop) (hAe : A = va_A [(a_fl, oX1 fl_e fl_f fl_bias fl_codes fl_signBit fl_endless), (a_va, oX6 a_fl a_p2 va_m va_x va_more va_laid va_below va_settled va_sort), (a_p2, oX3 a_fl p2_lower p2_way p2_more p2_beyond), (a_ce, oX0 a_fl a_va a_ceT a_ceS a_ceH a_ceG a_ceV), (a_ceT, .inl (cI, 5, .inl ceT_r)), (a_ceS, .inl (cI, 20, .inl ceS_r)), (a_ceH, .inl (cI, 50, .inl ceH_r)), (a_ceG, .inl (cI, 320, .inl ceG_r)), (a_ceV, .inl (cI, 320, .inl ceV_r))] sz) (ho : wp_X0_take post fl_f fl_bias fl_codes fl_signBit fl_endless va_m va_x va_more va_laid va_below va_settled va_sort p2_lower p2_way p2_more p2_beyond ceT_r ceS_r ceH_r ceG_r ceV_r p1) : Met l yX0_take w_X0_take ({ frames := 4, cells := 0, slots := 0, locals := 103 } : Room) (rw_P D [(cI, .int), (cJ, .long), (cZ, .boolean)] [.ref a_ce, .int p1] sz [(a_fl, oX1 fl_e fl_f fl_bias fl_codes fl_signBit fl_endless), (a_va, oX6 a_fl a_p2 va_m va_x va_more va_laid va_below va_settled va_sort), (a_p2, oX3 a_fl p2_lower p2_way p2_more p2_beyond), (a_ce, oX0 a_fl a_va a_ceT a_ceS a_ceH a_ceG a_ceV), (a_ceT, .inl (cI, 5, .inl ceT_r)), (a_ceS, .inl (cI, 20, .inl ceS_r)), (a_ceH, .inl (cI, 50, .inl ceH_r)), (a_ceG, .inl (cI, 320, .inl ceG_r)), (a_ceV, .inl (cI, 320, .inl ceV_r))]) (va_Qv (fun (u : (Int64) × (Int32) × (Int32) × (Int32) × (Int32) × (Int32) × (Int32) × (Int32) × (Int32) × (Int32) × (Int32) × (Nat → Int32) × (Nat → Int32) × (Nat → Int32) × (Nat → Int32) × (Nat → Int32)) => post u.1 u.2.1 u.2.2.1 u.2.2.2.1 u.2.2.2.2.1 u.2.2.2.2.2.1 u.2.2.2.2.2.2.1 u.2.2.2.2.2.2.2.1 u.2.2.2.2.2.2.2.2.1 u.2.2.2.2.2.2.2.2.2.1 u.2.2.2.2.2.2.2.2.2.2.1 u.2.2.2.2.2.2.2.2.2.2.2.1 u.2.2.2.2.2.2.2.2.2.2.2.2.1 u.2.2.2.2.2.2.2.2.2.2.2.2.2.1 u.2.2.2.2.2.2.2.2.2.2.2.2.2.2.1 u.2.2.2.2.2.2.2.2.2.2.2.2.2.2.2) (rw_B D A (fun (u : (Int64) × (Int32) × (Int32) × (Int32) × (Int32) × (Int32) × (Int32) × (Int32) × (Int32) × (Int32) × (Int32) × (Nat → Int32) × (Nat → Int32) × (Nat → Int32) × (Nat → Int32) × (Nat → Int32)) => [(a_fl, oX1 fl_e fl_f fl_bias fl_codes fl_signBit fl_endless), (a_va, oX6 a_fl a_p2 u.1 u.2.1 u.2.2.1 u.2.2.2.1 u.2.2.2.2.1 u.2.2.2.2.2.1 u.2.2.2.2.2.2.1), (a_p2, oX3 a_fl u.2.2.2.2.2.2.2.1 u.2.2.2.2.2.2.2.2.1 u.2.2.2.2.2.2.2.2.2.1 u.2.2.2.2.2.2.2.2.2.2.1), (a_ce, oX0 a_fl a_va a_ceT a_ceS a_ceH a_ceG a_ceV), (a_ceT, .inl (cI, 5, .inl u.2.2.2.2.2.2.2.2.2.2.2.1)), (a_ceS, .inl (cI, 20, .inl u.2.2.2.2.2.2.2.2.2.2.2.2.1)), (a_ceH, .inl (cI, 50, .inl u.2.2.2.2.2.2.2.2.2.2.2.2.2.1)), (a_ceG, .inl (cI, 320, .inl u.2.2.2.2.2.2.2.2.2.2.2.2.2.2.1)), (a_ceV, .inl (cI, 320, .inl u.2.2.2.2.2.2.2.2.2.2.2.2.2.2.2))])) A) 0 0 A := by
  refine Met.ofW (cc := cX0_take) (maxL := 4) (ret := none) (by decide) rfl ?_
  intro p e s m args below meth c s₁ B hml hv
  obtain ⟨hargs, hsz, hP, hK, hN, hD0⟩ := hv
  have hx := B.exec
  have hb := B.bytes
  have hr := B.returns
  have hts : ∀ w ∈ wsL_law, w.before args s = true := fun w h => atoms_spec (ws := w_X0_take) B.pre w (List.mem_cons_of_mem _ h)
  have hown : s.vm.findClass RX0 = some m.cls := findClass_of_methodNamed B.named
  have hlocks := B.notSynchronized
  subst hsz
  have hD : va_D A [(a_fl, oX1 fl_e fl_f fl_bias fl_codes fl_signBit fl_endless), (a_va, oX6 a_fl a_p2 va_m va_x va_more va_laid va_below va_settled va_sort), (a_p2, oX3 a_fl p2_lower p2_way p2_more p2_beyond), (a_ce, oX0 a_fl a_va a_ceT a_ceS a_ceH a_ceG a_ceV), (a_ceT, .inl (cI, 5, .inl ceT_r)), (a_ceS, .inl (cI, 20, .inl ceS_r)), (a_ceH, .inl (cI, 50, .inl ceH_r)), (a_ceG, .inl (cI, 320, .inl ceG_r)), (a_ceV, .inl (cI, 320, .inl ceV_r))] := by rw [hAe]; exact hD0.self
  have hA : ∀ q : Nat, s.heap.size ≤ q → A q := fun q h => by rw [hAe]; exact Or.inr h
  have hS : va_S A s.heap s.heap [] := va_S.rf
  have hl := lv_entry ([.ref a_ce, .int p1]) (n := 4) (Nat.le_of_ble_eq_true rfl)
  rw [hargs, lg_entry_eq, ← hargs]
  generalize (lg_sl ([.ref a_ce, .int p1]) ++ List.replicate (4 - (lg_sl ([.ref a_ce, .int p1])).length) Slot.unset).toArray = ls at hl ⊢
  replace hl : lv_has ls 4 [(0, .ref a_ce), (1, .int p1)] := hl
  have hRf : ∀ n, n ≤ 4 → n ≤ (headSpec w_X0_take ({ frames := 4, cells := 0, slots := 0, locals := 103 } : Room)).room.frames := fun n h => h
  have hRl : ∀ n, n ≤ 103 → n ≤ (headSpec w_X0_take ({ frames := 4, cells := 0, slots := 0, locals := 103 } : Room)).room.locals := fun n h => h
  generalize (headSpec w_X0_take ({ frames := 4, cells := 0, slots := 0, locals := 103 } : Room)).room = R at hRf hRl ⊢
  generalize hQ : MQ below _ args s 0 0 _ = Q
  have C_23 : ∀ n : Nat, ∀ (va_m : Int64) (va_x : Int32) (va_more : Int32) (va_laid : Int32) (va_below : Int32) (va_settled : Int32) (va_sort : Int32) (p2_lower : Int32) (p2_way : Int32) (p2_more : Int32) (p2_beyond : Int32) (ceT_r : Nat → Int32) (ceS_r : Nat → Int32) (ceH_r : Nat → Int32) (ceG_r : Nat → Int32) (ceV_r : Nat → Int32) (x2 : Int32) (H : Heap) (locs : List Loc) (ls : Array Slot), wp_X0_take_23 post  fl_f fl_bias fl_codes fl_signBit fl_endless p1 n va_m va_x va_more va_laid va_below va_settled va_sort p2_lower p2_way p2_more p2_beyond ceT_r ceS_r ceH_r ceG_r ceV_r x2 → va_P D vwCl [(a_fl, oX1 fl_e fl_f fl_bias fl_codes fl_signBit fl_endless), (a_va, oX6 a_fl a_p2 va_m va_x va_more va_laid va_below va_settled va_sort), (a_p2, oX3 a_fl p2_lower p2_way p2_more p2_beyond), (a_ce, oX0 a_fl a_va a_ceT a_ceS a_ceH a_ceG a_ceV), (a_ceT, .inl (cI, 5, .inl ceT_r)), (a_ceS, .inl (cI, 20, .inl ceS_r)), (a_ceH, .inl (cI, 50, .inl ceH_r)), (a_ceG, .inl (cI, 320, .inl ceG_r)), (a_ceV, .inl (cI, 320, .inl ceV_r))] H → va_D A [(a_fl, oX1 fl_e fl_f fl_bias fl_codes fl_signBit fl_endless), (a_va, oX6 a_fl a_p2 va_m va_x va_more va_laid va_below va_settled va_sort), (a_p2, oX3 a_fl p2_lower p2_way p2_more p2_beyond), (a_ce, oX0 a_fl a_va a_ceT a_ceS a_ceH a_ceG a_ceV), (a_ceT, .inl (cI, 5, .inl ceT_r)), (a_ceS, .inl (cI, 20, .inl ceS_r)), (a_ceH, .inl (cI, 50, .inl ceH_r)), (a_ceG, .inl (cI, 320, .inl ceG_r)), (a_ceV, .inl (cI, 320, .inl ceV_r))] → va_S A s.heap H locs → lv_has ls 4 [(0, .ref a_ce), (1, .int p1), (2, .int x2)] → W p l e R s m args below meth c H locs 0 0 Q (F0 m 23 ls []) := by
    intro n
    induction n with
    | zero => intro va_m va_x va_more va_laid va_below va_settled va_sort p2_lower p2_way p2_more p2_beyond ceT_r ceS_r ceH_r ceG_r ceV_r x2 H locs ls ho hP hD hS hl; exact ho.elim
    | succ n_23 ih_23 =>
      intro va_m va_x va_more va_laid va_below va_settled va_sort p2_lower p2_way p2_more p2_beyond ceT_r ceS_r ceH_r ceG_r ceV_r x2 H locs ls ho hP hD hS hl
      replace ho : wp_X0_take_23_b post fl_f fl_bias fl_codes fl_signBit fl_endless p1 (wp_X0_take_23 post fl_f fl_bias fl_codes fl_signBit fl_endless p1 n_23) va_m va_x va_more va_laid va_below va_settled va_sort p2_lower p2_way p2_more p2_beyond ceT_r ceS_r ceH_r ceG_r ceV_r x2 := ho
      unfold wp_X0_take_23_b at ho
      refine lv_iload_n hx hb dX0_take_23 rfl (lv_at hl 2 rfl) ?_
      refine lv_aload_n hx hb dX0_take_24 rfl (lv_at hl 0 rfl) ?_
      refine va_get (D := D) (ci := 0) (v := .ref a_fl) (C := RX0) (T := TX0) (N := 7) hx hb hts inlX0 hown hK hP 3 rfl rfl 0 (by decide) (hts _ wl_69) (fun _ h9 => h9) rfl dX0_take_25 ?_
      refine va_getN (D := D) (ci := 1) (v := .int fl_codes) (C := RX1) (T := TX1) (N := 6) hx hb hts inlX1 hown hK hP 0 rfl rfl 3 (by decide) hN.fRX0_51 (fun _ h9 => h9) rfl dX0_take_28 ?_
      refine lv_icmp_ge (tgt := 102) hx hb dX0_take_31 (by decide) (fun c_31 => ?_) (fun c_31 => ?_)
      · replace ho := ho.1 c_31
        subst hQ; exact W.vret hx hb hr (fun t ht hW => ⟨⟨(va_m, va_x, va_more, va_laid, va_below, va_settled, va_sort, p2_lower, p2_way, p2_more, p2_beyond, ceT_r, ceS_r, ceH_r, ceG_r, ceV_r), rfl, ho, by rw [ht]; exact hP, hD⟩, hS.F ht⟩) (fun q hq => hS.2.2 q hq) dX0_take_102
      · replace ho := ho.2 c_31
        refine lv_aload_n hx hb dX0_take_34 rfl (lv_at hl 0 rfl) ?_
        refine va_get (D := D) (ci := 0) (v := .ref a_va) (C := RX0) (T := TX0) (N := 7) hx hb hts inlX0 hown hK hP 3 rfl rfl 1 (by decide) (hts _ wl_70) (fun _ h9 => h9) rfl dX0_take_35 ?_
        refine lv_iload_n hx hb dX0_take_38 rfl (lv_at hl 1 rfl) ?_
        refine lv_iload_n hx hb dX0_take_39 rfl (lv_at hl 2 rfl) ?_
        refine ca_Wv (b := a_va) (As := [.int p1, .int x2]) (rest := []) (wr := [(a_ce, oX0 a_fl a_va a_ceT a_ceS a_ceH a_ceG a_ceV), (a_ceT, .inl (cI, 5, .inl ceT_r)), (a_ceS, .inl (cI, 20, .inl ceS_r)), (a_ceH, .inl (cI, 50, .inl ceH_r)), (a_ceG, .inl (cI, 320, .inl ceG_r)), (a_ceV, .inl (cI, 320, .inl ceV_r))]) (wo := fun (u : (Int64) × (Int32) × (Int32) × (Int32) × (Int32) × (Int32) × (Int32) × (Int32) × (Int32) × (Int32) × (Int32)) => [(a_fl, oX1 fl_e fl_f fl_bias fl_codes fl_signBit fl_endless), (a_va, oX6 a_fl a_p2 u.1 u.2.1 u.2.2.1 u.2.2.2.1 u.2.2.2.2.1 u.2.2.2.2.2.1 u.2.2.2.2.2.2.1), (a_p2, oX3 a_fl u.2.2.2.2.2.2.2.1 u.2.2.2.2.2.2.2.2.1 u.2.2.2.2.2.2.2.2.2.1 u.2.2.2.2.2.2.2.2.2.2)]) (wn := fun (u : (Int64) × (Int32) × (Int32) × (Int32) × (Int32) × (Int32) × (Int32) × (Int32) × (Int32) × (Int32) × (Int32)) => [(a_fl, oX1 fl_e fl_f fl_bias fl_codes fl_signBit fl_endless), (a_va, oX6 a_fl a_p2 u.1 u.2.1 u.2.2.1 u.2.2.2.1 u.2.2.2.2.1 u.2.2.2.2.2.1 u.2.2.2.2.2.2.1), (a_p2, oX3 a_fl u.2.2.2.2.2.2.2.1 u.2.2.2.2.2.2.2.2.1 u.2.2.2.2.2.2.2.2.2.1 u.2.2.2.2.2.2.2.2.2.2), (a_ce, oX0 a_fl a_va a_ceT a_ceS a_ceH a_ceG a_ceV), (a_ceT, .inl (cI, 5, .inl ceT_r)), (a_ceS, .inl (cI, 20, .inl ceS_r)), (a_ceH, .inl (cI, 50, .inl ceH_r)), (a_ceG, .inl (cI, 320, .inl ceG_r)), (a_ceV, .inl (cI, 320, .inl ceV_r))]) ⟨hx, hb, hml, hown, hts⟩ (c_X6_read l D cI cJ cZ a_fl a_va a_p2 H.size fl_e fl_f fl_bias fl_codes fl_signBit fl_endless va_m va_x va_more va_laid va_below va_settled va_sort p2_lower p2_way p2_more p2_beyond p1 x2 _ _ rfl ho) (cwV 2 hts (gdV wl_548 wl_412 wl_413 wl_22 wl_414) rfl rfl rfl (by decide +kernel) ⟨hRf _ (Nat.le_of_ble_eq_true rfl), hRl _ (Nat.le_of_ble_eq_true rfl)⟩) hK hN hP hD hS hA [0, 1, 2] [3, 4, 5, 6, 7, 8] [6, 7, 8, 0, 1, 2, 3, 4, 5] rfl rfl (by decide) (by decide) (by decide) (by decide) (fun _ => rfl) 1 5 rfl rfl rfl rfl hl.1 rfl (Nat.le_of_ble_eq_true rfl) dX0_take_40 ⟨Nat.zero_le _, Nat.zero_le _⟩ (fun  u40 H locs ho hP hD hS => ?_)
        obtain ⟨u40_1, u40_2, u40_3, u40_4, u40_5, u40_6, u40_7, u40_8, u40_9, u40_10, u40_11⟩ := u40
        try dsimp only at ho
        replace hP : va_P D vwCl [(a_fl, oX1 fl_e fl_f fl_bias fl_codes fl_signBit fl_endless), (a_va, oX6 a_fl a_p2 u40_1 u40_2 u40_3 u40_4 u40_5 u40_6 u40_7), (a_p2, oX3 a_fl u40_8 u40_9 u40_10 u40_11), (a_ce, oX0 a_fl a_va a_ceT a_ceS a_ceH a_ceG a_ceV), (a_ceT, .inl (cI, 5, .inl ceT_r)), (a_ceS, .inl (cI, 20, .inl ceS_r)), (a_ceH, .inl (cI, 50, .inl ceH_r)), (a_ceG, .inl (cI, 320, .inl ceG_r)), (a_ceV, .inl (cI, 320, .inl ceV_r))] H := hP
        replace hD : va_D A [(a_fl, oX1 fl_e fl_f fl_bias fl_codes fl_signBit fl_endless), (a_va, oX6 a_fl a_p2 u40_1 u40_2 u40_3 u40_4 u40_5 u40_6 u40_7), (a_p2, oX3 a_fl u40_8 u40_9 u40_10 u40_11), (a_ce, oX0 a_fl a_va a_ceT a_ceS a_ceH a_ceG a_ceV), (a_ceT, .inl (cI, 5, .inl ceT_r)), (a_ceS, .inl (cI, 20, .inl ceS_r)), (a_ceH, .inl (cI, 50, .inl ceH_r)), (a_ceG, .inl (cI, 320, .inl ceG_r)), (a_ceV, .inl (cI, 320, .inl ceV_r))] := hD
        refine lv_aload_n hx hb dX0_take_43 rfl (lv_at hl 0 rfl) ?_
        refine va_get (D := D) (ci := 0) (v := .ref a_va) (C := RX0) (T := TX0) (N := 7) hx hb hts inlX0 hown hK hP 3 rfl rfl 1 (by decide) (hts _ wl_70) (fun _ h9 => h9) rfl dX0_take_44 ?_
        refine ca_Vi (b := a_va) (As := []) (rest := []) ⟨hx, hb, hml, hown, hts⟩ (c_X6_hardnessRead l D cI cJ cZ a_fl a_va a_p2 fl_e fl_f fl_bias fl_codes fl_signBit fl_endless u40_1 u40_2 u40_3 u40_4 u40_5 u40_6 u40_7 u40_8 u40_9 u40_10 u40_11  _ ho) (cwV 0 hts (gdV wl_549 wl_526 wl_527 wl_22 wl_528) rfl rfl rfl (by decide +kernel) ⟨hRf _ (Nat.le_of_ble_eq_true rfl), hRl _ (Nat.le_of_ble_eq_true rfl)⟩) hK hN hP [0, 1, 2] rfl 1 5 rfl rfl rfl rfl hl.1 rfl (Nat.le_of_ble_eq_true rfl) dX0_take_47 ⟨Nat.zero_le _, Nat.zero_le _⟩ (fun r47 ho => ?_)
        refine lv_istore_n (lv' := [(3, .int r47), (0, .ref a_ce), (1, .int p1), (2, .int x2)]) hx hb dX0_take_50 rfl hl (by decide) rfl (fun ls hl => ?_)
        refine lv_aload_n hx hb dX0_take_51 rfl (lv_at hl 1 rfl) ?_
        refine va_get (D := D) (ci := 0) (v := .ref a_ceS) (C := RX0) (T := TX0) (N := 7) hx hb hts inlX0 hown hK hP 3 rfl rfl 3 (by decide) (hts _ wl_72) (fun _ h9 => h9) rfl dX0_take_52 ?_
        refine lv_iload_n hx hb dX0_take_55 rfl (lv_at hl 2 rfl) ?_
        refine lv_iconst (v := 4) hx hb dX0_take_56 (by decide) ?_
        refine lv_imul hx hb dX0_take_57 ?_
        refine lv_aload_n hx hb dX0_take_58 rfl (lv_at hl 1 rfl) ?_
        refine va_get (D := D) (ci := 0) (v := .ref a_va) (C := RX0) (T := TX0) (N := 7) hx hb hts inlX0 hown hK hP 3 rfl rfl 1 (by decide) (hts _ wl_70) (fun _ h9 => h9) rfl dX0_take_59 ?_
        refine ca_Vi (b := a_va) (As := []) (rest := [.int (p1 * (4 : Int32)), .ref a_ceS]) ⟨hx, hb, hml, hown, hts⟩ (c_X6_sortRead l D cI cJ cZ a_fl a_va a_p2 u40_1 u40_2 u40_3 u40_4 u40_5 u40_6 u40_7  _ ho) (cwV 0 hts (gdV wl_550 wl_490 wl_491 wl_22 wl_492) rfl rfl rfl (by decide +kernel) ⟨hRf _ (Nat.le_of_ble_eq_true rfl), hRl _ (Nat.le_of_ble_eq_true rfl)⟩) hK hN hP [1] rfl 0 5 rfl rfl rfl rfl hl.1 rfl (Nat.le_of_ble_eq_true rfl) dX0_take_62 ⟨Nat.zero_le _, Nat.zero_le _⟩ (fun r62 ho => ?_)
        refine lv_iadd hx hb dX0_take_65 ?_
        refine ca_Tv (As := [.ref a_ceS, .int ((p1 * (4 : Int32)) + r62)]) (rest := []) (wr := [(a_fl, oX1 fl_e fl_f fl_bias fl_codes fl_signBit fl_endless), (a_va, oX6 a_fl a_p2 u40_1 u40_2 u40_3 u40_4 u40_5 u40_6 u40_7), (a_p2, oX3 a_fl u40_8 u40_9 u40_10 u40_11), (a_ce, oX0 a_fl a_va a_ceT a_ceS a_ceH a_ceG a_ceV), (a_ceT, .inl (cI, 5, .inl ceT_r)), (a_ceH, .inl (cI, 50, .inl ceH_r)), (a_ceG, .inl (cI, 320, .inl ceG_r)), (a_ceV, .inl (cI, 320, .inl ceV_r))]) (wo := fun (u : (Nat → Int32)) => [(a_ceS, .inl (cI, 20, .inl u))]) (wn := fun (u : (Nat → Int32)) => [(a_fl, oX1 fl_e fl_f fl_bias fl_codes fl_signBit fl_endless), (a_va, oX6 a_fl a_p2 u40_1 u40_2 u40_3 u40_4 u40_5 u40_6 u40_7), (a_p2, oX3 a_fl u40_8 u40_9 u40_10 u40_11), (a_ce, oX0 a_fl a_va a_ceT a_ceS a_ceH a_ceG a_ceV), (a_ceT, .inl (cI, 5, .inl ceT_r)), (a_ceS, .inl (cI, 20, .inl u)), (a_ceH, .inl (cI, 50, .inl ceH_r)), (a_ceG, .inl (cI, 320, .inl ceG_r)), (a_ceV, .inl (cI, 320, .inl ceV_r))]) ⟨hx, hb, hml, hown, hts⟩ (c_X4_addOne l D cI cJ cZ a_ceS H.size 20 ceS_r ((p1 * (4 : Int32)) + r62) _ _ rfl ho) (va_cwS 2 hts (gdS wl_551 wl_133 wl_134 wl_135) rfl rfl rfl (by decide +kernel) ⟨hRf _ (Nat.le_of_ble_eq_true rfl), hRl _ (Nat.le_of_ble_eq_true rfl)⟩) hK hN hP hD hS hA [5] [0, 1, 2, 3, 4, 6, 7, 8] [0, 1, 2, 3, 4, 8, 5, 6, 7] rfl rfl (by decide) (by decide) (by decide) (by decide) (fun _ => rfl) rfl hl.1 rfl (Nat.le_of_ble_eq_true rfl) dX0_take_66 ⟨Nat.zero_le _, Nat.zero_le _⟩ (fun  u66 H locs ho hP hD hS => ?_)
        try dsimp only at ho
        replace hP : va_P D vwCl [(a_fl, oX1 fl_e fl_f fl_bias fl_codes fl_signBit fl_endless), (a_va, oX6 a_fl a_p2 u40_1 u40_2 u40_3 u40_4 u40_5 u40_6 u40_7), (a_p2, oX3 a_fl u40_8 u40_9 u40_10 u40_11), (a_ce, oX0 a_fl a_va a_ceT a_ceS a_ceH a_ceG a_ceV), (a_ceT, .inl (cI, 5, .inl ceT_r)), (a_ceS, .inl (cI, 20, .inl u66)), (a_ceH, .inl (cI, 50, .inl ceH_r)), (a_ceG, .inl (cI, 320, .inl ceG_r)), (a_ceV, .inl (cI, 320, .inl ceV_r))] H := hP
        replace hD : va_D A [(a_fl, oX1 fl_e fl_f fl_bias fl_codes fl_signBit fl_endless), (a_va, oX6 a_fl a_p2 u40_1 u40_2 u40_3 u40_4 u40_5 u40_6 u40_7), (a_p2, oX3 a_fl u40_8 u40_9 u40_10 u40_11), (a_ce, oX0 a_fl a_va a_ceT a_ceS a_ceH a_ceG a_ceV), (a_ceT, .inl (cI, 5, .inl ceT_r)), (a_ceS, .inl (cI, 20, .inl u66)), (a_ceH, .inl (cI, 50, .inl ceH_r)), (a_ceG, .inl (cI, 320, .inl ceG_r)), (a_ceV, .inl (cI, 320, .inl ceV_r))] := hD
        refine lv_aload_n hx hb dX0_take_69 rfl (lv_at hl 1 rfl) ?_
        refine va_get (D := D) (ci := 0) (v := .ref a_ceH) (C := RX0) (T := TX0) (N := 7) hx hb hts inlX0 hown hK hP 3 rfl rfl 4 (by decide) (hts _ wl_73) (fun _ h9 => h9) rfl dX0_take_70 ?_
        refine lv_iload_n hx hb dX0_take_73 rfl (lv_at hl 2 rfl) ?_
        refine lv_bipush (v := 10) hx hb dX0_take_74 (by decide) ?_
        refine lv_imul hx hb dX0_take_76 ?_
        refine lv_iload_n hx hb dX0_take_77 rfl (lv_at hl 0 rfl) ?_
        refine lv_iadd hx hb dX0_take_78 ?_
        refine ca_Tv (As := [.ref a_ceH, .int ((p1 * (10 : Int32)) + r47)]) (rest := []) (wr := [(a_fl, oX1 fl_e fl_f fl_bias fl_codes fl_signBit fl_endless), (a_va, oX6 a_fl a_p2 u40_1 u40_2 u40_3 u40_4 u40_5 u40_6 u40_7), (a_p2, oX3 a_fl u40_8 u40_9 u40_10 u40_11), (a_ce, oX0 a_fl a_va a_ceT a_ceS a_ceH a_ceG a_ceV), (a_ceT, .inl (cI, 5, .inl ceT_r)), (a_ceS, .inl (cI, 20, .inl u66)), (a_ceG, .inl (cI, 320, .inl ceG_r)), (a_ceV, .inl (cI, 320, .inl ceV_r))]) (wo := fun (u : (Nat → Int32)) => [(a_ceH, .inl (cI, 50, .inl u))]) (wn := fun (u : (Nat → Int32)) => [(a_fl, oX1 fl_e fl_f fl_bias fl_codes fl_signBit fl_endless), (a_va, oX6 a_fl a_p2 u40_1 u40_2 u40_3 u40_4 u40_5 u40_6 u40_7), (a_p2, oX3 a_fl u40_8 u40_9 u40_10 u40_11), (a_ce, oX0 a_fl a_va a_ceT a_ceS a_ceH a_ceG a_ceV), (a_ceT, .inl (cI, 5, .inl ceT_r)), (a_ceS, .inl (cI, 20, .inl u66)), (a_ceH, .inl (cI, 50, .inl u)), (a_ceG, .inl (cI, 320, .inl ceG_r)), (a_ceV, .inl (cI, 320, .inl ceV_r))]) ⟨hx, hb, hml, hown, hts⟩ (c_X4_addOne l D cI cJ cZ a_ceH H.size 50 ceH_r ((p1 * (10 : Int32)) + r47) _ _ rfl ho) (va_cwS 2 hts (gdS wl_551 wl_133 wl_134 wl_135) rfl rfl rfl (by decide +kernel) ⟨hRf _ (Nat.le_of_ble_eq_true rfl), hRl _ (Nat.le_of_ble_eq_true rfl)⟩) hK hN hP hD hS hA [6] [0, 1, 2, 3, 4, 5, 7, 8] [0, 1, 2, 3, 4, 5, 8, 6, 7] rfl rfl (by decide) (by decide) (by decide) (by decide) (fun _ => rfl) rfl hl.1 rfl (Nat.le_of_ble_eq_true rfl) dX0_take_79 ⟨Nat.zero_le _, Nat.zero_le _⟩ (fun  u79 H locs ho hP hD hS => ?_)
        try dsimp only at ho
        replace hP : va_P D vwCl [(a_fl, oX1 fl_e fl_f fl_bias fl_codes fl_signBit fl_endless), (a_va, oX6 a_fl a_p2 u40_1 u40_2 u40_3 u40_4 u40_5 u40_6 u40_7), (a_p2, oX3 a_fl u40_8 u40_9 u40_10 u40_11), (a_ce, oX0 a_fl a_va a_ceT a_ceS a_ceH a_ceG a_ceV), (a_ceT, .inl (cI, 5, .inl ceT_r)), (a_ceS, .inl (cI, 20, .inl u66)), (a_ceH, .inl (cI, 50, .inl u79)), (a_ceG, .inl (cI, 320, .inl ceG_r)), (a_ceV, .inl (cI, 320, .inl ceV_r))] H := hP
        replace hD : va_D A [(a_fl, oX1 fl_e fl_f fl_bias fl_codes fl_signBit fl_endless), (a_va, oX6 a_fl a_p2 u40_1 u40_2 u40_3 u40_4 u40_5 u40_6 u40_7), (a_p2, oX3 a_fl u40_8 u40_9 u40_10 u40_11), (a_ce, oX0 a_fl a_va a_ceT a_ceS a_ceH a_ceG a_ceV), (a_ceT, .inl (cI, 5, .inl ceT_r)), (a_ceS, .inl (cI, 20, .inl u66)), (a_ceH, .inl (cI, 50, .inl u79)), (a_ceG, .inl (cI, 320, .inl ceG_r)), (a_ceV, .inl (cI, 320, .inl ceV_r))] := hD
        refine lv_aload_n hx hb dX0_take_82 rfl (lv_at hl 1 rfl) ?_
        refine lv_iload_n hx hb dX0_take_83 rfl (lv_at hl 2 rfl) ?_
        refine lv_bipush (v := 64) hx hb dX0_take_84 (by decide) ?_
        refine lv_imul hx hb dX0_take_86 ?_
        refine lv_iload_n hx hb dX0_take_87 rfl (lv_at hl 3 rfl) ?_
        refine lv_bipush (v := 8) hx hb dX0_take_88 (by decide) ?_
        refine lv_ishr hx hb dX0_take_90 ?_
        refine lv_iadd hx hb dX0_take_91 ?_
        refine lv_iload_n hx hb dX0_take_92 rfl (lv_at hl 0 rfl) ?_
        refine ca_Wv (b := a_ce) (As := [.int ((p1 * (64 : Int32)) + (x2 >>> ((8 : Int32) &&& 31))), .int r47]) (rest := []) (wr := [(a_fl, oX1 fl_e fl_f fl_bias fl_codes fl_signBit fl_endless), (a_va, oX6 a_fl a_p2 u40_1 u40_2 u40_3 u40_4 u40_5 u40_6 u40_7), (a_p2, oX3 a_fl u40_8 u40_9 u40_10 u40_11), (a_ceT, .inl (cI, 5, .inl ceT_r)), (a_ceS, .inl (cI, 20, .inl u66)), (a_ceH, .inl (cI, 50, .inl u79))]) (wo := fun (u : (Nat → Int32) × (Nat → Int32)) => [(a_ce, oX0 a_fl a_va a_ceT a_ceS a_ceH a_ceG a_ceV), (a_ceG, .inl (cI, 320, .inl u.1)), (a_ceV, .inl (cI, 320, .inl u.2))]) (wn := fun (u : (Nat → Int32) × (Nat → Int32)) => [(a_fl, oX1 fl_e fl_f fl_bias fl_codes fl_signBit fl_endless), (a_va, oX6 a_fl a_p2 u40_1 u40_2 u40_3 u40_4 u40_5 u40_6 u40_7), (a_p2, oX3 a_fl u40_8 u40_9 u40_10 u40_11), (a_ce, oX0 a_fl a_va a_ceT a_ceS a_ceH a_ceG a_ceV), (a_ceT, .inl (cI, 5, .inl ceT_r)), (a_ceS, .inl (cI, 20, .inl u66)), (a_ceH, .inl (cI, 50, .inl u79)), (a_ceG, .inl (cI, 320, .inl u.1)), (a_ceV, .inl (cI, 320, .inl u.2))]) ⟨hx, hb, hml, hown, hts⟩ (c_X0_addToBlock l D cI cJ cZ a_fl a_va a_ce a_ceT a_ceS a_ceH a_ceG a_ceV H.size ceG_r ceV_r ((p1 * (64 : Int32)) + (x2 >>> ((8 : Int32) &&& 31))) r47 _ _ rfl ho) (cwV 2 hts (gdV wl_552 wl_553 wl_554 wl_26 wl_555) rfl rfl rfl (by decide +kernel) ⟨hRf _ (Nat.le_of_ble_eq_true rfl), hRl _ (Nat.le_of_ble_eq_true rfl)⟩) hK hN hP hD hS hA [3, 7, 8] [0, 1, 2, 4, 5, 6] [0, 1, 2, 6, 3, 4, 5, 7, 8] rfl rfl (by decide) (by decide) (by decide) (by decide) (fun _ => rfl) 0 0 rfl rfl rfl rfl hl.1 rfl (Nat.le_of_ble_eq_true rfl) dX0_take_93 ⟨Nat.zero_le _, Nat.zero_le _⟩ (fun  u93 H locs ho hP hD hS => ?_)
        obtain ⟨u93_1, u93_2⟩ := u93
        try dsimp only at ho
        replace hP : va_P D vwCl [(a_fl, oX1 fl_e fl_f fl_bias fl_codes fl_signBit fl_endless), (a_va, oX6 a_fl a_p2 u40_1 u40_2 u40_3 u40_4 u40_5 u40_6 u40_7), (a_p2, oX3 a_fl u40_8 u40_9 u40_10 u40_11), (a_ce, oX0 a_fl a_va a_ceT a_ceS a_ceH a_ceG a_ceV), (a_ceT, .inl (cI, 5, .inl ceT_r)), (a_ceS, .inl (cI, 20, .inl u66)), (a_ceH, .inl (cI, 50, .inl u79)), (a_ceG, .inl (cI, 320, .inl u93_1)), (a_ceV, .inl (cI, 320, .inl u93_2))] H := hP
        replace hD : va_D A [(a_fl, oX1 fl_e fl_f fl_bias fl_codes fl_signBit fl_endless), (a_va, oX6 a_fl a_p2 u40_1 u40_2 u40_3 u40_4 u40_5 u40_6 u40_7), (a_p2, oX3 a_fl u40_8 u40_9 u40_10 u40_11), (a_ce, oX0 a_fl a_va a_ceT a_ceS a_ceH a_ceG a_ceV), (a_ceT, .inl (cI, 5, .inl ceT_r)), (a_ceS, .inl (cI, 20, .inl u66)), (a_ceH, .inl (cI, 50, .inl u79)), (a_ceG, .inl (cI, 320, .inl u93_1)), (a_ceV, .inl (cI, 320, .inl u93_2))] := hD
        refine lv_iinc (v := (x2 + (1 : Int32))) (lv' := [(2, .int (x2 + (1 : Int32))), (3, .int r47), (0, .ref a_ce), (1, .int p1)]) hx hb dX0_take_96 hl (k := 3) rfl rfl (by decide) rfl (fun ls hl => ?_)
        refine lv_goto (tgt := 23) hx hb dX0_take_99 (by decide) ?_
        exact ih_23 u40_1 u40_2 u40_3 u40_4 u40_5 u40_6 u40_7 u40_8 u40_9 u40_10 u40_11 ceT_r u66 u79 u93_1 u93_2 (x2 + (1 : Int32)) H locs ls ho hP hD hS (lv_sub hl [2, 3, 0] rfl)
  suffices main : ∀ (H : Heap) (locs : List Loc), va_P D vwCl [(a_fl, oX1 fl_e fl_f fl_bias fl_codes fl_signBit fl_endless), (a_va, oX6 a_fl a_p2 va_m va_x va_more va_laid va_below va_settled va_sort), (a_p2, oX3 a_fl p2_lower p2_way p2_more p2_beyond), (a_ce, oX0 a_fl a_va a_ceT a_ceS a_ceH a_ceG a_ceV), (a_ceT, .inl (cI, 5, .inl ceT_r)), (a_ceS, .inl (cI, 20, .inl ceS_r)), (a_ceH, .inl (cI, 50, .inl ceH_r)), (a_ceG, .inl (cI, 320, .inl ceG_r)), (a_ceV, .inl (cI, 320, .inl ceV_r))] H → va_S A s.heap H locs → W p l e R s m args below meth c H locs 0 0 Q (F0 m 0 ls []) from main _ _ hP hS
  intro H locs hP hS
  unfold wp_X0_take at ho
  refine lv_aload_n hx hb dX0_take_0 rfl (lv_at hl 0 rfl) ?_
  refine va_get (D := D) (ci := 0) (v := .ref a_ceT) (C := RX0) (T := TX0) (N := 7) hx hb hts inlX0 hown hK hP 3 rfl rfl 2 (by decide) (hts _ wl_71) (fun _ h9 => h9) rfl dX0_take_1 ?_
  refine lv_iload_n hx hb dX0_take_4 rfl (lv_at hl 1 rfl) ?_
  refine ca_Si (As := [.ref a_ceT, .int p1]) (rest := []) ⟨hx, hb, hml, hown, hts⟩ (c_X4_at l D cI cJ cZ a_ceT 5 ceT_r p1 _ ho) (va_cwS 2 hts (gdS wl_546 wl_137 wl_134 wl_138) rfl rfl rfl (by decide +kernel) ⟨hRf _ (Nat.le_of_ble_eq_true rfl), hRl _ (Nat.le_of_ble_eq_true rfl)⟩) hK hN hP [4] rfl rfl hl.1 rfl (Nat.le_of_ble_eq_true rfl) dX0_take_5 ⟨Nat.zero_le _, Nat.zero_le _⟩ (fun r5 ho => ?_)
  refine lv_if_eq (tgt := 12) hx hb dX0_take_8 (by decide) (fun c_8 => ?_) (fun c_8 => ?_)
  · replace ho := ho.1 c_8
    refine lv_aload_n hx hb dX0_take_12 rfl (lv_at hl 0 rfl) ?_
    refine va_get (D := D) (ci := 0) (v := .ref a_ceT) (C := RX0) (T := TX0) (N := 7) hx hb hts inlX0 hown hK hP 3 rfl rfl 2 (by decide) (hts _ wl_71) (fun _ h9 => h9) rfl dX0_take_13 ?_
    refine lv_iload_n hx hb dX0_take_16 rfl (lv_at hl 1 rfl) ?_
    refine lv_iconst (v := 1) hx hb dX0_take_17 (by decide) ?_
    refine ca_Tv (As := [.ref a_ceT, .int p1, .int (1 : Int32)]) (rest := []) (wr := [(a_fl, oX1 fl_e fl_f fl_bias fl_codes fl_signBit fl_endless), (a_va, oX6 a_fl a_p2 va_m va_x va_more va_laid va_below va_settled va_sort), (a_p2, oX3 a_fl p2_lower p2_way p2_more p2_beyond), (a_ce, oX0 a_fl a_va a_ceT a_ceS a_ceH a_ceG a_ceV), (a_ceS, .inl (cI, 20, .inl ceS_r)), (a_ceH, .inl (cI, 50, .inl ceH_r)), (a_ceG, .inl (cI, 320, .inl ceG_r)), (a_ceV, .inl (cI, 320, .inl ceV_r))]) (wo := fun (u : (Nat → Int32)) => [(a_ceT, .inl (cI, 5, .inl u))]) (wn := fun (u : (Nat → Int32)) => [(a_fl, oX1 fl_e fl_f fl_bias fl_codes fl_signBit fl_endless), (a_va, oX6 a_fl a_p2 va_m va_x va_more va_laid va_below va_settled va_sort), (a_p2, oX3 a_fl p2_lower p2_way p2_more p2_beyond), (a_ce, oX0 a_fl a_va a_ceT a_ceS a_ceH a_ceG a_ceV), (a_ceT, .inl (cI, 5, .inl u)), (a_ceS, .inl (cI, 20, .inl ceS_r)), (a_ceH, .inl (cI, 50, .inl ceH_r)), (a_ceG, .inl (cI, 320, .inl ceG_r)), (a_ceV, .inl (cI, 320, .inl ceV_r))]) ⟨hx, hb, hml, hown, hts⟩ (c_X4_put l D cI cJ cZ a_ceT H.size 5 ceT_r p1 (1 : Int32) _ _ rfl ho) (va_cwS 3 hts (gdS wl_547 wl_140 wl_134 wl_141) rfl rfl rfl (by decide +kernel) ⟨hRf _ (Nat.le_of_ble_eq_true rfl), hRl _ (Nat.le_of_ble_eq_true rfl)⟩) hK hN hP hD hS hA [4] [0, 1, 2, 3, 5, 6, 7, 8] [0, 1, 2, 3, 8, 4, 5, 6, 7] rfl rfl (by decide) (by decide) (by decide) (by decide) (fun _ => rfl) rfl hl.1 rfl (Nat.le_of_ble_eq_true rfl) dX0_take_18 ⟨Nat.zero_le _, Nat.zero_le _⟩ (fun  u18 H locs ho hP hD hS => ?_)
    try dsimp only at ho
    replace hP : va_P D vwCl [(a_fl, oX1 fl_e fl_f fl_bias fl_codes fl_signBit fl_endless), (a_va, oX6 a_fl a_p2 va_m va_x va_more va_laid va_below va_settled va_sort), (a_p2, oX3 a_fl p2_lower p2_way p2_more p2_beyond), (a_ce, oX0 a_fl a_va a_ceT a_ceS a_ceH a_ceG a_ceV), (a_ceT, .inl (cI, 5, .inl u18)), (a_ceS, .inl (cI, 20, .inl ceS_r)), (a_ceH, .inl (cI, 50, .inl ceH_r)), (a_ceG, .inl (cI, 320, .inl ceG_r)), (a_ceV, .inl (cI, 320, .inl ceV_r))] H := hP
    replace hD : va_D A [(a_fl, oX1 fl_e fl_f fl_bias fl_codes fl_signBit fl_endless), (a_va, oX6 a_fl a_p2 va_m va_x va_more va_laid va_below va_settled va_sort), (a_p2, oX3 a_fl p2_lower p2_way p2_more p2_beyond), (a_ce, oX0 a_fl a_va a_ceT a_ceS a_ceH a_ceG a_ceV), (a_ceT, .inl (cI, 5, .inl u18)), (a_ceS, .inl (cI, 20, .inl ceS_r)), (a_ceH, .inl (cI, 50, .inl ceH_r)), (a_ceG, .inl (cI, 320, .inl ceG_r)), (a_ceV, .inl (cI, 320, .inl ceV_r))] := hD
    refine lv_iconst (v := 0) hx hb dX0_take_21 (by decide) ?_
    refine lv_istore_n (lv' := [(2, .int (0 : Int32)), (0, .ref a_ce), (1, .int p1)]) hx hb dX0_take_22 rfl hl (by decide) rfl (fun ls hl => ?_)
    obtain ⟨n_23, ho⟩ := ho
    exact C_23 n_23 va_m va_x va_more va_laid va_below va_settled va_sort p2_lower p2_way p2_more p2_beyond u18 ceS_r ceH_r ceG_r ceV_r (0 : Int32) H locs ls ho hP hD hS (lv_sub hl [1, 2, 0] rfl)
  · replace ho := ho.2 c_8
    subst hQ; exact W.vret hx hb hr (fun t ht hW => ⟨⟨(va_m, va_x, va_more, va_laid, va_below, va_settled, va_sort, p2_lower, p2_way, p2_more, p2_beyond, ceT_r, ceS_r, ceH_r, ceG_r, ceV_r), rfl, ho, by rw [ht]; exact hP, hD⟩, hS.F ht⟩) (fun q hq => hS.2.2 q hq) dX0_take_11

def w_X0_ofSort : List Cond := .code yX0_ofSort cX0_ofSort 3 (some .int) :: wsL_law
set_option maxHeartbeats 4000000 in
set_option maxRecDepth 100000 in
theorem c_X0_ofSort (l : Launch) (D : va_G) (cI cJ cZ : ClassId) (a_fl : Nat) (a_va : Nat) (a_ce : Nat) (a_ceT : Nat) (a_ceS : Nat) (a_ceH : Nat) (a_ceG : Nat) (a_ceV : Nat) (ceS_r : Nat → Int32) (p1 : Int32) (p2 : Int32) (post : Int32 → Prop) (ho : wp_X0_ofSort post ceS_r p1 p2) : Met l yX0_ofSort w_X0_ofSort ({ frames := 1, cells := 0, slots := 0, locals := 21 } : Room) (ro_P D [(cI, .int), (cJ, .long), (cZ, .boolean)] [.ref a_ce, .int p1, .int p2] [(a_ce, oX0 a_fl a_va a_ceT a_ceS a_ceH a_ceG a_ceV), (a_ceS, .inl (cI, 20, .inl ceS_r))]) (vp_Si post) 0 0 (fun _ => False) := by
  refine Met.ofW (cc := cX0_ofSort) (maxL := 3) (ret := (some .int)) (by decide) rfl ?_
  intro p e s m args below meth c s₁ B hml hv
  obtain ⟨hargs, hP, hK, hN⟩ := hv
  have hx := B.exec
  have hb := B.bytes
  have hr := B.returns
  have hts : ∀ w ∈ wsL_law, w.before args s = true := fun w h => atoms_spec (ws := w_X0_ofSort) B.pre w (List.mem_cons_of_mem _ h)
  have hown : s.vm.findClass RX0 = some m.cls := findClass_of_methodNamed B.named
  have hlocks := B.notSynchronized
  have hl := lv_entry ([.ref a_ce, .int p1, .int p2]) (n := 3) (Nat.le_of_ble_eq_true rfl)
  rw [hargs, lg_entry_eq, ← hargs]
  generalize (lg_sl ([.ref a_ce, .int p1, .int p2]) ++ List.replicate (3 - (lg_sl ([.ref a_ce, .int p1, .int p2])).length) Slot.unset).toArray = ls at hl ⊢
  replace hl : lv_has ls 3 [(0, .ref a_ce), (1, .int p1), (2, .int p2)] := hl
  have hRf : ∀ n, n ≤ 1 → n ≤ (headSpec w_X0_ofSort ({ frames := 1, cells := 0, slots := 0, locals := 21 } : Room)).room.frames := fun n h => h
  have hRl : ∀ n, n ≤ 21 → n ≤ (headSpec w_X0_ofSort ({ frames := 1, cells := 0, slots := 0, locals := 21 } : Room)).room.locals := fun n h => h
  generalize (headSpec w_X0_ofSort ({ frames := 1, cells := 0, slots := 0, locals := 21 } : Room)).room = R at hRf hRl ⊢
  generalize hQ : MQ below _ args s 0 0 _ = Q
  unfold wp_X0_ofSort at ho
  refine lv_aload_n hx hb dX0_ofSort_0 rfl (lv_at hl 0 rfl) ?_
  refine va_get (D := D) (ci := 0) (v := .ref a_ceS) (C := RX0) (T := TX0) (N := 7) hx hb hts inlX0 hown hK hP 0 rfl rfl 3 (by decide) (hts _ wl_72) (fun _ h9 => h9) rfl dX0_ofSort_1 ?_
  refine lv_iload_n hx hb dX0_ofSort_4 rfl (lv_at hl 1 rfl) ?_
  refine lv_iconst (v := 4) hx hb dX0_ofSort_5 (by decide) ?_
  refine lv_imul hx hb dX0_ofSort_6 ?_
  refine lv_iload_n hx hb dX0_ofSort_7 rfl (lv_at hl 2 rfl) ?_
  refine lv_iadd hx hb dX0_ofSort_8 ?_
  refine ca_Si (As := [.ref a_ceS, .int ((p1 * (4 : Int32)) + p2)]) (rest := []) ⟨hx, hb, hml, hown, hts⟩ (c_X4_at l D cI cJ cZ a_ceS 20 ceS_r ((p1 * (4 : Int32)) + p2) _ ho) (va_cwS 2 hts (gdS wl_546 wl_137 wl_134 wl_138) rfl rfl rfl (by decide +kernel) ⟨hRf _ (Nat.le_of_ble_eq_true rfl), hRl _ (Nat.le_of_ble_eq_true rfl)⟩) hK hN hP [1] rfl rfl hl.1 rfl (Nat.le_of_ble_eq_true rfl) dX0_ofSort_9 ⟨Nat.zero_le _, Nat.zero_le _⟩ (fun r9 ho => ?_)
  subst hQ; exact W.iret (v := r9) hx hb hr (fun t ht _ => ⟨r9, rfl, ho, ht⟩) (fun _ h => by cases h) dX0_ofSort_12

def w_X0_ofHardness : List Cond := .code yX0_ofHardness cX0_ofHardness 3 (some .int) :: wsL_law
set_option maxHeartbeats 4000000 in
set_option maxRecDepth 100000 in
theorem c_X0_ofHardness (l : Launch) (D : va_G) (cI cJ cZ : ClassId) (a_fl : Nat) (a_va : Nat) (a_ce : Nat) (a_ceT : Nat) (a_ceS : Nat) (a_ceH : Nat) (a_ceG : Nat) (a_ceV : Nat) (ceH_r : Nat → Int32) (p1 : Int32) (p2 : Int32) (post : Int32 → Prop) (ho : wp_X0_ofHardness post ceH_r p1 p2) : Met l yX0_ofHardness w_X0_ofHardness ({ frames := 1, cells := 0, slots := 0, locals := 21 } : Room) (ro_P D [(cI, .int), (cJ, .long), (cZ, .boolean)] [.ref a_ce, .int p1, .int p2] [(a_ce, oX0 a_fl a_va a_ceT a_ceS a_ceH a_ceG a_ceV), (a_ceH, .inl (cI, 50, .inl ceH_r))]) (vp_Si post) 0 0 (fun _ => False) := by
  refine Met.ofW (cc := cX0_ofHardness) (maxL := 3) (ret := (some .int)) (by decide) rfl ?_
  intro p e s m args below meth c s₁ B hml hv
  obtain ⟨hargs, hP, hK, hN⟩ := hv
  have hx := B.exec
  have hb := B.bytes
  have hr := B.returns
  have hts : ∀ w ∈ wsL_law, w.before args s = true := fun w h => atoms_spec (ws := w_X0_ofHardness) B.pre w (List.mem_cons_of_mem _ h)
  have hown : s.vm.findClass RX0 = some m.cls := findClass_of_methodNamed B.named
  have hlocks := B.notSynchronized
  have hl := lv_entry ([.ref a_ce, .int p1, .int p2]) (n := 3) (Nat.le_of_ble_eq_true rfl)
  rw [hargs, lg_entry_eq, ← hargs]
  generalize (lg_sl ([.ref a_ce, .int p1, .int p2]) ++ List.replicate (3 - (lg_sl ([.ref a_ce, .int p1, .int p2])).length) Slot.unset).toArray = ls at hl ⊢
  replace hl : lv_has ls 3 [(0, .ref a_ce), (1, .int p1), (2, .int p2)] := hl
  have hRf : ∀ n, n ≤ 1 → n ≤ (headSpec w_X0_ofHardness ({ frames := 1, cells := 0, slots := 0, locals := 21 } : Room)).room.frames := fun n h => h
  have hRl : ∀ n, n ≤ 21 → n ≤ (headSpec w_X0_ofHardness ({ frames := 1, cells := 0, slots := 0, locals := 21 } : Room)).room.locals := fun n h => h
  generalize (headSpec w_X0_ofHardness ({ frames := 1, cells := 0, slots := 0, locals := 21 } : Room)).room = R at hRf hRl ⊢
  generalize hQ : MQ below _ args s 0 0 _ = Q
  unfold wp_X0_ofHardness at ho
  refine lv_aload_n hx hb dX0_ofHardness_0 rfl (lv_at hl 0 rfl) ?_
  refine va_get (D := D) (ci := 0) (v := .ref a_ceH) (C := RX0) (T := TX0) (N := 7) hx hb hts inlX0 hown hK hP 0 rfl rfl 4 (by decide) (hts _ wl_73) (fun _ h9 => h9) rfl dX0_ofHardness_1 ?_
  refine lv_iload_n hx hb dX0_ofHardness_4 rfl (lv_at hl 1 rfl) ?_
  refine lv_bipush (v := 10) hx hb dX0_ofHardness_5 (by decide) ?_
  refine lv_imul hx hb dX0_ofHardness_7 ?_
  refine lv_iload_n hx hb dX0_ofHardness_8 rfl (lv_at hl 2 rfl) ?_
  refine lv_iadd hx hb dX0_ofHardness_9 ?_
  refine ca_Si (As := [.ref a_ceH, .int ((p1 * (10 : Int32)) + p2)]) (rest := []) ⟨hx, hb, hml, hown, hts⟩ (c_X4_at l D cI cJ cZ a_ceH 50 ceH_r ((p1 * (10 : Int32)) + p2) _ ho) (va_cwS 2 hts (gdS wl_546 wl_137 wl_134 wl_138) rfl rfl rfl (by decide +kernel) ⟨hRf _ (Nat.le_of_ble_eq_true rfl), hRl _ (Nat.le_of_ble_eq_true rfl)⟩) hK hN hP [1] rfl rfl hl.1 rfl (Nat.le_of_ble_eq_true rfl) dX0_ofHardness_10 ⟨Nat.zero_le _, Nat.zero_le _⟩ (fun r10 ho => ?_)
  subst hQ; exact W.iret (v := r10) hx hb hr (fun t ht _ => ⟨r10, rfl, ho, ht⟩) (fun _ h => by cases h) dX0_ofHardness_13
