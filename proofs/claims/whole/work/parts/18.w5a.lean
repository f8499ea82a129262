def w_X5_forget : List Cond := .code yX5_forget cX5_forget 1 none :: wsL_law
set_option maxHeartbeats 4000000 in
set_option maxRecDepth 100000 in
theorem c_X5_forget (l : Launch) (D : va_G) (cI cJ cZ : ClassId) (a_fl : Nat) (a_va : Nat) (a_st : Nat) (a_stT : Nat) (a_stB : Nat) (sz : Nat) (stT_r : Nat → Int32) (stB_r : Nat → Int32)  (post : (Nat → Int32) → (Nat → Int32) → Prop) (A : Nat → Prop) (hAe : A = va_A [(a_st, oX5 a_fl a_va a_stT a_stB), (a_stT, .inl (cI, 25, .inl stT_r)), (a_stB, .inl (cI, 800, .inl stB_r))] sz) (ho : wp_X5_forget post stT_r stB_r) : Met l yX5_forget w_X5_forget ({ frames := 1, cells := 0, slots := 0, locals := 23 } : Room) (rw_P D [(cI, .int), (cJ, .long), (cZ, .boolean)] [.ref a_st] sz [(a_st, oX5 a_fl a_va a_stT a_stB), (a_stT, .inl (cI, 25, .inl stT_r)), (a_stB, .inl (cI, 800, .inl stB_r))]) (va_Qv (fun (u : (Nat → Int32) × (Nat → Int32)) => post u.1 u.2) (rw_B D A (fun (u : (Nat → Int32) × (Nat → Int32)) => [(a_st, oX5 a_fl a_va a_stT a_stB), (a_stT, .inl (cI, 25, .inl u.1)), (a_stB, .inl (cI, 800, .inl u.2))])) A) 0 0 A := by
  refine Met.ofW (cc := cX5_forget) (maxL := 1) (ret := none) (by decide) rfl ?_
  intro p e s m args below meth c s₁ B hml hv
  obtain ⟨hargs, hsz, hP, hK, hN, hD0⟩ := hv
  have hx := B.exec
  have hb := B.bytes
  have hr := B.returns
  have hts : ∀ w ∈ wsL_law, w.before args s = true := fun w h => atoms_spec (ws := w_X5_forget) B.pre w (List.mem_cons_of_mem _ h)
  have hown : s.vm.findClass RX5 = some m.cls := findClass_of_methodNamed B.named
  have hlocks := B.notSynchronized
  subst hsz
  have hD : va_D A [(a_st, oX5 a_fl a_va a_stT a_stB), (a_stT, .inl (cI, 25, .inl stT_r)), (a_stB, .inl (cI, 800, .inl stB_r))] := by rw [hAe]; exact hD0.self
  have hA : ∀ q : Nat, s.heap.size ≤ q → A q := fun q h => by rw [hAe]; exact Or.inr h
  have hS : va_S A s.heap s.heap [] := va_S.rf
  have hl := lv_entry ([.ref a_st]) (n := 1) (Nat.le_of_ble_eq_true rfl)
  rw [hargs, lg_entry_eq, ← hargs]
  generalize (lg_sl ([.ref a_st]) ++ List.replicate (1 - (lg_sl ([.ref a_st])).length) Slot.unset).toArray = ls at hl ⊢
  replace hl : lv_has ls 1 [(0, .ref a_st)] := hl
  have hRf : ∀ n, n ≤ 1 → n ≤ (headSpec w_X5_forget ({ frames := 1, cells := 0, slots := 0, locals := 23 } : Room)).room.frames := fun n h => h
  have hRl : ∀ n, n ≤ 23 → n ≤ (headSpec w_X5_forget ({ frames := 1, cells := 0, slots := 0, locals := 23 } : Room)).room.locals := fun n h => h
  generalize (headSpec w_X5_forget ({ frames := 1, cells := 0, slots := 0, locals := 23 } : Room)).room = R at hRf hRl ⊢
  generalize hQ : MQ below _ args s 0 0 _ = Q
  suffices main : ∀ (H : Heap) (locs : List Loc), va_P D vwCl [(a_st, oX5 a_fl a_va a_stT a_stB), (a_stT, .inl (cI, 25, .inl stT_r)), (a_stB, .inl (cI, 800, .inl stB_r))] H → va_S A s.heap H locs → W p l e R s m args below meth c H locs 0 0 Q (F0 m 0 ls []) from main _ _ hP hS
  intro H locs hP hS
  unfold wp_X5_forget at ho
  refine lv_aload_n hx hb dX5_forget_0 rfl (lv_at hl 0 rfl) ?_
  refine va_get (D := D) (ci := 4) (v := .ref a_stT) (C := RX5) (T := TX5) (N := 4) hx hb hts inlX5 hown hK hP 0 rfl rfl 2 (by decide) (hts _ wl_82) (fun _ h9 => h9) rfl dX5_forget_1 ?_
  refine lv_iconst (v := 0) hx hb dX5_forget_4 (by decide) ?_
  refine ca_Tv (As := [.ref a_stT, .int (0 : Int32)]) (rest := []) (wr := [(a_st, oX5 a_fl a_va a_stT a_stB), (a_stB, .inl (cI, 800, .inl stB_r))]) (wo := fun (u : (Nat → Int32)) => [(a_stT, .inl (cI, 25, .inl u))]) (wn := fun (u : (Nat → Int32)) => [(a_st, oX5 a_fl a_va a_stT a_stB), (a_stT, .inl (cI, 25, .inl u)), (a_stB, .inl (cI, 800, .inl stB_r))]) ⟨hx, hb, hml, hown, hts⟩ (c_J7_fill_53178 l D cI cJ cZ a_stT H.size 25 stT_r (0 : Int32) _ _ rfl ho) (va_cwS 2 hts (gdS wl_155 wl_148 wl_149 wl_150) rfl rfl rfl (by decide +kernel) ⟨hRf _ (Nat.le_of_ble_eq_true rfl), hRl _ (Nat.le_of_ble_eq_true rfl)⟩) hK hN hP hD hS hA [1] [0, 2] [0, 2, 1] rfl rfl (by decide) (by decide) (by decide) (by decide) (fun _ => rfl) rfl hl.1 rfl (Nat.le_of_ble_eq_true rfl) dX5_forget_5 ⟨Nat.zero_le _, Nat.zero_le _⟩ (fun  u5 H locs ho hP hD hS => ?_)
  try dsimp only at ho
  replace hP : va_P D vwCl [(a_st, oX5 a_fl a_va a_stT a_stB), (a_stT, .inl (cI, 25, .inl u5)), (a_stB, .inl (cI, 800, .inl stB_r))] H := hP
  replace hD : va_D A [(a_st, oX5 a_fl a_va a_stT a_stB), (a_stT, .inl (cI, 25, .inl u5)), (a_stB, .inl (cI, 800, .inl stB_r))] := hD
  refine lv_aload_n hx hb dX5_forget_8 rfl (lv_at hl 0 rfl) ?_
  refine va_get (D := D) (ci := 4) (v := .ref a_stB) (C := RX5) (T := TX5) (N := 4) hx hb hts inlX5 hown hK hP 0 rfl rfl 3 (by decide) (hts _ wl_83) (fun _ h9 => h9) rfl dX5_forget_9 ?_
  refine lv_iconst (v := 0) hx hb dX5_forget_12 (by decide) ?_
  refine ca_Tv (As := [.ref a_stB, .int (0 : Int32)]) (rest := []) (wr := [(a_st, oX5 a_fl a_va a_stT a_stB), (a_stT, .inl (cI, 25, .inl u5))]) (wo := fun (u : (Nat → Int32)) => [(a_stB, .inl (cI, 800, .inl u))]) (wn := fun (u : (Nat → Int32)) => [(a_st, oX5 a_fl a_va a_stT a_stB), (a_stT, .inl (cI, 25, .inl u5)), (a_stB, .inl (cI, 800, .inl u))]) ⟨hx, hb, hml, hown, hts⟩ (c_J7_fill_53178 l D cI cJ cZ a_stB H.size 800 stB_r (0 : Int32) _ _ rfl ho) (va_cwS 2 hts (gdS wl_155 wl_148 wl_149 wl_150) rfl rfl rfl (by decide +kernel) ⟨hRf _ (Nat.le_of_ble_eq_true rfl), hRl _ (Nat.le_of_ble_eq_true rfl)⟩) hK hN hP hD hS hA [2] [0, 1] [0, 1, 2] rfl rfl (by decide) (by decide) (by decide) (by decide) (fun _ => rfl) rfl hl.1 rfl (Nat.le_of_ble_eq_true rfl) dX5_forget_13 ⟨Nat.zero_le _, Nat.zero_le _⟩ (fun  u13 H locs ho hP hD hS => ?_)
  try dsimp only at ho
  replace hP : va_P D vwCl [(a_st, oX5 a_fl a_va a_stT a_stB), (a_stT, .inl (cI, 25, .inl u5)), (a_stB, .inl (cI, 800, .inl u13))] H := hP
  replace hD : va_D A [(a_st, oX5 a_fl a_va a_stT a_stB), (a_stT, .inl (cI, 25, .inl u5)), (a_stB, .inl (cI, 800, .inl u13))] := hD
  subst hQ; exact W.vret hx hb hr (fun t ht hW => ⟨⟨(u5, u13), rfl, ho, by rw [ht]; exact hP, hD⟩, hS.F ht⟩) (fun q hq => hS.2.2 q hq) dX5_forget_16

def w_X5_total : List Cond := .code yX5_total cX5_total 3 (some .int) :: wsL_law
set_option maxHeartbeats 4000000 in
set_option maxRecDepth 100000 in
theorem c_X5_total (l : Launch) (D : va_G) (cI cJ cZ : ClassId) (a_fl : Nat) (a_va : Nat) (a_st : Nat) (a_stT : Nat) (a_stB : Nat) (stT_r : Nat → Int32) (p1 : Int32) (p2 : Int32) (post : Int32 → Prop) (ho : wp_X5_total post stT_r p1 p2) : Met l yX5_total w_X5_total ({ frames := 1, cells := 0, slots := 0, locals := 21 } : Room) (ro_P D [(cI, .int), (cJ, .long), (cZ, .boolean)] [.ref a_st, .int p1, .int p2] [(a_st, oX5 a_fl a_va a_stT a_stB), (a_stT, .inl (cI, 25, .inl stT_r))]) (vp_Si post) 0 0 (fun _ => False) := by
  refine Met.ofW (cc := cX5_total) (maxL := 3) (ret := (some .int)) (by decide) rfl ?_
  intro p e s m args below meth c s₁ B hml hv
  obtain ⟨hargs, hP, hK, hN⟩ := hv
  have hx := B.exec
  have hb := B.bytes
  have hr := B.returns
  have hts : ∀ w ∈ wsL_law, w.before args s = true := fun w h => atoms_spec (ws := w_X5_total) B.pre w (List.mem_cons_of_mem _ h)
  have hown : s.vm.findClass RX5 = some m.cls := findClass_of_methodNamed B.named
  have hlocks := B.notSynchronized
  have hl := lv_entry ([.ref a_st, .int p1, .int p2]) (n := 3) (Nat.le_of_ble_eq_true rfl)
  rw [hargs, lg_entry_eq, ← hargs]
  generalize (lg_sl ([.ref a_st, .int p1, .int p2]) ++ List.replicate (3 - (lg_sl ([.ref a_st, .int p1, .int p2])).length) Slot.unset).toArray = ls at hl ⊢
  replace hl : lv_has ls 3 [(0, .ref a_st), (1, .int p1), (2, .int p2)] := hl
  have hRf : ∀ n, n ≤ 1 → n ≤ (headSpec w_X5_total ({ frames := 1, cells := 0, slots := 0, locals := 21 } : Room)).room.frames := fun n h => h
  have hRl : ∀ n, n ≤ 21 → n ≤ (headSpec w_X5_total ({ frames := 1, cells := 0, slots := 0, locals := 21 } : Room)).room.locals := fun n h => h
  generalize (headSpec w_X5_total ({ frames := 1, cells := 0, slots := 0, locals := 21 } : Room)).room = R at hRf hRl ⊢
  generalize hQ : MQ below _ args s 0 0 _ = Q
  unfold wp_X5_total at ho
  refine lv_aload_n hx hb dX5_total_0 rfl (lv_at hl 0 rfl) ?_
  refine va_get (D := D) (ci := 4) (v := .ref a_stT) (C := RX5) (T := TX5) (N := 4) hx hb hts inlX5 hown hK hP 0 rfl rfl 2 (by decide) (hts _ wl_82) (fun _ h9 => h9) rfl dX5_total_1 ?_
  refine lv_iload_n hx hb dX5_total_4 rfl (lv_at hl 1 rfl) ?_
  refine lv_iconst (v := 5) hx hb dX5_total_5 (by decide) ?_
  refine lv_imul hx hb dX5_total_6 ?_
  refine lv_iload_n hx hb dX5_total_7 rfl (lv_at hl 2 rfl) ?_
  refine lv_iadd hx hb dX5_total_8 ?_
  refine ca_Si (As := [.ref a_stT, .int ((p1 * (5 : Int32)) + p2)]) (rest := []) ⟨hx, hb, hml, hown, hts⟩ (c_X4_at l D cI cJ cZ a_stT 25 stT_r ((p1 * (5 : Int32)) + p2) _ ho) (va_cwS 2 hts (gdS wl_614 wl_137 wl_134 wl_138) rfl rfl rfl (by decide +kernel) ⟨hRf _ (Nat.le_of_ble_eq_true rfl), hRl _ (Nat.le_of_ble_eq_true rfl)⟩) hK hN hP [1] rfl rfl hl.1 rfl (Nat.le_of_ble_eq_true rfl) dX5_total_9 ⟨Nat.zero_le _, Nat.zero_le _⟩ (fun r9 ho => ?_)
  subst hQ; exact W.iret (v := r9) hx hb hr (fun t ht _ => ⟨r9, rfl, ho, ht⟩) (fun _ h => by cases h) dX5_total_12

def w_X5_take : List Cond := .code yX5_take cX5_take 7 none :: wsL_law
set_option maxHeartbeats 4000000 in
set_option maxRecDepth 100000 in
theorem c_X5_take (l : Launch) (D : va_G) (cI cJ cZ : ClassId) (a_fl : Nat) (a_va : Nat) (a_p2 : Nat) (a_st : Nat) (a_stT : Nat) (a_stB : Nat) (sz : Nat) (fl_e : Int32) (fl_f : Int32) (fl_bias : Int32) (fl_codes : Int32) (fl_signBit : Int32) (fl_endless : Int32) (va_m : Int64) (va_x : Int32) (va_more : Int32) (va_laid : Int32) (va_below : Int32) (va_settled : Int32) (va_sort : Int32) (p2_lower : Int32) (p2_way : Int32) (p2_more : Int32) (p2_beyond : Int32) (stT_r : Nat → Int32) (stB_r : Nat → Int32) (p1 : Int32) (p2 : Int32) (post : Int64 → Int32 → Int32 → Int32 → Int32 → Int32 → Int32 → Int32 → Int32 → Int32 → Int32 → (Nat → Int32) → (Nat → Int32) → Prop) (A : Nat → Prop) (hAe : A = va_A [(a_fl, oX1 fl_e fl_f fl_bias fl_codes fl_signBit fl_endless), (a_va, oX6 a_fl a_p2 va_m va_x va_more va_laid va_below va_settled va_sort), (a_p2, oX3 a_fl p2_lower p2_way p2_more p2_beyond), (a_st, oX5 a_fl a_va a_stT a_stB), (a_stT, .inl (cI, 25, .inl stT_r)), (a_stB, .inl (cI, 800, .inl stB_r))] sz) (ho : wp_X5_take post fl_f fl_bias fl_signBit fl_endless va_m va_x va_more va_laid va_below va_settled va_sort p2_lower p2_way p2_more p2_beyond stT_r stB_r p1 p2) : Met l yX5_take w_X5_take ({ frames := 5, cells := 0, slots := 0, locals := 126 } : Room) (rw_P D [(cI, .int), (cJ, .long), (cZ, .boolean)] [.ref a_st, .int p1, .int p2] sz [(a_fl, oX1 fl_e fl_f fl_bias fl_codes fl_signBit fl_endless), (a_va, oX6 a_fl a_p2 va_m va_x va_more va_laid va_below va_settled va_sort), (a_p2, oX3 a_fl p2_lower p2_way p2_more p2_beyond), (a_st, oX5 a_fl a_va a_stT a_stB), (a_stT, .inl (cI, 25, .inl stT_r)), (a_stB, .inl (cI, 800, .inl stB_r))]) (va_Qv (fun (u : (Int64) × (Int32) × (Int32) × (Int32) × (Int32) × (Int32) × (Int32) × (Int32) × (Int32) × (Int32) × (Int32) × (Nat → Int32) × (Nat → Int32)) => post u.1 u.2.1 u.2.2.1 u.2.2.2.1 u.2.2.2.2.1 u.2.2.2.2.2.1 u.2.2.2.2.2.2.1 u.2.2.2.2.2.2.2.1 u.2.2.2.2.2.2.2.2.1 u.2.2.2.2.2.2.2.2.2.1 u.2.2.2.2.2.2.2.2.2.2.1 u.2.2.2.2.2.2.2.2.2.2.2.1 u.2.2.2.2.2.2.2.2.2.2.2.2) (rw_B D A (fun (u : (Int64) × (Int32) × (Int32) × (Int32) × (Int32) × (Int32) × (Int32) × (Int32) × (Int32) × (Int32) × (Int32) × (Nat → Int32) × (Nat → Int32)) => [(a_fl, oX1 fl_e fl_f fl_bias fl_codes fl_signBit fl_endless), (a_va, oX6 a_fl a_p2 u.1 u.2.1 u.2.2.1 u.2.2.2.1 u.2.2.2.2.1 u.2.2.2.2.2.1 u.2.2.2.2.2.2.1), (a_p2, oX3 a_fl u.2.2.2.2.2.2.2.1 u.2.2.2.2.2.2.2.2.1 u.2.2.2.2.2.2.2.2.2.1 u.2.2.2.2.2.2.2.2.2.2.1), (a_st, oX5 a_fl a_va a_stT a_stB), (a_stT, .inl (cI, 25, .inl u.2.2.2.2.2.2.2.2.2.2.2.1)), (a_stB, .inl (cI, 800, .inl u.2.2.2.2.2.2.2.2.2.2.2.2))])) A) 0 0 A := by
  refine Met.ofW (cc := cX5_take) (maxL := 7) (ret := none) (by decide) rfl ?_
  intro p e s m args below meth c s₁ B hml hv
  obtain ⟨hargs, hsz, hP, hK, hN, hD0⟩ := hv
  have hx := B.exec
  have hb := B.bytes
  have hr := B.returns
  have hts : ∀ w ∈ wsL_law, w.before args s = true := fun w h => atoms_spec (ws := w_X5_take) B.pre w (List.mem_cons_of_mem _ h)
  have hown : s.vm.findClass RX5 = some m.cls := findClass_of_methodNamed B.named
  have hlocks := B.notSynchronized
  subst hsz
  have hD : va_D A [(a_fl, oX1 fl_e fl_f fl_bias fl_codes fl_signBit fl_endless), (a_va, oX6 a_fl a_p2 va_m va_x va_more va_laid va_below va_settled va_sort), (a_p2, oX3 a_fl p2_lower p2_way p2_more p2_beyond), (a_st, oX5 a_fl a_va a_stT a_stB), (a_stT, .inl (cI, 25, .inl stT_r)), (a_stB, .inl (cI, 800, .inl stB_r))] := by rw [hAe]; exact hD0.self
  have hA : ∀ q : Nat, s.heap.size ≤ q → A q := fun q h => by rw [hAe]; exact Or.inr h
  have hS : va_S A s.heap s.heap [] := va_S.rf
  have hl := lv_entry ([.ref a_st, .int p1, .int p2]) (n := 7) (Nat.le_of_ble_eq_true rfl)
  rw [hargs, lg_entry_eq, ← hargs]
  generalize (lg_sl ([.ref a_st, .int p1, .int p2]) ++ List.replicate (7 - (lg_sl ([.ref a_st, .int p1, .int p2])).length) Slot.unset).toArray = ls at hl ⊢
  replace hl : lv_has ls 7 [(0, .ref a_st), (1, .int p1), (2, .int p2)] := hl
  have hRf : ∀ n, n ≤ 5 → n ≤ (headSpec w_X5_take ({ frames := 5, cells := 0, slots := 0, locals := 126 } : Room)).room.frames := fun n h => h
  have hRl : ∀ n, n ≤ 126 → n ≤ (headSpec w_X5_take ({ frames := 5, cells := 0, slots := 0, locals := 126 } : Room)).room.locals := fun n h => h
  generalize (headSpec w_X5_take ({ frames := 5, cells := 0, slots := 0, locals := 126 } : Room)).room = R at hRf hRl ⊢
  generalize hQ : MQ below _ args s 0 0 _ = Q
  have C_23 : ∀ n : Nat, ∀ (va_m : Int64) (va_x : Int32) (va_more : Int32) (va_laid : Int32) (va_below : Int32) (va_settled : Int32) (va_sort : Int32) (p2_lower : Int32) (p2_way : Int32) (p2_more : Int32) (p2_beyond : Int32) (stT_r : Nat → Int32) (stB_r : Nat → Int32) (x3 : Int32) (x4 : Int32) (x5 : Int32) (H : Heap) (locs : List Loc) (ls : Array Slot), wp_X5_take_23 post  fl_f fl_bias fl_signBit fl_endless p1 p2 n va_m va_x va_more va_laid va_below va_settled va_sort p2_lower p2_way p2_more p2_beyond stT_r stB_r x3 x4 x5 → va_P D vwCl [(a_fl, oX1 fl_e fl_f fl_bias fl_codes fl_signBit fl_endless), (a_va, oX6 a_fl a_p2 va_m va_x va_more va_laid va_below va_settled va_sort), (a_p2, oX3 a_fl p2_lower p2_way p2_more p2_beyond), (a_st, oX5 a_fl a_va a_stT a_stB), (a_stT, .inl (cI, 25, .inl stT_r)), (a_stB, .inl (cI, 800, .inl stB_r))] H → va_D A [(a_fl, oX1 fl_e fl_f fl_bias fl_codes fl_signBit fl_endless), (a_va, oX6 a_fl a_p2 va_m va_x va_more va_laid va_below va_settled va_sort), (a_p2, oX3 a_fl p2_lower p2_way p2_more p2_beyond), (a_st, oX5 a_fl a_va a_stT a_stB), (a_stT, .inl (cI, 25, .inl stT_r)), (a_stB, .inl (cI, 800, .inl stB_r))] → va_S A s.heap H locs → lv_has ls 7 [(0, .ref a_st), (1, .int p1), (2, .int p2), (3, .int x3), (4, .int x4), (5, .int x5)] → W p l e R s m args below meth c H locs 0 0 Q (F0 m 23 ls []) := by
    intro n
    induction n with
    | zero => intro va_m va_x va_more va_laid va_below va_settled va_sort p2_lower p2_way p2_more p2_beyond stT_r stB_r x3 x4 x5 H locs ls ho hP hD hS hl; exact ho.elim
    | succ n_23 ih_23 =>
      have C_80 : ∀ (va_m : Int64) (va_x : Int32) (va_more : Int32) (va_laid : Int32) (va_below : Int32) (va_settled : Int32) (va_sort : Int32) (p2_lower : Int32) (p2_way : Int32) (p2_more : Int32) (p2_beyond : Int32) (stT_r : Nat → Int32) (stB_r : Nat → Int32) (x3 : Int32) (x5 : Int32) (x6 : Int32) (H : Heap) (locs : List Loc) (ls : Array Slot), wp_X5_take_80 post (wp_X5_take_23 post fl_f fl_bias fl_signBit fl_endless p1 p2 n_23) va_m va_x va_more va_laid va_below va_settled va_sort p2_lower p2_way p2_more p2_beyond stT_r stB_r x3 x5 x6 → va_P D vwCl [(a_fl, oX1 fl_e fl_f fl_bias fl_codes fl_signBit fl_endless), (a_va, oX6 a_fl a_p2 va_m va_x va_more va_laid va_below va_settled va_sort), (a_p2, oX3 a_fl p2_lower p2_way p2_more p2_beyond), (a_st, oX5 a_fl a_va a_stT a_stB), (a_stT, .inl (cI, 25, .inl stT_r)), (a_stB, .inl (cI, 800, .inl stB_r))] H → va_D A [(a_fl, oX1 fl_e fl_f fl_bias fl_codes fl_signBit fl_endless), (a_va, oX6 a_fl a_p2 va_m va_x va_more va_laid va_below va_settled va_sort), (a_p2, oX3 a_fl p2_lower p2_way p2_more p2_beyond), (a_st, oX5 a_fl a_va a_stT a_stB), (a_stT, .inl (cI, 25, .inl stT_r)), (a_stB, .inl (cI, 800, .inl stB_r))] → va_S A s.heap H locs → lv_has ls 7 [(0, .ref a_st), (1, .int p1), (2, .int p2), (3, .int x3), (5, .int x5), (6, .int x6)] → W p l e R s m args below meth c H locs 0 0 Q (F0 m 80 ls []) := by
        intro va_m va_x va_more va_laid va_below va_settled va_sort p2_lower p2_way p2_more p2_beyond stT_r stB_r x3 x5 x6 H locs ls ho hP hD hS hl
        unfold wp_X5_take_80 at ho
        refine lv_iload hx hb dX5_take_80 (lv_at hl 5 rfl) ?_
        refine lv_istore (lv' := [(4, .int x6), (0, .ref a_st), (1, .int p1), (2, .int p2), (3, .int x3), (5, .int x5), (6, .int x6)]) hx hb dX5_take_82 hl (by decide) rfl (fun ls hl => ?_)
        refine lv_iinc (v := (x5 + (1 : Int32))) (lv' := [(5, .int (x5 + (1 : Int32))), (4, .int x6), (0, .ref a_st), (1, .int p1), (2, .int p2), (3, .int x3), (6, .int x6)]) hx hb dX5_take_84 hl (k := 5) rfl rfl (by decide) rfl (fun ls hl => ?_)
        refine lv_goto (tgt := 23) hx hb dX5_take_87 (by decide) ?_
        exact ih_23 va_m va_x va_more va_laid va_below va_settled va_sort p2_lower p2_way p2_more p2_beyond stT_r stB_r x3 x6 (x5 + (1 : Int32)) H locs ls ho hP hD hS (lv_sub hl [2, 3, 4, 5, 1, 0] rfl)
      intro va_m va_x va_more va_laid va_below va_settled va_sort p2_lower p2_way p2_more p2_beyond stT_r stB_r x3 x4 x5 H locs ls ho hP hD hS hl
      replace ho : wp_X5_take_23_b post fl_f fl_bias fl_signBit fl_endless p1 p2 (wp_X5_take_23 post fl_f fl_bias fl_signBit fl_endless p1 p2 n_23) va_m va_x va_more va_laid va_below va_settled va_sort p2_lower p2_way p2_more p2_beyond stT_r stB_r x3 x4 x5 := ho
      unfold wp_X5_take_23_b at ho
      refine lv_iload hx hb dX5_take_23 (lv_at hl 5 rfl) ?_
      refine lv_aload_n hx hb dX5_take_25 rfl (lv_at hl 0 rfl) ?_
      refine va_get (D := D) (ci := 4) (v := .ref a_fl) (C := RX5) (T := TX5) (N := 4) hx hb hts inlX5 hown hK hP 3 rfl rfl 0 (by decide) (hts _ wl_80) (fun _ h9 => h9) rfl dX5_take_26 ?_
      refine va_getN (D := D) (ci := 1) (v := .int fl_endless) (C := RX1) (T := TX1) (N := 6) hx hb hts inlX1 hown hK hP 0 rfl rfl 5 (by decide) hN.fRX5_42 (fun _ h9 => h9) rfl dX5_take_29 ?_
      refine lv_icmp_ge (tgt := 90) hx hb dX5_take_32 (by decide) (fun c_32 => ?_) (fun c_32 => ?_)
      · replace ho := ho.1 c_32
        subst hQ; exact W.vret hx hb hr (fun t ht hW => ⟨⟨(va_m, va_x, va_more, va_laid, va_below, va_settled, va_sort, p2_lower, p2_way, p2_more, p2_beyond, stT_r, stB_r), rfl, ho, by rw [ht]; exact hP, hD⟩, hS.F ht⟩) (fun q hq => hS.2.2 q hq) dX5_take_90
      · replace ho := ho.2 c_32
        refine lv_aload_n hx hb dX5_take_35 rfl (lv_at hl 0 rfl) ?_
        refine va_get (D := D) (ci := 4) (v := .ref a_va) (C := RX5) (T := TX5) (N := 4) hx hb hts inlX5 hown hK hP 3 rfl rfl 1 (by decide) (hts _ wl_81) (fun _ h9 => h9) rfl dX5_take_36 ?_
        refine lv_iload_n hx hb dX5_take_39 rfl (lv_at hl 1 rfl) ?_
        refine lv_iload hx hb dX5_take_40 (lv_at hl 5 rfl) ?_
        refine lv_iload_n hx hb dX5_take_42 rfl (lv_at hl 2 rfl) ?_
        refine ca_Wi (b := a_va) (As := [.int p1, .int x5, .int p2]) (rest := []) (wr := [(a_st, oX5 a_fl a_va a_stT a_stB), (a_stT, .inl (cI, 25, .inl stT_r)), (a_stB, .inl (cI, 800, .inl stB_r))]) (wo := fun (u : (Int64) × (Int32) × (Int32) × (Int32) × (Int32) × (Int32) × (Int32) × (Int32) × (Int32) × (Int32) × (Int32)) => [(a_fl, oX1 fl_e fl_f fl_bias fl_codes fl_signBit fl_endless), (a_va, oX6 a_fl a_p2 u.1 u.2.1 u.2.2.1 u.2.2.2.1 u.2.2.2.2.1 u.2.2.2.2.2.1 u.2.2.2.2.2.2.1), (a_p2, oX3 a_fl u.2.2.2.2.2.2.2.1 u.2.2.2.2.2.2.2.2.1 u.2.2.2.2.2.2.2.2.2.1 u.2.2.2.2.2.2.2.2.2.2)]) (wn := fun (u : (Int64) × (Int32) × (Int32) × (Int32) × (Int32) × (Int32) × (Int32) × (Int32) × (Int32) × (Int32) × (Int32)) => [(a_fl, oX1 fl_e fl_f fl_bias fl_codes fl_signBit fl_endless), (a_va, oX6 a_fl a_p2 u.1 u.2.1 u.2.2.1 u.2.2.2.1 u.2.2.2.2.1 u.2.2.2.2.2.1 u.2.2.2.2.2.2.1), (a_p2, oX3 a_fl u.2.2.2.2.2.2.2.1 u.2.2.2.2.2.2.2.2.1 u.2.2.2.2.2.2.2.2.2.1 u.2.2.2.2.2.2.2.2.2.2), (a_st, oX5 a_fl a_va a_stT a_stB), (a_stT, .inl (cI, 25, .inl stT_r)), (a_stB, .inl (cI, 800, .inl stB_r))]) ⟨hx, hb, hml, hown, hts⟩ (c_X6_resultAt l D cI cJ cZ a_fl a_va a_p2 H.size fl_e fl_f fl_bias fl_codes fl_signBit fl_endless va_m va_x va_more va_laid va_below va_settled va_sort p2_lower p2_way p2_more p2_beyond p1 x5 p2 _ _ rfl ho) (cwV 3 hts (gdV wl_615 wl_405 wl_406 wl_22 wl_407) rfl rfl rfl (by decide +kernel) ⟨hRf _ (Nat.le_of_ble_eq_true rfl), hRl _ (Nat.le_of_ble_eq_true rfl)⟩) hK hN hP hD hS hA [0, 1, 2] [3, 4, 5] [3, 4, 5, 0, 1, 2] rfl rfl (by decide) (by decide) (by decide) (by decide) (fun _ => rfl) 1 5 rfl rfl rfl rfl hl.1 rfl (Nat.le_of_ble_eq_true rfl) dX5_take_43 ⟨Nat.zero_le _, Nat.zero_le _⟩ (fun r43 u43 H locs ho hP hD hS => ?_)
        obtain ⟨u43_1, u43_2, u43_3, u43_4, u43_5, u43_6, u43_7, u43_8, u43_9, u43_10, u43_11⟩ := u43
        try dsimp only at ho
        replace hP : va_P D vwCl [(a_fl, oX1 fl_e fl_f fl_bias fl_codes fl_signBit fl_endless), (a_va, oX6 a_fl a_p2 u43_1 u43_2 u43_3 u43_4 u43_5 u43_6 u43_7), (a_p2, oX3 a_fl u43_8 u43_9 u43_10 u43_11), (a_st, oX5 a_fl a_va a_stT a_stB), (a_stT, .inl (cI, 25, .inl stT_r)), (a_stB, .inl (cI, 800, .inl stB_r))] H := hP
        replace hD : va_D A [(a_fl, oX1 fl_e fl_f fl_bias fl_codes fl_signBit fl_endless), (a_va, oX6 a_fl a_p2 u43_1 u43_2 u43_3 u43_4 u43_5 u43_6 u43_7), (a_p2, oX3 a_fl u43_8 u43_9 u43_10 u43_11), (a_st, oX5 a_fl a_va a_stT a_stB), (a_stT, .inl (cI, 25, .inl stT_r)), (a_stB, .inl (cI, 800, .inl stB_r))] := hD
        refine lv_istore (lv' := [(6, .int r43), (0, .ref a_st), (1, .int p1), (2, .int p2), (3, .int x3), (4, .int x4), (5, .int x5)]) hx hb dX5_take_46 hl (by decide) rfl (fun ls hl => ?_)
        refine lv_iload hx hb dX5_take_48 (lv_at hl 0 rfl) ?_
        refine lv_iload hx hb dX5_take_50 (lv_at hl 5 rfl) ?_
        refine lv_icmp_eq (tgt := 80) hx hb dX5_take_52 (by decide) (fun c_52 => ?_) (fun c_52 => ?_)
        · replace ho := ho.1 c_52
          exact C_80 u43_1 u43_2 u43_3 u43_4 u43_5 u43_6 u43_7 u43_8 u43_9 u43_10 u43_11 stT_r stB_r x3 x5 r43 H locs ls ho hP hD hS (lv_sub hl [1, 2, 3, 4, 6, 0] rfl)
        · replace ho := ho.2 c_52
          refine lv_aload_n hx hb dX5_take_55 rfl (lv_at hl 1 rfl) ?_
          refine va_get (D := D) (ci := 4) (v := .ref a_stT) (C := RX5) (T := TX5) (N := 4) hx hb hts inlX5 hown hK hP 3 rfl rfl 2 (by decide) (hts _ wl_82) (fun _ h9 => h9) rfl dX5_take_56 ?_
          refine lv_iload_n hx hb dX5_take_59 rfl (lv_at hl 4 rfl) ?_
          refine ca_Tv (As := [.ref a_stT, .int x3]) (rest := []) (wr := [(a_fl, oX1 fl_e fl_f fl_bias fl_codes fl_signBit fl_endless), (a_va, oX6 a_fl a_p2 u43_1 u43_2 u43_3 u43_4 u43_5 u43_6 u43_7), (a_p2, oX3 a_fl u43_8 u43_9 u43_10 u43_11), (a_st, oX5 a_fl a_va a_stT a_stB), (a_stB, .inl (cI, 800, .inl stB_r))]) (wo := fun (u : (Nat → Int32)) => [(a_stT, .inl (cI, 25, .inl u))]) (wn := fun (u : (Nat → Int32)) => [(a_fl, oX1 fl_e fl_f fl_bias fl_codes fl_signBit fl_endless), (a_va, oX6 a_fl a_p2 u43_1 u43_2 u43_3 u43_4 u43_5 u43_6 u43_7), (a_p2, oX3 a_fl u43_8 u43_9 u43_10 u43_11), (a_st, oX5 a_fl a_va a_stT a_stB), (a_stT, .inl (cI, 25, .inl u)), (a_stB, .inl (cI, 800, .inl stB_r))]) ⟨hx, hb, hml, hown, hts⟩ (c_X4_addOne l D cI cJ cZ a_stT H.size 25 stT_r x3 _ _ rfl ho) (va_cwS 2 hts (gdS wl_616 wl_133 wl_134 wl_135) rfl rfl rfl (by decide +kernel) ⟨hRf _ (Nat.le_of_ble_eq_true rfl), hRl _ (Nat.le_of_ble_eq_true rfl)⟩) hK hN hP hD hS hA [4] [0, 1, 2, 3, 5] [0, 1, 2, 3, 5, 4] rfl rfl (by decide) (by decide) (by decide) (by decide) (fun _ => rfl) rfl hl.1 rfl (Nat.le_of_ble_eq_true rfl) dX5_take_60 ⟨Nat.zero_le _, Nat.zero_le _⟩ (fun  u60 H locs ho hP hD hS => ?_)
          try dsimp only at ho
          replace hP : va_P D vwCl [(a_fl, oX1 fl_e fl_f fl_bias fl_codes fl_signBit fl_endless), (a_va, oX6 a_fl a_p2 u43_1 u43_2 u43_3 u43_4 u43_5 u43_6 u43_7), (a_p2, oX3 a_fl u43_8 u43_9 u43_10 u43_11), (a_st, oX5 a_fl a_va a_stT a_stB), (a_stT, .inl (cI, 25, .inl u60)), (a_stB, .inl (cI, 800, .inl stB_r))] H := hP
          replace hD : va_D A [(a_fl, oX1 fl_e fl_f fl_bias fl_codes fl_signBit fl_endless), (a_va, oX6 a_fl a_p2 u43_1 u43_2 u43_3 u43_4 u43_5 u43_6 u43_7), (a_p2, oX3 a_fl u43_8 u43_9 u43_10 u43_11), (a_st, oX5 a_fl a_va a_stT a_stB), (a_stT, .inl (cI, 25, .inl u60)), (a_stB, .inl (cI, 800, .inl stB_r))] := hD
          refine lv_aload_n hx hb dX5_take_63 rfl (lv_at hl 1 rfl) ?_
          refine va_get (D := D) (ci := 4) (v := .ref a_stB) (C := RX5) (T := TX5) (N := 4) hx hb hts inlX5 hown hK hP 3 rfl rfl 3 (by decide) (hts _ wl_83) (fun _ h9 => h9) rfl dX5_take_64 ?_
          refine lv_iload_n hx hb dX5_take_67 rfl (lv_at hl 4 rfl) ?_
          refine lv_bipush (v := 32) hx hb dX5_take_68 (by decide) ?_
          refine lv_imul hx hb dX5_take_70 ?_
          refine lv_iload hx hb dX5_take_71 (lv_at hl 6 rfl) ?_
          refine lv_bipush (v := 8) hx hb dX5_take_73 (by decide) ?_
          refine lv_ishr hx hb dX5_take_75 ?_
          refine lv_iadd hx hb dX5_take_76 ?_
          refine ca_Tv (As := [.ref a_stB, .int ((x3 * (32 : Int32)) + (x5 >>> ((8 : Int32) &&& 31)))]) (rest := []) (wr := [(a_fl, oX1 fl_e fl_f fl_bias fl_codes fl_signBit fl_endless), (a_va, oX6 a_fl a_p2 u43_1 u43_2 u43_3 u43_4 u43_5 u43_6 u43_7), (a_p2, oX3 a_fl u43_8 u43_9 u43_10 u43_11), (a_st, oX5 a_fl a_va a_stT a_stB), (a_stT, .inl (cI, 25, .inl u60))]) (wo := fun (u : (Nat → Int32)) => [(a_stB, .inl (cI, 800, .inl u))]) (wn := fun (u : (Nat → Int32)) => [(a_fl, oX1 fl_e fl_f fl_bias fl_codes fl_signBit fl_endless), (a_va, oX6 a_fl a_p2 u43_1 u43_2 u43_3 u43_4 u43_5 u43_6 u43_7), (a_p2, oX3 a_fl u43_8 u43_9 u43_10 u43_11), (a_st, oX5 a_fl a_va a_stT a_stB), (a_stT, .inl (cI, 25, .inl u60)), (a_stB, .inl (cI, 800, .inl u))]) ⟨hx, hb, hml, hown, hts⟩ (c_X4_addOne l D cI cJ cZ a_stB H.size 800 stB_r ((x3 * (32 : Int32)) + (x5 >>> ((8 : Int32) &&& 31))) _ _ rfl ho) (va_cwS 2 hts (gdS wl_616 wl_133 wl_134 wl_135) rfl rfl rfl (by decide +kernel) ⟨hRf _ (Nat.le_of_ble_eq_true rfl), hRl _ (Nat.le_of_ble_eq_true rfl)⟩) hK hN hP hD hS hA [5] [0, 1, 2, 3, 4] [0, 1, 2, 3, 4, 5] rfl rfl (by decide) (by decide) (by decide) (by decide) (fun _ => rfl) rfl hl.1 rfl (Nat.le_of_ble_eq_true rfl) dX5_take_77 ⟨Nat.zero_le _, Nat.zero_le _⟩ (fun  u77 H locs ho hP hD hS => ?_)
          try dsimp only at ho
          replace hP : va_P D vwCl [(a_fl, oX1 fl_e fl_f fl_bias fl_codes fl_signBit fl_endless), (a_va, oX6 a_fl a_p2 u43_1 u43_2 u43_3 u43_4 u43_5 u43_6 u43_7), (a_p2, oX3 a_fl u43_8 u43_9 u43_10 u43_11), (a_st, oX5 a_fl a_va a_stT a_stB), (a_stT, .inl (cI, 25, .inl u60)), (a_stB, .inl (cI, 800, .inl u77))] H := hP
          replace hD : va_D A [(a_fl, oX1 fl_e fl_f fl_bias fl_codes fl_signBit fl_endless), (a_va, oX6 a_fl a_p2 u43_1 u43_2 u43_3 u43_4 u43_5 u43_6 u43_7), (a_p2, oX3 a_fl u43_8 u43_9 u43_10 u43_11), (a_st, oX5 a_fl a_va a_stT a_stB), (a_stT, .inl (cI, 25, .inl u60)), (a_stB, .inl (cI, 800, .inl u77))] := hD
          exact C_80 u43_1 u43_2 u43_3 u43_4 u43_5 u43_6 u43_7 u43_8 u43_9 u43_10 u43_11 u60 u77 x3 x5 r43 H locs ls ho hP hD hS (lv_sub hl [1, 2, 3, 4, 6, 0] rfl)
  suffices main : ∀ (H : Heap) (locs : List Loc), va_P D vwCl [(a_fl, oX1 fl_e fl_f fl_bias fl_codes fl_signBit fl_endless), (a_va, oX6 a_fl a_p2 va_m va_x va_more va_laid va_below va_settled va_sort), (a_p2, oX3 a_fl p2_lower p2_way p2_more p2_beyond), (a_st, oX5 a_fl a_va a_stT a_stB), (a_stT, .inl (cI, 25, .inl stT_r)), (a_stB, .inl (cI, 800, .inl stB_r))] H → va_S A s.heap H locs → W p l e R s m args below meth c H locs 0 0 Q (F0 m 0 ls []) from main _ _ hP hS
  intro H locs hP hS
  unfold wp_X5_take at ho
  refine lv_aload_n hx hb dX5_take_0 rfl (lv_at hl 0 rfl) ?_
  refine lv_iload_n hx hb dX5_take_1 rfl (lv_at hl 1 rfl) ?_
  refine lv_iload_n hx hb dX5_take_2 rfl (lv_at hl 2 rfl) ?_
  refine ca_Vi (b := a_st) (As := [.int p1, .int p2]) (rest := []) ⟨hx, hb, hml, hown, hts⟩ (c_X5_total l D cI cJ cZ a_fl a_va a_st a_stT a_stB stT_r p1 p2 _ ho) (cwV 2 hts (gdV wl_610 wl_611 wl_612 wl_30 wl_613) rfl rfl rfl (by decide +kernel) ⟨hRf _ (Nat.le_of_ble_eq_true rfl), hRl _ (Nat.le_of_ble_eq_true rfl)⟩) hK hN hP [3, 4] rfl 0 4 rfl rfl rfl rfl hl.1 rfl (Nat.le_of_ble_eq_true rfl) dX5_take_3 ⟨Nat.zero_le _, Nat.zero_le _⟩ (fun r3 ho => ?_)
  refine lv_if_eq (tgt := 10) hx hb dX5_take_6 (by decide) (fun c_6 => ?_) (fun c_6 => ?_)
  · replace ho := ho.1 c_6
    refine lv_iload_n hx hb dX5_take_10 rfl (lv_at hl 1 rfl) ?_
    refine lv_iconst (v := 5) hx hb dX5_take_11 (by decide) ?_
    refine lv_imul hx hb dX5_take_12 ?_
    refine lv_iload_n hx hb dX5_take_13 rfl (lv_at hl 2 rfl) ?_
    refine lv_iadd hx hb dX5_take_14 ?_
    refine lv_istore_n (lv' := [(3, .int ((p1 * (5 : Int32)) + p2)), (0, .ref a_st), (1, .int p1), (2, .int p2)]) hx hb dX5_take_15 rfl hl (by decide) rfl (fun ls hl => ?_)
    refine lv_bipush (v := (-9)) hx hb dX5_take_16 (by decide) ?_
    refine lv_istore (lv' := [(4, .int (-9 : Int32)), (3, .int ((p1 * (5 : Int32)) + p2)), (0, .ref a_st), (1, .int p1), (2, .int p2)]) hx hb dX5_take_18 hl (by decide) rfl (fun ls hl => ?_)
    refine lv_iconst (v := 1) hx hb dX5_take_20 (by decide) ?_
    refine lv_istore (lv' := [(5, .int (1 : Int32)), (4, .int (-9 : Int32)), (3, .int ((p1 * (5 : Int32)) + p2)), (0, .ref a_st), (1, .int p1), (2, .int p2)]) hx hb dX5_take_21 hl (by decide) rfl (fun ls hl => ?_)
    obtain ⟨n_23, ho⟩ := ho
    exact C_23 n_23 va_m va_x va_more va_laid va_below va_settled va_sort p2_lower p2_way p2_more p2_beyond stT_r stB_r ((p1 * (5 : Int32)) + p2) (-9 : Int32) (1 : Int32) H locs ls ho hP hD hS (lv_sub hl [3, 4, 5, 2, 1, 0] rfl)
  · replace ho := ho.2 c_6
    subst hQ; exact W.vret hx hb hr (fun t ht hW => ⟨⟨(va_m, va_x, va_more, va_laid, va_below, va_settled, va_sort, p2_lower, p2_way, p2_more, p2_beyond, stT_r, stB_r), rfl, ho, by rw [ht]; exact hP, hD⟩, hS.F ht⟩) (fun q hq => hS.2.2 q hq) dX5_take_9
