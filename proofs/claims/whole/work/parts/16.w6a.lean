def w_X6_keep : List Cond := .code yX6_keep cX6_keep 5 none :: wsL_law
set_option maxHeartbeats 4000000 in
set_option maxRecDepth 100000 in
theorem c_X6_keep (l : Launch) (D : va_G) (cI cJ cZ : ClassId) (a_fl : Nat) (a_va : Nat) (a_p2 : Nat) (sz : Nat) (va_m : Int64) (va_x : Int32) (va_more : Int32) (va_laid : Int32) (va_below : Int32) (va_settled : Int32) (va_sort : Int32) (p1 : Int64) (p2 : Int32) (p3 : Int32) (post : Int64 → Int32 → Int32 → Prop) (A : Nat → Prop) (hAe : A = va_A [(a_va, oX6 a_fl a_p2 va_m va_x va_more va_laid va_below va_settled va_sort)] sz) (ho : wp_X6_keep post p1 p2 p3) : Met l yX6_keep w_X6_keep ({ frames := 0, cells := 0, slots := 0, locals := 0 } : Room) (rw_P D [(cI, .int), (cJ, .long), (cZ, .boolean)] [.ref a_va, .long p1, .int p2, .int p3] sz [(a_va, oX6 a_fl a_p2 va_m va_x va_more va_laid va_below va_settled va_sort)]) (va_Qv (fun (u : (Int64) × (Int32) × (Int32)) => post u.1 u.2.1 u.2.2) (rw_B D A (fun (u : (Int64) × (Int32) × (Int32)) => [(a_va, oX6 a_fl a_p2 u.1 u.2.1 u.2.2 va_laid va_below va_settled va_sort)])) A) 0 0 A := by
  refine Met.ofW (cc := cX6_keep) (maxL := 5) (ret := none) (by decide) rfl ?_
  intro p e s m args below meth c s₁ B hml hv
  obtain ⟨hargs, hsz, hP, hK, hN, hD0⟩ := hv
  have hx := B.exec
  have hb := B.bytes
  have hr := B.returns
  have hts : ∀ w ∈ wsL_law, w.before args s = true := fun w h => atoms_spec (ws := w_X6_keep) B.pre w (List.mem_cons_of_mem _ h)
  have hown : s.vm.findClass RX6 = some m.cls := findClass_of_methodNamed B.named
  have hlocks := B.notSynchronized
  subst hsz
  have hD : va_D A [(a_va, oX6 a_fl a_p2 va_m va_x va_more va_laid va_below va_settled va_sort)] := by rw [hAe]; exact hD0.self
  have hA : ∀ q : Nat, s.heap.size ≤ q → A q := fun q h => by rw [hAe]; exact Or.inr h
  have hS : va_S A s.heap s.heap [] := va_S.rf
  have hl := lv_entry ([.ref a_va, .long p1, .int p2, .int p3]) (n := 5) (Nat.le_of_ble_eq_true rfl)
  rw [hargs, lg_entry_eq, ← hargs]
  generalize (lg_sl ([.ref a_va, .long p1, .int p2, .int p3]) ++ List.replicate (5 - (lg_sl ([.ref a_va, .long p1, .int p2, .int p3])).length) Slot.unset).toArray = ls at hl ⊢
  replace hl : lv_has ls 5 [(0, .ref a_va), (1, .long p1), (3, .int p2), (4, .int p3)] := hl
  have hRf : ∀ n, n ≤ 0 → n ≤ (headSpec w_X6_keep ({ frames := 0, cells := 0, slots := 0, locals := 0 } : Room)).room.frames := fun n h => h
  have hRl : ∀ n, n ≤ 0 → n ≤ (headSpec w_X6_keep ({ frames := 0, cells := 0, slots := 0, locals := 0 } : Room)).room.locals := fun n h => h
  generalize (headSpec w_X6_keep ({ frames := 0, cells := 0, slots := 0, locals := 0 } : Room)).room = R at hRf hRl ⊢
  generalize hQ : MQ below _ args s 0 0 _ = Q
  suffices main : ∀ (H : Heap) (locs : List Loc), va_P D vwCl [(a_va, oX6 a_fl a_p2 va_m va_x va_more va_laid va_below va_settled va_sort)] H → va_S A s.heap H locs → W p l e R s m args below meth c H locs 0 0 Q (F0 m 0 ls []) from main _ _ hP hS
  intro H locs hP hS
  unfold wp_X6_keep at ho
  refine lv_aload_n hx hb dX6_keep_0 rfl (lv_at hl 0 rfl) ?_
  refine lv_lload_n hx hb dX6_keep_1 rfl (lv_at hl 1 rfl) ?_
  refine va_put (D := D) (ci := 5) (v := .long p1) (ty := .long) (C := RX6) (T := TX6) (N := 9) hx hb hts inlX6 tyX6 tyX6_ok nmX6 hown hK hP hD hS 0 rfl rfl 2 (by decide) (hts _ wl_415) (fun _ h9 => h9) rfl (by decide +kernel) rfl rfl (Nat.le_of_ble_eq_true rfl) dX6_keep_2 (fun H locs hP hD hS => ?_)
  replace hP : va_P D vwCl [(a_va, oX6 a_fl a_p2 p1 va_x va_more va_laid va_below va_settled va_sort)] H := hP
  replace hD : va_D A [(a_va, oX6 a_fl a_p2 p1 va_x va_more va_laid va_below va_settled va_sort)] := hD
  refine lv_aload_n hx hb dX6_keep_5 rfl (lv_at hl 0 rfl) ?_
  refine lv_iload_n hx hb dX6_keep_6 rfl (lv_at hl 2 rfl) ?_
  refine va_put (D := D) (ci := 5) (v := .int p2) (ty := .int) (C := RX6) (T := TX6) (N := 9) hx hb hts inlX6 tyX6 tyX6_ok nmX6 hown hK hP hD hS 0 rfl rfl 3 (by decide) (hts _ wl_416) (fun _ h9 => h9) rfl (by decide +kernel) rfl rfl (Nat.le_of_ble_eq_true rfl) dX6_keep_7 (fun H locs hP hD hS => ?_)
  replace hP : va_P D vwCl [(a_va, oX6 a_fl a_p2 p1 p2 va_more va_laid va_below va_settled va_sort)] H := hP
  replace hD : va_D A [(a_va, oX6 a_fl a_p2 p1 p2 va_more va_laid va_below va_settled va_sort)] := hD
  refine lv_aload_n hx hb dX6_keep_10 rfl (lv_at hl 0 rfl) ?_
  refine lv_iload hx hb dX6_keep_11 (lv_at hl 3 rfl) ?_
  have o_13 := ho.1
  replace ho := ho.2
  refine va_put (D := D) (ci := 5) (v := .int p3) (ty := .boolean) (C := RX6) (T := TX6) (N := 9) hx hb hts inlX6 tyX6 tyX6_ok nmX6 hown hK hP hD hS 0 rfl rfl 4 (by decide) (hts _ wl_417) (fun _ h9 => h9) rfl (by decide +kernel) (bz_n o_13) (bz_f o_13) (Nat.le_of_ble_eq_true rfl) dX6_keep_13 (fun H locs hP hD hS => ?_)
  replace hP : va_P D vwCl [(a_va, oX6 a_fl a_p2 p1 p2 p3 va_laid va_below va_settled va_sort)] H := hP
  replace hD : va_D A [(a_va, oX6 a_fl a_p2 p1 p2 p3 va_laid va_below va_settled va_sort)] := hD
  subst hQ; exact W.vret hx hb hr (fun t ht hW => ⟨⟨(p1, p2, p3), rfl, ho, by rw [ht]; exact hP, hD⟩, hS.F ht⟩) (fun q hq => hS.2.2 q hq) dX6_keep_16

def w_X6_reckonOver : List Cond := .code yX6_reckonOver cX6_reckonOver 7 none :: wsL_law
set_option maxHeartbeats 4000000 in
set_option maxRecDepth 100000 in
theorem c_X6_reckonOver (l : Launch) (D : va_G) (cI cJ cZ : ClassId) (a_fl : Nat) (a_va : Nat) (a_p2 : Nat) (sz : Nat) (va_m : Int64) (va_x : Int32) (va_more : Int32) (va_laid : Int32) (va_below : Int32) (va_settled : Int32) (va_sort : Int32) (p1 : Int32) (p2 : Int32) (post : Int64 → Int32 → Int32 → Prop) (A : Nat → Prop) (hAe : A = va_A [(a_va, oX6 a_fl a_p2 va_m va_x va_more va_laid va_below va_settled va_sort)] sz) (ho : wp_X6_reckonOver post p1 p2) : Met l yX6_reckonOver w_X6_reckonOver ({ frames := 1, cells := 0, slots := 0, locals := 24 } : Room) (rw_P D [(cI, .int), (cJ, .long), (cZ, .boolean)] [.ref a_va, .int p1, .int p2] sz [(a_va, oX6 a_fl a_p2 va_m va_x va_more va_laid va_below va_settled va_sort)]) (va_Qv (fun (u : (Int64) × (Int32) × (Int32)) => post u.1 u.2.1 u.2.2) (rw_B D A (fun (u : (Int64) × (Int32) × (Int32)) => [(a_va, oX6 a_fl a_p2 u.1 u.2.1 u.2.2 va_laid va_below va_settled va_sort)])) A) 0 0 A := by
  refine Met.ofW (cc := cX6_reckonOver) (maxL := 7) (ret := none) (by decide) rfl ?_
  intro p e s m args below meth c s₁ B hml hv
  obtain ⟨hargs, hsz, hP, hK, hN, hD0⟩ := hv
  have hx := B.exec
  have hb := B.bytes
  have hr := B.returns
  have hts : ∀ w ∈ wsL_law, w.before args s = true := fun w h => atoms_spec (ws := w_X6_reckonOver) B.pre w (List.mem_cons_of_mem _ h)
  have hown : s.vm.findClass RX6 = some m.cls := findClass_of_methodNamed B.named
  have hlocks := B.notSynchronized
  subst hsz
  have hD : va_D A [(a_va, oX6 a_fl a_p2 va_m va_x va_more va_laid va_below va_settled va_sort)] := by rw [hAe]; exact hD0.self
  have hA : ∀ q : Nat, s.heap.size ≤ q → A q := fun q h => by rw [hAe]; exact Or.inr h
  have hS : va_S A s.heap s.heap [] := va_S.rf
  have hl := lv_entry ([.ref a_va, .int p1, .int p2]) (n := 7) (Nat.le_of_ble_eq_true rfl)
  rw [hargs, lg_entry_eq, ← hargs]
  generalize (lg_sl ([.ref a_va, .int p1, .int p2]) ++ List.replicate (7 - (lg_sl ([.ref a_va, .int p1, .int p2])).length) Slot.unset).toArray = ls at hl ⊢
  replace hl : lv_has ls 7 [(0, .ref a_va), (1, .int p1), (2, .int p2)] := hl
  have hRf : ∀ n, n ≤ 1 → n ≤ (headSpec w_X6_reckonOver ({ frames := 1, cells := 0, slots := 0, locals := 24 } : Room)).room.frames := fun n h => h
  have hRl : ∀ n, n ≤ 24 → n ≤ (headSpec w_X6_reckonOver ({ frames := 1, cells := 0, slots := 0, locals := 24 } : Room)).room.locals := fun n h => h
  generalize (headSpec w_X6_reckonOver ({ frames := 1, cells := 0, slots := 0, locals := 24 } : Room)).room = R at hRf hRl ⊢
  generalize hQ : MQ below _ args s 0 0 _ = Q
  have C_41 : ∀ (va_m : Int64) (va_x : Int32) (va_more : Int32) (y0 : Int32) (y1 : Int32) (y2 : Int64) (H : Heap) (locs : List Loc) (ls : Array Slot), wp_X6_reckonOver_41 post  y0 y1 y2 → va_P D vwCl [(a_va, oX6 a_fl a_p2 va_m va_x va_more va_laid va_below va_settled va_sort)] H → va_D A [(a_va, oX6 a_fl a_p2 va_m va_x va_more va_laid va_below va_settled va_sort)] → va_S A s.heap H locs → lv_has ls 7 [] → W p l e R s m args below meth c H locs 0 0 Q (F0 m 41 ls [.int y0, .int y1, .long y2, .ref a_va]) := by
    intro va_m va_x va_more y0 y1 y2 H locs ls ho hP hD hS hl
    unfold wp_X6_reckonOver_41 at ho
    refine ca_Wv (b := a_va) (As := [.long y2, .int y1, .int y0]) (rest := []) (wr := []) (wo := fun (u : (Int64) × (Int32) × (Int32)) => [(a_va, oX6 a_fl a_p2 u.1 u.2.1 u.2.2 va_laid va_below va_settled va_sort)]) (wn := fun (u : (Int64) × (Int32) × (Int32)) => [(a_va, oX6 a_fl a_p2 u.1 u.2.1 u.2.2 va_laid va_below va_settled va_sort)]) ⟨hx, hb, hml, hown, hts⟩ (c_X6_keep l D cI cJ cZ a_fl a_va a_p2 H.size va_m va_x va_more va_laid va_below va_settled va_sort y2 y1 y0 _ _ rfl ho) (cwV 3 hts (gdV wl_433 wl_434 wl_435 wl_22 wl_436) rfl rfl rfl (by decide +kernel) ⟨hRf _ (Nat.le_of_ble_eq_true rfl), hRl _ (Nat.le_of_ble_eq_true rfl)⟩) hK hN hP hD hS hA [0] [] [0] rfl rfl (by decide) (by decide) (by decide) (by decide) (fun _ => rfl) 0 5 rfl rfl rfl rfl hl.1 rfl (Nat.le_of_ble_eq_true rfl) dX6_reckonOver_41 ⟨Nat.zero_le _, Nat.zero_le _⟩ (fun  u41 H locs ho hP hD hS => ?_)
    obtain ⟨u41_1, u41_2, u41_3⟩ := u41
    try dsimp only at ho
    replace hP : va_P D vwCl [(a_va, oX6 a_fl a_p2 u41_1 u41_2 u41_3 va_laid va_below va_settled va_sort)] H := hP
    replace hD : va_D A [(a_va, oX6 a_fl a_p2 u41_1 u41_2 u41_3 va_laid va_below va_settled va_sort)] := hD
    subst hQ; exact W.vret hx hb hr (fun t ht hW => ⟨⟨(u41_1, u41_2, u41_3), rfl, ho, by rw [ht]; exact hP, hD⟩, hS.F ht⟩) (fun q hq => hS.2.2 q hq) dX6_reckonOver_44
  have C_16 : ∀ (va_m : Int64) (va_x : Int32) (va_more : Int32) (x3 : Int64) (y0 : Int64) (H : Heap) (locs : List Loc) (ls : Array Slot), wp_X6_reckonOver_16 post  p1 p2 x3 y0 → va_P D vwCl [(a_va, oX6 a_fl a_p2 va_m va_x va_more va_laid va_below va_settled va_sort)] H → va_D A [(a_va, oX6 a_fl a_p2 va_m va_x va_more va_laid va_below va_settled va_sort)] → va_S A s.heap H locs → lv_has ls 7 [(0, .ref a_va), (1, .int p1), (2, .int p2), (3, .long x3)] → W p l e R s m args below meth c H locs 0 0 Q (F0 m 16 ls [.long y0]) := by
    intro va_m va_x va_more x3 y0 H locs ls ho hP hD hS hl
    unfold wp_X6_reckonOver_16 at ho
    refine lv_lstore (lv' := [(5, .long y0), (0, .ref a_va), (1, .int p1), (2, .int p2), (3, .long x3)]) hx hb dX6_reckonOver_16 hl (by decide) rfl (fun ls hl => ?_)
    refine lv_aload_n hx hb dX6_reckonOver_18 rfl (lv_at hl 1 rfl) ?_
    refine lv_lload hx hb dX6_reckonOver_19 (lv_at hl 0 rfl) ?_
    refine lv_iload_n hx hb dX6_reckonOver_21 rfl (lv_at hl 3 rfl) ?_
    refine lv_ineg hx hb dX6_reckonOver_22 ?_
    refine lv_bipush (v := 40) hx hb dX6_reckonOver_23 (by decide) ?_
    refine lv_isub hx hb dX6_reckonOver_25 ?_
    refine lv_lload hx hb dX6_reckonOver_26 (lv_at hl 0 rfl) ?_
    refine lv_iload_n hx hb dX6_reckonOver_28 rfl (lv_at hl 2 rfl) ?_
    refine lv_i2l hx hb dX6_reckonOver_29 rfl ?_
    refine lv_lmul hx hb dX6_reckonOver_30 ?_
    refine lv_lload_n hx hb dX6_reckonOver_31 rfl (lv_at hl 4 rfl) ?_
    refine W.lcmp hx hb dX6_reckonOver_32 ?_
    refine lv_if_eq (tgt := 40) hx hb dX6_reckonOver_33 (by decide) (fun c_33 => ?_) (fun c_33 => ?_)
    · replace ho := ho.1 c_33
      refine lv_iconst (v := 0) hx hb dX6_reckonOver_40 (by decide) ?_
      exact C_41 va_m va_x va_more (0 : Int32) ((-p2) - (40 : Int32)) y0 H locs ls ho hP hD hS (lv_sub hl [] rfl)
    · replace ho := ho.2 c_33
      refine lv_iconst (v := 1) hx hb dX6_reckonOver_36 (by decide) ?_
      refine lv_goto (tgt := 41) hx hb dX6_reckonOver_37 (by decide) ?_
      exact C_41 va_m va_x va_more (1 : Int32) ((-p2) - (40 : Int32)) y0 H locs ls ho hP hD hS (lv_sub hl [] rfl)
  suffices main : ∀ (H : Heap) (locs : List Loc), va_P D vwCl [(a_va, oX6 a_fl a_p2 va_m va_x va_more va_laid va_below va_settled va_sort)] H → va_S A s.heap H locs → W p l e R s m args below meth c H locs 0 0 Q (F0 m 0 ls []) from main _ _ hP hS
  intro H locs hP hS
  unfold wp_X6_reckonOver at ho
  refine lv_ldc2 hx hb hown (hts _ wl_432) dX6_reckonOver_0 ?_
  refine lv_lstore_n (lv' := [(3, .long (1099511627776 : Int64)), (0, .ref a_va), (1, .int p1), (2, .int p2)]) hx hb dX6_reckonOver_3 rfl hl (by decide) rfl (fun ls hl => ?_)
  refine lv_iload_n hx hb dX6_reckonOver_4 rfl (lv_at hl 2 rfl) ?_
  refine lv_if_le (tgt := 15) hx hb dX6_reckonOver_5 (by decide) (fun c_5 => ?_) (fun c_5 => ?_)
  · replace ho := ho.1 c_5
    refine lv_lload_n hx hb dX6_reckonOver_15 rfl (lv_at hl 0 rfl) ?_
    exact C_16 va_m va_x va_more (1099511627776 : Int64) (1099511627776 : Int64) H locs ls ho hP hD hS (lv_sub hl [1, 2, 3, 0] rfl)
  · replace ho := ho.2 c_5
    refine lv_lload_n hx hb dX6_reckonOver_8 rfl (lv_at hl 0 rfl) ?_
    refine lv_iload_n hx hb dX6_reckonOver_9 rfl (lv_at hl 2 rfl) ?_
    refine lv_i2l hx hb dX6_reckonOver_10 rfl ?_
    have o_11 := ho.1
    replace ho := ho.2
    refine lv_ldiv hx hb dX6_reckonOver_11 o_11 ?_
    refine lv_goto (tgt := 16) hx hb dX6_reckonOver_12 (by decide) ?_
    exact C_16 va_m va_x va_more (1099511627776 : Int64) ((1099511627776 : Int64) / p1.toInt64) H locs ls ho hP hD hS (lv_sub hl [1, 2, 3, 0] rfl)

def w_X6_reckonRoot : List Cond := .code yX6_reckonRoot cX6_reckonRoot 11 none :: wsL_law
set_option maxHeartbeats 4000000 in
set_option maxRecDepth 100000 in
theorem c_X6_reckonRoot (l : Launch) (D : va_G) (cI cJ cZ : ClassId) (a_fl : Nat) (a_va : Nat) (a_p2 : Nat) (sz : Nat) (va_m : Int64) (va_x : Int32) (va_more : Int32) (va_laid : Int32) (va_below : Int32) (va_settled : Int32) (va_sort : Int32) (p1 : Int32) (p2 : Int32) (post : Int64 → Int32 → Int32 → Prop) (A : Nat → Prop) (hAe : A = va_A [(a_va, oX6 a_fl a_p2 va_m va_x va_more va_laid va_below va_settled va_sort)] sz) (ho : wp_X6_reckonRoot post va_m va_x va_more p1 p2) : Met l yX6_reckonRoot w_X6_reckonRoot ({ frames := 1, cells := 0, slots := 0, locals := 24 } : Room) (rw_P D [(cI, .int), (cJ, .long), (cZ, .boolean)] [.ref a_va, .int p1, .int p2] sz [(a_va, oX6 a_fl a_p2 va_m va_x va_more va_laid va_below va_settled va_sort)]) (va_Qv (fun (u : (Int64) × (Int32) × (Int32)) => post u.1 u.2.1 u.2.2) (rw_B D A (fun (u : (Int64) × (Int32) × (Int32)) => [(a_va, oX6 a_fl a_p2 u.1 u.2.1 u.2.2 va_laid va_below va_settled va_sort)])) A) 0 0 A := by
  refine Met.ofW (cc := cX6_reckonRoot) (maxL := 11) (ret := none) (by decide) rfl ?_
  intro p e s m args below meth c s₁ B hml hv
  obtain ⟨hargs, hsz, hP, hK, hN, hD0⟩ := hv
  have hx := B.exec
  have hb := B.bytes
  have hr := B.returns
  have hts : ∀ w ∈ wsL_law, w.before args s = true := fun w h => atoms_spec (ws := w_X6_reckonRoot) B.pre w (List.mem_cons_of_mem _ h)
  have hown : s.vm.findClass RX6 = some m.cls := findClass_of_methodNamed B.named
  have hlocks := B.notSynchronized
  subst hsz
  have hD : va_D A [(a_va, oX6 a_fl a_p2 va_m va_x va_more va_laid va_below va_settled va_sort)] := by rw [hAe]; exact hD0.self
  have hA : ∀ q : Nat, s.heap.size ≤ q → A q := fun q h => by rw [hAe]; exact Or.inr h
  have hS : va_S A s.heap s.heap [] := va_S.rf
  have hl := lv_entry ([.ref a_va, .int p1, .int p2]) (n := 11) (Nat.le_of_ble_eq_true rfl)
  rw [hargs, lg_entry_eq, ← hargs]
  generalize (lg_sl ([.ref a_va, .int p1, .int p2]) ++ List.replicate (11 - (lg_sl ([.ref a_va, .int p1, .int p2])).length) Slot.unset).toArray = ls at hl ⊢
  replace hl : lv_has ls 11 [(0, .ref a_va), (1, .int p1), (2, .int p2)] := hl
  have hRf : ∀ n, n ≤ 1 → n ≤ (headSpec w_X6_reckonRoot ({ frames := 1, cells := 0, slots := 0, locals := 24 } : Room)).room.frames := fun n h => h
  have hRl : ∀ n, n ≤ 24 → n ≤ (headSpec w_X6_reckonRoot ({ frames := 1, cells := 0, slots := 0, locals := 24 } : Room)).room.locals := fun n h => h
  generalize (headSpec w_X6_reckonRoot ({ frames := 1, cells := 0, slots := 0, locals := 24 } : Room)).room = R at hRf hRl ⊢
  generalize hQ : MQ below _ args s 0 0 _ = Q
  have C_92 : ∀ (va_m : Int64) (va_x : Int32) (va_more : Int32) (y0 : Int32) (y1 : Int32) (y2 : Int64) (H : Heap) (locs : List Loc) (ls : Array Slot), wp_X6_reckonRoot_92 post  y0 y1 y2 → va_P D vwCl [(a_va, oX6 a_fl a_p2 va_m va_x va_more va_laid va_below va_settled va_sort)] H → va_D A [(a_va, oX6 a_fl a_p2 va_m va_x va_more va_laid va_below va_settled va_sort)] → va_S A s.heap H locs → lv_has ls 11 [] → W p l e R s m args below meth c H locs 0 0 Q (F0 m 92 ls [.int y0, .int y1, .long y2, .ref a_va]) := by
    intro va_m va_x va_more y0 y1 y2 H locs ls ho hP hD hS hl
    unfold wp_X6_reckonRoot_92 at ho
    refine ca_Wv (b := a_va) (As := [.long y2, .int y1, .int y0]) (rest := []) (wr := []) (wo := fun (u : (Int64) × (Int32) × (Int32)) => [(a_va, oX6 a_fl a_p2 u.1 u.2.1 u.2.2 va_laid va_below va_settled va_sort)]) (wn := fun (u : (Int64) × (Int32) × (Int32)) => [(a_va, oX6 a_fl a_p2 u.1 u.2.1 u.2.2 va_laid va_below va_settled va_sort)]) ⟨hx, hb, hml, hown, hts⟩ (c_X6_keep l D cI cJ cZ a_fl a_va a_p2 H.size va_m va_x va_more va_laid va_below va_settled va_sort y2 y1 y0 _ _ rfl ho) (cwV 3 hts (gdV wl_433 wl_434 wl_435 wl_22 wl_436) rfl rfl rfl (by decide +kernel) ⟨hRf _ (Nat.le_of_ble_eq_true rfl), hRl _ (Nat.le_of_ble_eq_true rfl)⟩) hK hN hP hD hS hA [0] [] [0] rfl rfl (by decide) (by decide) (by decide) (by decide) (fun _ => rfl) 0 5 rfl rfl rfl rfl hl.1 rfl (Nat.le_of_ble_eq_true rfl) dX6_reckonRoot_92 ⟨Nat.zero_le _, Nat.zero_le _⟩ (fun  u92 H locs ho hP hD hS => ?_)
    obtain ⟨u92_1, u92_2, u92_3⟩ := u92
    try dsimp only at ho
    replace hP : va_P D vwCl [(a_va, oX6 a_fl a_p2 u92_1 u92_2 u92_3 va_laid va_below va_settled va_sort)] H := hP
    replace hD : va_D A [(a_va, oX6 a_fl a_p2 u92_1 u92_2 u92_3 va_laid va_below va_settled va_sort)] := hD
    subst hQ; exact W.vret hx hb hr (fun t ht hW => ⟨⟨(u92_1, u92_2, u92_3), rfl, ho, by rw [ht]; exact hP, hD⟩, hS.F ht⟩) (fun q hq => hS.2.2 q hq) dX6_reckonRoot_95
  have C_31 : ∀ n : Nat, ∀ (va_m : Int64) (va_x : Int32) (va_more : Int32) (x3 : Int32) (x4 : Int64) (x6 : Int64) (x8 : Int32) (H : Heap) (locs : List Loc) (ls : Array Slot), wp_X6_reckonRoot_31 post  p2 n va_m va_x va_more x3 x4 x6 x8 → va_P D vwCl [(a_va, oX6 a_fl a_p2 va_m va_x va_more va_laid va_below va_settled va_sort)] H → va_D A [(a_va, oX6 a_fl a_p2 va_m va_x va_more va_laid va_below va_settled va_sort)] → va_S A s.heap H locs → lv_has ls 11 [(0, .ref a_va), (2, .int p2), (3, .int x3), (4, .long x4), (6, .long x6), (8, .int x8)] → W p l e R s m args below meth c H locs 0 0 Q (F0 m 31 ls []) := by
    intro n
    induction n with
    | zero => intro va_m va_x va_more x3 x4 x6 x8 H locs ls ho hP hD hS hl; exact ho.elim
    | succ n_31 ih_31 =>
      have C_60 : ∀ (va_m : Int64) (va_x : Int32) (va_more : Int32) (x3 : Int32) (x4 : Int64) (x6 : Int64) (x8 : Int32) (H : Heap) (locs : List Loc) (ls : Array Slot), wp_X6_reckonRoot_60 post (wp_X6_reckonRoot_31 post p2 n_31) va_m va_x va_more x3 x4 x6 x8 → va_P D vwCl [(a_va, oX6 a_fl a_p2 va_m va_x va_more va_laid va_below va_settled va_sort)] H → va_D A [(a_va, oX6 a_fl a_p2 va_m va_x va_more va_laid va_below va_settled va_sort)] → va_S A s.heap H locs → lv_has ls 11 [(0, .ref a_va), (2, .int p2), (3, .int x3), (4, .long x4), (6, .long x6), (8, .int x8)] → W p l e R s m args below meth c H locs 0 0 Q (F0 m 60 ls []) := by
        intro va_m va_x va_more x3 x4 x6 x8 H locs ls ho hP hD hS hl
        unfold wp_X6_reckonRoot_60 at ho
        refine lv_iinc (v := (x8 + (-1 : Int32))) (lv' := [(8, .int (x8 + (-1 : Int32))), (0, .ref a_va), (2, .int p2), (3, .int x3), (4, .long x4), (6, .long x6)]) hx hb dX6_reckonRoot_60 hl (k := 5) rfl rfl (by decide) rfl (fun ls hl => ?_)
        refine lv_goto (tgt := 31) hx hb dX6_reckonRoot_63 (by decide) ?_
        exact ih_31 va_m va_x va_more x3 x4 x6 (x8 + (-1 : Int32)) H locs ls ho hP hD hS (lv_sub hl [1, 2, 3, 4, 5, 0] rfl)
      intro va_m va_x va_more x3 x4 x6 x8 H locs ls ho hP hD hS hl
      replace ho : wp_X6_reckonRoot_31_b post p2 (wp_X6_reckonRoot_31 post p2 n_31) va_m va_x va_more x3 x4 x6 x8 := ho
      unfold wp_X6_reckonRoot_31_b at ho
      refine lv_iload hx hb dX6_reckonRoot_31 (lv_at hl 5 rfl) ?_
      refine lv_if_lt (tgt := 66) hx hb dX6_reckonRoot_33 (by decide) (fun c_33 => ?_) (fun c_33 => ?_)
      · replace ho := ho.1 c_33
        refine lv_aload_n hx hb dX6_reckonRoot_66 rfl (lv_at hl 0 rfl) ?_
        refine lv_lload hx hb dX6_reckonRoot_67 (lv_at hl 4 rfl) ?_
        refine lv_iload_n hx hb dX6_reckonRoot_69 rfl (lv_at hl 1 rfl) ?_
        refine lv_iload_n hx hb dX6_reckonRoot_70 rfl (lv_at hl 2 rfl) ?_
        refine lv_isub hx hb dX6_reckonRoot_71 ?_
        refine lv_iconst (v := 2) hx hb dX6_reckonRoot_72 (by decide) ?_
        refine ca_Si (As := [.int (p2 - x3), .int (2 : Int32)]) (rest := [.long x6, .ref a_va]) ⟨hx, hb, hml, hown, hts⟩ (c_J9_floorDiv_7cf53 l D cI cJ cZ   (p2 - x3) (2 : Int32) _ ho) (va_cwS 2 hts (gdS wl_446 wl_447 wl_244 wl_448) rfl rfl rfl (by decide +kernel) ⟨hRf _ (Nat.le_of_ble_eq_true rfl), hRl _ (Nat.le_of_ble_eq_true rfl)⟩) hK hN hP [] rfl rfl hl.1 rfl (Nat.le_of_ble_eq_true rfl) dX6_reckonRoot_73 ⟨Nat.zero_le _, Nat.zero_le _⟩ (fun r73 ho => ?_)
        refine lv_lload hx hb dX6_reckonRoot_76 (lv_at hl 4 rfl) ?_
        refine lv_lload hx hb dX6_reckonRoot_78 (lv_at hl 4 rfl) ?_
        refine lv_lmul hx hb dX6_reckonRoot_80 ?_
        refine lv_lload hx hb dX6_reckonRoot_81 (lv_at hl 3 rfl) ?_
        refine W.lcmp hx hb dX6_reckonRoot_83 ?_
        refine lv_if_eq (tgt := 91) hx hb dX6_reckonRoot_84 (by decide) (fun c_84 => ?_) (fun c_84 => ?_)
        · replace ho := ho.1 c_84
          refine lv_iconst (v := 0) hx hb dX6_reckonRoot_91 (by decide) ?_
          exact C_92 va_m va_x va_more (0 : Int32) r73 x6 H locs ls ho hP hD hS (lv_sub hl [] rfl)
        · replace ho := ho.2 c_84
          refine lv_iconst (v := 1) hx hb dX6_reckonRoot_87 (by decide) ?_
          refine lv_goto (tgt := 92) hx hb dX6_reckonRoot_88 (by decide) ?_
          exact C_92 va_m va_x va_more (1 : Int32) r73 x6 H locs ls ho hP hD hS (lv_sub hl [] rfl)
      · replace ho := ho.2 c_33
        refine lv_lload hx hb dX6_reckonRoot_36 (lv_at hl 4 rfl) ?_
        refine lv_lconst (v := 1) hx hb dX6_reckonRoot_38 (by decide) ?_
        refine lv_iload hx hb dX6_reckonRoot_39 (lv_at hl 5 rfl) ?_
        refine lv_lshl hx hb dX6_reckonRoot_41 rfl ?_
        refine lv_ladd hx hb dX6_reckonRoot_42 ?_
        refine lv_lstore (lv' := [(9, .long (x6 + ((1 : Int64) <<< (x8.toInt64 &&& 63)))), (0, .ref a_va), (2, .int p2), (3, .int x3), (4, .long x4), (6, .long x6), (8, .int x8)]) hx hb dX6_reckonRoot_43 hl (by decide) rfl (fun ls hl => ?_)
        refine lv_lload hx hb dX6_reckonRoot_45 (lv_at hl 0 rfl) ?_
        refine lv_lload hx hb dX6_reckonRoot_47 (lv_at hl 0 rfl) ?_
        refine lv_lmul hx hb dX6_reckonRoot_49 ?_
        refine lv_lload hx hb dX6_reckonRoot_50 (lv_at hl 4 rfl) ?_
        refine W.lcmp hx hb dX6_reckonRoot_52 ?_
        refine lv_if_gt (tgt := 60) hx hb dX6_reckonRoot_53 (by decide) (fun c_53 => ?_) (fun c_53 => ?_)
        · replace ho := ho.1 c_53
          exact C_60 va_m va_x va_more x3 x4 x6 x8 H locs ls ho hP hD hS (lv_sub hl [1, 2, 3, 4, 5, 6] rfl)
        · replace ho := ho.2 c_53
          refine lv_lload hx hb dX6_reckonRoot_56 (lv_at hl 0 rfl) ?_
          refine lv_lstore (lv' := [(6, .long (x6 + ((1 : Int64) <<< (x8.toInt64 &&& 63)))), (9, .long (x6 + ((1 : Int64) <<< (x8.toInt64 &&& 63)))), (0, .ref a_va), (2, .int p2), (3, .int x3), (4, .long x4), (8, .int x8)]) hx hb dX6_reckonRoot_58 hl (by decide) rfl (fun ls hl => ?_)
          exact C_60 va_m va_x va_more x3 x4 (x6 + ((1 : Int64) <<< (x8.toInt64 &&& 63))) x8 H locs ls ho hP hD hS (lv_sub hl [2, 3, 4, 5, 0, 6] rfl)
  suffices main : ∀ (H : Heap) (locs : List Loc), va_P D vwCl [(a_va, oX6 a_fl a_p2 va_m va_x va_more va_laid va_below va_settled va_sort)] H → va_S A s.heap H locs → W p l e R s m args below meth c H locs 0 0 Q (F0 m 0 ls []) from main _ _ hP hS
  intro H locs hP hS
  unfold wp_X6_reckonRoot at ho
  refine lv_bipush (v := 7) hx hb dX6_reckonRoot_0 (by decide) ?_
  refine lv_iload_n hx hb dX6_reckonRoot_2 rfl (lv_at hl 1 rfl) ?_
  refine ca_Si (As := [.int p1]) (rest := [.int (7 : Int32)]) ⟨hx, hb, hml, hown, hts⟩ (c_J6_numberOfLeadingZeros_0f7a4 l D cI cJ cZ   p1 _ ho) (va_cwS 1 hts (gdS wl_441 wl_340 wl_231 wl_341) rfl rfl rfl (by decide +kernel) ⟨hRf _ (Nat.le_of_ble_eq_true rfl), hRl _ (Nat.le_of_ble_eq_true rfl)⟩) hK hN hP [] rfl rfl hl.1 rfl (Nat.le_of_ble_eq_true rfl) dX6_reckonRoot_3 ⟨Nat.zero_le _, Nat.zero_le _⟩ (fun r3 ho => ?_)
  refine lv_iadd hx hb dX6_reckonRoot_6 ?_
  refine lv_istore_n (lv' := [(3, .int ((7 : Int32) + r3)), (0, .ref a_va), (1, .int p1), (2, .int p2)]) hx hb dX6_reckonRoot_7 rfl hl (by decide) rfl (fun ls hl => ?_)
  refine lv_iload_n hx hb dX6_reckonRoot_8 rfl (lv_at hl 0 rfl) ?_
  refine lv_iload_n hx hb dX6_reckonRoot_9 rfl (lv_at hl 3 rfl) ?_
  refine lv_iload_n hx hb dX6_reckonRoot_10 rfl (lv_at hl 0 rfl) ?_
  refine lv_isub hx hb dX6_reckonRoot_11 ?_
  refine lv_iconst (v := 2) hx hb dX6_reckonRoot_12 (by decide) ?_
  refine ca_Si (As := [.int (p2 - ((7 : Int32) + r3)), .int (2 : Int32)]) (rest := [.int ((7 : Int32) + r3)]) ⟨hx, hb, hml, hown, hts⟩ (c_J9_floorMod_7cf53 l D cI cJ cZ   (p2 - ((7 : Int32) + r3)) (2 : Int32) _ ho) (va_cwS 2 hts (gdS wl_442 wl_443 wl_244 wl_445) rfl rfl rfl (by decide +kernel) ⟨hRf _ (Nat.le_of_ble_eq_true rfl), hRl _ (Nat.le_of_ble_eq_true rfl)⟩) hK hN hP [] rfl rfl hl.1 rfl (Nat.le_of_ble_eq_true rfl) dX6_reckonRoot_13 ⟨Nat.zero_le _, Nat.zero_le _⟩ (fun r13 ho => ?_)
  refine lv_iadd hx hb dX6_reckonRoot_16 ?_
  refine lv_istore_n (lv' := [(3, .int (((7 : Int32) + r3) + r13)), (0, .ref a_va), (1, .int p1), (2, .int p2)]) hx hb dX6_reckonRoot_17 rfl hl (by decide) rfl (fun ls hl => ?_)
  refine lv_iload_n hx hb dX6_reckonRoot_18 rfl (lv_at hl 2 rfl) ?_
  refine lv_i2l hx hb dX6_reckonRoot_19 rfl ?_
  refine lv_iload_n hx hb dX6_reckonRoot_20 rfl (lv_at hl 0 rfl) ?_
  refine lv_lshl hx hb dX6_reckonRoot_21 rfl ?_
  refine lv_lstore (lv' := [(4, .long (p1.toInt64 <<< ((((7 : Int32) + r3) + r13).toInt64 &&& 63))), (3, .int (((7 : Int32) + r3) + r13)), (0, .ref a_va), (1, .int p1), (2, .int p2)]) hx hb dX6_reckonRoot_22 hl (by decide) rfl (fun ls hl => ?_)
  refine lv_lconst (v := 0) hx hb dX6_reckonRoot_24 (by decide) ?_
  refine lv_lstore (lv' := [(6, .long (0 : Int64)), (4, .long (p1.toInt64 <<< ((((7 : Int32) + r3) + r13).toInt64 &&& 63))), (3, .int (((7 : Int32) + r3) + r13)), (0, .ref a_va), (1, .int p1), (2, .int p2)]) hx hb dX6_reckonRoot_25 hl (by decide) rfl (fun ls hl => ?_)
  refine lv_bipush (v := 19) hx hb dX6_reckonRoot_27 (by decide) ?_
  refine lv_istore (lv' := [(8, .int (19 : Int32)), (6, .long (0 : Int64)), (4, .long (p1.toInt64 <<< ((((7 : Int32) + r3) + r13).toInt64 &&& 63))), (3, .int (((7 : Int32) + r3) + r13)), (0, .ref a_va), (1, .int p1), (2, .int p2)]) hx hb dX6_reckonRoot_29 hl (by decide) rfl (fun ls hl => ?_)
  obtain ⟨n_31, ho⟩ := ho
  exact C_31 n_31 va_m va_x va_more (((7 : Int32) + r3) + r13) (p1.toInt64 <<< ((((7 : Int32) + r3) + r13).toInt64 &&& 63)) (0 : Int64) (19 : Int32) H locs ls ho hP hD hS (lv_sub hl [4, 6, 3, 2, 1, 0] rfl)

def w_X6_reckonThird : List Cond := .code yX6_reckonThird cX6_reckonThird 11 none :: wsL_law
set_option maxHeartbeats 4000000 in
set_option maxRecDepth 100000 in
theorem c_X6_reckonThird (l : Launch) (D : va_G) (cI cJ cZ : ClassId) (a_fl : Nat) (a_va : Nat) (a_p2 : Nat) (sz : Nat) (va_m : Int64) (va_x : Int32) (va_more : Int32) (va_laid : Int32) (va_below : Int32) (va_settled : Int32) (va_sort : Int32) (p1 : Int32) (p2 : Int32) (post : Int64 → Int32 → Int32 → Prop) (A : Nat → Prop) (hAe : A = va_A [(a_va, oX6 a_fl a_p2 va_m va_x va_more va_laid va_below va_settled va_sort)] sz) (ho : wp_X6_reckonThird post va_m va_x va_more p1 p2) : Met l yX6_reckonThird w_X6_reckonThird ({ frames := 1, cells := 0, slots := 0, locals := 24 } : Room) (rw_P D [(cI, .int), (cJ, .long), (cZ, .boolean)] [.ref a_va, .int p1, .int p2] sz [(a_va, oX6 a_fl a_p2 va_m va_x va_more va_laid va_below va_settled va_sort)]) (va_Qv (fun (u : (Int64) × (Int32) × (Int32)) => post u.1 u.2.1 u.2.2) (rw_B D A (fun (u : (Int64) × (Int32) × (Int32)) => [(a_va, oX6 a_fl a_p2 u.1 u.2.1 u.2.2 va_laid va_below va_settled va_sort)])) A) 0 0 A := by
  refine Met.ofW (cc := cX6_reckonThird) (maxL := 11) (ret := none) (by decide) rfl ?_
  intro p e s m args below meth c s₁ B hml hv
  obtain ⟨hargs, hsz, hP, hK, hN, hD0⟩ := hv
  have hx := B.exec
  have hb := B.bytes
  have hr := B.returns
  have hts : ∀ w ∈ wsL_law, w.before args s = true := fun w h => atoms_spec (ws := w_X6_reckonThird) B.pre w (List.mem_cons_of_mem _ h)
  have hown : s.vm.findClass RX6 = some m.cls := findClass_of_methodNamed B.named
  have hlocks := B.notSynchronized
  subst hsz
  have hD : va_D A [(a_va, oX6 a_fl a_p2 va_m va_x va_more va_laid va_below va_settled va_sort)] := by rw [hAe]; exact hD0.self
  have hA : ∀ q : Nat, s.heap.size ≤ q → A q := fun q h => by rw [hAe]; exact Or.inr h
  have hS : va_S A s.heap s.heap [] := va_S.rf
  have hl := lv_entry ([.ref a_va, .int p1, .int p2]) (n := 11) (Nat.le_of_ble_eq_true rfl)
  rw [hargs, lg_entry_eq, ← hargs]
  generalize (lg_sl ([.ref a_va, .int p1, .int p2]) ++ List.replicate (11 - (lg_sl ([.ref a_va, .int p1, .int p2])).length) Slot.unset).toArray = ls at hl ⊢
  replace hl : lv_has ls 11 [(0, .ref a_va), (1, .int p1), (2, .int p2)] := hl
  have hRf : ∀ n, n ≤ 1 → n ≤ (headSpec w_X6_reckonThird ({ frames := 1, cells := 0, slots := 0, locals := 24 } : Room)).room.frames := fun n h => h
  have hRl : ∀ n, n ≤ 24 → n ≤ (headSpec w_X6_reckonThird ({ frames := 1, cells := 0, slots := 0, locals := 24 } : Room)).room.locals := fun n h => h
  generalize (headSpec w_X6_reckonThird ({ frames := 1, cells := 0, slots := 0, locals := 24 } : Room)).room = R at hRf hRl ⊢
  generalize hQ : MQ below _ args s 0 0 _ = Q
  have C_98 : ∀ (va_m : Int64) (va_x : Int32) (va_more : Int32) (y0 : Int32) (y1 : Int32) (y2 : Int64) (H : Heap) (locs : List Loc) (ls : Array Slot), wp_X6_reckonThird_98 post  y0 y1 y2 → va_P D vwCl [(a_va, oX6 a_fl a_p2 va_m va_x va_more va_laid va_below va_settled va_sort)] H → va_D A [(a_va, oX6 a_fl a_p2 va_m va_x va_more va_laid va_below va_settled va_sort)] → va_S A s.heap H locs → lv_has ls 11 [] → W p l e R s m args below meth c H locs 0 0 Q (F0 m 98 ls [.int y0, .int y1, .long y2, .ref a_va]) := by
    intro va_m va_x va_more y0 y1 y2 H locs ls ho hP hD hS hl
    unfold wp_X6_reckonThird_98 at ho
    refine ca_Wv (b := a_va) (As := [.long y2, .int y1, .int y0]) (rest := []) (wr := []) (wo := fun (u : (Int64) × (Int32) × (Int32)) => [(a_va, oX6 a_fl a_p2 u.1 u.2.1 u.2.2 va_laid va_below va_settled va_sort)]) (wn := fun (u : (Int64) × (Int32) × (Int32)) => [(a_va, oX6 a_fl a_p2 u.1 u.2.1 u.2.2 va_laid va_below va_settled va_sort)]) ⟨hx, hb, hml, hown, hts⟩ (c_X6_keep l D cI cJ cZ a_fl a_va a_p2 H.size va_m va_x va_more va_laid va_below va_settled va_sort y2 y1 y0 _ _ rfl ho) (cwV 3 hts (gdV wl_433 wl_434 wl_435 wl_22 wl_436) rfl rfl rfl (by decide +kernel) ⟨hRf _ (Nat.le_of_ble_eq_true rfl), hRl _ (Nat.le_of_ble_eq_true rfl)⟩) hK hN hP hD hS hA [0] [] [0] rfl rfl (by decide) (by decide) (by decide) (by decide) (fun _ => rfl) 0 5 rfl rfl rfl rfl hl.1 rfl (Nat.le_of_ble_eq_true rfl) dX6_reckonThird_98 ⟨Nat.zero_le _, Nat.zero_le _⟩ (fun  u98 H locs ho hP hD hS => ?_)
    obtain ⟨u98_1, u98_2, u98_3⟩ := u98
    try dsimp only at ho
    replace hP : va_P D vwCl [(a_va, oX6 a_fl a_p2 u98_1 u98_2 u98_3 va_laid va_below va_settled va_sort)] H := hP
    replace hD : va_D A [(a_va, oX6 a_fl a_p2 u98_1 u98_2 u98_3 va_laid va_below va_settled va_sort)] := hD
    subst hQ; exact W.vret hx hb hr (fun t ht hW => ⟨⟨(u98_1, u98_2, u98_3), rfl, ho, by rw [ht]; exact hP, hD⟩, hS.F ht⟩) (fun q hq => hS.2.2 q hq) dX6_reckonThird_101
  have C_31 : ∀ n : Nat, ∀ (va_m : Int64) (va_x : Int32) (va_more : Int32) (x3 : Int32) (x4 : Int64) (x6 : Int64) (x8 : Int32) (H : Heap) (locs : List Loc) (ls : Array Slot), wp_X6_reckonThird_31 post  p2 n va_m va_x va_more x3 x4 x6 x8 → va_P D vwCl [(a_va, oX6 a_fl a_p2 va_m va_x va_more va_laid va_below va_settled va_sort)] H → va_D A [(a_va, oX6 a_fl a_p2 va_m va_x va_more va_laid va_below va_settled va_sort)] → va_S A s.heap H locs → lv_has ls 11 [(0, .ref a_va), (2, .int p2), (3, .int x3), (4, .long x4), (6, .long x6), (8, .int x8)] → W p l e R s m args below meth c H locs 0 0 Q (F0 m 31 ls []) := by
    intro n
    induction n with
    | zero => intro va_m va_x va_more x3 x4 x6 x8 H locs ls ho hP hD hS hl; exact ho.elim
    | succ n_31 ih_31 =>
      have C_63 : ∀ (va_m : Int64) (va_x : Int32) (va_more : Int32) (x3 : Int32) (x4 : Int64) (x6 : Int64) (x8 : Int32) (H : Heap) (locs : List Loc) (ls : Array Slot), wp_X6_reckonThird_63 post (wp_X6_reckonThird_31 post p2 n_31) va_m va_x va_more x3 x4 x6 x8 → va_P D vwCl [(a_va, oX6 a_fl a_p2 va_m va_x va_more va_laid va_below va_settled va_sort)] H → va_D A [(a_va, oX6 a_fl a_p2 va_m va_x va_more va_laid va_below va_settled va_sort)] → va_S A s.heap H locs → lv_has ls 11 [(0, .ref a_va), (2, .int p2), (3, .int x3), (4, .long x4), (6, .long x6), (8, .int x8)] → W p l e R s m args below meth c H locs 0 0 Q (F0 m 63 ls []) := by
        intro va_m va_x va_more x3 x4 x6 x8 H locs ls ho hP hD hS hl
        unfold wp_X6_reckonThird_63 at ho
        refine lv_iinc (v := (x8 + (-1 : Int32))) (lv' := [(8, .int (x8 + (-1 : Int32))), (0, .ref a_va), (2, .int p2), (3, .int x3), (4, .long x4), (6, .long x6)]) hx hb dX6_reckonThird_63 hl (k := 5) rfl rfl (by decide) rfl (fun ls hl => ?_)
        refine lv_goto (tgt := 31) hx hb dX6_reckonThird_66 (by decide) ?_
        exact ih_31 va_m va_x va_more x3 x4 x6 (x8 + (-1 : Int32)) H locs ls ho hP hD hS (lv_sub hl [1, 2, 3, 4, 5, 0] rfl)
      intro va_m va_x va_more x3 x4 x6 x8 H locs ls ho hP hD hS hl
      replace ho : wp_X6_reckonThird_31_b post p2 (wp_X6_reckonThird_31 post p2 n_31) va_m va_x va_more x3 x4 x6 x8 := ho
      unfold wp_X6_reckonThird_31_b at ho
      refine lv_iload hx hb dX6_reckonThird_31 (lv_at hl 5 rfl) ?_
      refine lv_if_lt (tgt := 69) hx hb dX6_reckonThird_33 (by decide) (fun c_33 => ?_) (fun c_33 => ?_)
      · replace ho := ho.1 c_33
        refine lv_aload_n hx hb dX6_reckonThird_69 rfl (lv_at hl 0 rfl) ?_
        refine lv_lload hx hb dX6_reckonThird_70 (lv_at hl 4 rfl) ?_
        refine lv_iload_n hx hb dX6_reckonThird_72 rfl (lv_at hl 1 rfl) ?_
        refine lv_iload_n hx hb dX6_reckonThird_73 rfl (lv_at hl 2 rfl) ?_
        refine lv_isub hx hb dX6_reckonThird_74 ?_
        refine lv_iconst (v := 3) hx hb dX6_reckonThird_75 (by decide) ?_
        refine ca_Si (As := [.int (p2 - x3), .int (3 : Int32)]) (rest := [.long x6, .ref a_va]) ⟨hx, hb, hml, hown, hts⟩ (c_J9_floorDiv_7cf53 l D cI cJ cZ   (p2 - x3) (3 : Int32) _ ho) (va_cwS 2 hts (gdS wl_446 wl_447 wl_244 wl_448) rfl rfl rfl (by decide +kernel) ⟨hRf _ (Nat.le_of_ble_eq_true rfl), hRl _ (Nat.le_of_ble_eq_true rfl)⟩) hK hN hP [] rfl rfl hl.1 rfl (Nat.le_of_ble_eq_true rfl) dX6_reckonThird_76 ⟨Nat.zero_le _, Nat.zero_le _⟩ (fun r76 ho => ?_)
        refine lv_lload hx hb dX6_reckonThird_79 (lv_at hl 4 rfl) ?_
        refine lv_lload hx hb dX6_reckonThird_81 (lv_at hl 4 rfl) ?_
        refine lv_lmul hx hb dX6_reckonThird_83 ?_
        refine lv_lload hx hb dX6_reckonThird_84 (lv_at hl 4 rfl) ?_
        refine lv_lmul hx hb dX6_reckonThird_86 ?_
        refine lv_lload hx hb dX6_reckonThird_87 (lv_at hl 3 rfl) ?_
        refine W.lcmp hx hb dX6_reckonThird_89 ?_
        refine lv_if_eq (tgt := 97) hx hb dX6_reckonThird_90 (by decide) (fun c_90 => ?_) (fun c_90 => ?_)
        · replace ho := ho.1 c_90
          refine lv_iconst (v := 0) hx hb dX6_reckonThird_97 (by decide) ?_
          exact C_98 va_m va_x va_more (0 : Int32) r76 x6 H locs ls ho hP hD hS (lv_sub hl [] rfl)
        · replace ho := ho.2 c_90
          refine lv_iconst (v := 1) hx hb dX6_reckonThird_93 (by decide) ?_
          refine lv_goto (tgt := 98) hx hb dX6_reckonThird_94 (by decide) ?_
          exact C_98 va_m va_x va_more (1 : Int32) r76 x6 H locs ls ho hP hD hS (lv_sub hl [] rfl)
      · replace ho := ho.2 c_33
        refine lv_lload hx hb dX6_reckonThird_36 (lv_at hl 4 rfl) ?_
        refine lv_lconst (v := 1) hx hb dX6_reckonThird_38 (by decide) ?_
        refine lv_iload hx hb dX6_reckonThird_39 (lv_at hl 5 rfl) ?_
        refine lv_lshl hx hb dX6_reckonThird_41 rfl ?_
        refine lv_ladd hx hb dX6_reckonThird_42 ?_
        refine lv_lstore (lv' := [(9, .long (x6 + ((1 : Int64) <<< (x8.toInt64 &&& 63)))), (0, .ref a_va), (2, .int p2), (3, .int x3), (4, .long x4), (6, .long x6), (8, .int x8)]) hx hb dX6_reckonThird_43 hl (by decide) rfl (fun ls hl => ?_)
        refine lv_lload hx hb dX6_reckonThird_45 (lv_at hl 0 rfl) ?_
        refine lv_lload hx hb dX6_reckonThird_47 (lv_at hl 0 rfl) ?_
        refine lv_lmul hx hb dX6_reckonThird_49 ?_
        refine lv_lload hx hb dX6_reckonThird_50 (lv_at hl 0 rfl) ?_
        refine lv_lmul hx hb dX6_reckonThird_52 ?_
        refine lv_lload hx hb dX6_reckonThird_53 (lv_at hl 4 rfl) ?_
        refine W.lcmp hx hb dX6_reckonThird_55 ?_
        refine lv_if_gt (tgt := 63) hx hb dX6_reckonThird_56 (by decide) (fun c_56 => ?_) (fun c_56 => ?_)
        · replace ho := ho.1 c_56
          exact C_63 va_m va_x va_more x3 x4 x6 x8 H locs ls ho hP hD hS (lv_sub hl [1, 2, 3, 4, 5, 6] rfl)
        · replace ho := ho.2 c_56
          refine lv_lload hx hb dX6_reckonThird_59 (lv_at hl 0 rfl) ?_
          refine lv_lstore (lv' := [(6, .long (x6 + ((1 : Int64) <<< (x8.toInt64 &&& 63)))), (9, .long (x6 + ((1 : Int64) <<< (x8.toInt64 &&& 63)))), (0, .ref a_va), (2, .int p2), (3, .int x3), (4, .long x4), (8, .int x8)]) hx hb dX6_reckonThird_61 hl (by decide) rfl (fun ls hl => ?_)
          exact C_63 va_m va_x va_more x3 x4 (x6 + ((1 : Int64) <<< (x8.toInt64 &&& 63))) x8 H locs ls ho hP hD hS (lv_sub hl [2, 3, 4, 5, 0, 6] rfl)
  suffices main : ∀ (H : Heap) (locs : List Loc), va_P D vwCl [(a_va, oX6 a_fl a_p2 va_m va_x va_more va_laid va_below va_settled va_sort)] H → va_S A s.heap H locs → W p l e R s m args below meth c H locs 0 0 Q (F0 m 0 ls []) from main _ _ hP hS
  intro H locs hP hS
  unfold wp_X6_reckonThird at ho
  refine lv_bipush (v := 26) hx hb dX6_reckonThird_0 (by decide) ?_
  refine lv_iload_n hx hb dX6_reckonThird_2 rfl (lv_at hl 1 rfl) ?_
  refine ca_Si (As := [.int p1]) (rest := [.int (26 : Int32)]) ⟨hx, hb, hml, hown, hts⟩ (c_J6_numberOfLeadingZeros_0f7a4 l D cI cJ cZ   p1 _ ho) (va_cwS 1 hts (gdS wl_441 wl_340 wl_231 wl_341) rfl rfl rfl (by decide +kernel) ⟨hRf _ (Nat.le_of_ble_eq_true rfl), hRl _ (Nat.le_of_ble_eq_true rfl)⟩) hK hN hP [] rfl rfl hl.1 rfl (Nat.le_of_ble_eq_true rfl) dX6_reckonThird_3 ⟨Nat.zero_le _, Nat.zero_le _⟩ (fun r3 ho => ?_)
  refine lv_iadd hx hb dX6_reckonThird_6 ?_
  refine lv_istore_n (lv' := [(3, .int ((26 : Int32) + r3)), (0, .ref a_va), (1, .int p1), (2, .int p2)]) hx hb dX6_reckonThird_7 rfl hl (by decide) rfl (fun ls hl => ?_)
  refine lv_iload_n hx hb dX6_reckonThird_8 rfl (lv_at hl 0 rfl) ?_
  refine lv_iload_n hx hb dX6_reckonThird_9 rfl (lv_at hl 3 rfl) ?_
  refine lv_iload_n hx hb dX6_reckonThird_10 rfl (lv_at hl 0 rfl) ?_
  refine lv_isub hx hb dX6_reckonThird_11 ?_
  refine lv_iconst (v := 3) hx hb dX6_reckonThird_12 (by decide) ?_
  refine ca_Si (As := [.int (p2 - ((26 : Int32) + r3)), .int (3 : Int32)]) (rest := [.int ((26 : Int32) + r3)]) ⟨hx, hb, hml, hown, hts⟩ (c_J9_floorMod_7cf53 l D cI cJ cZ   (p2 - ((26 : Int32) + r3)) (3 : Int32) _ ho) (va_cwS 2 hts (gdS wl_442 wl_443 wl_244 wl_445) rfl rfl rfl (by decide +kernel) ⟨hRf _ (Nat.le_of_ble_eq_true rfl), hRl _ (Nat.le_of_ble_eq_true rfl)⟩) hK hN hP [] rfl rfl hl.1 rfl (Nat.le_of_ble_eq_true rfl) dX6_reckonThird_13 ⟨Nat.zero_le _, Nat.zero_le _⟩ (fun r13 ho => ?_)
  refine lv_iadd hx hb dX6_reckonThird_16 ?_
  refine lv_istore_n (lv' := [(3, .int (((26 : Int32) + r3) + r13)), (0, .ref a_va), (1, .int p1), (2, .int p2)]) hx hb dX6_reckonThird_17 rfl hl (by decide) rfl (fun ls hl => ?_)
  refine lv_iload_n hx hb dX6_reckonThird_18 rfl (lv_at hl 2 rfl) ?_
  refine lv_i2l hx hb dX6_reckonThird_19 rfl ?_
  refine lv_iload_n hx hb dX6_reckonThird_20 rfl (lv_at hl 0 rfl) ?_
  refine lv_lshl hx hb dX6_reckonThird_21 rfl ?_
  refine lv_lstore (lv' := [(4, .long (p1.toInt64 <<< ((((26 : Int32) + r3) + r13).toInt64 &&& 63))), (3, .int (((26 : Int32) + r3) + r13)), (0, .ref a_va), (1, .int p1), (2, .int p2)]) hx hb dX6_reckonThird_22 hl (by decide) rfl (fun ls hl => ?_)
  refine lv_lconst (v := 0) hx hb dX6_reckonThird_24 (by decide) ?_
  refine lv_lstore (lv' := [(6, .long (0 : Int64)), (4, .long (p1.toInt64 <<< ((((26 : Int32) + r3) + r13).toInt64 &&& 63))), (3, .int (((26 : Int32) + r3) + r13)), (0, .ref a_va), (1, .int p1), (2, .int p2)]) hx hb dX6_reckonThird_25 hl (by decide) rfl (fun ls hl => ?_)
  refine lv_bipush (v := 19) hx hb dX6_reckonThird_27 (by decide) ?_
  refine lv_istore (lv' := [(8, .int (19 : Int32)), (6, .long (0 : Int64)), (4, .long (p1.toInt64 <<< ((((26 : Int32) + r3) + r13).toInt64 &&& 63))), (3, .int (((26 : Int32) + r3) + r13)), (0, .ref a_va), (1, .int p1), (2, .int p2)]) hx hb dX6_reckonThird_29 hl (by decide) rfl (fun ls hl => ?_)
  obtain ⟨n_31, ho⟩ := ho
  exact C_31 n_31 va_m va_x va_more (((26 : Int32) + r3) + r13) (p1.toInt64 <<< ((((26 : Int32) + r3) + r13).toInt64 &&& 63)) (0 : Int64) (19 : Int32) H locs ls ho hP hD hS (lv_sub hl [4, 6, 3, 2, 1, 0] rfl)

def w_X6_reckon : List Cond := .code yX6_reckon cX6_reckon 6 none :: wsL_law
set_option maxHeartbeats 4000000 in
set_option maxRecDepth 100000 in
theorem c_X6_reckon (l : Launch) (D : va_G) (cI cJ cZ : ClassId) (a_fl : Nat) (a_va : Nat) (a_p2 : Nat) (sz : Nat) (va_m : Int64) (va_x : Int32) (va_more : Int32) (va_laid : Int32) (va_below : Int32) (va_settled : Int32) (va_sort : Int32) (p1 : Int32) (p2 : Int32) (p3 : Int32) (post : Int64 → Int32 → Int32 → Prop) (A : Nat → Prop) (hAe : A = va_A [(a_va, oX6 a_fl a_p2 va_m va_x va_more va_laid va_below va_settled va_sort)] sz) (ho : wp_X6_reckon post va_m va_x va_more p1 p2 p3) : Met l yX6_reckon w_X6_reckon ({ frames := 2, cells := 0, slots := 0, locals := 54 } : Room) (rw_P D [(cI, .int), (cJ, .long), (cZ, .boolean)] [.ref a_va, .int p1, .int p2, .int p3] sz [(a_va, oX6 a_fl a_p2 va_m va_x va_more va_laid va_below va_settled va_sort)]) (va_Qv (fun (u : (Int64) × (Int32) × (Int32)) => post u.1 u.2.1 u.2.2) (rw_B D A (fun (u : (Int64) × (Int32) × (Int32)) => [(a_va, oX6 a_fl a_p2 u.1 u.2.1 u.2.2 va_laid va_below va_settled va_sort)])) A) 0 0 A := by
  refine Met.ofW (cc := cX6_reckon) (maxL := 6) (ret := none) (by decide) rfl ?_
  intro p e s m args below meth c s₁ B hml hv
  obtain ⟨hargs, hsz, hP, hK, hN, hD0⟩ := hv
  have hx := B.exec
  have hb := B.bytes
  have hr := B.returns
  have hts : ∀ w ∈ wsL_law, w.before args s = true := fun w h => atoms_spec (ws := w_X6_reckon) B.pre w (List.mem_cons_of_mem _ h)
  have hown : s.vm.findClass RX6 = some m.cls := findClass_of_methodNamed B.named
  have hlocks := B.notSynchronized
  subst hsz
  have hD : va_D A [(a_va, oX6 a_fl a_p2 va_m va_x va_more va_laid va_below va_settled va_sort)] := by rw [hAe]; exact hD0.self
  have hA : ∀ q : Nat, s.heap.size ≤ q → A q := fun q h => by rw [hAe]; exact Or.inr h
  have hS : va_S A s.heap s.heap [] := va_S.rf
  have hl := lv_entry ([.ref a_va, .int p1, .int p2, .int p3]) (n := 6) (Nat.le_of_ble_eq_true rfl)
  rw [hargs, lg_entry_eq, ← hargs]
  generalize (lg_sl ([.ref a_va, .int p1, .int p2, .int p3]) ++ List.replicate (6 - (lg_sl ([.ref a_va, .int p1, .int p2, .int p3])).length) Slot.unset).toArray = ls at hl ⊢
  replace hl : lv_has ls 6 [(0, .ref a_va), (1, .int p1), (2, .int p2), (3, .int p3)] := hl
  have hRf : ∀ n, n ≤ 2 → n ≤ (headSpec w_X6_reckon ({ frames := 2, cells := 0, slots := 0, locals := 54 } : Room)).room.frames := fun n h => h
  have hRl : ∀ n, n ≤ 54 → n ≤ (headSpec w_X6_reckon ({ frames := 2, cells := 0, slots := 0, locals := 54 } : Room)).room.locals := fun n h => h
  generalize (headSpec w_X6_reckon ({ frames := 2, cells := 0, slots := 0, locals := 54 } : Room)).room = R at hRf hRl ⊢
  generalize hQ : MQ below _ args s 0 0 _ = Q
  suffices main : ∀ (H : Heap) (locs : List Loc), va_P D vwCl [(a_va, oX6 a_fl a_p2 va_m va_x va_more va_laid va_below va_settled va_sort)] H → va_S A s.heap H locs → W p l e R s m args below meth c H locs 0 0 Q (F0 m 0 ls []) from main _ _ hP hS
  intro H locs hP hS
  unfold wp_X6_reckon at ho
  refine lv_iload_n hx hb dX6_reckon_0 rfl (lv_at hl 2 rfl) ?_
  refine lv_i2l hx hb dX6_reckon_1 rfl ?_
  refine lv_lstore (lv' := [(4, .long p2.toInt64), (0, .ref a_va), (1, .int p1), (2, .int p2), (3, .int p3)]) hx hb dX6_reckon_2 hl (by decide) rfl (fun ls hl => ?_)
  refine lv_iload_n hx hb dX6_reckon_4 rfl (lv_at hl 2 rfl) ?_
  refine lv_topi (fun z_5 ez_5 => ?_)
  by_cases n_5_0 : z_5 = 0
  · replace ho := ho.1 (ez_5.symm.trans n_5_0)
    subst n_5_0
    refine lv_tableIn (tgt := 36) hx hb dX6_reckon_5 (by decide) (by decide) rfl (by decide) ?_
    refine lv_aload_n hx hb dX6_reckon_36 rfl (lv_at hl 1 rfl) ?_
    refine lv_iload_n hx hb dX6_reckon_37 rfl (lv_at hl 3 rfl) ?_
    refine lv_iload_n hx hb dX6_reckon_38 rfl (lv_at hl 4 rfl) ?_
    refine ca_Wv (b := a_va) (As := [.int p2, .int p3]) (rest := []) (wr := []) (wo := fun (u : (Int64) × (Int32) × (Int32)) => [(a_va, oX6 a_fl a_p2 u.1 u.2.1 u.2.2 va_laid va_below va_settled va_sort)]) (wn := fun (u : (Int64) × (Int32) × (Int32)) => [(a_va, oX6 a_fl a_p2 u.1 u.2.1 u.2.2 va_laid va_below va_settled va_sort)]) ⟨hx, hb, hml, hown, hts⟩ (c_X6_reckonOver l D cI cJ cZ a_fl a_va a_p2 H.size va_m va_x va_more va_laid va_below va_settled va_sort p2 p3 _ _ rfl ho) (cwV 2 hts (gdV wl_428 wl_429 wl_430 wl_22 wl_431) rfl rfl rfl (by decide +kernel) ⟨hRf _ (Nat.le_of_ble_eq_true rfl), hRl _ (Nat.le_of_ble_eq_true rfl)⟩) hK hN hP hD hS hA [0] [] [0] rfl rfl (by decide) (by decide) (by decide) (by decide) (fun _ => rfl) 0 5 rfl rfl rfl rfl hl.1 rfl (Nat.le_of_ble_eq_true rfl) dX6_reckon_39 ⟨Nat.zero_le _, Nat.zero_le _⟩ (fun  u39 H locs ho hP hD hS => ?_)
    obtain ⟨u39_1, u39_2, u39_3⟩ := u39
    try dsimp only at ho
    replace hP : va_P D vwCl [(a_va, oX6 a_fl a_p2 u39_1 u39_2 u39_3 va_laid va_below va_settled va_sort)] H := hP
    replace hD : va_D A [(a_va, oX6 a_fl a_p2 u39_1 u39_2 u39_3 va_laid va_below va_settled va_sort)] := hD
    refine lv_goto (tgt := 95) hx hb dX6_reckon_42 (by decide) ?_
    subst hQ; exact W.vret hx hb hr (fun t ht hW => ⟨⟨(u39_1, u39_2, u39_3), rfl, ho, by rw [ht]; exact hP, hD⟩, hS.F ht⟩) (fun q hq => hS.2.2 q hq) dX6_reckon_95
  replace ho := ho.2 (fun h => n_5_0 (ez_5.trans h))
  by_cases n_5_1 : z_5 = 1
  · replace ho := ho.1 (ez_5.symm.trans n_5_1)
    subst n_5_1
    refine lv_tableIn (tgt := 45) hx hb dX6_reckon_5 (by decide) (by decide) rfl (by decide) ?_
    refine lv_aload_n hx hb dX6_reckon_45 rfl (lv_at hl 1 rfl) ?_
    refine lv_iload_n hx hb dX6_reckon_46 rfl (lv_at hl 3 rfl) ?_
    refine lv_iload_n hx hb dX6_reckon_47 rfl (lv_at hl 4 rfl) ?_
    refine ca_Wv (b := a_va) (As := [.int p2, .int p3]) (rest := []) (wr := []) (wo := fun (u : (Int64) × (Int32) × (Int32)) => [(a_va, oX6 a_fl a_p2 u.1 u.2.1 u.2.2 va_laid va_below va_settled va_sort)]) (wn := fun (u : (Int64) × (Int32) × (Int32)) => [(a_va, oX6 a_fl a_p2 u.1 u.2.1 u.2.2 va_laid va_below va_settled va_sort)]) ⟨hx, hb, hml, hown, hts⟩ (c_X6_reckonRoot l D cI cJ cZ a_fl a_va a_p2 H.size va_m va_x va_more va_laid va_below va_settled va_sort p2 p3 _ _ rfl ho) (cwV 2 hts (gdV wl_437 wl_438 wl_439 wl_22 wl_440) rfl rfl rfl (by decide +kernel) ⟨hRf _ (Nat.le_of_ble_eq_true rfl), hRl _ (Nat.le_of_ble_eq_true rfl)⟩) hK hN hP hD hS hA [0] [] [0] rfl rfl (by decide) (by decide) (by decide) (by decide) (fun _ => rfl) 0 5 rfl rfl rfl rfl hl.1 rfl (Nat.le_of_ble_eq_true rfl) dX6_reckon_48 ⟨Nat.zero_le _, Nat.zero_le _⟩ (fun  u48 H locs ho hP hD hS => ?_)
    obtain ⟨u48_1, u48_2, u48_3⟩ := u48
    try dsimp only at ho
    replace hP : va_P D vwCl [(a_va, oX6 a_fl a_p2 u48_1 u48_2 u48_3 va_laid va_below va_settled va_sort)] H := hP
    replace hD : va_D A [(a_va, oX6 a_fl a_p2 u48_1 u48_2 u48_3 va_laid va_below va_settled va_sort)] := hD
    refine lv_goto (tgt := 95) hx hb dX6_reckon_51 (by decide) ?_
    subst hQ; exact W.vret hx hb hr (fun t ht hW => ⟨⟨(u48_1, u48_2, u48_3), rfl, ho, by rw [ht]; exact hP, hD⟩, hS.F ht⟩) (fun q hq => hS.2.2 q hq) dX6_reckon_95
  replace ho := ho.2 (fun h => n_5_1 (ez_5.trans h))
  by_cases n_5_2 : z_5 = 2
  · replace ho := ho.1 (ez_5.symm.trans n_5_2)
    subst n_5_2
    refine lv_tableIn (tgt := 54) hx hb dX6_reckon_5 (by decide) (by decide) rfl (by decide) ?_
    refine lv_aload_n hx hb dX6_reckon_54 rfl (lv_at hl 1 rfl) ?_
    refine lv_iload_n hx hb dX6_reckon_55 rfl (lv_at hl 3 rfl) ?_
    refine lv_iload_n hx hb dX6_reckon_56 rfl (lv_at hl 4 rfl) ?_
    refine ca_Wv (b := a_va) (As := [.int p2, .int p3]) (rest := []) (wr := []) (wo := fun (u : (Int64) × (Int32) × (Int32)) => [(a_va, oX6 a_fl a_p2 u.1 u.2.1 u.2.2 va_laid va_below va_settled va_sort)]) (wn := fun (u : (Int64) × (Int32) × (Int32)) => [(a_va, oX6 a_fl a_p2 u.1 u.2.1 u.2.2 va_laid va_below va_settled va_sort)]) ⟨hx, hb, hml, hown, hts⟩ (c_X6_reckonThird l D cI cJ cZ a_fl a_va a_p2 H.size va_m va_x va_more va_laid va_below va_settled va_sort p2 p3 _ _ rfl ho) (cwV 2 hts (gdV wl_449 wl_450 wl_451 wl_22 wl_452) rfl rfl rfl (by decide +kernel) ⟨hRf _ (Nat.le_of_ble_eq_true rfl), hRl _ (Nat.le_of_ble_eq_true rfl)⟩) hK hN hP hD hS hA [0] [] [0] rfl rfl (by decide) (by decide) (by decide) (by decide) (fun _ => rfl) 0 5 rfl rfl rfl rfl hl.1 rfl (Nat.le_of_ble_eq_true rfl) dX6_reckon_57 ⟨Nat.zero_le _, Nat.zero_le _⟩ (fun  u57 H locs ho hP hD hS => ?_)
    obtain ⟨u57_1, u57_2, u57_3⟩ := u57
    try dsimp only at ho
    replace hP : va_P D vwCl [(a_va, oX6 a_fl a_p2 u57_1 u57_2 u57_3 va_laid va_below va_settled va_sort)] H := hP
    replace hD : va_D A [(a_va, oX6 a_fl a_p2 u57_1 u57_2 u57_3 va_laid va_below va_settled va_sort)] := hD
    refine lv_goto (tgt := 95) hx hb dX6_reckon_60 (by decide) ?_
    subst hQ; exact W.vret hx hb hr (fun t ht hW => ⟨⟨(u57_1, u57_2, u57_3), rfl, ho, by rw [ht]; exact hP, hD⟩, hS.F ht⟩) (fun q hq => hS.2.2 q hq) dX6_reckon_95
  replace ho := ho.2 (fun h => n_5_2 (ez_5.trans h))
  by_cases n_5_3 : z_5 = 3
  · replace ho := ho.1 (ez_5.symm.trans n_5_3)
    subst n_5_3
    refine lv_tableIn (tgt := 63) hx hb dX6_reckon_5 (by decide) (by decide) rfl (by decide) ?_
    refine lv_aload_n hx hb dX6_reckon_63 rfl (lv_at hl 1 rfl) ?_
    refine lv_lload hx hb dX6_reckon_64 (lv_at hl 0 rfl) ?_
    refine lv_lload hx hb dX6_reckon_66 (lv_at hl 0 rfl) ?_
    refine lv_lmul hx hb dX6_reckon_68 ?_
    refine lv_iconst (v := 2) hx hb dX6_reckon_69 (by decide) ?_
    refine lv_iload_n hx hb dX6_reckon_70 rfl (lv_at hl 4 rfl) ?_
    refine lv_imul hx hb dX6_reckon_71 ?_
    refine lv_iconst (v := 0) hx hb dX6_reckon_72 (by decide) ?_
    refine ca_Wv (b := a_va) (As := [.long (p2.toInt64 * p2.toInt64), .int ((2 : Int32) * p3), .int (0 : Int32)]) (rest := []) (wr := []) (wo := fun (u : (Int64) × (Int32) × (Int32)) => [(a_va, oX6 a_fl a_p2 u.1 u.2.1 u.2.2 va_laid va_below va_settled va_sort)]) (wn := fun (u : (Int64) × (Int32) × (Int32)) => [(a_va, oX6 a_fl a_p2 u.1 u.2.1 u.2.2 va_laid va_below va_settled va_sort)]) ⟨hx, hb, hml, hown, hts⟩ (c_X6_keep l D cI cJ cZ a_fl a_va a_p2 H.size va_m va_x va_more va_laid va_below va_settled va_sort (p2.toInt64 * p2.toInt64) ((2 : Int32) * p3) (0 : Int32) _ _ rfl ho) (cwV 3 hts (gdV wl_433 wl_434 wl_435 wl_22 wl_436) rfl rfl rfl (by decide +kernel) ⟨hRf _ (Nat.le_of_ble_eq_true rfl), hRl _ (Nat.le_of_ble_eq_true rfl)⟩) hK hN hP hD hS hA [0] [] [0] rfl rfl (by decide) (by decide) (by decide) (by decide) (fun _ => rfl) 0 5 rfl rfl rfl rfl hl.1 rfl (Nat.le_of_ble_eq_true rfl) dX6_reckon_73 ⟨Nat.zero_le _, Nat.zero_le _⟩ (fun  u73 H locs ho hP hD hS => ?_)
    obtain ⟨u73_1, u73_2, u73_3⟩ := u73
    try dsimp only at ho
    replace hP : va_P D vwCl [(a_va, oX6 a_fl a_p2 u73_1 u73_2 u73_3 va_laid va_below va_settled va_sort)] H := hP
    replace hD : va_D A [(a_va, oX6 a_fl a_p2 u73_1 u73_2 u73_3 va_laid va_below va_settled va_sort)] := hD
    refine lv_goto (tgt := 95) hx hb dX6_reckon_76 (by decide) ?_
    subst hQ; exact W.vret hx hb hr (fun t ht hW => ⟨⟨(u73_1, u73_2, u73_3), rfl, ho, by rw [ht]; exact hP, hD⟩, hS.F ht⟩) (fun q hq => hS.2.2 q hq) dX6_reckon_95
  replace ho := ho.2 (fun h => n_5_3 (ez_5.trans h))
  refine lv_tableOut (tgt := 79) hx hb dX6_reckon_5 (by have q_5_0 := lv_neT (a := 0) n_5_0 rfl; have q_5_1 := lv_neT (a := 1) n_5_1 rfl; have q_5_2 := lv_neT (a := 2) n_5_2 rfl; have q_5_3 := lv_neT (a := 3) n_5_3 rfl; omega) (by decide) ?_
  refine lv_aload_n hx hb dX6_reckon_79 rfl (lv_at hl 1 rfl) ?_
  refine lv_lload hx hb dX6_reckon_80 (lv_at hl 0 rfl) ?_
  refine lv_lload hx hb dX6_reckon_82 (lv_at hl 0 rfl) ?_
  refine lv_lmul hx hb dX6_reckon_84 ?_
  refine lv_lload hx hb dX6_reckon_85 (lv_at hl 0 rfl) ?_
  refine lv_lmul hx hb dX6_reckon_87 ?_
  refine lv_iconst (v := 3) hx hb dX6_reckon_88 (by decide) ?_
  refine lv_iload_n hx hb dX6_reckon_89 rfl (lv_at hl 4 rfl) ?_
  refine lv_imul hx hb dX6_reckon_90 ?_
  refine lv_iconst (v := 0) hx hb dX6_reckon_91 (by decide) ?_
  refine ca_Wv (b := a_va) (As := [.long ((p2.toInt64 * p2.toInt64) * p2.toInt64), .int ((3 : Int32) * p3), .int (0 : Int32)]) (rest := []) (wr := []) (wo := fun (u : (Int64) × (Int32) × (Int32)) => [(a_va, oX6 a_fl a_p2 u.1 u.2.1 u.2.2 va_laid va_below va_settled va_sort)]) (wn := fun (u : (Int64) × (Int32) × (Int32)) => [(a_va, oX6 a_fl a_p2 u.1 u.2.1 u.2.2 va_laid va_below va_settled va_sort)]) ⟨hx, hb, hml, hown, hts⟩ (c_X6_keep l D cI cJ cZ a_fl a_va a_p2 H.size va_m va_x va_more va_laid va_below va_settled va_sort ((p2.toInt64 * p2.toInt64) * p2.toInt64) ((3 : Int32) * p3) (0 : Int32) _ _ rfl ho) (cwV 3 hts (gdV wl_433 wl_434 wl_435 wl_22 wl_436) rfl rfl rfl (by decide +kernel) ⟨hRf _ (Nat.le_of_ble_eq_true rfl), hRl _ (Nat.le_of_ble_eq_true rfl)⟩) hK hN hP hD hS hA [0] [] [0] rfl rfl (by decide) (by decide) (by decide) (by decide) (fun _ => rfl) 0 5 rfl rfl rfl rfl hl.1 rfl (Nat.le_of_ble_eq_true rfl) dX6_reckon_92 ⟨Nat.zero_le _, Nat.zero_le _⟩ (fun  u92 H locs ho hP hD hS => ?_)
  obtain ⟨u92_1, u92_2, u92_3⟩ := u92
  try dsimp only at ho
  replace hP : va_P D vwCl [(a_va, oX6 a_fl a_p2 u92_1 u92_2 u92_3 va_laid va_below va_settled va_sort)] H := hP
  replace hD : va_D A [(a_va, oX6 a_fl a_p2 u92_1 u92_2 u92_3 va_laid va_below va_settled va_sort)] := hD
  subst hQ; exact W.vret hx hb hr (fun t ht hW => ⟨⟨(u92_1, u92_2, u92_3), rfl, ho, by rw [ht]; exact hP, hD⟩, hS.F ht⟩) (fun q hq => hS.2.2 q hq) dX6_reckon_95
