def wp_X6_keep (post : Int64 → Int32 → Int32 → Prop) (p1 : Int64) (p2 : Int32) (p3 : Int32) : Prop := (p3 = 0 ∨ p3 = 1) ∧ (post  p1 p2 p3)
set_option maxRecDepth 20000 in
theorem in_X6_keep_X6 : ∀ w ∈ u_ws RX6 TX6 9, w ∈ wsX6_keep := fun w h => (goodIn_r wsX60 [4, 5, 6, 7, 8, 9, 10, 11, 12] (by decide +kernel) (by decide +kernel) w h).1
set_option maxHeartbeats 4000000 in
set_option maxRecDepth 100000 in
theorem c_X6_keep (l : Launch) (D : va_G) (cI cJ cZ : ClassId) (a_fl : Nat) (a_va : Nat) (a_p2 : Nat) (sz : Nat) (va_m : Int64) (va_x : Int32) (va_more : Int32) (va_laid : Int32) (va_below : Int32) (va_settled : Int32) (va_sort : Int32) (p1 : Int64) (p2 : Int32) (p3 : Int32) (post : Int64 → Int32 → Int32 → Prop) (A : Nat → Prop) (hAe : A = va_A [(a_va, oX6 a_fl a_p2 va_m va_x va_more va_laid va_below va_settled va_sort)] sz) (ho : wp_X6_keep post p1 p2 p3) : Met l yX6_keep wsX6_keep ({ frames := 0, cells := 0, slots := 0, locals := 0 } : Room) (rw_P D [(cI, .int), (cJ, .long), (cZ, .boolean)] [.ref a_va, .long p1, .int p2, .int p3] sz [(a_va, oX6 a_fl a_p2 va_m va_x va_more va_laid va_below va_settled va_sort)]) (va_Qv (fun (u : (Int64) × (Int32) × (Int32)) => post u.1 u.2.1 u.2.2) (rw_B D A (fun (u : (Int64) × (Int32) × (Int32)) => [(a_va, oX6 a_fl a_p2 u.1 u.2.1 u.2.2 va_laid va_below va_settled va_sort)])) A) 0 0 A := by
  refine Met.ofW (cc := cX6_keep) (maxL := 5) (ret := none) (by decide) rfl ?_
  intro p e s m args below meth c s₁ B hml hv
  obtain ⟨hargs, hsz, hP, hK, hN, hD0⟩ := hv
  have hx := B.exec
  have hb := B.bytes
  have hr := B.returns
  have hts := atoms_spec (ws := wsX6_keep) B.pre
  have hown : s.vm.findClass RX6 = some m.cls := findClass_of_methodNamed B.named
  have hlocks := B.notSynchronized
  subst hsz
  have hD : va_D A [(a_va, oX6 a_fl a_p2 va_m va_x va_more va_laid va_below va_settled va_sort)] := by rw [hAe]; exact hD0.self
  have hA : ∀ q : Nat, s.heap.size ≤ q → A q := fun q h => by rw [hAe]; exact Or.inr h
  have hS : va_S A s.heap s.heap [] := va_S.rf
  have hl := lv_entry ([.ref a_va, .long p1, .int p2, .int p3]) (n := 5) (Nat.le_of_ble_eq_true rfl)
  rw [hargs, lg_entry_eq, ← hargs]
  generalize (lg_sl ([.ref a_va, .long p1, .int p2, .int p3]) ++ List.replicate (5 - (lg_sl ([.ref a_va, .long p1, .int p2, .int p3])).length) Slot.unset).toArray = ls at hl ⊢
  replace hl : lv_has ls 5 [(0, .ref a_va), (1, .long p1), (3, .int p2), (4, .int p3)] := hl
  have hRf : ∀ n, n ≤ 0 → n ≤ (headSpec wsX6_keep ({ frames := 0, cells := 0, slots := 0, locals := 0 } : Room)).room.frames := fun n h => h
  have hRl : ∀ n, n ≤ 0 → n ≤ (headSpec wsX6_keep ({ frames := 0, cells := 0, slots := 0, locals := 0 } : Room)).room.locals := fun n h => h
  generalize (headSpec wsX6_keep ({ frames := 0, cells := 0, slots := 0, locals := 0 } : Room)).room = R at hRf hRl ⊢
  generalize hQ : MQ below _ args s 0 0 _ = Q
  unfold wp_X6_keep at ho
  refine lv_aload_n hx hb dX6_keep_0 rfl (lv_at hl 0 rfl) ?_
  refine lv_lload_n hx hb dX6_keep_1 rfl (lv_at hl 1 rfl) ?_
  refine va_put (D := D) (ci := 5) (v := .long p1) (ty := .long) (C := RX6) (T := TX6) (N := 9) hx hb hts in_X6_keep_X6 tyX6 tyX6_ok nmX6 hown hK hP hD hS 0 rfl rfl 2 (by decide) (hts (.fieldLink RX6 76 "HardBench$Value" "m" "J") (List.mem_of_getElem? (i := 1) (by decide +kernel))) (fun _ h9 => h9) rfl (by decide +kernel) rfl rfl (Nat.le_of_ble_eq_true rfl) dX6_keep_2 (fun H locs hP hD hS => ?_)
  replace hP : va_P D vwCl [(a_va, oX6 a_fl a_p2 p1 va_x va_more va_laid va_below va_settled va_sort)] H := hP
  replace hD : va_D A [(a_va, oX6 a_fl a_p2 p1 va_x va_more va_laid va_below va_settled va_sort)] := hD
  refine lv_aload_n hx hb dX6_keep_5 rfl (lv_at hl 0 rfl) ?_
  refine lv_iload_n hx hb dX6_keep_6 rfl (lv_at hl 2 rfl) ?_
  refine va_put (D := D) (ci := 5) (v := .int p2) (ty := .int) (C := RX6) (T := TX6) (N := 9) hx hb hts in_X6_keep_X6 tyX6 tyX6_ok nmX6 hown hK hP hD hS 0 rfl rfl 3 (by decide) (hts (.fieldLink RX6 80 "HardBench$Value" "x" "I") (List.mem_of_getElem? (i := 2) (by decide +kernel))) (fun _ h9 => h9) rfl (by decide +kernel) rfl rfl (Nat.le_of_ble_eq_true rfl) dX6_keep_7 (fun H locs hP hD hS => ?_)
  replace hP : va_P D vwCl [(a_va, oX6 a_fl a_p2 p1 p2 va_more va_laid va_below va_settled va_sort)] H := hP
  replace hD : va_D A [(a_va, oX6 a_fl a_p2 p1 p2 va_more va_laid va_below va_settled va_sort)] := hD
  refine lv_aload_n hx hb dX6_keep_10 rfl (lv_at hl 0 rfl) ?_
  refine lv_iload hx hb dX6_keep_11 (lv_at hl 3 rfl) ?_
  have o_13 := ho.1
  replace ho := ho.2
  refine va_put (D := D) (ci := 5) (v := .int p3) (ty := .boolean) (C := RX6) (T := TX6) (N := 9) hx hb hts in_X6_keep_X6 tyX6 tyX6_ok nmX6 hown hK hP hD hS 0 rfl rfl 4 (by decide) (hts (.fieldLink RX6 83 "HardBench$Value" "more" "Z") (List.mem_of_getElem? (i := 3) (by decide +kernel))) (fun _ h9 => h9) rfl (by decide +kernel) (bz_n o_13) (bz_f o_13) (Nat.le_of_ble_eq_true rfl) dX6_keep_13 (fun H locs hP hD hS => ?_)
  replace hP : va_P D vwCl [(a_va, oX6 a_fl a_p2 p1 p2 p3 va_laid va_below va_settled va_sort)] H := hP
  replace hD : va_D A [(a_va, oX6 a_fl a_p2 p1 p2 p3 va_laid va_below va_settled va_sort)] := hD
  subst hQ; exact W.vret hx hb hr (fun t ht hW => ⟨⟨(p1, p2, p3), rfl, ho, by rw [ht]; exact hP, hD⟩, hS.F ht⟩) (fun q hq => hS.2.2 q hq) dX6_keep_16

def wp_X6_reckonOver_41 (post : Int64 → Int32 → Int32 → Prop)  (y0 : Int32) (y1 : Int32) (y2 : Int64) : Prop := wp_X6_keep (fun u41_1 u41_2 u41_3 => (post  u41_1 u41_2 u41_3)) y2 y1 y0
def wp_X6_reckonOver_16 (post : Int64 → Int32 → Int32 → Prop)  (p1 : Int32) (p2 : Int32) (x3 : Int64) (y0 : Int64) : Prop := (((lg_cmp (y0 * p1.toInt64) x3) = 0) → (wp_X6_reckonOver_41 post (0 : Int32) ((-p2) - (40 : Int32)) y0)) ∧ ((¬ ((lg_cmp (y0 * p1.toInt64) x3) = 0)) → (wp_X6_reckonOver_41 post (1 : Int32) ((-p2) - (40 : Int32)) y0))
def wp_X6_reckonOver (post : Int64 → Int32 → Int32 → Prop) (p1 : Int32) (p2 : Int32) : Prop := ((p1 ≤ 0) → (wp_X6_reckonOver_16 post p1 p2 (1099511627776 : Int64) (1099511627776 : Int64))) ∧ ((¬ (p1 ≤ 0)) → ((¬ p1.toInt64 = 0) ∧ (wp_X6_reckonOver_16 post p1 p2 (1099511627776 : Int64) ((1099511627776 : Int64) / p1.toInt64))))
set_option maxHeartbeats 4000000 in
set_option maxRecDepth 100000 in
theorem c_X6_reckonOver (l : Launch) (D : va_G) (cI cJ cZ : ClassId) (a_fl : Nat) (a_va : Nat) (a_p2 : Nat) (sz : Nat) (va_m : Int64) (va_x : Int32) (va_more : Int32) (va_laid : Int32) (va_below : Int32) (va_settled : Int32) (va_sort : Int32) (p1 : Int32) (p2 : Int32) (post : Int64 → Int32 → Int32 → Prop) (A : Nat → Prop) (hAe : A = va_A [(a_va, oX6 a_fl a_p2 va_m va_x va_more va_laid va_below va_settled va_sort)] sz) (ho : wp_X6_reckonOver post p1 p2) : Met l yX6_reckonOver wsX6_reckonOver ({ frames := 1, cells := 0, slots := 0, locals := 24 } : Room) (rw_P D [(cI, .int), (cJ, .long), (cZ, .boolean)] [.ref a_va, .int p1, .int p2] sz [(a_va, oX6 a_fl a_p2 va_m va_x va_more va_laid va_below va_settled va_sort)]) (va_Qv (fun (u : (Int64) × (Int32) × (Int32)) => post u.1 u.2.1 u.2.2) (rw_B D A (fun (u : (Int64) × (Int32) × (Int32)) => [(a_va, oX6 a_fl a_p2 u.1 u.2.1 u.2.2 va_laid va_below va_settled va_sort)])) A) 0 0 A := by
  refine Met.ofW (cc := cX6_reckonOver) (maxL := 7) (ret := none) (by decide) rfl ?_
  intro p e s m args below meth c s₁ B hml hv
  obtain ⟨hargs, hsz, hP, hK, hN, hD0⟩ := hv
  have hx := B.exec
  have hb := B.bytes
  have hr := B.returns
  have hts := atoms_spec (ws := wsX6_reckonOver) B.pre
  have hown : s.vm.findClass RX6 = some m.cls := findClass_of_methodNamed B.named
  have hlocks := B.notSynchronized
  subst hsz
  have hD : va_D A [(a_va, oX6 a_fl a_p2 va_m va_x va_more va_laid va_below va_settled va_sort)] := by rw [hAe]; exact hD0.self
  have hA : ∀ q : Nat, s.heap.size ≤ q → A q := fun q h => by rw [hAe]; exact Or.inr h
  have hS : va_S A s.heap s.heap [] := va_S.rf
  have hl := lv_entry ([.ref a_va, .int p1, .int p2]) (n := 7) (Nat.le_of_ble_eq_true rfl)
  rw [hargs, lg_entry_eq, ← hargs]
  generalize (lg_sl ([.ref a_va, .int p1, .int p2]) ++ List.replicate (7 - (lg_sl ([.ref a_va, .int p1, .int p2])).length) Slot.unset).toArray = ls at hl ⊢
  replace hl : lv_has ls 7 [(0, .ref a_va), (1, .int p1), (2, .int p2)] := hl
  have hRf : ∀ n, n ≤ 1 → n ≤ (headSpec wsX6_reckonOver ({ frames := 1, cells := 0, slots := 0, locals := 24 } : Room)).room.frames := fun n h => h
  have hRl : ∀ n, n ≤ 24 → n ≤ (headSpec wsX6_reckonOver ({ frames := 1, cells := 0, slots := 0, locals := 24 } : Room)).room.locals := fun n h => h
  generalize (headSpec wsX6_reckonOver ({ frames := 1, cells := 0, slots := 0, locals := 24 } : Room)).room = R at hRf hRl ⊢
  generalize hQ : MQ below _ args s 0 0 _ = Q
  have C_41 : ∀ (va_m : Int64) (va_x : Int32) (va_more : Int32) (y0 : Int32) (y1 : Int32) (y2 : Int64) (H : Heap) (locs : List Loc) (ls : Array Slot), wp_X6_reckonOver_41 post  y0 y1 y2 → va_P D vwCl [(a_va, oX6 a_fl a_p2 va_m va_x va_more va_laid va_below va_settled va_sort)] H → va_D A [(a_va, oX6 a_fl a_p2 va_m va_x va_more va_laid va_below va_settled va_sort)] → va_S A s.heap H locs → lv_has ls 7 [] → W p l e R s m args below meth c H locs 0 0 Q (F0 m 41 ls [.int y0, .int y1, .long y2, .ref a_va]) := by
    intro va_m va_x va_more y0 y1 y2 H locs ls ho hP hD hS hl
    unfold wp_X6_reckonOver_41 at ho
    refine ca_Wv (b := a_va) (As := [.long y2, .int y1, .int y0]) (rest := []) (wr := []) (wo := fun u => [(a_va, oX6 a_fl a_p2 u.1 u.2.1 u.2.2 va_laid va_below va_settled va_sort)]) (wn := fun u => [(a_va, oX6 a_fl a_p2 u.1 u.2.1 u.2.2 va_laid va_below va_settled va_sort)]) ⟨hx, hb, hml, hown, hts⟩ (c_X6_keep l D cI cJ cZ a_fl a_va a_p2 H.size va_m va_x va_more va_laid va_below va_settled va_sort y2 y1 y0 _ _ rfl ho) (cwV 3 hts gX6_reckonOver_X6_keep rfl rfl rfl (by decide +kernel) ⟨hRf _ (Nat.le_of_ble_eq_true rfl), hRl _ (Nat.le_of_ble_eq_true rfl)⟩) hK hN hP hD hS hA [0] [] [0] rfl rfl (by decide) (by decide) (by decide) (by decide) (fun _ => rfl) 0 5 rfl rfl rfl rfl hl.1 rfl (Nat.le_of_ble_eq_true rfl) dX6_reckonOver_41 ⟨Nat.zero_le _, Nat.zero_le _⟩ (fun  u41 H locs ho hP hD hS => ?_)
    obtain ⟨u41_1, u41_2, u41_3⟩ := u41
    try dsimp only at ho
    replace hP : va_P D vwCl [(a_va, oX6 a_fl a_p2 u41_1 u41_2 u41_3 va_laid va_below va_settled va_sort)] H := hP
    replace hD : va_D A [(a_va, oX6 a_fl a_p2 u41_1 u41_2 u41_3 va_laid va_below va_settled va_sort)] := hD
    subst hQ; exact W.vret hx hb hr (fun t ht hW => ⟨⟨(u41_1, u41_2, u41_3), rfl, ho, by rw [ht]; exact hP, hD⟩, hS.F ht⟩) (fun q hq => hS.2.2 q hq) dX6_reckonOver_44
  have C_16 : ∀ (va_m : Int64) (va_x : Int32) (va_more : Int32) (x3 : Int64) (y0 : Int64) (H : Heap) (locs : List Loc) (ls : Array Slot), wp_X6_reckonOver_16 post  p1 p2 x3 y0 → va_P D vwCl [(a_va, oX6 a_fl a_p2 va_m va_x va_more va_laid va_below va_settled va_sort)] H → va_D A [(a_va, oX6 a_fl a_p2 va_m va_x va_more va_laid va_below va_settled va_sort)] → va_S A s.heap H locs → lv_has ls 7 [(0, .ref a_va), (1, .int p1), (2, .int p2), (3, .long x3)] → W p l e R s m args below meth c H locs 0 0 Q (F0 m 16 ls [.long y0]) := by
    intro va_m va_x va_more x3 y0 H locs ls ho hP hD hS hl
    unfold wp_X6_reckonOver_16 at ho
    refine lv_lstore (lv' := [(5, .long y0), (0, .ref a_va), (1, .int p1), (2, .int p2), (3, .long x3)]) hx hb dX6_reckonOver_16 hl (by decide) rfl (fun ls hl => ?_)
    refine lv_aload_n hx hb dX6_reckonOver_18 rfl (lv_at hl 1 rfl) ?_
    refine lv_lload hx hb dX6_reckonOver_19 (lv_at hl 0 rfl) ?_
    refine lv_iload_n hx hb dX6_reckonOver_21 rfl (lv_at hl 3 rfl) ?_
    refine lv_ineg hx hb dX6_reckonOver_22 ?_
    refine lv_bipush (v := 40) hx hb dX6_reckonOver_23 (by decide) ?_
    refine lv_isub hx hb dX6_reckonOver_25 ?_
    refine lv_lload hx hb dX6_reckonOver_26 (lv_at hl 0 rfl) ?_
    refine lv_iload_n hx hb dX6_reckonOver_28 rfl (lv_at hl 2 rfl) ?_
    refine lv_i2l hx hb dX6_reckonOver_29 rfl ?_
    refine lv_lmul hx hb dX6_reckonOver_30 ?_
    refine lv_lload_n hx hb dX6_reckonOver_31 rfl (lv_at hl 4 rfl) ?_
    refine W.lcmp hx hb dX6_reckonOver_32 ?_
    refine lv_if_eq (tgt := 40) hx hb dX6_reckonOver_33 (by decide) (fun c_33 => ?_) (fun c_33 => ?_)
    · replace ho := ho.1 c_33
      refine lv_iconst (v := 0) hx hb dX6_reckonOver_40 (by decide) ?_
      exact C_41 va_m va_x va_more (0 : Int32) ((-p2) - (40 : Int32)) y0 H locs ls ho hP hD hS (lv_sub hl [] rfl)
    · replace ho := ho.2 c_33
      refine lv_iconst (v := 1) hx hb dX6_reckonOver_36 (by decide) ?_
      refine lv_goto (tgt := 41) hx hb dX6_reckonOver_37 (by decide) ?_
      exact C_41 va_m va_x va_more (1 : Int32) ((-p2) - (40 : Int32)) y0 H locs ls ho hP hD hS (lv_sub hl [] rfl)
  unfold wp_X6_reckonOver at ho
  refine lv_ldc2 hx hb hown (hts (.constantLong RX6 121 (1099511627776)) (List.mem_of_getElem? (i := 1) (by decide +kernel))) dX6_reckonOver_0 ?_
  refine lv_lstore_n (lv' := [(3, .long (1099511627776 : Int64)), (0, .ref a_va), (1, .int p1), (2, .int p2)]) hx hb dX6_reckonOver_3 rfl hl (by decide) rfl (fun ls hl => ?_)
  refine lv_iload_n hx hb dX6_reckonOver_4 rfl (lv_at hl 2 rfl) ?_
  refine lv_if_le (tgt := 15) hx hb dX6_reckonOver_5 (by decide) (fun c_5 => ?_) (fun c_5 => ?_)
  · replace ho := ho.1 c_5
    refine lv_lload_n hx hb dX6_reckonOver_15 rfl (lv_at hl 0 rfl) ?_
    exact C_16 va_m va_x va_more (1099511627776 : Int64) (1099511627776 : Int64) H locs ls ho hP hD hS (lv_sub hl [1, 2, 3, 0] rfl)
  · replace ho := ho.2 c_5
    refine lv_lload_n hx hb dX6_reckonOver_8 rfl (lv_at hl 0 rfl) ?_
    refine lv_iload_n hx hb dX6_reckonOver_9 rfl (lv_at hl 2 rfl) ?_
    refine lv_i2l hx hb dX6_reckonOver_10 rfl ?_
    have o_11 := ho.1
    replace ho := ho.2
    refine lv_ldiv hx hb dX6_reckonOver_11 o_11 ?_
    refine lv_goto (tgt := 16) hx hb dX6_reckonOver_12 (by decide) ?_
    exact C_16 va_m va_x va_more (1099511627776 : Int64) ((1099511627776 : Int64) / p1.toInt64) H locs ls ho hP hD hS (lv_sub hl [1, 2, 3, 0] rfl)

def wp_X6_reckonRoot_92 (post : Int64 → Int32 → Int32 → Prop)  (y0 : Int32) (y1 : Int32) (y2 : Int64) : Prop := wp_X6_keep (fun u92_1 u92_2 u92_3 => (post  u92_1 u92_2 u92_3)) y2 y1 y0
def wp_X6_reckonRoot_60 (post : Int64 → Int32 → Int32 → Prop) (K_31 : Int64 → Int32 → Int32 → Int32 → Int64 → Int64 → Int32 → Prop) (va_m : Int64) (va_x : Int32) (va_more : Int32) (x3 : Int32) (x4 : Int64) (x6 : Int64) (x8 : Int32) : Prop := K_31 va_m va_x va_more x3 x4 x6 (x8 + (-1 : Int32))
def wp_X6_reckonRoot_31_b (post : Int64 → Int32 → Int32 → Prop)  (p2 : Int32) (K_31 : Int64 → Int32 → Int32 → Int32 → Int64 → Int64 → Int32 → Prop) (va_m : Int64) (va_x : Int32) (va_more : Int32) (x3 : Int32) (x4 : Int64) (x6 : Int64) (x8 : Int32) : Prop := ((x8 < 0) → (wp_J9_floorDiv_7cf53 (fun r73 => ((((lg_cmp (x6 * x6) x4) = 0) → (wp_X6_reckonRoot_92 post (0 : Int32) r73 x6)) ∧ ((¬ ((lg_cmp (x6 * x6) x4) = 0)) → (wp_X6_reckonRoot_92 post (1 : Int32) r73 x6)))) (p2 - x3) (2 : Int32))) ∧ ((¬ (x8 < 0)) → (((0 < (lg_cmp ((x6 + ((1 : Int64) <<< (x8.toInt64 &&& 63))) * (x6 + ((1 : Int64) <<< (x8.toInt64 &&& 63)))) x4)) → (wp_X6_reckonRoot_60 post K_31 va_m va_x va_more x3 x4 x6 x8)) ∧ ((¬ (0 < (lg_cmp ((x6 + ((1 : Int64) <<< (x8.toInt64 &&& 63))) * (x6 + ((1 : Int64) <<< (x8.toInt64 &&& 63)))) x4))) → (wp_X6_reckonRoot_60 post K_31 va_m va_x va_more x3 x4 (x6 + ((1 : Int64) <<< (x8.toInt64 &&& 63))) x8))))
noncomputable def wp_X6_reckonRoot_31 (post : Int64 → Int32 → Int32 → Prop)  (p2 : Int32) (n : Nat) : Int64 → Int32 → Int32 → Int32 → Int64 → Int64 → Int32 → Prop := Nat.rec (motive := fun _ => Int64 → Int32 → Int32 → Int32 → Int64 → Int64 → Int32 → Prop) (fun _ _ _ _ _ _ _ => False) (fun _ K_31 => wp_X6_reckonRoot_31_b post p2 K_31) n
def wp_X6_reckonRoot (post : Int64 → Int32 → Int32 → Prop) (va_m : Int64) (va_x : Int32) (va_more : Int32) (p1 : Int32) (p2 : Int32) : Prop := wp_J6_numberOfLeadingZeros_0f7a4 (fun r3 => (wp_J9_floorMod_7cf53 (fun r13 => (∃ n, wp_X6_reckonRoot_31 post p2 n va_m va_x va_more (((7 : Int32) + r3) + r13) (p1.toInt64 <<< ((((7 : Int32) + r3) + r13).toInt64 &&& 63)) (0 : Int64) (19 : Int32))) (p2 - ((7 : Int32) + r3)) (2 : Int32))) p1
set_option maxHeartbeats 4000000 in
set_option maxRecDepth 100000 in
theorem c_X6_reckonRoot (l : Launch) (D : va_G) (cI cJ cZ : ClassId) (a_fl : Nat) (a_va : Nat) (a_p2 : Nat) (sz : Nat) (va_m : Int64) (va_x : Int32) (va_more : Int32) (va_laid : Int32) (va_below : Int32) (va_settled : Int32) (va_sort : Int32) (p1 : Int32) (p2 : Int32) (post : Int64 → Int32 → Int32 → Prop) (A : Nat → Prop) (hAe : A = va_A [(a_va, oX6 a_fl a_p2 va_m va_x va_more va_laid va_below va_settled va_sort)] sz) (ho : wp_X6_reckonRoot post va_m va_x va_more p1 p2) : Met l yX6_reckonRoot wsX6_reckonRoot ({ frames := 1, cells := 0, slots := 0, locals := 24 } : Room) (rw_P D [(cI, .int), (cJ, .long), (cZ, .boolean)] [.ref a_va, .int p1, .int p2] sz [(a_va, oX6 a_fl a_p2 va_m va_x va_more va_laid va_below va_settled va_sort)]) (va_Qv (fun (u : (Int64) × (Int32) × (Int32)) => post u.1 u.2.1 u.2.2) (rw_B D A (fun (u : (Int64) × (Int32) × (Int32)) => [(a_va, oX6 a_fl a_p2 u.1 u.2.1 u.2.2 va_laid va_below va_settled va_sort)])) A) 0 0 A := by
  refine Met.ofW (cc := cX6_reckonRoot) (maxL := 11) (ret := none) (by decide) rfl ?_
  intro p e s m args below meth c s₁ B hml hv
  obtain ⟨hargs, hsz, hP, hK, hN, hD0⟩ := hv
  have hx := B.exec
  have hb := B.bytes
  have hr := B.returns
  have hts := atoms_spec (ws := wsX6_reckonRoot) B.pre
  have hown : s.vm.findClass RX6 = some m.cls := findClass_of_methodNamed B.named
  have hlocks := B.notSynchronized
  subst hsz
  have hD : va_D A [(a_va, oX6 a_fl a_p2 va_m va_x va_more va_laid va_below va_settled va_sort)] := by rw [hAe]; exact hD0.self
  have hA : ∀ q : Nat, s.heap.size ≤ q → A q := fun q h => by rw [hAe]; exact Or.inr h
  have hS : va_S A s.heap s.heap [] := va_S.rf
  have hl := lv_entry ([.ref a_va, .int p1, .int p2]) (n := 11) (Nat.le_of_ble_eq_true rfl)
  rw [hargs, lg_entry_eq, ← hargs]
  generalize (lg_sl ([.ref a_va, .int p1, .int p2]) ++ List.replicate (11 - (lg_sl ([.ref a_va, .int p1, .int p2])).length) Slot.unset).toArray = ls at hl ⊢
  replace hl : lv_has ls 11 [(0, .ref a_va), (1, .int p1), (2, .int p2)] := hl
  have hRf : ∀ n, n ≤ 1 → n ≤ (headSpec wsX6_reckonRoot ({ frames := 1, cells := 0, slots := 0, locals := 24 } : Room)).room.frames := fun n h => h
  have hRl : ∀ n, n ≤ 24 → n ≤ (headSpec wsX6_reckonRoot ({ frames := 1, cells := 0, slots := 0, locals := 24 } : Room)).room.locals := fun n h => h
  generalize (headSpec wsX6_reckonRoot ({ frames := 1, cells := 0, slots := 0, locals := 24 } : Room)).room = R at hRf hRl ⊢
  generalize hQ : MQ below _ args s 0 0 _ = Q
  have C_92 : ∀ (va_m : Int64) (va_x : Int32) (va_more : Int32) (y0 : Int32) (y1 : Int32) (y2 : Int64) (H : Heap) (locs : List Loc) (ls : Array Slot), wp_X6_reckonRoot_92 post  y0 y1 y2 → va_P D vwCl [(a_va, oX6 a_fl a_p2 va_m va_x va_more va_laid va_below va_settled va_sort)] H → va_D A [(a_va, oX6 a_fl a_p2 va_m va_x va_more va_laid va_below va_settled va_sort)] → va_S A s.heap H locs → lv_has ls 11 [] → W p l e R s m args below meth c H locs 0 0 Q (F0 m 92 ls [.int y0, .int y1, .long y2, .ref a_va]) := by
    intro va_m va_x va_more y0 y1 y2 H locs ls ho hP hD hS hl
    unfold wp_X6_reckonRoot_92 at ho
    refine ca_Wv (b := a_va) (As := [.long y2, .int y1, .int y0]) (rest := []) (wr := []) (wo := fun u => [(a_va, oX6 a_fl a_p2 u.1 u.2.1 u.2.2 va_laid va_below va_settled va_sort)]) (wn := fun u => [(a_va, oX6 a_fl a_p2 u.1 u.2.1 u.2.2 va_laid va_below va_settled va_sort)]) ⟨hx, hb, hml, hown, hts⟩ (c_X6_keep l D cI cJ cZ a_fl a_va a_p2 H.size va_m va_x va_more va_laid va_below va_settled va_sort y2 y1 y0 _ _ rfl ho) (cwV 3 hts gX6_reckonRoot_X6_keep rfl rfl rfl (by decide +kernel) ⟨hRf _ (Nat.le_of_ble_eq_true rfl), hRl _ (Nat.le_of_ble_eq_true rfl)⟩) hK hN hP hD hS hA [0] [] [0] rfl rfl (by decide) (by decide) (by decide) (by decide) (fun _ => rfl) 0 5 rfl rfl rfl rfl hl.1 rfl (Nat.le_of_ble_eq_true rfl) dX6_reckonRoot_92 ⟨Nat.zero_le _, Nat.zero_le _⟩ (fun  u92 H locs ho hP hD hS => ?_)
    obtain ⟨u92_1, u92_2, u92_3⟩ := u92
    try dsimp only at ho
    replace hP : va_P D vwCl [(a_va, oX6 a_fl a_p2 u92_1 u92_2 u92_3 va_laid va_below va_settled va_sort)] H := hP
    replace hD : va_D A [(a_va, oX6 a_fl a_p2 u92_1 u92_2 u92_3 va_laid va_below va_settled va_sort)] := hD
    subst hQ; exact W.vret hx hb hr (fun t ht hW => ⟨⟨(u92_1, u92_2, u92_3), rfl, ho, by rw [ht]; exact hP, hD⟩, hS.F ht⟩) (fun q hq => hS.2.2 q hq) dX6_reckonRoot_95
  have C_31 : ∀ n : Nat, ∀ (va_m : Int64) (va_x : Int32) (va_more : Int32) (x3 : Int32) (x4 : Int64) (x6 : Int64) (x8 : Int32) (H : Heap) (locs : List Loc) (ls : Array Slot), wp_X6_reckonRoot_31 post  p2 n va_m va_x va_more x3 x4 x6 x8 → va_P D vwCl [(a_va, oX6 a_fl a_p2 va_m va_x va_more va_laid va_below va_settled va_sort)] H → va_D A [(a_va, oX6 a_fl a_p2 va_m va_x va_more va_laid va_below va_settled va_sort)] → va_S A s.heap H locs → lv_has ls 11 [(0, .ref a_va), (2, .int p2), (3, .int x3), (4, .long x4), (6, .long x6), (8, .int x8)] → W p l e R s m args below meth c H locs 0 0 Q (F0 m 31 ls []) := by
    intro n
    induction n with
    | zero => intro va_m va_x va_more x3 x4 x6 x8 H locs ls ho hP hD hS hl; exact ho.elim
    | succ n_31 ih_31 =>
      have C_60 : ∀ (va_m : Int64) (va_x : Int32) (va_more : Int32) (x3 : Int32) (x4 : Int64) (x6 : Int64) (x8 : Int32) (H : Heap) (locs : List Loc) (ls : Array Slot), wp_X6_reckonRoot_60 post (wp_X6_reckonRoot_31 post p2 n_31) va_m va_x va_more x3 x4 x6 x8 → va_P D vwCl [(a_va, oX6 a_fl a_p2 va_m va_x va_more va_laid va_below va_settled va_sort)] H → va_D A [(a_va, oX6 a_fl a_p2 va_m va_x va_more va_laid va_below va_settled va_sort)] → va_S A s.heap H locs → lv_has ls 11 [(0, .ref a_va), (2, .int p2), (3, .int x3), (4, .long x4), (6, .long x6), (8, .int x8)] → W p l e R s m args below meth c H locs 0 0 Q (F0 m 60 ls []) := by
        intro va_m va_x va_more x3 x4 x6 x8 H locs ls ho hP hD hS hl
        unfold wp_X6_reckonRoot_60 at ho
        refine lv_iinc (v := (x8 + (-1 : Int32))) (lv' := [(8, .int (x8 + (-1 : Int32))), (0, .ref a_va), (2, .int p2), (3, .int x3), (4, .long x4), (6, .long x6)]) hx hb dX6_reckonRoot_60 hl (k := 5) rfl rfl (by decide) rfl (fun ls hl => ?_)
        refine lv_goto (tgt := 31) hx hb dX6_reckonRoot_63 (by decide) ?_
        exact ih_31 va_m va_x va_more x3 x4 x6 (x8 + (-1 : Int32)) H locs ls ho hP hD hS (lv_sub hl [1, 2, 3, 4, 5, 0] rfl)
      intro va_m va_x va_more x3 x4 x6 x8 H locs ls ho hP hD hS hl
      replace ho : wp_X6_reckonRoot_31_b post p2 (wp_X6_reckonRoot_31 post p2 n_31) va_m va_x va_more x3 x4 x6 x8 := ho
      unfold wp_X6_reckonRoot_31_b at ho
      refine lv_iload hx hb dX6_reckonRoot_31 (lv_at hl 5 rfl) ?_
      refine lv_if_lt (tgt := 66) hx hb dX6_reckonRoot_33 (by decide) (fun c_33 => ?_) (fun c_33 => ?_)
      · replace ho := ho.1 c_33
        refine lv_aload_n hx hb dX6_reckonRoot_66 rfl (lv_at hl 0 rfl) ?_
        refine lv_lload hx hb dX6_reckonRoot_67 (lv_at hl 4 rfl) ?_
        refine lv_iload_n hx hb dX6_reckonRoot_69 rfl (lv_at hl 1 rfl) ?_
        refine lv_iload_n hx hb dX6_reckonRoot_70 rfl (lv_at hl 2 rfl) ?_
        refine lv_isub hx hb dX6_reckonRoot_71 ?_
        refine lv_iconst (v := 2) hx hb dX6_reckonRoot_72 (by decide) ?_
        refine ca_Si (As := [.int (p2 - x3), .int (2 : Int32)]) (rest := [.long x6, .ref a_va]) ⟨hx, hb, hml, hown, hts⟩ (c_J9_floorDiv_7cf53 l D cI cJ cZ   (p2 - x3) (2 : Int32) _ ho) (va_cwS 2 hts gX6_reckonRoot_J9_floorDiv_7cf53 rfl rfl rfl (by decide +kernel) ⟨hRf _ (Nat.le_of_ble_eq_true rfl), hRl _ (Nat.le_of_ble_eq_true rfl)⟩) hK hN hP [] rfl rfl hl.1 rfl (Nat.le_of_ble_eq_true rfl) dX6_reckonRoot_73 ⟨Nat.zero_le _, Nat.zero_le _⟩ (fun r73 ho => ?_)
        refine lv_lload hx hb dX6_reckonRoot_76 (lv_at hl 4 rfl) ?_
        refine lv_lload hx hb dX6_reckonRoot_78 (lv_at hl 4 rfl) ?_
        refine lv_lmul hx hb dX6_reckonRoot_80 ?_
        refine lv_lload hx hb dX6_reckonRoot_81 (lv_at hl 3 rfl) ?_
        refine W.lcmp hx hb dX6_reckonRoot_83 ?_
        refine lv_if_eq (tgt := 91) hx hb dX6_reckonRoot_84 (by decide) (fun c_84 => ?_) (fun c_84 => ?_)
        · replace ho := ho.1 c_84
          refine lv_iconst (v := 0) hx hb dX6_reckonRoot_91 (by decide) ?_
          exact C_92 va_m va_x va_more (0 : Int32) r73 x6 H locs ls ho hP hD hS (lv_sub hl [] rfl)
        · replace ho := ho.2 c_84
          refine lv_iconst (v := 1) hx hb dX6_reckonRoot_87 (by decide) ?_
          refine lv_goto (tgt := 92) hx hb dX6_reckonRoot_88 (by decide) ?_
          exact C_92 va_m va_x va_more (1 : Int32) r73 x6 H locs ls ho hP hD hS (lv_sub hl [] rfl)
      · replace ho := ho.2 c_33
        refine lv_lload hx hb dX6_reckonRoot_36 (lv_at hl 4 rfl) ?_
        refine lv_lconst (v := 1) hx hb dX6_reckonRoot_38 (by decide) ?_
        refine lv_iload hx hb dX6_reckonRoot_39 (lv_at hl 5 rfl) ?_
        refine lv_lshl hx hb dX6_reckonRoot_41 rfl ?_
        refine lv_ladd hx hb dX6_reckonRoot_42 ?_
        refine lv_lstore (lv' := [(9, .long (x6 + ((1 : Int64) <<< (x8.toInt64 &&& 63)))), (0, .ref a_va), (2, .int p2), (3, .int x3), (4, .long x4), (6, .long x6), (8, .int x8)]) hx hb dX6_reckonRoot_43 hl (by decide) rfl (fun ls hl => ?_)
        refine lv_lload hx hb dX6_reckonRoot_45 (lv_at hl 0 rfl) ?_
        refine lv_lload hx hb dX6_reckonRoot_47 (lv_at hl 0 rfl) ?_
        refine lv_lmul hx hb dX6_reckonRoot_49 ?_
        refine lv_lload hx hb dX6_reckonRoot_50 (lv_at hl 4 rfl) ?_
        refine W.lcmp hx hb dX6_reckonRoot_52 ?_
        refine lv_if_gt (tgt := 60) hx hb dX6_reckonRoot_53 (by decide) (fun c_53 => ?_) (fun c_53 => ?_)
        · replace ho := ho.1 c_53
          exact C_60 va_m va_x va_more x3 x4 x6 x8 H locs ls ho hP hD hS (lv_sub hl [1, 2, 3, 4, 5, 6] rfl)
        · replace ho := ho.2 c_53
          refine lv_lload hx hb dX6_reckonRoot_56 (lv_at hl 0 rfl) ?_
          refine lv_lstore (lv' := [(6, .long (x6 + ((1 : Int64) <<< (x8.toInt64 &&& 63)))), (9, .long (x6 + ((1 : Int64) <<< (x8.toInt64 &&& 63)))), (0, .ref a_va), (2, .int p2), (3, .int x3), (4, .long x4), (8, .int x8)]) hx hb dX6_reckonRoot_58 hl (by decide) rfl (fun ls hl => ?_)
          exact C_60 va_m va_x va_more x3 x4 (x6 + ((1 : Int64) <<< (x8.toInt64 &&& 63))) x8 H locs ls ho hP hD hS (lv_sub hl [2, 3, 4, 5, 0, 6] rfl)
  unfold wp_X6_reckonRoot at ho
  refine lv_bipush (v := 7) hx hb dX6_reckonRoot_0 (by decide) ?_
  refine lv_iload_n hx hb dX6_reckonRoot_2 rfl (lv_at hl 1 rfl) ?_
  refine ca_Si (As := [.int p1]) (rest := [.int (7 : Int32)]) ⟨hx, hb, hml, hown, hts⟩ (c_J6_numberOfLeadingZeros_0f7a4 l D cI cJ cZ   p1 _ ho) (va_cwS 1 hts gX6_reckonRoot_J6_numberOfLeadingZeros_0f7a4 rfl rfl rfl (by decide +kernel) ⟨hRf _ (Nat.le_of_ble_eq_true rfl), hRl _ (Nat.le_of_ble_eq_true rfl)⟩) hK hN hP [] rfl rfl hl.1 rfl (Nat.le_of_ble_eq_true rfl) dX6_reckonRoot_3 ⟨Nat.zero_le _, Nat.zero_le _⟩ (fun r3 ho => ?_)
  refine lv_iadd hx hb dX6_reckonRoot_6 ?_
  refine lv_istore_n (lv' := [(3, .int ((7 : Int32) + r3)), (0, .ref a_va), (1, .int p1), (2, .int p2)]) hx hb dX6_reckonRoot_7 rfl hl (by decide) rfl (fun ls hl => ?_)
  refine lv_iload_n hx hb dX6_reckonRoot_8 rfl (lv_at hl 0 rfl) ?_
  refine lv_iload_n hx hb dX6_reckonRoot_9 rfl (lv_at hl 3 rfl) ?_
  refine lv_iload_n hx hb dX6_reckonRoot_10 rfl (lv_at hl 0 rfl) ?_
  refine lv_isub hx hb dX6_reckonRoot_11 ?_
  refine lv_iconst (v := 2) hx hb dX6_reckonRoot_12 (by decide) ?_
  refine ca_Si (As := [.int (p2 - ((7 : Int32) + r3)), .int (2 : Int32)]) (rest := [.int ((7 : Int32) + r3)]) ⟨hx, hb, hml, hown, hts⟩ (c_J9_floorMod_7cf53 l D cI cJ cZ   (p2 - ((7 : Int32) + r3)) (2 : Int32) _ ho) (va_cwS 2 hts gX6_reckonRoot_J9_floorMod_7cf53 rfl rfl rfl (by decide +kernel) ⟨hRf _ (Nat.le_of_ble_eq_true rfl), hRl _ (Nat.le_of_ble_eq_true rfl)⟩) hK hN hP [] rfl rfl hl.1 rfl (Nat.le_of_ble_eq_true rfl) dX6_reckonRoot_13 ⟨Nat.zero_le _, Nat.zero_le _⟩ (fun r13 ho => ?_)
  refine lv_iadd hx hb dX6_reckonRoot_16 ?_
  refine lv_istore_n (lv' := [(3, .int (((7 : Int32) + r3) + r13)), (0, .ref a_va), (1, .int p1), (2, .int p2)]) hx hb dX6_reckonRoot_17 rfl hl (by decide) rfl (fun ls hl => ?_)
  refine lv_iload_n hx hb dX6_reckonRoot_18 rfl (lv_at hl 2 rfl) ?_
  refine lv_i2l hx hb dX6_reckonRoot_19 rfl ?_
  refine lv_iload_n hx hb dX6_reckonRoot_20 rfl (lv_at hl 0 rfl) ?_
  refine lv_lshl hx hb dX6_reckonRoot_21 rfl ?_
  refine lv_lstore (lv' := [(4, .long (p1.toInt64 <<< ((((7 : Int32) + r3) + r13).toInt64 &&& 63))), (3, .int (((7 : Int32) + r3) + r13)), (0, .ref a_va), (1, .int p1), (2, .int p2)]) hx hb dX6_reckonRoot_22 hl (by decide) rfl (fun ls hl => ?_)
  refine lv_lconst (v := 0) hx hb dX6_reckonRoot_24 (by decide) ?_
  refine lv_lstore (lv' := [(6, .long (0 : Int64)), (4, .long (p1.toInt64 <<< ((((7 : Int32) + r3) + r13).toInt64 &&& 63))), (3, .int (((7 : Int32) + r3) + r13)), (0, .ref a_va), (1, .int p1), (2, .int p2)]) hx hb dX6_reckonRoot_25 hl (by decide) rfl (fun ls hl => ?_)
  refine lv_bipush (v := 19) hx hb dX6_reckonRoot_27 (by decide) ?_
  refine lv_istore (lv' := [(8, .int (19 : Int32)), (6, .long (0 : Int64)), (4, .long (p1.toInt64 <<< ((((7 : Int32) + r3) + r13).toInt64 &&& 63))), (3, .int (((7 : Int32) + r3) + r13)), (0, .ref a_va), (1, .int p1), (2, .int p2)]) hx hb dX6_reckonRoot_29 hl (by decide) rfl (fun ls hl => ?_)
  obtain ⟨n_31, ho⟩ := ho
  exact C_31 n_31 va_m va_x va_more (((7 : Int32) + r3) + r13) (p1.toInt64 <<< ((((7 : Int32) + r3) + r13).toInt64 &&& 63)) (0 : Int64) (19 : Int32) H locs ls ho hP hD hS (lv_sub hl [4, 6, 3, 2, 1, 0] rfl)

def wp_X6_reckonThird_98 (post : Int64 → Int32 → Int32 → Prop)  (y0 : Int32) (y1 : Int32) (y2 : Int64) : Prop := wp_X6_keep (fun u98_1 u98_2 u98_3 => (post  u98_1 u98_2 u98_3)) y2 y1 y0
def wp_X6_reckonThird_63 (post : Int64 → Int32 → Int32 → Prop) (K_31 : Int64 → Int32 → Int32 → Int32 → Int64 → Int64 → Int32 → Prop) (va_m : Int64) (va_x : Int32) (va_more : Int32) (x3 : Int32) (x4 : Int64) (x6 : Int64) (x8 : Int32) : Prop := K_31 va_m va_x va_more x3 x4 x6 (x8 + (-1 : Int32))
def wp_X6_reckonThird_31_b (post : Int64 → Int32 → Int32 → Prop)  (p2 : Int32) (K_31 : Int64 → Int32 → Int32 → Int32 → Int64 → Int64 → Int32 → Prop) (va_m : Int64) (va_x : Int32) (va_more : Int32) (x3 : Int32) (x4 : Int64) (x6 : Int64) (x8 : Int32) : Prop := ((x8 < 0) → (wp_J9_floorDiv_7cf53 (fun r76 => ((((lg_cmp ((x6 * x6) * x6) x4) = 0) → (wp_X6_reckonThird_98 post (0 : Int32) r76 x6)) ∧ ((¬ ((lg_cmp ((x6 * x6) * x6) x4) = 0)) → (wp_X6_reckonThird_98 post (1 : Int32) r76 x6)))) (p2 - x3) (3 : Int32))) ∧ ((¬ (x8 < 0)) → (((0 < (lg_cmp (((x6 + ((1 : Int64) <<< (x8.toInt64 &&& 63))) * (x6 + ((1 : Int64) <<< (x8.toInt64 &&& 63)))) * (x6 + ((1 : Int64) <<< (x8.toInt64 &&& 63)))) x4)) → (wp_X6_reckonThird_63 post K_31 va_m va_x va_more x3 x4 x6 x8)) ∧ ((¬ (0 < (lg_cmp (((x6 + ((1 : Int64) <<< (x8.toInt64 &&& 63))) * (x6 + ((1 : Int64) <<< (x8.toInt64 &&& 63)))) * (x6 + ((1 : Int64) <<< (x8.toInt64 &&& 63)))) x4))) → (wp_X6_reckonThird_63 post K_31 va_m va_x va_more x3 x4 (x6 + ((1 : Int64) <<< (x8.toInt64 &&& 63))) x8))))
noncomputable def wp_X6_reckonThird_31 (post : Int64 → Int32 → Int32 → Prop)  (p2 : Int32) (n : Nat) : Int64 → Int32 → Int32 → Int32 → Int64 → Int64 → Int32 → Prop := Nat.rec (motive := fun _ => Int64 → Int32 → Int32 → Int32 → Int64 → Int64 → Int32 → Prop) (fun _ _ _ _ _ _ _ => False) (fun _ K_31 => wp_X6_reckonThird_31_b post p2 K_31) n
def wp_X6_reckonThird (post : Int64 → Int32 → Int32 → Prop) (va_m : Int64) (va_x : Int32) (va_more : Int32) (p1 : Int32) (p2 : Int32) : Prop := wp_J6_numberOfLeadingZeros_0f7a4 (fun r3 => (wp_J9_floorMod_7cf53 (fun r13 => (∃ n, wp_X6_reckonThird_31 post p2 n va_m va_x va_more (((26 : Int32) + r3) + r13) (p1.toInt64 <<< ((((26 : Int32) + r3) + r13).toInt64 &&& 63)) (0 : Int64) (19 : Int32))) (p2 - ((26 : Int32) + r3)) (3 : Int32))) p1
set_option maxHeartbeats 4000000 in
set_option maxRecDepth 100000 in
theorem c_X6_reckonThird (l : Launch) (D : va_G) (cI cJ cZ : ClassId) (a_fl : Nat) (a_va : Nat) (a_p2 : Nat) (sz : Nat) (va_m : Int64) (va_x : Int32) (va_more : Int32) (va_laid : Int32) (va_below : Int32) (va_settled : Int32) (va_sort : Int32) (p1 : Int32) (p2 : Int32) (post : Int64 → Int32 → Int32 → Prop) (A : Nat → Prop) (hAe : A = va_A [(a_va, oX6 a_fl a_p2 va_m va_x va_more va_laid va_below va_settled va_sort)] sz) (ho : wp_X6_reckonThird post va_m va_x va_more p1 p2) : Met l yX6_reckonThird wsX6_reckonThird ({ frames := 1, cells := 0, slots := 0, locals := 24 } : Room) (rw_P D [(cI, .int), (cJ, .long), (cZ, .boolean)] [.ref a_va, .int p1, .int p2] sz [(a_va, oX6 a_fl a_p2 va_m va_x va_more va_laid va_below va_settled va_sort)]) (va_Qv (fun (u : (Int64) × (Int32) × (Int32)) => post u.1 u.2.1 u.2.2) (rw_B D A (fun (u : (Int64) × (Int32) × (Int32)) => [(a_va, oX6 a_fl a_p2 u.1 u.2.1 u.2.2 va_laid va_below va_settled va_sort)])) A) 0 0 A := by
  refine Met.ofW (cc := cX6_reckonThird) (maxL := 11) (ret := none) (by decide) rfl ?_
  intro p e s m args below meth c s₁ B hml hv
  obtain ⟨hargs, hsz, hP, hK, hN, hD0⟩ := hv
  have hx := B.exec
  have hb := B.bytes
  have hr := B.returns
  have hts := atoms_spec (ws := wsX6_reckonThird) B.pre
  have hown : s.vm.findClass RX6 = some m.cls := findClass_of_methodNamed B.named
  have hlocks := B.notSynchronized
  subst hsz
  have hD : va_D A [(a_va, oX6 a_fl a_p2 va_m va_x va_more va_laid va_below va_settled va_sort)] := by rw [hAe]; exact hD0.self
  have hA : ∀ q : Nat, s.heap.size ≤ q → A q := fun q h => by rw [hAe]; exact Or.inr h
  have hS : va_S A s.heap s.heap [] := va_S.rf
  have hl := lv_entry ([.ref a_va, .int p1, .int p2]) (n := 11) (Nat.le_of_ble_eq_true rfl)
  rw [hargs, lg_entry_eq, ← hargs]
  generalize (lg_sl ([.ref a_va, .int p1, .int p2]) ++ List.replicate (11 - (lg_sl ([.ref a_va, .int p1, .int p2])).length) Slot.unset).toArray = ls at hl ⊢
  replace hl : lv_has ls 11 [(0, .ref a_va), (1, .int p1), (2, .int p2)] := hl
  have hRf : ∀ n, n ≤ 1 → n ≤ (headSpec wsX6_reckonThird ({ frames := 1, cells := 0, slots := 0, locals := 24 } : Room)).room.frames := fun n h => h
  have hRl : ∀ n, n ≤ 24 → n ≤ (headSpec wsX6_reckonThird ({ frames := 1, cells := 0, slots := 0, locals := 24 } : Room)).room.locals := fun n h => h
  generalize (headSpec wsX6_reckonThird ({ frames := 1, cells := 0, slots := 0, locals := 24 } : Room)).room = R at hRf hRl ⊢
  generalize hQ : MQ below _ args s 0 0 _ = Q
  have C_98 : ∀ (va_m : Int64) (va_x : Int32) (va_more : Int32) (y0 : Int32) (y1 : Int32) (y2 : Int64) (H : Heap) (locs : List Loc) (ls : Array Slot), wp_X6_reckonThird_98 post  y0 y1 y2 → va_P D vwCl [(a_va, oX6 a_fl a_p2 va_m va_x va_more va_laid va_below va_settled va_sort)] H → va_D A [(a_va, oX6 a_fl a_p2 va_m va_x va_more va_laid va_below va_settled va_sort)] → va_S A s.heap H locs → lv_has ls 11 [] → W p l e R s m args below meth c H locs 0 0 Q (F0 m 98 ls [.int y0, .int y1, .long y2, .ref a_va]) := by
    intro va_m va_x va_more y0 y1 y2 H locs ls ho hP hD hS hl
    unfold wp_X6_reckonThird_98 at ho
    refine ca_Wv (b := a_va) (As := [.long y2, .int y1, .int y0]) (rest := []) (wr := []) (wo := fun u => [(a_va, oX6 a_fl a_p2 u.1 u.2.1 u.2.2 va_laid va_below va_settled va_sort)]) (wn := fun u => [(a_va, oX6 a_fl a_p2 u.1 u.2.1 u.2.2 va_laid va_below va_settled va_sort)]) ⟨hx, hb, hml, hown, hts⟩ (c_X6_keep l D cI cJ cZ a_fl a_va a_p2 H.size va_m va_x va_more va_laid va_below va_settled va_sort y2 y1 y0 _ _ rfl ho) (cwV 3 hts gX6_reckonThird_X6_keep rfl rfl rfl (by decide +kernel) ⟨hRf _ (Nat.le_of_ble_eq_true rfl), hRl _ (Nat.le_of_ble_eq_true rfl)⟩) hK hN hP hD hS hA [0] [] [0] rfl rfl (by decide) (by decide) (by decide) (by decide) (fun _ => rfl) 0 5 rfl rfl rfl rfl hl.1 rfl (Nat.le_of_ble_eq_true rfl) dX6_reckonThird_98 ⟨Nat.zero_le _, Nat.zero_le _⟩ (fun  u98 H locs ho hP hD hS => ?_)
    obtain ⟨u98_1, u98_2, u98_3⟩ := u98
    try dsimp only at ho
    replace hP : va_P D vwCl [(a_va, oX6 a_fl a_p2 u98_1 u98_2 u98_3 va_laid va_below va_settled va_sort)] H := hP
    replace hD : va_D A [(a_va, oX6 a_fl a_p2 u98_1 u98_2 u98_3 va_laid va_below va_settled va_sort)] := hD
    subst hQ; exact W.vret hx hb hr (fun t ht hW => ⟨⟨(u98_1, u98_2, u98_3), rfl, ho, by rw [ht]; exact hP, hD⟩, hS.F ht⟩) (fun q hq => hS.2.2 q hq) dX6_reckonThird_101
  have C_31 : ∀ n : Nat, ∀ (va_m : Int64) (va_x : Int32) (va_more : Int32) (x3 : Int32) (x4 : Int64) (x6 : Int64) (x8 : Int32) (H : Heap) (locs : List Loc) (ls : Array Slot), wp_X6_reckonThird_31 post  p2 n va_m va_x va_more x3 x4 x6 x8 → va_P D vwCl [(a_va, oX6 a_fl a_p2 va_m va_x va_more va_laid va_below va_settled va_sort)] H → va_D A [(a_va, oX6 a_fl a_p2 va_m va_x va_more va_laid va_below va_settled va_sort)] → va_S A s.heap H locs → lv_has ls 11 [(0, .ref a_va), (2, .int p2), (3, .int x3), (4, .long x4), (6, .long x6), (8, .int x8)] → W p l e R s m args below meth c H locs 0 0 Q (F0 m 31 ls []) := by
    intro n
    induction n with
    | zero => intro va_m va_x va_more x3 x4 x6 x8 H locs ls ho hP hD hS hl; exact ho.elim
    | succ n_31 ih_31 =>
      have C_63 : ∀ (va_m : Int64) (va_x : Int32) (va_more : Int32) (x3 : Int32) (x4 : Int64) (x6 : Int64) (x8 : Int32) (H : Heap) (locs : List Loc) (ls : Array Slot), wp_X6_reckonThird_63 post (wp_X6_reckonThird_31 post p2 n_31) va_m va_x va_more x3 x4 x6 x8 → va_P D vwCl [(a_va, oX6 a_fl a_p2 va_m va_x va_more va_laid va_below va_settled va_sort)] H → va_D A [(a_va, oX6 a_fl a_p2 va_m va_x va_more va_laid va_below va_settled va_sort)] → va_S A s.heap H locs → lv_has ls 11 [(0, .ref a_va), (2, .int p2), (3, .int x3), (4, .long x4), (6, .long x6), (8, .int x8)] → W p l e R s m args below meth c H locs 0 0 Q (F0 m 63 ls []) := by
        intro va_m va_x va_more x3 x4 x6 x8 H locs ls ho hP hD hS hl
        unfold wp_X6_reckonThird_63 at ho
        refine lv_iinc (v := (x8 + (-1 : Int32))) (lv' := [(8, .int (x8 + (-1 : Int32))), (0, .ref a_va), (2, .int p2), (3, .int x3), (4, .long x4), (6, .long x6)]) hx hb dX6_reckonThird_63 hl (k := 5) rfl rfl (by decide) rfl (fun ls hl => ?_)
        refine lv_goto (tgt := 31) hx hb dX6_reckonThird_66 (by decide) ?_
        exact ih_31 va_m va_x va_more x3 x4 x6 (x8 + (-1 : Int32)) H locs ls ho hP hD hS (lv_sub hl [1, 2, 3, 4, 5, 0] rfl)
      intro va_m va_x va_more x3 x4 x6 x8 H locs ls ho hP hD hS hl
      replace ho : wp_X6_reckonThird_31_b post p2 (wp_X6_reckonThird_31 post p2 n_31) va_m va_x va_more x3 x4 x6 x8 := ho
      unfold wp_X6_reckonThird_31_b at ho
      refine lv_iload hx hb dX6_reckonThird_31 (lv_at hl 5 rfl) ?_
      refine lv_if_lt (tgt := 69) hx hb dX6_reckonThird_33 (by decide) (fun c_33 => ?_) (fun c_33 => ?_)
      · replace ho := ho.1 c_33
        refine lv_aload_n hx hb dX6_reckonThird_69 rfl (lv_at hl 0 rfl) ?_
        refine lv_lload hx hb dX6_reckonThird_70 (lv_at hl 4 rfl) ?_
        refine lv_iload_n hx hb dX6_reckonThird_72 rfl (lv_at hl 1 rfl) ?_
        refine lv_iload_n hx hb dX6_reckonThird_73 rfl (lv_at hl 2 rfl) ?_
        refine lv_isub hx hb dX6_reckonThird_74 ?_
        refine lv_iconst (v := 3) hx hb dX6_reckonThird_75 (by decide) ?_
        refine ca_Si (As := [.int (p2 - x3), .int (3 : Int32)]) (rest := [.long x6, .ref a_va]) ⟨hx, hb, hml, hown, hts⟩ (c_J9_floorDiv_7cf53 l D cI cJ cZ   (p2 - x3) (3 : Int32) _ ho) (va_cwS 2 hts gX6_reckonThird_J9_floorDiv_7cf53 rfl rfl rfl (by decide +kernel) ⟨hRf _ (Nat.le_of_ble_eq_true rfl), hRl _ (Nat.le_of_ble_eq_true rfl)⟩) hK hN hP [] rfl rfl hl.1 rfl (Nat.le_of_ble_eq_true rfl) dX6_reckonThird_76 ⟨Nat.zero_le _, Nat.zero_le _⟩ (fun r76 ho => ?_)
        refine lv_lload hx hb dX6_reckonThird_79 (lv_at hl 4 rfl) ?_
        refine lv_lload hx hb dX6_reckonThird_81 (lv_at hl 4 rfl) ?_
        refine lv_lmul hx hb dX6_reckonThird_83 ?_
        refine lv_lload hx hb dX6_reckonThird_84 (lv_at hl 4 rfl) ?_
        refine lv_lmul hx hb dX6_reckonThird_86 ?_
        refine lv_lload hx hb dX6_reckonThird_87 (lv_at hl 3 rfl) ?_
        refine W.lcmp hx hb dX6_reckonThird_89 ?_
        refine lv_if_eq (tgt := 97) hx hb dX6_reckonThird_90 (by decide) (fun c_90 => ?_) (fun c_90 => ?_)
        · replace ho := ho.1 c_90
          refine lv_iconst (v := 0) hx hb dX6_reckonThird_97 (by decide) ?_
          exact C_98 va_m va_x va_more (0 : Int32) r76 x6 H locs ls ho hP hD hS (lv_sub hl [] rfl)
        · replace ho := ho.2 c_90
          refine lv_iconst (v := 1) hx hb dX6_reckonThird_93 (by decide) ?_
          refine lv_goto (tgt := 98) hx hb dX6_reckonThird_94 (by decide) ?_
          exact C_98 va_m va_x va_more (1 : Int32) r76 x6 H locs ls ho hP hD hS (lv_sub hl [] rfl)
      · replace ho := ho.2 c_33
        refine lv_lload hx hb dX6_reckonThird_36 (lv_at hl 4 rfl) ?_
        refine lv_lconst (v := 1) hx hb dX6_reckonThird_38 (by decide) ?_
        refine lv_iload hx hb dX6_reckonThird_39 (lv_at hl 5 rfl) ?_
        refine lv_lshl hx hb dX6_reckonThird_41 rfl ?_
        refine lv_ladd hx hb dX6_reckonThird_42 ?_
        refine lv_lstore (lv' := [(9, .long (x6 + ((1 : Int64) <<< (x8.toInt64 &&& 63)))), (0, .ref a_va), (2, .int p2), (3, .int x3), (4, .long x4), (6, .long x6), (8, .int x8)]) hx hb dX6_reckonThird_43 hl (by decide) rfl (fun ls hl => ?_)
        refine lv_lload hx hb dX6_reckonThird_45 (lv_at hl 0 rfl) ?_
        refine lv_lload hx hb dX6_reckonThird_47 (lv_at hl 0 rfl) ?_
        refine lv_lmul hx hb dX6_reckonThird_49 ?_
        refine lv_lload hx hb dX6_reckonThird_50 (lv_at hl 0 rfl) ?_
        refine lv_lmul hx hb dX6_reckonThird_52 ?_
        refine lv_lload hx hb dX6_reckonThird_53 (lv_at hl 4 rfl) ?_
        refine W.lcmp hx hb dX6_reckonThird_55 ?_
        refine lv_if_gt (tgt := 63) hx hb dX6_reckonThird_56 (by decide) (fun c_56 => ?_) (fun c_56 => ?_)
        · replace ho := ho.1 c_56
          exact C_63 va_m va_x va_more x3 x4 x6 x8 H locs ls ho hP hD hS (lv_sub hl [1, 2, 3, 4, 5, 6] rfl)
        · replace ho := ho.2 c_56
          refine lv_lload hx hb dX6_reckonThird_59 (lv_at hl 0 rfl) ?_
          refine lv_lstore (lv' := [(6, .long (x6 + ((1 : Int64) <<< (x8.toInt64 &&& 63)))), (9, .long (x6 + ((1 : Int64) <<< (x8.toInt64 &&& 63)))), (0, .ref a_va), (2, .int p2), (3, .int x3), (4, .long x4), (8, .int x8)]) hx hb dX6_reckonThird_61 hl (by decide) rfl (fun ls hl => ?_)
          exact C_63 va_m va_x va_more x3 x4 (x6 + ((1 : Int64) <<< (x8.toInt64 &&& 63))) x8 H locs ls ho hP hD hS (lv_sub hl [2, 3, 4, 5, 0, 6] rfl)
  unfold wp_X6_reckonThird at ho
  refine lv_bipush (v := 26) hx hb dX6_reckonThird_0 (by decide) ?_
  refine lv_iload_n hx hb dX6_reckonThird_2 rfl (lv_at hl 1 rfl) ?_
  refine ca_Si (As := [.int p1]) (rest := [.int (26 : Int32)]) ⟨hx, hb, hml, hown, hts⟩ (c_J6_numberOfLeadingZeros_0f7a4 l D cI cJ cZ   p1 _ ho) (va_cwS 1 hts gX6_reckonThird_J6_numberOfLeadingZeros_0f7a4 rfl rfl rfl (by decide +kernel) ⟨hRf _ (Nat.le_of_ble_eq_true rfl), hRl _ (Nat.le_of_ble_eq_true rfl)⟩) hK hN hP [] rfl rfl hl.1 rfl (Nat.le_of_ble_eq_true rfl) dX6_reckonThird_3 ⟨Nat.zero_le _, Nat.zero_le _⟩ (fun r3 ho => ?_)
  refine lv_iadd hx hb dX6_reckonThird_6 ?_
  refine lv_istore_n (lv' := [(3, .int ((26 : Int32) + r3)), (0, .ref a_va), (1, .int p1), (2, .int p2)]) hx hb dX6_reckonThird_7 rfl hl (by decide) rfl (fun ls hl => ?_)
  refine lv_iload_n hx hb dX6_reckonThird_8 rfl (lv_at hl 0 rfl) ?_
  refine lv_iload_n hx hb dX6_reckonThird_9 rfl (lv_at hl 3 rfl) ?_
  refine lv_iload_n hx hb dX6_reckonThird_10 rfl (lv_at hl 0 rfl) ?_
  refine lv_isub hx hb dX6_reckonThird_11 ?_
  refine lv_iconst (v := 3) hx hb dX6_reckonThird_12 (by decide) ?_
  refine ca_Si (As := [.int (p2 - ((26 : Int32) + r3)), .int (3 : Int32)]) (rest := [.int ((26 : Int32) + r3)]) ⟨hx, hb, hml, hown, hts⟩ (c_J9_floorMod_7cf53 l D cI cJ cZ   (p2 - ((26 : Int32) + r3)) (3 : Int32) _ ho) (va_cwS 2 hts gX6_reckonThird_J9_floorMod_7cf53 rfl rfl rfl (by decide +kernel) ⟨hRf _ (Nat.le_of_ble_eq_true rfl), hRl _ (Nat.le_of_ble_eq_true rfl)⟩) hK hN hP [] rfl rfl hl.1 rfl (Nat.le_of_ble_eq_true rfl) dX6_reckonThird_13 ⟨Nat.zero_le _, Nat.zero_le _⟩ (fun r13 ho => ?_)
  refine lv_iadd hx hb dX6_reckonThird_16 ?_
  refine lv_istore_n (lv' := [(3, .int (((26 : Int32) + r3) + r13)), (0, .ref a_va), (1, .int p1), (2, .int p2)]) hx hb dX6_reckonThird_17 rfl hl (by decide) rfl (fun ls hl => ?_)
  refine lv_iload_n hx hb dX6_reckonThird_18 rfl (lv_at hl 2 rfl) ?_
  refine lv_i2l hx hb dX6_reckonThird_19 rfl ?_
  refine lv_iload_n hx hb dX6_reckonThird_20 rfl (lv_at hl 0 rfl) ?_
  refine lv_lshl hx hb dX6_reckonThird_21 rfl ?_
  refine lv_lstore (lv' := [(4, .long (p1.toInt64 <<< ((((26 : Int32) + r3) + r13).toInt64 &&& 63))), (3, .int (((26 : Int32) + r3) + r13)), (0, .ref a_va), (1, .int p1), (2, .int p2)]) hx hb dX6_reckonThird_22 hl (by decide) rfl (fun ls hl => ?_)
  refine lv_lconst (v := 0) hx hb dX6_reckonThird_24 (by decide) ?_
  refine lv_lstore (lv' := [(6, .long (0 : Int64)), (4, .long (p1.toInt64 <<< ((((26 : Int32) + r3) + r13).toInt64 &&& 63))), (3, .int (((26 : Int32) + r3) + r13)), (0, .ref a_va), (1, .int p1), (2, .int p2)]) hx hb dX6_reckonThird_25 hl (by decide) rfl (fun ls hl => ?_)
  refine lv_bipush (v := 19) hx hb dX6_reckonThird_27 (by decide) ?_
  refine lv_istore (lv' := [(8, .int (19 : Int32)), (6, .long (0 : Int64)), (4, .long (p1.toInt64 <<< ((((26 : Int32) + r3) + r13).toInt64 &&& 63))), (3, .int (((26 : Int32) + r3) + r13)), (0, .ref a_va), (1, .int p1), (2, .int p2)]) hx hb dX6_reckonThird_29 hl (by decide) rfl (fun ls hl => ?_)
  obtain ⟨n_31, ho⟩ := ho
  exact C_31 n_31 va_m va_x va_more (((26 : Int32) + r3) + r13) (p1.toInt64 <<< ((((26 : Int32) + r3) + r13).toInt64 &&& 63)) (0 : Int64) (19 : Int32) H locs ls ho hP hD hS (lv_sub hl [4, 6, 3, 2, 1, 0] rfl)

def wp_X6_reckon (post : Int64 → Int32 → Int32 → Prop) (va_m : Int64) (va_x : Int32) (va_more : Int32) (p1 : Int32) (p2 : Int32) (p3 : Int32) : Prop := ((p1 = (0 : Int32)) → (wp_X6_reckonOver (fun u39_1 u39_2 u39_3 => (post  u39_1 u39_2 u39_3)) p2 p3)) ∧ ((¬ (p1 = (0 : Int32))) → (((p1 = (1 : Int32)) → (wp_X6_reckonRoot (fun u48_1 u48_2 u48_3 => (post  u48_1 u48_2 u48_3)) va_m va_x va_more p2 p3)) ∧ ((¬ (p1 = (1 : Int32))) → (((p1 = (2 : Int32)) → (wp_X6_reckonThird (fun u57_1 u57_2 u57_3 => (post  u57_1 u57_2 u57_3)) va_m va_x va_more p2 p3)) ∧ ((¬ (p1 = (2 : Int32))) → (((p1 = (3 : Int32)) → (wp_X6_keep (fun u73_1 u73_2 u73_3 => (post  u73_1 u73_2 u73_3)) (p2.toInt64 * p2.toInt64) ((2 : Int32) * p3) (0 : Int32))) ∧ ((¬ (p1 = (3 : Int32))) → (wp_X6_keep (fun u92_1 u92_2 u92_3 => (post  u92_1 u92_2 u92_3)) ((p2.toInt64 * p2.toInt64) * p2.toInt64) ((3 : Int32) * p3) (0 : Int32)))))))))
set_option maxHeartbeats 4000000 in
set_option maxRecDepth 100000 in
theorem c_X6_reckon (l : Launch) (D : va_G) (cI cJ cZ : ClassId) (a_fl : Nat) (a_va : Nat) (a_p2 : Nat) (sz : Nat) (va_m : Int64) (va_x : Int32) (va_more : Int32) (va_laid : Int32) (va_below : Int32) (va_settled : Int32) (va_sort : Int32) (p1 : Int32) (p2 : Int32) (p3 : Int32) (post : Int64 → Int32 → Int32 → Prop) (A : Nat → Prop) (hAe : A = va_A [(a_va, oX6 a_fl a_p2 va_m va_x va_more va_laid va_below va_settled va_sort)] sz) (ho : wp_X6_reckon post va_m va_x va_more p1 p2 p3) : Met l yX6_reckon wsX6_reckon ({ frames := 2, cells := 0, slots := 0, locals := 54 } : Room) (rw_P D [(cI, .int), (cJ, .long), (cZ, .boolean)] [.ref a_va, .int p1, .int p2, .int p3] sz [(a_va, oX6 a_fl a_p2 va_m va_x va_more va_laid va_below va_settled va_sort)]) (va_Qv (fun (u : (Int64) × (Int32) × (Int32)) => post u.1 u.2.1 u.2.2) (rw_B D A (fun (u : (Int64) × (Int32) × (Int32)) => [(a_va, oX6 a_fl a_p2 u.1 u.2.1 u.2.2 va_laid va_below va_settled va_sort)])) A) 0 0 A := by
  refine Met.ofW (cc := cX6_reckon) (maxL := 6) (ret := none) (by decide) rfl ?_
  intro p e s m args below meth c s₁ B hml hv
  obtain ⟨hargs, hsz, hP, hK, hN, hD0⟩ := hv
  have hx := B.exec
  have hb := B.bytes
  have hr := B.returns
  have hts := atoms_spec (ws := wsX6_reckon) B.pre
  have hown : s.vm.findClass RX6 = some m.cls := findClass_of_methodNamed B.named
  have hlocks := B.notSynchronized
  subst hsz
  have hD : va_D A [(a_va, oX6 a_fl a_p2 va_m va_x va_more va_laid va_below va_settled va_sort)] := by rw [hAe]; exact hD0.self
  have hA : ∀ q : Nat, s.heap.size ≤ q → A q := fun q h => by rw [hAe]; exact Or.inr h
  have hS : va_S A s.heap s.heap [] := va_S.rf
  have hl := lv_entry ([.ref a_va, .int p1, .int p2, .int p3]) (n := 6) (Nat.le_of_ble_eq_true rfl)
  rw [hargs, lg_entry_eq, ← hargs]
  generalize (lg_sl ([.ref a_va, .int p1, .int p2, .int p3]) ++ List.replicate (6 - (lg_sl ([.ref a_va, .int p1, .int p2, .int p3])).length) Slot.unset).toArray = ls at hl ⊢
  replace hl : lv_has ls 6 [(0, .ref a_va), (1, .int p1), (2, .int p2), (3, .int p3)] := hl
  have hRf : ∀ n, n ≤ 2 → n ≤ (headSpec wsX6_reckon ({ frames := 2, cells := 0, slots := 0, locals := 54 } : Room)).room.frames := fun n h => h
  have hRl : ∀ n, n ≤ 54 → n ≤ (headSpec wsX6_reckon ({ frames := 2, cells := 0, slots := 0, locals := 54 } : Room)).room.locals := fun n h => h
  generalize (headSpec wsX6_reckon ({ frames := 2, cells := 0, slots := 0, locals := 54 } : Room)).room = R at hRf hRl ⊢
  generalize hQ : MQ below _ args s 0 0 _ = Q
  unfold wp_X6_reckon at ho
  refine lv_iload_n hx hb dX6_reckon_0 rfl (lv_at hl 2 rfl) ?_
  refine lv_i2l hx hb dX6_reckon_1 rfl ?_
  refine lv_lstore (lv' := [(4, .long p2.toInt64), (0, .ref a_va), (1, .int p1), (2, .int p2), (3, .int p3)]) hx hb dX6_reckon_2 hl (by decide) rfl (fun ls hl => ?_)
  refine lv_iload_n hx hb dX6_reckon_4 rfl (lv_at hl 2 rfl) ?_
  refine lv_topi (fun z_5 ez_5 => ?_)
  rw [← ez_5] at ho
  by_cases n_5_0 : z_5 = 0
  · replace ho := ho.1 n_5_0
    subst n_5_0
    refine lv_tableIn (tgt := 36) hx hb dX6_reckon_5 (by decide) (by decide) rfl (by decide) ?_
    refine lv_aload_n hx hb dX6_reckon_36 rfl (lv_at hl 1 rfl) ?_
    refine lv_iload_n hx hb dX6_reckon_37 rfl (lv_at hl 3 rfl) ?_
    refine lv_iload_n hx hb dX6_reckon_38 rfl (lv_at hl 4 rfl) ?_
    refine ca_Wv (b := a_va) (As := [.int p2, .int p3]) (rest := []) (wr := []) (wo := fun u => [(a_va, oX6 a_fl a_p2 u.1 u.2.1 u.2.2 va_laid va_below va_settled va_sort)]) (wn := fun u => [(a_va, oX6 a_fl a_p2 u.1 u.2.1 u.2.2 va_laid va_below va_settled va_sort)]) ⟨hx, hb, hml, hown, hts⟩ (c_X6_reckonOver l D cI cJ cZ a_fl a_va a_p2 H.size va_m va_x va_more va_laid va_below va_settled va_sort p2 p3 _ _ rfl ho) (cwV 2 hts gX6_reckon_X6_reckonOver rfl rfl rfl (by decide +kernel) ⟨hRf _ (Nat.le_of_ble_eq_true rfl), hRl _ (Nat.le_of_ble_eq_true rfl)⟩) hK hN hP hD hS hA [0] [] [0] rfl rfl (by decide) (by decide) (by decide) (by decide) (fun _ => rfl) 0 5 rfl rfl rfl rfl hl.1 rfl (Nat.le_of_ble_eq_true rfl) dX6_reckon_39 ⟨Nat.zero_le _, Nat.zero_le _⟩ (fun  u39 H locs ho hP hD hS => ?_)
    obtain ⟨u39_1, u39_2, u39_3⟩ := u39
    try dsimp only at ho
    replace hP : va_P D vwCl [(a_va, oX6 a_fl a_p2 u39_1 u39_2 u39_3 va_laid va_below va_settled va_sort)] H := hP
    replace hD : va_D A [(a_va, oX6 a_fl a_p2 u39_1 u39_2 u39_3 va_laid va_below va_settled va_sort)] := hD
    refine lv_goto (tgt := 95) hx hb dX6_reckon_42 (by decide) ?_
    subst hQ; exact W.vret hx hb hr (fun t ht hW => ⟨⟨(u39_1, u39_2, u39_3), rfl, ho, by rw [ht]; exact hP, hD⟩, hS.F ht⟩) (fun q hq => hS.2.2 q hq) dX6_reckon_95
  replace ho := ho.2 n_5_0
  by_cases n_5_1 : z_5 = 1
  · replace ho := ho.1 n_5_1
    subst n_5_1
    refine lv_tableIn (tgt := 45) hx hb dX6_reckon_5 (by decide) (by decide) rfl (by decide) ?_
    refine lv_aload_n hx hb dX6_reckon_45 rfl (lv_at hl 1 rfl) ?_
    refine lv_iload_n hx hb dX6_reckon_46 rfl (lv_at hl 3 rfl) ?_
    refine lv_iload_n hx hb dX6_reckon_47 rfl (lv_at hl 4 rfl) ?_
    refine ca_Wv (b := a_va) (As := [.int p2, .int p3]) (rest := []) (wr := []) (wo := fun u => [(a_va, oX6 a_fl a_p2 u.1 u.2.1 u.2.2 va_laid va_below va_settled va_sort)]) (wn := fun u => [(a_va, oX6 a_fl a_p2 u.1 u.2.1 u.2.2 va_laid va_below va_settled va_sort)]) ⟨hx, hb, hml, hown, hts⟩ (c_X6_reckonRoot l D cI cJ cZ a_fl a_va a_p2 H.size va_m va_x va_more va_laid va_below va_settled va_sort p2 p3 _ _ rfl ho) (cwV 2 hts gX6_reckon_X6_reckonRoot rfl rfl rfl (by decide +kernel) ⟨hRf _ (Nat.le_of_ble_eq_true rfl), hRl _ (Nat.le_of_ble_eq_true rfl)⟩) hK hN hP hD hS hA [0] [] [0] rfl rfl (by decide) (by decide) (by decide) (by decide) (fun _ => rfl) 0 5 rfl rfl rfl rfl hl.1 rfl (Nat.le_of_ble_eq_true rfl) dX6_reckon_48 ⟨Nat.zero_le _, Nat.zero_le _⟩ (fun  u48 H locs ho hP hD hS => ?_)
    obtain ⟨u48_1, u48_2, u48_3⟩ := u48
    try dsimp only at ho
    replace hP : va_P D vwCl [(a_va, oX6 a_fl a_p2 u48_1 u48_2 u48_3 va_laid va_below va_settled va_sort)] H := hP
    replace hD : va_D A [(a_va, oX6 a_fl a_p2 u48_1 u48_2 u48_3 va_laid va_below va_settled va_sort)] := hD
    refine lv_goto (tgt := 95) hx hb dX6_reckon_51 (by decide) ?_
    subst hQ; exact W.vret hx hb hr (fun t ht hW => ⟨⟨(u48_1, u48_2, u48_3), rfl, ho, by rw [ht]; exact hP, hD⟩, hS.F ht⟩) (fun q hq => hS.2.2 q hq) dX6_reckon_95
  replace ho := ho.2 n_5_1
  by_cases n_5_2 : z_5 = 2
  · replace ho := ho.1 n_5_2
    subst n_5_2
    refine lv_tableIn (tgt := 54) hx hb dX6_reckon_5 (by decide) (by decide) rfl (by decide) ?_
    refine lv_aload_n hx hb dX6_reckon_54 rfl (lv_at hl 1 rfl) ?_
    refine lv_iload_n hx hb dX6_reckon_55 rfl (lv_at hl 3 rfl) ?_
    refine lv_iload_n hx hb dX6_reckon_56 rfl (lv_at hl 4 rfl) ?_
    refine ca_Wv (b := a_va) (As := [.int p2, .int p3]) (rest := []) (wr := []) (wo := fun u => [(a_va, oX6 a_fl a_p2 u.1 u.2.1 u.2.2 va_laid va_below va_settled va_sort)]) (wn := fun u => [(a_va, oX6 a_fl a_p2 u.1 u.2.1 u.2.2 va_laid va_below va_settled va_sort)]) ⟨hx, hb, hml, hown, hts⟩ (c_X6_reckonThird l D cI cJ cZ a_fl a_va a_p2 H.size va_m va_x va_more va_laid va_below va_settled va_sort p2 p3 _ _ rfl ho) (cwV 2 hts gX6_reckon_X6_reckonThird rfl rfl rfl (by decide +kernel) ⟨hRf _ (Nat.le_of_ble_eq_true rfl), hRl _ (Nat.le_of_ble_eq_true rfl)⟩) hK hN hP hD hS hA [0] [] [0] rfl rfl (by decide) (by decide) (by decide) (by decide) (fun _ => rfl) 0 5 rfl rfl rfl rfl hl.1 rfl (Nat.le_of_ble_eq_true rfl) dX6_reckon_57 ⟨Nat.zero_le _, Nat.zero_le _⟩ (fun  u57 H locs ho hP hD hS => ?_)
    obtain ⟨u57_1, u57_2, u57_3⟩ := u57
    try dsimp only at ho
    replace hP : va_P D vwCl [(a_va, oX6 a_fl a_p2 u57_1 u57_2 u57_3 va_laid va_below va_settled va_sort)] H := hP
    replace hD : va_D A [(a_va, oX6 a_fl a_p2 u57_1 u57_2 u57_3 va_laid va_below va_settled va_sort)] := hD
    refine lv_goto (tgt := 95) hx hb dX6_reckon_60 (by decide) ?_
    subst hQ; exact W.vret hx hb hr (fun t ht hW => ⟨⟨(u57_1, u57_2, u57_3), rfl, ho, by rw [ht]; exact hP, hD⟩, hS.F ht⟩) (fun q hq => hS.2.2 q hq) dX6_reckon_95
  replace ho := ho.2 n_5_2
  by_cases n_5_3 : z_5 = 3
  · replace ho := ho.1 n_5_3
    subst n_5_3
    refine lv_tableIn (tgt := 63) hx hb dX6_reckon_5 (by decide) (by decide) rfl (by decide) ?_
    refine lv_aload_n hx hb dX6_reckon_63 rfl (lv_at hl 1 rfl) ?_
    refine lv_lload hx hb dX6_reckon_64 (lv_at hl 0 rfl) ?_
    refine lv_lload hx hb dX6_reckon_66 (lv_at hl 0 rfl) ?_
    refine lv_lmul hx hb dX6_reckon_68 ?_
    refine lv_iconst (v := 2) hx hb dX6_reckon_69 (by decide) ?_
    refine lv_iload_n hx hb dX6_reckon_70 rfl (lv_at hl 4 rfl) ?_
    refine lv_imul hx hb dX6_reckon_71 ?_
    refine lv_iconst (v := 0) hx hb dX6_reckon_72 (by decide) ?_
    refine ca_Wv (b := a_va) (As := [.long (p2.toInt64 * p2.toInt64), .int ((2 : Int32) * p3), .int (0 : Int32)]) (rest := []) (wr := []) (wo := fun u => [(a_va, oX6 a_fl a_p2 u.1 u.2.1 u.2.2 va_laid va_below va_settled va_sort)]) (wn := fun u => [(a_va, oX6 a_fl a_p2 u.1 u.2.1 u.2.2 va_laid va_below va_settled va_sort)]) ⟨hx, hb, hml, hown, hts⟩ (c_X6_keep l D cI cJ cZ a_fl a_va a_p2 H.size va_m va_x va_more va_laid va_below va_settled va_sort (p2.toInt64 * p2.toInt64) ((2 : Int32) * p3) (0 : Int32) _ _ rfl ho) (cwV 3 hts gX6_reckon_X6_keep rfl rfl rfl (by decide +kernel) ⟨hRf _ (Nat.le_of_ble_eq_true rfl), hRl _ (Nat.le_of_ble_eq_true rfl)⟩) hK hN hP hD hS hA [0] [] [0] rfl rfl (by decide) (by decide) (by decide) (by decide) (fun _ => rfl) 0 5 rfl rfl rfl rfl hl.1 rfl (Nat.le_of_ble_eq_true rfl) dX6_reckon_73 ⟨Nat.zero_le _, Nat.zero_le _⟩ (fun  u73 H locs ho hP hD hS => ?_)
    obtain ⟨u73_1, u73_2, u73_3⟩ := u73
    try dsimp only at ho
    replace hP : va_P D vwCl [(a_va, oX6 a_fl a_p2 u73_1 u73_2 u73_3 va_laid va_below va_settled va_sort)] H := hP
    replace hD : va_D A [(a_va, oX6 a_fl a_p2 u73_1 u73_2 u73_3 va_laid va_below va_settled va_sort)] := hD
    refine lv_goto (tgt := 95) hx hb dX6_reckon_76 (by decide) ?_
    subst hQ; exact W.vret hx hb hr (fun t ht hW => ⟨⟨(u73_1, u73_2, u73_3), rfl, ho, by rw [ht]; exact hP, hD⟩, hS.F ht⟩) (fun q hq => hS.2.2 q hq) dX6_reckon_95
  replace ho := ho.2 n_5_3
  refine lv_tableOut (tgt := 79) hx hb dX6_reckon_5 (by have q_5_0 := lv_neT (a := 0) n_5_0 rfl; have q_5_1 := lv_neT (a := 1) n_5_1 rfl; have q_5_2 := lv_neT (a := 2) n_5_2 rfl; have q_5_3 := lv_neT (a := 3) n_5_3 rfl; omega) (by decide) ?_
  refine lv_aload_n hx hb dX6_reckon_79 rfl (lv_at hl 1 rfl) ?_
  refine lv_lload hx hb dX6_reckon_80 (lv_at hl 0 rfl) ?_
  refine lv_lload hx hb dX6_reckon_82 (lv_at hl 0 rfl) ?_
  refine lv_lmul hx hb dX6_reckon_84 ?_
  refine lv_lload hx hb dX6_reckon_85 (lv_at hl 0 rfl) ?_
  refine lv_lmul hx hb dX6_reckon_87 ?_
  refine lv_iconst (v := 3) hx hb dX6_reckon_88 (by decide) ?_
  refine lv_iload_n hx hb dX6_reckon_89 rfl (lv_at hl 4 rfl) ?_
  refine lv_imul hx hb dX6_reckon_90 ?_
  refine lv_iconst (v := 0) hx hb dX6_reckon_91 (by decide) ?_
  refine ca_Wv (b := a_va) (As := [.long ((p2.toInt64 * p2.toInt64) * p2.toInt64), .int ((3 : Int32) * p3), .int (0 : Int32)]) (rest := []) (wr := []) (wo := fun u => [(a_va, oX6 a_fl a_p2 u.1 u.2.1 u.2.2 va_laid va_below va_settled va_sort)]) (wn := fun u => [(a_va, oX6 a_fl a_p2 u.1 u.2.1 u.2.2 va_laid va_below va_settled va_sort)]) ⟨hx, hb, hml, hown, hts⟩ (c_X6_keep l D cI cJ cZ a_fl a_va a_p2 H.size va_m va_x va_more va_laid va_below va_settled va_sort ((p2.toInt64 * p2.toInt64) * p2.toInt64) ((3 : Int32) * p3) (0 : Int32) _ _ rfl ho) (cwV 3 hts gX6_reckon_X6_keep rfl rfl rfl (by decide +kernel) ⟨hRf _ (Nat.le_of_ble_eq_true rfl), hRl _ (Nat.le_of_ble_eq_true rfl)⟩) hK hN hP hD hS hA [0] [] [0] rfl rfl (by decide) (by decide) (by decide) (by decide) (fun _ => rfl) 0 5 rfl rfl rfl rfl hl.1 rfl (Nat.le_of_ble_eq_true rfl) dX6_reckon_92 ⟨Nat.zero_le _, Nat.zero_le _⟩ (fun  u92 H locs ho hP hD hS => ?_)
  obtain ⟨u92_1, u92_2, u92_3⟩ := u92
  try dsimp only at ho
  replace hP : va_P D vwCl [(a_va, oX6 a_fl a_p2 u92_1 u92_2 u92_3 va_laid va_below va_settled va_sort)] H := hP
  replace hD : va_D A [(a_va, oX6 a_fl a_p2 u92_1 u92_2 u92_3 va_laid va_below va_settled va_sort)] := hD
  subst hQ; exact W.vret hx hb hr (fun t ht hW => ⟨⟨(u92_1, u92_2, u92_3), rfl, ho, by rw [ht]; exact hP, hD⟩, hS.F ht⟩) (fun q hq => hS.2.2 q hq) dX6_reckon_95

def wp_X6_settledResult_98 (post : Int32 → Prop)  (fl_endless : Int32) (x5 : Int32) (y0 : Int32) : Prop := ((y0 = 0) → (post (x5 + fl_endless))) ∧ ((¬ (y0 = 0)) → (post x5))
def wp_X6_settledResult_90 (post : Int32 → Prop)  (fl_endless : Int32) (x5 : Int32) (y0 : Int32) (y1 : Int32) : Prop := ((y1 = y0) → (wp_X6_settledResult_98 post fl_endless x5 (0 : Int32))) ∧ ((¬ (y1 = y0)) → (wp_X6_settledResult_98 post fl_endless x5 (1 : Int32)))
def wp_X6_settledResult_78 (post : Int32 → Prop)  (fl_endless : Int32) (p1 : Int32) (x3 : Int32) (y0 : Int32) : Prop := ((¬ p1 = 0) → (wp_X6_settledResult_90 post fl_endless y0 (0 : Int32) x3)) ∧ ((¬ (¬ p1 = 0)) → (wp_X6_settledResult_90 post fl_endless y0 (1 : Int32) x3))
def wp_X6_settledResult_52 (post : Int32 → Prop)  (fl_endless : Int32) : Prop := wp_X1_none (fun r56 => (post r56)) fl_endless
def wp_X6_settledResult_34 (post : Int32 → Prop)  (fl_signBit : Int32) (fl_endless : Int32) (p1 : Int32) (p2 : Int32) (x3 : Int32) (y0 : Int32) : Prop := wp_X1_isNone (fun r41 => (((¬ r41 = 0) → (wp_X6_settledResult_52 post fl_endless)) ∧ ((¬ (¬ r41 = 0)) → (((y0 = 0) → (((¬ p1 = (3 : Int32)) → (wp_X6_settledResult_78 post fl_endless p1 x3 (p2 &&& fl_signBit))) ∧ ((¬ (¬ p1 = (3 : Int32))) → (wp_X6_settledResult_78 post fl_endless p1 x3 (0 : Int32))))) ∧ ((¬ (y0 = 0)) → (wp_X6_settledResult_52 post fl_endless)))))) fl_signBit fl_endless p2
def wp_X6_settledResult_33 (post : Int32 → Prop)  (fl_signBit : Int32) (fl_endless : Int32) (p1 : Int32) (p2 : Int32) (x3 : Int32) : Prop := wp_X6_settledResult_34 post fl_signBit fl_endless p1 p2 x3 (0 : Int32)
def wp_X6_settledResult (post : Int32 → Prop) (fl_signBit : Int32) (fl_endless : Int32) (p1 : Int32) (p2 : Int32) : Prop := wp_X1_isZero (fun r5 => (((¬ p1 = (1 : Int32)) → (wp_X6_settledResult_33 post fl_signBit fl_endless p1 p2 r5)) ∧ ((¬ (¬ p1 = (1 : Int32))) → (wp_X1_isBelow (fun r19 => (((r19 = 0) → (wp_X6_settledResult_33 post fl_signBit fl_endless p1 p2 r5)) ∧ ((¬ (r19 = 0)) → (((¬ r5 = 0) → (wp_X6_settledResult_33 post fl_signBit fl_endless p1 p2 r5)) ∧ ((¬ (¬ r5 = 0)) → (wp_X6_settledResult_34 post fl_signBit fl_endless p1 p2 r5 (1 : Int32))))))) fl_signBit p2)))) fl_signBit p2
set_option maxRecDepth 20000 in
theorem in_X6_settledResult_X1 : ∀ w ∈ u_ws RX1 TX1 6, w ∈ wsX6_settledResult := fun w h => (goodIn_r wsX10 [34, 35, 36, 37, 38, 39] (by decide +kernel) (by decide +kernel) w h).1
set_option maxRecDepth 20000 in
theorem in_X6_settledResult_X6 : ∀ w ∈ u_ws RX6 TX6 9, w ∈ wsX6_settledResult := fun w h => (goodIn_r wsX60 [25, 26, 27, 28, 29, 30, 31, 32, 33] (by decide +kernel) (by decide +kernel) w h).1
set_option maxHeartbeats 4000000 in
set_option maxRecDepth 100000 in
theorem c_X6_settledResult (l : Launch) (D : va_G) (cI cJ cZ : ClassId) (a_fl : Nat) (a_va : Nat) (a_p2 : Nat) (fl_e : Int32) (fl_f : Int32) (fl_bias : Int32) (fl_codes : Int32) (fl_signBit : Int32) (fl_endless : Int32) (va_m : Int64) (va_x : Int32) (va_more : Int32) (va_laid : Int32) (va_below : Int32) (va_settled : Int32) (va_sort : Int32) (p1 : Int32) (p2 : Int32) (post : Int32 → Prop) (ho : wp_X6_settledResult post fl_signBit fl_endless p1 p2) : Met l yX6_settledResult wsX6_settledResult ({ frames := 2, cells := 0, slots := 0, locals := 42 } : Room) (ro_P D [(cI, .int), (cJ, .long), (cZ, .boolean)] [.ref a_va, .int p1, .int p2] [(a_fl, oX1 fl_e fl_f fl_bias fl_codes fl_signBit fl_endless), (a_va, oX6 a_fl a_p2 va_m va_x va_more va_laid va_below va_settled va_sort)]) (vp_Si post) 0 0 (fun _ => False) := by
  refine Met.ofW (cc := cX6_settledResult) (maxL := 7) (ret := (some .int)) (by decide) rfl ?_
  intro p e s m args below meth c s₁ B hml hv
  obtain ⟨hargs, hP, hK, hN⟩ := hv
  have hx := B.exec
  have hb := B.bytes
  have hr := B.returns
  have hts := atoms_spec (ws := wsX6_settledResult) B.pre
  have hown : s.vm.findClass RX6 = some m.cls := findClass_of_methodNamed B.named
  have hlocks := B.notSynchronized
  have hl := lv_entry ([.ref a_va, .int p1, .int p2]) (n := 7) (Nat.le_of_ble_eq_true rfl)
  rw [hargs, lg_entry_eq, ← hargs]
  generalize (lg_sl ([.ref a_va, .int p1, .int p2]) ++ List.replicate (7 - (lg_sl ([.ref a_va, .int p1, .int p2])).length) Slot.unset).toArray = ls at hl ⊢
  replace hl : lv_has ls 7 [(0, .ref a_va), (1, .int p1), (2, .int p2)] := hl
  have hRf : ∀ n, n ≤ 2 → n ≤ (headSpec wsX6_settledResult ({ frames := 2, cells := 0, slots := 0, locals := 42 } : Room)).room.frames := fun n h => h
  have hRl : ∀ n, n ≤ 42 → n ≤ (headSpec wsX6_settledResult ({ frames := 2, cells := 0, slots := 0, locals := 42 } : Room)).room.locals := fun n h => h
  generalize (headSpec wsX6_settledResult ({ frames := 2, cells := 0, slots := 0, locals := 42 } : Room)).room = R at hRf hRl ⊢
  generalize hQ : MQ below _ args s 0 0 _ = Q
  have C_98 : ∀ (x5 : Int32) (y0 : Int32) (ls : Array Slot), wp_X6_settledResult_98 post  fl_endless x5 y0 → lv_has ls 7 [(0, .ref a_va), (5, .int x5)] → W p l e R s m args below meth c s.heap [] 0 0 Q (F0 m 98 ls [.int y0]) := by
    intro x5 y0 ls ho hl
    unfold wp_X6_settledResult_98 at ho
    refine lv_istore (lv' := [(6, .int y0), (0, .ref a_va), (5, .int x5)]) hx hb dX6_settledResult_98 hl (by decide) rfl (fun ls hl => ?_)
    refine lv_iload hx hb dX6_settledResult_100 (lv_at hl 0 rfl) ?_
    refine lv_if_eq (tgt := 110) hx hb dX6_settledResult_102 (by decide) (fun c_102 => ?_) (fun c_102 => ?_)
    · replace ho := ho.1 c_102
      refine lv_iload hx hb dX6_settledResult_110 (lv_at hl 2 rfl) ?_
      refine lv_aload_n hx hb dX6_settledResult_112 rfl (lv_at hl 1 rfl) ?_
      refine va_get (D := D) (ci := 5) (v := .ref a_fl) (C := RX6) (T := TX6) (N := 9) hx hb hts in_X6_settledResult_X6 hown hK hP 1 rfl rfl 0 (by decide) (hts (.fieldLink RX6 9 "HardBench$Value" "floats" "LHardBench$Floats;") (List.mem_of_getElem? (i := 1) (by decide +kernel))) (fun _ h9 => h9) rfl dX6_settledResult_113 ?_
      refine va_getN (D := D) (ci := 1) (v := .int fl_endless) (C := RX1) (T := TX1) (N := 6) hx hb hts in_X6_settledResult_X1 hown hK hP 0 rfl rfl 5 (by decide) hN.fRX6_106 (fun _ h9 => h9) rfl dX6_settledResult_116 ?_
      refine lv_iadd hx hb dX6_settledResult_119 ?_
      subst hQ; exact W.iret (v := (x5 + fl_endless)) hx hb hr (fun t ht _ => ⟨(x5 + fl_endless), rfl, ho, ht⟩) (fun _ h => by cases h) dX6_settledResult_120
    · replace ho := ho.2 c_102
      refine lv_iload hx hb dX6_settledResult_105 (lv_at hl 2 rfl) ?_
      refine lv_goto (tgt := 120) hx hb dX6_settledResult_107 (by decide) ?_
      subst hQ; exact W.iret (v := x5) hx hb hr (fun t ht _ => ⟨x5, rfl, ho, ht⟩) (fun _ h => by cases h) dX6_settledResult_120
  have C_90 : ∀ (x5 : Int32) (y0 : Int32) (y1 : Int32) (ls : Array Slot), wp_X6_settledResult_90 post  fl_endless x5 y0 y1 → lv_has ls 7 [(0, .ref a_va), (5, .int x5)] → W p l e R s m args below meth c s.heap [] 0 0 Q (F0 m 90 ls [.int y0, .int y1]) := by
    intro x5 y0 y1 ls ho hl
    unfold wp_X6_settledResult_90 at ho
    refine lv_icmp_eq (tgt := 97) hx hb dX6_settledResult_90 (by decide) (fun c_90 => ?_) (fun c_90 => ?_)
    · replace ho := ho.1 c_90
      refine lv_iconst (v := 0) hx hb dX6_settledResult_97 (by decide) ?_
      exact C_98 x5 (0 : Int32) ls ho (lv_sub hl [0, 1] rfl)
    · replace ho := ho.2 c_90
      refine lv_iconst (v := 1) hx hb dX6_settledResult_93 (by decide) ?_
      refine lv_goto (tgt := 98) hx hb dX6_settledResult_94 (by decide) ?_
      exact C_98 x5 (1 : Int32) ls ho (lv_sub hl [0, 1] rfl)
  have C_78 : ∀ (x3 : Int32) (y0 : Int32) (ls : Array Slot), wp_X6_settledResult_78 post  fl_endless p1 x3 y0 → lv_has ls 7 [(0, .ref a_va), (1, .int p1), (3, .int x3)] → W p l e R s m args below meth c s.heap [] 0 0 Q (F0 m 78 ls [.int y0]) := by
    intro x3 y0 ls ho hl
    unfold wp_X6_settledResult_78 at ho
    refine lv_istore (lv' := [(5, .int y0), (0, .ref a_va), (1, .int p1), (3, .int x3)]) hx hb dX6_settledResult_78 hl (by decide) rfl (fun ls hl => ?_)
    refine lv_iload_n hx hb dX6_settledResult_80 rfl (lv_at hl 3 rfl) ?_
    refine lv_iload_n hx hb dX6_settledResult_81 rfl (lv_at hl 2 rfl) ?_
    refine lv_if_ne (tgt := 89) hx hb dX6_settledResult_82 (by decide) (fun c_82 => ?_) (fun c_82 => ?_)
    · replace ho := ho.1 c_82
      refine lv_iconst (v := 0) hx hb dX6_settledResult_89 (by decide) ?_
      exact C_90 y0 (0 : Int32) x3 ls ho (lv_sub hl [1, 0] rfl)
    · replace ho := ho.2 c_82
      refine lv_iconst (v := 1) hx hb dX6_settledResult_85 (by decide) ?_
      refine lv_goto (tgt := 90) hx hb dX6_settledResult_86 (by decide) ?_
      exact C_90 y0 (1 : Int32) x3 ls ho (lv_sub hl [1, 0] rfl)
  have C_52 : ∀  (ls : Array Slot), wp_X6_settledResult_52 post  fl_endless → lv_has ls 7 [(0, .ref a_va)] → W p l e R s m args below meth c s.heap [] 0 0 Q (F0 m 52 ls []) := by
    intro  ls ho hl
    unfold wp_X6_settledResult_52 at ho
    refine lv_aload_n hx hb dX6_settledResult_52 rfl (lv_at hl 0 rfl) ?_
    refine va_get (D := D) (ci := 5) (v := .ref a_fl) (C := RX6) (T := TX6) (N := 9) hx hb hts in_X6_settledResult_X6 hown hK hP 1 rfl rfl 0 (by decide) (hts (.fieldLink RX6 9 "HardBench$Value" "floats" "LHardBench$Floats;") (List.mem_of_getElem? (i := 1) (by decide +kernel))) (fun _ h9 => h9) rfl dX6_settledResult_53 ?_
    refine ca_Vi (b := a_fl) (As := []) (rest := []) ⟨hx, hb, hml, hown, hts⟩ (c_X1_none l D cI cJ cZ a_fl fl_e fl_f fl_bias fl_codes fl_signBit fl_endless  _ ho) (cwV 0 hts gX6_settledResult_X1_none rfl rfl rfl (by decide +kernel) ⟨hRf _ (Nat.le_of_ble_eq_true rfl), hRl _ (Nat.le_of_ble_eq_true rfl)⟩) hK hN hP [0] rfl 0 1 rfl rfl rfl rfl hl.1 rfl (Nat.le_of_ble_eq_true rfl) dX6_settledResult_56 ⟨Nat.zero_le _, Nat.zero_le _⟩ (fun r56 ho => ?_)
    subst hQ; exact W.iret (v := r56) hx hb hr (fun t ht _ => ⟨r56, rfl, ho, ht⟩) (fun _ h => by cases h) dX6_settledResult_59
  have C_34 : ∀ (x3 : Int32) (y0 : Int32) (ls : Array Slot), wp_X6_settledResult_34 post  fl_signBit fl_endless p1 p2 x3 y0 → lv_has ls 7 [(0, .ref a_va), (1, .int p1), (2, .int p2), (3, .int x3)] → W p l e R s m args below meth c s.heap [] 0 0 Q (F0 m 34 ls [.int y0]) := by
    intro x3 y0 ls ho hl
    unfold wp_X6_settledResult_34 at ho
    refine lv_istore (lv' := [(4, .int y0), (0, .ref a_va), (1, .int p1), (2, .int p2), (3, .int x3)]) hx hb dX6_settledResult_34 hl (by decide) rfl (fun ls hl => ?_)
    refine lv_aload_n hx hb dX6_settledResult_36 rfl (lv_at hl 1 rfl) ?_
    refine va_get (D := D) (ci := 5) (v := .ref a_fl) (C := RX6) (T := TX6) (N := 9) hx hb hts in_X6_settledResult_X6 hown hK hP 1 rfl rfl 0 (by decide) (hts (.fieldLink RX6 9 "HardBench$Value" "floats" "LHardBench$Floats;") (List.mem_of_getElem? (i := 1) (by decide +kernel))) (fun _ h9 => h9) rfl dX6_settledResult_37 ?_
    refine lv_iload_n hx hb dX6_settledResult_40 rfl (lv_at hl 3 rfl) ?_
    refine ca_Vi (b := a_fl) (As := [.int p2]) (rest := []) ⟨hx, hb, hml, hown, hts⟩ (c_X1_isNone l D cI cJ cZ a_fl fl_e fl_f fl_bias fl_codes fl_signBit fl_endless p2 _ ho) (cwV 1 hts gX6_settledResult_X1_isNone rfl rfl rfl (by decide +kernel) ⟨hRf _ (Nat.le_of_ble_eq_true rfl), hRl _ (Nat.le_of_ble_eq_true rfl)⟩) hK hN hP [0] rfl 0 1 rfl rfl rfl rfl hl.1 rfl (Nat.le_of_ble_eq_true rfl) dX6_settledResult_41 ⟨Nat.zero_le _, Nat.zero_le _⟩ (fun r41 ho => ?_)
    refine lv_if_ne (tgt := 52) hx hb dX6_settledResult_44 (by decide) (fun c_44 => ?_) (fun c_44 => ?_)
    · replace ho := ho.1 c_44
      exact C_52  ls ho (lv_sub hl [1] rfl)
    · replace ho := ho.2 c_44
      refine lv_iload hx hb dX6_settledResult_47 (lv_at hl 0 rfl) ?_
      refine lv_if_eq (tgt := 60) hx hb dX6_settledResult_49 (by decide) (fun c_49 => ?_) (fun c_49 => ?_)
      · replace ho := ho.1 c_49
        refine lv_iload_n hx hb dX6_settledResult_60 rfl (lv_at hl 2 rfl) ?_
        refine lv_iconst (v := 3) hx hb dX6_settledResult_61 (by decide) ?_
        refine lv_icmp_ne (tgt := 69) hx hb dX6_settledResult_62 (by decide) (fun c_62 => ?_) (fun c_62 => ?_)
        · replace ho := ho.1 c_62
          refine lv_iload_n hx hb dX6_settledResult_69 rfl (lv_at hl 3 rfl) ?_
          refine lv_aload_n hx hb dX6_settledResult_70 rfl (lv_at hl 1 rfl) ?_
          refine va_get (D := D) (ci := 5) (v := .ref a_fl) (C := RX6) (T := TX6) (N := 9) hx hb hts in_X6_settledResult_X6 hown hK hP 1 rfl rfl 0 (by decide) (hts (.fieldLink RX6 9 "HardBench$Value" "floats" "LHardBench$Floats;") (List.mem_of_getElem? (i := 1) (by decide +kernel))) (fun _ h9 => h9) rfl dX6_settledResult_71 ?_
          refine va_getN (D := D) (ci := 1) (v := .int fl_signBit) (C := RX1) (T := TX1) (N := 6) hx hb hts in_X6_settledResult_X1 hown hK hP 0 rfl rfl 4 (by decide) hN.fRX6_103 (fun _ h9 => h9) rfl dX6_settledResult_74 ?_
          refine lv_iand hx hb dX6_settledResult_77 ?_
          exact C_78 x3 (p2 &&& fl_signBit) ls ho (lv_sub hl [1, 2, 4] rfl)
        · replace ho := ho.2 c_62
          refine lv_iconst (v := 0) hx hb dX6_settledResult_65 (by decide) ?_
          refine lv_goto (tgt := 78) hx hb dX6_settledResult_66 (by decide) ?_
          exact C_78 x3 (0 : Int32) ls ho (lv_sub hl [1, 2, 4] rfl)
      · replace ho := ho.2 c_49
        exact C_52  ls ho (lv_sub hl [1] rfl)
  have C_33 : ∀ (x3 : Int32) (ls : Array Slot), wp_X6_settledResult_33 post  fl_signBit fl_endless p1 p2 x3 → lv_has ls 7 [(0, .ref a_va), (1, .int p1), (2, .int p2), (3, .int x3)] → W p l e R s m args below meth c s.heap [] 0 0 Q (F0 m 33 ls []) := by
    intro x3 ls ho hl
    unfold wp_X6_settledResult_33 at ho
    refine lv_iconst (v := 0) hx hb dX6_settledResult_33 (by decide) ?_
    exact C_34 x3 (0 : Int32) ls ho (lv_sub hl [0, 1, 2, 3] rfl)
  unfold wp_X6_settledResult at ho
  refine lv_aload_n hx hb dX6_settledResult_0 rfl (lv_at hl 0 rfl) ?_
  refine va_get (D := D) (ci := 5) (v := .ref a_fl) (C := RX6) (T := TX6) (N := 9) hx hb hts in_X6_settledResult_X6 hown hK hP 1 rfl rfl 0 (by decide) (hts (.fieldLink RX6 9 "HardBench$Value" "floats" "LHardBench$Floats;") (List.mem_of_getElem? (i := 1) (by decide +kernel))) (fun _ h9 => h9) rfl dX6_settledResult_1 ?_
  refine lv_iload_n hx hb dX6_settledResult_4 rfl (lv_at hl 2 rfl) ?_
  refine ca_Vi (b := a_fl) (As := [.int p2]) (rest := []) ⟨hx, hb, hml, hown, hts⟩ (c_X1_isZero l D cI cJ cZ a_fl fl_e fl_f fl_bias fl_codes fl_signBit fl_endless p2 _ ho) (cwV 1 hts gX6_settledResult_X1_isZero rfl rfl rfl (by decide +kernel) ⟨hRf _ (Nat.le_of_ble_eq_true rfl), hRl _ (Nat.le_of_ble_eq_true rfl)⟩) hK hN hP [0] rfl 0 1 rfl rfl rfl rfl hl.1 rfl (Nat.le_of_ble_eq_true rfl) dX6_settledResult_5 ⟨Nat.zero_le _, Nat.zero_le _⟩ (fun r5 ho => ?_)
  refine lv_istore_n (lv' := [(3, .int r5), (0, .ref a_va), (1, .int p1), (2, .int p2)]) hx hb dX6_settledResult_8 rfl hl (by decide) rfl (fun ls hl => ?_)
  refine lv_iload_n hx hb dX6_settledResult_9 rfl (lv_at hl 2 rfl) ?_
  refine lv_iconst (v := 1) hx hb dX6_settledResult_10 (by decide) ?_
  refine lv_icmp_ne (tgt := 33) hx hb dX6_settledResult_11 (by decide) (fun c_11 => ?_) (fun c_11 => ?_)
  · replace ho := ho.1 c_11
    exact C_33 r5 ls ho (lv_sub hl [1, 2, 3, 0] rfl)
  · replace ho := ho.2 c_11
    refine lv_aload_n hx hb dX6_settledResult_14 rfl (lv_at hl 1 rfl) ?_
    refine va_get (D := D) (ci := 5) (v := .ref a_fl) (C := RX6) (T := TX6) (N := 9) hx hb hts in_X6_settledResult_X6 hown hK hP 1 rfl rfl 0 (by decide) (hts (.fieldLink RX6 9 "HardBench$Value" "floats" "LHardBench$Floats;") (List.mem_of_getElem? (i := 1) (by decide +kernel))) (fun _ h9 => h9) rfl dX6_settledResult_15 ?_
    refine lv_iload_n hx hb dX6_settledResult_18 rfl (lv_at hl 3 rfl) ?_
    refine ca_Vi (b := a_fl) (As := [.int p2]) (rest := []) ⟨hx, hb, hml, hown, hts⟩ (c_X1_isBelow l D cI cJ cZ a_fl fl_e fl_f fl_bias fl_codes fl_signBit fl_endless p2 _ ho) (cwV 1 hts gX6_settledResult_X1_isBelow rfl rfl rfl (by decide +kernel) ⟨hRf _ (Nat.le_of_ble_eq_true rfl), hRl _ (Nat.le_of_ble_eq_true rfl)⟩) hK hN hP [0] rfl 0 1 rfl rfl rfl rfl hl.1 rfl (Nat.le_of_ble_eq_true rfl) dX6_settledResult_19 ⟨Nat.zero_le _, Nat.zero_le _⟩ (fun r19 ho => ?_)
    refine lv_if_eq (tgt := 33) hx hb dX6_settledResult_22 (by decide) (fun c_22 => ?_) (fun c_22 => ?_)
    · replace ho := ho.1 c_22
      exact C_33 r5 ls ho (lv_sub hl [1, 2, 3, 0] rfl)
    · replace ho := ho.2 c_22
      refine lv_iload_n hx hb dX6_settledResult_25 rfl (lv_at hl 0 rfl) ?_
      refine lv_if_ne (tgt := 33) hx hb dX6_settledResult_26 (by decide) (fun c_26 => ?_) (fun c_26 => ?_)
      · replace ho := ho.1 c_26
        exact C_33 r5 ls ho (lv_sub hl [1, 2, 3, 0] rfl)
      · replace ho := ho.2 c_26
        refine lv_iconst (v := 1) hx hb dX6_settledResult_29 (by decide) ?_
        refine lv_goto (tgt := 34) hx hb dX6_settledResult_30 (by decide) ?_
        exact C_34 r5 (1 : Int32) ls ho (lv_sub hl [1, 2, 3, 0] rfl)

def wp_X6_read_90 (post : Int64 → Int32 → Int32 → Int32 → Int32 → Int32 → Int32 → Int32 → Int32 → Int32 → Int32 → Prop)  (fl_f : Int32) (fl_bias : Int32) (fl_signBit : Int32) (fl_endless : Int32) (va_m : Int64) (va_x : Int32) (va_more : Int32) (va_laid : Int32) (va_settled : Int32) (p1 : Int32) (p2 : Int32) (y0 : Int32) : Prop := (y0 = 0 ∨ y0 = 1) ∧ (wp_X1_factor (fun r100 => (wp_X1_power (fun r108 => (wp_X6_reckon (fun u111_1 u111_2 u111_3 => (wp_X3_lay (fun u130_1 u130_2 u130_3 u130_4 => (wp_X3_sortLaid (fun r138 => (post  u111_1 u111_2 u111_3 va_laid y0 va_settled r138 u130_1 u130_2 u130_3 u130_4)) u130_2 u130_3 u130_4)) fl_f fl_bias fl_endless u111_1 u111_2 u111_3)) va_m va_x va_more p1 r100 r108)) fl_f fl_bias fl_signBit p2)) fl_f fl_signBit p2)
def wp_X6_read_89 (post : Int64 → Int32 → Int32 → Int32 → Int32 → Int32 → Int32 → Int32 → Int32 → Int32 → Int32 → Prop)  (fl_f : Int32) (fl_bias : Int32) (fl_signBit : Int32) (fl_endless : Int32) (va_m : Int64) (va_x : Int32) (va_more : Int32) (va_laid : Int32) (va_settled : Int32) (p1 : Int32) (p2 : Int32) : Prop := wp_X6_read_90 post fl_f fl_bias fl_signBit fl_endless va_m va_x va_more va_laid va_settled p1 p2 (0 : Int32)
def wp_X6_read_58 (post : Int64 → Int32 → Int32 → Int32 → Int32 → Int32 → Int32 → Int32 → Int32 → Int32 → Int32 → Prop)  (fl_f : Int32) (fl_bias : Int32) (fl_signBit : Int32) (fl_endless : Int32) (va_m : Int64) (va_x : Int32) (va_more : Int32) (va_below : Int32) (va_settled : Int32) (p2_lower : Int32) (p2_way : Int32) (p2_more : Int32) (p2_beyond : Int32) (p1 : Int32) (p2 : Int32) (x3 : Int32) (y0 : Int32) : Prop := (y0 = 0 ∨ y0 = 1) ∧ (((y0 = 0) → (wp_X6_settledResult (fun r151 => (((x3 = 0) → (post  va_m va_x va_more y0 va_below r151 (0 : Int32) p2_lower p2_way p2_more p2_beyond)) ∧ ((¬ (x3 = 0)) → (((p1 = 0) → (post  va_m va_x va_more y0 va_below r151 (0 : Int32) p2_lower p2_way p2_more p2_beyond)) ∧ ((¬ (p1 = 0)) → (post  va_m va_x va_more y0 va_below r151 (1 : Int32) p2_lower p2_way p2_more p2_beyond)))))) fl_signBit fl_endless p1 p2)) ∧ ((¬ (y0 = 0)) → (((p1 = (3 : Int32)) → (wp_X6_read_89 post fl_f fl_bias fl_signBit fl_endless va_m va_x va_more y0 va_settled p1 p2)) ∧ ((¬ (p1 = (3 : Int32))) → (wp_X1_isBelow (fun r79 => (((r79 = 0) → (wp_X6_read_89 post fl_f fl_bias fl_signBit fl_endless va_m va_x va_more y0 va_settled p1 p2)) ∧ ((¬ (r79 = 0)) → (wp_X6_read_90 post fl_f fl_bias fl_signBit fl_endless va_m va_x va_more y0 va_settled p1 p2 (1 : Int32))))) fl_signBit p2)))))
def wp_X6_read_57 (post : Int64 → Int32 → Int32 → Int32 → Int32 → Int32 → Int32 → Int32 → Int32 → Int32 → Int32 → Prop)  (fl_f : Int32) (fl_bias : Int32) (fl_signBit : Int32) (fl_endless : Int32) (va_m : Int64) (va_x : Int32) (va_more : Int32) (va_below : Int32) (va_settled : Int32) (p2_lower : Int32) (p2_way : Int32) (p2_more : Int32) (p2_beyond : Int32) (p1 : Int32) (p2 : Int32) (x3 : Int32) : Prop := wp_X6_read_58 post fl_f fl_bias fl_signBit fl_endless va_m va_x va_more va_below va_settled p2_lower p2_way p2_more p2_beyond p1 p2 x3 (0 : Int32)
def wp_X6_read_30 (post : Int64 → Int32 → Int32 → Int32 → Int32 → Int32 → Int32 → Int32 → Int32 → Int32 → Int32 → Prop)  (fl_f : Int32) (fl_bias : Int32) (fl_signBit : Int32) (fl_endless : Int32) (va_m : Int64) (va_x : Int32) (va_more : Int32) (va_below : Int32) (va_settled : Int32) (p2_lower : Int32) (p2_way : Int32) (p2_more : Int32) (p2_beyond : Int32) (p1 : Int32) (p2 : Int32) (x3 : Int32) (y0 : Int32) : Prop := wp_X1_isPlain (fun r38 => (((r38 = 0) → (wp_X6_read_57 post fl_f fl_bias fl_signBit fl_endless va_m va_x va_more va_below va_settled p2_lower p2_way p2_more p2_beyond p1 p2 x3)) ∧ ((¬ (r38 = 0)) → (((¬ x3 = 0) → (wp_X6_read_57 post fl_f fl_bias fl_signBit fl_endless va_m va_x va_more va_below va_settled p2_lower p2_way p2_more p2_beyond p1 p2 x3)) ∧ ((¬ (¬ x3 = 0)) → (((¬ y0 = 0) → (wp_X6_read_57 post fl_f fl_bias fl_signBit fl_endless va_m va_x va_more va_below va_settled p2_lower p2_way p2_more p2_beyond p1 p2 x3)) ∧ ((¬ (¬ y0 = 0)) → (wp_X6_read_58 post fl_f fl_bias fl_signBit fl_endless va_m va_x va_more va_below va_settled p2_lower p2_way p2_more p2_beyond p1 p2 x3 (1 : Int32))))))))) fl_signBit fl_endless p2
def wp_X6_read_29 (post : Int64 → Int32 → Int32 → Int32 → Int32 → Int32 → Int32 → Int32 → Int32 → Int32 → Int32 → Prop)  (fl_f : Int32) (fl_bias : Int32) (fl_signBit : Int32) (fl_endless : Int32) (va_m : Int64) (va_x : Int32) (va_more : Int32) (va_below : Int32) (va_settled : Int32) (p2_lower : Int32) (p2_way : Int32) (p2_more : Int32) (p2_beyond : Int32) (p1 : Int32) (p2 : Int32) (x3 : Int32) : Prop := wp_X6_read_30 post fl_f fl_bias fl_signBit fl_endless va_m va_x va_more va_below va_settled p2_lower p2_way p2_more p2_beyond p1 p2 x3 (0 : Int32)
def wp_X6_read (post : Int64 → Int32 → Int32 → Int32 → Int32 → Int32 → Int32 → Int32 → Int32 → Int32 → Int32 → Prop) (fl_f : Int32) (fl_bias : Int32) (fl_signBit : Int32) (fl_endless : Int32) (va_m : Int64) (va_x : Int32) (va_more : Int32) (va_below : Int32) (va_settled : Int32) (p2_lower : Int32) (p2_way : Int32) (p2_more : Int32) (p2_beyond : Int32) (p1 : Int32) (p2 : Int32) : Prop := wp_X1_isZero (fun r5 => (((¬ p1 = (1 : Int32)) → (wp_X6_read_29 post fl_f fl_bias fl_signBit fl_endless va_m va_x va_more va_below va_settled p2_lower p2_way p2_more p2_beyond p1 p2 r5)) ∧ ((¬ (¬ p1 = (1 : Int32))) → (wp_X1_isBelow (fun r19 => (((r19 = 0) → (wp_X6_read_29 post fl_f fl_bias fl_signBit fl_endless va_m va_x va_more va_below va_settled p2_lower p2_way p2_more p2_beyond p1 p2 r5)) ∧ ((¬ (r19 = 0)) → (wp_X6_read_30 post fl_f fl_bias fl_signBit fl_endless va_m va_x va_more va_below va_settled p2_lower p2_way p2_more p2_beyond p1 p2 r5 (1 : Int32))))) fl_signBit p2)))) fl_signBit p2
set_option maxRecDepth 20000 in
theorem in_X6_read_X6 : ∀ w ∈ u_ws RX6 TX6 9, w ∈ wsX6_read := fun w h => (goodIn_r wsX60 [128, 129, 130, 131, 132, 133, 134, 135, 136] (by decide +kernel) (by decide +kernel) w h).1
set_option maxHeartbeats 4000000 in
set_option maxRecDepth 100000 in
theorem c_X6_read (l : Launch) (D : va_G) (cI cJ cZ : ClassId) (a_fl : Nat) (a_va : Nat) (a_p2 : Nat) (sz : Nat) (fl_e : Int32) (fl_f : Int32) (fl_bias : Int32) (fl_codes : Int32) (fl_signBit : Int32) (fl_endless : Int32) (va_m : Int64) (va_x : Int32) (va_more : Int32) (va_laid : Int32) (va_below : Int32) (va_settled : Int32) (va_sort : Int32) (p2_lower : Int32) (p2_way : Int32) (p2_more : Int32) (p2_beyond : Int32) (p1 : Int32) (p2 : Int32) (post : Int64 → Int32 → Int32 → Int32 → Int32 → Int32 → Int32 → Int32 → Int32 → Int32 → Int32 → Prop) (A : Nat → Prop) (hAe : A = va_A [(a_fl, oX1 fl_e fl_f fl_bias fl_codes fl_signBit fl_endless), (a_va, oX6 a_fl a_p2 va_m va_x va_more va_laid va_below va_settled va_sort), (a_p2, oX3 a_fl p2_lower p2_way p2_more p2_beyond)] sz) (ho : wp_X6_read post fl_f fl_bias fl_signBit fl_endless va_m va_x va_more va_below va_settled p2_lower p2_way p2_more p2_beyond p1 p2) : Met l yX6_read wsX6_read ({ frames := 3, cells := 0, slots := 0, locals := 79 } : Room) (rw_P D [(cI, .int), (cJ, .long), (cZ, .boolean)] [.ref a_va, .int p1, .int p2] sz [(a_fl, oX1 fl_e fl_f fl_bias fl_codes fl_signBit fl_endless), (a_va, oX6 a_fl a_p2 va_m va_x va_more va_laid va_below va_settled va_sort), (a_p2, oX3 a_fl p2_lower p2_way p2_more p2_beyond)]) (va_Qv (fun (u : (Int64) × (Int32) × (Int32) × (Int32) × (Int32) × (Int32) × (Int32) × (Int32) × (Int32) × (Int32) × (Int32)) => post u.1 u.2.1 u.2.2.1 u.2.2.2.1 u.2.2.2.2.1 u.2.2.2.2.2.1 u.2.2.2.2.2.2.1 u.2.2.2.2.2.2.2.1 u.2.2.2.2.2.2.2.2.1 u.2.2.2.2.2.2.2.2.2.1 u.2.2.2.2.2.2.2.2.2.2) (rw_B D A (fun (u : (Int64) × (Int32) × (Int32) × (Int32) × (Int32) × (Int32) × (Int32) × (Int32) × (Int32) × (Int32) × (Int32)) => [(a_fl, oX1 fl_e fl_f fl_bias fl_codes fl_signBit fl_endless), (a_va, oX6 a_fl a_p2 u.1 u.2.1 u.2.2.1 u.2.2.2.1 u.2.2.2.2.1 u.2.2.2.2.2.1 u.2.2.2.2.2.2.1), (a_p2, oX3 a_fl u.2.2.2.2.2.2.2.1 u.2.2.2.2.2.2.2.2.1 u.2.2.2.2.2.2.2.2.2.1 u.2.2.2.2.2.2.2.2.2.2)])) A) 0 0 A := by
  refine Met.ofW (cc := cX6_read) (maxL := 5) (ret := none) (by decide) rfl ?_
  intro p e s m args below meth c s₁ B hml hv
  obtain ⟨hargs, hsz, hP, hK, hN, hD0⟩ := hv
  have hx := B.exec
  have hb := B.bytes
  have hr := B.returns
  have hts := atoms_spec (ws := wsX6_read) B.pre
  have hown : s.vm.findClass RX6 = some m.cls := findClass_of_methodNamed B.named
  have hlocks := B.notSynchronized
  subst hsz
  have hD : va_D A [(a_fl, oX1 fl_e fl_f fl_bias fl_codes fl_signBit fl_endless), (a_va, oX6 a_fl a_p2 va_m va_x va_more va_laid va_below va_settled va_sort), (a_p2, oX3 a_fl p2_lower p2_way p2_more p2_beyond)] := by rw [hAe]; exact hD0.self
  have hA : ∀ q : Nat, s.heap.size ≤ q → A q := fun q h => by rw [hAe]; exact Or.inr h
  have hS : va_S A s.heap s.heap [] := va_S.rf
  have hl := lv_entry ([.ref a_va, .int p1, .int p2]) (n := 5) (Nat.le_of_ble_eq_true rfl)
  rw [hargs, lg_entry_eq, ← hargs]
  generalize (lg_sl ([.ref a_va, .int p1, .int p2]) ++ List.replicate (5 - (lg_sl ([.ref a_va, .int p1, .int p2])).length) Slot.unset).toArray = ls at hl ⊢
  replace hl : lv_has ls 5 [(0, .ref a_va), (1, .int p1), (2, .int p2)] := hl
  have hRf : ∀ n, n ≤ 3 → n ≤ (headSpec wsX6_read ({ frames := 3, cells := 0, slots := 0, locals := 79 } : Room)).room.frames := fun n h => h
  have hRl : ∀ n, n ≤ 79 → n ≤ (headSpec wsX6_read ({ frames := 3, cells := 0, slots := 0, locals := 79 } : Room)).room.locals := fun n h => h
  generalize (headSpec wsX6_read ({ frames := 3, cells := 0, slots := 0, locals := 79 } : Room)).room = R at hRf hRl ⊢
  generalize hQ : MQ below _ args s 0 0 _ = Q
  have C_90 : ∀ (va_m : Int64) (va_x : Int32) (va_more : Int32) (va_laid : Int32) (va_below : Int32) (va_settled : Int32) (va_sort : Int32) (p2_lower : Int32) (p2_way : Int32) (p2_more : Int32) (p2_beyond : Int32) (y0 : Int32) (H : Heap) (locs : List Loc) (ls : Array Slot), wp_X6_read_90 post  fl_f fl_bias fl_signBit fl_endless va_m va_x va_more va_laid va_settled p1 p2 y0 → va_P D vwCl [(a_fl, oX1 fl_e fl_f fl_bias fl_codes fl_signBit fl_endless), (a_va, oX6 a_fl a_p2 va_m va_x va_more va_laid va_below va_settled va_sort), (a_p2, oX3 a_fl p2_lower p2_way p2_more p2_beyond)] H → va_D A [(a_fl, oX1 fl_e fl_f fl_bias fl_codes fl_signBit fl_endless), (a_va, oX6 a_fl a_p2 va_m va_x va_more va_laid va_below va_settled va_sort), (a_p2, oX3 a_fl p2_lower p2_way p2_more p2_beyond)] → va_S A s.heap H locs → lv_has ls 5 [(0, .ref a_va), (1, .int p1), (2, .int p2)] → W p l e R s m args below meth c H locs 0 0 Q (F0 m 90 ls [.int y0, .ref a_va]) := by
    intro va_m va_x va_more va_laid va_below va_settled va_sort p2_lower p2_way p2_more p2_beyond y0 H locs ls ho hP hD hS hl
    unfold wp_X6_read_90 at ho
    have o_90 := ho.1
    replace ho := ho.2
    refine va_put (D := D) (ci := 5) (v := .int y0) (ty := .boolean) (C := RX6) (T := TX6) (N := 9) hx hb hts in_X6_read_X6 tyX6 tyX6_ok nmX6 hown hK hP hD hS 1 rfl rfl 6 (by decide) (hts (.fieldLink RX6 32 "HardBench$Value" "below" "Z") (List.mem_of_getElem? (i := 3) (by decide +kernel))) (fun _ h9 => h9) rfl (by decide +kernel) (bz_n o_90) (bz_f o_90) (Nat.le_of_ble_eq_true rfl) dX6_read_90 (fun H locs hP hD hS => ?_)
    replace hP : va_P D vwCl [(a_fl, oX1 fl_e fl_f fl_bias fl_codes fl_signBit fl_endless), (a_va, oX6 a_fl a_p2 va_m va_x va_more va_laid y0 va_settled va_sort), (a_p2, oX3 a_fl p2_lower p2_way p2_more p2_beyond)] H := hP
    replace hD : va_D A [(a_fl, oX1 fl_e fl_f fl_bias fl_codes fl_signBit fl_endless), (a_va, oX6 a_fl a_p2 va_m va_x va_more va_laid y0 va_settled va_sort), (a_p2, oX3 a_fl p2_lower p2_way p2_more p2_beyond)] := hD
    refine lv_aload_n hx hb dX6_read_93 rfl (lv_at hl 0 rfl) ?_
    refine lv_iload_n hx hb dX6_read_94 rfl (lv_at hl 1 rfl) ?_
    refine lv_aload_n hx hb dX6_read_95 rfl (lv_at hl 0 rfl) ?_
    refine va_get (D := D) (ci := 5) (v := .ref a_fl) (C := RX6) (T := TX6) (N := 9) hx hb hts in_X6_read_X6 hown hK hP 1 rfl rfl 0 (by decide) (hts (.fieldLink RX6 9 "HardBench$Value" "floats" "LHardBench$Floats;") (List.mem_of_getElem? (i := 1) (by decide +kernel))) (fun _ h9 => h9) rfl dX6_read_96 ?_
    refine lv_iload_n hx hb dX6_read_99 rfl (lv_at hl 2 rfl) ?_
    refine ca_Vi (b := a_fl) (As := [.int p2]) (rest := [.int p1, .ref a_va]) ⟨hx, hb, hml, hown, hts⟩ (c_X1_factor l D cI cJ cZ a_fl fl_e fl_f fl_bias fl_codes fl_signBit fl_endless p2 _ ho) (cwV 1 hts gX6_read_X1_factor rfl rfl rfl (by decide +kernel) ⟨hRf _ (Nat.le_of_ble_eq_true rfl), hRl _ (Nat.le_of_ble_eq_true rfl)⟩) hK hN hP [0] rfl 0 1 rfl rfl rfl rfl hl.1 rfl (Nat.le_of_ble_eq_true rfl) dX6_read_100 ⟨Nat.zero_le _, Nat.zero_le _⟩ (fun r100 ho => ?_)
    refine lv_aload_n hx hb dX6_read_103 rfl (lv_at hl 0 rfl) ?_
    refine va_get (D := D) (ci := 5) (v := .ref a_fl) (C := RX6) (T := TX6) (N := 9) hx hb hts in_X6_read_X6 hown hK hP 1 rfl rfl 0 (by decide) (hts (.fieldLink RX6 9 "HardBench$Value" "floats" "LHardBench$Floats;") (List.mem_of_getElem? (i := 1) (by decide +kernel))) (fun _ h9 => h9) rfl dX6_read_104 ?_
    refine lv_iload_n hx hb dX6_read_107 rfl (lv_at hl 2 rfl) ?_
    refine ca_Vi (b := a_fl) (As := [.int p2]) (rest := [.int r100, .int p1, .ref a_va]) ⟨hx, hb, hml, hown, hts⟩ (c_X1_power l D cI cJ cZ a_fl fl_e fl_f fl_bias fl_codes fl_signBit fl_endless p2 _ ho) (cwV 1 hts gX6_read_X1_power rfl rfl rfl (by decide +kernel) ⟨hRf _ (Nat.le_of_ble_eq_true rfl), hRl _ (Nat.le_of_ble_eq_true rfl)⟩) hK hN hP [0] rfl 0 1 rfl rfl rfl rfl hl.1 rfl (Nat.le_of_ble_eq_true rfl) dX6_read_108 ⟨Nat.zero_le _, Nat.zero_le _⟩ (fun r108 ho => ?_)
    refine ca_Wv (b := a_va) (As := [.int p1, .int r100, .int r108]) (rest := []) (wr := [(a_fl, oX1 fl_e fl_f fl_bias fl_codes fl_signBit fl_endless), (a_p2, oX3 a_fl p2_lower p2_way p2_more p2_beyond)]) (wo := fun u => [(a_va, oX6 a_fl a_p2 u.1 u.2.1 u.2.2 va_laid y0 va_settled va_sort)]) (wn := fun u => [(a_fl, oX1 fl_e fl_f fl_bias fl_codes fl_signBit fl_endless), (a_va, oX6 a_fl a_p2 u.1 u.2.1 u.2.2 va_laid y0 va_settled va_sort), (a_p2, oX3 a_fl p2_lower p2_way p2_more p2_beyond)]) ⟨hx, hb, hml, hown, hts⟩ (c_X6_reckon l D cI cJ cZ a_fl a_va a_p2 H.size va_m va_x va_more va_laid y0 va_settled va_sort p1 r100 r108 _ _ rfl ho) (cwV 3 hts gX6_read_X6_reckon rfl rfl rfl (by decide +kernel) ⟨hRf _ (Nat.le_of_ble_eq_true rfl), hRl _ (Nat.le_of_ble_eq_true rfl)⟩) hK hN hP hD hS hA [1] [0, 2] [0, 2, 1] rfl rfl (by decide) (by decide) (by decide) (by decide) (fun _ => rfl) 0 5 rfl rfl rfl rfl hl.1 rfl (Nat.le_of_ble_eq_true rfl) dX6_read_111 ⟨Nat.zero_le _, Nat.zero_le _⟩ (fun  u111 H locs ho hP hD hS => ?_)
    obtain ⟨u111_1, u111_2, u111_3⟩ := u111
    try dsimp only at ho
    replace hP : va_P D vwCl [(a_fl, oX1 fl_e fl_f fl_bias fl_codes fl_signBit fl_endless), (a_va, oX6 a_fl a_p2 u111_1 u111_2 u111_3 va_laid y0 va_settled va_sort), (a_p2, oX3 a_fl p2_lower p2_way p2_more p2_beyond)] H := hP
    replace hD : va_D A [(a_fl, oX1 fl_e fl_f fl_bias fl_codes fl_signBit fl_endless), (a_va, oX6 a_fl a_p2 u111_1 u111_2 u111_3 va_laid y0 va_settled va_sort), (a_p2, oX3 a_fl p2_lower p2_way p2_more p2_beyond)] := hD
    refine lv_aload_n hx hb dX6_read_114 rfl (lv_at hl 0 rfl) ?_
    refine va_get (D := D) (ci := 5) (v := .ref a_p2) (C := RX6) (T := TX6) (N := 9) hx hb hts in_X6_read_X6 hown hK hP 1 rfl rfl 1 (by decide) (hts (.fieldLink RX6 20 "HardBench$Value" "place" "LHardBench$Place;") (List.mem_of_getElem? (i := 4) (by decide +kernel))) (fun _ h9 => h9) rfl dX6_read_115 ?_
    refine lv_aload_n hx hb dX6_read_118 rfl (lv_at hl 0 rfl) ?_
    refine va_get (D := D) (ci := 5) (v := .long u111_1) (C := RX6) (T := TX6) (N := 9) hx hb hts in_X6_read_X6 hown hK hP 1 rfl rfl 2 (by decide) (hts (.fieldLink RX6 76 "HardBench$Value" "m" "J") (List.mem_of_getElem? (i := 5) (by decide +kernel))) (fun _ h9 => h9) rfl dX6_read_119 ?_
    refine lv_aload_n hx hb dX6_read_122 rfl (lv_at hl 0 rfl) ?_
    refine va_get (D := D) (ci := 5) (v := .int u111_2) (C := RX6) (T := TX6) (N := 9) hx hb hts in_X6_read_X6 hown hK hP 1 rfl rfl 3 (by decide) (hts (.fieldLink RX6 80 "HardBench$Value" "x" "I") (List.mem_of_getElem? (i := 6) (by decide +kernel))) (fun _ h9 => h9) rfl dX6_read_123 ?_
    refine lv_aload_n hx hb dX6_read_126 rfl (lv_at hl 0 rfl) ?_
    refine va_get (D := D) (ci := 5) (v := .int u111_3) (C := RX6) (T := TX6) (N := 9) hx hb hts in_X6_read_X6 hown hK hP 1 rfl rfl 4 (by decide) (hts (.fieldLink RX6 83 "HardBench$Value" "more" "Z") (List.mem_of_getElem? (i := 7) (by decide +kernel))) (fun _ h9 => h9) rfl dX6_read_127 ?_
    refine ca_Wv (b := a_p2) (As := [.long u111_1, .int u111_2, .int u111_3]) (rest := []) (wr := [(a_va, oX6 a_fl a_p2 u111_1 u111_2 u111_3 va_laid y0 va_settled va_sort)]) (wo := fun u => [(a_fl, oX1 fl_e fl_f fl_bias fl_codes fl_signBit fl_endless), (a_p2, oX3 a_fl u.1 u.2.1 u.2.2.1 u.2.2.2)]) (wn := fun u => [(a_fl, oX1 fl_e fl_f fl_bias fl_codes fl_signBit fl_endless), (a_va, oX6 a_fl a_p2 u111_1 u111_2 u111_3 va_laid y0 va_settled va_sort), (a_p2, oX3 a_fl u.1 u.2.1 u.2.2.1 u.2.2.2)]) ⟨hx, hb, hml, hown, hts⟩ (c_X3_lay l D cI cJ cZ a_fl a_p2 H.size fl_e fl_f fl_bias fl_codes fl_signBit fl_endless p2_lower p2_way p2_more p2_beyond u111_1 u111_2 u111_3 _ _ rfl ho) (cwV 3 hts gX6_read_X3_lay rfl rfl rfl (by decide +kernel) ⟨hRf _ (Nat.le_of_ble_eq_true rfl), hRl _ (Nat.le_of_ble_eq_true rfl)⟩) hK hN hP hD hS hA [0, 2] [1] [1, 0, 2] rfl rfl (by decide) (by decide) (by decide) (by decide) (fun _ => rfl) 1 3 rfl rfl rfl rfl hl.1 rfl (Nat.le_of_ble_eq_true rfl) dX6_read_130 ⟨Nat.zero_le _, Nat.zero_le _⟩ (fun  u130 H locs ho hP hD hS => ?_)
    obtain ⟨u130_1, u130_2, u130_3, u130_4⟩ := u130
    try dsimp only at ho
    replace hP : va_P D vwCl [(a_fl, oX1 fl_e fl_f fl_bias fl_codes fl_signBit fl_endless), (a_va, oX6 a_fl a_p2 u111_1 u111_2 u111_3 va_laid y0 va_settled va_sort), (a_p2, oX3 a_fl u130_1 u130_2 u130_3 u130_4)] H := hP
    replace hD : va_D A [(a_fl, oX1 fl_e fl_f fl_bias fl_codes fl_signBit fl_endless), (a_va, oX6 a_fl a_p2 u111_1 u111_2 u111_3 va_laid y0 va_settled va_sort), (a_p2, oX3 a_fl u130_1 u130_2 u130_3 u130_4)] := hD
    refine lv_aload_n hx hb dX6_read_133 rfl (lv_at hl 0 rfl) ?_
    refine lv_aload_n hx hb dX6_read_134 rfl (lv_at hl 0 rfl) ?_
    refine va_get (D := D) (ci := 5) (v := .ref a_p2) (C := RX6) (T := TX6) (N := 9) hx hb hts in_X6_read_X6 hown hK hP 1 rfl rfl 1 (by decide) (hts (.fieldLink RX6 20 "HardBench$Value" "place" "LHardBench$Place;") (List.mem_of_getElem? (i := 4) (by decide +kernel))) (fun _ h9 => h9) rfl dX6_read_135 ?_
    refine ca_Vi (b := a_p2) (As := []) (rest := [.ref a_va]) ⟨hx, hb, hml, hown, hts⟩ (c_X3_sortLaid l D cI cJ cZ a_fl a_p2 u130_1 u130_2 u130_3 u130_4  _ ho) (cwV 0 hts gX6_read_X3_sortLaid rfl rfl rfl (by decide +kernel) ⟨hRf _ (Nat.le_of_ble_eq_true rfl), hRl _ (Nat.le_of_ble_eq_true rfl)⟩) hK hN hP [2] rfl 0 3 rfl rfl rfl rfl hl.1 rfl (Nat.le_of_ble_eq_true rfl) dX6_read_138 ⟨Nat.zero_le _, Nat.zero_le _⟩ (fun r138 ho => ?_)
    refine va_put (D := D) (ci := 5) (v := .int r138) (ty := .int) (C := RX6) (T := TX6) (N := 9) hx hb hts in_X6_read_X6 tyX6 tyX6_ok nmX6 hown hK hP hD hS 1 rfl rfl 8 (by decide) (hts (.fieldLink RX6 43 "HardBench$Value" "sort" "I") (List.mem_of_getElem? (i := 8) (by decide +kernel))) (fun _ h9 => h9) rfl (by decide +kernel) rfl rfl (Nat.le_of_ble_eq_true rfl) dX6_read_141 (fun H locs hP hD hS => ?_)
    replace hP : va_P D vwCl [(a_fl, oX1 fl_e fl_f fl_bias fl_codes fl_signBit fl_endless), (a_va, oX6 a_fl a_p2 u111_1 u111_2 u111_3 va_laid y0 va_settled r138), (a_p2, oX3 a_fl u130_1 u130_2 u130_3 u130_4)] H := hP
    replace hD : va_D A [(a_fl, oX1 fl_e fl_f fl_bias fl_codes fl_signBit fl_endless), (a_va, oX6 a_fl a_p2 u111_1 u111_2 u111_3 va_laid y0 va_settled r138), (a_p2, oX3 a_fl u130_1 u130_2 u130_3 u130_4)] := hD
    refine lv_goto (tgt := 174) hx hb dX6_read_144 (by decide) ?_
    subst hQ; exact W.vret hx hb hr (fun t ht hW => ⟨⟨(u111_1, u111_2, u111_3, va_laid, y0, va_settled, r138, u130_1, u130_2, u130_3, u130_4), rfl, ho, by rw [ht]; exact hP, hD⟩, hS.F ht⟩) (fun q hq => hS.2.2 q hq) dX6_read_174
  have C_89 : ∀ (va_m : Int64) (va_x : Int32) (va_more : Int32) (va_laid : Int32) (va_below : Int32) (va_settled : Int32) (va_sort : Int32) (p2_lower : Int32) (p2_way : Int32) (p2_more : Int32) (p2_beyond : Int32) (H : Heap) (locs : List Loc) (ls : Array Slot), wp_X6_read_89 post  fl_f fl_bias fl_signBit fl_endless va_m va_x va_more va_laid va_settled p1 p2 → va_P D vwCl [(a_fl, oX1 fl_e fl_f fl_bias fl_codes fl_signBit fl_endless), (a_va, oX6 a_fl a_p2 va_m va_x va_more va_laid va_below va_settled va_sort), (a_p2, oX3 a_fl p2_lower p2_way p2_more p2_beyond)] H → va_D A [(a_fl, oX1 fl_e fl_f fl_bias fl_codes fl_signBit fl_endless), (a_va, oX6 a_fl a_p2 va_m va_x va_more va_laid va_below va_settled va_sort), (a_p2, oX3 a_fl p2_lower p2_way p2_more p2_beyond)] → va_S A s.heap H locs → lv_has ls 5 [(0, .ref a_va), (1, .int p1), (2, .int p2)] → W p l e R s m args below meth c H locs 0 0 Q (F0 m 89 ls [.ref a_va]) := by
    intro va_m va_x va_more va_laid va_below va_settled va_sort p2_lower p2_way p2_more p2_beyond H locs ls ho hP hD hS hl
    unfold wp_X6_read_89 at ho
    refine lv_iconst (v := 0) hx hb dX6_read_89 (by decide) ?_
    exact C_90 va_m va_x va_more va_laid va_below va_settled va_sort p2_lower p2_way p2_more p2_beyond (0 : Int32) H locs ls ho hP hD hS (lv_sub hl [0, 1, 2] rfl)
  have C_58 : ∀ (va_m : Int64) (va_x : Int32) (va_more : Int32) (va_laid : Int32) (va_below : Int32) (va_settled : Int32) (va_sort : Int32) (p2_lower : Int32) (p2_way : Int32) (p2_more : Int32) (p2_beyond : Int32) (x3 : Int32) (y0 : Int32) (H : Heap) (locs : List Loc) (ls : Array Slot), wp_X6_read_58 post  fl_f fl_bias fl_signBit fl_endless va_m va_x va_more va_below va_settled p2_lower p2_way p2_more p2_beyond p1 p2 x3 y0 → va_P D vwCl [(a_fl, oX1 fl_e fl_f fl_bias fl_codes fl_signBit fl_endless), (a_va, oX6 a_fl a_p2 va_m va_x va_more va_laid va_below va_settled va_sort), (a_p2, oX3 a_fl p2_lower p2_way p2_more p2_beyond)] H → va_D A [(a_fl, oX1 fl_e fl_f fl_bias fl_codes fl_signBit fl_endless), (a_va, oX6 a_fl a_p2 va_m va_x va_more va_laid va_below va_settled va_sort), (a_p2, oX3 a_fl p2_lower p2_way p2_more p2_beyond)] → va_S A s.heap H locs → lv_has ls 5 [(0, .ref a_va), (1, .int p1), (2, .int p2), (3, .int x3)] → W p l e R s m args below meth c H locs 0 0 Q (F0 m 58 ls [.int y0, .ref a_va]) := by
    intro va_m va_x va_more va_laid va_below va_settled va_sort p2_lower p2_way p2_more p2_beyond x3 y0 H locs ls ho hP hD hS hl
    unfold wp_X6_read_58 at ho
    have o_58 := ho.1
    replace ho := ho.2
    refine va_put (D := D) (ci := 5) (v := .int y0) (ty := .boolean) (C := RX6) (T := TX6) (N := 9) hx hb hts in_X6_read_X6 tyX6 tyX6_ok nmX6 hown hK hP hD hS 1 rfl rfl 5 (by decide) (hts (.fieldLink RX6 28 "HardBench$Value" "laid" "Z") (List.mem_of_getElem? (i := 2) (by decide +kernel))) (fun _ h9 => h9) rfl (by decide +kernel) (bz_n o_58) (bz_f o_58) (Nat.le_of_ble_eq_true rfl) dX6_read_58 (fun H locs hP hD hS => ?_)
    replace hP : va_P D vwCl [(a_fl, oX1 fl_e fl_f fl_bias fl_codes fl_signBit fl_endless), (a_va, oX6 a_fl a_p2 va_m va_x va_more y0 va_below va_settled va_sort), (a_p2, oX3 a_fl p2_lower p2_way p2_more p2_beyond)] H := hP
    replace hD : va_D A [(a_fl, oX1 fl_e fl_f fl_bias fl_codes fl_signBit fl_endless), (a_va, oX6 a_fl a_p2 va_m va_x va_more y0 va_below va_settled va_sort), (a_p2, oX3 a_fl p2_lower p2_way p2_more p2_beyond)] := hD
    refine lv_aload_n hx hb dX6_read_61 rfl (lv_at hl 0 rfl) ?_
    refine va_get (D := D) (ci := 5) (v := .int y0) (C := RX6) (T := TX6) (N := 9) hx hb hts in_X6_read_X6 hown hK hP 1 rfl rfl 5 (by decide) (hts (.fieldLink RX6 28 "HardBench$Value" "laid" "Z") (List.mem_of_getElem? (i := 2) (by decide +kernel))) (fun _ h9 => h9) rfl dX6_read_62 ?_
    refine lv_if_eq (tgt := 147) hx hb dX6_read_65 (by decide) (fun c_65 => ?_) (fun c_65 => ?_)
    · replace ho := ho.1 c_65
      refine lv_aload_n hx hb dX6_read_147 rfl (lv_at hl 0 rfl) ?_
      refine lv_aload_n hx hb dX6_read_148 rfl (lv_at hl 0 rfl) ?_
      refine lv_iload_n hx hb dX6_read_149 rfl (lv_at hl 1 rfl) ?_
      refine lv_iload_n hx hb dX6_read_150 rfl (lv_at hl 2 rfl) ?_
      refine ca_Vi (b := a_va) (As := [.int p1, .int p2]) (rest := [.ref a_va]) ⟨hx, hb, hml, hown, hts⟩ (c_X6_settledResult l D cI cJ cZ a_fl a_va a_p2 fl_e fl_f fl_bias fl_codes fl_signBit fl_endless va_m va_x va_more y0 va_below va_settled va_sort p1 p2 _ ho) (cwV 2 hts gX6_read_X6_settledResult rfl rfl rfl (by decide +kernel) ⟨hRf _ (Nat.le_of_ble_eq_true rfl), hRl _ (Nat.le_of_ble_eq_true rfl)⟩) hK hN hP [0, 1] rfl 1 5 rfl rfl rfl rfl hl.1 rfl (Nat.le_of_ble_eq_true rfl) dX6_read_151 ⟨Nat.zero_le _, Nat.zero_le _⟩ (fun r151 ho => ?_)
      refine va_put (D := D) (ci := 5) (v := .int r151) (ty := .int) (C := RX6) (T := TX6) (N := 9) hx hb hts in_X6_read_X6 tyX6 tyX6_ok nmX6 hown hK hP hD hS 1 rfl rfl 7 (by decide) (hts (.fieldLink RX6 39 "HardBench$Value" "settled" "I") (List.mem_of_getElem? (i := 9) (by decide +kernel))) (fun _ h9 => h9) rfl (by decide +kernel) rfl rfl (Nat.le_of_ble_eq_true rfl) dX6_read_154 (fun H locs hP hD hS => ?_)
      replace hP : va_P D vwCl [(a_fl, oX1 fl_e fl_f fl_bias fl_codes fl_signBit fl_endless), (a_va, oX6 a_fl a_p2 va_m va_x va_more y0 va_below r151 va_sort), (a_p2, oX3 a_fl p2_lower p2_way p2_more p2_beyond)] H := hP
      replace hD : va_D A [(a_fl, oX1 fl_e fl_f fl_bias fl_codes fl_signBit fl_endless), (a_va, oX6 a_fl a_p2 va_m va_x va_more y0 va_below r151 va_sort), (a_p2, oX3 a_fl p2_lower p2_way p2_more p2_beyond)] := hD
      refine lv_aload_n hx hb dX6_read_157 rfl (lv_at hl 0 rfl) ?_
      refine lv_iload_n hx hb dX6_read_158 rfl (lv_at hl 3 rfl) ?_
      refine lv_if_eq (tgt := 170) hx hb dX6_read_159 (by decide) (fun c_159 => ?_) (fun c_159 => ?_)
      · replace ho := ho.1 c_159
        refine lv_iconst (v := 0) hx hb dX6_read_170 (by decide) ?_
        refine va_put (D := D) (ci := 5) (v := .int (0 : Int32)) (ty := .int) (C := RX6) (T := TX6) (N := 9) hx hb hts in_X6_read_X6 tyX6 tyX6_ok nmX6 hown hK hP hD hS 1 rfl rfl 8 (by decide) (hts (.fieldLink RX6 43 "HardBench$Value" "sort" "I") (List.mem_of_getElem? (i := 8) (by decide +kernel))) (fun _ h9 => h9) rfl (by decide +kernel) rfl rfl (Nat.le_of_ble_eq_true rfl) dX6_read_171 (fun H locs hP hD hS => ?_)
        replace hP : va_P D vwCl [(a_fl, oX1 fl_e fl_f fl_bias fl_codes fl_signBit fl_endless), (a_va, oX6 a_fl a_p2 va_m va_x va_more y0 va_below r151 (0 : Int32)), (a_p2, oX3 a_fl p2_lower p2_way p2_more p2_beyond)] H := hP
        replace hD : va_D A [(a_fl, oX1 fl_e fl_f fl_bias fl_codes fl_signBit fl_endless), (a_va, oX6 a_fl a_p2 va_m va_x va_more y0 va_below r151 (0 : Int32)), (a_p2, oX3 a_fl p2_lower p2_way p2_more p2_beyond)] := hD
        subst hQ; exact W.vret hx hb hr (fun t ht hW => ⟨⟨(va_m, va_x, va_more, y0, va_below, r151, (0 : Int32), p2_lower, p2_way, p2_more, p2_beyond), rfl, ho, by rw [ht]; exact hP, hD⟩, hS.F ht⟩) (fun q hq => hS.2.2 q hq) dX6_read_174
      · replace ho := ho.2 c_159
        refine lv_iload_n hx hb dX6_read_162 rfl (lv_at hl 1 rfl) ?_
        refine lv_if_eq (tgt := 170) hx hb dX6_read_163 (by decide) (fun c_163 => ?_) (fun c_163 => ?_)
        · replace ho := ho.1 c_163
          refine lv_iconst (v := 0) hx hb dX6_read_170 (by decide) ?_
          refine va_put (D := D) (ci := 5) (v := .int (0 : Int32)) (ty := .int) (C := RX6) (T := TX6) (N := 9) hx hb hts in_X6_read_X6 tyX6 tyX6_ok nmX6 hown hK hP hD hS 1 rfl rfl 8 (by decide) (hts (.fieldLink RX6 43 "HardBench$Value" "sort" "I") (List.mem_of_getElem? (i := 8) (by decide +kernel))) (fun _ h9 => h9) rfl (by decide +kernel) rfl rfl (Nat.le_of_ble_eq_true rfl) dX6_read_171 (fun H locs hP hD hS => ?_)
          replace hP : va_P D vwCl [(a_fl, oX1 fl_e fl_f fl_bias fl_codes fl_signBit fl_endless), (a_va, oX6 a_fl a_p2 va_m va_x va_more y0 va_below r151 (0 : Int32)), (a_p2, oX3 a_fl p2_lower p2_way p2_more p2_beyond)] H := hP
          replace hD : va_D A [(a_fl, oX1 fl_e fl_f fl_bias fl_codes fl_signBit fl_endless), (a_va, oX6 a_fl a_p2 va_m va_x va_more y0 va_below r151 (0 : Int32)), (a_p2, oX3 a_fl p2_lower p2_way p2_more p2_beyond)] := hD
          subst hQ; exact W.vret hx hb hr (fun t ht hW => ⟨⟨(va_m, va_x, va_more, y0, va_below, r151, (0 : Int32), p2_lower, p2_way, p2_more, p2_beyond), rfl, ho, by rw [ht]; exact hP, hD⟩, hS.F ht⟩) (fun q hq => hS.2.2 q hq) dX6_read_174
        · replace ho := ho.2 c_163
          refine lv_iconst (v := 1) hx hb dX6_read_166 (by decide) ?_
          refine lv_goto (tgt := 171) hx hb dX6_read_167 (by decide) ?_
          refine va_put (D := D) (ci := 5) (v := .int (1 : Int32)) (ty := .int) (C := RX6) (T := TX6) (N := 9) hx hb hts in_X6_read_X6 tyX6 tyX6_ok nmX6 hown hK hP hD hS 1 rfl rfl 8 (by decide) (hts (.fieldLink RX6 43 "HardBench$Value" "sort" "I") (List.mem_of_getElem? (i := 8) (by decide +kernel))) (fun _ h9 => h9) rfl (by decide +kernel) rfl rfl (Nat.le_of_ble_eq_true rfl) dX6_read_171 (fun H locs hP hD hS => ?_)
          replace hP : va_P D vwCl [(a_fl, oX1 fl_e fl_f fl_bias fl_codes fl_signBit fl_endless), (a_va, oX6 a_fl a_p2 va_m va_x va_more y0 va_below r151 (1 : Int32)), (a_p2, oX3 a_fl p2_lower p2_way p2_more p2_beyond)] H := hP
          replace hD : va_D A [(a_fl, oX1 fl_e fl_f fl_bias fl_codes fl_signBit fl_endless), (a_va, oX6 a_fl a_p2 va_m va_x va_more y0 va_below r151 (1 : Int32)), (a_p2, oX3 a_fl p2_lower p2_way p2_more p2_beyond)] := hD
          subst hQ; exact W.vret hx hb hr (fun t ht hW => ⟨⟨(va_m, va_x, va_more, y0, va_below, r151, (1 : Int32), p2_lower, p2_way, p2_more, p2_beyond), rfl, ho, by rw [ht]; exact hP, hD⟩, hS.F ht⟩) (fun q hq => hS.2.2 q hq) dX6_read_174
    · replace ho := ho.2 c_65
      refine lv_aload_n hx hb dX6_read_68 rfl (lv_at hl 0 rfl) ?_
      refine lv_iload_n hx hb dX6_read_69 rfl (lv_at hl 1 rfl) ?_
      refine lv_iconst (v := 3) hx hb dX6_read_70 (by decide) ?_
      refine lv_icmp_eq (tgt := 89) hx hb dX6_read_71 (by decide) (fun c_71 => ?_) (fun c_71 => ?_)
      · replace ho := ho.1 c_71
        exact C_89 va_m va_x va_more y0 va_below va_settled va_sort p2_lower p2_way p2_more p2_beyond H locs ls ho hP hD hS (lv_sub hl [0, 1, 2] rfl)
      · replace ho := ho.2 c_71
        refine lv_aload_n hx hb dX6_read_74 rfl (lv_at hl 0 rfl) ?_
        refine va_get (D := D) (ci := 5) (v := .ref a_fl) (C := RX6) (T := TX6) (N := 9) hx hb hts in_X6_read_X6 hown hK hP 1 rfl rfl 0 (by decide) (hts (.fieldLink RX6 9 "HardBench$Value" "floats" "LHardBench$Floats;") (List.mem_of_getElem? (i := 1) (by decide +kernel))) (fun _ h9 => h9) rfl dX6_read_75 ?_
        refine lv_iload_n hx hb dX6_read_78 rfl (lv_at hl 2 rfl) ?_
        refine ca_Vi (b := a_fl) (As := [.int p2]) (rest := [.ref a_va]) ⟨hx, hb, hml, hown, hts⟩ (c_X1_isBelow l D cI cJ cZ a_fl fl_e fl_f fl_bias fl_codes fl_signBit fl_endless p2 _ ho) (cwV 1 hts gX6_read_X1_isBelow rfl rfl rfl (by decide +kernel) ⟨hRf _ (Nat.le_of_ble_eq_true rfl), hRl _ (Nat.le_of_ble_eq_true rfl)⟩) hK hN hP [0] rfl 0 1 rfl rfl rfl rfl hl.1 rfl (Nat.le_of_ble_eq_true rfl) dX6_read_79 ⟨Nat.zero_le _, Nat.zero_le _⟩ (fun r79 ho => ?_)
        refine lv_if_eq (tgt := 89) hx hb dX6_read_82 (by decide) (fun c_82 => ?_) (fun c_82 => ?_)
        · replace ho := ho.1 c_82
          exact C_89 va_m va_x va_more y0 va_below va_settled va_sort p2_lower p2_way p2_more p2_beyond H locs ls ho hP hD hS (lv_sub hl [0, 1, 2] rfl)
        · replace ho := ho.2 c_82
          refine lv_iconst (v := 1) hx hb dX6_read_85 (by decide) ?_
          refine lv_goto (tgt := 90) hx hb dX6_read_86 (by decide) ?_
          exact C_90 va_m va_x va_more y0 va_below va_settled va_sort p2_lower p2_way p2_more p2_beyond (1 : Int32) H locs ls ho hP hD hS (lv_sub hl [0, 1, 2] rfl)
  have C_57 : ∀ (va_m : Int64) (va_x : Int32) (va_more : Int32) (va_laid : Int32) (va_below : Int32) (va_settled : Int32) (va_sort : Int32) (p2_lower : Int32) (p2_way : Int32) (p2_more : Int32) (p2_beyond : Int32) (x3 : Int32) (H : Heap) (locs : List Loc) (ls : Array Slot), wp_X6_read_57 post  fl_f fl_bias fl_signBit fl_endless va_m va_x va_more va_below va_settled p2_lower p2_way p2_more p2_beyond p1 p2 x3 → va_P D vwCl [(a_fl, oX1 fl_e fl_f fl_bias fl_codes fl_signBit fl_endless), (a_va, oX6 a_fl a_p2 va_m va_x va_more va_laid va_below va_settled va_sort), (a_p2, oX3 a_fl p2_lower p2_way p2_more p2_beyond)] H → va_D A [(a_fl, oX1 fl_e fl_f fl_bias fl_codes fl_signBit fl_endless), (a_va, oX6 a_fl a_p2 va_m va_x va_more va_laid va_below va_settled va_sort), (a_p2, oX3 a_fl p2_lower p2_way p2_more p2_beyond)] → va_S A s.heap H locs → lv_has ls 5 [(0, .ref a_va), (1, .int p1), (2, .int p2), (3, .int x3)] → W p l e R s m args below meth c H locs 0 0 Q (F0 m 57 ls [.ref a_va]) := by
    intro va_m va_x va_more va_laid va_below va_settled va_sort p2_lower p2_way p2_more p2_beyond x3 H locs ls ho hP hD hS hl
    unfold wp_X6_read_57 at ho
    refine lv_iconst (v := 0) hx hb dX6_read_57 (by decide) ?_
    exact C_58 va_m va_x va_more va_laid va_below va_settled va_sort p2_lower p2_way p2_more p2_beyond x3 (0 : Int32) H locs ls ho hP hD hS (lv_sub hl [0, 1, 2, 3] rfl)
  have C_30 : ∀ (va_m : Int64) (va_x : Int32) (va_more : Int32) (va_laid : Int32) (va_below : Int32) (va_settled : Int32) (va_sort : Int32) (p2_lower : Int32) (p2_way : Int32) (p2_more : Int32) (p2_beyond : Int32) (x3 : Int32) (y0 : Int32) (H : Heap) (locs : List Loc) (ls : Array Slot), wp_X6_read_30 post  fl_f fl_bias fl_signBit fl_endless va_m va_x va_more va_below va_settled p2_lower p2_way p2_more p2_beyond p1 p2 x3 y0 → va_P D vwCl [(a_fl, oX1 fl_e fl_f fl_bias fl_codes fl_signBit fl_endless), (a_va, oX6 a_fl a_p2 va_m va_x va_more va_laid va_below va_settled va_sort), (a_p2, oX3 a_fl p2_lower p2_way p2_more p2_beyond)] H → va_D A [(a_fl, oX1 fl_e fl_f fl_bias fl_codes fl_signBit fl_endless), (a_va, oX6 a_fl a_p2 va_m va_x va_more va_laid va_below va_settled va_sort), (a_p2, oX3 a_fl p2_lower p2_way p2_more p2_beyond)] → va_S A s.heap H locs → lv_has ls 5 [(0, .ref a_va), (1, .int p1), (2, .int p2), (3, .int x3)] → W p l e R s m args below meth c H locs 0 0 Q (F0 m 30 ls [.int y0]) := by
    intro va_m va_x va_more va_laid va_below va_settled va_sort p2_lower p2_way p2_more p2_beyond x3 y0 H locs ls ho hP hD hS hl
    unfold wp_X6_read_30 at ho
    refine lv_istore (lv' := [(4, .int y0), (0, .ref a_va), (1, .int p1), (2, .int p2), (3, .int x3)]) hx hb dX6_read_30 hl (by decide) rfl (fun ls hl => ?_)
    refine lv_aload_n hx hb dX6_read_32 rfl (lv_at hl 1 rfl) ?_
    refine lv_aload_n hx hb dX6_read_33 rfl (lv_at hl 1 rfl) ?_
    refine va_get (D := D) (ci := 5) (v := .ref a_fl) (C := RX6) (T := TX6) (N := 9) hx hb hts in_X6_read_X6 hown hK hP 1 rfl rfl 0 (by decide) (hts (.fieldLink RX6 9 "HardBench$Value" "floats" "LHardBench$Floats;") (List.mem_of_getElem? (i := 1) (by decide +kernel))) (fun _ h9 => h9) rfl dX6_read_34 ?_
    refine lv_iload_n hx hb dX6_read_37 rfl (lv_at hl 3 rfl) ?_
    refine ca_Vi (b := a_fl) (As := [.int p2]) (rest := [.ref a_va]) ⟨hx, hb, hml, hown, hts⟩ (c_X1_isPlain l D cI cJ cZ a_fl fl_e fl_f fl_bias fl_codes fl_signBit fl_endless p2 _ ho) (cwV 1 hts gX6_read_X1_isPlain rfl rfl rfl (by decide +kernel) ⟨hRf _ (Nat.le_of_ble_eq_true rfl), hRl _ (Nat.le_of_ble_eq_true rfl)⟩) hK hN hP [0] rfl 0 1 rfl rfl rfl rfl hl.1 rfl (Nat.le_of_ble_eq_true rfl) dX6_read_38 ⟨Nat.zero_le _, Nat.zero_le _⟩ (fun r38 ho => ?_)
    refine lv_if_eq (tgt := 57) hx hb dX6_read_41 (by decide) (fun c_41 => ?_) (fun c_41 => ?_)
    · replace ho := ho.1 c_41
      exact C_57 va_m va_x va_more va_laid va_below va_settled va_sort p2_lower p2_way p2_more p2_beyond x3 H locs ls ho hP hD hS (lv_sub hl [1, 2, 3, 4] rfl)
    · replace ho := ho.2 c_41
      refine lv_iload_n hx hb dX6_read_44 rfl (lv_at hl 4 rfl) ?_
      refine lv_if_ne (tgt := 57) hx hb dX6_read_45 (by decide) (fun c_45 => ?_) (fun c_45 => ?_)
      · replace ho := ho.1 c_45
        exact C_57 va_m va_x va_more va_laid va_below va_settled va_sort p2_lower p2_way p2_more p2_beyond x3 H locs ls ho hP hD hS (lv_sub hl [1, 2, 3, 4] rfl)
      · replace ho := ho.2 c_45
        refine lv_iload hx hb dX6_read_48 (lv_at hl 0 rfl) ?_
        refine lv_if_ne (tgt := 57) hx hb dX6_read_50 (by decide) (fun c_50 => ?_) (fun c_50 => ?_)
        · replace ho := ho.1 c_50
          exact C_57 va_m va_x va_more va_laid va_below va_settled va_sort p2_lower p2_way p2_more p2_beyond x3 H locs ls ho hP hD hS (lv_sub hl [1, 2, 3, 4] rfl)
        · replace ho := ho.2 c_50
          refine lv_iconst (v := 1) hx hb dX6_read_53 (by decide) ?_
          refine lv_goto (tgt := 58) hx hb dX6_read_54 (by decide) ?_
          exact C_58 va_m va_x va_more va_laid va_below va_settled va_sort p2_lower p2_way p2_more p2_beyond x3 (1 : Int32) H locs ls ho hP hD hS (lv_sub hl [1, 2, 3, 4] rfl)
  have C_29 : ∀ (va_m : Int64) (va_x : Int32) (va_more : Int32) (va_laid : Int32) (va_below : Int32) (va_settled : Int32) (va_sort : Int32) (p2_lower : Int32) (p2_way : Int32) (p2_more : Int32) (p2_beyond : Int32) (x3 : Int32) (H : Heap) (locs : List Loc) (ls : Array Slot), wp_X6_read_29 post  fl_f fl_bias fl_signBit fl_endless va_m va_x va_more va_below va_settled p2_lower p2_way p2_more p2_beyond p1 p2 x3 → va_P D vwCl [(a_fl, oX1 fl_e fl_f fl_bias fl_codes fl_signBit fl_endless), (a_va, oX6 a_fl a_p2 va_m va_x va_more va_laid va_below va_settled va_sort), (a_p2, oX3 a_fl p2_lower p2_way p2_more p2_beyond)] H → va_D A [(a_fl, oX1 fl_e fl_f fl_bias fl_codes fl_signBit fl_endless), (a_va, oX6 a_fl a_p2 va_m va_x va_more va_laid va_below va_settled va_sort), (a_p2, oX3 a_fl p2_lower p2_way p2_more p2_beyond)] → va_S A s.heap H locs → lv_has ls 5 [(0, .ref a_va), (1, .int p1), (2, .int p2), (3, .int x3)] → W p l e R s m args below meth c H locs 0 0 Q (F0 m 29 ls []) := by
    intro va_m va_x va_more va_laid va_below va_settled va_sort p2_lower p2_way p2_more p2_beyond x3 H locs ls ho hP hD hS hl
    unfold wp_X6_read_29 at ho
    refine lv_iconst (v := 0) hx hb dX6_read_29 (by decide) ?_
    exact C_30 va_m va_x va_more va_laid va_below va_settled va_sort p2_lower p2_way p2_more p2_beyond x3 (0 : Int32) H locs ls ho hP hD hS (lv_sub hl [0, 1, 2, 3] rfl)
  unfold wp_X6_read at ho
  refine lv_aload_n hx hb dX6_read_0 rfl (lv_at hl 0 rfl) ?_
  refine va_get (D := D) (ci := 5) (v := .ref a_fl) (C := RX6) (T := TX6) (N := 9) hx hb hts in_X6_read_X6 hown hK hP 1 rfl rfl 0 (by decide) (hts (.fieldLink RX6 9 "HardBench$Value" "floats" "LHardBench$Floats;") (List.mem_of_getElem? (i := 1) (by decide +kernel))) (fun _ h9 => h9) rfl dX6_read_1 ?_
  refine lv_iload_n hx hb dX6_read_4 rfl (lv_at hl 2 rfl) ?_
  refine ca_Vi (b := a_fl) (As := [.int p2]) (rest := []) ⟨hx, hb, hml, hown, hts⟩ (c_X1_isZero l D cI cJ cZ a_fl fl_e fl_f fl_bias fl_codes fl_signBit fl_endless p2 _ ho) (cwV 1 hts gX6_read_X1_isZero rfl rfl rfl (by decide +kernel) ⟨hRf _ (Nat.le_of_ble_eq_true rfl), hRl _ (Nat.le_of_ble_eq_true rfl)⟩) hK hN hP [0] rfl 0 1 rfl rfl rfl rfl hl.1 rfl (Nat.le_of_ble_eq_true rfl) dX6_read_5 ⟨Nat.zero_le _, Nat.zero_le _⟩ (fun r5 ho => ?_)
  refine lv_istore_n (lv' := [(3, .int r5), (0, .ref a_va), (1, .int p1), (2, .int p2)]) hx hb dX6_read_8 rfl hl (by decide) rfl (fun ls hl => ?_)
  refine lv_iload_n hx hb dX6_read_9 rfl (lv_at hl 2 rfl) ?_
  refine lv_iconst (v := 1) hx hb dX6_read_10 (by decide) ?_
  refine lv_icmp_ne (tgt := 29) hx hb dX6_read_11 (by decide) (fun c_11 => ?_) (fun c_11 => ?_)
  · replace ho := ho.1 c_11
    exact C_29 va_m va_x va_more va_laid va_below va_settled va_sort p2_lower p2_way p2_more p2_beyond r5 H locs ls ho hP hD hS (lv_sub hl [1, 2, 3, 0] rfl)
  · replace ho := ho.2 c_11
    refine lv_aload_n hx hb dX6_read_14 rfl (lv_at hl 1 rfl) ?_
    refine va_get (D := D) (ci := 5) (v := .ref a_fl) (C := RX6) (T := TX6) (N := 9) hx hb hts in_X6_read_X6 hown hK hP 1 rfl rfl 0 (by decide) (hts (.fieldLink RX6 9 "HardBench$Value" "floats" "LHardBench$Floats;") (List.mem_of_getElem? (i := 1) (by decide +kernel))) (fun _ h9 => h9) rfl dX6_read_15 ?_
    refine lv_iload_n hx hb dX6_read_18 rfl (lv_at hl 3 rfl) ?_
    refine ca_Vi (b := a_fl) (As := [.int p2]) (rest := []) ⟨hx, hb, hml, hown, hts⟩ (c_X1_isBelow l D cI cJ cZ a_fl fl_e fl_f fl_bias fl_codes fl_signBit fl_endless p2 _ ho) (cwV 1 hts gX6_read_X1_isBelow rfl rfl rfl (by decide +kernel) ⟨hRf _ (Nat.le_of_ble_eq_true rfl), hRl _ (Nat.le_of_ble_eq_true rfl)⟩) hK hN hP [0] rfl 0 1 rfl rfl rfl rfl hl.1 rfl (Nat.le_of_ble_eq_true rfl) dX6_read_19 ⟨Nat.zero_le _, Nat.zero_le _⟩ (fun r19 ho => ?_)
    refine lv_if_eq (tgt := 29) hx hb dX6_read_22 (by decide) (fun c_22 => ?_) (fun c_22 => ?_)
    · replace ho := ho.1 c_22
      exact C_29 va_m va_x va_more va_laid va_below va_settled va_sort p2_lower p2_way p2_more p2_beyond r5 H locs ls ho hP hD hS (lv_sub hl [1, 2, 3, 0] rfl)
    · replace ho := ho.2 c_22
      refine lv_iconst (v := 1) hx hb dX6_read_25 (by decide) ?_
      refine lv_goto (tgt := 30) hx hb dX6_read_26 (by decide) ?_
      exact C_30 va_m va_x va_more va_laid va_below va_settled va_sort p2_lower p2_way p2_more p2_beyond r5 (1 : Int32) H locs ls ho hP hD hS (lv_sub hl [1, 2, 3, 0] rfl)

def wp_X6_figuresRead (post : Int32 → Prop) (fl_endless : Int32) (va_laid : Int32) (p2_lower : Int32) (p2_way : Int32) (p2_more : Int32) (p2_beyond : Int32) : Prop := ((va_laid = 0) → (post (-9 : Int32))) ∧ ((¬ (va_laid = 0)) → (wp_X3_figuresLaid (fun r11 => (post r11)) fl_endless p2_lower p2_way p2_more p2_beyond))
set_option maxRecDepth 20000 in
theorem in_X6_figuresRead_X6 : ∀ w ∈ u_ws RX6 TX6 9, w ∈ wsX6_figuresRead := fun w h => (goodIn_r wsX60 [23, 24, 25, 26, 27, 28, 29, 30, 31] (by decide +kernel) (by decide +kernel) w h).1
set_option maxHeartbeats 4000000 in
set_option maxRecDepth 100000 in
theorem c_X6_figuresRead (l : Launch) (D : va_G) (cI cJ cZ : ClassId) (a_fl : Nat) (a_va : Nat) (a_p2 : Nat) (fl_e : Int32) (fl_f : Int32) (fl_bias : Int32) (fl_codes : Int32) (fl_signBit : Int32) (fl_endless : Int32) (va_m : Int64) (va_x : Int32) (va_more : Int32) (va_laid : Int32) (va_below : Int32) (va_settled : Int32) (va_sort : Int32) (p2_lower : Int32) (p2_way : Int32) (p2_more : Int32) (p2_beyond : Int32)  (post : Int32 → Prop) (ho : wp_X6_figuresRead post fl_endless va_laid p2_lower p2_way p2_more p2_beyond) : Met l yX6_figuresRead wsX6_figuresRead ({ frames := 2, cells := 0, slots := 0, locals := 41 } : Room) (ro_P D [(cI, .int), (cJ, .long), (cZ, .boolean)] [.ref a_va] [(a_fl, oX1 fl_e fl_f fl_bias fl_codes fl_signBit fl_endless), (a_va, oX6 a_fl a_p2 va_m va_x va_more va_laid va_below va_settled va_sort), (a_p2, oX3 a_fl p2_lower p2_way p2_more p2_beyond)]) (vp_Si post) 0 0 (fun _ => False) := by
  refine Met.ofW (cc := cX6_figuresRead) (maxL := 1) (ret := (some .int)) (by decide) rfl ?_
  intro p e s m args below meth c s₁ B hml hv
  obtain ⟨hargs, hP, hK, hN⟩ := hv
  have hx := B.exec
  have hb := B.bytes
  have hr := B.returns
  have hts := atoms_spec (ws := wsX6_figuresRead) B.pre
  have hown : s.vm.findClass RX6 = some m.cls := findClass_of_methodNamed B.named
  have hlocks := B.notSynchronized
  have hl := lv_entry ([.ref a_va]) (n := 1) (Nat.le_of_ble_eq_true rfl)
  rw [hargs, lg_entry_eq, ← hargs]
  generalize (lg_sl ([.ref a_va]) ++ List.replicate (1 - (lg_sl ([.ref a_va])).length) Slot.unset).toArray = ls at hl ⊢
  replace hl : lv_has ls 1 [(0, .ref a_va)] := hl
  have hRf : ∀ n, n ≤ 2 → n ≤ (headSpec wsX6_figuresRead ({ frames := 2, cells := 0, slots := 0, locals := 41 } : Room)).room.frames := fun n h => h
  have hRl : ∀ n, n ≤ 41 → n ≤ (headSpec wsX6_figuresRead ({ frames := 2, cells := 0, slots := 0, locals := 41 } : Room)).room.locals := fun n h => h
  generalize (headSpec wsX6_figuresRead ({ frames := 2, cells := 0, slots := 0, locals := 41 } : Room)).room = R at hRf hRl ⊢
  generalize hQ : MQ below _ args s 0 0 _ = Q
  unfold wp_X6_figuresRead at ho
  refine lv_aload_n hx hb dX6_figuresRead_0 rfl (lv_at hl 0 rfl) ?_
  refine va_get (D := D) (ci := 5) (v := .int va_laid) (C := RX6) (T := TX6) (N := 9) hx hb hts in_X6_figuresRead_X6 hown hK hP 1 rfl rfl 5 (by decide) (hts (.fieldLink RX6 28 "HardBench$Value" "laid" "Z") (List.mem_of_getElem? (i := 1) (by decide +kernel))) (fun _ h9 => h9) rfl dX6_figuresRead_1 ?_
  refine lv_if_eq (tgt := 17) hx hb dX6_figuresRead_4 (by decide) (fun c_4 => ?_) (fun c_4 => ?_)
  · replace ho := ho.1 c_4
    refine lv_bipush (v := (-9)) hx hb dX6_figuresRead_17 (by decide) ?_
    subst hQ; exact W.iret (v := (-9 : Int32)) hx hb hr (fun t ht _ => ⟨(-9 : Int32), rfl, ho, ht⟩) (fun _ h => by cases h) dX6_figuresRead_19
  · replace ho := ho.2 c_4
    refine lv_aload_n hx hb dX6_figuresRead_7 rfl (lv_at hl 0 rfl) ?_
    refine va_get (D := D) (ci := 5) (v := .ref a_p2) (C := RX6) (T := TX6) (N := 9) hx hb hts in_X6_figuresRead_X6 hown hK hP 1 rfl rfl 1 (by decide) (hts (.fieldLink RX6 20 "HardBench$Value" "place" "LHardBench$Place;") (List.mem_of_getElem? (i := 2) (by decide +kernel))) (fun _ h9 => h9) rfl dX6_figuresRead_8 ?_
    refine ca_Vi (b := a_p2) (As := []) (rest := []) ⟨hx, hb, hml, hown, hts⟩ (c_X3_figuresLaid l D cI cJ cZ a_fl a_p2 fl_e fl_f fl_bias fl_codes fl_signBit fl_endless p2_lower p2_way p2_more p2_beyond  _ ho) (cwV 0 hts gX6_figuresRead_X3_figuresLaid rfl rfl rfl (by decide +kernel) ⟨hRf _ (Nat.le_of_ble_eq_true rfl), hRl _ (Nat.le_of_ble_eq_true rfl)⟩) hK hN hP [0, 2] rfl 1 3 rfl rfl rfl rfl hl.1 rfl (Nat.le_of_ble_eq_true rfl) dX6_figuresRead_11 ⟨Nat.zero_le _, Nat.zero_le _⟩ (fun r11 ho => ?_)
    refine lv_goto (tgt := 19) hx hb dX6_figuresRead_14 (by decide) ?_
    subst hQ; exact W.iret (v := r11) hx hb hr (fun t ht _ => ⟨r11, rfl, ho, ht⟩) (fun _ h => by cases h) dX6_figuresRead_19

def wp_X6_hardnessRead_24_b (post : Int32 → Prop)   (K_24 : Int32 → Int32 → Int32 → Int32 → Prop) (x1 : Int32) (x2 : Int32) (x3 : Int32) (x4 : Int32) : Prop := ((x4 < 0) → (post x3)) ∧ ((¬ (x4 < 0)) → (((¬ ((x1 >>> (x4 &&& 31)) &&& (1 : Int32)) = x2) → (post x3)) ∧ ((¬ (¬ ((x1 >>> (x4 &&& 31)) &&& (1 : Int32)) = x2)) → (K_24 x1 x2 (x3 + (1 : Int32)) (x4 + (-1 : Int32))))))
noncomputable def wp_X6_hardnessRead_24 (post : Int32 → Prop)   (n : Nat) : Int32 → Int32 → Int32 → Int32 → Prop := Nat.rec (motive := fun _ => Int32 → Int32 → Int32 → Int32 → Prop) (fun _ _ _ _ => False) (fun _ K_24 => wp_X6_hardnessRead_24_b post  K_24) n
def wp_X6_hardnessRead (post : Int32 → Prop) (fl_endless : Int32) (va_laid : Int32) (p2_lower : Int32) (p2_way : Int32) (p2_more : Int32) (p2_beyond : Int32) : Prop := wp_X6_figuresRead (fun r1 => (((0 ≤ r1) → (∃ n, wp_X6_hardnessRead_24 post  n r1 ((r1 >>> ((8 : Int32) &&& 31)) &&& (1 : Int32)) (0 : Int32) (8 : Int32))) ∧ ((¬ (0 ≤ r1)) → (post (0 : Int32))))) fl_endless va_laid p2_lower p2_way p2_more p2_beyond
set_option maxHeartbeats 4000000 in
set_option maxRecDepth 100000 in
theorem c_X6_hardnessRead (l : Launch) (D : va_G) (cI cJ cZ : ClassId) (a_fl : Nat) (a_va : Nat) (a_p2 : Nat) (fl_e : Int32) (fl_f : Int32) (fl_bias : Int32) (fl_codes : Int32) (fl_signBit : Int32) (fl_endless : Int32) (va_m : Int64) (va_x : Int32) (va_more : Int32) (va_laid : Int32) (va_below : Int32) (va_settled : Int32) (va_sort : Int32) (p2_lower : Int32) (p2_way : Int32) (p2_more : Int32) (p2_beyond : Int32)  (post : Int32 → Prop) (ho : wp_X6_hardnessRead post fl_endless va_laid p2_lower p2_way p2_more p2_beyond) : Met l yX6_hardnessRead wsX6_hardnessRead ({ frames := 3, cells := 0, slots := 0, locals := 61 } : Room) (ro_P D [(cI, .int), (cJ, .long), (cZ, .boolean)] [.ref a_va] [(a_fl, oX1 fl_e fl_f fl_bias fl_codes fl_signBit fl_endless), (a_va, oX6 a_fl a_p2 va_m va_x va_more va_laid va_below va_settled va_sort), (a_p2, oX3 a_fl p2_lower p2_way p2_more p2_beyond)]) (vp_Si post) 0 0 (fun _ => False) := by
  refine Met.ofW (cc := cX6_hardnessRead) (maxL := 5) (ret := (some .int)) (by decide) rfl ?_
  intro p e s m args below meth c s₁ B hml hv
  obtain ⟨hargs, hP, hK, hN⟩ := hv
  have hx := B.exec
  have hb := B.bytes
  have hr := B.returns
  have hts := atoms_spec (ws := wsX6_hardnessRead) B.pre
  have hown : s.vm.findClass RX6 = some m.cls := findClass_of_methodNamed B.named
  have hlocks := B.notSynchronized
  have hl := lv_entry ([.ref a_va]) (n := 5) (Nat.le_of_ble_eq_true rfl)
  rw [hargs, lg_entry_eq, ← hargs]
  generalize (lg_sl ([.ref a_va]) ++ List.replicate (5 - (lg_sl ([.ref a_va])).length) Slot.unset).toArray = ls at hl ⊢
  replace hl : lv_has ls 5 [(0, .ref a_va)] := hl
  have hRf : ∀ n, n ≤ 3 → n ≤ (headSpec wsX6_hardnessRead ({ frames := 3, cells := 0, slots := 0, locals := 61 } : Room)).room.frames := fun n h => h
  have hRl : ∀ n, n ≤ 61 → n ≤ (headSpec wsX6_hardnessRead ({ frames := 3, cells := 0, slots := 0, locals := 61 } : Room)).room.locals := fun n h => h
  generalize (headSpec wsX6_hardnessRead ({ frames := 3, cells := 0, slots := 0, locals := 61 } : Room)).room = R at hRf hRl ⊢
  generalize hQ : MQ below _ args s 0 0 _ = Q
  have C_24 : ∀ n : Nat, ∀ (x1 : Int32) (x2 : Int32) (x3 : Int32) (x4 : Int32) (ls : Array Slot), wp_X6_hardnessRead_24 post   n x1 x2 x3 x4 → lv_has ls 5 [(1, .int x1), (2, .int x2), (3, .int x3), (4, .int x4)] → W p l e R s m args below meth c s.heap [] 0 0 Q (F0 m 24 ls []) := by
    intro n
    induction n with
    | zero => intro x1 x2 x3 x4 ls ho hl; exact ho.elim
    | succ n_24 ih_24 =>
      intro x1 x2 x3 x4 ls ho hl
      replace ho : wp_X6_hardnessRead_24_b post  (wp_X6_hardnessRead_24 post  n_24) x1 x2 x3 x4 := ho
      unfold wp_X6_hardnessRead_24_b at ho
      refine lv_iload hx hb dX6_hardnessRead_24 (lv_at hl 3 rfl) ?_
      refine lv_if_lt (tgt := 48) hx hb dX6_hardnessRead_26 (by decide) (fun c_26 => ?_) (fun c_26 => ?_)
      · replace ho := ho.1 c_26
        refine lv_iload_n hx hb dX6_hardnessRead_48 rfl (lv_at hl 2 rfl) ?_
        subst hQ; exact W.iret (v := x3) hx hb hr (fun t ht _ => ⟨x3, rfl, ho, ht⟩) (fun _ h => by cases h) dX6_hardnessRead_49
      · replace ho := ho.2 c_26
        refine lv_iload_n hx hb dX6_hardnessRead_29 rfl (lv_at hl 0 rfl) ?_
        refine lv_iload hx hb dX6_hardnessRead_30 (lv_at hl 3 rfl) ?_
        refine lv_ishr hx hb dX6_hardnessRead_32 ?_
        refine lv_iconst (v := 1) hx hb dX6_hardnessRead_33 (by decide) ?_
        refine lv_iand hx hb dX6_hardnessRead_34 ?_
        refine lv_iload_n hx hb dX6_hardnessRead_35 rfl (lv_at hl 1 rfl) ?_
        refine lv_icmp_ne (tgt := 48) hx hb dX6_hardnessRead_36 (by decide) (fun c_36 => ?_) (fun c_36 => ?_)
        · replace ho := ho.1 c_36
          refine lv_iload_n hx hb dX6_hardnessRead_48 rfl (lv_at hl 2 rfl) ?_
          subst hQ; exact W.iret (v := x3) hx hb hr (fun t ht _ => ⟨x3, rfl, ho, ht⟩) (fun _ h => by cases h) dX6_hardnessRead_49
        · replace ho := ho.2 c_36
          refine lv_iinc (v := (x3 + (1 : Int32))) (lv' := [(3, .int (x3 + (1 : Int32))), (1, .int x1), (2, .int x2), (4, .int x4)]) hx hb dX6_hardnessRead_39 hl (k := 2) rfl rfl (by decide) rfl (fun ls hl => ?_)
          refine lv_iinc (v := (x4 + (-1 : Int32))) (lv' := [(4, .int (x4 + (-1 : Int32))), (3, .int (x3 + (1 : Int32))), (1, .int x1), (2, .int x2)]) hx hb dX6_hardnessRead_42 hl (k := 3) rfl rfl (by decide) rfl (fun ls hl => ?_)
          refine lv_goto (tgt := 24) hx hb dX6_hardnessRead_45 (by decide) ?_
          exact ih_24 x1 x2 (x3 + (1 : Int32)) (x4 + (-1 : Int32)) ls ho (lv_sub hl [2, 3, 1, 0] rfl)
  unfold wp_X6_hardnessRead at ho
  refine lv_aload_n hx hb dX6_hardnessRead_0 rfl (lv_at hl 0 rfl) ?_
  refine ca_Vi (b := a_va) (As := []) (rest := []) ⟨hx, hb, hml, hown, hts⟩ (c_X6_figuresRead l D cI cJ cZ a_fl a_va a_p2 fl_e fl_f fl_bias fl_codes fl_signBit fl_endless va_m va_x va_more va_laid va_below va_settled va_sort p2_lower p2_way p2_more p2_beyond  _ ho) (cwV 0 hts gX6_hardnessRead_X6_figuresRead rfl rfl rfl (by decide +kernel) ⟨hRf _ (Nat.le_of_ble_eq_true rfl), hRl _ (Nat.le_of_ble_eq_true rfl)⟩) hK hN hP [0, 1, 2] rfl 1 5 rfl rfl rfl rfl hl.1 rfl (Nat.le_of_ble_eq_true rfl) dX6_hardnessRead_1 ⟨Nat.zero_le _, Nat.zero_le _⟩ (fun r1 ho => ?_)
  refine lv_istore_n (lv' := [(1, .int r1), (0, .ref a_va)]) hx hb dX6_hardnessRead_4 rfl hl (by decide) rfl (fun ls hl => ?_)
  refine lv_iload_n hx hb dX6_hardnessRead_5 rfl (lv_at hl 0 rfl) ?_
  refine lv_if_ge (tgt := 11) hx hb dX6_hardnessRead_6 (by decide) (fun c_6 => ?_) (fun c_6 => ?_)
  · replace ho := ho.1 c_6
    refine lv_iload_n hx hb dX6_hardnessRead_11 rfl (lv_at hl 0 rfl) ?_
    refine lv_bipush (v := 8) hx hb dX6_hardnessRead_12 (by decide) ?_
    refine lv_ishr hx hb dX6_hardnessRead_14 ?_
    refine lv_iconst (v := 1) hx hb dX6_hardnessRead_15 (by decide) ?_
    refine lv_iand hx hb dX6_hardnessRead_16 ?_
    refine lv_istore_n (lv' := [(2, .int ((r1 >>> ((8 : Int32) &&& 31)) &&& (1 : Int32))), (1, .int r1), (0, .ref a_va)]) hx hb dX6_hardnessRead_17 rfl hl (by decide) rfl (fun ls hl => ?_)
    refine lv_iconst (v := 0) hx hb dX6_hardnessRead_18 (by decide) ?_
    refine lv_istore_n (lv' := [(3, .int (0 : Int32)), (2, .int ((r1 >>> ((8 : Int32) &&& 31)) &&& (1 : Int32))), (1, .int r1), (0, .ref a_va)]) hx hb dX6_hardnessRead_19 rfl hl (by decide) rfl (fun ls hl => ?_)
    refine lv_bipush (v := 8) hx hb dX6_hardnessRead_20 (by decide) ?_
    refine lv_istore (lv' := [(4, .int (8 : Int32)), (3, .int (0 : Int32)), (2, .int ((r1 >>> ((8 : Int32) &&& 31)) &&& (1 : Int32))), (1, .int r1), (0, .ref a_va)]) hx hb dX6_hardnessRead_22 hl (by decide) rfl (fun ls hl => ?_)
    obtain ⟨n_24, ho⟩ := ho
    exact C_24 n_24 r1 ((r1 >>> ((8 : Int32) &&& 31)) &&& (1 : Int32)) (0 : Int32) (8 : Int32) ls ho (lv_sub hl [3, 2, 1, 0] rfl)
  · replace ho := ho.2 c_6
    refine lv_iconst (v := 0) hx hb dX6_hardnessRead_9 (by decide) ?_
    subst hQ; exact W.iret (v := (0 : Int32)) hx hb hr (fun t ht _ => ⟨(0 : Int32), rfl, ho, ht⟩) (fun _ h => by cases h) dX6_hardnessRead_10

def wp_X6_sortRead (post : Int32 → Prop) (va_sort : Int32) : Prop := post va_sort
set_option maxRecDepth 20000 in
theorem in_X6_sortRead_X6 : ∀ w ∈ u_ws RX6 TX6 9, w ∈ wsX6_sortRead := fun w h => (goodIn_r wsX60 [2, 3, 4, 5, 6, 7, 8, 9, 10] (by decide +kernel) (by decide +kernel) w h).1
set_option maxHeartbeats 4000000 in
set_option maxRecDepth 100000 in
theorem c_X6_sortRead (l : Launch) (D : va_G) (cI cJ cZ : ClassId) (a_fl : Nat) (a_va : Nat) (a_p2 : Nat) (va_m : Int64) (va_x : Int32) (va_more : Int32) (va_laid : Int32) (va_below : Int32) (va_settled : Int32) (va_sort : Int32)  (post : Int32 → Prop) (ho : wp_X6_sortRead post va_sort) : Met l yX6_sortRead wsX6_sortRead ({ frames := 0, cells := 0, slots := 0, locals := 0 } : Room) (ro_P D [(cI, .int), (cJ, .long), (cZ, .boolean)] [.ref a_va] [(a_va, oX6 a_fl a_p2 va_m va_x va_more va_laid va_below va_settled va_sort)]) (vp_Si post) 0 0 (fun _ => False) := by
  refine Met.ofW (cc := cX6_sortRead) (maxL := 1) (ret := (some .int)) (by decide) rfl ?_
  intro p e s m args below meth c s₁ B hml hv
  obtain ⟨hargs, hP, hK, hN⟩ := hv
  have hx := B.exec
  have hb := B.bytes
  have hr := B.returns
  have hts := atoms_spec (ws := wsX6_sortRead) B.pre
  have hown : s.vm.findClass RX6 = some m.cls := findClass_of_methodNamed B.named
  have hlocks := B.notSynchronized
  have hl := lv_entry ([.ref a_va]) (n := 1) (Nat.le_of_ble_eq_true rfl)
  rw [hargs, lg_entry_eq, ← hargs]
  generalize (lg_sl ([.ref a_va]) ++ List.replicate (1 - (lg_sl ([.ref a_va])).length) Slot.unset).toArray = ls at hl ⊢
  replace hl : lv_has ls 1 [(0, .ref a_va)] := hl
  have hRf : ∀ n, n ≤ 0 → n ≤ (headSpec wsX6_sortRead ({ frames := 0, cells := 0, slots := 0, locals := 0 } : Room)).room.frames := fun n h => h
  have hRl : ∀ n, n ≤ 0 → n ≤ (headSpec wsX6_sortRead ({ frames := 0, cells := 0, slots := 0, locals := 0 } : Room)).room.locals := fun n h => h
  generalize (headSpec wsX6_sortRead ({ frames := 0, cells := 0, slots := 0, locals := 0 } : Room)).room = R at hRf hRl ⊢
  generalize hQ : MQ below _ args s 0 0 _ = Q
  unfold wp_X6_sortRead at ho
  refine lv_aload_n hx hb dX6_sortRead_0 rfl (lv_at hl 0 rfl) ?_
  refine va_get (D := D) (ci := 5) (v := .int va_sort) (C := RX6) (T := TX6) (N := 9) hx hb hts in_X6_sortRead_X6 hown hK hP 0 rfl rfl 8 (by decide) (hts (.fieldLink RX6 43 "HardBench$Value" "sort" "I") (List.mem_of_getElem? (i := 1) (by decide +kernel))) (fun _ h9 => h9) rfl dX6_sortRead_1 ?_
  subst hQ; exact W.iret (v := va_sort) hx hb hr (fun t ht _ => ⟨va_sort, rfl, ho, ht⟩) (fun _ h => by cases h) dX6_sortRead_4

def wp_X6_resultAt (post : Int32 → Int64 → Int32 → Int32 → Int32 → Int32 → Int32 → Int32 → Int32 → Int32 → Int32 → Int32 → Prop) (fl_f : Int32) (fl_bias : Int32) (fl_signBit : Int32) (fl_endless : Int32) (va_m : Int64) (va_x : Int32) (va_more : Int32) (va_below : Int32) (va_settled : Int32) (p2_lower : Int32) (p2_way : Int32) (p2_more : Int32) (p2_beyond : Int32) (p1 : Int32) (p2 : Int32) (p3 : Int32) : Prop := wp_X6_read (fun u3_1 u3_2 u3_3 u3_4 u3_5 u3_6 u3_7 u3_8 u3_9 u3_10 u3_11 => (((u3_4 = 0) → (post u3_6 u3_1 u3_2 u3_3 u3_4 u3_5 u3_6 u3_7 u3_8 u3_9 u3_10 u3_11)) ∧ ((¬ (u3_4 = 0)) → (wp_X3_rounded (fun r22 => (post r22 u3_1 u3_2 u3_3 u3_4 u3_5 u3_6 u3_7 u3_8 u3_9 u3_10 u3_11)) fl_signBit u3_8 u3_9 u3_10 u3_11 u3_5 p3)))) fl_f fl_bias fl_signBit fl_endless va_m va_x va_more va_below va_settled p2_lower p2_way p2_more p2_beyond p1 p2
set_option maxRecDepth 20000 in
theorem in_X6_resultAt_X6 : ∀ w ∈ u_ws RX6 TX6 9, w ∈ wsX6_resultAt := fun w h => (goodIn_r wsX60 [141, 142, 143, 144, 145, 146, 147, 148, 149] (by decide +kernel) (by decide +kernel) w h).1
set_option maxHeartbeats 4000000 in
set_option maxRecDepth 100000 in
theorem c_X6_resultAt (l : Launch) (D : va_G) (cI cJ cZ : ClassId) (a_fl : Nat) (a_va : Nat) (a_p2 : Nat) (sz : Nat) (fl_e : Int32) (fl_f : Int32) (fl_bias : Int32) (fl_codes : Int32) (fl_signBit : Int32) (fl_endless : Int32) (va_m : Int64) (va_x : Int32) (va_more : Int32) (va_laid : Int32) (va_below : Int32) (va_settled : Int32) (va_sort : Int32) (p2_lower : Int32) (p2_way : Int32) (p2_more : Int32) (p2_beyond : Int32) (p1 : Int32) (p2 : Int32) (p3 : Int32) (post : Int32 → Int64 → Int32 → Int32 → Int32 → Int32 → Int32 → Int32 → Int32 → Int32 → Int32 → Int32 → Prop) (A : Nat → Prop) (hAe : A = va_A [(a_fl, oX1 fl_e fl_f fl_bias fl_codes fl_signBit fl_endless), (a_va, oX6 a_fl a_p2 va_m va_x va_more va_laid va_below va_settled va_sort), (a_p2, oX3 a_fl p2_lower p2_way p2_more p2_beyond)] sz) (ho : wp_X6_resultAt post fl_f fl_bias fl_signBit fl_endless va_m va_x va_more va_below va_settled p2_lower p2_way p2_more p2_beyond p1 p2 p3) : Met l yX6_resultAt wsX6_resultAt ({ frames := 4, cells := 0, slots := 0, locals := 103 } : Room) (rw_P D [(cI, .int), (cJ, .long), (cZ, .boolean)] [.ref a_va, .int p1, .int p2, .int p3] sz [(a_fl, oX1 fl_e fl_f fl_bias fl_codes fl_signBit fl_endless), (a_va, oX6 a_fl a_p2 va_m va_x va_more va_laid va_below va_settled va_sort), (a_p2, oX3 a_fl p2_lower p2_way p2_more p2_beyond)]) (va_Qi (fun (r : Int32) (u : (Int64) × (Int32) × (Int32) × (Int32) × (Int32) × (Int32) × (Int32) × (Int32) × (Int32) × (Int32) × (Int32)) => post r u.1 u.2.1 u.2.2.1 u.2.2.2.1 u.2.2.2.2.1 u.2.2.2.2.2.1 u.2.2.2.2.2.2.1 u.2.2.2.2.2.2.2.1 u.2.2.2.2.2.2.2.2.1 u.2.2.2.2.2.2.2.2.2.1 u.2.2.2.2.2.2.2.2.2.2) (rw_B D A (fun (u : (Int64) × (Int32) × (Int32) × (Int32) × (Int32) × (Int32) × (Int32) × (Int32) × (Int32) × (Int32) × (Int32)) => [(a_fl, oX1 fl_e fl_f fl_bias fl_codes fl_signBit fl_endless), (a_va, oX6 a_fl a_p2 u.1 u.2.1 u.2.2.1 u.2.2.2.1 u.2.2.2.2.1 u.2.2.2.2.2.1 u.2.2.2.2.2.2.1), (a_p2, oX3 a_fl u.2.2.2.2.2.2.2.1 u.2.2.2.2.2.2.2.2.1 u.2.2.2.2.2.2.2.2.2.1 u.2.2.2.2.2.2.2.2.2.2)])) A) 0 0 A := by
  refine Met.ofW (cc := cX6_resultAt) (maxL := 4) (ret := (some .int)) (by decide) rfl ?_
  intro p e s m args below meth c s₁ B hml hv
  obtain ⟨hargs, hsz, hP, hK, hN, hD0⟩ := hv
  have hx := B.exec
  have hb := B.bytes
  have hr := B.returns
  have hts := atoms_spec (ws := wsX6_resultAt) B.pre
  have hown : s.vm.findClass RX6 = some m.cls := findClass_of_methodNamed B.named
  have hlocks := B.notSynchronized
  subst hsz
  have hD : va_D A [(a_fl, oX1 fl_e fl_f fl_bias fl_codes fl_signBit fl_endless), (a_va, oX6 a_fl a_p2 va_m va_x va_more va_laid va_below va_settled va_sort), (a_p2, oX3 a_fl p2_lower p2_way p2_more p2_beyond)] := by rw [hAe]; exact hD0.self
  have hA : ∀ q : Nat, s.heap.size ≤ q → A q := fun q h => by rw [hAe]; exact Or.inr h
  have hS : va_S A s.heap s.heap [] := va_S.rf
  have hl := lv_entry ([.ref a_va, .int p1, .int p2, .int p3]) (n := 4) (Nat.le_of_ble_eq_true rfl)
  rw [hargs, lg_entry_eq, ← hargs]
  generalize (lg_sl ([.ref a_va, .int p1, .int p2, .int p3]) ++ List.replicate (4 - (lg_sl ([.ref a_va, .int p1, .int p2, .int p3])).length) Slot.unset).toArray = ls at hl ⊢
  replace hl : lv_has ls 4 [(0, .ref a_va), (1, .int p1), (2, .int p2), (3, .int p3)] := hl
  have hRf : ∀ n, n ≤ 4 → n ≤ (headSpec wsX6_resultAt ({ frames := 4, cells := 0, slots := 0, locals := 103 } : Room)).room.frames := fun n h => h
  have hRl : ∀ n, n ≤ 103 → n ≤ (headSpec wsX6_resultAt ({ frames := 4, cells := 0, slots := 0, locals := 103 } : Room)).room.locals := fun n h => h
  generalize (headSpec wsX6_resultAt ({ frames := 4, cells := 0, slots := 0, locals := 103 } : Room)).room = R at hRf hRl ⊢
  generalize hQ : MQ below _ args s 0 0 _ = Q
  unfold wp_X6_resultAt at ho
  refine lv_aload_n hx hb dX6_resultAt_0 rfl (lv_at hl 0 rfl) ?_
  refine lv_iload_n hx hb dX6_resultAt_1 rfl (lv_at hl 1 rfl) ?_
  refine lv_iload_n hx hb dX6_resultAt_2 rfl (lv_at hl 2 rfl) ?_
  refine ca_Wv (b := a_va) (As := [.int p1, .int p2]) (rest := []) (wr := []) (wo := fun u => [(a_fl, oX1 fl_e fl_f fl_bias fl_codes fl_signBit fl_endless), (a_va, oX6 a_fl a_p2 u.1 u.2.1 u.2.2.1 u.2.2.2.1 u.2.2.2.2.1 u.2.2.2.2.2.1 u.2.2.2.2.2.2.1), (a_p2, oX3 a_fl u.2.2.2.2.2.2.2.1 u.2.2.2.2.2.2.2.2.1 u.2.2.2.2.2.2.2.2.2.1 u.2.2.2.2.2.2.2.2.2.2)]) (wn := fun u => [(a_fl, oX1 fl_e fl_f fl_bias fl_codes fl_signBit fl_endless), (a_va, oX6 a_fl a_p2 u.1 u.2.1 u.2.2.1 u.2.2.2.1 u.2.2.2.2.1 u.2.2.2.2.2.1 u.2.2.2.2.2.2.1), (a_p2, oX3 a_fl u.2.2.2.2.2.2.2.1 u.2.2.2.2.2.2.2.2.1 u.2.2.2.2.2.2.2.2.2.1 u.2.2.2.2.2.2.2.2.2.2)]) ⟨hx, hb, hml, hown, hts⟩ (c_X6_read l D cI cJ cZ a_fl a_va a_p2 H.size fl_e fl_f fl_bias fl_codes fl_signBit fl_endless va_m va_x va_more va_laid va_below va_settled va_sort p2_lower p2_way p2_more p2_beyond p1 p2 _ _ rfl ho) (cwV 2 hts gX6_resultAt_X6_read rfl rfl rfl (by decide +kernel) ⟨hRf _ (Nat.le_of_ble_eq_true rfl), hRl _ (Nat.le_of_ble_eq_true rfl)⟩) hK hN hP hD hS hA [0, 1, 2] [] [0, 1, 2] rfl rfl (by decide) (by decide) (by decide) (by decide) (fun _ => rfl) 1 5 rfl rfl rfl rfl hl.1 rfl (Nat.le_of_ble_eq_true rfl) dX6_resultAt_3 ⟨Nat.zero_le _, Nat.zero_le _⟩ (fun  u3 H locs ho hP hD hS => ?_)
  obtain ⟨u3_1, u3_2, u3_3, u3_4, u3_5, u3_6, u3_7, u3_8, u3_9, u3_10, u3_11⟩ := u3
  try dsimp only at ho
  replace hP : va_P D vwCl [(a_fl, oX1 fl_e fl_f fl_bias fl_codes fl_signBit fl_endless), (a_va, oX6 a_fl a_p2 u3_1 u3_2 u3_3 u3_4 u3_5 u3_6 u3_7), (a_p2, oX3 a_fl u3_8 u3_9 u3_10 u3_11)] H := hP
  replace hD : va_D A [(a_fl, oX1 fl_e fl_f fl_bias fl_codes fl_signBit fl_endless), (a_va, oX6 a_fl a_p2 u3_1 u3_2 u3_3 u3_4 u3_5 u3_6 u3_7), (a_p2, oX3 a_fl u3_8 u3_9 u3_10 u3_11)] := hD
  refine lv_aload_n hx hb dX6_resultAt_6 rfl (lv_at hl 0 rfl) ?_
  refine va_get (D := D) (ci := 5) (v := .int u3_4) (C := RX6) (T := TX6) (N := 9) hx hb hts in_X6_resultAt_X6 hown hK hP 1 rfl rfl 5 (by decide) (hts (.fieldLink RX6 28 "HardBench$Value" "laid" "Z") (List.mem_of_getElem? (i := 1) (by decide +kernel))) (fun _ h9 => h9) rfl dX6_resultAt_7 ?_
  refine lv_if_eq (tgt := 28) hx hb dX6_resultAt_10 (by decide) (fun c_10 => ?_) (fun c_10 => ?_)
  · replace ho := ho.1 c_10
    refine lv_aload_n hx hb dX6_resultAt_28 rfl (lv_at hl 0 rfl) ?_
    refine va_get (D := D) (ci := 5) (v := .int u3_6) (C := RX6) (T := TX6) (N := 9) hx hb hts in_X6_resultAt_X6 hown hK hP 1 rfl rfl 7 (by decide) (hts (.fieldLink RX6 39 "HardBench$Value" "settled" "I") (List.mem_of_getElem? (i := 4) (by decide +kernel))) (fun _ h9 => h9) rfl dX6_resultAt_29 ?_
    subst hQ; exact W.iret (v := u3_6) hx hb hr (fun t ht hW => ⟨⟨u3_6, (u3_1, u3_2, u3_3, u3_4, u3_5, u3_6, u3_7, u3_8, u3_9, u3_10, u3_11), rfl, ho, by rw [ht]; exact hP, hD⟩, hS.F ht⟩) (fun q hq => hS.2.2 q hq) dX6_resultAt_32
  · replace ho := ho.2 c_10
    refine lv_aload_n hx hb dX6_resultAt_13 rfl (lv_at hl 0 rfl) ?_
    refine va_get (D := D) (ci := 5) (v := .ref a_p2) (C := RX6) (T := TX6) (N := 9) hx hb hts in_X6_resultAt_X6 hown hK hP 1 rfl rfl 1 (by decide) (hts (.fieldLink RX6 20 "HardBench$Value" "place" "LHardBench$Place;") (List.mem_of_getElem? (i := 2) (by decide +kernel))) (fun _ h9 => h9) rfl dX6_resultAt_14 ?_
    refine lv_aload_n hx hb dX6_resultAt_17 rfl (lv_at hl 0 rfl) ?_
    refine va_get (D := D) (ci := 5) (v := .int u3_5) (C := RX6) (T := TX6) (N := 9) hx hb hts in_X6_resultAt_X6 hown hK hP 1 rfl rfl 6 (by decide) (hts (.fieldLink RX6 32 "HardBench$Value" "below" "Z") (List.mem_of_getElem? (i := 3) (by decide +kernel))) (fun _ h9 => h9) rfl dX6_resultAt_18 ?_
    refine lv_iload_n hx hb dX6_resultAt_21 rfl (lv_at hl 3 rfl) ?_
    refine ca_Vi (b := a_p2) (As := [.int u3_5, .int p3]) (rest := []) ⟨hx, hb, hml, hown, hts⟩ (c_X3_rounded l D cI cJ cZ a_fl a_p2 fl_e fl_f fl_bias fl_codes fl_signBit fl_endless u3_8 u3_9 u3_10 u3_11 u3_5 p3 _ ho) (cwV 2 hts gX6_resultAt_X3_rounded rfl rfl rfl (by decide +kernel) ⟨hRf _ (Nat.le_of_ble_eq_true rfl), hRl _ (Nat.le_of_ble_eq_true rfl)⟩) hK hN hP [0, 2] rfl 1 3 rfl rfl rfl rfl hl.1 rfl (Nat.le_of_ble_eq_true rfl) dX6_resultAt_22 ⟨Nat.zero_le _, Nat.zero_le _⟩ (fun r22 ho => ?_)
    refine lv_goto (tgt := 32) hx hb dX6_resultAt_25 (by decide) ?_
    subst hQ; exact W.iret (v := r22) hx hb hr (fun t ht hW => ⟨⟨r22, (u3_1, u3_2, u3_3, u3_4, u3_5, u3_6, u3_7, u3_8, u3_9, u3_10, u3_11), rfl, ho, by rw [ht]; exact hP, hD⟩, hS.F ht⟩) (fun q hq => hS.2.2 q hq) dX6_resultAt_32
