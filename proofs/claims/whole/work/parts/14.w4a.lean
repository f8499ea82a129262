def w_X4_at : List Cond := .code yX4_at cX4_at 2 (some .int) :: wsL_law
set_option maxHeartbeats 4000000 in
set_option maxRecDepth 100000 in
theorem c_X4_at (l : Launch) (D : va_G) (cI cJ cZ : ClassId) (a_ar : Nat) (ar_n : Nat) (ar_r : Nat → Int32) (p2 : Int32) (post : Int32 → Prop) (ho : wp_X4_at post ar_n ar_r p2) : Met l yX4_at w_X4_at ({ frames := 0, cells := 0, slots := 0, locals := 0 } : Room) (ro_P D [(cI, .int), (cJ, .long), (cZ, .boolean)] [.ref a_ar, .int p2] [(a_ar, .inl (cI, ar_n, .inl ar_r))]) (vp_Si post) 0 0 (fun _ => False) := by
  refine Met.ofW (cc := cX4_at) (maxL := 2) (ret := (some .int)) (by decide) rfl ?_
  intro p e s m args below meth c s₁ B hml hv
  obtain ⟨hargs, hP, hK, hN⟩ := hv
  have hx := B.exec
  have hb := B.bytes
  have hr := B.returns
  have hts : ∀ w ∈ wsL_law, w.before args s = true := fun w h => atoms_spec (ws := w_X4_at) B.pre w (List.mem_cons_of_mem _ h)
  have hown : s.vm.findClass RX4 = some m.cls := findClass_of_methodNamed B.named
  have hlocks := B.notSynchronized
  have hl := lv_entry ([.ref a_ar, .int p2]) (n := 2) (Nat.le_of_ble_eq_true rfl)
  rw [hargs, lg_entry_eq, ← hargs]
  generalize (lg_sl ([.ref a_ar, .int p2]) ++ List.replicate (2 - (lg_sl ([.ref a_ar, .int p2])).length) Slot.unset).toArray = ls at hl ⊢
  replace hl : lv_has ls 2 [(0, .ref a_ar), (1, .int p2)] := hl
  have hRf : ∀ n, n ≤ 0 → n ≤ (headSpec w_X4_at ({ frames := 0, cells := 0, slots := 0, locals := 0 } : Room)).room.frames := fun n h => h
  have hRl : ∀ n, n ≤ 0 → n ≤ (headSpec w_X4_at ({ frames := 0, cells := 0, slots := 0, locals := 0 } : Room)).room.locals := fun n h => h
  generalize (headSpec w_X4_at ({ frames := 0, cells := 0, slots := 0, locals := 0 } : Room)).room = R at hRf hRl ⊢
  generalize hQ : MQ below _ args s 0 0 _ = Q
  unfold wp_X4_at at ho
  refine lv_iload_n hx hb dX4_at_0 rfl (lv_at hl 1 rfl) ?_
  refine lv_if_lt (tgt := 16) hx hb dX4_at_1 (by decide) (fun c_1 => ?_) (fun c_1 => ?_)
  · replace ho := ho.1 c_1
    refine lv_iconst (v := 0) hx hb dX4_at_16 (by decide) ?_
    subst hQ; exact W.iret (v := (0 : Int32)) hx hb hr (fun t ht _ => ⟨(0 : Int32), rfl, ho, ht⟩) (fun _ h => by cases h) dX4_at_17
  · replace ho := ho.2 c_1
    refine lv_iload_n hx hb dX4_at_4 rfl (lv_at hl 1 rfl) ?_
    refine lv_aload_n hx hb dX4_at_5 rfl (lv_at hl 0 rfl) ?_
    refine va_alen hx hb hK hP 0 0 rfl rfl (v := nI ar_n) rfl dX4_at_6 ?_
    refine lv_icmp_ge (tgt := 16) hx hb dX4_at_7 (by decide) (fun c_7 => ?_) (fun c_7 => ?_)
    · replace ho := ho.1 c_7
      refine lv_iconst (v := 0) hx hb dX4_at_16 (by decide) ?_
      subst hQ; exact W.iret (v := (0 : Int32)) hx hb hr (fun t ht _ => ⟨(0 : Int32), rfl, ho, ht⟩) (fun _ h => by cases h) dX4_at_17
    · replace ho := ho.2 c_7
      refine lv_aload_n hx hb dX4_at_10 rfl (lv_at hl 0 rfl) ?_
      refine lv_iload_n hx hb dX4_at_11 rfl (lv_at hl 1 rfl) ?_
      have o_12 := ho.1
      replace ho := ho.2
      refine va_iald hx hb hK hP 0 0 rfl rfl o_12 dX4_at_12 ?_
      refine lv_goto (tgt := 17) hx hb dX4_at_13 (by decide) ?_
      subst hQ; exact W.iret (v := (ar_r p2.toNatClampNeg)) hx hb hr (fun t ht _ => ⟨(ar_r p2.toNatClampNeg), rfl, ho, ht⟩) (fun _ h => by cases h) dX4_at_17

def w_X4_put : List Cond := .code yX4_put cX4_put 3 none :: wsL_law
set_option maxHeartbeats 4000000 in
set_option maxRecDepth 100000 in
theorem c_X4_put (l : Launch) (D : va_G) (cI cJ cZ : ClassId) (a_ar : Nat) (sz : Nat) (ar_n : Nat) (ar_r : Nat → Int32) (p2 : Int32) (p3 : Int32) (post : (Nat → Int32) → Prop) (A : Nat → Prop) (hAe : A = va_A [(a_ar, .inl (cI, ar_n, .inl ar_r))] sz) (ho : wp_X4_put post ar_n ar_r p2 p3) : Met l yX4_put w_X4_put ({ frames := 0, cells := 0, slots := 0, locals := 0 } : Room) (rw_P D [(cI, .int), (cJ, .long), (cZ, .boolean)] [.ref a_ar, .int p2, .int p3] sz [(a_ar, .inl (cI, ar_n, .inl ar_r))]) (va_Qv (fun (u : (Nat → Int32)) => post u) (rw_B D A (fun (u : (Nat → Int32)) => [(a_ar, .inl (cI, ar_n, .inl u))])) A) 0 0 A := by
  refine Met.ofW (cc := cX4_put) (maxL := 3) (ret := none) (by decide) rfl ?_
  intro p e s m args below meth c s₁ B hml hv
  obtain ⟨hargs, hsz, hP, hK, hN, hD0⟩ := hv
  have hx := B.exec
  have hb := B.bytes
  have hr := B.returns
  have hts : ∀ w ∈ wsL_law, w.before args s = true := fun w h => atoms_spec (ws := w_X4_put) B.pre w (List.mem_cons_of_mem _ h)
  have hown : s.vm.findClass RX4 = some m.cls := findClass_of_methodNamed B.named
  have hlocks := B.notSynchronized
  subst hsz
  have hD : va_D A [(a_ar, .inl (cI, ar_n, .inl ar_r))] := by rw [hAe]; exact hD0.self
  have hA : ∀ q : Nat, s.heap.size ≤ q → A q := fun q h => by rw [hAe]; exact Or.inr h
  have hS : va_S A s.heap s.heap [] := va_S.rf
  have hl := lv_entry ([.ref a_ar, .int p2, .int p3]) (n := 3) (Nat.le_of_ble_eq_true rfl)
  rw [hargs, lg_entry_eq, ← hargs]
  generalize (lg_sl ([.ref a_ar, .int p2, .int p3]) ++ List.replicate (3 - (lg_sl ([.ref a_ar, .int p2, .int p3])).length) Slot.unset).toArray = ls at hl ⊢
  replace hl : lv_has ls 3 [(0, .ref a_ar), (1, .int p2), (2, .int p3)] := hl
  have hRf : ∀ n, n ≤ 0 → n ≤ (headSpec w_X4_put ({ frames := 0, cells := 0, slots := 0, locals := 0 } : Room)).room.frames := fun n h => h
  have hRl : ∀ n, n ≤ 0 → n ≤ (headSpec w_X4_put ({ frames := 0, cells := 0, slots := 0, locals := 0 } : Room)).room.locals := fun n h => h
  generalize (headSpec w_X4_put ({ frames := 0, cells := 0, slots := 0, locals := 0 } : Room)).room = R at hRf hRl ⊢
  generalize hQ : MQ below _ args s 0 0 _ = Q
  suffices main : ∀ (H : Heap) (locs : List Loc), va_P D vwCl [(a_ar, .inl (cI, ar_n, .inl ar_r))] H → va_S A s.heap H locs → W p l e R s m args below meth c H locs 0 0 Q (F0 m 0 ls []) from main _ _ hP hS
  intro H locs hP hS
  unfold wp_X4_put at ho
  refine lv_iload_n hx hb dX4_put_0 rfl (lv_at hl 1 rfl) ?_
  refine lv_if_lt (tgt := 14) hx hb dX4_put_1 (by decide) (fun c_1 => ?_) (fun c_1 => ?_)
  · replace ho := ho.1 c_1
    subst hQ; exact W.vret hx hb hr (fun t ht hW => ⟨⟨ar_r, rfl, ho, by rw [ht]; exact hP, hD⟩, hS.F ht⟩) (fun q hq => hS.2.2 q hq) dX4_put_14
  · replace ho := ho.2 c_1
    refine lv_iload_n hx hb dX4_put_4 rfl (lv_at hl 1 rfl) ?_
    refine lv_aload_n hx hb dX4_put_5 rfl (lv_at hl 0 rfl) ?_
    refine va_alen hx hb hK hP 0 0 rfl rfl (v := nI ar_n) rfl dX4_put_6 ?_
    refine lv_icmp_ge (tgt := 14) hx hb dX4_put_7 (by decide) (fun c_7 => ?_) (fun c_7 => ?_)
    · replace ho := ho.1 c_7
      subst hQ; exact W.vret hx hb hr (fun t ht hW => ⟨⟨ar_r, rfl, ho, by rw [ht]; exact hP, hD⟩, hS.F ht⟩) (fun q hq => hS.2.2 q hq) dX4_put_14
    · replace ho := ho.2 c_7
      refine lv_aload_n hx hb dX4_put_10 rfl (lv_at hl 0 rfl) ?_
      refine lv_iload_n hx hb dX4_put_11 rfl (lv_at hl 1 rfl) ?_
      refine lv_iload_n hx hb dX4_put_12 rfl (lv_at hl 2 rfl) ?_
      have o_13 := ho.1
      replace ho := ho.2
      refine va_iast hx hb hK hP hD hS 0 0 rfl rfl o_13 dX4_put_13 (fun H locs hP hD hS => ?_)
      replace hP : va_P D vwCl [(a_ar, .inl (cI, ar_n, .inl (upd ar_r p2.toNatClampNeg p3)))] H := hP
      replace hD : va_D A [(a_ar, .inl (cI, ar_n, .inl (upd ar_r p2.toNatClampNeg p3)))] := hD
      subst hQ; exact W.vret hx hb hr (fun t ht hW => ⟨⟨(upd ar_r p2.toNatClampNeg p3), rfl, ho, by rw [ht]; exact hP, hD⟩, hS.F ht⟩) (fun q hq => hS.2.2 q hq) dX4_put_14

def w_X4_addOne : List Cond := .code yX4_addOne cX4_addOne 2 none :: wsL_law
set_option maxHeartbeats 4000000 in
set_option maxRecDepth 100000 in
theorem c_X4_addOne (l : Launch) (D : va_G) (cI cJ cZ : ClassId) (a_ar : Nat) (sz : Nat) (ar_n : Nat) (ar_r : Nat → Int32) (p2 : Int32) (post : (Nat → Int32) → Prop) (A : Nat → Prop) (hAe : A = va_A [(a_ar, .inl (cI, ar_n, .inl ar_r))] sz) (ho : wp_X4_addOne post ar_n ar_r p2) : Met l yX4_addOne w_X4_addOne ({ frames := 1, cells := 0, slots := 0, locals := 22 } : Room) (rw_P D [(cI, .int), (cJ, .long), (cZ, .boolean)] [.ref a_ar, .int p2] sz [(a_ar, .inl (cI, ar_n, .inl ar_r))]) (va_Qv (fun (u : (Nat → Int32)) => post u) (rw_B D A (fun (u : (Nat → Int32)) => [(a_ar, .inl (cI, ar_n, .inl u))])) A) 0 0 A := by
  refine Met.ofW (cc := cX4_addOne) (maxL := 2) (ret := none) (by decide) rfl ?_
  intro p e s m args below meth c s₁ B hml hv
  obtain ⟨hargs, hsz, hP, hK, hN, hD0⟩ := hv
  have hx := B.exec
  have hb := B.bytes
  have hr := B.returns
  have hts : ∀ w ∈ wsL_law, w.before args s = true := fun w h => atoms_spec (ws := w_X4_addOne) B.pre w (List.mem_cons_of_mem _ h)
  have hown : s.vm.findClass RX4 = some m.cls := findClass_of_methodNamed B.named
  have hlocks := B.notSynchronized
  subst hsz
  have hD : va_D A [(a_ar, .inl (cI, ar_n, .inl ar_r))] := by rw [hAe]; exact hD0.self
  have hA : ∀ q : Nat, s.heap.size ≤ q → A q := fun q h => by rw [hAe]; exact Or.inr h
  have hS : va_S A s.heap s.heap [] := va_S.rf
  have hl := lv_entry ([.ref a_ar, .int p2]) (n := 2) (Nat.le_of_ble_eq_true rfl)
  rw [hargs, lg_entry_eq, ← hargs]
  generalize (lg_sl ([.ref a_ar, .int p2]) ++ List.replicate (2 - (lg_sl ([.ref a_ar, .int p2])).length) Slot.unset).toArray = ls at hl ⊢
  replace hl : lv_has ls 2 [(0, .ref a_ar), (1, .int p2)] := hl
  have hRf : ∀ n, n ≤ 1 → n ≤ (headSpec w_X4_addOne ({ frames := 1, cells := 0, slots := 0, locals := 22 } : Room)).room.frames := fun n h => h
  have hRl : ∀ n, n ≤ 22 → n ≤ (headSpec w_X4_addOne ({ frames := 1, cells := 0, slots := 0, locals := 22 } : Room)).room.locals := fun n h => h
  generalize (headSpec w_X4_addOne ({ frames := 1, cells := 0, slots := 0, locals := 22 } : Room)).room = R at hRf hRl ⊢
  generalize hQ : MQ below _ args s 0 0 _ = Q
  suffices main : ∀ (H : Heap) (locs : List Loc), va_P D vwCl [(a_ar, .inl (cI, ar_n, .inl ar_r))] H → va_S A s.heap H locs → W p l e R s m args below meth c H locs 0 0 Q (F0 m 0 ls []) from main _ _ hP hS
  intro H locs hP hS
  unfold wp_X4_addOne at ho
  refine lv_aload_n hx hb dX4_addOne_0 rfl (lv_at hl 0 rfl) ?_
  refine lv_iload_n hx hb dX4_addOne_1 rfl (lv_at hl 1 rfl) ?_
  refine lv_aload_n hx hb dX4_addOne_2 rfl (lv_at hl 0 rfl) ?_
  refine lv_iload_n hx hb dX4_addOne_3 rfl (lv_at hl 1 rfl) ?_
  refine ca_Si (As := [.ref a_ar, .int p2]) (rest := [.int p2, .ref a_ar]) ⟨hx, hb, hml, hown, hts⟩ (c_X4_at l D cI cJ cZ a_ar ar_n ar_r p2 _ ho) (va_cwS 2 hts (gdS wl_136 wl_137 wl_134 wl_138) rfl rfl rfl (by decide +kernel) ⟨hRf _ (Nat.le_of_ble_eq_true rfl), hRl _ (Nat.le_of_ble_eq_true rfl)⟩) hK hN hP [0] rfl rfl hl.1 rfl (Nat.le_of_ble_eq_true rfl) dX4_addOne_4 ⟨Nat.zero_le _, Nat.zero_le _⟩ (fun r4 ho => ?_)
  refine lv_iconst (v := 1) hx hb dX4_addOne_7 (by decide) ?_
  refine lv_iadd hx hb dX4_addOne_8 ?_
  refine ca_Tv (As := [.ref a_ar, .int p2, .int (r4 + (1 : Int32))]) (rest := []) (wr := []) (wo := fun (u : (Nat → Int32)) => [(a_ar, .inl (cI, ar_n, .inl u))]) (wn := fun (u : (Nat → Int32)) => [(a_ar, .inl (cI, ar_n, .inl u))]) ⟨hx, hb, hml, hown, hts⟩ (c_X4_put l D cI cJ cZ a_ar H.size ar_n ar_r p2 (r4 + (1 : Int32)) _ _ rfl ho) (va_cwS 3 hts (gdS wl_139 wl_140 wl_134 wl_141) rfl rfl rfl (by decide +kernel) ⟨hRf _ (Nat.le_of_ble_eq_true rfl), hRl _ (Nat.le_of_ble_eq_true rfl)⟩) hK hN hP hD hS hA [0] [] [0] rfl rfl (by decide) (by decide) (by decide) (by decide) (fun _ => rfl) rfl hl.1 rfl (Nat.le_of_ble_eq_true rfl) dX4_addOne_9 ⟨Nat.zero_le _, Nat.zero_le _⟩ (fun  u9 H locs ho hP hD hS => ?_)
  try dsimp only at ho
  replace hP : va_P D vwCl [(a_ar, .inl (cI, ar_n, .inl u9))] H := hP
  replace hD : va_D A [(a_ar, .inl (cI, ar_n, .inl u9))] := hD
  subst hQ; exact W.vret hx hb hr (fun t ht hW => ⟨⟨u9, rfl, ho, by rw [ht]; exact hP, hD⟩, hS.F ht⟩) (fun q hq => hS.2.2 q hq) dX4_addOne_12
