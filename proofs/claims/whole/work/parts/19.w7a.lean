def wp_X7_refuse (post : Int32 → (Nat → Int32) → Prop) (hbR_r : Nat → Int32) (p1 : Int32) : Prop := wp_X4_addOne (fun u6 => (post p1 u6)) 7 hbR_r (-p1)
set_option maxRecDepth 20000 in
theorem in_X7_refuse_X7 : ∀ w ∈ u_ws RX7 TX7 7, w ∈ wsX7_refuse := fun w h => (goodIn_r wsX70 [12, 13, 14, 15, 16, 17, 18] (by decide +kernel) (by decide +kernel) w h).1
set_option maxHeartbeats 4000000 in
set_option maxRecDepth 100000 in
theorem c_X7_refuse (l : Launch) (D : va_G) (cI cJ cZ : ClassId) (a_hb : Nat) (a_hbR : Nat) (a_fl : Nat) (a_pl : Nat) (a_va : Nat) (a_ce : Nat) (a_st : Nat) (a_li : Nat) (sz : Nat) (hbR_r : Nat → Int32) (p1 : Int32) (post : Int32 → (Nat → Int32) → Prop) (A : Nat → Prop) (hAe : A = va_A [(a_hb, oX7 a_fl a_pl a_va a_ce a_st a_li a_hbR), (a_hbR, .inl (cI, 7, .inl hbR_r))] sz) (ho : wp_X7_refuse post hbR_r p1) : Met l yX7_refuse wsX7_refuse ({ frames := 2, cells := 0, slots := 0, locals := 43 } : Room) (rw_P D [(cI, .int), (cJ, .long), (cZ, .boolean)] [.ref a_hb, .int p1] sz [(a_hb, oX7 a_fl a_pl a_va a_ce a_st a_li a_hbR), (a_hbR, .inl (cI, 7, .inl hbR_r))]) (va_Qi (fun (r : Int32) (u : (Nat → Int32)) => post r u) (rw_B D A (fun (u : (Nat → Int32)) => [(a_hb, oX7 a_fl a_pl a_va a_ce a_st a_li a_hbR), (a_hbR, .inl (cI, 7, .inl u))])) A) 0 0 A := by
  refine Met.ofW (cc := cX7_refuse) (maxL := 2) (ret := (some .int)) (by decide) rfl ?_
  intro p e s m args below meth c s₁ B hml hv
  obtain ⟨hargs, hsz, hP, hK, hN, hD0⟩ := hv
  have hx := B.exec
  have hb := B.bytes
  have hr := B.returns
  have hts := atoms_spec (ws := wsX7_refuse) B.pre
  have hown : s.vm.findClass RX7 = some m.cls := findClass_of_methodNamed B.named
  have hlocks := B.notSynchronized
  subst hsz
  have hD : va_D A [(a_hb, oX7 a_fl a_pl a_va a_ce a_st a_li a_hbR), (a_hbR, .inl (cI, 7, .inl hbR_r))] := by rw [hAe]; exact hD0.self
  have hA : ∀ q : Nat, s.heap.size ≤ q → A q := fun q h => by rw [hAe]; exact Or.inr h
  have hS : va_S A s.heap s.heap [] := va_S.rf
  have hl := lv_entry ([.ref a_hb, .int p1]) (n := 2) (Nat.le_of_ble_eq_true rfl)
  rw [hargs, lg_entry_eq, ← hargs]
  generalize (lg_sl ([.ref a_hb, .int p1]) ++ List.replicate (2 - (lg_sl ([.ref a_hb, .int p1])).length) Slot.unset).toArray = ls at hl ⊢
  replace hl : lv_has ls 2 [(0, .ref a_hb), (1, .int p1)] := hl
  have hRf : ∀ n, n ≤ 2 → n ≤ (headSpec wsX7_refuse ({ frames := 2, cells := 0, slots := 0, locals := 43 } : Room)).room.frames := fun n h => h
  have hRl : ∀ n, n ≤ 43 → n ≤ (headSpec wsX7_refuse ({ frames := 2, cells := 0, slots := 0, locals := 43 } : Room)).room.locals := fun n h => h
  generalize (headSpec wsX7_refuse ({ frames := 2, cells := 0, slots := 0, locals := 43 } : Room)).room = R at hRf hRl ⊢
  generalize hQ : MQ below _ args s 0 0 _ = Q
  unfold wp_X7_refuse at ho
  refine lv_aload_n hx hb dX7_refuse_0 rfl (lv_at hl 0 rfl) ?_
  refine va_get (D := D) (ci := 6) (v := .ref a_hbR) (C := RX7) (T := TX7) (N := 7) hx hb hts in_X7_refuse_X7 hown hK hP 0 rfl rfl 6 (by decide) (hts (.fieldLink RX7 55 "HardBench" "refusals" "[I") (List.mem_of_getElem? (i := 1) (by decide +kernel))) (fun _ h9 => h9) rfl dX7_refuse_1 ?_
  refine lv_iload_n hx hb dX7_refuse_4 rfl (lv_at hl 1 rfl) ?_
  refine lv_ineg hx hb dX7_refuse_5 ?_
  refine ca_Tv (As := [.ref a_hbR, .int (-p1)]) (rest := []) (wr := [(a_hb, oX7 a_fl a_pl a_va a_ce a_st a_li a_hbR)]) (wo := fun u => [(a_hbR, .inl (cI, 7, .inl u))]) (wn := fun u => [(a_hb, oX7 a_fl a_pl a_va a_ce a_st a_li a_hbR), (a_hbR, .inl (cI, 7, .inl u))]) ⟨hx, hb, hml, hown, hts⟩ (c_X4_addOne l D cI cJ cZ a_hbR H.size 7 hbR_r (-p1) _ _ rfl ho) (va_cwS 2 hts gX7_refuse_X4_addOne rfl rfl rfl (by decide +kernel) ⟨hRf _ (Nat.le_of_ble_eq_true rfl), hRl _ (Nat.le_of_ble_eq_true rfl)⟩) hK hN hP hD hS hA [1] [0] [0, 1] rfl rfl (by decide) (by decide) (by decide) (by decide) (fun _ => rfl) rfl hl.1 rfl (Nat.le_of_ble_eq_true rfl) dX7_refuse_6 ⟨Nat.zero_le _, Nat.zero_le _⟩ (fun  u6 H locs ho hP hD hS => ?_)
  try dsimp only at ho
  replace hP : va_P D vwCl [(a_hb, oX7 a_fl a_pl a_va a_ce a_st a_li a_hbR), (a_hbR, .inl (cI, 7, .inl u6))] H := hP
  replace hD : va_D A [(a_hb, oX7 a_fl a_pl a_va a_ce a_st a_li a_hbR), (a_hbR, .inl (cI, 7, .inl u6))] := hD
  refine lv_iload_n hx hb dX7_refuse_9 rfl (lv_at hl 1 rfl) ?_
  subst hQ; exact W.iret (v := p1) hx hb hr (fun t ht hW => ⟨⟨p1, u6, rfl, ho, by rw [ht]; exact hP, hD⟩, hS.F ht⟩) (fun q hq => hS.2.2 q hq) dX7_refuse_10

def wp_X7_make_80 (post : Int32 → (Nat → Int32) → Int32 → Int32 → Int32 → Int32 → Int32 → Int32 → (Nat → Int32) → (Nat → Int32) → (Nat → Int32) → (Nat → Int32) → (Nat → Int32) → (Nat → Int32) → (Nat → Int32) → Int32 → Prop)  (hbR_r : Nat → Int32) (fl_e : Int32) (fl_f : Int32) (fl_bias : Int32) (fl_codes : Int32) (fl_signBit : Int32) (fl_endless : Int32) (ceT_r : Nat → Int32) (ceS_r : Nat → Int32) (ceH_r : Nat → Int32) (ceG_r : Nat → Int32) (ceV_r : Nat → Int32) (stT_r : Nat → Int32) (stB_r : Nat → Int32) : Prop := wp_X2_forget (fun u84 => (post fl_codes hbR_r fl_e fl_f fl_bias fl_codes fl_signBit fl_endless ceT_r ceS_r ceH_r ceG_r ceV_r stT_r stB_r u84)) 
def wp_X7_make_57 (post : Int32 → (Nat → Int32) → Int32 → Int32 → Int32 → Int32 → Int32 → Int32 → (Nat → Int32) → (Nat → Int32) → (Nat → Int32) → (Nat → Int32) → (Nat → Int32) → (Nat → Int32) → (Nat → Int32) → Int32 → Prop)  (hbR_r : Nat → Int32) (ceT_r : Nat → Int32) (ceS_r : Nat → Int32) (ceH_r : Nat → Int32) (ceG_r : Nat → Int32) (ceV_r : Nat → Int32) (stT_r : Nat → Int32) (stB_r : Nat → Int32) (p1 : Int32) (p2 : Int32) : Prop := wp_X1_become (fun u63_1 u63_2 u63_3 u63_4 u63_5 u63_6 => (wp_X0_forget (fun u70_1 u70_2 u70_3 u70_4 u70_5 => (wp_X5_forget (fun u77_1 u77_2 => (wp_X7_make_80 post hbR_r u63_1 u63_2 u63_3 u63_4 u63_5 u63_6 u70_1 u70_2 u70_3 u70_4 u70_5 u77_1 u77_2)) stT_r stB_r)) ceT_r ceS_r ceH_r ceG_r ceV_r)) p1 p2
def wp_X7_make_28 (post : Int32 → (Nat → Int32) → Int32 → Int32 → Int32 → Int32 → Int32 → Int32 → (Nat → Int32) → (Nat → Int32) → (Nat → Int32) → (Nat → Int32) → (Nat → Int32) → (Nat → Int32) → (Nat → Int32) → Int32 → Prop)  (hbR_r : Nat → Int32) (fl_e : Int32) (fl_f : Int32) (fl_bias : Int32) (fl_codes : Int32) (fl_signBit : Int32) (fl_endless : Int32) (ceT_r : Nat → Int32) (ceS_r : Nat → Int32) (ceH_r : Nat → Int32) (ceG_r : Nat → Int32) (ceV_r : Nat → Int32) (stT_r : Nat → Int32) (stB_r : Nat → Int32) (li_parts : Int32) : Prop := wp_X7_refuse (fun r31 u31 => (post r31 u31 fl_e fl_f fl_bias fl_codes fl_signBit fl_endless ceT_r ceS_r ceH_r ceG_r ceV_r stT_r stB_r li_parts)) hbR_r (-6 : Int32)
def wp_X7_make_10 (post : Int32 → (Nat → Int32) → Int32 → Int32 → Int32 → Int32 → Int32 → Int32 → (Nat → Int32) → (Nat → Int32) → (Nat → Int32) → (Nat → Int32) → (Nat → Int32) → (Nat → Int32) → (Nat → Int32) → Int32 → Prop)  (hbR_r : Nat → Int32) (fl_e : Int32) (fl_f : Int32) (fl_bias : Int32) (fl_codes : Int32) (fl_signBit : Int32) (fl_endless : Int32) (ceT_r : Nat → Int32) (ceS_r : Nat → Int32) (ceH_r : Nat → Int32) (ceG_r : Nat → Int32) (ceV_r : Nat → Int32) (stT_r : Nat → Int32) (stB_r : Nat → Int32) (li_parts : Int32) : Prop := wp_X7_refuse (fun r13 u13 => (post r13 u13 fl_e fl_f fl_bias fl_codes fl_signBit fl_endless ceT_r ceS_r ceH_r ceG_r ceV_r stT_r stB_r li_parts)) hbR_r (-4 : Int32)
def wp_X7_make (post : Int32 → (Nat → Int32) → Int32 → Int32 → Int32 → Int32 → Int32 → Int32 → (Nat → Int32) → (Nat → Int32) → (Nat → Int32) → (Nat → Int32) → (Nat → Int32) → (Nat → Int32) → (Nat → Int32) → Int32 → Prop) (hbR_r : Nat → Int32) (fl_e : Int32) (fl_f : Int32) (fl_bias : Int32) (fl_codes : Int32) (fl_signBit : Int32) (fl_endless : Int32) (ceT_r : Nat → Int32) (ceS_r : Nat → Int32) (ceH_r : Nat → Int32) (ceG_r : Nat → Int32) (ceV_r : Nat → Int32) (stT_r : Nat → Int32) (stB_r : Nat → Int32) (li_parts : Int32) (p1 : Int32) (p2 : Int32) : Prop := ((p1 < (2 : Int32)) → (wp_X7_make_10 post hbR_r fl_e fl_f fl_bias fl_codes fl_signBit fl_endless ceT_r ceS_r ceH_r ceG_r ceV_r stT_r stB_r li_parts)) ∧ ((¬ (p1 < (2 : Int32))) → ((((1 : Int32) ≤ p2) → ((((5 : Int32) < p1) → (wp_X7_make_28 post hbR_r fl_e fl_f fl_bias fl_codes fl_signBit fl_endless ceT_r ceS_r ceH_r ceG_r ceV_r stT_r stB_r li_parts)) ∧ ((¬ ((5 : Int32) < p1)) → (((p2 ≤ (8 : Int32)) → (((¬ p1 = fl_e) → (wp_X7_make_57 post hbR_r ceT_r ceS_r ceH_r ceG_r ceV_r stT_r stB_r p1 p2)) ∧ ((¬ (¬ p1 = fl_e)) → (((p2 = fl_f) → (wp_X7_make_80 post hbR_r fl_e fl_f fl_bias fl_codes fl_signBit fl_endless ceT_r ceS_r ceH_r ceG_r ceV_r stT_r stB_r)) ∧ ((¬ (p2 = fl_f)) → (wp_X7_make_57 post hbR_r ceT_r ceS_r ceH_r ceG_r ceV_r stT_r stB_r p1 p2)))))) ∧ ((¬ (p2 ≤ (8 : Int32))) → (wp_X7_make_28 post hbR_r fl_e fl_f fl_bias fl_codes fl_signBit fl_endless ceT_r ceS_r ceH_r ceG_r ceV_r stT_r stB_r li_parts)))))) ∧ ((¬ ((1 : Int32) ≤ p2)) → (wp_X7_make_10 post hbR_r fl_e fl_f fl_bias fl_codes fl_signBit fl_endless ceT_r ceS_r ceH_r ceG_r ceV_r stT_r stB_r li_parts))))
set_option maxRecDepth 20000 in
theorem in_X7_make_X1 : ∀ w ∈ u_ws RX1 TX1 6, w ∈ wsX7_make := fun w h => (goodIn_r wsX10 [67, 68, 69, 70, 71, 72] (by decide +kernel) (by decide +kernel) w h).1
set_option maxRecDepth 20000 in
theorem in_X7_make_X7 : ∀ w ∈ u_ws RX7 TX7 7, w ∈ wsX7_make := fun w h => (goodIn_r wsX70 [60, 61, 62, 63, 64, 65, 66] (by decide +kernel) (by decide +kernel) w h).1
set_option maxHeartbeats 4000000 in
set_option maxRecDepth 100000 in
theorem c_X7_make (l : Launch) (D : va_G) (cI cJ cZ : ClassId) (a_hb : Nat) (a_hbR : Nat) (a_fl : Nat) (a_pl : Nat) (a_va : Nat) (a_ce : Nat) (a_ceT : Nat) (a_ceS : Nat) (a_ceH : Nat) (a_ceG : Nat) (a_ceV : Nat) (a_st : Nat) (a_stT : Nat) (a_stB : Nat) (a_li : Nat) (a_liD : Nat) (a_liF : Nat) (a_liA : Nat) (a_liB : Nat) (sz : Nat) (hbR_r : Nat → Int32) (fl_e : Int32) (fl_f : Int32) (fl_bias : Int32) (fl_codes : Int32) (fl_signBit : Int32) (fl_endless : Int32) (ceT_r : Nat → Int32) (ceS_r : Nat → Int32) (ceH_r : Nat → Int32) (ceG_r : Nat → Int32) (ceV_r : Nat → Int32) (stT_r : Nat → Int32) (stB_r : Nat → Int32) (li_parts : Int32) (li_s : Int32) (li_least : Int64) (li_greatest : Int64) (p1 : Int32) (p2 : Int32) (post : Int32 → (Nat → Int32) → Int32 → Int32 → Int32 → Int32 → Int32 → Int32 → (Nat → Int32) → (Nat → Int32) → (Nat → Int32) → (Nat → Int32) → (Nat → Int32) → (Nat → Int32) → (Nat → Int32) → Int32 → Prop) (A : Nat → Prop) (hAe : A = va_A [(a_hb, oX7 a_fl a_pl a_va a_ce a_st a_li a_hbR), (a_hbR, .inl (cI, 7, .inl hbR_r)), (a_fl, oX1 fl_e fl_f fl_bias fl_codes fl_signBit fl_endless), (a_ce, oX0 a_fl a_va a_ceT a_ceS a_ceH a_ceG a_ceV), (a_ceT, .inl (cI, 5, .inl ceT_r)), (a_ceS, .inl (cI, 20, .inl ceS_r)), (a_ceH, .inl (cI, 50, .inl ceH_r)), (a_ceG, .inl (cI, 320, .inl ceG_r)), (a_ceV, .inl (cI, 320, .inl ceV_r)), (a_st, oX5 a_fl a_va a_stT a_stB), (a_stT, .inl (cI, 25, .inl stT_r)), (a_stB, .inl (cI, 800, .inl stB_r)), (a_li, oX2 a_fl a_va a_liD a_liF a_liA a_liB li_parts li_s li_least li_greatest)] sz) (ho : wp_X7_make post hbR_r fl_e fl_f fl_bias fl_codes fl_signBit fl_endless ceT_r ceS_r ceH_r ceG_r ceV_r stT_r stB_r li_parts p1 p2) : Met l yX7_make wsX7_make ({ frames := 3, cells := 0, slots := 0, locals := 64 } : Room) (rw_P D [(cI, .int), (cJ, .long), (cZ, .boolean)] [.ref a_hb, .int p1, .int p2] sz [(a_hb, oX7 a_fl a_pl a_va a_ce a_st a_li a_hbR), (a_hbR, .inl (cI, 7, .inl hbR_r)), (a_fl, oX1 fl_e fl_f fl_bias fl_codes fl_signBit fl_endless), (a_ce, oX0 a_fl a_va a_ceT a_ceS a_ceH a_ceG a_ceV), (a_ceT, .inl (cI, 5, .inl ceT_r)), (a_ceS, .inl (cI, 20, .inl ceS_r)), (a_ceH, .inl (cI, 50, .inl ceH_r)), (a_ceG, .inl (cI, 320, .inl ceG_r)), (a_ceV, .inl (cI, 320, .inl ceV_r)), (a_st, oX5 a_fl a_va a_stT a_stB), (a_stT, .inl (cI, 25, .inl stT_r)), (a_stB, .inl (cI, 800, .inl stB_r)), (a_li, oX2 a_fl a_va a_liD a_liF a_liA a_liB li_parts li_s li_least li_greatest)]) (va_Qi (fun (r : Int32) (u : (Nat → Int32) × (Int32) × (Int32) × (Int32) × (Int32) × (Int32) × (Int32) × (Nat → Int32) × (Nat → Int32) × (Nat → Int32) × (Nat → Int32) × (Nat → Int32) × (Nat → Int32) × (Nat → Int32) × (Int32)) => post r u.1 u.2.1 u.2.2.1 u.2.2.2.1 u.2.2.2.2.1 u.2.2.2.2.2.1 u.2.2.2.2.2.2.1 u.2.2.2.2.2.2.2.1 u.2.2.2.2.2.2.2.2.1 u.2.2.2.2.2.2.2.2.2.1 u.2.2.2.2.2.2.2.2.2.2.1 u.2.2.2.2.2.2.2.2.2.2.2.1 u.2.2.2.2.2.2.2.2.2.2.2.2.1 u.2.2.2.2.2.2.2.2.2.2.2.2.2.1 u.2.2.2.2.2.2.2.2.2.2.2.2.2.2) (rw_B D A (fun (u : (Nat → Int32) × (Int32) × (Int32) × (Int32) × (Int32) × (Int32) × (Int32) × (Nat → Int32) × (Nat → Int32) × (Nat → Int32) × (Nat → Int32) × (Nat → Int32) × (Nat → Int32) × (Nat → Int32) × (Int32)) => [(a_hb, oX7 a_fl a_pl a_va a_ce a_st a_li a_hbR), (a_hbR, .inl (cI, 7, .inl u.1)), (a_fl, oX1 u.2.1 u.2.2.1 u.2.2.2.1 u.2.2.2.2.1 u.2.2.2.2.2.1 u.2.2.2.2.2.2.1), (a_ce, oX0 a_fl a_va a_ceT a_ceS a_ceH a_ceG a_ceV), (a_ceT, .inl (cI, 5, .inl u.2.2.2.2.2.2.2.1)), (a_ceS, .inl (cI, 20, .inl u.2.2.2.2.2.2.2.2.1)), (a_ceH, .inl (cI, 50, .inl u.2.2.2.2.2.2.2.2.2.1)), (a_ceG, .inl (cI, 320, .inl u.2.2.2.2.2.2.2.2.2.2.1)), (a_ceV, .inl (cI, 320, .inl u.2.2.2.2.2.2.2.2.2.2.2.1)), (a_st, oX5 a_fl a_va a_stT a_stB), (a_stT, .inl (cI, 25, .inl u.2.2.2.2.2.2.2.2.2.2.2.2.1)), (a_stB, .inl (cI, 800, .inl u.2.2.2.2.2.2.2.2.2.2.2.2.2.1)), (a_li, oX2 a_fl a_va a_liD a_liF a_liA a_liB u.2.2.2.2.2.2.2.2.2.2.2.2.2.2 li_s li_least li_greatest)])) A) 0 0 A := by
  refine Met.ofW (cc := cX7_make) (maxL := 3) (ret := (some .int)) (by decide) rfl ?_
  intro p e s m args below meth c s₁ B hml hv
  obtain ⟨hargs, hsz, hP, hK, hN, hD0⟩ := hv
  have hx := B.exec
  have hb := B.bytes
  have hr := B.returns
  have hts := atoms_spec (ws := wsX7_make) B.pre
  have hown : s.vm.findClass RX7 = some m.cls := findClass_of_methodNamed B.named
  have hlocks := B.notSynchronized
  subst hsz
  have hD : va_D A [(a_hb, oX7 a_fl a_pl a_va a_ce a_st a_li a_hbR), (a_hbR, .inl (cI, 7, .inl hbR_r)), (a_fl, oX1 fl_e fl_f fl_bias fl_codes fl_signBit fl_endless), (a_ce, oX0 a_fl a_va a_ceT a_ceS a_ceH a_ceG a_ceV), (a_ceT, .inl (cI, 5, .inl ceT_r)), (a_ceS, .inl (cI, 20, .inl ceS_r)), (a_ceH, .inl (cI, 50, .inl ceH_r)), (a_ceG, .inl (cI, 320, .inl ceG_r)), (a_ceV, .inl (cI, 320, .inl ceV_r)), (a_st, oX5 a_fl a_va a_stT a_stB), (a_stT, .inl (cI, 25, .inl stT_r)), (a_stB, .inl (cI, 800, .inl stB_r)), (a_li, oX2 a_fl a_va a_liD a_liF a_liA a_liB li_parts li_s li_least li_greatest)] := by rw [hAe]; exact hD0.self
  have hA : ∀ q : Nat, s.heap.size ≤ q → A q := fun q h => by rw [hAe]; exact Or.inr h
  have hS : va_S A s.heap s.heap [] := va_S.rf
  have hl := lv_entry ([.ref a_hb, .int p1, .int p2]) (n := 3) (Nat.le_of_ble_eq_true rfl)
  rw [hargs, lg_entry_eq, ← hargs]
  generalize (lg_sl ([.ref a_hb, .int p1, .int p2]) ++ List.replicate (3 - (lg_sl ([.ref a_hb, .int p1, .int p2])).length) Slot.unset).toArray = ls at hl ⊢
  replace hl : lv_has ls 3 [(0, .ref a_hb), (1, .int p1), (2, .int p2)] := hl
  have hRf : ∀ n, n ≤ 3 → n ≤ (headSpec wsX7_make ({ frames := 3, cells := 0, slots := 0, locals := 64 } : Room)).room.frames := fun n h => h
  have hRl : ∀ n, n ≤ 64 → n ≤ (headSpec wsX7_make ({ frames := 3, cells := 0, slots := 0, locals := 64 } : Room)).room.locals := fun n h => h
  generalize (headSpec wsX7_make ({ frames := 3, cells := 0, slots := 0, locals := 64 } : Room)).room = R at hRf hRl ⊢
  generalize hQ : MQ below _ args s 0 0 _ = Q
  have C_80 : ∀ (hbR_r : Nat → Int32) (fl_e : Int32) (fl_f : Int32) (fl_bias : Int32) (fl_codes : Int32) (fl_signBit : Int32) (fl_endless : Int32) (ceT_r : Nat → Int32) (ceS_r : Nat → Int32) (ceH_r : Nat → Int32) (ceG_r : Nat → Int32) (ceV_r : Nat → Int32) (stT_r : Nat → Int32) (stB_r : Nat → Int32) (li_parts : Int32) (H : Heap) (locs : List Loc) (ls : Array Slot), wp_X7_make_80 post  hbR_r fl_e fl_f fl_bias fl_codes fl_signBit fl_endless ceT_r ceS_r ceH_r ceG_r ceV_r stT_r stB_r → va_P D vwCl [(a_hb, oX7 a_fl a_pl a_va a_ce a_st a_li a_hbR), (a_hbR, .inl (cI, 7, .inl hbR_r)), (a_fl, oX1 fl_e fl_f fl_bias fl_codes fl_signBit fl_endless), (a_ce, oX0 a_fl a_va a_ceT a_ceS a_ceH a_ceG a_ceV), (a_ceT, .inl (cI, 5, .inl ceT_r)), (a_ceS, .inl (cI, 20, .inl ceS_r)), (a_ceH, .inl (cI, 50, .inl ceH_r)), (a_ceG, .inl (cI, 320, .inl ceG_r)), (a_ceV, .inl (cI, 320, .inl ceV_r)), (a_st, oX5 a_fl a_va a_stT a_stB), (a_stT, .inl (cI, 25, .inl stT_r)), (a_stB, .inl (cI, 800, .inl stB_r)), (a_li, oX2 a_fl a_va a_liD a_liF a_liA a_liB li_parts li_s li_least li_greatest)] H → va_D A [(a_hb, oX7 a_fl a_pl a_va a_ce a_st a_li a_hbR), (a_hbR, .inl (cI, 7, .inl hbR_r)), (a_fl, oX1 fl_e fl_f fl_bias fl_codes fl_signBit fl_endless), (a_ce, oX0 a_fl a_va a_ceT a_ceS a_ceH a_ceG a_ceV), (a_ceT, .inl (cI, 5, .inl ceT_r)), (a_ceS, .inl (cI, 20, .inl ceS_r)), (a_ceH, .inl (cI, 50, .inl ceH_r)), (a_ceG, .inl (cI, 320, .inl ceG_r)), (a_ceV, .inl (cI, 320, .inl ceV_r)), (a_st, oX5 a_fl a_va a_stT a_stB), (a_stT, .inl (cI, 25, .inl stT_r)), (a_stB, .inl (cI, 800, .inl stB_r)), (a_li, oX2 a_fl a_va a_liD a_liF a_liA a_liB li_parts li_s li_least li_greatest)] → va_S A s.heap H locs → lv_has ls 3 [(0, .ref a_hb)] → W p l e R s m args below meth c H locs 0 0 Q (F0 m 80 ls []) := by
    intro hbR_r fl_e fl_f fl_bias fl_codes fl_signBit fl_endless ceT_r ceS_r ceH_r ceG_r ceV_r stT_r stB_r li_parts H locs ls ho hP hD hS hl
    unfold wp_X7_make_80 at ho
    refine lv_aload_n hx hb dX7_make_80 rfl (lv_at hl 0 rfl) ?_
    refine va_get (D := D) (ci := 6) (v := .ref a_li) (C := RX7) (T := TX7) (N := 7) hx hb hts in_X7_make_X7 hown hK hP 0 rfl rfl 5 (by decide) (hts (.fieldLink RX7 51 "HardBench" "lines" "LHardBench$Lines;") (List.mem_of_getElem? (i := 4) (by decide +kernel))) (fun _ h9 => h9) rfl dX7_make_81 ?_
    refine ca_Wv (b := a_li) (As := []) (rest := []) (wr := [(a_hb, oX7 a_fl a_pl a_va a_ce a_st a_li a_hbR), (a_hbR, .inl (cI, 7, .inl hbR_r)), (a_fl, oX1 fl_e fl_f fl_bias fl_codes fl_signBit fl_endless), (a_ce, oX0 a_fl a_va a_ceT a_ceS a_ceH a_ceG a_ceV), (a_ceT, .inl (cI, 5, .inl ceT_r)), (a_ceS, .inl (cI, 20, .inl ceS_r)), (a_ceH, .inl (cI, 50, .inl ceH_r)), (a_ceG, .inl (cI, 320, .inl ceG_r)), (a_ceV, .inl (cI, 320, .inl ceV_r)), (a_st, oX5 a_fl a_va a_stT a_stB), (a_stT, .inl (cI, 25, .inl stT_r)), (a_stB, .inl (cI, 800, .inl stB_r))]) (wo := fun u => [(a_li, oX2 a_fl a_va a_liD a_liF a_liA a_liB u li_s li_least li_greatest)]) (wn := fun u => [(a_hb, oX7 a_fl a_pl a_va a_ce a_st a_li a_hbR), (a_hbR, .inl (cI, 7, .inl hbR_r)), (a_fl, oX1 fl_e fl_f fl_bias fl_codes fl_signBit fl_endless), (a_ce, oX0 a_fl a_va a_ceT a_ceS a_ceH a_ceG a_ceV), (a_ceT, .inl (cI, 5, .inl ceT_r)), (a_ceS, .inl (cI, 20, .inl ceS_r)), (a_ceH, .inl (cI, 50, .inl ceH_r)), (a_ceG, .inl (cI, 320, .inl ceG_r)), (a_ceV, .inl (cI, 320, .inl ceV_r)), (a_st, oX5 a_fl a_va a_stT a_stB), (a_stT, .inl (cI, 25, .inl stT_r)), (a_stB, .inl (cI, 800, .inl stB_r)), (a_li, oX2 a_fl a_va a_liD a_liF a_liA a_liB u li_s li_least li_greatest)]) ⟨hx, hb, hml, hown, hts⟩ (c_X2_forget l D cI cJ cZ a_fl a_va a_li a_liD a_liF a_liA a_liB H.size li_parts li_s li_least li_greatest  _ _ rfl ho) (cwV 0 hts gX7_make_X2_forget rfl rfl rfl (by decide +kernel) ⟨hRf _ (Nat.le_of_ble_eq_true rfl), hRl _ (Nat.le_of_ble_eq_true rfl)⟩) hK hN hP hD hS hA [12] [0, 1, 2, 3, 4, 5, 6, 7, 8, 9, 10, 11] [0, 1, 2, 3, 4, 5, 6, 7, 8, 9, 10, 11, 12] rfl rfl (by decide) (by decide) (by decide) (by decide) (fun _ => rfl) 0 2 rfl rfl rfl rfl hl.1 rfl (Nat.le_of_ble_eq_true rfl) dX7_make_84 ⟨Nat.zero_le _, Nat.zero_le _⟩ (fun  u84 H locs ho hP hD hS => ?_)
    try dsimp only at ho
    replace hP : va_P D vwCl [(a_hb, oX7 a_fl a_pl a_va a_ce a_st a_li a_hbR), (a_hbR, .inl (cI, 7, .inl hbR_r)), (a_fl, oX1 fl_e fl_f fl_bias fl_codes fl_signBit fl_endless), (a_ce, oX0 a_fl a_va a_ceT a_ceS a_ceH a_ceG a_ceV), (a_ceT, .inl (cI, 5, .inl ceT_r)), (a_ceS, .inl (cI, 20, .inl ceS_r)), (a_ceH, .inl (cI, 50, .inl ceH_r)), (a_ceG, .inl (cI, 320, .inl ceG_r)), (a_ceV, .inl (cI, 320, .inl ceV_r)), (a_st, oX5 a_fl a_va a_stT a_stB), (a_stT, .inl (cI, 25, .inl stT_r)), (a_stB, .inl (cI, 800, .inl stB_r)), (a_li, oX2 a_fl a_va a_liD a_liF a_liA a_liB u84 li_s li_least li_greatest)] H := hP
    replace hD : va_D A [(a_hb, oX7 a_fl a_pl a_va a_ce a_st a_li a_hbR), (a_hbR, .inl (cI, 7, .inl hbR_r)), (a_fl, oX1 fl_e fl_f fl_bias fl_codes fl_signBit fl_endless), (a_ce, oX0 a_fl a_va a_ceT a_ceS a_ceH a_ceG a_ceV), (a_ceT, .inl (cI, 5, .inl ceT_r)), (a_ceS, .inl (cI, 20, .inl ceS_r)), (a_ceH, .inl (cI, 50, .inl ceH_r)), (a_ceG, .inl (cI, 320, .inl ceG_r)), (a_ceV, .inl (cI, 320, .inl ceV_r)), (a_st, oX5 a_fl a_va a_stT a_stB), (a_stT, .inl (cI, 25, .inl stT_r)), (a_stB, .inl (cI, 800, .inl stB_r)), (a_li, oX2 a_fl a_va a_liD a_liF a_liA a_liB u84 li_s li_least li_greatest)] := hD
    refine lv_aload_n hx hb dX7_make_87 rfl (lv_at hl 0 rfl) ?_
    refine va_get (D := D) (ci := 6) (v := .ref a_fl) (C := RX7) (T := TX7) (N := 7) hx hb hts in_X7_make_X7 hown hK hP 0 rfl rfl 0 (by decide) (hts (.fieldLink RX7 12 "HardBench" "floats" "LHardBench$Floats;") (List.mem_of_getElem? (i := 1) (by decide +kernel))) (fun _ h9 => h9) rfl dX7_make_88 ?_
    refine va_getN (D := D) (ci := 1) (v := .int fl_codes) (C := RX1) (T := TX1) (N := 6) hx hb hts in_X7_make_X1 hown hK hP 2 rfl rfl 3 (by decide) hN.fRX7_79 (fun _ h9 => h9) rfl dX7_make_91 ?_
    subst hQ; exact W.iret (v := fl_codes) hx hb hr (fun t ht hW => ⟨⟨fl_codes, (hbR_r, fl_e, fl_f, fl_bias, fl_codes, fl_signBit, fl_endless, ceT_r, ceS_r, ceH_r, ceG_r, ceV_r, stT_r, stB_r, u84), rfl, ho, by rw [ht]; exact hP, hD⟩, hS.F ht⟩) (fun q hq => hS.2.2 q hq) dX7_make_94
  have C_57 : ∀ (hbR_r : Nat → Int32) (fl_e : Int32) (fl_f : Int32) (fl_bias : Int32) (fl_codes : Int32) (fl_signBit : Int32) (fl_endless : Int32) (ceT_r : Nat → Int32) (ceS_r : Nat → Int32) (ceH_r : Nat → Int32) (ceG_r : Nat → Int32) (ceV_r : Nat → Int32) (stT_r : Nat → Int32) (stB_r : Nat → Int32) (li_parts : Int32) (H : Heap) (locs : List Loc) (ls : Array Slot), wp_X7_make_57 post  hbR_r ceT_r ceS_r ceH_r ceG_r ceV_r stT_r stB_r p1 p2 → va_P D vwCl [(a_hb, oX7 a_fl a_pl a_va a_ce a_st a_li a_hbR), (a_hbR, .inl (cI, 7, .inl hbR_r)), (a_fl, oX1 fl_e fl_f fl_bias fl_codes fl_signBit fl_endless), (a_ce, oX0 a_fl a_va a_ceT a_ceS a_ceH a_ceG a_ceV), (a_ceT, .inl (cI, 5, .inl ceT_r)), (a_ceS, .inl (cI, 20, .inl ceS_r)), (a_ceH, .inl (cI, 50, .inl ceH_r)), (a_ceG, .inl (cI, 320, .inl ceG_r)), (a_ceV, .inl (cI, 320, .inl ceV_r)), (a_st, oX5 a_fl a_va a_stT a_stB), (a_stT, .inl (cI, 25, .inl stT_r)), (a_stB, .inl (cI, 800, .inl stB_r)), (a_li, oX2 a_fl a_va a_liD a_liF a_liA a_liB li_parts li_s li_least li_greatest)] H → va_D A [(a_hb, oX7 a_fl a_pl a_va a_ce a_st a_li a_hbR), (a_hbR, .inl (cI, 7, .inl hbR_r)), (a_fl, oX1 fl_e fl_f fl_bias fl_codes fl_signBit fl_endless), (a_ce, oX0 a_fl a_va a_ceT a_ceS a_ceH a_ceG a_ceV), (a_ceT, .inl (cI, 5, .inl ceT_r)), (a_ceS, .inl (cI, 20, .inl ceS_r)), (a_ceH, .inl (cI, 50, .inl ceH_r)), (a_ceG, .inl (cI, 320, .inl ceG_r)), (a_ceV, .inl (cI, 320, .inl ceV_r)), (a_st, oX5 a_fl a_va a_stT a_stB), (a_stT, .inl (cI, 25, .inl stT_r)), (a_stB, .inl (cI, 800, .inl stB_r)), (a_li, oX2 a_fl a_va a_liD a_liF a_liA a_liB li_parts li_s li_least li_greatest)] → va_S A s.heap H locs → lv_has ls 3 [(0, .ref a_hb), (1, .int p1), (2, .int p2)] → W p l e R s m args below meth c H locs 0 0 Q (F0 m 57 ls []) := by
    intro hbR_r fl_e fl_f fl_bias fl_codes fl_signBit fl_endless ceT_r ceS_r ceH_r ceG_r ceV_r stT_r stB_r li_parts H locs ls ho hP hD hS hl
    unfold wp_X7_make_57 at ho
    refine lv_aload_n hx hb dX7_make_57 rfl (lv_at hl 0 rfl) ?_
    refine va_get (D := D) (ci := 6) (v := .ref a_fl) (C := RX7) (T := TX7) (N := 7) hx hb hts in_X7_make_X7 hown hK hP 0 rfl rfl 0 (by decide) (hts (.fieldLink RX7 12 "HardBench" "floats" "LHardBench$Floats;") (List.mem_of_getElem? (i := 1) (by decide +kernel))) (fun _ h9 => h9) rfl dX7_make_58 ?_
    refine lv_iload_n hx hb dX7_make_61 rfl (lv_at hl 1 rfl) ?_
    refine lv_iload_n hx hb dX7_make_62 rfl (lv_at hl 2 rfl) ?_
    refine ca_Wv (b := a_fl) (As := [.int p1, .int p2]) (rest := []) (wr := [(a_hb, oX7 a_fl a_pl a_va a_ce a_st a_li a_hbR), (a_hbR, .inl (cI, 7, .inl hbR_r)), (a_ce, oX0 a_fl a_va a_ceT a_ceS a_ceH a_ceG a_ceV), (a_ceT, .inl (cI, 5, .inl ceT_r)), (a_ceS, .inl (cI, 20, .inl ceS_r)), (a_ceH, .inl (cI, 50, .inl ceH_r)), (a_ceG, .inl (cI, 320, .inl ceG_r)), (a_ceV, .inl (cI, 320, .inl ceV_r)), (a_st, oX5 a_fl a_va a_stT a_stB), (a_stT, .inl (cI, 25, .inl stT_r)), (a_stB, .inl (cI, 800, .inl stB_r)), (a_li, oX2 a_fl a_va a_liD a_liF a_liA a_liB li_parts li_s li_least li_greatest)]) (wo := fun u => [(a_fl, oX1 u.1 u.2.1 u.2.2.1 u.2.2.2.1 u.2.2.2.2.1 u.2.2.2.2.2)]) (wn := fun u => [(a_hb, oX7 a_fl a_pl a_va a_ce a_st a_li a_hbR), (a_hbR, .inl (cI, 7, .inl hbR_r)), (a_fl, oX1 u.1 u.2.1 u.2.2.1 u.2.2.2.1 u.2.2.2.2.1 u.2.2.2.2.2), (a_ce, oX0 a_fl a_va a_ceT a_ceS a_ceH a_ceG a_ceV), (a_ceT, .inl (cI, 5, .inl ceT_r)), (a_ceS, .inl (cI, 20, .inl ceS_r)), (a_ceH, .inl (cI, 50, .inl ceH_r)), (a_ceG, .inl (cI, 320, .inl ceG_r)), (a_ceV, .inl (cI, 320, .inl ceV_r)), (a_st, oX5 a_fl a_va a_stT a_stB), (a_stT, .inl (cI, 25, .inl stT_r)), (a_stB, .inl (cI, 800, .inl stB_r)), (a_li, oX2 a_fl a_va a_liD a_liF a_liA a_liB li_parts li_s li_least li_greatest)]) ⟨hx, hb, hml, hown, hts⟩ (c_X1_become l D cI cJ cZ a_fl H.size fl_e fl_f fl_bias fl_codes fl_signBit fl_endless p1 p2 _ _ rfl ho) (cwV 2 hts gX7_make_X1_become rfl rfl rfl (by decide +kernel) ⟨hRf _ (Nat.le_of_ble_eq_true rfl), hRl _ (Nat.le_of_ble_eq_true rfl)⟩) hK hN hP hD hS hA [2] [0, 1, 3, 4, 5, 6, 7, 8, 9, 10, 11, 12] [0, 1, 12, 2, 3, 4, 5, 6, 7, 8, 9, 10, 11] rfl rfl (by decide) (by decide) (by decide) (by decide) (fun _ => rfl) 0 1 rfl rfl rfl rfl hl.1 rfl (Nat.le_of_ble_eq_true rfl) dX7_make_63 ⟨Nat.zero_le _, Nat.zero_le _⟩ (fun  u63 H locs ho hP hD hS => ?_)
    obtain ⟨u63_1, u63_2, u63_3, u63_4, u63_5, u63_6⟩ := u63
    try dsimp only at ho
    replace hP : va_P D vwCl [(a_hb, oX7 a_fl a_pl a_va a_ce a_st a_li a_hbR), (a_hbR, .inl (cI, 7, .inl hbR_r)), (a_fl, oX1 u63_1 u63_2 u63_3 u63_4 u63_5 u63_6), (a_ce, oX0 a_fl a_va a_ceT a_ceS a_ceH a_ceG a_ceV), (a_ceT, .inl (cI, 5, .inl ceT_r)), (a_ceS, .inl (cI, 20, .inl ceS_r)), (a_ceH, .inl (cI, 50, .inl ceH_r)), (a_ceG, .inl (cI, 320, .inl ceG_r)), (a_ceV, .inl (cI, 320, .inl ceV_r)), (a_st, oX5 a_fl a_va a_stT a_stB), (a_stT, .inl (cI, 25, .inl stT_r)), (a_stB, .inl (cI, 800, .inl stB_r)), (a_li, oX2 a_fl a_va a_liD a_liF a_liA a_liB li_parts li_s li_least li_greatest)] H := hP
    replace hD : va_D A [(a_hb, oX7 a_fl a_pl a_va a_ce a_st a_li a_hbR), (a_hbR, .inl (cI, 7, .inl hbR_r)), (a_fl, oX1 u63_1 u63_2 u63_3 u63_4 u63_5 u63_6), (a_ce, oX0 a_fl a_va a_ceT a_ceS a_ceH a_ceG a_ceV), (a_ceT, .inl (cI, 5, .inl ceT_r)), (a_ceS, .inl (cI, 20, .inl ceS_r)), (a_ceH, .inl (cI, 50, .inl ceH_r)), (a_ceG, .inl (cI, 320, .inl ceG_r)), (a_ceV, .inl (cI, 320, .inl ceV_r)), (a_st, oX5 a_fl a_va a_stT a_stB), (a_stT, .inl (cI, 25, .inl stT_r)), (a_stB, .inl (cI, 800, .inl stB_r)), (a_li, oX2 a_fl a_va a_liD a_liF a_liA a_liB li_parts li_s li_least li_greatest)] := hD
    refine lv_aload_n hx hb dX7_make_66 rfl (lv_at hl 0 rfl) ?_
    refine va_get (D := D) (ci := 6) (v := .ref a_ce) (C := RX7) (T := TX7) (N := 7) hx hb hts in_X7_make_X7 hown hK hP 0 rfl rfl 3 (by decide) (hts (.fieldLink RX7 37 "HardBench" "census" "LHardBench$Census;") (List.mem_of_getElem? (i := 2) (by decide +kernel))) (fun _ h9 => h9) rfl dX7_make_67 ?_
    refine ca_Wv (b := a_ce) (As := []) (rest := []) (wr := [(a_hb, oX7 a_fl a_pl a_va a_ce a_st a_li a_hbR), (a_hbR, .inl (cI, 7, .inl hbR_r)), (a_fl, oX1 u63_1 u63_2 u63_3 u63_4 u63_5 u63_6), (a_st, oX5 a_fl a_va a_stT a_stB), (a_stT, .inl (cI, 25, .inl stT_r)), (a_stB, .inl (cI, 800, .inl stB_r)), (a_li, oX2 a_fl a_va a_liD a_liF a_liA a_liB li_parts li_s li_least li_greatest)]) (wo := fun u => [(a_ce, oX0 a_fl a_va a_ceT a_ceS a_ceH a_ceG a_ceV), (a_ceT, .inl (cI, 5, .inl u.1)), (a_ceS, .inl (cI, 20, .inl u.2.1)), (a_ceH, .inl (cI, 50, .inl u.2.2.1)), (a_ceG, .inl (cI, 320, .inl u.2.2.2.1)), (a_ceV, .inl (cI, 320, .inl u.2.2.2.2))]) (wn := fun u => [(a_hb, oX7 a_fl a_pl a_va a_ce a_st a_li a_hbR), (a_hbR, .inl (cI, 7, .inl hbR_r)), (a_fl, oX1 u63_1 u63_2 u63_3 u63_4 u63_5 u63_6), (a_ce, oX0 a_fl a_va a_ceT a_ceS a_ceH a_ceG a_ceV), (a_ceT, .inl (cI, 5, .inl u.1)), (a_ceS, .inl (cI, 20, .inl u.2.1)), (a_ceH, .inl (cI, 50, .inl u.2.2.1)), (a_ceG, .inl (cI, 320, .inl u.2.2.2.1)), (a_ceV, .inl (cI, 320, .inl u.2.2.2.2)), (a_st, oX5 a_fl a_va a_stT a_stB), (a_stT, .inl (cI, 25, .inl stT_r)), (a_stB, .inl (cI, 800, .inl stB_r)), (a_li, oX2 a_fl a_va a_liD a_liF a_liA a_liB li_parts li_s li_least li_greatest)]) ⟨hx, hb, hml, hown, hts⟩ (c_X0_forget l D cI cJ cZ a_fl a_va a_ce a_ceT a_ceS a_ceH a_ceG a_ceV H.size ceT_r ceS_r ceH_r ceG_r ceV_r  _ _ rfl ho) (cwV 0 hts gX7_make_X0_forget rfl rfl rfl (by decide +kernel) ⟨hRf _ (Nat.le_of_ble_eq_true rfl), hRl _ (Nat.le_of_ble_eq_true rfl)⟩) hK hN hP hD hS hA [3, 4, 5, 6, 7, 8] [0, 1, 2, 9, 10, 11, 12] [0, 1, 2, 7, 8, 9, 10, 11, 12, 3, 4, 5, 6] rfl rfl (by decide) (by decide) (by decide) (by decide) (fun _ => rfl) 0 0 rfl rfl rfl rfl hl.1 rfl (Nat.le_of_ble_eq_true rfl) dX7_make_70 ⟨Nat.zero_le _, Nat.zero_le _⟩ (fun  u70 H locs ho hP hD hS => ?_)
    obtain ⟨u70_1, u70_2, u70_3, u70_4, u70_5⟩ := u70
    try dsimp only at ho
    replace hP : va_P D vwCl [(a_hb, oX7 a_fl a_pl a_va a_ce a_st a_li a_hbR), (a_hbR, .inl (cI, 7, .inl hbR_r)), (a_fl, oX1 u63_1 u63_2 u63_3 u63_4 u63_5 u63_6), (a_ce, oX0 a_fl a_va a_ceT a_ceS a_ceH a_ceG a_ceV), (a_ceT, .inl (cI, 5, .inl u70_1)), (a_ceS, .inl (cI, 20, .inl u70_2)), (a_ceH, .inl (cI, 50, .inl u70_3)), (a_ceG, .inl (cI, 320, .inl u70_4)), (a_ceV, .inl (cI, 320, .inl u70_5)), (a_st, oX5 a_fl a_va a_stT a_stB), (a_stT, .inl (cI, 25, .inl stT_r)), (a_stB, .inl (cI, 800, .inl stB_r)), (a_li, oX2 a_fl a_va a_liD a_liF a_liA a_liB li_parts li_s li_least li_greatest)] H := hP
    replace hD : va_D A [(a_hb, oX7 a_fl a_pl a_va a_ce a_st a_li a_hbR), (a_hbR, .inl (cI, 7, .inl hbR_r)), (a_fl, oX1 u63_1 u63_2 u63_3 u63_4 u63_5 u63_6), (a_ce, oX0 a_fl a_va a_ceT a_ceS a_ceH a_ceG a_ceV), (a_ceT, .inl (cI, 5, .inl u70_1)), (a_ceS, .inl (cI, 20, .inl u70_2)), (a_ceH, .inl (cI, 50, .inl u70_3)), (a_ceG, .inl (cI, 320, .inl u70_4)), (a_ceV, .inl (cI, 320, .inl u70_5)), (a_st, oX5 a_fl a_va a_stT a_stB), (a_stT, .inl (cI, 25, .inl stT_r)), (a_stB, .inl (cI, 800, .inl stB_r)), (a_li, oX2 a_fl a_va a_liD a_liF a_liA a_liB li_parts li_s li_least li_greatest)] := hD
    refine lv_aload_n hx hb dX7_make_73 rfl (lv_at hl 0 rfl) ?_
    refine va_get (D := D) (ci := 6) (v := .ref a_st) (C := RX7) (T := TX7) (N := 7) hx hb hts in_X7_make_X7 hown hK hP 0 rfl rfl 4 (by decide) (hts (.fieldLink RX7 44 "HardBench" "stretches" "LHardBench$Stretches;") (List.mem_of_getElem? (i := 3) (by decide +kernel))) (fun _ h9 => h9) rfl dX7_make_74 ?_
    refine ca_Wv (b := a_st) (As := []) (rest := []) (wr := [(a_hb, oX7 a_fl a_pl a_va a_ce a_st a_li a_hbR), (a_hbR, .inl (cI, 7, .inl hbR_r)), (a_fl, oX1 u63_1 u63_2 u63_3 u63_4 u63_5 u63_6), (a_ce, oX0 a_fl a_va a_ceT a_ceS a_ceH a_ceG a_ceV), (a_ceT, .inl (cI, 5, .inl u70_1)), (a_ceS, .inl (cI, 20, .inl u70_2)), (a_ceH, .inl (cI, 50, .inl u70_3)), (a_ceG, .inl (cI, 320, .inl u70_4)), (a_ceV, .inl (cI, 320, .inl u70_5)), (a_li, oX2 a_fl a_va a_liD a_liF a_liA a_liB li_parts li_s li_least li_greatest)]) (wo := fun u => [(a_st, oX5 a_fl a_va a_stT a_stB), (a_stT, .inl (cI, 25, .inl u.1)), (a_stB, .inl (cI, 800, .inl u.2))]) (wn := fun u => [(a_hb, oX7 a_fl a_pl a_va a_ce a_st a_li a_hbR), (a_hbR, .inl (cI, 7, .inl hbR_r)), (a_fl, oX1 u63_1 u63_2 u63_3 u63_4 u63_5 u63_6), (a_ce, oX0 a_fl a_va a_ceT a_ceS a_ceH a_ceG a_ceV), (a_ceT, .inl (cI, 5, .inl u70_1)), (a_ceS, .inl (cI, 20, .inl u70_2)), (a_ceH, .inl (cI, 50, .inl u70_3)), (a_ceG, .inl (cI, 320, .inl u70_4)), (a_ceV, .inl (cI, 320, .inl u70_5)), (a_st, oX5 a_fl a_va a_stT a_stB), (a_stT, .inl (cI, 25, .inl u.1)), (a_stB, .inl (cI, 800, .inl u.2)), (a_li, oX2 a_fl a_va a_liD a_liF a_liA a_liB li_parts li_s li_least li_greatest)]) ⟨hx, hb, hml, hown, hts⟩ (c_X5_forget l D cI cJ cZ a_fl a_va a_st a_stT a_stB H.size stT_r stB_r  _ _ rfl ho) (cwV 0 hts gX7_make_X5_forget rfl rfl rfl (by decide +kernel) ⟨hRf _ (Nat.le_of_ble_eq_true rfl), hRl _ (Nat.le_of_ble_eq_true rfl)⟩) hK hN hP hD hS hA [9, 10, 11] [0, 1, 2, 3, 4, 5, 6, 7, 8, 12] [0, 1, 2, 3, 4, 5, 6, 7, 8, 10, 11, 12, 9] rfl rfl (by decide) (by decide) (by decide) (by decide) (fun _ => rfl) 0 4 rfl rfl rfl rfl hl.1 rfl (Nat.le_of_ble_eq_true rfl) dX7_make_77 ⟨Nat.zero_le _, Nat.zero_le _⟩ (fun  u77 H locs ho hP hD hS => ?_)
    obtain ⟨u77_1, u77_2⟩ := u77
    try dsimp only at ho
    replace hP : va_P D vwCl [(a_hb, oX7 a_fl a_pl a_va a_ce a_st a_li a_hbR), (a_hbR, .inl (cI, 7, .inl hbR_r)), (a_fl, oX1 u63_1 u63_2 u63_3 u63_4 u63_5 u63_6), (a_ce, oX0 a_fl a_va a_ceT a_ceS a_ceH a_ceG a_ceV), (a_ceT, .inl (cI, 5, .inl u70_1)), (a_ceS, .inl (cI, 20, .inl u70_2)), (a_ceH, .inl (cI, 50, .inl u70_3)), (a_ceG, .inl (cI, 320, .inl u70_4)), (a_ceV, .inl (cI, 320, .inl u70_5)), (a_st, oX5 a_fl a_va a_stT a_stB), (a_stT, .inl (cI, 25, .inl u77_1)), (a_stB, .inl (cI, 800, .inl u77_2)), (a_li, oX2 a_fl a_va a_liD a_liF a_liA a_liB li_parts li_s li_least li_greatest)] H := hP
    replace hD : va_D A [(a_hb, oX7 a_fl a_pl a_va a_ce a_st a_li a_hbR), (a_hbR, .inl (cI, 7, .inl hbR_r)), (a_fl, oX1 u63_1 u63_2 u63_3 u63_4 u63_5 u63_6), (a_ce, oX0 a_fl a_va a_ceT a_ceS a_ceH a_ceG a_ceV), (a_ceT, .inl (cI, 5, .inl u70_1)), (a_ceS, .inl (cI, 20, .inl u70_2)), (a_ceH, .inl (cI, 50, .inl u70_3)), (a_ceG, .inl (cI, 320, .inl u70_4)), (a_ceV, .inl (cI, 320, .inl u70_5)), (a_st, oX5 a_fl a_va a_stT a_stB), (a_stT, .inl (cI, 25, .inl u77_1)), (a_stB, .inl (cI, 800, .inl u77_2)), (a_li, oX2 a_fl a_va a_liD a_liF a_liA a_liB li_parts li_s li_least li_greatest)] := hD
    exact C_80 hbR_r u63_1 u63_2 u63_3 u63_4 u63_5 u63_6 u70_1 u70_2 u70_3 u70_4 u70_5 u77_1 u77_2 li_parts H locs ls ho hP hD hS (lv_sub hl [0] rfl)
  have C_28 : ∀ (hbR_r : Nat → Int32) (fl_e : Int32) (fl_f : Int32) (fl_bias : Int32) (fl_codes : Int32) (fl_signBit : Int32) (fl_endless : Int32) (ceT_r : Nat → Int32) (ceS_r : Nat → Int32) (ceH_r : Nat → Int32) (ceG_r : Nat → Int32) (ceV_r : Nat → Int32) (stT_r : Nat → Int32) (stB_r : Nat → Int32) (li_parts : Int32) (H : Heap) (locs : List Loc) (ls : Array Slot), wp_X7_make_28 post  hbR_r fl_e fl_f fl_bias fl_codes fl_signBit fl_endless ceT_r ceS_r ceH_r ceG_r ceV_r stT_r stB_r li_parts → va_P D vwCl [(a_hb, oX7 a_fl a_pl a_va a_ce a_st a_li a_hbR), (a_hbR, .inl (cI, 7, .inl hbR_r)), (a_fl, oX1 fl_e fl_f fl_bias fl_codes fl_signBit fl_endless), (a_ce, oX0 a_fl a_va a_ceT a_ceS a_ceH a_ceG a_ceV), (a_ceT, .inl (cI, 5, .inl ceT_r)), (a_ceS, .inl (cI, 20, .inl ceS_r)), (a_ceH, .inl (cI, 50, .inl ceH_r)), (a_ceG, .inl (cI, 320, .inl ceG_r)), (a_ceV, .inl (cI, 320, .inl ceV_r)), (a_st, oX5 a_fl a_va a_stT a_stB), (a_stT, .inl (cI, 25, .inl stT_r)), (a_stB, .inl (cI, 800, .inl stB_r)), (a_li, oX2 a_fl a_va a_liD a_liF a_liA a_liB li_parts li_s li_least li_greatest)] H → va_D A [(a_hb, oX7 a_fl a_pl a_va a_ce a_st a_li a_hbR), (a_hbR, .inl (cI, 7, .inl hbR_r)), (a_fl, oX1 fl_e fl_f fl_bias fl_codes fl_signBit fl_endless), (a_ce, oX0 a_fl a_va a_ceT a_ceS a_ceH a_ceG a_ceV), (a_ceT, .inl (cI, 5, .inl ceT_r)), (a_ceS, .inl (cI, 20, .inl ceS_r)), (a_ceH, .inl (cI, 50, .inl ceH_r)), (a_ceG, .inl (cI, 320, .inl ceG_r)), (a_ceV, .inl (cI, 320, .inl ceV_r)), (a_st, oX5 a_fl a_va a_stT a_stB), (a_stT, .inl (cI, 25, .inl stT_r)), (a_stB, .inl (cI, 800, .inl stB_r)), (a_li, oX2 a_fl a_va a_liD a_liF a_liA a_liB li_parts li_s li_least li_greatest)] → va_S A s.heap H locs → lv_has ls 3 [(0, .ref a_hb)] → W p l e R s m args below meth c H locs 0 0 Q (F0 m 28 ls []) := by
    intro hbR_r fl_e fl_f fl_bias fl_codes fl_signBit fl_endless ceT_r ceS_r ceH_r ceG_r ceV_r stT_r stB_r li_parts H locs ls ho hP hD hS hl
    unfold wp_X7_make_28 at ho
    refine lv_aload_n hx hb dX7_make_28 rfl (lv_at hl 0 rfl) ?_
    refine lv_bipush (v := (-6)) hx hb dX7_make_29 (by decide) ?_
    refine ca_Wi (b := a_hb) (As := [.int (-6 : Int32)]) (rest := []) (wr := [(a_fl, oX1 fl_e fl_f fl_bias fl_codes fl_signBit fl_endless), (a_ce, oX0 a_fl a_va a_ceT a_ceS a_ceH a_ceG a_ceV), (a_ceT, .inl (cI, 5, .inl ceT_r)), (a_ceS, .inl (cI, 20, .inl ceS_r)), (a_ceH, .inl (cI, 50, .inl ceH_r)), (a_ceG, .inl (cI, 320, .inl ceG_r)), (a_ceV, .inl (cI, 320, .inl ceV_r)), (a_st, oX5 a_fl a_va a_stT a_stB), (a_stT, .inl (cI, 25, .inl stT_r)), (a_stB, .inl (cI, 800, .inl stB_r)), (a_li, oX2 a_fl a_va a_liD a_liF a_liA a_liB li_parts li_s li_least li_greatest)]) (wo := fun u => [(a_hb, oX7 a_fl a_pl a_va a_ce a_st a_li a_hbR), (a_hbR, .inl (cI, 7, .inl u))]) (wn := fun u => [(a_hb, oX7 a_fl a_pl a_va a_ce a_st a_li a_hbR), (a_hbR, .inl (cI, 7, .inl u)), (a_fl, oX1 fl_e fl_f fl_bias fl_codes fl_signBit fl_endless), (a_ce, oX0 a_fl a_va a_ceT a_ceS a_ceH a_ceG a_ceV), (a_ceT, .inl (cI, 5, .inl ceT_r)), (a_ceS, .inl (cI, 20, .inl ceS_r)), (a_ceH, .inl (cI, 50, .inl ceH_r)), (a_ceG, .inl (cI, 320, .inl ceG_r)), (a_ceV, .inl (cI, 320, .inl ceV_r)), (a_st, oX5 a_fl a_va a_stT a_stB), (a_stT, .inl (cI, 25, .inl stT_r)), (a_stB, .inl (cI, 800, .inl stB_r)), (a_li, oX2 a_fl a_va a_liD a_liF a_liA a_liB li_parts li_s li_least li_greatest)]) ⟨hx, hb, hml, hown, hts⟩ (c_X7_refuse l D cI cJ cZ a_hb a_hbR a_fl a_pl a_va a_ce a_st a_li H.size hbR_r (-6 : Int32) _ _ rfl ho) (cwV 1 hts gX7_make_X7_refuse rfl rfl rfl (by decide +kernel) ⟨hRf _ (Nat.le_of_ble_eq_true rfl), hRl _ (Nat.le_of_ble_eq_true rfl)⟩) hK hN hP hD hS hA [0, 1] [2, 3, 4, 5, 6, 7, 8, 9, 10, 11, 12] [11, 12, 0, 1, 2, 3, 4, 5, 6, 7, 8, 9, 10] rfl rfl (by decide) (by decide) (by decide) (by decide) (fun _ => rfl) 0 6 rfl rfl rfl rfl hl.1 rfl (Nat.le_of_ble_eq_true rfl) dX7_make_31 ⟨Nat.zero_le _, Nat.zero_le _⟩ (fun r31 u31 H locs ho hP hD hS => ?_)
    try dsimp only at ho
    replace hP : va_P D vwCl [(a_hb, oX7 a_fl a_pl a_va a_ce a_st a_li a_hbR), (a_hbR, .inl (cI, 7, .inl u31)), (a_fl, oX1 fl_e fl_f fl_bias fl_codes fl_signBit fl_endless), (a_ce, oX0 a_fl a_va a_ceT a_ceS a_ceH a_ceG a_ceV), (a_ceT, .inl (cI, 5, .inl ceT_r)), (a_ceS, .inl (cI, 20, .inl ceS_r)), (a_ceH, .inl (cI, 50, .inl ceH_r)), (a_ceG, .inl (cI, 320, .inl ceG_r)), (a_ceV, .inl (cI, 320, .inl ceV_r)), (a_st, oX5 a_fl a_va a_stT a_stB), (a_stT, .inl (cI, 25, .inl stT_r)), (a_stB, .inl (cI, 800, .inl stB_r)), (a_li, oX2 a_fl a_va a_liD a_liF a_liA a_liB li_parts li_s li_least li_greatest)] H := hP
    replace hD : va_D A [(a_hb, oX7 a_fl a_pl a_va a_ce a_st a_li a_hbR), (a_hbR, .inl (cI, 7, .inl u31)), (a_fl, oX1 fl_e fl_f fl_bias fl_codes fl_signBit fl_endless), (a_ce, oX0 a_fl a_va a_ceT a_ceS a_ceH a_ceG a_ceV), (a_ceT, .inl (cI, 5, .inl ceT_r)), (a_ceS, .inl (cI, 20, .inl ceS_r)), (a_ceH, .inl (cI, 50, .inl ceH_r)), (a_ceG, .inl (cI, 320, .inl ceG_r)), (a_ceV, .inl (cI, 320, .inl ceV_r)), (a_st, oX5 a_fl a_va a_stT a_stB), (a_stT, .inl (cI, 25, .inl stT_r)), (a_stB, .inl (cI, 800, .inl stB_r)), (a_li, oX2 a_fl a_va a_liD a_liF a_liA a_liB li_parts li_s li_least li_greatest)] := hD
    subst hQ; exact W.iret (v := r31) hx hb hr (fun t ht hW => ⟨⟨r31, (u31, fl_e, fl_f, fl_bias, fl_codes, fl_signBit, fl_endless, ceT_r, ceS_r, ceH_r, ceG_r, ceV_r, stT_r, stB_r, li_parts), rfl, ho, by rw [ht]; exact hP, hD⟩, hS.F ht⟩) (fun q hq => hS.2.2 q hq) dX7_make_34
  have C_10 : ∀ (hbR_r : Nat → Int32) (fl_e : Int32) (fl_f : Int32) (fl_bias : Int32) (fl_codes : Int32) (fl_signBit : Int32) (fl_endless : Int32) (ceT_r : Nat → Int32) (ceS_r : Nat → Int32) (ceH_r : Nat → Int32) (ceG_r : Nat → Int32) (ceV_r : Nat → Int32) (stT_r : Nat → Int32) (stB_r : Nat → Int32) (li_parts : Int32) (H : Heap) (locs : List Loc) (ls : Array Slot), wp_X7_make_10 post  hbR_r fl_e fl_f fl_bias fl_codes fl_signBit fl_endless ceT_r ceS_r ceH_r ceG_r ceV_r stT_r stB_r li_parts → va_P D vwCl [(a_hb, oX7 a_fl a_pl a_va a_ce a_st a_li a_hbR), (a_hbR, .inl (cI, 7, .inl hbR_r)), (a_fl, oX1 fl_e fl_f fl_bias fl_codes fl_signBit fl_endless), (a_ce, oX0 a_fl a_va a_ceT a_ceS a_ceH a_ceG a_ceV), (a_ceT, .inl (cI, 5, .inl ceT_r)), (a_ceS, .inl (cI, 20, .inl ceS_r)), (a_ceH, .inl (cI, 50, .inl ceH_r)), (a_ceG, .inl (cI, 320, .inl ceG_r)), (a_ceV, .inl (cI, 320, .inl ceV_r)), (a_st, oX5 a_fl a_va a_stT a_stB), (a_stT, .inl (cI, 25, .inl stT_r)), (a_stB, .inl (cI, 800, .inl stB_r)), (a_li, oX2 a_fl a_va a_liD a_liF a_liA a_liB li_parts li_s li_least li_greatest)] H → va_D A [(a_hb, oX7 a_fl a_pl a_va a_ce a_st a_li a_hbR), (a_hbR, .inl (cI, 7, .inl hbR_r)), (a_fl, oX1 fl_e fl_f fl_bias fl_codes fl_signBit fl_endless), (a_ce, oX0 a_fl a_va a_ceT a_ceS a_ceH a_ceG a_ceV), (a_ceT, .inl (cI, 5, .inl ceT_r)), (a_ceS, .inl (cI, 20, .inl ceS_r)), (a_ceH, .inl (cI, 50, .inl ceH_r)), (a_ceG, .inl (cI, 320, .inl ceG_r)), (a_ceV, .inl (cI, 320, .inl ceV_r)), (a_st, oX5 a_fl a_va a_stT a_stB), (a_stT, .inl (cI, 25, .inl stT_r)), (a_stB, .inl (cI, 800, .inl stB_r)), (a_li, oX2 a_fl a_va a_liD a_liF a_liA a_liB li_parts li_s li_least li_greatest)] → va_S A s.heap H locs → lv_has ls 3 [(0, .ref a_hb)] → W p l e R s m args below meth c H locs 0 0 Q (F0 m 10 ls []) := by
    intro hbR_r fl_e fl_f fl_bias fl_codes fl_signBit fl_endless ceT_r ceS_r ceH_r ceG_r ceV_r stT_r stB_r li_parts H locs ls ho hP hD hS hl
    unfold wp_X7_make_10 at ho
    refine lv_aload_n hx hb dX7_make_10 rfl (lv_at hl 0 rfl) ?_
    refine lv_bipush (v := (-4)) hx hb dX7_make_11 (by decide) ?_
    refine ca_Wi (b := a_hb) (As := [.int (-4 : Int32)]) (rest := []) (wr := [(a_fl, oX1 fl_e fl_f fl_bias fl_codes fl_signBit fl_endless), (a_ce, oX0 a_fl a_va a_ceT a_ceS a_ceH a_ceG a_ceV), (a_ceT, .inl (cI, 5, .inl ceT_r)), (a_ceS, .inl (cI, 20, .inl ceS_r)), (a_ceH, .inl (cI, 50, .inl ceH_r)), (a_ceG, .inl (cI, 320, .inl ceG_r)), (a_ceV, .inl (cI, 320, .inl ceV_r)), (a_st, oX5 a_fl a_va a_stT a_stB), (a_stT, .inl (cI, 25, .inl stT_r)), (a_stB, .inl (cI, 800, .inl stB_r)), (a_li, oX2 a_fl a_va a_liD a_liF a_liA a_liB li_parts li_s li_least li_greatest)]) (wo := fun u => [(a_hb, oX7 a_fl a_pl a_va a_ce a_st a_li a_hbR), (a_hbR, .inl (cI, 7, .inl u))]) (wn := fun u => [(a_hb, oX7 a_fl a_pl a_va a_ce a_st a_li a_hbR), (a_hbR, .inl (cI, 7, .inl u)), (a_fl, oX1 fl_e fl_f fl_bias fl_codes fl_signBit fl_endless), (a_ce, oX0 a_fl a_va a_ceT a_ceS a_ceH a_ceG a_ceV), (a_ceT, .inl (cI, 5, .inl ceT_r)), (a_ceS, .inl (cI, 20, .inl ceS_r)), (a_ceH, .inl (cI, 50, .inl ceH_r)), (a_ceG, .inl (cI, 320, .inl ceG_r)), (a_ceV, .inl (cI, 320, .inl ceV_r)), (a_st, oX5 a_fl a_va a_stT a_stB), (a_stT, .inl (cI, 25, .inl stT_r)), (a_stB, .inl (cI, 800, .inl stB_r)), (a_li, oX2 a_fl a_va a_liD a_liF a_liA a_liB li_parts li_s li_least li_greatest)]) ⟨hx, hb, hml, hown, hts⟩ (c_X7_refuse l D cI cJ cZ a_hb a_hbR a_fl a_pl a_va a_ce a_st a_li H.size hbR_r (-4 : Int32) _ _ rfl ho) (cwV 1 hts gX7_make_X7_refuse rfl rfl rfl (by decide +kernel) ⟨hRf _ (Nat.le_of_ble_eq_true rfl), hRl _ (Nat.le_of_ble_eq_true rfl)⟩) hK hN hP hD hS hA [0, 1] [2, 3, 4, 5, 6, 7, 8, 9, 10, 11, 12] [11, 12, 0, 1, 2, 3, 4, 5, 6, 7, 8, 9, 10] rfl rfl (by decide) (by decide) (by decide) (by decide) (fun _ => rfl) 0 6 rfl rfl rfl rfl hl.1 rfl (Nat.le_of_ble_eq_true rfl) dX7_make_13 ⟨Nat.zero_le _, Nat.zero_le _⟩ (fun r13 u13 H locs ho hP hD hS => ?_)
    try dsimp only at ho
    replace hP : va_P D vwCl [(a_hb, oX7 a_fl a_pl a_va a_ce a_st a_li a_hbR), (a_hbR, .inl (cI, 7, .inl u13)), (a_fl, oX1 fl_e fl_f fl_bias fl_codes fl_signBit fl_endless), (a_ce, oX0 a_fl a_va a_ceT a_ceS a_ceH a_ceG a_ceV), (a_ceT, .inl (cI, 5, .inl ceT_r)), (a_ceS, .inl (cI, 20, .inl ceS_r)), (a_ceH, .inl (cI, 50, .inl ceH_r)), (a_ceG, .inl (cI, 320, .inl ceG_r)), (a_ceV, .inl (cI, 320, .inl ceV_r)), (a_st, oX5 a_fl a_va a_stT a_stB), (a_stT, .inl (cI, 25, .inl stT_r)), (a_stB, .inl (cI, 800, .inl stB_r)), (a_li, oX2 a_fl a_va a_liD a_liF a_liA a_liB li_parts li_s li_least li_greatest)] H := hP
    replace hD : va_D A [(a_hb, oX7 a_fl a_pl a_va a_ce a_st a_li a_hbR), (a_hbR, .inl (cI, 7, .inl u13)), (a_fl, oX1 fl_e fl_f fl_bias fl_codes fl_signBit fl_endless), (a_ce, oX0 a_fl a_va a_ceT a_ceS a_ceH a_ceG a_ceV), (a_ceT, .inl (cI, 5, .inl ceT_r)), (a_ceS, .inl (cI, 20, .inl ceS_r)), (a_ceH, .inl (cI, 50, .inl ceH_r)), (a_ceG, .inl (cI, 320, .inl ceG_r)), (a_ceV, .inl (cI, 320, .inl ceV_r)), (a_st, oX5 a_fl a_va a_stT a_stB), (a_stT, .inl (cI, 25, .inl stT_r)), (a_stB, .inl (cI, 800, .inl stB_r)), (a_li, oX2 a_fl a_va a_liD a_liF a_liA a_liB li_parts li_s li_least li_greatest)] := hD
    subst hQ; exact W.iret (v := r13) hx hb hr (fun t ht hW => ⟨⟨r13, (u13, fl_e, fl_f, fl_bias, fl_codes, fl_signBit, fl_endless, ceT_r, ceS_r, ceH_r, ceG_r, ceV_r, stT_r, stB_r, li_parts), rfl, ho, by rw [ht]; exact hP, hD⟩, hS.F ht⟩) (fun q hq => hS.2.2 q hq) dX7_make_16
  unfold wp_X7_make at ho
  refine lv_iload_n hx hb dX7_make_0 rfl (lv_at hl 1 rfl) ?_
  refine lv_iconst (v := 2) hx hb dX7_make_1 (by decide) ?_
  refine lv_icmp_lt (tgt := 10) hx hb dX7_make_2 (by decide) (fun c_2 => ?_) (fun c_2 => ?_)
  · replace ho := ho.1 c_2
    exact C_10 hbR_r fl_e fl_f fl_bias fl_codes fl_signBit fl_endless ceT_r ceS_r ceH_r ceG_r ceV_r stT_r stB_r li_parts H locs ls ho hP hD hS (lv_sub hl [0] rfl)
  · replace ho := ho.2 c_2
    refine lv_iload_n hx hb dX7_make_5 rfl (lv_at hl 2 rfl) ?_
    refine lv_iconst (v := 1) hx hb dX7_make_6 (by decide) ?_
    refine lv_icmp_ge (tgt := 17) hx hb dX7_make_7 (by decide) (fun c_7 => ?_) (fun c_7 => ?_)
    · replace ho := ho.1 c_7
      refine lv_iload_n hx hb dX7_make_17 rfl (lv_at hl 1 rfl) ?_
      refine lv_iconst (v := 5) hx hb dX7_make_18 (by decide) ?_
      refine lv_icmp_gt (tgt := 28) hx hb dX7_make_19 (by decide) (fun c_19 => ?_) (fun c_19 => ?_)
      · replace ho := ho.1 c_19
        exact C_28 hbR_r fl_e fl_f fl_bias fl_codes fl_signBit fl_endless ceT_r ceS_r ceH_r ceG_r ceV_r stT_r stB_r li_parts H locs ls ho hP hD hS (lv_sub hl [0] rfl)
      · replace ho := ho.2 c_19
        refine lv_iload_n hx hb dX7_make_22 rfl (lv_at hl 2 rfl) ?_
        refine lv_bipush (v := 8) hx hb dX7_make_23 (by decide) ?_
        refine lv_icmp_le (tgt := 35) hx hb dX7_make_25 (by decide) (fun c_25 => ?_) (fun c_25 => ?_)
        · replace ho := ho.1 c_25
          refine lv_iload_n hx hb dX7_make_35 rfl (lv_at hl 1 rfl) ?_
          refine lv_aload_n hx hb dX7_make_36 rfl (lv_at hl 0 rfl) ?_
          refine va_get (D := D) (ci := 6) (v := .ref a_fl) (C := RX7) (T := TX7) (N := 7) hx hb hts in_X7_make_X7 hown hK hP 0 rfl rfl 0 (by decide) (hts (.fieldLink RX7 12 "HardBench" "floats" "LHardBench$Floats;") (List.mem_of_getElem? (i := 1) (by decide +kernel))) (fun _ h9 => h9) rfl dX7_make_37 ?_
          refine va_getN (D := D) (ci := 1) (v := .int fl_e) (C := RX1) (T := TX1) (N := 6) hx hb hts in_X7_make_X1 hown hK hP 2 rfl rfl 0 (by decide) hN.fRX7_63 (fun _ h9 => h9) rfl dX7_make_40 ?_
          refine lv_icmp_ne (tgt := 57) hx hb dX7_make_43 (by decide) (fun c_43 => ?_) (fun c_43 => ?_)
          · replace ho := ho.1 c_43
            exact C_57 hbR_r fl_e fl_f fl_bias fl_codes fl_signBit fl_endless ceT_r ceS_r ceH_r ceG_r ceV_r stT_r stB_r li_parts H locs ls ho hP hD hS (lv_sub hl [0, 1, 2] rfl)
          · replace ho := ho.2 c_43
            refine lv_iload_n hx hb dX7_make_46 rfl (lv_at hl 2 rfl) ?_
            refine lv_aload_n hx hb dX7_make_47 rfl (lv_at hl 0 rfl) ?_
            refine va_get (D := D) (ci := 6) (v := .ref a_fl) (C := RX7) (T := TX7) (N := 7) hx hb hts in_X7_make_X7 hown hK hP 0 rfl rfl 0 (by decide) (hts (.fieldLink RX7 12 "HardBench" "floats" "LHardBench$Floats;") (List.mem_of_getElem? (i := 1) (by decide +kernel))) (fun _ h9 => h9) rfl dX7_make_48 ?_
            refine va_getN (D := D) (ci := 1) (v := .int fl_f) (C := RX1) (T := TX1) (N := 6) hx hb hts in_X7_make_X1 hown hK hP 2 rfl rfl 1 (by decide) hN.fRX7_67 (fun _ h9 => h9) rfl dX7_make_51 ?_
            refine lv_icmp_eq (tgt := 80) hx hb dX7_make_54 (by decide) (fun c_54 => ?_) (fun c_54 => ?_)
            · replace ho := ho.1 c_54
              exact C_80 hbR_r fl_e fl_f fl_bias fl_codes fl_signBit fl_endless ceT_r ceS_r ceH_r ceG_r ceV_r stT_r stB_r li_parts H locs ls ho hP hD hS (lv_sub hl [0] rfl)
            · replace ho := ho.2 c_54
              exact C_57 hbR_r fl_e fl_f fl_bias fl_codes fl_signBit fl_endless ceT_r ceS_r ceH_r ceG_r ceV_r stT_r stB_r li_parts H locs ls ho hP hD hS (lv_sub hl [0, 1, 2] rfl)
        · replace ho := ho.2 c_25
          exact C_28 hbR_r fl_e fl_f fl_bias fl_codes fl_signBit fl_endless ceT_r ceS_r ceH_r ceG_r ceV_r stT_r stB_r li_parts H locs ls ho hP hD hS (lv_sub hl [0] rfl)
    · replace ho := ho.2 c_7
      exact C_10 hbR_r fl_e fl_f fl_bias fl_codes fl_signBit fl_endless ceT_r ceS_r ceH_r ceG_r ceV_r stT_r stB_r li_parts H locs ls ho hP hD hS (lv_sub hl [0] rfl)

def wp_X7_refuseAsTold (post : Int32 → (Nat → Int32) → Prop) (hbR_r : Nat → Int32) (p1 : Int32) : Prop := wp_X7_refuse (fun r4 u4 => (post ((1000000000 : Int32) - r4) u4)) hbR_r p1
set_option maxHeartbeats 4000000 in
set_option maxRecDepth 100000 in
theorem c_X7_refuseAsTold (l : Launch) (D : va_G) (cI cJ cZ : ClassId) (a_hb : Nat) (a_hbR : Nat) (a_fl : Nat) (a_pl : Nat) (a_va : Nat) (a_ce : Nat) (a_st : Nat) (a_li : Nat) (sz : Nat) (hbR_r : Nat → Int32) (p1 : Int32) (post : Int32 → (Nat → Int32) → Prop) (A : Nat → Prop) (hAe : A = va_A [(a_hb, oX7 a_fl a_pl a_va a_ce a_st a_li a_hbR), (a_hbR, .inl (cI, 7, .inl hbR_r))] sz) (ho : wp_X7_refuseAsTold post hbR_r p1) : Met l yX7_refuseAsTold wsX7_refuseAsTold ({ frames := 3, cells := 0, slots := 0, locals := 64 } : Room) (rw_P D [(cI, .int), (cJ, .long), (cZ, .boolean)] [.ref a_hb, .int p1] sz [(a_hb, oX7 a_fl a_pl a_va a_ce a_st a_li a_hbR), (a_hbR, .inl (cI, 7, .inl hbR_r))]) (va_Qi (fun (r : Int32) (u : (Nat → Int32)) => post r u) (rw_B D A (fun (u : (Nat → Int32)) => [(a_hb, oX7 a_fl a_pl a_va a_ce a_st a_li a_hbR), (a_hbR, .inl (cI, 7, .inl u))])) A) 0 0 A := by
  refine Met.ofW (cc := cX7_refuseAsTold) (maxL := 2) (ret := (some .int)) (by decide) rfl ?_
  intro p e s m args below meth c s₁ B hml hv
  obtain ⟨hargs, hsz, hP, hK, hN, hD0⟩ := hv
  have hx := B.exec
  have hb := B.bytes
  have hr := B.returns
  have hts := atoms_spec (ws := wsX7_refuseAsTold) B.pre
  have hown : s.vm.findClass RX7 = some m.cls := findClass_of_methodNamed B.named
  have hlocks := B.notSynchronized
  subst hsz
  have hD : va_D A [(a_hb, oX7 a_fl a_pl a_va a_ce a_st a_li a_hbR), (a_hbR, .inl (cI, 7, .inl hbR_r))] := by rw [hAe]; exact hD0.self
  have hA : ∀ q : Nat, s.heap.size ≤ q → A q := fun q h => by rw [hAe]; exact Or.inr h
  have hS : va_S A s.heap s.heap [] := va_S.rf
  have hl := lv_entry ([.ref a_hb, .int p1]) (n := 2) (Nat.le_of_ble_eq_true rfl)
  rw [hargs, lg_entry_eq, ← hargs]
  generalize (lg_sl ([.ref a_hb, .int p1]) ++ List.replicate (2 - (lg_sl ([.ref a_hb, .int p1])).length) Slot.unset).toArray = ls at hl ⊢
  replace hl : lv_has ls 2 [(0, .ref a_hb), (1, .int p1)] := hl
  have hRf : ∀ n, n ≤ 3 → n ≤ (headSpec wsX7_refuseAsTold ({ frames := 3, cells := 0, slots := 0, locals := 64 } : Room)).room.frames := fun n h => h
  have hRl : ∀ n, n ≤ 64 → n ≤ (headSpec wsX7_refuseAsTold ({ frames := 3, cells := 0, slots := 0, locals := 64 } : Room)).room.locals := fun n h => h
  generalize (headSpec wsX7_refuseAsTold ({ frames := 3, cells := 0, slots := 0, locals := 64 } : Room)).room = R at hRf hRl ⊢
  generalize hQ : MQ below _ args s 0 0 _ = Q
  unfold wp_X7_refuseAsTold at ho
  refine lv_ldc hx hb hown (hts (.constant RX7 214 (1000000000)) (List.mem_of_getElem? (i := 1) (by decide +kernel))) dX7_refuseAsTold_0 ?_
  refine lv_aload_n hx hb dX7_refuseAsTold_2 rfl (lv_at hl 0 rfl) ?_
  refine lv_iload_n hx hb dX7_refuseAsTold_3 rfl (lv_at hl 1 rfl) ?_
  refine ca_Wi (b := a_hb) (As := [.int p1]) (rest := [.int (1000000000 : Int32)]) (wr := []) (wo := fun u => [(a_hb, oX7 a_fl a_pl a_va a_ce a_st a_li a_hbR), (a_hbR, .inl (cI, 7, .inl u))]) (wn := fun u => [(a_hb, oX7 a_fl a_pl a_va a_ce a_st a_li a_hbR), (a_hbR, .inl (cI, 7, .inl u))]) ⟨hx, hb, hml, hown, hts⟩ (c_X7_refuse l D cI cJ cZ a_hb a_hbR a_fl a_pl a_va a_ce a_st a_li H.size hbR_r p1 _ _ rfl ho) (cwV 1 hts gX7_refuseAsTold_X7_refuse rfl rfl rfl (by decide +kernel) ⟨hRf _ (Nat.le_of_ble_eq_true rfl), hRl _ (Nat.le_of_ble_eq_true rfl)⟩) hK hN hP hD hS hA [0, 1] [] [0, 1] rfl rfl (by decide) (by decide) (by decide) (by decide) (fun _ => rfl) 0 6 rfl rfl rfl rfl hl.1 rfl (Nat.le_of_ble_eq_true rfl) dX7_refuseAsTold_4 ⟨Nat.zero_le _, Nat.zero_le _⟩ (fun r4 u4 H locs ho hP hD hS => ?_)
  try dsimp only at ho
  replace hP : va_P D vwCl [(a_hb, oX7 a_fl a_pl a_va a_ce a_st a_li a_hbR), (a_hbR, .inl (cI, 7, .inl u4))] H := hP
  replace hD : va_D A [(a_hb, oX7 a_fl a_pl a_va a_ce a_st a_li a_hbR), (a_hbR, .inl (cI, 7, .inl u4))] := hD
  refine lv_isub hx hb dX7_refuseAsTold_7 ?_
  subst hQ; exact W.iret (v := ((1000000000 : Int32) - r4)) hx hb hr (fun t ht hW => ⟨⟨((1000000000 : Int32) - r4), u4, rfl, ho, by rw [ht]; exact hP, hD⟩, hS.F ht⟩) (fun q hq => hS.2.2 q hq) dX7_refuseAsTold_8

def wp_X7_about_56 (post : Int32 → (Nat → Int32) → Prop)  (hbR_r : Nat → Int32) (fl_f : Int32) (fl_bias : Int32) (fl_signBit : Int32) (fl_endless : Int32) (p1 : Int32) (p2 : Int32) : Prop := ((p2 = (0 : Int32)) → (wp_X1_kindOf (fun r97 => (post r97 hbR_r)) fl_signBit fl_endless p1)) ∧ ((¬ (p2 = (0 : Int32))) → (((p2 = (1 : Int32)) → (wp_X1_isBelow (fun r106 => (((r106 = 0) → (post (0 : Int32) hbR_r)) ∧ ((¬ (r106 = 0)) → (post (1 : Int32) hbR_r)))) fl_signBit p1)) ∧ ((¬ (p2 = (1 : Int32))) → (((p2 = (2 : Int32)) → (wp_X1_powerBits (fun r123 => (post r123 hbR_r)) fl_f fl_signBit p1)) ∧ ((¬ (p2 = (2 : Int32))) → (((p2 = (3 : Int32)) → (wp_X1_figureBits (fun r132 => (post r132 hbR_r)) fl_f p1)) ∧ ((¬ (p2 = (3 : Int32))) → (((p2 = (4 : Int32)) → (wp_X1_oddFactor (fun r141 => (post r141 hbR_r)) fl_f fl_signBit p1)) ∧ ((¬ (p2 = (4 : Int32))) → (wp_X1_powerOfOddFactor (fun r150 => (post r150 hbR_r)) fl_f fl_bias fl_signBit p1))))))))))
def wp_X7_about_26 (post : Int32 → (Nat → Int32) → Prop)  (hbR_r : Nat → Int32) : Prop := wp_X7_refuseAsTold (fun r29 u29 => (post r29 u29)) hbR_r (-2 : Int32)
def wp_X7_about (post : Int32 → (Nat → Int32) → Prop) (hbR_r : Nat → Int32) (fl_f : Int32) (fl_bias : Int32) (fl_codes : Int32) (fl_signBit : Int32) (fl_endless : Int32) (p1 : Int32) (p2 : Int32) : Prop := wp_X1_isCode (fun r5 => (((¬ r5 = 0) → (((p2 < 0) → (wp_X7_about_26 post hbR_r)) ∧ ((¬ (p2 < 0)) → (((p2 ≤ (5 : Int32)) → (((p2 < (4 : Int32)) → (wp_X7_about_56 post hbR_r fl_f fl_bias fl_signBit fl_endless p1 p2)) ∧ ((¬ (p2 < (4 : Int32))) → (wp_X1_isPlain (fun r43 => (((¬ r43 = 0) → (wp_X7_about_56 post hbR_r fl_f fl_bias fl_signBit fl_endless p1 p2)) ∧ ((¬ (¬ r43 = 0)) → (wp_X7_refuseAsTold (fun r52 u52 => (post r52 u52)) hbR_r (-3 : Int32))))) fl_signBit fl_endless p1)))) ∧ ((¬ (p2 ≤ (5 : Int32))) → (wp_X7_about_26 post hbR_r)))))) ∧ ((¬ (¬ r5 = 0)) → (wp_X7_refuseAsTold (fun r13 u13 => (post r13 u13)) hbR_r (-1 : Int32))))) fl_codes p1
set_option maxRecDepth 20000 in
theorem in_X7_about_X7 : ∀ w ∈ u_ws RX7 TX7 7, w ∈ wsX7_about := fun w h => (goodIn_r wsX70 [97, 98, 99, 100, 101, 102, 103] (by decide +kernel) (by decide +kernel) w h).1
set_option maxHeartbeats 4000000 in
set_option maxRecDepth 100000 in
theorem c_X7_about (l : Launch) (D : va_G) (cI cJ cZ : ClassId) (a_hb : Nat) (a_hbR : Nat) (a_fl : Nat) (a_pl : Nat) (a_va : Nat) (a_ce : Nat) (a_st : Nat) (a_li : Nat) (sz : Nat) (hbR_r : Nat → Int32) (fl_e : Int32) (fl_f : Int32) (fl_bias : Int32) (fl_codes : Int32) (fl_signBit : Int32) (fl_endless : Int32) (p1 : Int32) (p2 : Int32) (post : Int32 → (Nat → Int32) → Prop) (A : Nat → Prop) (hAe : A = va_A [(a_hb, oX7 a_fl a_pl a_va a_ce a_st a_li a_hbR), (a_hbR, .inl (cI, 7, .inl hbR_r)), (a_fl, oX1 fl_e fl_f fl_bias fl_codes fl_signBit fl_endless)] sz) (ho : wp_X7_about post hbR_r fl_f fl_bias fl_codes fl_signBit fl_endless p1 p2) : Met l yX7_about wsX7_about ({ frames := 4, cells := 0, slots := 0, locals := 85 } : Room) (rw_P D [(cI, .int), (cJ, .long), (cZ, .boolean)] [.ref a_hb, .int p1, .int p2] sz [(a_hb, oX7 a_fl a_pl a_va a_ce a_st a_li a_hbR), (a_hbR, .inl (cI, 7, .inl hbR_r)), (a_fl, oX1 fl_e fl_f fl_bias fl_codes fl_signBit fl_endless)]) (va_Qi (fun (r : Int32) (u : (Nat → Int32)) => post r u) (rw_B D A (fun (u : (Nat → Int32)) => [(a_hb, oX7 a_fl a_pl a_va a_ce a_st a_li a_hbR), (a_hbR, .inl (cI, 7, .inl u)), (a_fl, oX1 fl_e fl_f fl_bias fl_codes fl_signBit fl_endless)])) A) 0 0 A := by
  refine Met.ofW (cc := cX7_about) (maxL := 3) (ret := (some .int)) (by decide) rfl ?_
  intro p e s m args below meth c s₁ B hml hv
  obtain ⟨hargs, hsz, hP, hK, hN, hD0⟩ := hv
  have hx := B.exec
  have hb := B.bytes
  have hr := B.returns
  have hts := atoms_spec (ws := wsX7_about) B.pre
  have hown : s.vm.findClass RX7 = some m.cls := findClass_of_methodNamed B.named
  have hlocks := B.notSynchronized
  subst hsz
  have hD : va_D A [(a_hb, oX7 a_fl a_pl a_va a_ce a_st a_li a_hbR), (a_hbR, .inl (cI, 7, .inl hbR_r)), (a_fl, oX1 fl_e fl_f fl_bias fl_codes fl_signBit fl_endless)] := by rw [hAe]; exact hD0.self
  have hA : ∀ q : Nat, s.heap.size ≤ q → A q := fun q h => by rw [hAe]; exact Or.inr h
  have hS : va_S A s.heap s.heap [] := va_S.rf
  have hl := lv_entry ([.ref a_hb, .int p1, .int p2]) (n := 3) (Nat.le_of_ble_eq_true rfl)
  rw [hargs, lg_entry_eq, ← hargs]
  generalize (lg_sl ([.ref a_hb, .int p1, .int p2]) ++ List.replicate (3 - (lg_sl ([.ref a_hb, .int p1, .int p2])).length) Slot.unset).toArray = ls at hl ⊢
  replace hl : lv_has ls 3 [(0, .ref a_hb), (1, .int p1), (2, .int p2)] := hl
  have hRf : ∀ n, n ≤ 4 → n ≤ (headSpec wsX7_about ({ frames := 4, cells := 0, slots := 0, locals := 85 } : Room)).room.frames := fun n h => h
  have hRl : ∀ n, n ≤ 85 → n ≤ (headSpec wsX7_about ({ frames := 4, cells := 0, slots := 0, locals := 85 } : Room)).room.locals := fun n h => h
  generalize (headSpec wsX7_about ({ frames := 4, cells := 0, slots := 0, locals := 85 } : Room)).room = R at hRf hRl ⊢
  generalize hQ : MQ below _ args s 0 0 _ = Q
  have C_56 : ∀ (hbR_r : Nat → Int32) (H : Heap) (locs : List Loc) (ls : Array Slot), wp_X7_about_56 post  hbR_r fl_f fl_bias fl_signBit fl_endless p1 p2 → va_P D vwCl [(a_hb, oX7 a_fl a_pl a_va a_ce a_st a_li a_hbR), (a_hbR, .inl (cI, 7, .inl hbR_r)), (a_fl, oX1 fl_e fl_f fl_bias fl_codes fl_signBit fl_endless)] H → va_D A [(a_hb, oX7 a_fl a_pl a_va a_ce a_st a_li a_hbR), (a_hbR, .inl (cI, 7, .inl hbR_r)), (a_fl, oX1 fl_e fl_f fl_bias fl_codes fl_signBit fl_endless)] → va_S A s.heap H locs → lv_has ls 3 [(0, .ref a_hb), (1, .int p1), (2, .int p2)] → W p l e R s m args below meth c H locs 0 0 Q (F0 m 56 ls []) := by
    intro hbR_r H locs ls ho hP hD hS hl
    unfold wp_X7_about_56 at ho
    refine lv_iload_n hx hb dX7_about_56 rfl (lv_at hl 2 rfl) ?_
    refine lv_topi (fun z_57 ez_57 => ?_)
    rw [← ez_57] at ho
    by_cases n_57_0 : z_57 = 0
    · replace ho := ho.1 n_57_0
      subst n_57_0
      refine lv_tableIn (tgt := 92) hx hb dX7_about_57 (by decide) (by decide) rfl (by decide) ?_
      refine lv_aload_n hx hb dX7_about_92 rfl (lv_at hl 0 rfl) ?_
      refine va_get (D := D) (ci := 6) (v := .ref a_fl) (C := RX7) (T := TX7) (N := 7) hx hb hts in_X7_about_X7 hown hK hP 0 rfl rfl 0 (by decide) (hts (.fieldLink RX7 12 "HardBench" "floats" "LHardBench$Floats;") (List.mem_of_getElem? (i := 1) (by decide +kernel))) (fun _ h9 => h9) rfl dX7_about_93 ?_
      refine lv_iload_n hx hb dX7_about_96 rfl (lv_at hl 1 rfl) ?_
      refine ca_Vi (b := a_fl) (As := [.int p1]) (rest := []) ⟨hx, hb, hml, hown, hts⟩ (c_X1_kindOf l D cI cJ cZ a_fl fl_e fl_f fl_bias fl_codes fl_signBit fl_endless p1 _ ho) (cwV 1 hts gX7_about_X1_kindOf rfl rfl rfl (by decide +kernel) ⟨hRf _ (Nat.le_of_ble_eq_true rfl), hRl _ (Nat.le_of_ble_eq_true rfl)⟩) hK hN hP [2] rfl 0 1 rfl rfl rfl rfl hl.1 rfl (Nat.le_of_ble_eq_true rfl) dX7_about_97 ⟨Nat.zero_le _, Nat.zero_le _⟩ (fun r97 ho => ?_)
      subst hQ; exact W.iret (v := r97) hx hb hr (fun t ht hW => ⟨⟨r97, hbR_r, rfl, ho, by rw [ht]; exact hP, hD⟩, hS.F ht⟩) (fun q hq => hS.2.2 q hq) dX7_about_100
    replace ho := ho.2 n_57_0
    by_cases n_57_1 : z_57 = 1
    · replace ho := ho.1 n_57_1
      subst n_57_1
      refine lv_tableIn (tgt := 101) hx hb dX7_about_57 (by decide) (by decide) rfl (by decide) ?_
      refine lv_aload_n hx hb dX7_about_101 rfl (lv_at hl 0 rfl) ?_
      refine va_get (D := D) (ci := 6) (v := .ref a_fl) (C := RX7) (T := TX7) (N := 7) hx hb hts in_X7_about_X7 hown hK hP 0 rfl rfl 0 (by decide) (hts (.fieldLink RX7 12 "HardBench" "floats" "LHardBench$Floats;") (List.mem_of_getElem? (i := 1) (by decide +kernel))) (fun _ h9 => h9) rfl dX7_about_102 ?_
      refine lv_iload_n hx hb dX7_about_105 rfl (lv_at hl 1 rfl) ?_
      refine ca_Vi (b := a_fl) (As := [.int p1]) (rest := []) ⟨hx, hb, hml, hown, hts⟩ (c_X1_isBelow l D cI cJ cZ a_fl fl_e fl_f fl_bias fl_codes fl_signBit fl_endless p1 _ ho) (cwV 1 hts gX7_about_X1_isBelow rfl rfl rfl (by decide +kernel) ⟨hRf _ (Nat.le_of_ble_eq_true rfl), hRl _ (Nat.le_of_ble_eq_true rfl)⟩) hK hN hP [2] rfl 0 1 rfl rfl rfl rfl hl.1 rfl (Nat.le_of_ble_eq_true rfl) dX7_about_106 ⟨Nat.zero_le _, Nat.zero_le _⟩ (fun r106 ho => ?_)
      refine lv_if_eq (tgt := 116) hx hb dX7_about_109 (by decide) (fun c_109 => ?_) (fun c_109 => ?_)
      · replace ho := ho.1 c_109
        refine lv_iconst (v := 0) hx hb dX7_about_116 (by decide) ?_
        subst hQ; exact W.iret (v := (0 : Int32)) hx hb hr (fun t ht hW => ⟨⟨(0 : Int32), hbR_r, rfl, ho, by rw [ht]; exact hP, hD⟩, hS.F ht⟩) (fun q hq => hS.2.2 q hq) dX7_about_117
      · replace ho := ho.2 c_109
        refine lv_iconst (v := 1) hx hb dX7_about_112 (by decide) ?_
        refine lv_goto (tgt := 117) hx hb dX7_about_113 (by decide) ?_
        subst hQ; exact W.iret (v := (1 : Int32)) hx hb hr (fun t ht hW => ⟨⟨(1 : Int32), hbR_r, rfl, ho, by rw [ht]; exact hP, hD⟩, hS.F ht⟩) (fun q hq => hS.2.2 q hq) dX7_about_117
    replace ho := ho.2 n_57_1
    by_cases n_57_2 : z_57 = 2
    · replace ho := ho.1 n_57_2
      subst n_57_2
      refine lv_tableIn (tgt := 118) hx hb dX7_about_57 (by decide) (by decide) rfl (by decide) ?_
      refine lv_aload_n hx hb dX7_about_118 rfl (lv_at hl 0 rfl) ?_
      refine va_get (D := D) (ci := 6) (v := .ref a_fl) (C := RX7) (T := TX7) (N := 7) hx hb hts in_X7_about_X7 hown hK hP 0 rfl rfl 0 (by decide) (hts (.fieldLink RX7 12 "HardBench" "floats" "LHardBench$Floats;") (List.mem_of_getElem? (i := 1) (by decide +kernel))) (fun _ h9 => h9) rfl dX7_about_119 ?_
      refine lv_iload_n hx hb dX7_about_122 rfl (lv_at hl 1 rfl) ?_
      refine ca_Vi (b := a_fl) (As := [.int p1]) (rest := []) ⟨hx, hb, hml, hown, hts⟩ (c_X1_powerBits l D cI cJ cZ a_fl fl_e fl_f fl_bias fl_codes fl_signBit fl_endless p1 _ ho) (cwV 1 hts gX7_about_X1_powerBits rfl rfl rfl (by decide +kernel) ⟨hRf _ (Nat.le_of_ble_eq_true rfl), hRl _ (Nat.le_of_ble_eq_true rfl)⟩) hK hN hP [2] rfl 0 1 rfl rfl rfl rfl hl.1 rfl (Nat.le_of_ble_eq_true rfl) dX7_about_123 ⟨Nat.zero_le _, Nat.zero_le _⟩ (fun r123 ho => ?_)
      subst hQ; exact W.iret (v := r123) hx hb hr (fun t ht hW => ⟨⟨r123, hbR_r, rfl, ho, by rw [ht]; exact hP, hD⟩, hS.F ht⟩) (fun q hq => hS.2.2 q hq) dX7_about_126
    replace ho := ho.2 n_57_2
    by_cases n_57_3 : z_57 = 3
    · replace ho := ho.1 n_57_3
      subst n_57_3
      refine lv_tableIn (tgt := 127) hx hb dX7_about_57 (by decide) (by decide) rfl (by decide) ?_
      refine lv_aload_n hx hb dX7_about_127 rfl (lv_at hl 0 rfl) ?_
      refine va_get (D := D) (ci := 6) (v := .ref a_fl) (C := RX7) (T := TX7) (N := 7) hx hb hts in_X7_about_X7 hown hK hP 0 rfl rfl 0 (by decide) (hts (.fieldLink RX7 12 "HardBench" "floats" "LHardBench$Floats;") (List.mem_of_getElem? (i := 1) (by decide +kernel))) (fun _ h9 => h9) rfl dX7_about_128 ?_
      refine lv_iload_n hx hb dX7_about_131 rfl (lv_at hl 1 rfl) ?_
      refine ca_Vi (b := a_fl) (As := [.int p1]) (rest := []) ⟨hx, hb, hml, hown, hts⟩ (c_X1_figureBits l D cI cJ cZ a_fl fl_e fl_f fl_bias fl_codes fl_signBit fl_endless p1 _ ho) (cwV 1 hts gX7_about_X1_figureBits rfl rfl rfl (by decide +kernel) ⟨hRf _ (Nat.le_of_ble_eq_true rfl), hRl _ (Nat.le_of_ble_eq_true rfl)⟩) hK hN hP [2] rfl 0 1 rfl rfl rfl rfl hl.1 rfl (Nat.le_of_ble_eq_true rfl) dX7_about_132 ⟨Nat.zero_le _, Nat.zero_le _⟩ (fun r132 ho => ?_)
      subst hQ; exact W.iret (v := r132) hx hb hr (fun t ht hW => ⟨⟨r132, hbR_r, rfl, ho, by rw [ht]; exact hP, hD⟩, hS.F ht⟩) (fun q hq => hS.2.2 q hq) dX7_about_135
    replace ho := ho.2 n_57_3
    by_cases n_57_4 : z_57 = 4
    · replace ho := ho.1 n_57_4
      subst n_57_4
      refine lv_tableIn (tgt := 136) hx hb dX7_about_57 (by decide) (by decide) rfl (by decide) ?_
      refine lv_aload_n hx hb dX7_about_136 rfl (lv_at hl 0 rfl) ?_
      refine va_get (D := D) (ci := 6) (v := .ref a_fl) (C := RX7) (T := TX7) (N := 7) hx hb hts in_X7_about_X7 hown hK hP 0 rfl rfl 0 (by decide) (hts (.fieldLink RX7 12 "HardBench" "floats" "LHardBench$Floats;") (List.mem_of_getElem? (i := 1) (by decide +kernel))) (fun _ h9 => h9) rfl dX7_about_137 ?_
      refine lv_iload_n hx hb dX7_about_140 rfl (lv_at hl 1 rfl) ?_
      refine ca_Vi (b := a_fl) (As := [.int p1]) (rest := []) ⟨hx, hb, hml, hown, hts⟩ (c_X1_oddFactor l D cI cJ cZ a_fl fl_e fl_f fl_bias fl_codes fl_signBit fl_endless p1 _ ho) (cwV 1 hts gX7_about_X1_oddFactor rfl rfl rfl (by decide +kernel) ⟨hRf _ (Nat.le_of_ble_eq_true rfl), hRl _ (Nat.le_of_ble_eq_true rfl)⟩) hK hN hP [2] rfl 0 1 rfl rfl rfl rfl hl.1 rfl (Nat.le_of_ble_eq_true rfl) dX7_about_141 ⟨Nat.zero_le _, Nat.zero_le _⟩ (fun r141 ho => ?_)
      subst hQ; exact W.iret (v := r141) hx hb hr (fun t ht hW => ⟨⟨r141, hbR_r, rfl, ho, by rw [ht]; exact hP, hD⟩, hS.F ht⟩) (fun q hq => hS.2.2 q hq) dX7_about_144
    replace ho := ho.2 n_57_4
    refine lv_tableOut (tgt := 145) hx hb dX7_about_57 (by have q_57_0 := lv_neT (a := 0) n_57_0 rfl; have q_57_1 := lv_neT (a := 1) n_57_1 rfl; have q_57_2 := lv_neT (a := 2) n_57_2 rfl; have q_57_3 := lv_neT (a := 3) n_57_3 rfl; have q_57_4 := lv_neT (a := 4) n_57_4 rfl; omega) (by decide) ?_
    refine lv_aload_n hx hb dX7_about_145 rfl (lv_at hl 0 rfl) ?_
    refine va_get (D := D) (ci := 6) (v := .ref a_fl) (C := RX7) (T := TX7) (N := 7) hx hb hts in_X7_about_X7 hown hK hP 0 rfl rfl 0 (by decide) (hts (.fieldLink RX7 12 "HardBench" "floats" "LHardBench$Floats;") (List.mem_of_getElem? (i := 1) (by decide +kernel))) (fun _ h9 => h9) rfl dX7_about_146 ?_
    refine lv_iload_n hx hb dX7_about_149 rfl (lv_at hl 1 rfl) ?_
    refine ca_Vi (b := a_fl) (As := [.int p1]) (rest := []) ⟨hx, hb, hml, hown, hts⟩ (c_X1_powerOfOddFactor l D cI cJ cZ a_fl fl_e fl_f fl_bias fl_codes fl_signBit fl_endless p1 _ ho) (cwV 1 hts gX7_about_X1_powerOfOddFactor rfl rfl rfl (by decide +kernel) ⟨hRf _ (Nat.le_of_ble_eq_true rfl), hRl _ (Nat.le_of_ble_eq_true rfl)⟩) hK hN hP [2] rfl 0 1 rfl rfl rfl rfl hl.1 rfl (Nat.le_of_ble_eq_true rfl) dX7_about_150 ⟨Nat.zero_le _, Nat.zero_le _⟩ (fun r150 ho => ?_)
    subst hQ; exact W.iret (v := r150) hx hb hr (fun t ht hW => ⟨⟨r150, hbR_r, rfl, ho, by rw [ht]; exact hP, hD⟩, hS.F ht⟩) (fun q hq => hS.2.2 q hq) dX7_about_153
  have C_26 : ∀ (hbR_r : Nat → Int32) (H : Heap) (locs : List Loc) (ls : Array Slot), wp_X7_about_26 post  hbR_r → va_P D vwCl [(a_hb, oX7 a_fl a_pl a_va a_ce a_st a_li a_hbR), (a_hbR, .inl (cI, 7, .inl hbR_r)), (a_fl, oX1 fl_e fl_f fl_bias fl_codes fl_signBit fl_endless)] H → va_D A [(a_hb, oX7 a_fl a_pl a_va a_ce a_st a_li a_hbR), (a_hbR, .inl (cI, 7, .inl hbR_r)), (a_fl, oX1 fl_e fl_f fl_bias fl_codes fl_signBit fl_endless)] → va_S A s.heap H locs → lv_has ls 3 [(0, .ref a_hb)] → W p l e R s m args below meth c H locs 0 0 Q (F0 m 26 ls []) := by
    intro hbR_r H locs ls ho hP hD hS hl
    unfold wp_X7_about_26 at ho
    refine lv_aload_n hx hb dX7_about_26 rfl (lv_at hl 0 rfl) ?_
    refine lv_bipush (v := (-2)) hx hb dX7_about_27 (by decide) ?_
    refine ca_Wi (b := a_hb) (As := [.int (-2 : Int32)]) (rest := []) (wr := [(a_fl, oX1 fl_e fl_f fl_bias fl_codes fl_signBit fl_endless)]) (wo := fun u => [(a_hb, oX7 a_fl a_pl a_va a_ce a_st a_li a_hbR), (a_hbR, .inl (cI, 7, .inl u))]) (wn := fun u => [(a_hb, oX7 a_fl a_pl a_va a_ce a_st a_li a_hbR), (a_hbR, .inl (cI, 7, .inl u)), (a_fl, oX1 fl_e fl_f fl_bias fl_codes fl_signBit fl_endless)]) ⟨hx, hb, hml, hown, hts⟩ (c_X7_refuseAsTold l D cI cJ cZ a_hb a_hbR a_fl a_pl a_va a_ce a_st a_li H.size hbR_r (-2 : Int32) _ _ rfl ho) (cwV 1 hts gX7_about_X7_refuseAsTold rfl rfl rfl (by decide +kernel) ⟨hRf _ (Nat.le_of_ble_eq_true rfl), hRl _ (Nat.le_of_ble_eq_true rfl)⟩) hK hN hP hD hS hA [0, 1] [2] [1, 2, 0] rfl rfl (by decide) (by decide) (by decide) (by decide) (fun _ => rfl) 0 6 rfl rfl rfl rfl hl.1 rfl (Nat.le_of_ble_eq_true rfl) dX7_about_29 ⟨Nat.zero_le _, Nat.zero_le _⟩ (fun r29 u29 H locs ho hP hD hS => ?_)
    try dsimp only at ho
    replace hP : va_P D vwCl [(a_hb, oX7 a_fl a_pl a_va a_ce a_st a_li a_hbR), (a_hbR, .inl (cI, 7, .inl u29)), (a_fl, oX1 fl_e fl_f fl_bias fl_codes fl_signBit fl_endless)] H := hP
    replace hD : va_D A [(a_hb, oX7 a_fl a_pl a_va a_ce a_st a_li a_hbR), (a_hbR, .inl (cI, 7, .inl u29)), (a_fl, oX1 fl_e fl_f fl_bias fl_codes fl_signBit fl_endless)] := hD
    subst hQ; exact W.iret (v := r29) hx hb hr (fun t ht hW => ⟨⟨r29, u29, rfl, ho, by rw [ht]; exact hP, hD⟩, hS.F ht⟩) (fun q hq => hS.2.2 q hq) dX7_about_32
  unfold wp_X7_about at ho
  refine lv_aload_n hx hb dX7_about_0 rfl (lv_at hl 0 rfl) ?_
  refine va_get (D := D) (ci := 6) (v := .ref a_fl) (C := RX7) (T := TX7) (N := 7) hx hb hts in_X7_about_X7 hown hK hP 0 rfl rfl 0 (by decide) (hts (.fieldLink RX7 12 "HardBench" "floats" "LHardBench$Floats;") (List.mem_of_getElem? (i := 1) (by decide +kernel))) (fun _ h9 => h9) rfl dX7_about_1 ?_
  refine lv_iload_n hx hb dX7_about_4 rfl (lv_at hl 1 rfl) ?_
  refine ca_Vi (b := a_fl) (As := [.int p1]) (rest := []) ⟨hx, hb, hml, hown, hts⟩ (c_X1_isCode l D cI cJ cZ a_fl fl_e fl_f fl_bias fl_codes fl_signBit fl_endless p1 _ ho) (cwV 1 hts gX7_about_X1_isCode rfl rfl rfl (by decide +kernel) ⟨hRf _ (Nat.le_of_ble_eq_true rfl), hRl _ (Nat.le_of_ble_eq_true rfl)⟩) hK hN hP [2] rfl 0 1 rfl rfl rfl rfl hl.1 rfl (Nat.le_of_ble_eq_true rfl) dX7_about_5 ⟨Nat.zero_le _, Nat.zero_le _⟩ (fun r5 ho => ?_)
  refine lv_if_ne (tgt := 17) hx hb dX7_about_8 (by decide) (fun c_8 => ?_) (fun c_8 => ?_)
  · replace ho := ho.1 c_8
    refine lv_iload_n hx hb dX7_about_17 rfl (lv_at hl 2 rfl) ?_
    refine lv_if_lt (tgt := 26) hx hb dX7_about_18 (by decide) (fun c_18 => ?_) (fun c_18 => ?_)
    · replace ho := ho.1 c_18
      exact C_26 hbR_r H locs ls ho hP hD hS (lv_sub hl [0] rfl)
    · replace ho := ho.2 c_18
      refine lv_iload_n hx hb dX7_about_21 rfl (lv_at hl 2 rfl) ?_
      refine lv_iconst (v := 5) hx hb dX7_about_22 (by decide) ?_
      refine lv_icmp_le (tgt := 33) hx hb dX7_about_23 (by decide) (fun c_23 => ?_) (fun c_23 => ?_)
      · replace ho := ho.1 c_23
        refine lv_iload_n hx hb dX7_about_33 rfl (lv_at hl 2 rfl) ?_
        refine lv_iconst (v := 4) hx hb dX7_about_34 (by decide) ?_
        refine lv_icmp_lt (tgt := 56) hx hb dX7_about_35 (by decide) (fun c_35 => ?_) (fun c_35 => ?_)
        · replace ho := ho.1 c_35
          exact C_56 hbR_r H locs ls ho hP hD hS (lv_sub hl [0, 1, 2] rfl)
        · replace ho := ho.2 c_35
          refine lv_aload_n hx hb dX7_about_38 rfl (lv_at hl 0 rfl) ?_
          refine va_get (D := D) (ci := 6) (v := .ref a_fl) (C := RX7) (T := TX7) (N := 7) hx hb hts in_X7_about_X7 hown hK hP 0 rfl rfl 0 (by decide) (hts (.fieldLink RX7 12 "HardBench" "floats" "LHardBench$Floats;") (List.mem_of_getElem? (i := 1) (by decide +kernel))) (fun _ h9 => h9) rfl dX7_about_39 ?_
          refine lv_iload_n hx hb dX7_about_42 rfl (lv_at hl 1 rfl) ?_
          refine ca_Vi (b := a_fl) (As := [.int p1]) (rest := []) ⟨hx, hb, hml, hown, hts⟩ (c_X1_isPlain l D cI cJ cZ a_fl fl_e fl_f fl_bias fl_codes fl_signBit fl_endless p1 _ ho) (cwV 1 hts gX7_about_X1_isPlain rfl rfl rfl (by decide +kernel) ⟨hRf _ (Nat.le_of_ble_eq_true rfl), hRl _ (Nat.le_of_ble_eq_true rfl)⟩) hK hN hP [2] rfl 0 1 rfl rfl rfl rfl hl.1 rfl (Nat.le_of_ble_eq_true rfl) dX7_about_43 ⟨Nat.zero_le _, Nat.zero_le _⟩ (fun r43 ho => ?_)
          refine lv_if_ne (tgt := 56) hx hb dX7_about_46 (by decide) (fun c_46 => ?_) (fun c_46 => ?_)
          · replace ho := ho.1 c_46
            exact C_56 hbR_r H locs ls ho hP hD hS (lv_sub hl [0, 1, 2] rfl)
          · replace ho := ho.2 c_46
            refine lv_aload_n hx hb dX7_about_49 rfl (lv_at hl 0 rfl) ?_
            refine lv_bipush (v := (-3)) hx hb dX7_about_50 (by decide) ?_
            refine ca_Wi (b := a_hb) (As := [.int (-3 : Int32)]) (rest := []) (wr := [(a_fl, oX1 fl_e fl_f fl_bias fl_codes fl_signBit fl_endless)]) (wo := fun u => [(a_hb, oX7 a_fl a_pl a_va a_ce a_st a_li a_hbR), (a_hbR, .inl (cI, 7, .inl u))]) (wn := fun u => [(a_hb, oX7 a_fl a_pl a_va a_ce a_st a_li a_hbR), (a_hbR, .inl (cI, 7, .inl u)), (a_fl, oX1 fl_e fl_f fl_bias fl_codes fl_signBit fl_endless)]) ⟨hx, hb, hml, hown, hts⟩ (c_X7_refuseAsTold l D cI cJ cZ a_hb a_hbR a_fl a_pl a_va a_ce a_st a_li H.size hbR_r (-3 : Int32) _ _ rfl ho) (cwV 1 hts gX7_about_X7_refuseAsTold rfl rfl rfl (by decide +kernel) ⟨hRf _ (Nat.le_of_ble_eq_true rfl), hRl _ (Nat.le_of_ble_eq_true rfl)⟩) hK hN hP hD hS hA [0, 1] [2] [1, 2, 0] rfl rfl (by decide) (by decide) (by decide) (by decide) (fun _ => rfl) 0 6 rfl rfl rfl rfl hl.1 rfl (Nat.le_of_ble_eq_true rfl) dX7_about_52 ⟨Nat.zero_le _, Nat.zero_le _⟩ (fun r52 u52 H locs ho hP hD hS => ?_)
            try dsimp only at ho
            replace hP : va_P D vwCl [(a_hb, oX7 a_fl a_pl a_va a_ce a_st a_li a_hbR), (a_hbR, .inl (cI, 7, .inl u52)), (a_fl, oX1 fl_e fl_f fl_bias fl_codes fl_signBit fl_endless)] H := hP
            replace hD : va_D A [(a_hb, oX7 a_fl a_pl a_va a_ce a_st a_li a_hbR), (a_hbR, .inl (cI, 7, .inl u52)), (a_fl, oX1 fl_e fl_f fl_bias fl_codes fl_signBit fl_endless)] := hD
            subst hQ; exact W.iret (v := r52) hx hb hr (fun t ht hW => ⟨⟨r52, u52, rfl, ho, by rw [ht]; exact hP, hD⟩, hS.F ht⟩) (fun q hq => hS.2.2 q hq) dX7_about_55
      · replace ho := ho.2 c_23
        exact C_26 hbR_r H locs ls ho hP hD hS (lv_sub hl [0] rfl)
  · replace ho := ho.2 c_8
    refine lv_aload_n hx hb dX7_about_11 rfl (lv_at hl 0 rfl) ?_
    refine lv_iconst (v := (-1)) hx hb dX7_about_12 (by decide) ?_
    refine ca_Wi (b := a_hb) (As := [.int (-1 : Int32)]) (rest := []) (wr := [(a_fl, oX1 fl_e fl_f fl_bias fl_codes fl_signBit fl_endless)]) (wo := fun u => [(a_hb, oX7 a_fl a_pl a_va a_ce a_st a_li a_hbR), (a_hbR, .inl (cI, 7, .inl u))]) (wn := fun u => [(a_hb, oX7 a_fl a_pl a_va a_ce a_st a_li a_hbR), (a_hbR, .inl (cI, 7, .inl u)), (a_fl, oX1 fl_e fl_f fl_bias fl_codes fl_signBit fl_endless)]) ⟨hx, hb, hml, hown, hts⟩ (c_X7_refuseAsTold l D cI cJ cZ a_hb a_hbR a_fl a_pl a_va a_ce a_st a_li H.size hbR_r (-1 : Int32) _ _ rfl ho) (cwV 1 hts gX7_about_X7_refuseAsTold rfl rfl rfl (by decide +kernel) ⟨hRf _ (Nat.le_of_ble_eq_true rfl), hRl _ (Nat.le_of_ble_eq_true rfl)⟩) hK hN hP hD hS hA [0, 1] [2] [1, 2, 0] rfl rfl (by decide) (by decide) (by decide) (by decide) (fun _ => rfl) 0 6 rfl rfl rfl rfl hl.1 rfl (Nat.le_of_ble_eq_true rfl) dX7_about_13 ⟨Nat.zero_le _, Nat.zero_le _⟩ (fun r13 u13 H locs ho hP hD hS => ?_)
    try dsimp only at ho
    replace hP : va_P D vwCl [(a_hb, oX7 a_fl a_pl a_va a_ce a_st a_li a_hbR), (a_hbR, .inl (cI, 7, .inl u13)), (a_fl, oX1 fl_e fl_f fl_bias fl_codes fl_signBit fl_endless)] H := hP
    replace hD : va_D A [(a_hb, oX7 a_fl a_pl a_va a_ce a_st a_li a_hbR), (a_hbR, .inl (cI, 7, .inl u13)), (a_fl, oX1 fl_e fl_f fl_bias fl_codes fl_signBit fl_endless)] := hD
    subst hQ; exact W.iret (v := r13) hx hb hr (fun t ht hW => ⟨⟨r13, u13, rfl, ho, by rw [ht]; exact hP, hD⟩, hS.F ht⟩) (fun q hq => hS.2.2 q hq) dX7_about_16

def wp_X7_next (post : Int32 → (Nat → Int32) → Prop) (hbR_r : Nat → Int32) (fl_codes : Int32) (fl_signBit : Int32) (fl_endless : Int32) (p1 : Int32) : Prop := wp_X1_isCode (fun r5 => (((¬ r5 = 0) → (wp_X1_isPlain (fun r22 => (((¬ r22 = 0) → (wp_X1_codeAbove (fun r40 => (post r40 hbR_r)) fl_signBit p1)) ∧ ((¬ (¬ r22 = 0)) → (wp_X7_refuse (fun r31 u31 => (post r31 u31)) hbR_r (-3 : Int32))))) fl_signBit fl_endless p1)) ∧ ((¬ (¬ r5 = 0)) → (wp_X7_refuse (fun r13 u13 => (post r13 u13)) hbR_r (-1 : Int32))))) fl_codes p1
set_option maxRecDepth 20000 in
theorem in_X7_next_X7 : ∀ w ∈ u_ws RX7 TX7 7, w ∈ wsX7_next := fun w h => (goodIn_r wsX70 [46, 47, 48, 49, 50, 51, 52] (by decide +kernel) (by decide +kernel) w h).1
set_option maxHeartbeats 4000000 in
set_option maxRecDepth 100000 in
theorem c_X7_next (l : Launch) (D : va_G) (cI cJ cZ : ClassId) (a_hb : Nat) (a_hbR : Nat) (a_fl : Nat) (a_pl : Nat) (a_va : Nat) (a_ce : Nat) (a_st : Nat) (a_li : Nat) (sz : Nat) (hbR_r : Nat → Int32) (fl_e : Int32) (fl_f : Int32) (fl_bias : Int32) (fl_codes : Int32) (fl_signBit : Int32) (fl_endless : Int32) (p1 : Int32) (post : Int32 → (Nat → Int32) → Prop) (A : Nat → Prop) (hAe : A = va_A [(a_hb, oX7 a_fl a_pl a_va a_ce a_st a_li a_hbR), (a_hbR, .inl (cI, 7, .inl hbR_r)), (a_fl, oX1 fl_e fl_f fl_bias fl_codes fl_signBit fl_endless)] sz) (ho : wp_X7_next post hbR_r fl_codes fl_signBit fl_endless p1) : Met l yX7_next wsX7_next ({ frames := 3, cells := 0, slots := 0, locals := 64 } : Room) (rw_P D [(cI, .int), (cJ, .long), (cZ, .boolean)] [.ref a_hb, .int p1] sz [(a_hb, oX7 a_fl a_pl a_va a_ce a_st a_li a_hbR), (a_hbR, .inl (cI, 7, .inl hbR_r)), (a_fl, oX1 fl_e fl_f fl_bias fl_codes fl_signBit fl_endless)]) (va_Qi (fun (r : Int32) (u : (Nat → Int32)) => post r u) (rw_B D A (fun (u : (Nat → Int32)) => [(a_hb, oX7 a_fl a_pl a_va a_ce a_st a_li a_hbR), (a_hbR, .inl (cI, 7, .inl u)), (a_fl, oX1 fl_e fl_f fl_bias fl_codes fl_signBit fl_endless)])) A) 0 0 A := by
  refine Met.ofW (cc := cX7_next) (maxL := 2) (ret := (some .int)) (by decide) rfl ?_
  intro p e s m args below meth c s₁ B hml hv
  obtain ⟨hargs, hsz, hP, hK, hN, hD0⟩ := hv
  have hx := B.exec
  have hb := B.bytes
  have hr := B.returns
  have hts := atoms_spec (ws := wsX7_next) B.pre
  have hown : s.vm.findClass RX7 = some m.cls := findClass_of_methodNamed B.named
  have hlocks := B.notSynchronized
  subst hsz
  have hD : va_D A [(a_hb, oX7 a_fl a_pl a_va a_ce a_st a_li a_hbR), (a_hbR, .inl (cI, 7, .inl hbR_r)), (a_fl, oX1 fl_e fl_f fl_bias fl_codes fl_signBit fl_endless)] := by rw [hAe]; exact hD0.self
  have hA : ∀ q : Nat, s.heap.size ≤ q → A q := fun q h => by rw [hAe]; exact Or.inr h
  have hS : va_S A s.heap s.heap [] := va_S.rf
  have hl := lv_entry ([.ref a_hb, .int p1]) (n := 2) (Nat.le_of_ble_eq_true rfl)
  rw [hargs, lg_entry_eq, ← hargs]
  generalize (lg_sl ([.ref a_hb, .int p1]) ++ List.replicate (2 - (lg_sl ([.ref a_hb, .int p1])).length) Slot.unset).toArray = ls at hl ⊢
  replace hl : lv_has ls 2 [(0, .ref a_hb), (1, .int p1)] := hl
  have hRf : ∀ n, n ≤ 3 → n ≤ (headSpec wsX7_next ({ frames := 3, cells := 0, slots := 0, locals := 64 } : Room)).room.frames := fun n h => h
  have hRl : ∀ n, n ≤ 64 → n ≤ (headSpec wsX7_next ({ frames := 3, cells := 0, slots := 0, locals := 64 } : Room)).room.locals := fun n h => h
  generalize (headSpec wsX7_next ({ frames := 3, cells := 0, slots := 0, locals := 64 } : Room)).room = R at hRf hRl ⊢
  generalize hQ : MQ below _ args s 0 0 _ = Q
  unfold wp_X7_next at ho
  refine lv_aload_n hx hb dX7_next_0 rfl (lv_at hl 0 rfl) ?_
  refine va_get (D := D) (ci := 6) (v := .ref a_fl) (C := RX7) (T := TX7) (N := 7) hx hb hts in_X7_next_X7 hown hK hP 0 rfl rfl 0 (by decide) (hts (.fieldLink RX7 12 "HardBench" "floats" "LHardBench$Floats;") (List.mem_of_getElem? (i := 1) (by decide +kernel))) (fun _ h9 => h9) rfl dX7_next_1 ?_
  refine lv_iload_n hx hb dX7_next_4 rfl (lv_at hl 1 rfl) ?_
  refine ca_Vi (b := a_fl) (As := [.int p1]) (rest := []) ⟨hx, hb, hml, hown, hts⟩ (c_X1_isCode l D cI cJ cZ a_fl fl_e fl_f fl_bias fl_codes fl_signBit fl_endless p1 _ ho) (cwV 1 hts gX7_next_X1_isCode rfl rfl rfl (by decide +kernel) ⟨hRf _ (Nat.le_of_ble_eq_true rfl), hRl _ (Nat.le_of_ble_eq_true rfl)⟩) hK hN hP [2] rfl 0 1 rfl rfl rfl rfl hl.1 rfl (Nat.le_of_ble_eq_true rfl) dX7_next_5 ⟨Nat.zero_le _, Nat.zero_le _⟩ (fun r5 ho => ?_)
  refine lv_if_ne (tgt := 17) hx hb dX7_next_8 (by decide) (fun c_8 => ?_) (fun c_8 => ?_)
  · replace ho := ho.1 c_8
    refine lv_aload_n hx hb dX7_next_17 rfl (lv_at hl 0 rfl) ?_
    refine va_get (D := D) (ci := 6) (v := .ref a_fl) (C := RX7) (T := TX7) (N := 7) hx hb hts in_X7_next_X7 hown hK hP 0 rfl rfl 0 (by decide) (hts (.fieldLink RX7 12 "HardBench" "floats" "LHardBench$Floats;") (List.mem_of_getElem? (i := 1) (by decide +kernel))) (fun _ h9 => h9) rfl dX7_next_18 ?_
    refine lv_iload_n hx hb dX7_next_21 rfl (lv_at hl 1 rfl) ?_
    refine ca_Vi (b := a_fl) (As := [.int p1]) (rest := []) ⟨hx, hb, hml, hown, hts⟩ (c_X1_isPlain l D cI cJ cZ a_fl fl_e fl_f fl_bias fl_codes fl_signBit fl_endless p1 _ ho) (cwV 1 hts gX7_next_X1_isPlain rfl rfl rfl (by decide +kernel) ⟨hRf _ (Nat.le_of_ble_eq_true rfl), hRl _ (Nat.le_of_ble_eq_true rfl)⟩) hK hN hP [2] rfl 0 1 rfl rfl rfl rfl hl.1 rfl (Nat.le_of_ble_eq_true rfl) dX7_next_22 ⟨Nat.zero_le _, Nat.zero_le _⟩ (fun r22 ho => ?_)
    refine lv_if_ne (tgt := 35) hx hb dX7_next_25 (by decide) (fun c_25 => ?_) (fun c_25 => ?_)
    · replace ho := ho.1 c_25
      refine lv_aload_n hx hb dX7_next_35 rfl (lv_at hl 0 rfl) ?_
      refine va_get (D := D) (ci := 6) (v := .ref a_fl) (C := RX7) (T := TX7) (N := 7) hx hb hts in_X7_next_X7 hown hK hP 0 rfl rfl 0 (by decide) (hts (.fieldLink RX7 12 "HardBench" "floats" "LHardBench$Floats;") (List.mem_of_getElem? (i := 1) (by decide +kernel))) (fun _ h9 => h9) rfl dX7_next_36 ?_
      refine lv_iload_n hx hb dX7_next_39 rfl (lv_at hl 1 rfl) ?_
      refine ca_Vi (b := a_fl) (As := [.int p1]) (rest := []) ⟨hx, hb, hml, hown, hts⟩ (c_X1_codeAbove l D cI cJ cZ a_fl fl_e fl_f fl_bias fl_codes fl_signBit fl_endless p1 _ ho) (cwV 1 hts gX7_next_X1_codeAbove rfl rfl rfl (by decide +kernel) ⟨hRf _ (Nat.le_of_ble_eq_true rfl), hRl _ (Nat.le_of_ble_eq_true rfl)⟩) hK hN hP [2] rfl 0 1 rfl rfl rfl rfl hl.1 rfl (Nat.le_of_ble_eq_true rfl) dX7_next_40 ⟨Nat.zero_le _, Nat.zero_le _⟩ (fun r40 ho => ?_)
      subst hQ; exact W.iret (v := r40) hx hb hr (fun t ht hW => ⟨⟨r40, hbR_r, rfl, ho, by rw [ht]; exact hP, hD⟩, hS.F ht⟩) (fun q hq => hS.2.2 q hq) dX7_next_43
    · replace ho := ho.2 c_25
      refine lv_aload_n hx hb dX7_next_28 rfl (lv_at hl 0 rfl) ?_
      refine lv_bipush (v := (-3)) hx hb dX7_next_29 (by decide) ?_
      refine ca_Wi (b := a_hb) (As := [.int (-3 : Int32)]) (rest := []) (wr := [(a_fl, oX1 fl_e fl_f fl_bias fl_codes fl_signBit fl_endless)]) (wo := fun u => [(a_hb, oX7 a_fl a_pl a_va a_ce a_st a_li a_hbR), (a_hbR, .inl (cI, 7, .inl u))]) (wn := fun u => [(a_hb, oX7 a_fl a_pl a_va a_ce a_st a_li a_hbR), (a_hbR, .inl (cI, 7, .inl u)), (a_fl, oX1 fl_e fl_f fl_bias fl_codes fl_signBit fl_endless)]) ⟨hx, hb, hml, hown, hts⟩ (c_X7_refuse l D cI cJ cZ a_hb a_hbR a_fl a_pl a_va a_ce a_st a_li H.size hbR_r (-3 : Int32) _ _ rfl ho) (cwV 1 hts gX7_next_X7_refuse rfl rfl rfl (by decide +kernel) ⟨hRf _ (Nat.le_of_ble_eq_true rfl), hRl _ (Nat.le_of_ble_eq_true rfl)⟩) hK hN hP hD hS hA [0, 1] [2] [1, 2, 0] rfl rfl (by decide) (by decide) (by decide) (by decide) (fun _ => rfl) 0 6 rfl rfl rfl rfl hl.1 rfl (Nat.le_of_ble_eq_true rfl) dX7_next_31 ⟨Nat.zero_le _, Nat.zero_le _⟩ (fun r31 u31 H locs ho hP hD hS => ?_)
      try dsimp only at ho
      replace hP : va_P D vwCl [(a_hb, oX7 a_fl a_pl a_va a_ce a_st a_li a_hbR), (a_hbR, .inl (cI, 7, .inl u31)), (a_fl, oX1 fl_e fl_f fl_bias fl_codes fl_signBit fl_endless)] H := hP
      replace hD : va_D A [(a_hb, oX7 a_fl a_pl a_va a_ce a_st a_li a_hbR), (a_hbR, .inl (cI, 7, .inl u31)), (a_fl, oX1 fl_e fl_f fl_bias fl_codes fl_signBit fl_endless)] := hD
      subst hQ; exact W.iret (v := r31) hx hb hr (fun t ht hW => ⟨⟨r31, u31, rfl, ho, by rw [ht]; exact hP, hD⟩, hS.F ht⟩) (fun q hq => hS.2.2 q hq) dX7_next_34
  · replace ho := ho.2 c_8
    refine lv_aload_n hx hb dX7_next_11 rfl (lv_at hl 0 rfl) ?_
    refine lv_iconst (v := (-1)) hx hb dX7_next_12 (by decide) ?_
    refine ca_Wi (b := a_hb) (As := [.int (-1 : Int32)]) (rest := []) (wr := [(a_fl, oX1 fl_e fl_f fl_bias fl_codes fl_signBit fl_endless)]) (wo := fun u => [(a_hb, oX7 a_fl a_pl a_va a_ce a_st a_li a_hbR), (a_hbR, .inl (cI, 7, .inl u))]) (wn := fun u => [(a_hb, oX7 a_fl a_pl a_va a_ce a_st a_li a_hbR), (a_hbR, .inl (cI, 7, .inl u)), (a_fl, oX1 fl_e fl_f fl_bias fl_codes fl_signBit fl_endless)]) ⟨hx, hb, hml, hown, hts⟩ (c_X7_refuse l D cI cJ cZ a_hb a_hbR a_fl a_pl a_va a_ce a_st a_li H.size hbR_r (-1 : Int32) _ _ rfl ho) (cwV 1 hts gX7_next_X7_refuse rfl rfl rfl (by decide +kernel) ⟨hRf _ (Nat.le_of_ble_eq_true rfl), hRl _ (Nat.le_of_ble_eq_true rfl)⟩) hK hN hP hD hS hA [0, 1] [2] [1, 2, 0] rfl rfl (by decide) (by decide) (by decide) (by decide) (fun _ => rfl) 0 6 rfl rfl rfl rfl hl.1 rfl (Nat.le_of_ble_eq_true rfl) dX7_next_13 ⟨Nat.zero_le _, Nat.zero_le _⟩ (fun r13 u13 H locs ho hP hD hS => ?_)
    try dsimp only at ho
    replace hP : va_P D vwCl [(a_hb, oX7 a_fl a_pl a_va a_ce a_st a_li a_hbR), (a_hbR, .inl (cI, 7, .inl u13)), (a_fl, oX1 fl_e fl_f fl_bias fl_codes fl_signBit fl_endless)] H := hP
    replace hD : va_D A [(a_hb, oX7 a_fl a_pl a_va a_ce a_st a_li a_hbR), (a_hbR, .inl (cI, 7, .inl u13)), (a_fl, oX1 fl_e fl_f fl_bias fl_codes fl_signBit fl_endless)] := hD
    subst hQ; exact W.iret (v := r13) hx hb hr (fun t ht hW => ⟨⟨r13, u13, rfl, ho, by rw [ht]; exact hP, hD⟩, hS.F ht⟩) (fun q hq => hS.2.2 q hq) dX7_next_16

def wp_X7_between_50 (post : Int32 → (Nat → Int32) → Prop)  (hbR_r : Nat → Int32) : Prop := wp_X7_refuse (fun r53 u53 => (post r53 u53)) hbR_r (-3 : Int32)
def wp_X7_between_22 (post : Int32 → (Nat → Int32) → Prop)  (hbR_r : Nat → Int32) : Prop := wp_X7_refuse (fun r24 u24 => (post r24 u24)) hbR_r (-1 : Int32)
def wp_X7_between (post : Int32 → (Nat → Int32) → Prop) (hbR_r : Nat → Int32) (fl_codes : Int32) (fl_signBit : Int32) (fl_endless : Int32) (p1 : Int32) (p2 : Int32) : Prop := wp_X1_isCode (fun r5 => (((r5 = 0) → (wp_X7_between_22 post hbR_r)) ∧ ((¬ (r5 = 0)) → (wp_X1_isCode (fun r16 => (((¬ r16 = 0) → (wp_X1_isPlain (fun r33 => (((r33 = 0) → (wp_X7_between_50 post hbR_r)) ∧ ((¬ (r33 = 0)) → (wp_X1_isPlain (fun r44 => (((¬ r44 = 0) → (wp_X1_stepsFromZero (fun r62 => (wp_X1_stepsFromZero (fun r70 => (post (if ((if 0 ≤ (r62 - r70) then (r62 - r70) else 0 - (r62 - r70)) - (1 : Int32)) < (0 : Int32) then (0 : Int32) else ((if 0 ≤ (r62 - r70) then (r62 - r70) else 0 - (r62 - r70)) - (1 : Int32))) hbR_r)) fl_signBit p2)) fl_signBit p1)) ∧ ((¬ (¬ r44 = 0)) → (wp_X7_between_50 post hbR_r)))) fl_signBit fl_endless p2)))) fl_signBit fl_endless p1)) ∧ ((¬ (¬ r16 = 0)) → (wp_X7_between_22 post hbR_r)))) fl_codes p2)))) fl_codes p1
set_option maxRecDepth 20000 in
theorem in_X7_between_X7 : ∀ w ∈ u_ws RX7 TX7 7, w ∈ wsX7_between := fun w h => (goodIn_r wsX70 [49, 50, 51, 52, 53, 54, 55] (by decide +kernel) (by decide +kernel) w h).1
set_option maxHeartbeats 4000000 in
set_option maxRecDepth 100000 in
theorem c_X7_between (l : Launch) (D : va_G) (cI cJ cZ : ClassId) (a_hb : Nat) (a_hbR : Nat) (a_fl : Nat) (a_pl : Nat) (a_va : Nat) (a_ce : Nat) (a_st : Nat) (a_li : Nat) (sz : Nat) (hbR_r : Nat → Int32) (fl_e : Int32) (fl_f : Int32) (fl_bias : Int32) (fl_codes : Int32) (fl_signBit : Int32) (fl_endless : Int32) (p1 : Int32) (p2 : Int32) (post : Int32 → (Nat → Int32) → Prop) (A : Nat → Prop) (hAe : A = va_A [(a_hb, oX7 a_fl a_pl a_va a_ce a_st a_li a_hbR), (a_hbR, .inl (cI, 7, .inl hbR_r)), (a_fl, oX1 fl_e fl_f fl_bias fl_codes fl_signBit fl_endless)] sz) (ho : wp_X7_between post hbR_r fl_codes fl_signBit fl_endless p1 p2) : Met l yX7_between wsX7_between ({ frames := 3, cells := 0, slots := 0, locals := 64 } : Room) (rw_P D [(cI, .int), (cJ, .long), (cZ, .boolean)] [.ref a_hb, .int p1, .int p2] sz [(a_hb, oX7 a_fl a_pl a_va a_ce a_st a_li a_hbR), (a_hbR, .inl (cI, 7, .inl hbR_r)), (a_fl, oX1 fl_e fl_f fl_bias fl_codes fl_signBit fl_endless)]) (va_Qi (fun (r : Int32) (u : (Nat → Int32)) => post r u) (rw_B D A (fun (u : (Nat → Int32)) => [(a_hb, oX7 a_fl a_pl a_va a_ce a_st a_li a_hbR), (a_hbR, .inl (cI, 7, .inl u)), (a_fl, oX1 fl_e fl_f fl_bias fl_codes fl_signBit fl_endless)])) A) 0 0 A := by
  refine Met.ofW (cc := cX7_between) (maxL := 4) (ret := (some .int)) (by decide) rfl ?_
  intro p e s m args below meth c s₁ B hml hv
  obtain ⟨hargs, hsz, hP, hK, hN, hD0⟩ := hv
  have hx := B.exec
  have hb := B.bytes
  have hr := B.returns
  have hts := atoms_spec (ws := wsX7_between) B.pre
  have hown : s.vm.findClass RX7 = some m.cls := findClass_of_methodNamed B.named
  have hlocks := B.notSynchronized
  subst hsz
  have hD : va_D A [(a_hb, oX7 a_fl a_pl a_va a_ce a_st a_li a_hbR), (a_hbR, .inl (cI, 7, .inl hbR_r)), (a_fl, oX1 fl_e fl_f fl_bias fl_codes fl_signBit fl_endless)] := by rw [hAe]; exact hD0.self
  have hA : ∀ q : Nat, s.heap.size ≤ q → A q := fun q h => by rw [hAe]; exact Or.inr h
  have hS : va_S A s.heap s.heap [] := va_S.rf
  have hl := lv_entry ([.ref a_hb, .int p1, .int p2]) (n := 4) (Nat.le_of_ble_eq_true rfl)
  rw [hargs, lg_entry_eq, ← hargs]
  generalize (lg_sl ([.ref a_hb, .int p1, .int p2]) ++ List.replicate (4 - (lg_sl ([.ref a_hb, .int p1, .int p2])).length) Slot.unset).toArray = ls at hl ⊢
  replace hl : lv_has ls 4 [(0, .ref a_hb), (1, .int p1), (2, .int p2)] := hl
  have hRf : ∀ n, n ≤ 3 → n ≤ (headSpec wsX7_between ({ frames := 3, cells := 0, slots := 0, locals := 64 } : Room)).room.frames := fun n h => h
  have hRl : ∀ n, n ≤ 64 → n ≤ (headSpec wsX7_between ({ frames := 3, cells := 0, slots := 0, locals := 64 } : Room)).room.locals := fun n h => h
  generalize (headSpec wsX7_between ({ frames := 3, cells := 0, slots := 0, locals := 64 } : Room)).room = R at hRf hRl ⊢
  generalize hQ : MQ below _ args s 0 0 _ = Q
  have C_50 : ∀ (hbR_r : Nat → Int32) (H : Heap) (locs : List Loc) (ls : Array Slot), wp_X7_between_50 post  hbR_r → va_P D vwCl [(a_hb, oX7 a_fl a_pl a_va a_ce a_st a_li a_hbR), (a_hbR, .inl (cI, 7, .inl hbR_r)), (a_fl, oX1 fl_e fl_f fl_bias fl_codes fl_signBit fl_endless)] H → va_D A [(a_hb, oX7 a_fl a_pl a_va a_ce a_st a_li a_hbR), (a_hbR, .inl (cI, 7, .inl hbR_r)), (a_fl, oX1 fl_e fl_f fl_bias fl_codes fl_signBit fl_endless)] → va_S A s.heap H locs → lv_has ls 4 [(0, .ref a_hb)] → W p l e R s m args below meth c H locs 0 0 Q (F0 m 50 ls []) := by
    intro hbR_r H locs ls ho hP hD hS hl
    unfold wp_X7_between_50 at ho
    refine lv_aload_n hx hb dX7_between_50 rfl (lv_at hl 0 rfl) ?_
    refine lv_bipush (v := (-3)) hx hb dX7_between_51 (by decide) ?_
    refine ca_Wi (b := a_hb) (As := [.int (-3 : Int32)]) (rest := []) (wr := [(a_fl, oX1 fl_e fl_f fl_bias fl_codes fl_signBit fl_endless)]) (wo := fun u => [(a_hb, oX7 a_fl a_pl a_va a_ce a_st a_li a_hbR), (a_hbR, .inl (cI, 7, .inl u))]) (wn := fun u => [(a_hb, oX7 a_fl a_pl a_va a_ce a_st a_li a_hbR), (a_hbR, .inl (cI, 7, .inl u)), (a_fl, oX1 fl_e fl_f fl_bias fl_codes fl_signBit fl_endless)]) ⟨hx, hb, hml, hown, hts⟩ (c_X7_refuse l D cI cJ cZ a_hb a_hbR a_fl a_pl a_va a_ce a_st a_li H.size hbR_r (-3 : Int32) _ _ rfl ho) (cwV 1 hts gX7_between_X7_refuse rfl rfl rfl (by decide +kernel) ⟨hRf _ (Nat.le_of_ble_eq_true rfl), hRl _ (Nat.le_of_ble_eq_true rfl)⟩) hK hN hP hD hS hA [0, 1] [2] [1, 2, 0] rfl rfl (by decide) (by decide) (by decide) (by decide) (fun _ => rfl) 0 6 rfl rfl rfl rfl hl.1 rfl (Nat.le_of_ble_eq_true rfl) dX7_between_53 ⟨Nat.zero_le _, Nat.zero_le _⟩ (fun r53 u53 H locs ho hP hD hS => ?_)
    try dsimp only at ho
    replace hP : va_P D vwCl [(a_hb, oX7 a_fl a_pl a_va a_ce a_st a_li a_hbR), (a_hbR, .inl (cI, 7, .inl u53)), (a_fl, oX1 fl_e fl_f fl_bias fl_codes fl_signBit fl_endless)] H := hP
    replace hD : va_D A [(a_hb, oX7 a_fl a_pl a_va a_ce a_st a_li a_hbR), (a_hbR, .inl (cI, 7, .inl u53)), (a_fl, oX1 fl_e fl_f fl_bias fl_codes fl_signBit fl_endless)] := hD
    subst hQ; exact W.iret (v := r53) hx hb hr (fun t ht hW => ⟨⟨r53, u53, rfl, ho, by rw [ht]; exact hP, hD⟩, hS.F ht⟩) (fun q hq => hS.2.2 q hq) dX7_between_56
  have C_22 : ∀ (hbR_r : Nat → Int32) (H : Heap) (locs : List Loc) (ls : Array Slot), wp_X7_between_22 post  hbR_r → va_P D vwCl [(a_hb, oX7 a_fl a_pl a_va a_ce a_st a_li a_hbR), (a_hbR, .inl (cI, 7, .inl hbR_r)), (a_fl, oX1 fl_e fl_f fl_bias fl_codes fl_signBit fl_endless)] H → va_D A [(a_hb, oX7 a_fl a_pl a_va a_ce a_st a_li a_hbR), (a_hbR, .inl (cI, 7, .inl hbR_r)), (a_fl, oX1 fl_e fl_f fl_bias fl_codes fl_signBit fl_endless)] → va_S A s.heap H locs → lv_has ls 4 [(0, .ref a_hb)] → W p l e R s m args below meth c H locs 0 0 Q (F0 m 22 ls []) := by
    intro hbR_r H locs ls ho hP hD hS hl
    unfold wp_X7_between_22 at ho
    refine lv_aload_n hx hb dX7_between_22 rfl (lv_at hl 0 rfl) ?_
    refine lv_iconst (v := (-1)) hx hb dX7_between_23 (by decide) ?_
    refine ca_Wi (b := a_hb) (As := [.int (-1 : Int32)]) (rest := []) (wr := [(a_fl, oX1 fl_e fl_f fl_bias fl_codes fl_signBit fl_endless)]) (wo := fun u => [(a_hb, oX7 a_fl a_pl a_va a_ce a_st a_li a_hbR), (a_hbR, .inl (cI, 7, .inl u))]) (wn := fun u => [(a_hb, oX7 a_fl a_pl a_va a_ce a_st a_li a_hbR), (a_hbR, .inl (cI, 7, .inl u)), (a_fl, oX1 fl_e fl_f fl_bias fl_codes fl_signBit fl_endless)]) ⟨hx, hb, hml, hown, hts⟩ (c_X7_refuse l D cI cJ cZ a_hb a_hbR a_fl a_pl a_va a_ce a_st a_li H.size hbR_r (-1 : Int32) _ _ rfl ho) (cwV 1 hts gX7_between_X7_refuse rfl rfl rfl (by decide +kernel) ⟨hRf _ (Nat.le_of_ble_eq_true rfl), hRl _ (Nat.le_of_ble_eq_true rfl)⟩) hK hN hP hD hS hA [0, 1] [2] [1, 2, 0] rfl rfl (by decide) (by decide) (by decide) (by decide) (fun _ => rfl) 0 6 rfl rfl rfl rfl hl.1 rfl (Nat.le_of_ble_eq_true rfl) dX7_between_24 ⟨Nat.zero_le _, Nat.zero_le _⟩ (fun r24 u24 H locs ho hP hD hS => ?_)
    try dsimp only at ho
    replace hP : va_P D vwCl [(a_hb, oX7 a_fl a_pl a_va a_ce a_st a_li a_hbR), (a_hbR, .inl (cI, 7, .inl u24)), (a_fl, oX1 fl_e fl_f fl_bias fl_codes fl_signBit fl_endless)] H := hP
    replace hD : va_D A [(a_hb, oX7 a_fl a_pl a_va a_ce a_st a_li a_hbR), (a_hbR, .inl (cI, 7, .inl u24)), (a_fl, oX1 fl_e fl_f fl_bias fl_codes fl_signBit fl_endless)] := hD
    subst hQ; exact W.iret (v := r24) hx hb hr (fun t ht hW => ⟨⟨r24, u24, rfl, ho, by rw [ht]; exact hP, hD⟩, hS.F ht⟩) (fun q hq => hS.2.2 q hq) dX7_between_27
  unfold wp_X7_between at ho
  refine lv_aload_n hx hb dX7_between_0 rfl (lv_at hl 0 rfl) ?_
  refine va_get (D := D) (ci := 6) (v := .ref a_fl) (C := RX7) (T := TX7) (N := 7) hx hb hts in_X7_between_X7 hown hK hP 0 rfl rfl 0 (by decide) (hts (.fieldLink RX7 12 "HardBench" "floats" "LHardBench$Floats;") (List.mem_of_getElem? (i := 1) (by decide +kernel))) (fun _ h9 => h9) rfl dX7_between_1 ?_
  refine lv_iload_n hx hb dX7_between_4 rfl (lv_at hl 1 rfl) ?_
  refine ca_Vi (b := a_fl) (As := [.int p1]) (rest := []) ⟨hx, hb, hml, hown, hts⟩ (c_X1_isCode l D cI cJ cZ a_fl fl_e fl_f fl_bias fl_codes fl_signBit fl_endless p1 _ ho) (cwV 1 hts gX7_between_X1_isCode rfl rfl rfl (by decide +kernel) ⟨hRf _ (Nat.le_of_ble_eq_true rfl), hRl _ (Nat.le_of_ble_eq_true rfl)⟩) hK hN hP [2] rfl 0 1 rfl rfl rfl rfl hl.1 rfl (Nat.le_of_ble_eq_true rfl) dX7_between_5 ⟨Nat.zero_le _, Nat.zero_le _⟩ (fun r5 ho => ?_)
  refine lv_if_eq (tgt := 22) hx hb dX7_between_8 (by decide) (fun c_8 => ?_) (fun c_8 => ?_)
  · replace ho := ho.1 c_8
    exact C_22 hbR_r H locs ls ho hP hD hS (lv_sub hl [0] rfl)
  · replace ho := ho.2 c_8
    refine lv_aload_n hx hb dX7_between_11 rfl (lv_at hl 0 rfl) ?_
    refine va_get (D := D) (ci := 6) (v := .ref a_fl) (C := RX7) (T := TX7) (N := 7) hx hb hts in_X7_between_X7 hown hK hP 0 rfl rfl 0 (by decide) (hts (.fieldLink RX7 12 "HardBench" "floats" "LHardBench$Floats;") (List.mem_of_getElem? (i := 1) (by decide +kernel))) (fun _ h9 => h9) rfl dX7_between_12 ?_
    refine lv_iload_n hx hb dX7_between_15 rfl (lv_at hl 2 rfl) ?_
    refine ca_Vi (b := a_fl) (As := [.int p2]) (rest := []) ⟨hx, hb, hml, hown, hts⟩ (c_X1_isCode l D cI cJ cZ a_fl fl_e fl_f fl_bias fl_codes fl_signBit fl_endless p2 _ ho) (cwV 1 hts gX7_between_X1_isCode rfl rfl rfl (by decide +kernel) ⟨hRf _ (Nat.le_of_ble_eq_true rfl), hRl _ (Nat.le_of_ble_eq_true rfl)⟩) hK hN hP [2] rfl 0 1 rfl rfl rfl rfl hl.1 rfl (Nat.le_of_ble_eq_true rfl) dX7_between_16 ⟨Nat.zero_le _, Nat.zero_le _⟩ (fun r16 ho => ?_)
    refine lv_if_ne (tgt := 28) hx hb dX7_between_19 (by decide) (fun c_19 => ?_) (fun c_19 => ?_)
    · replace ho := ho.1 c_19
      refine lv_aload_n hx hb dX7_between_28 rfl (lv_at hl 0 rfl) ?_
      refine va_get (D := D) (ci := 6) (v := .ref a_fl) (C := RX7) (T := TX7) (N := 7) hx hb hts in_X7_between_X7 hown hK hP 0 rfl rfl 0 (by decide) (hts (.fieldLink RX7 12 "HardBench" "floats" "LHardBench$Floats;") (List.mem_of_getElem? (i := 1) (by decide +kernel))) (fun _ h9 => h9) rfl dX7_between_29 ?_
      refine lv_iload_n hx hb dX7_between_32 rfl (lv_at hl 1 rfl) ?_
      refine ca_Vi (b := a_fl) (As := [.int p1]) (rest := []) ⟨hx, hb, hml, hown, hts⟩ (c_X1_isPlain l D cI cJ cZ a_fl fl_e fl_f fl_bias fl_codes fl_signBit fl_endless p1 _ ho) (cwV 1 hts gX7_between_X1_isPlain rfl rfl rfl (by decide +kernel) ⟨hRf _ (Nat.le_of_ble_eq_true rfl), hRl _ (Nat.le_of_ble_eq_true rfl)⟩) hK hN hP [2] rfl 0 1 rfl rfl rfl rfl hl.1 rfl (Nat.le_of_ble_eq_true rfl) dX7_between_33 ⟨Nat.zero_le _, Nat.zero_le _⟩ (fun r33 ho => ?_)
      refine lv_if_eq (tgt := 50) hx hb dX7_between_36 (by decide) (fun c_36 => ?_) (fun c_36 => ?_)
      · replace ho := ho.1 c_36
        exact C_50 hbR_r H locs ls ho hP hD hS (lv_sub hl [0] rfl)
      · replace ho := ho.2 c_36
        refine lv_aload_n hx hb dX7_between_39 rfl (lv_at hl 0 rfl) ?_
        refine va_get (D := D) (ci := 6) (v := .ref a_fl) (C := RX7) (T := TX7) (N := 7) hx hb hts in_X7_between_X7 hown hK hP 0 rfl rfl 0 (by decide) (hts (.fieldLink RX7 12 "HardBench" "floats" "LHardBench$Floats;") (List.mem_of_getElem? (i := 1) (by decide +kernel))) (fun _ h9 => h9) rfl dX7_between_40 ?_
        refine lv_iload_n hx hb dX7_between_43 rfl (lv_at hl 2 rfl) ?_
        refine ca_Vi (b := a_fl) (As := [.int p2]) (rest := []) ⟨hx, hb, hml, hown, hts⟩ (c_X1_isPlain l D cI cJ cZ a_fl fl_e fl_f fl_bias fl_codes fl_signBit fl_endless p2 _ ho) (cwV 1 hts gX7_between_X1_isPlain rfl rfl rfl (by decide +kernel) ⟨hRf _ (Nat.le_of_ble_eq_true rfl), hRl _ (Nat.le_of_ble_eq_true rfl)⟩) hK hN hP [2] rfl 0 1 rfl rfl rfl rfl hl.1 rfl (Nat.le_of_ble_eq_true rfl) dX7_between_44 ⟨Nat.zero_le _, Nat.zero_le _⟩ (fun r44 ho => ?_)
        refine lv_if_ne (tgt := 57) hx hb dX7_between_47 (by decide) (fun c_47 => ?_) (fun c_47 => ?_)
        · replace ho := ho.1 c_47
          refine lv_aload_n hx hb dX7_between_57 rfl (lv_at hl 0 rfl) ?_
          refine va_get (D := D) (ci := 6) (v := .ref a_fl) (C := RX7) (T := TX7) (N := 7) hx hb hts in_X7_between_X7 hown hK hP 0 rfl rfl 0 (by decide) (hts (.fieldLink RX7 12 "HardBench" "floats" "LHardBench$Floats;") (List.mem_of_getElem? (i := 1) (by decide +kernel))) (fun _ h9 => h9) rfl dX7_between_58 ?_
          refine lv_iload_n hx hb dX7_between_61 rfl (lv_at hl 1 rfl) ?_
          refine ca_Vi (b := a_fl) (As := [.int p1]) (rest := []) ⟨hx, hb, hml, hown, hts⟩ (c_X1_stepsFromZero l D cI cJ cZ a_fl fl_e fl_f fl_bias fl_codes fl_signBit fl_endless p1 _ ho) (cwV 1 hts gX7_between_X1_stepsFromZero rfl rfl rfl (by decide +kernel) ⟨hRf _ (Nat.le_of_ble_eq_true rfl), hRl _ (Nat.le_of_ble_eq_true rfl)⟩) hK hN hP [2] rfl 0 1 rfl rfl rfl rfl hl.1 rfl (Nat.le_of_ble_eq_true rfl) dX7_between_62 ⟨Nat.zero_le _, Nat.zero_le _⟩ (fun r62 ho => ?_)
          refine lv_aload_n hx hb dX7_between_65 rfl (lv_at hl 0 rfl) ?_
          refine va_get (D := D) (ci := 6) (v := .ref a_fl) (C := RX7) (T := TX7) (N := 7) hx hb hts in_X7_between_X7 hown hK hP 0 rfl rfl 0 (by decide) (hts (.fieldLink RX7 12 "HardBench" "floats" "LHardBench$Floats;") (List.mem_of_getElem? (i := 1) (by decide +kernel))) (fun _ h9 => h9) rfl dX7_between_66 ?_
          refine lv_iload_n hx hb dX7_between_69 rfl (lv_at hl 2 rfl) ?_
          refine ca_Vi (b := a_fl) (As := [.int p2]) (rest := [.int r62]) ⟨hx, hb, hml, hown, hts⟩ (c_X1_stepsFromZero l D cI cJ cZ a_fl fl_e fl_f fl_bias fl_codes fl_signBit fl_endless p2 _ ho) (cwV 1 hts gX7_between_X1_stepsFromZero rfl rfl rfl (by decide +kernel) ⟨hRf _ (Nat.le_of_ble_eq_true rfl), hRl _ (Nat.le_of_ble_eq_true rfl)⟩) hK hN hP [2] rfl 0 1 rfl rfl rfl rfl hl.1 rfl (Nat.le_of_ble_eq_true rfl) dX7_between_70 ⟨Nat.zero_le _, Nat.zero_le _⟩ (fun r70 ho => ?_)
          refine lv_isub hx hb dX7_between_73 ?_
          refine va_mabs hx hb (hml.trans hl.1.symm) hown (hts (.methodLink RX7 116 Lib.Math.abs.name) (List.mem_of_getElem? (i := 2) (by decide +kernel))) (hts (.static Lib.Math.abs.name) (List.mem_of_getElem? (i := 3) (by decide +kernel))) (hts (.initialized "java/lang/Math") (List.mem_of_getElem? (i := 4) (by decide +kernel))) (hts (.code Lib.Math.abs.name Lib.Math.abs.code 1 (some .int)) (List.mem_of_getElem? (i := 5) (by decide +kernel))) (hRf 1 (Nat.le_of_ble_eq_true rfl)) (hRl _ (Nat.le_of_ble_eq_true rfl)) (Nat.zero_le _) (Nat.zero_le _) dX7_between_74 ?_
          refine lv_istore_n (lv' := [(3, .int (if 0 ≤ (r62 - r70) then (r62 - r70) else 0 - (r62 - r70))), (0, .ref a_hb), (1, .int p1), (2, .int p2)]) hx hb dX7_between_77 rfl hl (by decide) rfl (fun ls hl => ?_)
          refine lv_iload_n hx hb dX7_between_78 rfl (lv_at hl 0 rfl) ?_
          refine lv_iconst (v := 1) hx hb dX7_between_79 (by decide) ?_
          refine lv_isub hx hb dX7_between_80 ?_
          refine lv_iconst (v := 0) hx hb dX7_between_81 (by decide) ?_
          refine va_mmax hx hb (hml.trans hl.1.symm) hown (hts (.methodLink RX7 121 Lib.Math.max.name) (List.mem_of_getElem? (i := 6) (by decide +kernel))) (hts (.static Lib.Math.max.name) (List.mem_of_getElem? (i := 7) (by decide +kernel))) (hts (.initialized "java/lang/Math") (List.mem_of_getElem? (i := 4) (by decide +kernel))) (hts (.code Lib.Math.max.name Lib.Math.max.code 2 (some .int)) (List.mem_of_getElem? (i := 8) (by decide +kernel))) (hRf 1 (Nat.le_of_ble_eq_true rfl)) (hRl _ (Nat.le_of_ble_eq_true rfl)) (Nat.zero_le _) (Nat.zero_le _) dX7_between_82 ?_
          subst hQ; exact W.iret (v := (if ((if 0 ≤ (r62 - r70) then (r62 - r70) else 0 - (r62 - r70)) - (1 : Int32)) < (0 : Int32) then (0 : Int32) else ((if 0 ≤ (r62 - r70) then (r62 - r70) else 0 - (r62 - r70)) - (1 : Int32)))) hx hb hr (fun t ht hW => ⟨⟨(if ((if 0 ≤ (r62 - r70) then (r62 - r70) else 0 - (r62 - r70)) - (1 : Int32)) < (0 : Int32) then (0 : Int32) else ((if 0 ≤ (r62 - r70) then (r62 - r70) else 0 - (r62 - r70)) - (1 : Int32))), hbR_r, rfl, ho, by rw [ht]; exact hP, hD⟩, hS.F ht⟩) (fun q hq => hS.2.2 q hq) dX7_between_85
        · replace ho := ho.2 c_47
          exact C_50 hbR_r H locs ls ho hP hD hS (lv_sub hl [0] rfl)
    · replace ho := ho.2 c_19
      exact C_22 hbR_r H locs ls ho hP hD hS (lv_sub hl [0] rfl)

def wp_X7_isRounding (post : Int32 → Prop) (p1 : Int32) : Prop := ((p1 < 0) → (post (0 : Int32))) ∧ ((¬ (p1 < 0)) → ((((5 : Int32) ≤ p1) → (post (0 : Int32))) ∧ ((¬ ((5 : Int32) ≤ p1)) → (post (1 : Int32)))))
set_option maxHeartbeats 4000000 in
set_option maxRecDepth 100000 in
theorem c_X7_isRounding (l : Launch) (D : va_G) (cI cJ cZ : ClassId)   (p1 : Int32) (post : Int32 → Prop) (ho : wp_X7_isRounding post p1) : Met l yX7_isRounding wsX7_isRounding ({ frames := 0, cells := 0, slots := 0, locals := 0 } : Room) (ro_P D [(cI, .int), (cJ, .long), (cZ, .boolean)] [.int p1] []) (vp_Si post) 0 0 (fun _ => False) := by
  refine Met.ofW (cc := cX7_isRounding) (maxL := 1) (ret := (some .boolean)) (by decide) rfl ?_
  intro p e s m args below meth c s₁ B hml hv
  obtain ⟨hargs, hP, hK, hN⟩ := hv
  have hx := B.exec
  have hb := B.bytes
  have hr := B.returns
  have hts := atoms_spec (ws := wsX7_isRounding) B.pre
  have hown : s.vm.findClass RX7 = some m.cls := findClass_of_methodNamed B.named
  have hlocks := B.notSynchronized
  have hl := lv_entry ([.int p1]) (n := 1) (Nat.le_of_ble_eq_true rfl)
  rw [hargs, lg_entry_eq, ← hargs]
  generalize (lg_sl ([.int p1]) ++ List.replicate (1 - (lg_sl ([.int p1])).length) Slot.unset).toArray = ls at hl ⊢
  replace hl : lv_has ls 1 [(0, .int p1)] := hl
  have hRf : ∀ n, n ≤ 0 → n ≤ (headSpec wsX7_isRounding ({ frames := 0, cells := 0, slots := 0, locals := 0 } : Room)).room.frames := fun n h => h
  have hRl : ∀ n, n ≤ 0 → n ≤ (headSpec wsX7_isRounding ({ frames := 0, cells := 0, slots := 0, locals := 0 } : Room)).room.locals := fun n h => h
  generalize (headSpec wsX7_isRounding ({ frames := 0, cells := 0, slots := 0, locals := 0 } : Room)).room = R at hRf hRl ⊢
  generalize hQ : MQ below _ args s 0 0 _ = Q
  unfold wp_X7_isRounding at ho
  refine lv_iload_n hx hb dX7_isRounding_0 rfl (lv_at hl 0 rfl) ?_
  refine lv_if_lt (tgt := 13) hx hb dX7_isRounding_1 (by decide) (fun c_1 => ?_) (fun c_1 => ?_)
  · replace ho := ho.1 c_1
    refine lv_iconst (v := 0) hx hb dX7_isRounding_13 (by decide) ?_
    subst hQ; exact W.zret (v := (0 : Int32)) hx hb hr rfl (fun t ht _ => ⟨(0 : Int32), rfl, ho, ht⟩) (fun _ h => by cases h) dX7_isRounding_14
  · replace ho := ho.2 c_1
    refine lv_iload_n hx hb dX7_isRounding_4 rfl (lv_at hl 0 rfl) ?_
    refine lv_iconst (v := 5) hx hb dX7_isRounding_5 (by decide) ?_
    refine lv_icmp_ge (tgt := 13) hx hb dX7_isRounding_6 (by decide) (fun c_6 => ?_) (fun c_6 => ?_)
    · replace ho := ho.1 c_6
      refine lv_iconst (v := 0) hx hb dX7_isRounding_13 (by decide) ?_
      subst hQ; exact W.zret (v := (0 : Int32)) hx hb hr rfl (fun t ht _ => ⟨(0 : Int32), rfl, ho, ht⟩) (fun _ h => by cases h) dX7_isRounding_14
    · replace ho := ho.2 c_6
      refine lv_iconst (v := 1) hx hb dX7_isRounding_9 (by decide) ?_
      refine lv_goto (tgt := 14) hx hb dX7_isRounding_10 (by decide) ?_
      subst hQ; exact W.zret (v := (1 : Int32)) hx hb hr rfl (fun t ht _ => ⟨(1 : Int32), rfl, ho, ht⟩) (fun _ h => by cases h) dX7_isRounding_14

def wp_X7_round_84 (post : Int32 → (Nat → Int32) → Int32 → Int32 → Int32 → Int32 → Prop)  (hbR_r : Nat → Int32) (fl_signBit : Int32) (pl_lower : Int32) (pl_way : Int32) (pl_more : Int32) (pl_beyond : Int32) (p3 : Int32) (y0 : Int32) : Prop := wp_X3_rounded (fun r85 => (post r85 hbR_r pl_lower pl_way pl_more pl_beyond)) fl_signBit pl_lower pl_way pl_more pl_beyond y0 p3
def wp_X7_round_44 (post : Int32 → (Nat → Int32) → Int32 → Int32 → Int32 → Int32 → Prop)  (hbR_r : Nat → Int32) (pl_lower : Int32) (pl_way : Int32) (pl_more : Int32) (pl_beyond : Int32) : Prop := wp_X7_refuse (fun r47 u47 => (post r47 u47 pl_lower pl_way pl_more pl_beyond)) hbR_r (-6 : Int32)
def wp_X7_round_25 (post : Int32 → (Nat → Int32) → Int32 → Int32 → Int32 → Int32 → Prop)  (hbR_r : Nat → Int32) (pl_lower : Int32) (pl_way : Int32) (pl_more : Int32) (pl_beyond : Int32) : Prop := wp_X7_refuse (fun r28 u28 => (post r28 u28 pl_lower pl_way pl_more pl_beyond)) hbR_r (-4 : Int32)
def wp_X7_round (post : Int32 → (Nat → Int32) → Int32 → Int32 → Int32 → Int32 → Prop) (hbR_r : Nat → Int32) (fl_f : Int32) (fl_bias : Int32) (fl_signBit : Int32) (fl_endless : Int32) (pl_lower : Int32) (pl_way : Int32) (pl_more : Int32) (pl_beyond : Int32) (p1 : Int32) (p2 : Int32) (p3 : Int32) : Prop := wp_X7_isRounding (fun r1 => (((¬ r1 = 0) → (((p1 < (-100000 : Int32)) → (wp_X7_round_25 post hbR_r pl_lower pl_way pl_more pl_beyond)) ∧ ((¬ (p1 < (-100000 : Int32))) → ((((-60 : Int32) ≤ p2) → ((((100000 : Int32) < p1) → (wp_X7_round_44 post hbR_r pl_lower pl_way pl_more pl_beyond)) ∧ ((¬ ((100000 : Int32) < p1)) → (((p2 ≤ (60 : Int32)) → (((¬ p1 = 0) → (wp_X3_lay (fun u68_1 u68_2 u68_3 u68_4 => (((0 ≤ p1) → (wp_X7_round_84 post hbR_r fl_signBit u68_1 u68_2 u68_3 u68_4 p3 (0 : Int32))) ∧ ((¬ (0 ≤ p1)) → (wp_X7_round_84 post hbR_r fl_signBit u68_1 u68_2 u68_3 u68_4 p3 (1 : Int32))))) fl_f fl_bias fl_endless ((if 0 ≤ p1 then p1 else 0 - p1).toInt64) p2 (0 : Int32))) ∧ ((¬ (¬ p1 = 0)) → (post (0 : Int32) hbR_r pl_lower pl_way pl_more pl_beyond)))) ∧ ((¬ (p2 ≤ (60 : Int32))) → (wp_X7_round_44 post hbR_r pl_lower pl_way pl_more pl_beyond)))))) ∧ ((¬ ((-60 : Int32) ≤ p2)) → (wp_X7_round_25 post hbR_r pl_lower pl_way pl_more pl_beyond)))))) ∧ ((¬ (¬ r1 = 0)) → (wp_X7_refuse (fun r9 u9 => (post r9 u9 pl_lower pl_way pl_more pl_beyond)) hbR_r (-1 : Int32))))) p3
set_option maxRecDepth 20000 in
theorem in_X7_round_X7 : ∀ w ∈ u_ws RX7 TX7 7, w ∈ wsX7_round := fun w h => (goodIn_r wsX70 [70, 71, 72, 73, 74, 75, 76] (by decide +kernel) (by decide +kernel) w h).1
set_option maxHeartbeats 4000000 in
set_option maxRecDepth 100000 in
theorem c_X7_round (l : Launch) (D : va_G) (cI cJ cZ : ClassId) (a_hb : Nat) (a_hbR : Nat) (a_fl : Nat) (a_pl : Nat) (a_va : Nat) (a_ce : Nat) (a_st : Nat) (a_li : Nat) (sz : Nat) (hbR_r : Nat → Int32) (fl_e : Int32) (fl_f : Int32) (fl_bias : Int32) (fl_codes : Int32) (fl_signBit : Int32) (fl_endless : Int32) (pl_lower : Int32) (pl_way : Int32) (pl_more : Int32) (pl_beyond : Int32) (p1 : Int32) (p2 : Int32) (p3 : Int32) (post : Int32 → (Nat → Int32) → Int32 → Int32 → Int32 → Int32 → Prop) (A : Nat → Prop) (hAe : A = va_A [(a_hb, oX7 a_fl a_pl a_va a_ce a_st a_li a_hbR), (a_hbR, .inl (cI, 7, .inl hbR_r)), (a_fl, oX1 fl_e fl_f fl_bias fl_codes fl_signBit fl_endless), (a_pl, oX3 a_fl pl_lower pl_way pl_more pl_beyond)] sz) (ho : wp_X7_round post hbR_r fl_f fl_bias fl_signBit fl_endless pl_lower pl_way pl_more pl_beyond p1 p2 p3) : Met l yX7_round wsX7_round ({ frames := 3, cells := 0, slots := 0, locals := 73 } : Room) (rw_P D [(cI, .int), (cJ, .long), (cZ, .boolean)] [.ref a_hb, .int p1, .int p2, .int p3] sz [(a_hb, oX7 a_fl a_pl a_va a_ce a_st a_li a_hbR), (a_hbR, .inl (cI, 7, .inl hbR_r)), (a_fl, oX1 fl_e fl_f fl_bias fl_codes fl_signBit fl_endless), (a_pl, oX3 a_fl pl_lower pl_way pl_more pl_beyond)]) (va_Qi (fun (r : Int32) (u : (Nat → Int32) × (Int32) × (Int32) × (Int32) × (Int32)) => post r u.1 u.2.1 u.2.2.1 u.2.2.2.1 u.2.2.2.2) (rw_B D A (fun (u : (Nat → Int32) × (Int32) × (Int32) × (Int32) × (Int32)) => [(a_hb, oX7 a_fl a_pl a_va a_ce a_st a_li a_hbR), (a_hbR, .inl (cI, 7, .inl u.1)), (a_fl, oX1 fl_e fl_f fl_bias fl_codes fl_signBit fl_endless), (a_pl, oX3 a_fl u.2.1 u.2.2.1 u.2.2.2.1 u.2.2.2.2)])) A) 0 0 A := by
  refine Met.ofW (cc := cX7_round) (maxL := 4) (ret := (some .int)) (by decide) rfl ?_
  intro p e s m args below meth c s₁ B hml hv
  obtain ⟨hargs, hsz, hP, hK, hN, hD0⟩ := hv
  have hx := B.exec
  have hb := B.bytes
  have hr := B.returns
  have hts := atoms_spec (ws := wsX7_round) B.pre
  have hown : s.vm.findClass RX7 = some m.cls := findClass_of_methodNamed B.named
  have hlocks := B.notSynchronized
  subst hsz
  have hD : va_D A [(a_hb, oX7 a_fl a_pl a_va a_ce a_st a_li a_hbR), (a_hbR, .inl (cI, 7, .inl hbR_r)), (a_fl, oX1 fl_e fl_f fl_bias fl_codes fl_signBit fl_endless), (a_pl, oX3 a_fl pl_lower pl_way pl_more pl_beyond)] := by rw [hAe]; exact hD0.self
  have hA : ∀ q : Nat, s.heap.size ≤ q → A q := fun q h => by rw [hAe]; exact Or.inr h
  have hS : va_S A s.heap s.heap [] := va_S.rf
  have hl := lv_entry ([.ref a_hb, .int p1, .int p2, .int p3]) (n := 4) (Nat.le_of_ble_eq_true rfl)
  rw [hargs, lg_entry_eq, ← hargs]
  generalize (lg_sl ([.ref a_hb, .int p1, .int p2, .int p3]) ++ List.replicate (4 - (lg_sl ([.ref a_hb, .int p1, .int p2, .int p3])).length) Slot.unset).toArray = ls at hl ⊢
  replace hl : lv_has ls 4 [(0, .ref a_hb), (1, .int p1), (2, .int p2), (3, .int p3)] := hl
  have hRf : ∀ n, n ≤ 3 → n ≤ (headSpec wsX7_round ({ frames := 3, cells := 0, slots := 0, locals := 73 } : Room)).room.frames := fun n h => h
  have hRl : ∀ n, n ≤ 73 → n ≤ (headSpec wsX7_round ({ frames := 3, cells := 0, slots := 0, locals := 73 } : Room)).room.locals := fun n h => h
  generalize (headSpec wsX7_round ({ frames := 3, cells := 0, slots := 0, locals := 73 } : Room)).room = R at hRf hRl ⊢
  generalize hQ : MQ below _ args s 0 0 _ = Q
  have C_84 : ∀ (hbR_r : Nat → Int32) (pl_lower : Int32) (pl_way : Int32) (pl_more : Int32) (pl_beyond : Int32) (y0 : Int32) (H : Heap) (locs : List Loc) (ls : Array Slot), wp_X7_round_84 post  hbR_r fl_signBit pl_lower pl_way pl_more pl_beyond p3 y0 → va_P D vwCl [(a_hb, oX7 a_fl a_pl a_va a_ce a_st a_li a_hbR), (a_hbR, .inl (cI, 7, .inl hbR_r)), (a_fl, oX1 fl_e fl_f fl_bias fl_codes fl_signBit fl_endless), (a_pl, oX3 a_fl pl_lower pl_way pl_more pl_beyond)] H → va_D A [(a_hb, oX7 a_fl a_pl a_va a_ce a_st a_li a_hbR), (a_hbR, .inl (cI, 7, .inl hbR_r)), (a_fl, oX1 fl_e fl_f fl_bias fl_codes fl_signBit fl_endless), (a_pl, oX3 a_fl pl_lower pl_way pl_more pl_beyond)] → va_S A s.heap H locs → lv_has ls 4 [(3, .int p3)] → W p l e R s m args below meth c H locs 0 0 Q (F0 m 84 ls [.int y0, .ref a_pl]) := by
    intro hbR_r pl_lower pl_way pl_more pl_beyond y0 H locs ls ho hP hD hS hl
    unfold wp_X7_round_84 at ho
    refine lv_iload_n hx hb dX7_round_84 rfl (lv_at hl 0 rfl) ?_
    refine ca_Vi (b := a_pl) (As := [.int y0, .int p3]) (rest := []) ⟨hx, hb, hml, hown, hts⟩ (c_X3_rounded l D cI cJ cZ a_fl a_pl fl_e fl_f fl_bias fl_codes fl_signBit fl_endless pl_lower pl_way pl_more pl_beyond y0 p3 _ ho) (cwV 2 hts gX7_round_X3_rounded rfl rfl rfl (by decide +kernel) ⟨hRf _ (Nat.le_of_ble_eq_true rfl), hRl _ (Nat.le_of_ble_eq_true rfl)⟩) hK hN hP [2, 3] rfl 1 3 rfl rfl rfl rfl hl.1 rfl (Nat.le_of_ble_eq_true rfl) dX7_round_85 ⟨Nat.zero_le _, Nat.zero_le _⟩ (fun r85 ho => ?_)
    subst hQ; exact W.iret (v := r85) hx hb hr (fun t ht hW => ⟨⟨r85, (hbR_r, pl_lower, pl_way, pl_more, pl_beyond), rfl, ho, by rw [ht]; exact hP, hD⟩, hS.F ht⟩) (fun q hq => hS.2.2 q hq) dX7_round_88
  have C_44 : ∀ (hbR_r : Nat → Int32) (pl_lower : Int32) (pl_way : Int32) (pl_more : Int32) (pl_beyond : Int32) (H : Heap) (locs : List Loc) (ls : Array Slot), wp_X7_round_44 post  hbR_r pl_lower pl_way pl_more pl_beyond → va_P D vwCl [(a_hb, oX7 a_fl a_pl a_va a_ce a_st a_li a_hbR), (a_hbR, .inl (cI, 7, .inl hbR_r)), (a_fl, oX1 fl_e fl_f fl_bias fl_codes fl_signBit fl_endless), (a_pl, oX3 a_fl pl_lower pl_way pl_more pl_beyond)] H → va_D A [(a_hb, oX7 a_fl a_pl a_va a_ce a_st a_li a_hbR), (a_hbR, .inl (cI, 7, .inl hbR_r)), (a_fl, oX1 fl_e fl_f fl_bias fl_codes fl_signBit fl_endless), (a_pl, oX3 a_fl pl_lower pl_way pl_more pl_beyond)] → va_S A s.heap H locs → lv_has ls 4 [(0, .ref a_hb)] → W p l e R s m args below meth c H locs 0 0 Q (F0 m 44 ls []) := by
    intro hbR_r pl_lower pl_way pl_more pl_beyond H locs ls ho hP hD hS hl
    unfold wp_X7_round_44 at ho
    refine lv_aload_n hx hb dX7_round_44 rfl (lv_at hl 0 rfl) ?_
    refine lv_bipush (v := (-6)) hx hb dX7_round_45 (by decide) ?_
    refine ca_Wi (b := a_hb) (As := [.int (-6 : Int32)]) (rest := []) (wr := [(a_fl, oX1 fl_e fl_f fl_bias fl_codes fl_signBit fl_endless), (a_pl, oX3 a_fl pl_lower pl_way pl_more pl_beyond)]) (wo := fun u => [(a_hb, oX7 a_fl a_pl a_va a_ce a_st a_li a_hbR), (a_hbR, .inl (cI, 7, .inl u))]) (wn := fun u => [(a_hb, oX7 a_fl a_pl a_va a_ce a_st a_li a_hbR), (a_hbR, .inl (cI, 7, .inl u)), (a_fl, oX1 fl_e fl_f fl_bias fl_codes fl_signBit fl_endless), (a_pl, oX3 a_fl pl_lower pl_way pl_more pl_beyond)]) ⟨hx, hb, hml, hown, hts⟩ (c_X7_refuse l D cI cJ cZ a_hb a_hbR a_fl a_pl a_va a_ce a_st a_li H.size hbR_r (-6 : Int32) _ _ rfl ho) (cwV 1 hts gX7_round_X7_refuse rfl rfl rfl (by decide +kernel) ⟨hRf _ (Nat.le_of_ble_eq_true rfl), hRl _ (Nat.le_of_ble_eq_true rfl)⟩) hK hN hP hD hS hA [0, 1] [2, 3] [2, 3, 0, 1] rfl rfl (by decide) (by decide) (by decide) (by decide) (fun _ => rfl) 0 6 rfl rfl rfl rfl hl.1 rfl (Nat.le_of_ble_eq_true rfl) dX7_round_47 ⟨Nat.zero_le _, Nat.zero_le _⟩ (fun r47 u47 H locs ho hP hD hS => ?_)
    try dsimp only at ho
    replace hP : va_P D vwCl [(a_hb, oX7 a_fl a_pl a_va a_ce a_st a_li a_hbR), (a_hbR, .inl (cI, 7, .inl u47)), (a_fl, oX1 fl_e fl_f fl_bias fl_codes fl_signBit fl_endless), (a_pl, oX3 a_fl pl_lower pl_way pl_more pl_beyond)] H := hP
    replace hD : va_D A [(a_hb, oX7 a_fl a_pl a_va a_ce a_st a_li a_hbR), (a_hbR, .inl (cI, 7, .inl u47)), (a_fl, oX1 fl_e fl_f fl_bias fl_codes fl_signBit fl_endless), (a_pl, oX3 a_fl pl_lower pl_way pl_more pl_beyond)] := hD
    subst hQ; exact W.iret (v := r47) hx hb hr (fun t ht hW => ⟨⟨r47, (u47, pl_lower, pl_way, pl_more, pl_beyond), rfl, ho, by rw [ht]; exact hP, hD⟩, hS.F ht⟩) (fun q hq => hS.2.2 q hq) dX7_round_50
  have C_25 : ∀ (hbR_r : Nat → Int32) (pl_lower : Int32) (pl_way : Int32) (pl_more : Int32) (pl_beyond : Int32) (H : Heap) (locs : List Loc) (ls : Array Slot), wp_X7_round_25 post  hbR_r pl_lower pl_way pl_more pl_beyond → va_P D vwCl [(a_hb, oX7 a_fl a_pl a_va a_ce a_st a_li a_hbR), (a_hbR, .inl (cI, 7, .inl hbR_r)), (a_fl, oX1 fl_e fl_f fl_bias fl_codes fl_signBit fl_endless), (a_pl, oX3 a_fl pl_lower pl_way pl_more pl_beyond)] H → va_D A [(a_hb, oX7 a_fl a_pl a_va a_ce a_st a_li a_hbR), (a_hbR, .inl (cI, 7, .inl hbR_r)), (a_fl, oX1 fl_e fl_f fl_bias fl_codes fl_signBit fl_endless), (a_pl, oX3 a_fl pl_lower pl_way pl_more pl_beyond)] → va_S A s.heap H locs → lv_has ls 4 [(0, .ref a_hb)] → W p l e R s m args below meth c H locs 0 0 Q (F0 m 25 ls []) := by
    intro hbR_r pl_lower pl_way pl_more pl_beyond H locs ls ho hP hD hS hl
    unfold wp_X7_round_25 at ho
    refine lv_aload_n hx hb dX7_round_25 rfl (lv_at hl 0 rfl) ?_
    refine lv_bipush (v := (-4)) hx hb dX7_round_26 (by decide) ?_
    refine ca_Wi (b := a_hb) (As := [.int (-4 : Int32)]) (rest := []) (wr := [(a_fl, oX1 fl_e fl_f fl_bias fl_codes fl_signBit fl_endless), (a_pl, oX3 a_fl pl_lower pl_way pl_more pl_beyond)]) (wo := fun u => [(a_hb, oX7 a_fl a_pl a_va a_ce a_st a_li a_hbR), (a_hbR, .inl (cI, 7, .inl u))]) (wn := fun u => [(a_hb, oX7 a_fl a_pl a_va a_ce a_st a_li a_hbR), (a_hbR, .inl (cI, 7, .inl u)), (a_fl, oX1 fl_e fl_f fl_bias fl_codes fl_signBit fl_endless), (a_pl, oX3 a_fl pl_lower pl_way pl_more pl_beyond)]) ⟨hx, hb, hml, hown, hts⟩ (c_X7_refuse l D cI cJ cZ a_hb a_hbR a_fl a_pl a_va a_ce a_st a_li H.size hbR_r (-4 : Int32) _ _ rfl ho) (cwV 1 hts gX7_round_X7_refuse rfl rfl rfl (by decide +kernel) ⟨hRf _ (Nat.le_of_ble_eq_true rfl), hRl _ (Nat.le_of_ble_eq_true rfl)⟩) hK hN hP hD hS hA [0, 1] [2, 3] [2, 3, 0, 1] rfl rfl (by decide) (by decide) (by decide) (by decide) (fun _ => rfl) 0 6 rfl rfl rfl rfl hl.1 rfl (Nat.le_of_ble_eq_true rfl) dX7_round_28 ⟨Nat.zero_le _, Nat.zero_le _⟩ (fun r28 u28 H locs ho hP hD hS => ?_)
    try dsimp only at ho
    replace hP : va_P D vwCl [(a_hb, oX7 a_fl a_pl a_va a_ce a_st a_li a_hbR), (a_hbR, .inl (cI, 7, .inl u28)), (a_fl, oX1 fl_e fl_f fl_bias fl_codes fl_signBit fl_endless), (a_pl, oX3 a_fl pl_lower pl_way pl_more pl_beyond)] H := hP
    replace hD : va_D A [(a_hb, oX7 a_fl a_pl a_va a_ce a_st a_li a_hbR), (a_hbR, .inl (cI, 7, .inl u28)), (a_fl, oX1 fl_e fl_f fl_bias fl_codes fl_signBit fl_endless), (a_pl, oX3 a_fl pl_lower pl_way pl_more pl_beyond)] := hD
    subst hQ; exact W.iret (v := r28) hx hb hr (fun t ht hW => ⟨⟨r28, (u28, pl_lower, pl_way, pl_more, pl_beyond), rfl, ho, by rw [ht]; exact hP, hD⟩, hS.F ht⟩) (fun q hq => hS.2.2 q hq) dX7_round_31
  unfold wp_X7_round at ho
  refine lv_iload_n hx hb dX7_round_0 rfl (lv_at hl 3 rfl) ?_
  refine ca_Si (As := [.int p3]) (rest := []) ⟨hx, hb, hml, hown, hts⟩ (c_X7_isRounding l D cI cJ cZ   p3 _ ho) (va_cwS 1 hts gX7_round_X7_isRounding rfl rfl rfl (by decide +kernel) ⟨hRf _ (Nat.le_of_ble_eq_true rfl), hRl _ (Nat.le_of_ble_eq_true rfl)⟩) hK hN hP [] rfl rfl hl.1 rfl (Nat.le_of_ble_eq_true rfl) dX7_round_1 ⟨Nat.zero_le _, Nat.zero_le _⟩ (fun r1 ho => ?_)
  refine lv_if_ne (tgt := 13) hx hb dX7_round_4 (by decide) (fun c_4 => ?_) (fun c_4 => ?_)
  · replace ho := ho.1 c_4
    refine lv_iload_n hx hb dX7_round_13 rfl (lv_at hl 1 rfl) ?_
    refine lv_ldc hx hb hown (hts (.constant RX7 128 (-100000)) (List.mem_of_getElem? (i := 1) (by decide +kernel))) dX7_round_14 ?_
    refine lv_icmp_lt (tgt := 25) hx hb dX7_round_16 (by decide) (fun c_16 => ?_) (fun c_16 => ?_)
    · replace ho := ho.1 c_16
      exact C_25 hbR_r pl_lower pl_way pl_more pl_beyond H locs ls ho hP hD hS (lv_sub hl [0] rfl)
    · replace ho := ho.2 c_16
      refine lv_iload_n hx hb dX7_round_19 rfl (lv_at hl 2 rfl) ?_
      refine lv_bipush (v := (-60)) hx hb dX7_round_20 (by decide) ?_
      refine lv_icmp_ge (tgt := 32) hx hb dX7_round_22 (by decide) (fun c_22 => ?_) (fun c_22 => ?_)
      · replace ho := ho.1 c_22
        refine lv_iload_n hx hb dX7_round_32 rfl (lv_at hl 1 rfl) ?_
        refine lv_ldc hx hb hown (hts (.constant RX7 129 (100000)) (List.mem_of_getElem? (i := 2) (by decide +kernel))) dX7_round_33 ?_
        refine lv_icmp_gt (tgt := 44) hx hb dX7_round_35 (by decide) (fun c_35 => ?_) (fun c_35 => ?_)
        · replace ho := ho.1 c_35
          exact C_44 hbR_r pl_lower pl_way pl_more pl_beyond H locs ls ho hP hD hS (lv_sub hl [0] rfl)
        · replace ho := ho.2 c_35
          refine lv_iload_n hx hb dX7_round_38 rfl (lv_at hl 2 rfl) ?_
          refine lv_bipush (v := 60) hx hb dX7_round_39 (by decide) ?_
          refine lv_icmp_le (tgt := 51) hx hb dX7_round_41 (by decide) (fun c_41 => ?_) (fun c_41 => ?_)
          · replace ho := ho.1 c_41
            refine lv_iload_n hx hb dX7_round_51 rfl (lv_at hl 1 rfl) ?_
            refine lv_if_ne (tgt := 57) hx hb dX7_round_52 (by decide) (fun c_52 => ?_) (fun c_52 => ?_)
            · replace ho := ho.1 c_52
              refine lv_aload_n hx hb dX7_round_57 rfl (lv_at hl 0 rfl) ?_
              refine va_get (D := D) (ci := 6) (v := .ref a_pl) (C := RX7) (T := TX7) (N := 7) hx hb hts in_X7_round_X7 hown hK hP 0 rfl rfl 1 (by decide) (hts (.fieldLink RX7 21 "HardBench" "place" "LHardBench$Place;") (List.mem_of_getElem? (i := 3) (by decide +kernel))) (fun _ h9 => h9) rfl dX7_round_58 ?_
              refine lv_iload_n hx hb dX7_round_61 rfl (lv_at hl 1 rfl) ?_
              refine va_mabs hx hb (hml.trans hl.1.symm) hown (hts (.methodLink RX7 116 Lib.Math.abs.name) (List.mem_of_getElem? (i := 4) (by decide +kernel))) (hts (.static Lib.Math.abs.name) (List.mem_of_getElem? (i := 5) (by decide +kernel))) (hts (.initialized "java/lang/Math") (List.mem_of_getElem? (i := 6) (by decide +kernel))) (hts (.code Lib.Math.abs.name Lib.Math.abs.code 1 (some .int)) (List.mem_of_getElem? (i := 7) (by decide +kernel))) (hRf 1 (Nat.le_of_ble_eq_true rfl)) (hRl _ (Nat.le_of_ble_eq_true rfl)) (Nat.zero_le _) (Nat.zero_le _) dX7_round_62 ?_
              refine lv_i2l hx hb dX7_round_65 rfl ?_
              refine lv_iload_n hx hb dX7_round_66 rfl (lv_at hl 2 rfl) ?_
              refine lv_iconst (v := 0) hx hb dX7_round_67 (by decide) ?_
              refine ca_Wv (b := a_pl) (As := [.long ((if 0 ≤ p1 then p1 else 0 - p1).toInt64), .int p2, .int (0 : Int32)]) (rest := []) (wr := [(a_hb, oX7 a_fl a_pl a_va a_ce a_st a_li a_hbR), (a_hbR, .inl (cI, 7, .inl hbR_r))]) (wo := fun u => [(a_fl, oX1 fl_e fl_f fl_bias fl_codes fl_signBit fl_endless), (a_pl, oX3 a_fl u.1 u.2.1 u.2.2.1 u.2.2.2)]) (wn := fun u => [(a_hb, oX7 a_fl a_pl a_va a_ce a_st a_li a_hbR), (a_hbR, .inl (cI, 7, .inl hbR_r)), (a_fl, oX1 fl_e fl_f fl_bias fl_codes fl_signBit fl_endless), (a_pl, oX3 a_fl u.1 u.2.1 u.2.2.1 u.2.2.2)]) ⟨hx, hb, hml, hown, hts⟩ (c_X3_lay l D cI cJ cZ a_fl a_pl H.size fl_e fl_f fl_bias fl_codes fl_signBit fl_endless pl_lower pl_way pl_more pl_beyond ((if 0 ≤ p1 then p1 else 0 - p1).toInt64) p2 (0 : Int32) _ _ rfl ho) (cwV 3 hts gX7_round_X3_lay rfl rfl rfl (by decide +kernel) ⟨hRf _ (Nat.le_of_ble_eq_true rfl), hRl _ (Nat.le_of_ble_eq_true rfl)⟩) hK hN hP hD hS hA [2, 3] [0, 1] [0, 1, 2, 3] rfl rfl (by decide) (by decide) (by decide) (by decide) (fun _ => rfl) 1 3 rfl rfl rfl rfl hl.1 rfl (Nat.le_of_ble_eq_true rfl) dX7_round_68 ⟨Nat.zero_le _, Nat.zero_le _⟩ (fun  u68 H locs ho hP hD hS => ?_)
              obtain ⟨u68_1, u68_2, u68_3, u68_4⟩ := u68
              try dsimp only at ho
              replace hP : va_P D vwCl [(a_hb, oX7 a_fl a_pl a_va a_ce a_st a_li a_hbR), (a_hbR, .inl (cI, 7, .inl hbR_r)), (a_fl, oX1 fl_e fl_f fl_bias fl_codes fl_signBit fl_endless), (a_pl, oX3 a_fl u68_1 u68_2 u68_3 u68_4)] H := hP
              replace hD : va_D A [(a_hb, oX7 a_fl a_pl a_va a_ce a_st a_li a_hbR), (a_hbR, .inl (cI, 7, .inl hbR_r)), (a_fl, oX1 fl_e fl_f fl_bias fl_codes fl_signBit fl_endless), (a_pl, oX3 a_fl u68_1 u68_2 u68_3 u68_4)] := hD
              refine lv_aload_n hx hb dX7_round_71 rfl (lv_at hl 0 rfl) ?_
              refine va_get (D := D) (ci := 6) (v := .ref a_pl) (C := RX7) (T := TX7) (N := 7) hx hb hts in_X7_round_X7 hown hK hP 0 rfl rfl 1 (by decide) (hts (.fieldLink RX7 21 "HardBench" "place" "LHardBench$Place;") (List.mem_of_getElem? (i := 3) (by decide +kernel))) (fun _ h9 => h9) rfl dX7_round_72 ?_
              refine lv_iload_n hx hb dX7_round_75 rfl (lv_at hl 1 rfl) ?_
              refine lv_if_ge (tgt := 83) hx hb dX7_round_76 (by decide) (fun c_76 => ?_) (fun c_76 => ?_)
              · replace ho := ho.1 c_76
                refine lv_iconst (v := 0) hx hb dX7_round_83 (by decide) ?_
                exact C_84 hbR_r u68_1 u68_2 u68_3 u68_4 (0 : Int32) H locs ls ho hP hD hS (lv_sub hl [3] rfl)
              · replace ho := ho.2 c_76
                refine lv_iconst (v := 1) hx hb dX7_round_79 (by decide) ?_
                refine lv_goto (tgt := 84) hx hb dX7_round_80 (by decide) ?_
                exact C_84 hbR_r u68_1 u68_2 u68_3 u68_4 (1 : Int32) H locs ls ho hP hD hS (lv_sub hl [3] rfl)
            · replace ho := ho.2 c_52
              refine lv_iconst (v := 0) hx hb dX7_round_55 (by decide) ?_
              subst hQ; exact W.iret (v := (0 : Int32)) hx hb hr (fun t ht hW => ⟨⟨(0 : Int32), (hbR_r, pl_lower, pl_way, pl_more, pl_beyond), rfl, ho, by rw [ht]; exact hP, hD⟩, hS.F ht⟩) (fun q hq => hS.2.2 q hq) dX7_round_56
          · replace ho := ho.2 c_41
            exact C_44 hbR_r pl_lower pl_way pl_more pl_beyond H locs ls ho hP hD hS (lv_sub hl [0] rfl)
      · replace ho := ho.2 c_22
        exact C_25 hbR_r pl_lower pl_way pl_more pl_beyond H locs ls ho hP hD hS (lv_sub hl [0] rfl)
  · replace ho := ho.2 c_4
    refine lv_aload_n hx hb dX7_round_7 rfl (lv_at hl 0 rfl) ?_
    refine lv_iconst (v := (-1)) hx hb dX7_round_8 (by decide) ?_
    refine ca_Wi (b := a_hb) (As := [.int (-1 : Int32)]) (rest := []) (wr := [(a_fl, oX1 fl_e fl_f fl_bias fl_codes fl_signBit fl_endless), (a_pl, oX3 a_fl pl_lower pl_way pl_more pl_beyond)]) (wo := fun u => [(a_hb, oX7 a_fl a_pl a_va a_ce a_st a_li a_hbR), (a_hbR, .inl (cI, 7, .inl u))]) (wn := fun u => [(a_hb, oX7 a_fl a_pl a_va a_ce a_st a_li a_hbR), (a_hbR, .inl (cI, 7, .inl u)), (a_fl, oX1 fl_e fl_f fl_bias fl_codes fl_signBit fl_endless), (a_pl, oX3 a_fl pl_lower pl_way pl_more pl_beyond)]) ⟨hx, hb, hml, hown, hts⟩ (c_X7_refuse l D cI cJ cZ a_hb a_hbR a_fl a_pl a_va a_ce a_st a_li H.size hbR_r (-1 : Int32) _ _ rfl ho) (cwV 1 hts gX7_round_X7_refuse rfl rfl rfl (by decide +kernel) ⟨hRf _ (Nat.le_of_ble_eq_true rfl), hRl _ (Nat.le_of_ble_eq_true rfl)⟩) hK hN hP hD hS hA [0, 1] [2, 3] [2, 3, 0, 1] rfl rfl (by decide) (by decide) (by decide) (by decide) (fun _ => rfl) 0 6 rfl rfl rfl rfl hl.1 rfl (Nat.le_of_ble_eq_true rfl) dX7_round_9 ⟨Nat.zero_le _, Nat.zero_le _⟩ (fun r9 u9 H locs ho hP hD hS => ?_)
    try dsimp only at ho
    replace hP : va_P D vwCl [(a_hb, oX7 a_fl a_pl a_va a_ce a_st a_li a_hbR), (a_hbR, .inl (cI, 7, .inl u9)), (a_fl, oX1 fl_e fl_f fl_bias fl_codes fl_signBit fl_endless), (a_pl, oX3 a_fl pl_lower pl_way pl_more pl_beyond)] H := hP
    replace hD : va_D A [(a_hb, oX7 a_fl a_pl a_va a_ce a_st a_li a_hbR), (a_hbR, .inl (cI, 7, .inl u9)), (a_fl, oX1 fl_e fl_f fl_bias fl_codes fl_signBit fl_endless), (a_pl, oX3 a_fl pl_lower pl_way pl_more pl_beyond)] := hD
    subst hQ; exact W.iret (v := r9) hx hb hr (fun t ht hW => ⟨⟨r9, (u9, pl_lower, pl_way, pl_more, pl_beyond), rfl, ho, by rw [ht]; exact hP, hD⟩, hS.F ht⟩) (fun q hq => hS.2.2 q hq) dX7_round_12

def wp_X7_isFunction (post : Int32 → Prop) (p1 : Int32) : Prop := ((p1 < 0) → (post (0 : Int32))) ∧ ((¬ (p1 < 0)) → ((((5 : Int32) ≤ p1) → (post (0 : Int32))) ∧ ((¬ ((5 : Int32) ≤ p1)) → (post (1 : Int32)))))
set_option maxHeartbeats 4000000 in
set_option maxRecDepth 100000 in
theorem c_X7_isFunction (l : Launch) (D : va_G) (cI cJ cZ : ClassId)   (p1 : Int32) (post : Int32 → Prop) (ho : wp_X7_isFunction post p1) : Met l yX7_isFunction wsX7_isFunction ({ frames := 0, cells := 0, slots := 0, locals := 0 } : Room) (ro_P D [(cI, .int), (cJ, .long), (cZ, .boolean)] [.int p1] []) (vp_Si post) 0 0 (fun _ => False) := by
  refine Met.ofW (cc := cX7_isFunction) (maxL := 1) (ret := (some .boolean)) (by decide) rfl ?_
  intro p e s m args below meth c s₁ B hml hv
  obtain ⟨hargs, hP, hK, hN⟩ := hv
  have hx := B.exec
  have hb := B.bytes
  have hr := B.returns
  have hts := atoms_spec (ws := wsX7_isFunction) B.pre
  have hown : s.vm.findClass RX7 = some m.cls := findClass_of_methodNamed B.named
  have hlocks := B.notSynchronized
  have hl := lv_entry ([.int p1]) (n := 1) (Nat.le_of_ble_eq_true rfl)
  rw [hargs, lg_entry_eq, ← hargs]
  generalize (lg_sl ([.int p1]) ++ List.replicate (1 - (lg_sl ([.int p1])).length) Slot.unset).toArray = ls at hl ⊢
  replace hl : lv_has ls 1 [(0, .int p1)] := hl
  have hRf : ∀ n, n ≤ 0 → n ≤ (headSpec wsX7_isFunction ({ frames := 0, cells := 0, slots := 0, locals := 0 } : Room)).room.frames := fun n h => h
  have hRl : ∀ n, n ≤ 0 → n ≤ (headSpec wsX7_isFunction ({ frames := 0, cells := 0, slots := 0, locals := 0 } : Room)).room.locals := fun n h => h
  generalize (headSpec wsX7_isFunction ({ frames := 0, cells := 0, slots := 0, locals := 0 } : Room)).room = R at hRf hRl ⊢
  generalize hQ : MQ below _ args s 0 0 _ = Q
  unfold wp_X7_isFunction at ho
  refine lv_iload_n hx hb dX7_isFunction_0 rfl (lv_at hl 0 rfl) ?_
  refine lv_if_lt (tgt := 13) hx hb dX7_isFunction_1 (by decide) (fun c_1 => ?_) (fun c_1 => ?_)
  · replace ho := ho.1 c_1
    refine lv_iconst (v := 0) hx hb dX7_isFunction_13 (by decide) ?_
    subst hQ; exact W.zret (v := (0 : Int32)) hx hb hr rfl (fun t ht _ => ⟨(0 : Int32), rfl, ho, ht⟩) (fun _ h => by cases h) dX7_isFunction_14
  · replace ho := ho.2 c_1
    refine lv_iload_n hx hb dX7_isFunction_4 rfl (lv_at hl 0 rfl) ?_
    refine lv_iconst (v := 5) hx hb dX7_isFunction_5 (by decide) ?_
    refine lv_icmp_ge (tgt := 13) hx hb dX7_isFunction_6 (by decide) (fun c_6 => ?_) (fun c_6 => ?_)
    · replace ho := ho.1 c_6
      refine lv_iconst (v := 0) hx hb dX7_isFunction_13 (by decide) ?_
      subst hQ; exact W.zret (v := (0 : Int32)) hx hb hr rfl (fun t ht _ => ⟨(0 : Int32), rfl, ho, ht⟩) (fun _ h => by cases h) dX7_isFunction_14
    · replace ho := ho.2 c_6
      refine lv_iconst (v := 1) hx hb dX7_isFunction_9 (by decide) ?_
      refine lv_goto (tgt := 14) hx hb dX7_isFunction_10 (by decide) ?_
      subst hQ; exact W.zret (v := (1 : Int32)) hx hb hr rfl (fun t ht _ => ⟨(1 : Int32), rfl, ho, ht⟩) (fun _ h => by cases h) dX7_isFunction_14

def wp_X7_right_25 (post : Int32 → (Nat → Int32) → Int64 → Int32 → Int32 → Int32 → Int32 → Int32 → Int32 → Int32 → Int32 → Int32 → Int32 → Prop)  (hbR_r : Nat → Int32) (va_m : Int64) (va_x : Int32) (va_more : Int32) (va_laid : Int32) (va_below : Int32) (va_settled : Int32) (va_sort : Int32) (p2_lower : Int32) (p2_way : Int32) (p2_more : Int32) (p2_beyond : Int32) : Prop := wp_X7_refuse (fun r27 u27 => (post r27 u27 va_m va_x va_more va_laid va_below va_settled va_sort p2_lower p2_way p2_more p2_beyond)) hbR_r (-1 : Int32)
def wp_X7_right (post : Int32 → (Nat → Int32) → Int64 → Int32 → Int32 → Int32 → Int32 → Int32 → Int32 → Int32 → Int32 → Int32 → Int32 → Prop) (hbR_r : Nat → Int32) (fl_f : Int32) (fl_bias : Int32) (fl_codes : Int32) (fl_signBit : Int32) (fl_endless : Int32) (va_m : Int64) (va_x : Int32) (va_more : Int32) (va_laid : Int32) (va_below : Int32) (va_settled : Int32) (va_sort : Int32) (p2_lower : Int32) (p2_way : Int32) (p2_more : Int32) (p2_beyond : Int32) (p1 : Int32) (p2 : Int32) (p3 : Int32) : Prop := wp_X7_isFunction (fun r1 => (((r1 = 0) → (wp_X7_right_25 post hbR_r va_m va_x va_more va_laid va_below va_settled va_sort p2_lower p2_way p2_more p2_beyond)) ∧ ((¬ (r1 = 0)) → (wp_X1_isCode (fun r12 => (((r12 = 0) → (wp_X7_right_25 post hbR_r va_m va_x va_more va_laid va_below va_settled va_sort p2_lower p2_way p2_more p2_beyond)) ∧ ((¬ (r12 = 0)) → (wp_X7_isRounding (fun r19 => (((¬ r19 = 0) → (wp_X6_resultAt (fun r38 u38_1 u38_2 u38_3 u38_4 u38_5 u38_6 u38_7 u38_8 u38_9 u38_10 u38_11 => (post r38 hbR_r u38_1 u38_2 u38_3 u38_4 u38_5 u38_6 u38_7 u38_8 u38_9 u38_10 u38_11)) fl_f fl_bias fl_signBit fl_endless va_m va_x va_more va_below va_settled p2_lower p2_way p2_more p2_beyond p1 p2 p3)) ∧ ((¬ (¬ r19 = 0)) → (wp_X7_right_25 post hbR_r va_m va_x va_more va_laid va_below va_settled va_sort p2_lower p2_way p2_more p2_beyond)))) p3)))) fl_codes p2)))) p1
set_option maxRecDepth 20000 in
theorem in_X7_right_X7 : ∀ w ∈ u_ws RX7 TX7 7, w ∈ wsX7_right := fun w h => (goodIn_r wsX70 [174, 175, 176, 177, 178, 179, 180] (by decide +kernel) (by decide +kernel) w h).1
set_option maxHeartbeats 4000000 in
set_option maxRecDepth 100000 in
theorem c_X7_right (l : Launch) (D : va_G) (cI cJ cZ : ClassId) (a_hb : Nat) (a_hbR : Nat) (a_fl : Nat) (a_pl : Nat) (a_va : Nat) (a_p2 : Nat) (a_ce : Nat) (a_st : Nat) (a_li : Nat) (sz : Nat) (hbR_r : Nat → Int32) (fl_e : Int32) (fl_f : Int32) (fl_bias : Int32) (fl_codes : Int32) (fl_signBit : Int32) (fl_endless : Int32) (va_m : Int64) (va_x : Int32) (va_more : Int32) (va_laid : Int32) (va_below : Int32) (va_settled : Int32) (va_sort : Int32) (p2_lower : Int32) (p2_way : Int32) (p2_more : Int32) (p2_beyond : Int32) (p1 : Int32) (p2 : Int32) (p3 : Int32) (post : Int32 → (Nat → Int32) → Int64 → Int32 → Int32 → Int32 → Int32 → Int32 → Int32 → Int32 → Int32 → Int32 → Int32 → Prop) (A : Nat → Prop) (hAe : A = va_A [(a_hb, oX7 a_fl a_pl a_va a_ce a_st a_li a_hbR), (a_hbR, .inl (cI, 7, .inl hbR_r)), (a_fl, oX1 fl_e fl_f fl_bias fl_codes fl_signBit fl_endless), (a_va, oX6 a_fl a_p2 va_m va_x va_more va_laid va_below va_settled va_sort), (a_p2, oX3 a_fl p2_lower p2_way p2_more p2_beyond)] sz) (ho : wp_X7_right post hbR_r fl_f fl_bias fl_codes fl_signBit fl_endless va_m va_x va_more va_laid va_below va_settled va_sort p2_lower p2_way p2_more p2_beyond p1 p2 p3) : Met l yX7_right wsX7_right ({ frames := 5, cells := 0, slots := 0, locals := 126 } : Room) (rw_P D [(cI, .int), (cJ, .long), (cZ, .boolean)] [.ref a_hb, .int p1, .int p2, .int p3] sz [(a_hb, oX7 a_fl a_pl a_va a_ce a_st a_li a_hbR), (a_hbR, .inl (cI, 7, .inl hbR_r)), (a_fl, oX1 fl_e fl_f fl_bias fl_codes fl_signBit fl_endless), (a_va, oX6 a_fl a_p2 va_m va_x va_more va_laid va_below va_settled va_sort), (a_p2, oX3 a_fl p2_lower p2_way p2_more p2_beyond)]) (va_Qi (fun (r : Int32) (u : (Nat → Int32) × (Int64) × (Int32) × (Int32) × (Int32) × (Int32) × (Int32) × (Int32) × (Int32) × (Int32) × (Int32) × (Int32)) => post r u.1 u.2.1 u.2.2.1 u.2.2.2.1 u.2.2.2.2.1 u.2.2.2.2.2.1 u.2.2.2.2.2.2.1 u.2.2.2.2.2.2.2.1 u.2.2.2.2.2.2.2.2.1 u.2.2.2.2.2.2.2.2.2.1 u.2.2.2.2.2.2.2.2.2.2.1 u.2.2.2.2.2.2.2.2.2.2.2) (rw_B D A (fun (u : (Nat → Int32) × (Int64) × (Int32) × (Int32) × (Int32) × (Int32) × (Int32) × (Int32) × (Int32) × (Int32) × (Int32) × (Int32)) => [(a_hb, oX7 a_fl a_pl a_va a_ce a_st a_li a_hbR), (a_hbR, .inl (cI, 7, .inl u.1)), (a_fl, oX1 fl_e fl_f fl_bias fl_codes fl_signBit fl_endless), (a_va, oX6 a_fl a_p2 u.2.1 u.2.2.1 u.2.2.2.1 u.2.2.2.2.1 u.2.2.2.2.2.1 u.2.2.2.2.2.2.1 u.2.2.2.2.2.2.2.1), (a_p2, oX3 a_fl u.2.2.2.2.2.2.2.2.1 u.2.2.2.2.2.2.2.2.2.1 u.2.2.2.2.2.2.2.2.2.2.1 u.2.2.2.2.2.2.2.2.2.2.2)])) A) 0 0 A := by
  refine Met.ofW (cc := cX7_right) (maxL := 4) (ret := (some .int)) (by decide) rfl ?_
  intro p e s m args below meth c s₁ B hml hv
  obtain ⟨hargs, hsz, hP, hK, hN, hD0⟩ := hv
  have hx := B.exec
  have hb := B.bytes
  have hr := B.returns
  have hts := atoms_spec (ws := wsX7_right) B.pre
  have hown : s.vm.findClass RX7 = some m.cls := findClass_of_methodNamed B.named
  have hlocks := B.notSynchronized
  subst hsz
  have hD : va_D A [(a_hb, oX7 a_fl a_pl a_va a_ce a_st a_li a_hbR), (a_hbR, .inl (cI, 7, .inl hbR_r)), (a_fl, oX1 fl_e fl_f fl_bias fl_codes fl_signBit fl_endless), (a_va, oX6 a_fl a_p2 va_m va_x va_more va_laid va_below va_settled va_sort), (a_p2, oX3 a_fl p2_lower p2_way p2_more p2_beyond)] := by rw [hAe]; exact hD0.self
  have hA : ∀ q : Nat, s.heap.size ≤ q → A q := fun q h => by rw [hAe]; exact Or.inr h
  have hS : va_S A s.heap s.heap [] := va_S.rf
  have hl := lv_entry ([.ref a_hb, .int p1, .int p2, .int p3]) (n := 4) (Nat.le_of_ble_eq_true rfl)
  rw [hargs, lg_entry_eq, ← hargs]
  generalize (lg_sl ([.ref a_hb, .int p1, .int p2, .int p3]) ++ List.replicate (4 - (lg_sl ([.ref a_hb, .int p1, .int p2, .int p3])).length) Slot.unset).toArray = ls at hl ⊢
  replace hl : lv_has ls 4 [(0, .ref a_hb), (1, .int p1), (2, .int p2), (3, .int p3)] := hl
  have hRf : ∀ n, n ≤ 5 → n ≤ (headSpec wsX7_right ({ frames := 5, cells := 0, slots := 0, locals := 126 } : Room)).room.frames := fun n h => h
  have hRl : ∀ n, n ≤ 126 → n ≤ (headSpec wsX7_right ({ frames := 5, cells := 0, slots := 0, locals := 126 } : Room)).room.locals := fun n h => h
  generalize (headSpec wsX7_right ({ frames := 5, cells := 0, slots := 0, locals := 126 } : Room)).room = R at hRf hRl ⊢
  generalize hQ : MQ below _ args s 0 0 _ = Q
  have C_25 : ∀ (hbR_r : Nat → Int32) (va_m : Int64) (va_x : Int32) (va_more : Int32) (va_laid : Int32) (va_below : Int32) (va_settled : Int32) (va_sort : Int32) (p2_lower : Int32) (p2_way : Int32) (p2_more : Int32) (p2_beyond : Int32) (H : Heap) (locs : List Loc) (ls : Array Slot), wp_X7_right_25 post  hbR_r va_m va_x va_more va_laid va_below va_settled va_sort p2_lower p2_way p2_more p2_beyond → va_P D vwCl [(a_hb, oX7 a_fl a_pl a_va a_ce a_st a_li a_hbR), (a_hbR, .inl (cI, 7, .inl hbR_r)), (a_fl, oX1 fl_e fl_f fl_bias fl_codes fl_signBit fl_endless), (a_va, oX6 a_fl a_p2 va_m va_x va_more va_laid va_below va_settled va_sort), (a_p2, oX3 a_fl p2_lower p2_way p2_more p2_beyond)] H → va_D A [(a_hb, oX7 a_fl a_pl a_va a_ce a_st a_li a_hbR), (a_hbR, .inl (cI, 7, .inl hbR_r)), (a_fl, oX1 fl_e fl_f fl_bias fl_codes fl_signBit fl_endless), (a_va, oX6 a_fl a_p2 va_m va_x va_more va_laid va_below va_settled va_sort), (a_p2, oX3 a_fl p2_lower p2_way p2_more p2_beyond)] → va_S A s.heap H locs → lv_has ls 4 [(0, .ref a_hb)] → W p l e R s m args below meth c H locs 0 0 Q (F0 m 25 ls []) := by
    intro hbR_r va_m va_x va_more va_laid va_below va_settled va_sort p2_lower p2_way p2_more p2_beyond H locs ls ho hP hD hS hl
    unfold wp_X7_right_25 at ho
    refine lv_aload_n hx hb dX7_right_25 rfl (lv_at hl 0 rfl) ?_
    refine lv_iconst (v := (-1)) hx hb dX7_right_26 (by decide) ?_
    refine ca_Wi (b := a_hb) (As := [.int (-1 : Int32)]) (rest := []) (wr := [(a_fl, oX1 fl_e fl_f fl_bias fl_codes fl_signBit fl_endless), (a_va, oX6 a_fl a_p2 va_m va_x va_more va_laid va_below va_settled va_sort), (a_p2, oX3 a_fl p2_lower p2_way p2_more p2_beyond)]) (wo := fun u => [(a_hb, oX7 a_fl a_pl a_va a_ce a_st a_li a_hbR), (a_hbR, .inl (cI, 7, .inl u))]) (wn := fun u => [(a_hb, oX7 a_fl a_pl a_va a_ce a_st a_li a_hbR), (a_hbR, .inl (cI, 7, .inl u)), (a_fl, oX1 fl_e fl_f fl_bias fl_codes fl_signBit fl_endless), (a_va, oX6 a_fl a_p2 va_m va_x va_more va_laid va_below va_settled va_sort), (a_p2, oX3 a_fl p2_lower p2_way p2_more p2_beyond)]) ⟨hx, hb, hml, hown, hts⟩ (c_X7_refuse l D cI cJ cZ a_hb a_hbR a_fl a_pl a_va a_ce a_st a_li H.size hbR_r (-1 : Int32) _ _ rfl ho) (cwV 1 hts gX7_right_X7_refuse rfl rfl rfl (by decide +kernel) ⟨hRf _ (Nat.le_of_ble_eq_true rfl), hRl _ (Nat.le_of_ble_eq_true rfl)⟩) hK hN hP hD hS hA [0, 1] [2, 3, 4] [3, 4, 0, 1, 2] rfl rfl (by decide) (by decide) (by decide) (by decide) (fun _ => rfl) 0 6 rfl rfl rfl rfl hl.1 rfl (Nat.le_of_ble_eq_true rfl) dX7_right_27 ⟨Nat.zero_le _, Nat.zero_le _⟩ (fun r27 u27 H locs ho hP hD hS => ?_)
    try dsimp only at ho
    replace hP : va_P D vwCl [(a_hb, oX7 a_fl a_pl a_va a_ce a_st a_li a_hbR), (a_hbR, .inl (cI, 7, .inl u27)), (a_fl, oX1 fl_e fl_f fl_bias fl_codes fl_signBit fl_endless), (a_va, oX6 a_fl a_p2 va_m va_x va_more va_laid va_below va_settled va_sort), (a_p2, oX3 a_fl p2_lower p2_way p2_more p2_beyond)] H := hP
    replace hD : va_D A [(a_hb, oX7 a_fl a_pl a_va a_ce a_st a_li a_hbR), (a_hbR, .inl (cI, 7, .inl u27)), (a_fl, oX1 fl_e fl_f fl_bias fl_codes fl_signBit fl_endless), (a_va, oX6 a_fl a_p2 va_m va_x va_more va_laid va_below va_settled va_sort), (a_p2, oX3 a_fl p2_lower p2_way p2_more p2_beyond)] := hD
    subst hQ; exact W.iret (v := r27) hx hb hr (fun t ht hW => ⟨⟨r27, (u27, va_m, va_x, va_more, va_laid, va_below, va_settled, va_sort, p2_lower, p2_way, p2_more, p2_beyond), rfl, ho, by rw [ht]; exact hP, hD⟩, hS.F ht⟩) (fun q hq => hS.2.2 q hq) dX7_right_30
  unfold wp_X7_right at ho
  refine lv_iload_n hx hb dX7_right_0 rfl (lv_at hl 1 rfl) ?_
  refine ca_Si (As := [.int p1]) (rest := []) ⟨hx, hb, hml, hown, hts⟩ (c_X7_isFunction l D cI cJ cZ   p1 _ ho) (va_cwS 1 hts gX7_right_X7_isFunction rfl rfl rfl (by decide +kernel) ⟨hRf _ (Nat.le_of_ble_eq_true rfl), hRl _ (Nat.le_of_ble_eq_true rfl)⟩) hK hN hP [] rfl rfl hl.1 rfl (Nat.le_of_ble_eq_true rfl) dX7_right_1 ⟨Nat.zero_le _, Nat.zero_le _⟩ (fun r1 ho => ?_)
  refine lv_if_eq (tgt := 25) hx hb dX7_right_4 (by decide) (fun c_4 => ?_) (fun c_4 => ?_)
  · replace ho := ho.1 c_4
    exact C_25 hbR_r va_m va_x va_more va_laid va_below va_settled va_sort p2_lower p2_way p2_more p2_beyond H locs ls ho hP hD hS (lv_sub hl [0] rfl)
  · replace ho := ho.2 c_4
    refine lv_aload_n hx hb dX7_right_7 rfl (lv_at hl 0 rfl) ?_
    refine va_get (D := D) (ci := 6) (v := .ref a_fl) (C := RX7) (T := TX7) (N := 7) hx hb hts in_X7_right_X7 hown hK hP 0 rfl rfl 0 (by decide) (hts (.fieldLink RX7 12 "HardBench" "floats" "LHardBench$Floats;") (List.mem_of_getElem? (i := 1) (by decide +kernel))) (fun _ h9 => h9) rfl dX7_right_8 ?_
    refine lv_iload_n hx hb dX7_right_11 rfl (lv_at hl 2 rfl) ?_
    refine ca_Vi (b := a_fl) (As := [.int p2]) (rest := []) ⟨hx, hb, hml, hown, hts⟩ (c_X1_isCode l D cI cJ cZ a_fl fl_e fl_f fl_bias fl_codes fl_signBit fl_endless p2 _ ho) (cwV 1 hts gX7_right_X1_isCode rfl rfl rfl (by decide +kernel) ⟨hRf _ (Nat.le_of_ble_eq_true rfl), hRl _ (Nat.le_of_ble_eq_true rfl)⟩) hK hN hP [2] rfl 0 1 rfl rfl rfl rfl hl.1 rfl (Nat.le_of_ble_eq_true rfl) dX7_right_12 ⟨Nat.zero_le _, Nat.zero_le _⟩ (fun r12 ho => ?_)
    refine lv_if_eq (tgt := 25) hx hb dX7_right_15 (by decide) (fun c_15 => ?_) (fun c_15 => ?_)
    · replace ho := ho.1 c_15
      exact C_25 hbR_r va_m va_x va_more va_laid va_below va_settled va_sort p2_lower p2_way p2_more p2_beyond H locs ls ho hP hD hS (lv_sub hl [0] rfl)
    · replace ho := ho.2 c_15
      refine lv_iload_n hx hb dX7_right_18 rfl (lv_at hl 3 rfl) ?_
      refine ca_Si (As := [.int p3]) (rest := []) ⟨hx, hb, hml, hown, hts⟩ (c_X7_isRounding l D cI cJ cZ   p3 _ ho) (va_cwS 1 hts gX7_right_X7_isRounding rfl rfl rfl (by decide +kernel) ⟨hRf _ (Nat.le_of_ble_eq_true rfl), hRl _ (Nat.le_of_ble_eq_true rfl)⟩) hK hN hP [] rfl rfl hl.1 rfl (Nat.le_of_ble_eq_true rfl) dX7_right_19 ⟨Nat.zero_le _, Nat.zero_le _⟩ (fun r19 ho => ?_)
      refine lv_if_ne (tgt := 31) hx hb dX7_right_22 (by decide) (fun c_22 => ?_) (fun c_22 => ?_)
      · replace ho := ho.1 c_22
        refine lv_aload_n hx hb dX7_right_31 rfl (lv_at hl 0 rfl) ?_
        refine va_get (D := D) (ci := 6) (v := .ref a_va) (C := RX7) (T := TX7) (N := 7) hx hb hts in_X7_right_X7 hown hK hP 0 rfl rfl 2 (by decide) (hts (.fieldLink RX7 28 "HardBench" "value" "LHardBench$Value;") (List.mem_of_getElem? (i := 2) (by decide +kernel))) (fun _ h9 => h9) rfl dX7_right_32 ?_
        refine lv_iload_n hx hb dX7_right_35 rfl (lv_at hl 1 rfl) ?_
        refine lv_iload_n hx hb dX7_right_36 rfl (lv_at hl 2 rfl) ?_
        refine lv_iload_n hx hb dX7_right_37 rfl (lv_at hl 3 rfl) ?_
        refine ca_Wi (b := a_va) (As := [.int p1, .int p2, .int p3]) (rest := []) (wr := [(a_hb, oX7 a_fl a_pl a_va a_ce a_st a_li a_hbR), (a_hbR, .inl (cI, 7, .inl hbR_r))]) (wo := fun u => [(a_fl, oX1 fl_e fl_f fl_bias fl_codes fl_signBit fl_endless), (a_va, oX6 a_fl a_p2 u.1 u.2.1 u.2.2.1 u.2.2.2.1 u.2.2.2.2.1 u.2.2.2.2.2.1 u.2.2.2.2.2.2.1), (a_p2, oX3 a_fl u.2.2.2.2.2.2.2.1 u.2.2.2.2.2.2.2.2.1 u.2.2.2.2.2.2.2.2.2.1 u.2.2.2.2.2.2.2.2.2.2)]) (wn := fun u => [(a_hb, oX7 a_fl a_pl a_va a_ce a_st a_li a_hbR), (a_hbR, .inl (cI, 7, .inl hbR_r)), (a_fl, oX1 fl_e fl_f fl_bias fl_codes fl_signBit fl_endless), (a_va, oX6 a_fl a_p2 u.1 u.2.1 u.2.2.1 u.2.2.2.1 u.2.2.2.2.1 u.2.2.2.2.2.1 u.2.2.2.2.2.2.1), (a_p2, oX3 a_fl u.2.2.2.2.2.2.2.1 u.2.2.2.2.2.2.2.2.1 u.2.2.2.2.2.2.2.2.2.1 u.2.2.2.2.2.2.2.2.2.2)]) ⟨hx, hb, hml, hown, hts⟩ (c_X6_resultAt l D cI cJ cZ a_fl a_va a_p2 H.size fl_e fl_f fl_bias fl_codes fl_signBit fl_endless va_m va_x va_more va_laid va_below va_settled va_sort p2_lower p2_way p2_more p2_beyond p1 p2 p3 _ _ rfl ho) (cwV 3 hts gX7_right_X6_resultAt rfl rfl rfl (by decide +kernel) ⟨hRf _ (Nat.le_of_ble_eq_true rfl), hRl _ (Nat.le_of_ble_eq_true rfl)⟩) hK hN hP hD hS hA [2, 3, 4] [0, 1] [0, 1, 2, 3, 4] rfl rfl (by decide) (by decide) (by decide) (by decide) (fun _ => rfl) 1 5 rfl rfl rfl rfl hl.1 rfl (Nat.le_of_ble_eq_true rfl) dX7_right_38 ⟨Nat.zero_le _, Nat.zero_le _⟩ (fun r38 u38 H locs ho hP hD hS => ?_)
        obtain ⟨u38_1, u38_2, u38_3, u38_4, u38_5, u38_6, u38_7, u38_8, u38_9, u38_10, u38_11⟩ := u38
        try dsimp only at ho
        replace hP : va_P D vwCl [(a_hb, oX7 a_fl a_pl a_va a_ce a_st a_li a_hbR), (a_hbR, .inl (cI, 7, .inl hbR_r)), (a_fl, oX1 fl_e fl_f fl_bias fl_codes fl_signBit fl_endless), (a_va, oX6 a_fl a_p2 u38_1 u38_2 u38_3 u38_4 u38_5 u38_6 u38_7), (a_p2, oX3 a_fl u38_8 u38_9 u38_10 u38_11)] H := hP
        replace hD : va_D A [(a_hb, oX7 a_fl a_pl a_va a_ce a_st a_li a_hbR), (a_hbR, .inl (cI, 7, .inl hbR_r)), (a_fl, oX1 fl_e fl_f fl_bias fl_codes fl_signBit fl_endless), (a_va, oX6 a_fl a_p2 u38_1 u38_2 u38_3 u38_4 u38_5 u38_6 u38_7), (a_p2, oX3 a_fl u38_8 u38_9 u38_10 u38_11)] := hD
        subst hQ; exact W.iret (v := r38) hx hb hr (fun t ht hW => ⟨⟨r38, (hbR_r, u38_1, u38_2, u38_3, u38_4, u38_5, u38_6, u38_7, u38_8, u38_9, u38_10, u38_11), rfl, ho, by rw [ht]; exact hP, hD⟩, hS.F ht⟩) (fun q hq => hS.2.2 q hq) dX7_right_41
      · replace ho := ho.2 c_22
        exact C_25 hbR_r va_m va_x va_more va_laid va_below va_settled va_sort p2_lower p2_way p2_more p2_beyond H locs ls ho hP hD hS (lv_sub hl [0] rfl)

def wp_X7_sort_18 (post : Int32 → (Nat → Int32) → Int64 → Int32 → Int32 → Int32 → Int32 → Int32 → Int32 → Int32 → Int32 → Int32 → Int32 → Prop)  (hbR_r : Nat → Int32) (va_m : Int64) (va_x : Int32) (va_more : Int32) (va_laid : Int32) (va_below : Int32) (va_settled : Int32) (va_sort : Int32) (p2_lower : Int32) (p2_way : Int32) (p2_more : Int32) (p2_beyond : Int32) : Prop := wp_X7_refuse (fun r20 u20 => (post r20 u20 va_m va_x va_more va_laid va_below va_settled va_sort p2_lower p2_way p2_more p2_beyond)) hbR_r (-1 : Int32)
def wp_X7_sort (post : Int32 → (Nat → Int32) → Int64 → Int32 → Int32 → Int32 → Int32 → Int32 → Int32 → Int32 → Int32 → Int32 → Int32 → Prop) (hbR_r : Nat → Int32) (fl_f : Int32) (fl_bias : Int32) (fl_codes : Int32) (fl_signBit : Int32) (fl_endless : Int32) (va_m : Int64) (va_x : Int32) (va_more : Int32) (va_laid : Int32) (va_below : Int32) (va_settled : Int32) (va_sort : Int32) (p2_lower : Int32) (p2_way : Int32) (p2_more : Int32) (p2_beyond : Int32) (p1 : Int32) (p2 : Int32) : Prop := wp_X7_isFunction (fun r1 => (((r1 = 0) → (wp_X7_sort_18 post hbR_r va_m va_x va_more va_laid va_below va_settled va_sort p2_lower p2_way p2_more p2_beyond)) ∧ ((¬ (r1 = 0)) → (wp_X1_isCode (fun r12 => (((¬ r12 = 0) → (wp_X6_read (fun u30_1 u30_2 u30_3 u30_4 u30_5 u30_6 u30_7 u30_8 u30_9 u30_10 u30_11 => (wp_X6_sortRead (fun r37 => (post r37 hbR_r u30_1 u30_2 u30_3 u30_4 u30_5 u30_6 u30_7 u30_8 u30_9 u30_10 u30_11)) u30_7)) fl_f fl_bias fl_signBit fl_endless va_m va_x va_more va_below va_settled p2_lower p2_way p2_more p2_beyond p1 p2)) ∧ ((¬ (¬ r12 = 0)) → (wp_X7_sort_18 post hbR_r va_m va_x va_more va_laid va_below va_settled va_sort p2_lower p2_way p2_more p2_beyond)))) fl_codes p2)))) p1
set_option maxRecDepth 20000 in
theorem in_X7_sort_X7 : ∀ w ∈ u_ws RX7 TX7 7, w ∈ wsX7_sort := fun w h => (goodIn_r wsX70 [162, 163, 164, 165, 166, 167, 168] (by decide +kernel) (by decide +kernel) w h).1
set_option maxHeartbeats 4000000 in
set_option maxRecDepth 100000 in
theorem c_X7_sort (l : Launch) (D : va_G) (cI cJ cZ : ClassId) (a_hb : Nat) (a_hbR : Nat) (a_fl : Nat) (a_pl : Nat) (a_va : Nat) (a_p2 : Nat) (a_ce : Nat) (a_st : Nat) (a_li : Nat) (sz : Nat) (hbR_r : Nat → Int32) (fl_e : Int32) (fl_f : Int32) (fl_bias : Int32) (fl_codes : Int32) (fl_signBit : Int32) (fl_endless : Int32) (va_m : Int64) (va_x : Int32) (va_more : Int32) (va_laid : Int32) (va_below : Int32) (va_settled : Int32) (va_sort : Int32) (p2_lower : Int32) (p2_way : Int32) (p2_more : Int32) (p2_beyond : Int32) (p1 : Int32) (p2 : Int32) (post : Int32 → (Nat → Int32) → Int64 → Int32 → Int32 → Int32 → Int32 → Int32 → Int32 → Int32 → Int32 → Int32 → Int32 → Prop) (A : Nat → Prop) (hAe : A = va_A [(a_hb, oX7 a_fl a_pl a_va a_ce a_st a_li a_hbR), (a_hbR, .inl (cI, 7, .inl hbR_r)), (a_fl, oX1 fl_e fl_f fl_bias fl_codes fl_signBit fl_endless), (a_va, oX6 a_fl a_p2 va_m va_x va_more va_laid va_below va_settled va_sort), (a_p2, oX3 a_fl p2_lower p2_way p2_more p2_beyond)] sz) (ho : wp_X7_sort post hbR_r fl_f fl_bias fl_codes fl_signBit fl_endless va_m va_x va_more va_laid va_below va_settled va_sort p2_lower p2_way p2_more p2_beyond p1 p2) : Met l yX7_sort wsX7_sort ({ frames := 4, cells := 0, slots := 0, locals := 103 } : Room) (rw_P D [(cI, .int), (cJ, .long), (cZ, .boolean)] [.ref a_hb, .int p1, .int p2] sz [(a_hb, oX7 a_fl a_pl a_va a_ce a_st a_li a_hbR), (a_hbR, .inl (cI, 7, .inl hbR_r)), (a_fl, oX1 fl_e fl_f fl_bias fl_codes fl_signBit fl_endless), (a_va, oX6 a_fl a_p2 va_m va_x va_more va_laid va_below va_settled va_sort), (a_p2, oX3 a_fl p2_lower p2_way p2_more p2_beyond)]) (va_Qi (fun (r : Int32) (u : (Nat → Int32) × (Int64) × (Int32) × (Int32) × (Int32) × (Int32) × (Int32) × (Int32) × (Int32) × (Int32) × (Int32) × (Int32)) => post r u.1 u.2.1 u.2.2.1 u.2.2.2.1 u.2.2.2.2.1 u.2.2.2.2.2.1 u.2.2.2.2.2.2.1 u.2.2.2.2.2.2.2.1 u.2.2.2.2.2.2.2.2.1 u.2.2.2.2.2.2.2.2.2.1 u.2.2.2.2.2.2.2.2.2.2.1 u.2.2.2.2.2.2.2.2.2.2.2) (rw_B D A (fun (u : (Nat → Int32) × (Int64) × (Int32) × (Int32) × (Int32) × (Int32) × (Int32) × (Int32) × (Int32) × (Int32) × (Int32) × (Int32)) => [(a_hb, oX7 a_fl a_pl a_va a_ce a_st a_li a_hbR), (a_hbR, .inl (cI, 7, .inl u.1)), (a_fl, oX1 fl_e fl_f fl_bias fl_codes fl_signBit fl_endless), (a_va, oX6 a_fl a_p2 u.2.1 u.2.2.1 u.2.2.2.1 u.2.2.2.2.1 u.2.2.2.2.2.1 u.2.2.2.2.2.2.1 u.2.2.2.2.2.2.2.1), (a_p2, oX3 a_fl u.2.2.2.2.2.2.2.2.1 u.2.2.2.2.2.2.2.2.2.1 u.2.2.2.2.2.2.2.2.2.2.1 u.2.2.2.2.2.2.2.2.2.2.2)])) A) 0 0 A := by
  refine Met.ofW (cc := cX7_sort) (maxL := 3) (ret := (some .int)) (by decide) rfl ?_
  intro p e s m args below meth c s₁ B hml hv
  obtain ⟨hargs, hsz, hP, hK, hN, hD0⟩ := hv
  have hx := B.exec
  have hb := B.bytes
  have hr := B.returns
  have hts := atoms_spec (ws := wsX7_sort) B.pre
  have hown : s.vm.findClass RX7 = some m.cls := findClass_of_methodNamed B.named
  have hlocks := B.notSynchronized
  subst hsz
  have hD : va_D A [(a_hb, oX7 a_fl a_pl a_va a_ce a_st a_li a_hbR), (a_hbR, .inl (cI, 7, .inl hbR_r)), (a_fl, oX1 fl_e fl_f fl_bias fl_codes fl_signBit fl_endless), (a_va, oX6 a_fl a_p2 va_m va_x va_more va_laid va_below va_settled va_sort), (a_p2, oX3 a_fl p2_lower p2_way p2_more p2_beyond)] := by rw [hAe]; exact hD0.self
  have hA : ∀ q : Nat, s.heap.size ≤ q → A q := fun q h => by rw [hAe]; exact Or.inr h
  have hS : va_S A s.heap s.heap [] := va_S.rf
  have hl := lv_entry ([.ref a_hb, .int p1, .int p2]) (n := 3) (Nat.le_of_ble_eq_true rfl)
  rw [hargs, lg_entry_eq, ← hargs]
  generalize (lg_sl ([.ref a_hb, .int p1, .int p2]) ++ List.replicate (3 - (lg_sl ([.ref a_hb, .int p1, .int p2])).length) Slot.unset).toArray = ls at hl ⊢
  replace hl : lv_has ls 3 [(0, .ref a_hb), (1, .int p1), (2, .int p2)] := hl
  have hRf : ∀ n, n ≤ 4 → n ≤ (headSpec wsX7_sort ({ frames := 4, cells := 0, slots := 0, locals := 103 } : Room)).room.frames := fun n h => h
  have hRl : ∀ n, n ≤ 103 → n ≤ (headSpec wsX7_sort ({ frames := 4, cells := 0, slots := 0, locals := 103 } : Room)).room.locals := fun n h => h
  generalize (headSpec wsX7_sort ({ frames := 4, cells := 0, slots := 0, locals := 103 } : Room)).room = R at hRf hRl ⊢
  generalize hQ : MQ below _ args s 0 0 _ = Q
  have C_18 : ∀ (hbR_r : Nat → Int32) (va_m : Int64) (va_x : Int32) (va_more : Int32) (va_laid : Int32) (va_below : Int32) (va_settled : Int32) (va_sort : Int32) (p2_lower : Int32) (p2_way : Int32) (p2_more : Int32) (p2_beyond : Int32) (H : Heap) (locs : List Loc) (ls : Array Slot), wp_X7_sort_18 post  hbR_r va_m va_x va_more va_laid va_below va_settled va_sort p2_lower p2_way p2_more p2_beyond → va_P D vwCl [(a_hb, oX7 a_fl a_pl a_va a_ce a_st a_li a_hbR), (a_hbR, .inl (cI, 7, .inl hbR_r)), (a_fl, oX1 fl_e fl_f fl_bias fl_codes fl_signBit fl_endless), (a_va, oX6 a_fl a_p2 va_m va_x va_more va_laid va_below va_settled va_sort), (a_p2, oX3 a_fl p2_lower p2_way p2_more p2_beyond)] H → va_D A [(a_hb, oX7 a_fl a_pl a_va a_ce a_st a_li a_hbR), (a_hbR, .inl (cI, 7, .inl hbR_r)), (a_fl, oX1 fl_e fl_f fl_bias fl_codes fl_signBit fl_endless), (a_va, oX6 a_fl a_p2 va_m va_x va_more va_laid va_below va_settled va_sort), (a_p2, oX3 a_fl p2_lower p2_way p2_more p2_beyond)] → va_S A s.heap H locs → lv_has ls 3 [(0, .ref a_hb)] → W p l e R s m args below meth c H locs 0 0 Q (F0 m 18 ls []) := by
    intro hbR_r va_m va_x va_more va_laid va_below va_settled va_sort p2_lower p2_way p2_more p2_beyond H locs ls ho hP hD hS hl
    unfold wp_X7_sort_18 at ho
    refine lv_aload_n hx hb dX7_sort_18 rfl (lv_at hl 0 rfl) ?_
    refine lv_iconst (v := (-1)) hx hb dX7_sort_19 (by decide) ?_
    refine ca_Wi (b := a_hb) (As := [.int (-1 : Int32)]) (rest := []) (wr := [(a_fl, oX1 fl_e fl_f fl_bias fl_codes fl_signBit fl_endless), (a_va, oX6 a_fl a_p2 va_m va_x va_more va_laid va_below va_settled va_sort), (a_p2, oX3 a_fl p2_lower p2_way p2_more p2_beyond)]) (wo := fun u => [(a_hb, oX7 a_fl a_pl a_va a_ce a_st a_li a_hbR), (a_hbR, .inl (cI, 7, .inl u))]) (wn := fun u => [(a_hb, oX7 a_fl a_pl a_va a_ce a_st a_li a_hbR), (a_hbR, .inl (cI, 7, .inl u)), (a_fl, oX1 fl_e fl_f fl_bias fl_codes fl_signBit fl_endless), (a_va, oX6 a_fl a_p2 va_m va_x va_more va_laid va_below va_settled va_sort), (a_p2, oX3 a_fl p2_lower p2_way p2_more p2_beyond)]) ⟨hx, hb, hml, hown, hts⟩ (c_X7_refuse l D cI cJ cZ a_hb a_hbR a_fl a_pl a_va a_ce a_st a_li H.size hbR_r (-1 : Int32) _ _ rfl ho) (cwV 1 hts gX7_sort_X7_refuse rfl rfl rfl (by decide +kernel) ⟨hRf _ (Nat.le_of_ble_eq_true rfl), hRl _ (Nat.le_of_ble_eq_true rfl)⟩) hK hN hP hD hS hA [0, 1] [2, 3, 4] [3, 4, 0, 1, 2] rfl rfl (by decide) (by decide) (by decide) (by decide) (fun _ => rfl) 0 6 rfl rfl rfl rfl hl.1 rfl (Nat.le_of_ble_eq_true rfl) dX7_sort_20 ⟨Nat.zero_le _, Nat.zero_le _⟩ (fun r20 u20 H locs ho hP hD hS => ?_)
    try dsimp only at ho
    replace hP : va_P D vwCl [(a_hb, oX7 a_fl a_pl a_va a_ce a_st a_li a_hbR), (a_hbR, .inl (cI, 7, .inl u20)), (a_fl, oX1 fl_e fl_f fl_bias fl_codes fl_signBit fl_endless), (a_va, oX6 a_fl a_p2 va_m va_x va_more va_laid va_below va_settled va_sort), (a_p2, oX3 a_fl p2_lower p2_way p2_more p2_beyond)] H := hP
    replace hD : va_D A [(a_hb, oX7 a_fl a_pl a_va a_ce a_st a_li a_hbR), (a_hbR, .inl (cI, 7, .inl u20)), (a_fl, oX1 fl_e fl_f fl_bias fl_codes fl_signBit fl_endless), (a_va, oX6 a_fl a_p2 va_m va_x va_more va_laid va_below va_settled va_sort), (a_p2, oX3 a_fl p2_lower p2_way p2_more p2_beyond)] := hD
    subst hQ; exact W.iret (v := r20) hx hb hr (fun t ht hW => ⟨⟨r20, (u20, va_m, va_x, va_more, va_laid, va_below, va_settled, va_sort, p2_lower, p2_way, p2_more, p2_beyond), rfl, ho, by rw [ht]; exact hP, hD⟩, hS.F ht⟩) (fun q hq => hS.2.2 q hq) dX7_sort_23
  unfold wp_X7_sort at ho
  refine lv_iload_n hx hb dX7_sort_0 rfl (lv_at hl 1 rfl) ?_
  refine ca_Si (As := [.int p1]) (rest := []) ⟨hx, hb, hml, hown, hts⟩ (c_X7_isFunction l D cI cJ cZ   p1 _ ho) (va_cwS 1 hts gX7_sort_X7_isFunction rfl rfl rfl (by decide +kernel) ⟨hRf _ (Nat.le_of_ble_eq_true rfl), hRl _ (Nat.le_of_ble_eq_true rfl)⟩) hK hN hP [] rfl rfl hl.1 rfl (Nat.le_of_ble_eq_true rfl) dX7_sort_1 ⟨Nat.zero_le _, Nat.zero_le _⟩ (fun r1 ho => ?_)
  refine lv_if_eq (tgt := 18) hx hb dX7_sort_4 (by decide) (fun c_4 => ?_) (fun c_4 => ?_)
  · replace ho := ho.1 c_4
    exact C_18 hbR_r va_m va_x va_more va_laid va_below va_settled va_sort p2_lower p2_way p2_more p2_beyond H locs ls ho hP hD hS (lv_sub hl [0] rfl)
  · replace ho := ho.2 c_4
    refine lv_aload_n hx hb dX7_sort_7 rfl (lv_at hl 0 rfl) ?_
    refine va_get (D := D) (ci := 6) (v := .ref a_fl) (C := RX7) (T := TX7) (N := 7) hx hb hts in_X7_sort_X7 hown hK hP 0 rfl rfl 0 (by decide) (hts (.fieldLink RX7 12 "HardBench" "floats" "LHardBench$Floats;") (List.mem_of_getElem? (i := 1) (by decide +kernel))) (fun _ h9 => h9) rfl dX7_sort_8 ?_
    refine lv_iload_n hx hb dX7_sort_11 rfl (lv_at hl 2 rfl) ?_
    refine ca_Vi (b := a_fl) (As := [.int p2]) (rest := []) ⟨hx, hb, hml, hown, hts⟩ (c_X1_isCode l D cI cJ cZ a_fl fl_e fl_f fl_bias fl_codes fl_signBit fl_endless p2 _ ho) (cwV 1 hts gX7_sort_X1_isCode rfl rfl rfl (by decide +kernel) ⟨hRf _ (Nat.le_of_ble_eq_true rfl), hRl _ (Nat.le_of_ble_eq_true rfl)⟩) hK hN hP [2] rfl 0 1 rfl rfl rfl rfl hl.1 rfl (Nat.le_of_ble_eq_true rfl) dX7_sort_12 ⟨Nat.zero_le _, Nat.zero_le _⟩ (fun r12 ho => ?_)
    refine lv_if_ne (tgt := 24) hx hb dX7_sort_15 (by decide) (fun c_15 => ?_) (fun c_15 => ?_)
    · replace ho := ho.1 c_15
      refine lv_aload_n hx hb dX7_sort_24 rfl (lv_at hl 0 rfl) ?_
      refine va_get (D := D) (ci := 6) (v := .ref a_va) (C := RX7) (T := TX7) (N := 7) hx hb hts in_X7_sort_X7 hown hK hP 0 rfl rfl 2 (by decide) (hts (.fieldLink RX7 28 "HardBench" "value" "LHardBench$Value;") (List.mem_of_getElem? (i := 2) (by decide +kernel))) (fun _ h9 => h9) rfl dX7_sort_25 ?_
      refine lv_iload_n hx hb dX7_sort_28 rfl (lv_at hl 1 rfl) ?_
      refine lv_iload_n hx hb dX7_sort_29 rfl (lv_at hl 2 rfl) ?_
      refine ca_Wv (b := a_va) (As := [.int p1, .int p2]) (rest := []) (wr := [(a_hb, oX7 a_fl a_pl a_va a_ce a_st a_li a_hbR), (a_hbR, .inl (cI, 7, .inl hbR_r))]) (wo := fun u => [(a_fl, oX1 fl_e fl_f fl_bias fl_codes fl_signBit fl_endless), (a_va, oX6 a_fl a_p2 u.1 u.2.1 u.2.2.1 u.2.2.2.1 u.2.2.2.2.1 u.2.2.2.2.2.1 u.2.2.2.2.2.2.1), (a_p2, oX3 a_fl u.2.2.2.2.2.2.2.1 u.2.2.2.2.2.2.2.2.1 u.2.2.2.2.2.2.2.2.2.1 u.2.2.2.2.2.2.2.2.2.2)]) (wn := fun u => [(a_hb, oX7 a_fl a_pl a_va a_ce a_st a_li a_hbR), (a_hbR, .inl (cI, 7, .inl hbR_r)), (a_fl, oX1 fl_e fl_f fl_bias fl_codes fl_signBit fl_endless), (a_va, oX6 a_fl a_p2 u.1 u.2.1 u.2.2.1 u.2.2.2.1 u.2.2.2.2.1 u.2.2.2.2.2.1 u.2.2.2.2.2.2.1), (a_p2, oX3 a_fl u.2.2.2.2.2.2.2.1 u.2.2.2.2.2.2.2.2.1 u.2.2.2.2.2.2.2.2.2.1 u.2.2.2.2.2.2.2.2.2.2)]) ⟨hx, hb, hml, hown, hts⟩ (c_X6_read l D cI cJ cZ a_fl a_va a_p2 H.size fl_e fl_f fl_bias fl_codes fl_signBit fl_endless va_m va_x va_more va_laid va_below va_settled va_sort p2_lower p2_way p2_more p2_beyond p1 p2 _ _ rfl ho) (cwV 2 hts gX7_sort_X6_read rfl rfl rfl (by decide +kernel) ⟨hRf _ (Nat.le_of_ble_eq_true rfl), hRl _ (Nat.le_of_ble_eq_true rfl)⟩) hK hN hP hD hS hA [2, 3, 4] [0, 1] [0, 1, 2, 3, 4] rfl rfl (by decide) (by decide) (by decide) (by decide) (fun _ => rfl) 1 5 rfl rfl rfl rfl hl.1 rfl (Nat.le_of_ble_eq_true rfl) dX7_sort_30 ⟨Nat.zero_le _, Nat.zero_le _⟩ (fun  u30 H locs ho hP hD hS => ?_)
      obtain ⟨u30_1, u30_2, u30_3, u30_4, u30_5, u30_6, u30_7, u30_8, u30_9, u30_10, u30_11⟩ := u30
      try dsimp only at ho
      replace hP : va_P D vwCl [(a_hb, oX7 a_fl a_pl a_va a_ce a_st a_li a_hbR), (a_hbR, .inl (cI, 7, .inl hbR_r)), (a_fl, oX1 fl_e fl_f fl_bias fl_codes fl_signBit fl_endless), (a_va, oX6 a_fl a_p2 u30_1 u30_2 u30_3 u30_4 u30_5 u30_6 u30_7), (a_p2, oX3 a_fl u30_8 u30_9 u30_10 u30_11)] H := hP
      replace hD : va_D A [(a_hb, oX7 a_fl a_pl a_va a_ce a_st a_li a_hbR), (a_hbR, .inl (cI, 7, .inl hbR_r)), (a_fl, oX1 fl_e fl_f fl_bias fl_codes fl_signBit fl_endless), (a_va, oX6 a_fl a_p2 u30_1 u30_2 u30_3 u30_4 u30_5 u30_6 u30_7), (a_p2, oX3 a_fl u30_8 u30_9 u30_10 u30_11)] := hD
      refine lv_aload_n hx hb dX7_sort_33 rfl (lv_at hl 0 rfl) ?_
      refine va_get (D := D) (ci := 6) (v := .ref a_va) (C := RX7) (T := TX7) (N := 7) hx hb hts in_X7_sort_X7 hown hK hP 0 rfl rfl 2 (by decide) (hts (.fieldLink RX7 28 "HardBench" "value" "LHardBench$Value;") (List.mem_of_getElem? (i := 2) (by decide +kernel))) (fun _ h9 => h9) rfl dX7_sort_34 ?_
      refine ca_Vi (b := a_va) (As := []) (rest := []) ⟨hx, hb, hml, hown, hts⟩ (c_X6_sortRead l D cI cJ cZ a_fl a_va a_p2 u30_1 u30_2 u30_3 u30_4 u30_5 u30_6 u30_7  _ ho) (cwV 0 hts gX7_sort_X6_sortRead rfl rfl rfl (by decide +kernel) ⟨hRf _ (Nat.le_of_ble_eq_true rfl), hRl _ (Nat.le_of_ble_eq_true rfl)⟩) hK hN hP [3] rfl 0 5 rfl rfl rfl rfl hl.1 rfl (Nat.le_of_ble_eq_true rfl) dX7_sort_37 ⟨Nat.zero_le _, Nat.zero_le _⟩ (fun r37 ho => ?_)
      subst hQ; exact W.iret (v := r37) hx hb hr (fun t ht hW => ⟨⟨r37, (hbR_r, u30_1, u30_2, u30_3, u30_4, u30_5, u30_6, u30_7, u30_8, u30_9, u30_10, u30_11), rfl, ho, by rw [ht]; exact hP, hD⟩, hS.F ht⟩) (fun q hq => hS.2.2 q hq) dX7_sort_40
    · replace ho := ho.2 c_15
      exact C_18 hbR_r va_m va_x va_more va_laid va_below va_settled va_sort p2_lower p2_way p2_more p2_beyond H locs ls ho hP hD hS (lv_sub hl [0] rfl)

def wp_X7_figures_18 (post : Int32 → (Nat → Int32) → Int64 → Int32 → Int32 → Int32 → Int32 → Int32 → Int32 → Int32 → Int32 → Int32 → Int32 → Prop)  (hbR_r : Nat → Int32) (va_m : Int64) (va_x : Int32) (va_more : Int32) (va_laid : Int32) (va_below : Int32) (va_settled : Int32) (va_sort : Int32) (p2_lower : Int32) (p2_way : Int32) (p2_more : Int32) (p2_beyond : Int32) : Prop := wp_X7_refuse (fun r20 u20 => (post r20 u20 va_m va_x va_more va_laid va_below va_settled va_sort p2_lower p2_way p2_more p2_beyond)) hbR_r (-1 : Int32)
def wp_X7_figures (post : Int32 → (Nat → Int32) → Int64 → Int32 → Int32 → Int32 → Int32 → Int32 → Int32 → Int32 → Int32 → Int32 → Int32 → Prop) (hbR_r : Nat → Int32) (fl_f : Int32) (fl_bias : Int32) (fl_codes : Int32) (fl_signBit : Int32) (fl_endless : Int32) (va_m : Int64) (va_x : Int32) (va_more : Int32) (va_laid : Int32) (va_below : Int32) (va_settled : Int32) (va_sort : Int32) (p2_lower : Int32) (p2_way : Int32) (p2_more : Int32) (p2_beyond : Int32) (p1 : Int32) (p2 : Int32) : Prop := wp_X7_isFunction (fun r1 => (((r1 = 0) → (wp_X7_figures_18 post hbR_r va_m va_x va_more va_laid va_below va_settled va_sort p2_lower p2_way p2_more p2_beyond)) ∧ ((¬ (r1 = 0)) → (wp_X1_isCode (fun r12 => (((¬ r12 = 0) → (wp_X6_read (fun u30_1 u30_2 u30_3 u30_4 u30_5 u30_6 u30_7 u30_8 u30_9 u30_10 u30_11 => (wp_X6_figuresRead (fun r37 => (post r37 hbR_r u30_1 u30_2 u30_3 u30_4 u30_5 u30_6 u30_7 u30_8 u30_9 u30_10 u30_11)) fl_endless u30_4 u30_8 u30_9 u30_10 u30_11)) fl_f fl_bias fl_signBit fl_endless va_m va_x va_more va_below va_settled p2_lower p2_way p2_more p2_beyond p1 p2)) ∧ ((¬ (¬ r12 = 0)) → (wp_X7_figures_18 post hbR_r va_m va_x va_more va_laid va_below va_settled va_sort p2_lower p2_way p2_more p2_beyond)))) fl_codes p2)))) p1
set_option maxRecDepth 20000 in
theorem in_X7_figures_X7 : ∀ w ∈ u_ws RX7 TX7 7, w ∈ wsX7_figures := fun w h => (goodIn_r wsX70 [167, 168, 169, 170, 171, 172, 173] (by decide +kernel) (by decide +kernel) w h).1
set_option maxHeartbeats 4000000 in
set_option maxRecDepth 100000 in
theorem c_X7_figures (l : Launch) (D : va_G) (cI cJ cZ : ClassId) (a_hb : Nat) (a_hbR : Nat) (a_fl : Nat) (a_pl : Nat) (a_va : Nat) (a_p2 : Nat) (a_ce : Nat) (a_st : Nat) (a_li : Nat) (sz : Nat) (hbR_r : Nat → Int32) (fl_e : Int32) (fl_f : Int32) (fl_bias : Int32) (fl_codes : Int32) (fl_signBit : Int32) (fl_endless : Int32) (va_m : Int64) (va_x : Int32) (va_more : Int32) (va_laid : Int32) (va_below : Int32) (va_settled : Int32) (va_sort : Int32) (p2_lower : Int32) (p2_way : Int32) (p2_more : Int32) (p2_beyond : Int32) (p1 : Int32) (p2 : Int32) (post : Int32 → (Nat → Int32) → Int64 → Int32 → Int32 → Int32 → Int32 → Int32 → Int32 → Int32 → Int32 → Int32 → Int32 → Prop) (A : Nat → Prop) (hAe : A = va_A [(a_hb, oX7 a_fl a_pl a_va a_ce a_st a_li a_hbR), (a_hbR, .inl (cI, 7, .inl hbR_r)), (a_fl, oX1 fl_e fl_f fl_bias fl_codes fl_signBit fl_endless), (a_va, oX6 a_fl a_p2 va_m va_x va_more va_laid va_below va_settled va_sort), (a_p2, oX3 a_fl p2_lower p2_way p2_more p2_beyond)] sz) (ho : wp_X7_figures post hbR_r fl_f fl_bias fl_codes fl_signBit fl_endless va_m va_x va_more va_laid va_below va_settled va_sort p2_lower p2_way p2_more p2_beyond p1 p2) : Met l yX7_figures wsX7_figures ({ frames := 4, cells := 0, slots := 0, locals := 103 } : Room) (rw_P D [(cI, .int), (cJ, .long), (cZ, .boolean)] [.ref a_hb, .int p1, .int p2] sz [(a_hb, oX7 a_fl a_pl a_va a_ce a_st a_li a_hbR), (a_hbR, .inl (cI, 7, .inl hbR_r)), (a_fl, oX1 fl_e fl_f fl_bias fl_codes fl_signBit fl_endless), (a_va, oX6 a_fl a_p2 va_m va_x va_more va_laid va_below va_settled va_sort), (a_p2, oX3 a_fl p2_lower p2_way p2_more p2_beyond)]) (va_Qi (fun (r : Int32) (u : (Nat → Int32) × (Int64) × (Int32) × (Int32) × (Int32) × (Int32) × (Int32) × (Int32) × (Int32) × (Int32) × (Int32) × (Int32)) => post r u.1 u.2.1 u.2.2.1 u.2.2.2.1 u.2.2.2.2.1 u.2.2.2.2.2.1 u.2.2.2.2.2.2.1 u.2.2.2.2.2.2.2.1 u.2.2.2.2.2.2.2.2.1 u.2.2.2.2.2.2.2.2.2.1 u.2.2.2.2.2.2.2.2.2.2.1 u.2.2.2.2.2.2.2.2.2.2.2) (rw_B D A (fun (u : (Nat → Int32) × (Int64) × (Int32) × (Int32) × (Int32) × (Int32) × (Int32) × (Int32) × (Int32) × (Int32) × (Int32) × (Int32)) => [(a_hb, oX7 a_fl a_pl a_va a_ce a_st a_li a_hbR), (a_hbR, .inl (cI, 7, .inl u.1)), (a_fl, oX1 fl_e fl_f fl_bias fl_codes fl_signBit fl_endless), (a_va, oX6 a_fl a_p2 u.2.1 u.2.2.1 u.2.2.2.1 u.2.2.2.2.1 u.2.2.2.2.2.1 u.2.2.2.2.2.2.1 u.2.2.2.2.2.2.2.1), (a_p2, oX3 a_fl u.2.2.2.2.2.2.2.2.1 u.2.2.2.2.2.2.2.2.2.1 u.2.2.2.2.2.2.2.2.2.2.1 u.2.2.2.2.2.2.2.2.2.2.2)])) A) 0 0 A := by
  refine Met.ofW (cc := cX7_figures) (maxL := 3) (ret := (some .int)) (by decide) rfl ?_
  intro p e s m args below meth c s₁ B hml hv
  obtain ⟨hargs, hsz, hP, hK, hN, hD0⟩ := hv
  have hx := B.exec
  have hb := B.bytes
  have hr := B.returns
  have hts := atoms_spec (ws := wsX7_figures) B.pre
  have hown : s.vm.findClass RX7 = some m.cls := findClass_of_methodNamed B.named
  have hlocks := B.notSynchronized
  subst hsz
  have hD : va_D A [(a_hb, oX7 a_fl a_pl a_va a_ce a_st a_li a_hbR), (a_hbR, .inl (cI, 7, .inl hbR_r)), (a_fl, oX1 fl_e fl_f fl_bias fl_codes fl_signBit fl_endless), (a_va, oX6 a_fl a_p2 va_m va_x va_more va_laid va_below va_settled va_sort), (a_p2, oX3 a_fl p2_lower p2_way p2_more p2_beyond)] := by rw [hAe]; exact hD0.self
  have hA : ∀ q : Nat, s.heap.size ≤ q → A q := fun q h => by rw [hAe]; exact Or.inr h
  have hS : va_S A s.heap s.heap [] := va_S.rf
  have hl := lv_entry ([.ref a_hb, .int p1, .int p2]) (n := 3) (Nat.le_of_ble_eq_true rfl)
  rw [hargs, lg_entry_eq, ← hargs]
  generalize (lg_sl ([.ref a_hb, .int p1, .int p2]) ++ List.replicate (3 - (lg_sl ([.ref a_hb, .int p1, .int p2])).length) Slot.unset).toArray = ls at hl ⊢
  replace hl : lv_has ls 3 [(0, .ref a_hb), (1, .int p1), (2, .int p2)] := hl
  have hRf : ∀ n, n ≤ 4 → n ≤ (headSpec wsX7_figures ({ frames := 4, cells := 0, slots := 0, locals := 103 } : Room)).room.frames := fun n h => h
  have hRl : ∀ n, n ≤ 103 → n ≤ (headSpec wsX7_figures ({ frames := 4, cells := 0, slots := 0, locals := 103 } : Room)).room.locals := fun n h => h
  generalize (headSpec wsX7_figures ({ frames := 4, cells := 0, slots := 0, locals := 103 } : Room)).room = R at hRf hRl ⊢
  generalize hQ : MQ below _ args s 0 0 _ = Q
  have C_18 : ∀ (hbR_r : Nat → Int32) (va_m : Int64) (va_x : Int32) (va_more : Int32) (va_laid : Int32) (va_below : Int32) (va_settled : Int32) (va_sort : Int32) (p2_lower : Int32) (p2_way : Int32) (p2_more : Int32) (p2_beyond : Int32) (H : Heap) (locs : List Loc) (ls : Array Slot), wp_X7_figures_18 post  hbR_r va_m va_x va_more va_laid va_below va_settled va_sort p2_lower p2_way p2_more p2_beyond → va_P D vwCl [(a_hb, oX7 a_fl a_pl a_va a_ce a_st a_li a_hbR), (a_hbR, .inl (cI, 7, .inl hbR_r)), (a_fl, oX1 fl_e fl_f fl_bias fl_codes fl_signBit fl_endless), (a_va, oX6 a_fl a_p2 va_m va_x va_more va_laid va_below va_settled va_sort), (a_p2, oX3 a_fl p2_lower p2_way p2_more p2_beyond)] H → va_D A [(a_hb, oX7 a_fl a_pl a_va a_ce a_st a_li a_hbR), (a_hbR, .inl (cI, 7, .inl hbR_r)), (a_fl, oX1 fl_e fl_f fl_bias fl_codes fl_signBit fl_endless), (a_va, oX6 a_fl a_p2 va_m va_x va_more va_laid va_below va_settled va_sort), (a_p2, oX3 a_fl p2_lower p2_way p2_more p2_beyond)] → va_S A s.heap H locs → lv_has ls 3 [(0, .ref a_hb)] → W p l e R s m args below meth c H locs 0 0 Q (F0 m 18 ls []) := by
    intro hbR_r va_m va_x va_more va_laid va_below va_settled va_sort p2_lower p2_way p2_more p2_beyond H locs ls ho hP hD hS hl
    unfold wp_X7_figures_18 at ho
    refine lv_aload_n hx hb dX7_figures_18 rfl (lv_at hl 0 rfl) ?_
    refine lv_iconst (v := (-1)) hx hb dX7_figures_19 (by decide) ?_
    refine ca_Wi (b := a_hb) (As := [.int (-1 : Int32)]) (rest := []) (wr := [(a_fl, oX1 fl_e fl_f fl_bias fl_codes fl_signBit fl_endless), (a_va, oX6 a_fl a_p2 va_m va_x va_more va_laid va_below va_settled va_sort), (a_p2, oX3 a_fl p2_lower p2_way p2_more p2_beyond)]) (wo := fun u => [(a_hb, oX7 a_fl a_pl a_va a_ce a_st a_li a_hbR), (a_hbR, .inl (cI, 7, .inl u))]) (wn := fun u => [(a_hb, oX7 a_fl a_pl a_va a_ce a_st a_li a_hbR), (a_hbR, .inl (cI, 7, .inl u)), (a_fl, oX1 fl_e fl_f fl_bias fl_codes fl_signBit fl_endless), (a_va, oX6 a_fl a_p2 va_m va_x va_more va_laid va_below va_settled va_sort), (a_p2, oX3 a_fl p2_lower p2_way p2_more p2_beyond)]) ⟨hx, hb, hml, hown, hts⟩ (c_X7_refuse l D cI cJ cZ a_hb a_hbR a_fl a_pl a_va a_ce a_st a_li H.size hbR_r (-1 : Int32) _ _ rfl ho) (cwV 1 hts gX7_figures_X7_refuse rfl rfl rfl (by decide +kernel) ⟨hRf _ (Nat.le_of_ble_eq_true rfl), hRl _ (Nat.le_of_ble_eq_true rfl)⟩) hK hN hP hD hS hA [0, 1] [2, 3, 4] [3, 4, 0, 1, 2] rfl rfl (by decide) (by decide) (by decide) (by decide) (fun _ => rfl) 0 6 rfl rfl rfl rfl hl.1 rfl (Nat.le_of_ble_eq_true rfl) dX7_figures_20 ⟨Nat.zero_le _, Nat.zero_le _⟩ (fun r20 u20 H locs ho hP hD hS => ?_)
    try dsimp only at ho
    replace hP : va_P D vwCl [(a_hb, oX7 a_fl a_pl a_va a_ce a_st a_li a_hbR), (a_hbR, .inl (cI, 7, .inl u20)), (a_fl, oX1 fl_e fl_f fl_bias fl_codes fl_signBit fl_endless), (a_va, oX6 a_fl a_p2 va_m va_x va_more va_laid va_below va_settled va_sort), (a_p2, oX3 a_fl p2_lower p2_way p2_more p2_beyond)] H := hP
    replace hD : va_D A [(a_hb, oX7 a_fl a_pl a_va a_ce a_st a_li a_hbR), (a_hbR, .inl (cI, 7, .inl u20)), (a_fl, oX1 fl_e fl_f fl_bias fl_codes fl_signBit fl_endless), (a_va, oX6 a_fl a_p2 va_m va_x va_more va_laid va_below va_settled va_sort), (a_p2, oX3 a_fl p2_lower p2_way p2_more p2_beyond)] := hD
    subst hQ; exact W.iret (v := r20) hx hb hr (fun t ht hW => ⟨⟨r20, (u20, va_m, va_x, va_more, va_laid, va_below, va_settled, va_sort, p2_lower, p2_way, p2_more, p2_beyond), rfl, ho, by rw [ht]; exact hP, hD⟩, hS.F ht⟩) (fun q hq => hS.2.2 q hq) dX7_figures_23
  unfold wp_X7_figures at ho
  refine lv_iload_n hx hb dX7_figures_0 rfl (lv_at hl 1 rfl) ?_
  refine ca_Si (As := [.int p1]) (rest := []) ⟨hx, hb, hml, hown, hts⟩ (c_X7_isFunction l D cI cJ cZ   p1 _ ho) (va_cwS 1 hts gX7_figures_X7_isFunction rfl rfl rfl (by decide +kernel) ⟨hRf _ (Nat.le_of_ble_eq_true rfl), hRl _ (Nat.le_of_ble_eq_true rfl)⟩) hK hN hP [] rfl rfl hl.1 rfl (Nat.le_of_ble_eq_true rfl) dX7_figures_1 ⟨Nat.zero_le _, Nat.zero_le _⟩ (fun r1 ho => ?_)
  refine lv_if_eq (tgt := 18) hx hb dX7_figures_4 (by decide) (fun c_4 => ?_) (fun c_4 => ?_)
  · replace ho := ho.1 c_4
    exact C_18 hbR_r va_m va_x va_more va_laid va_below va_settled va_sort p2_lower p2_way p2_more p2_beyond H locs ls ho hP hD hS (lv_sub hl [0] rfl)
  · replace ho := ho.2 c_4
    refine lv_aload_n hx hb dX7_figures_7 rfl (lv_at hl 0 rfl) ?_
    refine va_get (D := D) (ci := 6) (v := .ref a_fl) (C := RX7) (T := TX7) (N := 7) hx hb hts in_X7_figures_X7 hown hK hP 0 rfl rfl 0 (by decide) (hts (.fieldLink RX7 12 "HardBench" "floats" "LHardBench$Floats;") (List.mem_of_getElem? (i := 1) (by decide +kernel))) (fun _ h9 => h9) rfl dX7_figures_8 ?_
    refine lv_iload_n hx hb dX7_figures_11 rfl (lv_at hl 2 rfl) ?_
    refine ca_Vi (b := a_fl) (As := [.int p2]) (rest := []) ⟨hx, hb, hml, hown, hts⟩ (c_X1_isCode l D cI cJ cZ a_fl fl_e fl_f fl_bias fl_codes fl_signBit fl_endless p2 _ ho) (cwV 1 hts gX7_figures_X1_isCode rfl rfl rfl (by decide +kernel) ⟨hRf _ (Nat.le_of_ble_eq_true rfl), hRl _ (Nat.le_of_ble_eq_true rfl)⟩) hK hN hP [2] rfl 0 1 rfl rfl rfl rfl hl.1 rfl (Nat.le_of_ble_eq_true rfl) dX7_figures_12 ⟨Nat.zero_le _, Nat.zero_le _⟩ (fun r12 ho => ?_)
    refine lv_if_ne (tgt := 24) hx hb dX7_figures_15 (by decide) (fun c_15 => ?_) (fun c_15 => ?_)
    · replace ho := ho.1 c_15
      refine lv_aload_n hx hb dX7_figures_24 rfl (lv_at hl 0 rfl) ?_
      refine va_get (D := D) (ci := 6) (v := .ref a_va) (C := RX7) (T := TX7) (N := 7) hx hb hts in_X7_figures_X7 hown hK hP 0 rfl rfl 2 (by decide) (hts (.fieldLink RX7 28 "HardBench" "value" "LHardBench$Value;") (List.mem_of_getElem? (i := 2) (by decide +kernel))) (fun _ h9 => h9) rfl dX7_figures_25 ?_
      refine lv_iload_n hx hb dX7_figures_28 rfl (lv_at hl 1 rfl) ?_
      refine lv_iload_n hx hb dX7_figures_29 rfl (lv_at hl 2 rfl) ?_
      refine ca_Wv (b := a_va) (As := [.int p1, .int p2]) (rest := []) (wr := [(a_hb, oX7 a_fl a_pl a_va a_ce a_st a_li a_hbR), (a_hbR, .inl (cI, 7, .inl hbR_r))]) (wo := fun u => [(a_fl, oX1 fl_e fl_f fl_bias fl_codes fl_signBit fl_endless), (a_va, oX6 a_fl a_p2 u.1 u.2.1 u.2.2.1 u.2.2.2.1 u.2.2.2.2.1 u.2.2.2.2.2.1 u.2.2.2.2.2.2.1), (a_p2, oX3 a_fl u.2.2.2.2.2.2.2.1 u.2.2.2.2.2.2.2.2.1 u.2.2.2.2.2.2.2.2.2.1 u.2.2.2.2.2.2.2.2.2.2)]) (wn := fun u => [(a_hb, oX7 a_fl a_pl a_va a_ce a_st a_li a_hbR), (a_hbR, .inl (cI, 7, .inl hbR_r)), (a_fl, oX1 fl_e fl_f fl_bias fl_codes fl_signBit fl_endless), (a_va, oX6 a_fl a_p2 u.1 u.2.1 u.2.2.1 u.2.2.2.1 u.2.2.2.2.1 u.2.2.2.2.2.1 u.2.2.2.2.2.2.1), (a_p2, oX3 a_fl u.2.2.2.2.2.2.2.1 u.2.2.2.2.2.2.2.2.1 u.2.2.2.2.2.2.2.2.2.1 u.2.2.2.2.2.2.2.2.2.2)]) ⟨hx, hb, hml, hown, hts⟩ (c_X6_read l D cI cJ cZ a_fl a_va a_p2 H.size fl_e fl_f fl_bias fl_codes fl_signBit fl_endless va_m va_x va_more va_laid va_below va_settled va_sort p2_lower p2_way p2_more p2_beyond p1 p2 _ _ rfl ho) (cwV 2 hts gX7_figures_X6_read rfl rfl rfl (by decide +kernel) ⟨hRf _ (Nat.le_of_ble_eq_true rfl), hRl _ (Nat.le_of_ble_eq_true rfl)⟩) hK hN hP hD hS hA [2, 3, 4] [0, 1] [0, 1, 2, 3, 4] rfl rfl (by decide) (by decide) (by decide) (by decide) (fun _ => rfl) 1 5 rfl rfl rfl rfl hl.1 rfl (Nat.le_of_ble_eq_true rfl) dX7_figures_30 ⟨Nat.zero_le _, Nat.zero_le _⟩ (fun  u30 H locs ho hP hD hS => ?_)
      obtain ⟨u30_1, u30_2, u30_3, u30_4, u30_5, u30_6, u30_7, u30_8, u30_9, u30_10, u30_11⟩ := u30
      try dsimp only at ho
      replace hP : va_P D vwCl [(a_hb, oX7 a_fl a_pl a_va a_ce a_st a_li a_hbR), (a_hbR, .inl (cI, 7, .inl hbR_r)), (a_fl, oX1 fl_e fl_f fl_bias fl_codes fl_signBit fl_endless), (a_va, oX6 a_fl a_p2 u30_1 u30_2 u30_3 u30_4 u30_5 u30_6 u30_7), (a_p2, oX3 a_fl u30_8 u30_9 u30_10 u30_11)] H := hP
      replace hD : va_D A [(a_hb, oX7 a_fl a_pl a_va a_ce a_st a_li a_hbR), (a_hbR, .inl (cI, 7, .inl hbR_r)), (a_fl, oX1 fl_e fl_f fl_bias fl_codes fl_signBit fl_endless), (a_va, oX6 a_fl a_p2 u30_1 u30_2 u30_3 u30_4 u30_5 u30_6 u30_7), (a_p2, oX3 a_fl u30_8 u30_9 u30_10 u30_11)] := hD
      refine lv_aload_n hx hb dX7_figures_33 rfl (lv_at hl 0 rfl) ?_
      refine va_get (D := D) (ci := 6) (v := .ref a_va) (C := RX7) (T := TX7) (N := 7) hx hb hts in_X7_figures_X7 hown hK hP 0 rfl rfl 2 (by decide) (hts (.fieldLink RX7 28 "HardBench" "value" "LHardBench$Value;") (List.mem_of_getElem? (i := 2) (by decide +kernel))) (fun _ h9 => h9) rfl dX7_figures_34 ?_
      refine ca_Vi (b := a_va) (As := []) (rest := []) ⟨hx, hb, hml, hown, hts⟩ (c_X6_figuresRead l D cI cJ cZ a_fl a_va a_p2 fl_e fl_f fl_bias fl_codes fl_signBit fl_endless u30_1 u30_2 u30_3 u30_4 u30_5 u30_6 u30_7 u30_8 u30_9 u30_10 u30_11  _ ho) (cwV 0 hts gX7_figures_X6_figuresRead rfl rfl rfl (by decide +kernel) ⟨hRf _ (Nat.le_of_ble_eq_true rfl), hRl _ (Nat.le_of_ble_eq_true rfl)⟩) hK hN hP [2, 3, 4] rfl 1 5 rfl rfl rfl rfl hl.1 rfl (Nat.le_of_ble_eq_true rfl) dX7_figures_37 ⟨Nat.zero_le _, Nat.zero_le _⟩ (fun r37 ho => ?_)
      subst hQ; exact W.iret (v := r37) hx hb hr (fun t ht hW => ⟨⟨r37, (hbR_r, u30_1, u30_2, u30_3, u30_4, u30_5, u30_6, u30_7, u30_8, u30_9, u30_10, u30_11), rfl, ho, by rw [ht]; exact hP, hD⟩, hS.F ht⟩) (fun q hq => hS.2.2 q hq) dX7_figures_40
    · replace ho := ho.2 c_15
      exact C_18 hbR_r va_m va_x va_more va_laid va_below va_settled va_sort p2_lower p2_way p2_more p2_beyond H locs ls ho hP hD hS (lv_sub hl [0] rfl)
