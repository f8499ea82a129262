def w_X3_shifted : List Cond := .code yX3_shifted cX3_shifted 3 (some .long) :: wsL_law
set_option maxHeartbeats 4000000 in
set_option maxRecDepth 100000 in
theorem c_X3_shifted (l : Launch) (D : va_G) (cI cJ cZ : ClassId)   (p1 : Int64) (p2 : Int32) (post : Int64 → Prop) (ho : wp_X3_shifted post p1 p2) : Met l yX3_shifted w_X3_shifted ({ frames := 0, cells := 0, slots := 0, locals := 0 } : Room) (ro_P D [(cI, .int), (cJ, .long), (cZ, .boolean)] [.long p1, .int p2] []) (vp_Sl post) 0 0 (fun _ => False) := by
  refine Met.ofW (cc := cX3_shifted) (maxL := 3) (ret := (some .long)) (by decide) rfl ?_
  intro p e s m args below meth c s₁ B hml hv
  obtain ⟨hargs, hP, hK, hN⟩ := hv
  have hx := B.exec
  have hb := B.bytes
  have hr := B.returns
  have hts : ∀ w ∈ wsL_law, w.before args s = true := fun w h => atoms_spec (ws := w_X3_shifted) B.pre w (List.mem_cons_of_mem _ h)
  have hown : s.vm.findClass RX3 = some m.cls := findClass_of_methodNamed B.named
  have hlocks := B.notSynchronized
  have hl := lv_entry ([.long p1, .int p2]) (n := 3) (Nat.le_of_ble_eq_true rfl)
  rw [hargs, lg_entry_eq, ← hargs]
  generalize (lg_sl ([.long p1, .int p2]) ++ List.replicate (3 - (lg_sl ([.long p1, .int p2])).length) Slot.unset).toArray = ls at hl ⊢
  replace hl : lv_has ls 3 [(0, .long p1), (2, .int p2)] := hl
  have hRf : ∀ n, n ≤ 0 → n ≤ (headSpec w_X3_shifted ({ frames := 0, cells := 0, slots := 0, locals := 0 } : Room)).room.frames := fun n h => h
  have hRl : ∀ n, n ≤ 0 → n ≤ (headSpec w_X3_shifted ({ frames := 0, cells := 0, slots := 0, locals := 0 } : Room)).room.locals := fun n h => h
  generalize (headSpec w_X3_shifted ({ frames := 0, cells := 0, slots := 0, locals := 0 } : Room)).room = R at hRf hRl ⊢
  generalize hQ : MQ below _ args s 0 0 _ = Q
  unfold wp_X3_shifted at ho
  refine lv_iload_n hx hb dX3_shifted_0 rfl (lv_at hl 1 rfl) ?_
  refine lv_bipush (v := 62) hx hb dX3_shifted_1 (by decide) ?_
  refine lv_icmp_le (tgt := 8) hx hb dX3_shifted_3 (by decide) (fun c_3 => ?_) (fun c_3 => ?_)
  · replace ho := ho.1 c_3
    refine lv_iload_n hx hb dX3_shifted_8 rfl (lv_at hl 1 rfl) ?_
    refine lv_if_lt (tgt := 18) hx hb dX3_shifted_9 (by decide) (fun c_9 => ?_) (fun c_9 => ?_)
    · replace ho := ho.1 c_9
      refine lv_lload_n hx hb dX3_shifted_18 rfl (lv_at hl 0 rfl) ?_
      refine lv_iload_n hx hb dX3_shifted_19 rfl (lv_at hl 1 rfl) ?_
      refine lv_ineg hx hb dX3_shifted_20 ?_
      refine lv_lshl hx hb dX3_shifted_21 rfl ?_
      subst hQ; exact W.lret (v := (p1 <<< ((-p2).toInt64 &&& 63))) hx hb hr (fun t ht _ => ⟨(p1 <<< ((-p2).toInt64 &&& 63)), rfl, ho, ht⟩) (fun _ h => by cases h) dX3_shifted_22
    · replace ho := ho.2 c_9
      refine lv_lload_n hx hb dX3_shifted_12 rfl (lv_at hl 0 rfl) ?_
      refine lv_iload_n hx hb dX3_shifted_13 rfl (lv_at hl 1 rfl) ?_
      refine lv_lshr hx hb dX3_shifted_14 rfl ?_
      refine lv_goto (tgt := 22) hx hb dX3_shifted_15 (by decide) ?_
      subst hQ; exact W.lret (v := (p1 >>> (p2.toInt64 &&& 63))) hx hb hr (fun t ht _ => ⟨(p1 >>> (p2.toInt64 &&& 63)), rfl, ho, ht⟩) (fun _ h => by cases h) dX3_shifted_22
  · replace ho := ho.2 c_3
    refine lv_lconst (v := 0) hx hb dX3_shifted_6 (by decide) ?_
    subst hQ; exact W.lret (v := (0 : Int64)) hx hb hr (fun t ht _ => ⟨(0 : Int64), rfl, ho, ht⟩) (fun _ h => by cases h) dX3_shifted_7

def w_X3_lay : List Cond := .code yX3_lay cX3_lay 11 none :: wsL_law
set_option maxHeartbeats 4000000 in
set_option maxRecDepth 100000 in
theorem c_X3_lay (l : Launch) (D : va_G) (cI cJ cZ : ClassId) (a_fl : Nat) (a_pl : Nat) (sz : Nat) (fl_e : Int32) (fl_f : Int32) (fl_bias : Int32) (fl_codes : Int32) (fl_signBit : Int32) (fl_endless : Int32) (pl_lower : Int32) (pl_way : Int32) (pl_more : Int32) (pl_beyond : Int32) (p1 : Int64) (p2 : Int32) (p3 : Int32) (post : Int32 → Int32 → Int32 → Int32 → Prop) (A : Nat → Prop) (hAe : A = va_A [(a_fl, oX1 fl_e fl_f fl_bias fl_codes fl_signBit fl_endless), (a_pl, oX3 a_fl pl_lower pl_way pl_more pl_beyond)] sz) (ho : wp_X3_lay post fl_f fl_bias fl_endless p1 p2 p3) : Met l yX3_lay w_X3_lay ({ frames := 2, cells := 0, slots := 0, locals := 43 } : Room) (rw_P D [(cI, .int), (cJ, .long), (cZ, .boolean)] [.ref a_pl, .long p1, .int p2, .int p3] sz [(a_fl, oX1 fl_e fl_f fl_bias fl_codes fl_signBit fl_endless), (a_pl, oX3 a_fl pl_lower pl_way pl_more pl_beyond)]) (va_Qv (fun (u : (Int32) × (Int32) × (Int32) × (Int32)) => post u.1 u.2.1 u.2.2.1 u.2.2.2) (rw_B D A (fun (u : (Int32) × (Int32) × (Int32) × (Int32)) => [(a_fl, oX1 fl_e fl_f fl_bias fl_codes fl_signBit fl_endless), (a_pl, oX3 a_fl u.1 u.2.1 u.2.2.1 u.2.2.2)])) A) 0 0 A := by
  refine Met.ofW (cc := cX3_lay) (maxL := 11) (ret := none) (by decide) rfl ?_
  intro p e s m args below meth c s₁ B hml hv
  obtain ⟨hargs, hsz, hP, hK, hN, hD0⟩ := hv
  have hx := B.exec
  have hb := B.bytes
  have hr := B.returns
  have hts : ∀ w ∈ wsL_law, w.before args s = true := fun w h => atoms_spec (ws := w_X3_lay) B.pre w (List.mem_cons_of_mem _ h)
  have hown : s.vm.findClass RX3 = some m.cls := findClass_of_methodNamed B.named
  have hlocks := B.notSynchronized
  subst hsz
  have hD : va_D A [(a_fl, oX1 fl_e fl_f fl_bias fl_codes fl_signBit fl_endless), (a_pl, oX3 a_fl pl_lower pl_way pl_more pl_beyond)] := by rw [hAe]; exact hD0.self
  have hA : ∀ q : Nat, s.heap.size ≤ q → A q := fun q h => by rw [hAe]; exact Or.inr h
  have hS : va_S A s.heap s.heap [] := va_S.rf
  have hl := lv_entry ([.ref a_pl, .long p1, .int p2, .int p3]) (n := 11) (Nat.le_of_ble_eq_true rfl)
  rw [hargs, lg_entry_eq, ← hargs]
  generalize (lg_sl ([.ref a_pl, .long p1, .int p2, .int p3]) ++ List.replicate (11 - (lg_sl ([.ref a_pl, .long p1, .int p2, .int p3])).length) Slot.unset).toArray = ls at hl ⊢
  replace hl : lv_has ls 11 [(0, .ref a_pl), (1, .long p1), (3, .int p2), (4, .int p3)] := hl
  have hRf : ∀ n, n ≤ 2 → n ≤ (headSpec w_X3_lay ({ frames := 2, cells := 0, slots := 0, locals := 43 } : Room)).room.frames := fun n h => h
  have hRl : ∀ n, n ≤ 43 → n ≤ (headSpec w_X3_lay ({ frames := 2, cells := 0, slots := 0, locals := 43 } : Room)).room.locals := fun n h => h
  generalize (headSpec w_X3_lay ({ frames := 2, cells := 0, slots := 0, locals := 43 } : Room)).room = R at hRf hRl ⊢
  generalize hQ : MQ below _ args s 0 0 _ = Q
  have C_142 : ∀ (pl_lower : Int32) (pl_way : Int32) (pl_more : Int32) (pl_beyond : Int32) (x10 : Int32) (y0 : Int32) (H : Heap) (locs : List Loc) (ls : Array Slot), wp_X3_lay_142 post  fl_endless pl_way pl_more x10 y0 → va_P D vwCl [(a_fl, oX1 fl_e fl_f fl_bias fl_codes fl_signBit fl_endless), (a_pl, oX3 a_fl pl_lower pl_way pl_more pl_beyond)] H → va_D A [(a_fl, oX1 fl_e fl_f fl_bias fl_codes fl_signBit fl_endless), (a_pl, oX3 a_fl pl_lower pl_way pl_more pl_beyond)] → va_S A s.heap H locs → lv_has ls 11 [(0, .ref a_pl), (10, .int x10)] → W p l e R s m args below meth c H locs 0 0 Q (F0 m 142 ls [.int y0, .ref a_pl]) := by
    intro pl_lower pl_way pl_more pl_beyond x10 y0 H locs ls ho hP hD hS hl
    unfold wp_X3_lay_142 at ho
    have o_142 := ho.1
    replace ho := ho.2
    refine va_put (D := D) (ci := 3) (v := .int y0) (ty := .boolean) (C := RX3) (T := TX3) (N := 5) hx hb hts inlX3 tyX3 tyX3_ok nmX3 hown hK hP hD hS 1 rfl rfl 4 (by decide) (hts _ wl_333) (fun _ h9 => h9) rfl (by decide +kernel) (bz_n o_142) (bz_f o_142) (Nat.le_of_ble_eq_true rfl) dX3_lay_142 (fun H locs hP hD hS => ?_)
    replace hP : va_P D vwCl [(a_fl, oX1 fl_e fl_f fl_bias fl_codes fl_signBit fl_endless), (a_pl, oX3 a_fl pl_lower pl_way pl_more y0)] H := hP
    replace hD : va_D A [(a_fl, oX1 fl_e fl_f fl_bias fl_codes fl_signBit fl_endless), (a_pl, oX3 a_fl pl_lower pl_way pl_more y0)] := hD
    refine lv_aload_n hx hb dX3_lay_145 rfl (lv_at hl 0 rfl) ?_
    refine lv_aload_n hx hb dX3_lay_146 rfl (lv_at hl 0 rfl) ?_
    refine va_get (D := D) (ci := 3) (v := .int y0) (C := RX3) (T := TX3) (N := 5) hx hb hts inlX3 hown hK hP 1 rfl rfl 4 (by decide) (hts _ wl_333) (fun _ h9 => h9) rfl dX3_lay_147 ?_
    refine lv_if_eq (tgt := 163) hx hb dX3_lay_150 (by decide) (fun c_150 => ?_) (fun c_150 => ?_)
    · replace ho := ho.1 c_150
      refine lv_iload hx hb dX3_lay_163 (lv_at hl 1 rfl) ?_
      refine va_put (D := D) (ci := 3) (v := .int x10) (ty := .int) (C := RX3) (T := TX3) (N := 5) hx hb hts inlX3 tyX3 tyX3_ok nmX3 hown hK hP hD hS 1 rfl rfl 1 (by decide) (hts _ wl_334) (fun _ h9 => h9) rfl (by decide +kernel) rfl rfl (Nat.le_of_ble_eq_true rfl) dX3_lay_165 (fun H locs hP hD hS => ?_)
      replace hP : va_P D vwCl [(a_fl, oX1 fl_e fl_f fl_bias fl_codes fl_signBit fl_endless), (a_pl, oX3 a_fl x10 pl_way pl_more y0)] H := hP
      replace hD : va_D A [(a_fl, oX1 fl_e fl_f fl_bias fl_codes fl_signBit fl_endless), (a_pl, oX3 a_fl x10 pl_way pl_more y0)] := hD
      subst hQ; exact W.vret hx hb hr (fun t ht hW => ⟨⟨(x10, pl_way, pl_more, y0), rfl, ho, by rw [ht]; exact hP, hD⟩, hS.F ht⟩) (fun q hq => hS.2.2 q hq) dX3_lay_168
    · replace ho := ho.2 c_150
      refine lv_aload_n hx hb dX3_lay_153 rfl (lv_at hl 0 rfl) ?_
      refine va_get (D := D) (ci := 3) (v := .ref a_fl) (C := RX3) (T := TX3) (N := 5) hx hb hts inlX3 hown hK hP 1 rfl rfl 0 (by decide) (hts _ wl_56) (fun _ h9 => h9) rfl dX3_lay_154 ?_
      refine ca_Vi (b := a_fl) (As := []) (rest := [.ref a_pl]) ⟨hx, hb, hml, hown, hts⟩ (c_X1_greatestPlain l D cI cJ cZ a_fl fl_e fl_f fl_bias fl_codes fl_signBit fl_endless  _ ho) (cwV 0 hts (gdV wl_345 wl_346 wl_347 wl_14 wl_348) rfl rfl rfl (by decide +kernel) ⟨hRf _ (Nat.le_of_ble_eq_true rfl), hRl _ (Nat.le_of_ble_eq_true rfl)⟩) hK hN hP [0] rfl 0 1 rfl rfl rfl rfl hl.1 rfl (Nat.le_of_ble_eq_true rfl) dX3_lay_157 ⟨Nat.zero_le _, Nat.zero_le _⟩ (fun r157 ho => ?_)
      refine lv_goto (tgt := 165) hx hb dX3_lay_160 (by decide) ?_
      refine va_put (D := D) (ci := 3) (v := .int r157) (ty := .int) (C := RX3) (T := TX3) (N := 5) hx hb hts inlX3 tyX3 tyX3_ok nmX3 hown hK hP hD hS 1 rfl rfl 1 (by decide) (hts _ wl_334) (fun _ h9 => h9) rfl (by decide +kernel) rfl rfl (Nat.le_of_ble_eq_true rfl) dX3_lay_165 (fun H locs hP hD hS => ?_)
      replace hP : va_P D vwCl [(a_fl, oX1 fl_e fl_f fl_bias fl_codes fl_signBit fl_endless), (a_pl, oX3 a_fl r157 pl_way pl_more y0)] H := hP
      replace hD : va_D A [(a_fl, oX1 fl_e fl_f fl_bias fl_codes fl_signBit fl_endless), (a_pl, oX3 a_fl r157 pl_way pl_more y0)] := hD
      subst hQ; exact W.vret hx hb hr (fun t ht hW => ⟨⟨(r157, pl_way, pl_more, y0), rfl, ho, by rw [ht]; exact hP, hD⟩, hS.F ht⟩) (fun q hq => hS.2.2 q hq) dX3_lay_168
  have C_81 : ∀ (pl_lower : Int32) (pl_way : Int32) (pl_more : Int32) (pl_beyond : Int32) (x6 : Int32) (x8 : Int64) (y0 : Int32) (H : Heap) (locs : List Loc) (ls : Array Slot), wp_X3_lay_81 post  fl_f fl_bias fl_endless x6 x8 y0 → va_P D vwCl [(a_fl, oX1 fl_e fl_f fl_bias fl_codes fl_signBit fl_endless), (a_pl, oX3 a_fl pl_lower pl_way pl_more pl_beyond)] H → va_D A [(a_fl, oX1 fl_e fl_f fl_bias fl_codes fl_signBit fl_endless), (a_pl, oX3 a_fl pl_lower pl_way pl_more pl_beyond)] → va_S A s.heap H locs → lv_has ls 11 [(0, .ref a_pl), (6, .int x6), (8, .long x8)] → W p l e R s m args below meth c H locs 0 0 Q (F0 m 81 ls [.int y0, .ref a_pl]) := by
    intro pl_lower pl_way pl_more pl_beyond x6 x8 y0 H locs ls ho hP hD hS hl
    unfold wp_X3_lay_81 at ho
    have o_81 := ho.1
    replace ho := ho.2
    refine va_put (D := D) (ci := 3) (v := .int y0) (ty := .boolean) (C := RX3) (T := TX3) (N := 5) hx hb hts inlX3 tyX3 tyX3_ok nmX3 hown hK hP hD hS 1 rfl rfl 3 (by decide) (hts _ wl_331) (fun _ h9 => h9) rfl (by decide +kernel) (bz_n o_81) (bz_f o_81) (Nat.le_of_ble_eq_true rfl) dX3_lay_81 (fun H locs hP hD hS => ?_)
    replace hP : va_P D vwCl [(a_fl, oX1 fl_e fl_f fl_bias fl_codes fl_signBit fl_endless), (a_pl, oX3 a_fl pl_lower pl_way y0 pl_beyond)] H := hP
    replace hD : va_D A [(a_fl, oX1 fl_e fl_f fl_bias fl_codes fl_signBit fl_endless), (a_pl, oX3 a_fl pl_lower pl_way y0 pl_beyond)] := hD
    refine lv_iload hx hb dX3_lay_84 (lv_at hl 1 rfl) ?_
    refine lv_aload_n hx hb dX3_lay_86 rfl (lv_at hl 0 rfl) ?_
    refine va_get (D := D) (ci := 3) (v := .ref a_fl) (C := RX3) (T := TX3) (N := 5) hx hb hts inlX3 hown hK hP 1 rfl rfl 0 (by decide) (hts _ wl_56) (fun _ h9 => h9) rfl dX3_lay_87 ?_
    refine va_getN (D := D) (ci := 1) (v := .int fl_bias) (C := RX1) (T := TX1) (N := 6) hx hb hts inlX1 hown hK hP 0 rfl rfl 2 (by decide) hN.fRX3_21 (fun _ h9 => h9) rfl dX3_lay_90 ?_
    refine lv_iadd hx hb dX3_lay_93 ?_
    refine lv_iconst (v := 1) hx hb dX3_lay_94 (by decide) ?_
    refine lv_isub hx hb dX3_lay_95 ?_
    refine lv_aload_n hx hb dX3_lay_96 rfl (lv_at hl 0 rfl) ?_
    refine va_get (D := D) (ci := 3) (v := .ref a_fl) (C := RX3) (T := TX3) (N := 5) hx hb hts inlX3 hown hK hP 1 rfl rfl 0 (by decide) (hts _ wl_56) (fun _ h9 => h9) rfl dX3_lay_97 ?_
    refine va_getN (D := D) (ci := 1) (v := .int fl_f) (C := RX1) (T := TX1) (N := 6) hx hb hts inlX1 hown hK hP 0 rfl rfl 1 (by decide) hN.fRX3_33 (fun _ h9 => h9) rfl dX3_lay_100 ?_
    refine lv_ishl hx hb dX3_lay_103 ?_
    refine lv_lload hx hb dX3_lay_104 (lv_at hl 2 rfl) ?_
    refine lv_bipush (v := 10) hx hb dX3_lay_106 (by decide) ?_
    refine lv_lshr hx hb dX3_lay_108 rfl ?_
    refine lv_l2i hx hb dX3_lay_109 rfl ?_
    refine lv_iadd hx hb dX3_lay_110 ?_
    refine lv_istore (lv' := [(10, .int ((((x6 + fl_bias) - (1 : Int32)) <<< (fl_f &&& 31)) + ((x8 >>> ((10 : Int32).toInt64 &&& 63)).toInt32))), (0, .ref a_pl), (6, .int x6), (8, .long x8)]) hx hb dX3_lay_111 hl (by decide) rfl (fun ls hl => ?_)
    refine lv_aload_n hx hb dX3_lay_113 rfl (lv_at hl 1 rfl) ?_
    refine lv_lload hx hb dX3_lay_114 (lv_at hl 3 rfl) ?_
    refine lv_l2i hx hb dX3_lay_116 rfl ?_
    refine lv_sipush (v := 1023) hx hb dX3_lay_117 (by decide) ?_
    refine lv_iand hx hb dX3_lay_120 ?_
    refine va_put (D := D) (ci := 3) (v := .int (x8.toInt32 &&& (1023 : Int32))) (ty := .int) (C := RX3) (T := TX3) (N := 5) hx hb hts inlX3 tyX3 tyX3_ok nmX3 hown hK hP hD hS 1 rfl rfl 2 (by decide) (hts _ wl_332) (fun _ h9 => h9) rfl (by decide +kernel) rfl rfl (Nat.le_of_ble_eq_true rfl) dX3_lay_121 (fun H locs hP hD hS => ?_)
    replace hP : va_P D vwCl [(a_fl, oX1 fl_e fl_f fl_bias fl_codes fl_signBit fl_endless), (a_pl, oX3 a_fl pl_lower (x8.toInt32 &&& (1023 : Int32)) y0 pl_beyond)] H := hP
    replace hD : va_D A [(a_fl, oX1 fl_e fl_f fl_bias fl_codes fl_signBit fl_endless), (a_pl, oX3 a_fl pl_lower (x8.toInt32 &&& (1023 : Int32)) y0 pl_beyond)] := hD
    refine lv_aload_n hx hb dX3_lay_124 rfl (lv_at hl 1 rfl) ?_
    refine lv_iload hx hb dX3_lay_125 (lv_at hl 0 rfl) ?_
    refine lv_aload_n hx hb dX3_lay_127 rfl (lv_at hl 1 rfl) ?_
    refine va_get (D := D) (ci := 3) (v := .ref a_fl) (C := RX3) (T := TX3) (N := 5) hx hb hts inlX3 hown hK hP 1 rfl rfl 0 (by decide) (hts _ wl_56) (fun _ h9 => h9) rfl dX3_lay_128 ?_
    refine ca_Vi (b := a_fl) (As := []) (rest := [.int ((((x6 + fl_bias) - (1 : Int32)) <<< (fl_f &&& 31)) + ((x8 >>> ((10 : Int32).toInt64 &&& 63)).toInt32)), .ref a_pl]) ⟨hx, hb, hml, hown, hts⟩ (c_X1_greatestPlain l D cI cJ cZ a_fl fl_e fl_f fl_bias fl_codes fl_signBit fl_endless  _ ho) (cwV 0 hts (gdV wl_345 wl_346 wl_347 wl_14 wl_348) rfl rfl rfl (by decide +kernel) ⟨hRf _ (Nat.le_of_ble_eq_true rfl), hRl _ (Nat.le_of_ble_eq_true rfl)⟩) hK hN hP [0] rfl 0 1 rfl rfl rfl rfl hl.1 rfl (Nat.le_of_ble_eq_true rfl) dX3_lay_131 ⟨Nat.zero_le _, Nat.zero_le _⟩ (fun r131 ho => ?_)
    refine lv_icmp_le (tgt := 141) hx hb dX3_lay_134 (by decide) (fun c_134 => ?_) (fun c_134 => ?_)
    · replace ho := ho.1 c_134
      refine lv_iconst (v := 0) hx hb dX3_lay_141 (by decide) ?_
      exact C_142 pl_lower (x8.toInt32 &&& (1023 : Int32)) y0 pl_beyond ((((x6 + fl_bias) - (1 : Int32)) <<< (fl_f &&& 31)) + ((x8 >>> ((10 : Int32).toInt64 &&& 63)).toInt32)) (0 : Int32) H locs ls ho hP hD hS (lv_sub hl [1, 0] rfl)
    · replace ho := ho.2 c_134
      refine lv_iconst (v := 1) hx hb dX3_lay_137 (by decide) ?_
      refine lv_goto (tgt := 142) hx hb dX3_lay_138 (by decide) ?_
      exact C_142 pl_lower (x8.toInt32 &&& (1023 : Int32)) y0 pl_beyond ((((x6 + fl_bias) - (1 : Int32)) <<< (fl_f &&& 31)) + ((x8 >>> ((10 : Int32).toInt64 &&& 63)).toInt32)) (1 : Int32) H locs ls ho hP hD hS (lv_sub hl [1, 0] rfl)
  have C_80 : ∀ (pl_lower : Int32) (pl_way : Int32) (pl_more : Int32) (pl_beyond : Int32) (x6 : Int32) (x8 : Int64) (H : Heap) (locs : List Loc) (ls : Array Slot), wp_X3_lay_80 post  fl_f fl_bias fl_endless x6 x8 → va_P D vwCl [(a_fl, oX1 fl_e fl_f fl_bias fl_codes fl_signBit fl_endless), (a_pl, oX3 a_fl pl_lower pl_way pl_more pl_beyond)] H → va_D A [(a_fl, oX1 fl_e fl_f fl_bias fl_codes fl_signBit fl_endless), (a_pl, oX3 a_fl pl_lower pl_way pl_more pl_beyond)] → va_S A s.heap H locs → lv_has ls 11 [(0, .ref a_pl), (6, .int x6), (8, .long x8)] → W p l e R s m args below meth c H locs 0 0 Q (F0 m 80 ls [.ref a_pl]) := by
    intro pl_lower pl_way pl_more pl_beyond x6 x8 H locs ls ho hP hD hS hl
    unfold wp_X3_lay_80 at ho
    refine lv_iconst (v := 0) hx hb dX3_lay_80 (by decide) ?_
    exact C_81 pl_lower pl_way pl_more pl_beyond x6 x8 (0 : Int32) H locs ls ho hP hD hS (lv_sub hl [0, 1, 2] rfl)
  have C_76 : ∀ (pl_lower : Int32) (pl_way : Int32) (pl_more : Int32) (pl_beyond : Int32) (x6 : Int32) (x8 : Int64) (H : Heap) (locs : List Loc) (ls : Array Slot), wp_X3_lay_76 post  fl_f fl_bias fl_endless x6 x8 → va_P D vwCl [(a_fl, oX1 fl_e fl_f fl_bias fl_codes fl_signBit fl_endless), (a_pl, oX3 a_fl pl_lower pl_way pl_more pl_beyond)] H → va_D A [(a_fl, oX1 fl_e fl_f fl_bias fl_codes fl_signBit fl_endless), (a_pl, oX3 a_fl pl_lower pl_way pl_more pl_beyond)] → va_S A s.heap H locs → lv_has ls 11 [(0, .ref a_pl), (6, .int x6), (8, .long x8)] → W p l e R s m args below meth c H locs 0 0 Q (F0 m 76 ls [.ref a_pl]) := by
    intro pl_lower pl_way pl_more pl_beyond x6 x8 H locs ls ho hP hD hS hl
    unfold wp_X3_lay_76 at ho
    refine lv_iconst (v := 1) hx hb dX3_lay_76 (by decide) ?_
    refine lv_goto (tgt := 81) hx hb dX3_lay_77 (by decide) ?_
    exact C_81 pl_lower pl_way pl_more pl_beyond x6 x8 (1 : Int32) H locs ls ho hP hD hS (lv_sub hl [0, 1, 2] rfl)
  suffices main : ∀ (H : Heap) (locs : List Loc), va_P D vwCl [(a_fl, oX1 fl_e fl_f fl_bias fl_codes fl_signBit fl_endless), (a_pl, oX3 a_fl pl_lower pl_way pl_more pl_beyond)] H → va_S A s.heap H locs → W p l e R s m args below meth c H locs 0 0 Q (F0 m 0 ls []) from main _ _ hP hS
  intro H locs hP hS
  unfold wp_X3_lay at ho
  refine lv_bipush (v := 63) hx hb dX3_lay_0 (by decide) ?_
  refine lv_lload_n hx hb dX3_lay_2 rfl (lv_at hl 1 rfl) ?_
  refine ca_Si (As := [.long p1]) (rest := [.int (63 : Int32)]) ⟨hx, hb, hml, hown, hts⟩ (c_J13_numberOfLeadingZeros_95d88 l D cI cJ cZ   p1 _ ho) (va_cwS 1 hts (gdS wl_335 wl_336 wl_337 wl_338) rfl rfl rfl (by decide +kernel) ⟨hRf _ (Nat.le_of_ble_eq_true rfl), hRl _ (Nat.le_of_ble_eq_true rfl)⟩) hK hN hP [] rfl rfl hl.1 rfl (Nat.le_of_ble_eq_true rfl) dX3_lay_3 ⟨Nat.zero_le _, Nat.zero_le _⟩ (fun r3 ho => ?_)
  refine lv_isub hx hb dX3_lay_6 ?_
  refine lv_iload_n hx hb dX3_lay_7 rfl (lv_at hl 2 rfl) ?_
  refine lv_iadd hx hb dX3_lay_8 ?_
  refine lv_istore (lv' := [(5, .int (((63 : Int32) - r3) + p2)), (0, .ref a_pl), (1, .long p1), (3, .int p2), (4, .int p3)]) hx hb dX3_lay_9 hl (by decide) rfl (fun ls hl => ?_)
  refine lv_iload hx hb dX3_lay_11 (lv_at hl 0 rfl) ?_
  refine lv_iconst (v := 1) hx hb dX3_lay_13 (by decide) ?_
  refine lv_aload_n hx hb dX3_lay_14 rfl (lv_at hl 1 rfl) ?_
  refine va_get (D := D) (ci := 3) (v := .ref a_fl) (C := RX3) (T := TX3) (N := 5) hx hb hts inlX3 hown hK hP 1 rfl rfl 0 (by decide) (hts _ wl_56) (fun _ h9 => h9) rfl dX3_lay_15 ?_
  refine va_getN (D := D) (ci := 1) (v := .int fl_bias) (C := RX1) (T := TX1) (N := 6) hx hb hts inlX1 hown hK hP 0 rfl rfl 2 (by decide) hN.fRX3_21 (fun _ h9 => h9) rfl dX3_lay_18 ?_
  refine lv_isub hx hb dX3_lay_21 ?_
  refine va_mmax hx hb (hml.trans hl.1.symm) hown (hts _ wl_330) (hts _ wl_243) (hts _ wl_244) (hts _ wl_245) (hRf 1 (Nat.le_of_ble_eq_true rfl)) (hRl _ (Nat.le_of_ble_eq_true rfl)) (Nat.zero_le _) (Nat.zero_le _) dX3_lay_22 ?_
  refine lv_istore (lv' := [(6, .int (if (((63 : Int32) - r3) + p2) < ((1 : Int32) - fl_bias) then ((1 : Int32) - fl_bias) else (((63 : Int32) - r3) + p2))), (5, .int (((63 : Int32) - r3) + p2)), (0, .ref a_pl), (1, .long p1), (3, .int p2), (4, .int p3)]) hx hb dX3_lay_25 hl (by decide) rfl (fun ls hl => ?_)
  refine lv_iload hx hb dX3_lay_27 (lv_at hl 0 rfl) ?_
  refine lv_aload_n hx hb dX3_lay_29 rfl (lv_at hl 2 rfl) ?_
  refine va_get (D := D) (ci := 3) (v := .ref a_fl) (C := RX3) (T := TX3) (N := 5) hx hb hts inlX3 hown hK hP 1 rfl rfl 0 (by decide) (hts _ wl_56) (fun _ h9 => h9) rfl dX3_lay_30 ?_
  refine va_getN (D := D) (ci := 1) (v := .int fl_f) (C := RX1) (T := TX1) (N := 6) hx hb hts inlX1 hown hK hP 0 rfl rfl 1 (by decide) hN.fRX3_33 (fun _ h9 => h9) rfl dX3_lay_33 ?_
  refine lv_isub hx hb dX3_lay_36 ?_
  refine lv_bipush (v := 10) hx hb dX3_lay_37 (by decide) ?_
  refine lv_isub hx hb dX3_lay_39 ?_
  refine lv_iload_n hx hb dX3_lay_40 rfl (lv_at hl 4 rfl) ?_
  refine lv_isub hx hb dX3_lay_41 ?_
  refine lv_istore (lv' := [(7, .int ((((if (((63 : Int32) - r3) + p2) < ((1 : Int32) - fl_bias) then ((1 : Int32) - fl_bias) else (((63 : Int32) - r3) + p2)) - fl_f) - (10 : Int32)) - p2)), (6, .int (if (((63 : Int32) - r3) + p2) < ((1 : Int32) - fl_bias) then ((1 : Int32) - fl_bias) else (((63 : Int32) - r3) + p2))), (5, .int (((63 : Int32) - r3) + p2)), (0, .ref a_pl), (1, .long p1), (3, .int p2), (4, .int p3)]) hx hb dX3_lay_42 hl (by decide) rfl (fun ls hl => ?_)
  refine lv_lload_n hx hb dX3_lay_44 rfl (lv_at hl 4 rfl) ?_
  refine lv_iload hx hb dX3_lay_45 (lv_at hl 0 rfl) ?_
  refine ca_Sl (As := [.long p1, .int ((((if (((63 : Int32) - r3) + p2) < ((1 : Int32) - fl_bias) then ((1 : Int32) - fl_bias) else (((63 : Int32) - r3) + p2)) - fl_f) - (10 : Int32)) - p2)]) (rest := []) ⟨hx, hb, hml, hown, hts⟩ (c_X3_shifted l D cI cJ cZ   p1 ((((if (((63 : Int32) - r3) + p2) < ((1 : Int32) - fl_bias) then ((1 : Int32) - fl_bias) else (((63 : Int32) - r3) + p2)) - fl_f) - (10 : Int32)) - p2) _ ho) (va_cwS 2 hts (gdS wl_342 wl_343 wl_18 wl_344) rfl rfl rfl (by decide +kernel) ⟨hRf _ (Nat.le_of_ble_eq_true rfl), hRl _ (Nat.le_of_ble_eq_true rfl)⟩) hK hN hP [] rfl rfl hl.1 rfl (Nat.le_of_ble_eq_true rfl) dX3_lay_47 ⟨Nat.zero_le _, Nat.zero_le _⟩ (fun r47 ho => ?_)
  refine lv_lstore (lv' := [(8, .long r47), (7, .int ((((if (((63 : Int32) - r3) + p2) < ((1 : Int32) - fl_bias) then ((1 : Int32) - fl_bias) else (((63 : Int32) - r3) + p2)) - fl_f) - (10 : Int32)) - p2)), (6, .int (if (((63 : Int32) - r3) + p2) < ((1 : Int32) - fl_bias) then ((1 : Int32) - fl_bias) else (((63 : Int32) - r3) + p2))), (5, .int (((63 : Int32) - r3) + p2)), (0, .ref a_pl), (1, .long p1), (3, .int p2), (4, .int p3)]) hx hb dX3_lay_50 hl (by decide) rfl (fun ls hl => ?_)
  refine lv_aload_n hx hb dX3_lay_52 rfl (lv_at hl 4 rfl) ?_
  refine lv_iload hx hb dX3_lay_53 (lv_at hl 7 rfl) ?_
  refine lv_if_ne (tgt := 76) hx hb dX3_lay_55 (by decide) (fun c_55 => ?_) (fun c_55 => ?_)
  · replace ho := ho.1 c_55
    exact C_76 pl_lower pl_way pl_more pl_beyond (if (((63 : Int32) - r3) + p2) < ((1 : Int32) - fl_bias) then ((1 : Int32) - fl_bias) else (((63 : Int32) - r3) + p2)) r47 H locs ls ho hP hD hS (lv_sub hl [4, 2, 0] rfl)
  · replace ho := ho.2 c_55
    refine lv_iload hx hb dX3_lay_58 (lv_at hl 1 rfl) ?_
    refine lv_if_le (tgt := 80) hx hb dX3_lay_60 (by decide) (fun c_60 => ?_) (fun c_60 => ?_)
    · replace ho := ho.1 c_60
      exact C_80 pl_lower pl_way pl_more pl_beyond (if (((63 : Int32) - r3) + p2) < ((1 : Int32) - fl_bias) then ((1 : Int32) - fl_bias) else (((63 : Int32) - r3) + p2)) r47 H locs ls ho hP hD hS (lv_sub hl [4, 2, 0] rfl)
    · replace ho := ho.2 c_60
      refine lv_lload hx hb dX3_lay_63 (lv_at hl 0 rfl) ?_
      refine lv_iload hx hb dX3_lay_65 (lv_at hl 1 rfl) ?_
      refine lv_ineg hx hb dX3_lay_67 ?_
      refine ca_Sl (As := [.long r47, .int (-((((if (((63 : Int32) - r3) + p2) < ((1 : Int32) - fl_bias) then ((1 : Int32) - fl_bias) else (((63 : Int32) - r3) + p2)) - fl_f) - (10 : Int32)) - p2))]) (rest := [.ref a_pl]) ⟨hx, hb, hml, hown, hts⟩ (c_X3_shifted l D cI cJ cZ   r47 (-((((if (((63 : Int32) - r3) + p2) < ((1 : Int32) - fl_bias) then ((1 : Int32) - fl_bias) else (((63 : Int32) - r3) + p2)) - fl_f) - (10 : Int32)) - p2)) _ ho) (va_cwS 2 hts (gdS wl_342 wl_343 wl_18 wl_344) rfl rfl rfl (by decide +kernel) ⟨hRf _ (Nat.le_of_ble_eq_true rfl), hRl _ (Nat.le_of_ble_eq_true rfl)⟩) hK hN hP [] rfl rfl hl.1 rfl (Nat.le_of_ble_eq_true rfl) dX3_lay_68 ⟨Nat.zero_le _, Nat.zero_le _⟩ (fun r68 ho => ?_)
      refine lv_lload_n hx hb dX3_lay_71 rfl (lv_at hl 5 rfl) ?_
      refine W.lcmp hx hb dX3_lay_72 ?_
      refine lv_if_eq (tgt := 80) hx hb dX3_lay_73 (by decide) (fun c_73 => ?_) (fun c_73 => ?_)
      · replace ho := ho.1 c_73
        exact C_80 pl_lower pl_way pl_more pl_beyond (if (((63 : Int32) - r3) + p2) < ((1 : Int32) - fl_bias) then ((1 : Int32) - fl_bias) else (((63 : Int32) - r3) + p2)) r47 H locs ls ho hP hD hS (lv_sub hl [4, 2, 0] rfl)
      · replace ho := ho.2 c_73
        exact C_76 pl_lower pl_way pl_more pl_beyond (if (((63 : Int32) - r3) + p2) < ((1 : Int32) - fl_bias) then ((1 : Int32) - fl_bias) else (((63 : Int32) - r3) + p2)) r47 H locs ls ho hP hD hS (lv_sub hl [4, 2, 0] rfl)

def w_X3_sortLaid : List Cond := .code yX3_sortLaid cX3_sortLaid 1 (some .int) :: wsL_law
set_option maxHeartbeats 4000000 in
set_option maxRecDepth 100000 in
theorem c_X3_sortLaid (l : Launch) (D : va_G) (cI cJ cZ : ClassId) (a_fl : Nat) (a_pl : Nat) (pl_lower : Int32) (pl_way : Int32) (pl_more : Int32) (pl_beyond : Int32)  (post : Int32 → Prop) (ho : wp_X3_sortLaid post pl_way pl_more pl_beyond) : Met l yX3_sortLaid w_X3_sortLaid ({ frames := 0, cells := 0, slots := 0, locals := 0 } : Room) (ro_P D [(cI, .int), (cJ, .long), (cZ, .boolean)] [.ref a_pl] [(a_pl, oX3 a_fl pl_lower pl_way pl_more pl_beyond)]) (vp_Si post) 0 0 (fun _ => False) := by
  refine Met.ofW (cc := cX3_sortLaid) (maxL := 1) (ret := (some .int)) (by decide) rfl ?_
  intro p e s m args below meth c s₁ B hml hv
  obtain ⟨hargs, hP, hK, hN⟩ := hv
  have hx := B.exec
  have hb := B.bytes
  have hr := B.returns
  have hts : ∀ w ∈ wsL_law, w.before args s = true := fun w h => atoms_spec (ws := w_X3_sortLaid) B.pre w (List.mem_cons_of_mem _ h)
  have hown : s.vm.findClass RX3 = some m.cls := findClass_of_methodNamed B.named
  have hlocks := B.notSynchronized
  have hl := lv_entry ([.ref a_pl]) (n := 1) (Nat.le_of_ble_eq_true rfl)
  rw [hargs, lg_entry_eq, ← hargs]
  generalize (lg_sl ([.ref a_pl]) ++ List.replicate (1 - (lg_sl ([.ref a_pl])).length) Slot.unset).toArray = ls at hl ⊢
  replace hl : lv_has ls 1 [(0, .ref a_pl)] := hl
  have hRf : ∀ n, n ≤ 0 → n ≤ (headSpec w_X3_sortLaid ({ frames := 0, cells := 0, slots := 0, locals := 0 } : Room)).room.frames := fun n h => h
  have hRl : ∀ n, n ≤ 0 → n ≤ (headSpec w_X3_sortLaid ({ frames := 0, cells := 0, slots := 0, locals := 0 } : Room)).room.locals := fun n h => h
  generalize (headSpec w_X3_sortLaid ({ frames := 0, cells := 0, slots := 0, locals := 0 } : Room)).room = R at hRf hRl ⊢
  generalize hQ : MQ below _ args s 0 0 _ = Q
  unfold wp_X3_sortLaid at ho
  refine lv_aload_n hx hb dX3_sortLaid_0 rfl (lv_at hl 0 rfl) ?_
  refine va_get (D := D) (ci := 3) (v := .int pl_beyond) (C := RX3) (T := TX3) (N := 5) hx hb hts inlX3 hown hK hP 0 rfl rfl 4 (by decide) (hts _ wl_333) (fun _ h9 => h9) rfl dX3_sortLaid_1 ?_
  refine lv_if_ne (tgt := 14) hx hb dX3_sortLaid_4 (by decide) (fun c_4 => ?_) (fun c_4 => ?_)
  · replace ho := ho.1 c_4
    refine lv_iconst (v := 3) hx hb dX3_sortLaid_14 (by decide) ?_
    subst hQ; exact W.iret (v := (3 : Int32)) hx hb hr (fun t ht _ => ⟨(3 : Int32), rfl, ho, ht⟩) (fun _ h => by cases h) dX3_sortLaid_15
  · replace ho := ho.2 c_4
    refine lv_aload_n hx hb dX3_sortLaid_7 rfl (lv_at hl 0 rfl) ?_
    refine va_get (D := D) (ci := 3) (v := .int pl_more) (C := RX3) (T := TX3) (N := 5) hx hb hts inlX3 hown hK hP 0 rfl rfl 3 (by decide) (hts _ wl_331) (fun _ h9 => h9) rfl dX3_sortLaid_8 ?_
    refine lv_if_eq (tgt := 16) hx hb dX3_sortLaid_11 (by decide) (fun c_11 => ?_) (fun c_11 => ?_)
    · replace ho := ho.1 c_11
      refine lv_aload_n hx hb dX3_sortLaid_16 rfl (lv_at hl 0 rfl) ?_
      refine va_get (D := D) (ci := 3) (v := .int pl_way) (C := RX3) (T := TX3) (N := 5) hx hb hts inlX3 hown hK hP 0 rfl rfl 2 (by decide) (hts _ wl_332) (fun _ h9 => h9) rfl dX3_sortLaid_17 ?_
      refine lv_if_ne (tgt := 25) hx hb dX3_sortLaid_20 (by decide) (fun c_20 => ?_) (fun c_20 => ?_)
      · replace ho := ho.1 c_20
        refine lv_aload_n hx hb dX3_sortLaid_25 rfl (lv_at hl 0 rfl) ?_
        refine va_get (D := D) (ci := 3) (v := .int pl_way) (C := RX3) (T := TX3) (N := 5) hx hb hts inlX3 hown hK hP 0 rfl rfl 2 (by decide) (hts _ wl_332) (fun _ h9 => h9) rfl dX3_sortLaid_26 ?_
        refine lv_sipush (v := 512) hx hb dX3_sortLaid_29 (by decide) ?_
        refine lv_icmp_ne (tgt := 39) hx hb dX3_sortLaid_32 (by decide) (fun c_32 => ?_) (fun c_32 => ?_)
        · replace ho := ho.1 c_32
          refine lv_iconst (v := 3) hx hb dX3_sortLaid_39 (by decide) ?_
          subst hQ; exact W.iret (v := (3 : Int32)) hx hb hr (fun t ht _ => ⟨(3 : Int32), rfl, ho, ht⟩) (fun _ h => by cases h) dX3_sortLaid_40
        · replace ho := ho.2 c_32
          refine lv_iconst (v := 2) hx hb dX3_sortLaid_35 (by decide) ?_
          refine lv_goto (tgt := 40) hx hb dX3_sortLaid_36 (by decide) ?_
          subst hQ; exact W.iret (v := (2 : Int32)) hx hb hr (fun t ht _ => ⟨(2 : Int32), rfl, ho, ht⟩) (fun _ h => by cases h) dX3_sortLaid_40
      · replace ho := ho.2 c_20
        refine lv_iconst (v := 1) hx hb dX3_sortLaid_23 (by decide) ?_
        subst hQ; exact W.iret (v := (1 : Int32)) hx hb hr (fun t ht _ => ⟨(1 : Int32), rfl, ho, ht⟩) (fun _ h => by cases h) dX3_sortLaid_24
    · replace ho := ho.2 c_11
      refine lv_iconst (v := 3) hx hb dX3_sortLaid_14 (by decide) ?_
      subst hQ; exact W.iret (v := (3 : Int32)) hx hb hr (fun t ht _ => ⟨(3 : Int32), rfl, ho, ht⟩) (fun _ h => by cases h) dX3_sortLaid_15

def w_X3_figuresLaid : List Cond := .code yX3_figuresLaid cX3_figuresLaid 2 (some .int) :: wsL_law
set_option maxHeartbeats 4000000 in
set_option maxRecDepth 100000 in
theorem c_X3_figuresLaid (l : Launch) (D : va_G) (cI cJ cZ : ClassId) (a_fl : Nat) (a_pl : Nat) (fl_e : Int32) (fl_f : Int32) (fl_bias : Int32) (fl_codes : Int32) (fl_signBit : Int32) (fl_endless : Int32) (pl_lower : Int32) (pl_way : Int32) (pl_more : Int32) (pl_beyond : Int32)  (post : Int32 → Prop) (ho : wp_X3_figuresLaid post fl_endless pl_lower pl_way pl_more pl_beyond) : Met l yX3_figuresLaid w_X3_figuresLaid ({ frames := 1, cells := 0, slots := 0, locals := 20 } : Room) (ro_P D [(cI, .int), (cJ, .long), (cZ, .boolean)] [.ref a_pl] [(a_fl, oX1 fl_e fl_f fl_bias fl_codes fl_signBit fl_endless), (a_pl, oX3 a_fl pl_lower pl_way pl_more pl_beyond)]) (vp_Si post) 0 0 (fun _ => False) := by
  refine Met.ofW (cc := cX3_figuresLaid) (maxL := 2) (ret := (some .int)) (by decide) rfl ?_
  intro p e s m args below meth c s₁ B hml hv
  obtain ⟨hargs, hP, hK, hN⟩ := hv
  have hx := B.exec
  have hb := B.bytes
  have hr := B.returns
  have hts : ∀ w ∈ wsL_law, w.before args s = true := fun w h => atoms_spec (ws := w_X3_figuresLaid) B.pre w (List.mem_cons_of_mem _ h)
  have hown : s.vm.findClass RX3 = some m.cls := findClass_of_methodNamed B.named
  have hlocks := B.notSynchronized
  have hl := lv_entry ([.ref a_pl]) (n := 2) (Nat.le_of_ble_eq_true rfl)
  rw [hargs, lg_entry_eq, ← hargs]
  generalize (lg_sl ([.ref a_pl]) ++ List.replicate (2 - (lg_sl ([.ref a_pl])).length) Slot.unset).toArray = ls at hl ⊢
  replace hl : lv_has ls 2 [(0, .ref a_pl)] := hl
  have hRf : ∀ n, n ≤ 1 → n ≤ (headSpec w_X3_figuresLaid ({ frames := 1, cells := 0, slots := 0, locals := 20 } : Room)).room.frames := fun n h => h
  have hRl : ∀ n, n ≤ 20 → n ≤ (headSpec w_X3_figuresLaid ({ frames := 1, cells := 0, slots := 0, locals := 20 } : Room)).room.locals := fun n h => h
  generalize (headSpec w_X3_figuresLaid ({ frames := 1, cells := 0, slots := 0, locals := 20 } : Room)).room = R at hRf hRl ⊢
  generalize hQ : MQ below _ args s 0 0 _ = Q
  have C_27 : ∀ (y0 : Int32) (ls : Array Slot), wp_X3_figuresLaid_27 post  pl_way y0 → lv_has ls 2 [(0, .ref a_pl)] → W p l e R s m args below meth c s.heap [] 0 0 Q (F0 m 27 ls [.int y0]) := by
    intro y0 ls ho hl
    unfold wp_X3_figuresLaid_27 at ho
    refine lv_istore_n (lv' := [(1, .int y0), (0, .ref a_pl)]) hx hb dX3_figuresLaid_27 rfl hl (by decide) rfl (fun ls hl => ?_)
    refine lv_iload_n hx hb dX3_figuresLaid_28 rfl (lv_at hl 0 rfl) ?_
    refine lv_if_eq (tgt := 37) hx hb dX3_figuresLaid_29 (by decide) (fun c_29 => ?_) (fun c_29 => ?_)
    · replace ho := ho.1 c_29
      refine lv_aload_n hx hb dX3_figuresLaid_37 rfl (lv_at hl 1 rfl) ?_
      refine va_get (D := D) (ci := 3) (v := .int pl_way) (C := RX3) (T := TX3) (N := 5) hx hb hts inlX3 hown hK hP 1 rfl rfl 2 (by decide) (hts _ wl_332) (fun _ h9 => h9) rfl dX3_figuresLaid_38 ?_
      subst hQ; exact W.iret (v := pl_way) hx hb hr (fun t ht _ => ⟨pl_way, rfl, ho, ht⟩) (fun _ h => by cases h) dX3_figuresLaid_41
    · replace ho := ho.2 c_29
      refine lv_bipush (v := (-9)) hx hb dX3_figuresLaid_32 (by decide) ?_
      refine lv_goto (tgt := 41) hx hb dX3_figuresLaid_34 (by decide) ?_
      subst hQ; exact W.iret (v := (-9 : Int32)) hx hb hr (fun t ht _ => ⟨(-9 : Int32), rfl, ho, ht⟩) (fun _ h => by cases h) dX3_figuresLaid_41
  have C_22 : ∀  (ls : Array Slot), wp_X3_figuresLaid_22 post  pl_way → lv_has ls 2 [(0, .ref a_pl)] → W p l e R s m args below meth c s.heap [] 0 0 Q (F0 m 22 ls []) := by
    intro  ls ho hl
    unfold wp_X3_figuresLaid_22 at ho
    refine lv_iconst (v := 1) hx hb dX3_figuresLaid_22 (by decide) ?_
    refine lv_goto (tgt := 27) hx hb dX3_figuresLaid_23 (by decide) ?_
    exact C_27 (1 : Int32) ls ho (lv_sub hl [0] rfl)
  unfold wp_X3_figuresLaid at ho
  refine lv_aload_n hx hb dX3_figuresLaid_0 rfl (lv_at hl 0 rfl) ?_
  refine ca_Vi (b := a_pl) (As := []) (rest := []) ⟨hx, hb, hml, hown, hts⟩ (c_X3_sortLaid l D cI cJ cZ a_fl a_pl pl_lower pl_way pl_more pl_beyond  _ ho) (cwV 0 hts (gdV wl_357 wl_358 wl_359 wl_18 wl_360) rfl rfl rfl (by decide +kernel) ⟨hRf _ (Nat.le_of_ble_eq_true rfl), hRl _ (Nat.le_of_ble_eq_true rfl)⟩) hK hN hP [1] rfl 0 3 rfl rfl rfl rfl hl.1 rfl (Nat.le_of_ble_eq_true rfl) dX3_figuresLaid_1 ⟨Nat.zero_le _, Nat.zero_le _⟩ (fun r1 ho => ?_)
  refine lv_iconst (v := 1) hx hb dX3_figuresLaid_4 (by decide) ?_
  refine lv_icmp_eq (tgt := 22) hx hb dX3_figuresLaid_5 (by decide) (fun c_5 => ?_) (fun c_5 => ?_)
  · replace ho := ho.1 c_5
    exact C_22  ls ho (lv_sub hl [0] rfl)
  · replace ho := ho.2 c_5
    refine lv_aload_n hx hb dX3_figuresLaid_8 rfl (lv_at hl 0 rfl) ?_
    refine va_get (D := D) (ci := 3) (v := .int pl_lower) (C := RX3) (T := TX3) (N := 5) hx hb hts inlX3 hown hK hP 1 rfl rfl 1 (by decide) (hts _ wl_334) (fun _ h9 => h9) rfl dX3_figuresLaid_9 ?_
    refine lv_aload_n hx hb dX3_figuresLaid_12 rfl (lv_at hl 0 rfl) ?_
    refine va_get (D := D) (ci := 3) (v := .ref a_fl) (C := RX3) (T := TX3) (N := 5) hx hb hts inlX3 hown hK hP 1 rfl rfl 0 (by decide) (hts _ wl_56) (fun _ h9 => h9) rfl dX3_figuresLaid_13 ?_
    refine ca_Vi (b := a_fl) (As := []) (rest := [.int pl_lower]) ⟨hx, hb, hml, hown, hts⟩ (c_X1_greatestPlain l D cI cJ cZ a_fl fl_e fl_f fl_bias fl_codes fl_signBit fl_endless  _ ho) (cwV 0 hts (gdV wl_345 wl_346 wl_347 wl_14 wl_348) rfl rfl rfl (by decide +kernel) ⟨hRf _ (Nat.le_of_ble_eq_true rfl), hRl _ (Nat.le_of_ble_eq_true rfl)⟩) hK hN hP [0] rfl 0 1 rfl rfl rfl rfl hl.1 rfl (Nat.le_of_ble_eq_true rfl) dX3_figuresLaid_16 ⟨Nat.zero_le _, Nat.zero_le _⟩ (fun r16 ho => ?_)
    refine lv_icmp_ne (tgt := 26) hx hb dX3_figuresLaid_19 (by decide) (fun c_19 => ?_) (fun c_19 => ?_)
    · replace ho := ho.1 c_19
      refine lv_iconst (v := 0) hx hb dX3_figuresLaid_26 (by decide) ?_
      exact C_27 (0 : Int32) ls ho (lv_sub hl [0] rfl)
    · replace ho := ho.2 c_19
      exact C_22  ls ho (lv_sub hl [0] rfl)

def w_X3_takesUpper : List Cond := .code yX3_takesUpper cX3_takesUpper 4 (some .boolean) :: wsL_law
set_option maxHeartbeats 4000000 in
set_option maxRecDepth 100000 in
theorem c_X3_takesUpper (l : Launch) (D : va_G) (cI cJ cZ : ClassId) (a_fl : Nat) (a_pl : Nat) (pl_lower : Int32) (pl_way : Int32) (pl_more : Int32) (pl_beyond : Int32) (p1 : Int32) (post : Int32 → Prop) (ho : wp_X3_takesUpper post pl_lower pl_way pl_more pl_beyond p1) : Met l yX3_takesUpper w_X3_takesUpper ({ frames := 1, cells := 0, slots := 0, locals := 20 } : Room) (ro_P D [(cI, .int), (cJ, .long), (cZ, .boolean)] [.ref a_pl, .int p1] [(a_pl, oX3 a_fl pl_lower pl_way pl_more pl_beyond)]) (vp_Si post) 0 0 (fun _ => False) := by
  refine Met.ofW (cc := cX3_takesUpper) (maxL := 4) (ret := (some .boolean)) (by decide) rfl ?_
  intro p e s m args below meth c s₁ B hml hv
  obtain ⟨hargs, hP, hK, hN⟩ := hv
  have hx := B.exec
  have hb := B.bytes
  have hr := B.returns
  have hts : ∀ w ∈ wsL_law, w.before args s = true := fun w h => atoms_spec (ws := w_X3_takesUpper) B.pre w (List.mem_cons_of_mem _ h)
  have hown : s.vm.findClass RX3 = some m.cls := findClass_of_methodNamed B.named
  have hlocks := B.notSynchronized
  have hl := lv_entry ([.ref a_pl, .int p1]) (n := 4) (Nat.le_of_ble_eq_true rfl)
  rw [hargs, lg_entry_eq, ← hargs]
  generalize (lg_sl ([.ref a_pl, .int p1]) ++ List.replicate (4 - (lg_sl ([.ref a_pl, .int p1])).length) Slot.unset).toArray = ls at hl ⊢
  replace hl : lv_has ls 4 [(0, .ref a_pl), (1, .int p1)] := hl
  have hRf : ∀ n, n ≤ 1 → n ≤ (headSpec w_X3_takesUpper ({ frames := 1, cells := 0, slots := 0, locals := 20 } : Room)).room.frames := fun n h => h
  have hRl : ∀ n, n ≤ 20 → n ≤ (headSpec w_X3_takesUpper ({ frames := 1, cells := 0, slots := 0, locals := 20 } : Room)).room.locals := fun n h => h
  generalize (headSpec w_X3_takesUpper ({ frames := 1, cells := 0, slots := 0, locals := 20 } : Room)).room = R at hRf hRl ⊢
  generalize hQ : MQ below _ args s 0 0 _ = Q
  have C_26 : ∀ (x2 : Int32) (y0 : Int32) (ls : Array Slot), wp_X3_takesUpper_26 post  pl_way pl_beyond p1 x2 y0 → lv_has ls 4 [(0, .ref a_pl), (1, .int p1), (2, .int x2)] → W p l e R s m args below meth c s.heap [] 0 0 Q (F0 m 26 ls [.int y0]) := by
    intro x2 y0 ls ho hl
    unfold wp_X3_takesUpper_26 at ho
    refine lv_istore_n (lv' := [(3, .int y0), (0, .ref a_pl), (1, .int p1), (2, .int x2)]) hx hb dX3_takesUpper_26 rfl hl (by decide) rfl (fun ls hl => ?_)
    refine lv_iload_n hx hb dX3_takesUpper_27 rfl (lv_at hl 2 rfl) ?_
    refine lv_topi (fun z_28 ez_28 => ?_)
    by_cases n_28_0 : z_28 = 0
    · replace ho := ho.1 (ez_28.symm.trans n_28_0)
      subst n_28_0
      refine lv_tableIn (tgt := 64) hx hb dX3_takesUpper_28 (by decide) (by decide) rfl (by decide) ?_
      refine lv_iload_n hx hb dX3_takesUpper_64 rfl (lv_at hl 3 rfl) ?_
      refine lv_iconst (v := 2) hx hb dX3_takesUpper_65 (by decide) ?_
      refine lv_icmp_ne (tgt := 81) hx hb dX3_takesUpper_66 (by decide) (fun c_66 => ?_) (fun c_66 => ?_)
      · replace ho := ho.1 c_66
        refine lv_aload_n hx hb dX3_takesUpper_81 rfl (lv_at hl 1 rfl) ?_
        refine va_get (D := D) (ci := 3) (v := .int pl_beyond) (C := RX3) (T := TX3) (N := 5) hx hb hts inlX3 hown hK hP 0 rfl rfl 4 (by decide) (hts _ wl_333) (fun _ h9 => h9) rfl dX3_takesUpper_82 ?_
        refine lv_if_ne (tgt := 98) hx hb dX3_takesUpper_85 (by decide) (fun c_85 => ?_) (fun c_85 => ?_)
        · replace ho := ho.1 c_85
          refine lv_iconst (v := 1) hx hb dX3_takesUpper_98 (by decide) ?_
          refine lv_goto (tgt := 103) hx hb dX3_takesUpper_99 (by decide) ?_
          subst hQ; exact W.zret (v := (1 : Int32)) hx hb hr rfl (fun t ht _ => ⟨(1 : Int32), rfl, ho, ht⟩) (fun _ h => by cases h) dX3_takesUpper_103
        · replace ho := ho.2 c_85
          refine lv_aload_n hx hb dX3_takesUpper_88 rfl (lv_at hl 1 rfl) ?_
          refine va_get (D := D) (ci := 3) (v := .int pl_way) (C := RX3) (T := TX3) (N := 5) hx hb hts inlX3 hown hK hP 0 rfl rfl 2 (by decide) (hts _ wl_332) (fun _ h9 => h9) rfl dX3_takesUpper_89 ?_
          refine lv_sipush (v := 512) hx hb dX3_takesUpper_92 (by decide) ?_
          refine lv_icmp_lt (tgt := 102) hx hb dX3_takesUpper_95 (by decide) (fun c_95 => ?_) (fun c_95 => ?_)
          · replace ho := ho.1 c_95
            refine lv_iconst (v := 0) hx hb dX3_takesUpper_102 (by decide) ?_
            subst hQ; exact W.zret (v := (0 : Int32)) hx hb hr rfl (fun t ht _ => ⟨(0 : Int32), rfl, ho, ht⟩) (fun _ h => by cases h) dX3_takesUpper_103
          · replace ho := ho.2 c_95
            refine lv_iconst (v := 1) hx hb dX3_takesUpper_98 (by decide) ?_
            refine lv_goto (tgt := 103) hx hb dX3_takesUpper_99 (by decide) ?_
            subst hQ; exact W.zret (v := (1 : Int32)) hx hb hr rfl (fun t ht _ => ⟨(1 : Int32), rfl, ho, ht⟩) (fun _ h => by cases h) dX3_takesUpper_103
      · replace ho := ho.2 c_66
        refine lv_iload_n hx hb dX3_takesUpper_69 rfl (lv_at hl 0 rfl) ?_
        refine lv_if_ne (tgt := 77) hx hb dX3_takesUpper_70 (by decide) (fun c_70 => ?_) (fun c_70 => ?_)
        · replace ho := ho.1 c_70
          refine lv_iconst (v := 0) hx hb dX3_takesUpper_77 (by decide) ?_
          refine lv_goto (tgt := 103) hx hb dX3_takesUpper_78 (by decide) ?_
          subst hQ; exact W.zret (v := (0 : Int32)) hx hb hr rfl (fun t ht _ => ⟨(0 : Int32), rfl, ho, ht⟩) (fun _ h => by cases h) dX3_takesUpper_103
        · replace ho := ho.2 c_70
          refine lv_iconst (v := 1) hx hb dX3_takesUpper_73 (by decide) ?_
          refine lv_goto (tgt := 103) hx hb dX3_takesUpper_74 (by decide) ?_
          subst hQ; exact W.zret (v := (1 : Int32)) hx hb hr rfl (fun t ht _ => ⟨(1 : Int32), rfl, ho, ht⟩) (fun _ h => by cases h) dX3_takesUpper_103
    replace ho := ho.2 (fun h => n_28_0 (ez_28.trans h))
    by_cases n_28_2 : z_28 = 2
    · replace ho := ho.1 (ez_28.symm.trans n_28_2)
      subst n_28_2
      refine lv_tableIn (tgt := 104) hx hb dX3_takesUpper_28 (by decide) (by decide) rfl (by decide) ?_
      refine lv_iconst (v := 1) hx hb dX3_takesUpper_104 (by decide) ?_
      subst hQ; exact W.zret (v := (1 : Int32)) hx hb hr rfl (fun t ht _ => ⟨(1 : Int32), rfl, ho, ht⟩) (fun _ h => by cases h) dX3_takesUpper_105
    replace ho := ho.2 (fun h => n_28_2 (ez_28.trans h))
    by_cases n_28_4 : z_28 = 4
    · replace ho := ho.1 (ez_28.symm.trans n_28_4)
      subst n_28_4
      refine lv_tableIn (tgt := 106) hx hb dX3_takesUpper_28 (by decide) (by decide) rfl (by decide) ?_
      refine lv_iload_n hx hb dX3_takesUpper_106 rfl (lv_at hl 0 rfl) ?_
      have o_107 := ho.1
      replace ho := ho.2
      subst hQ; exact W.zret (v := y0) hx hb hr (bz_n o_107) (fun t ht _ => ⟨y0, rfl, ho, ht⟩) (fun _ h => by cases h) dX3_takesUpper_107
    replace ho := ho.2 (fun h => n_28_4 (ez_28.trans h))
    by_cases n_28_1 : z_28 = 1
    · subst n_28_1
      refine lv_tableIn (tgt := 108) hx hb dX3_takesUpper_28 (by decide) (by decide) rfl (by decide) ?_
      refine lv_iconst (v := 0) hx hb dX3_takesUpper_108 (by decide) ?_
      subst hQ; exact W.zret (v := (0 : Int32)) hx hb hr rfl (fun t ht _ => ⟨(0 : Int32), rfl, ho, ht⟩) (fun _ h => by cases h) dX3_takesUpper_109
    by_cases n_28_3 : z_28 = 3
    · subst n_28_3
      refine lv_tableIn (tgt := 108) hx hb dX3_takesUpper_28 (by decide) (by decide) rfl (by decide) ?_
      refine lv_iconst (v := 0) hx hb dX3_takesUpper_108 (by decide) ?_
      subst hQ; exact W.zret (v := (0 : Int32)) hx hb hr rfl (fun t ht _ => ⟨(0 : Int32), rfl, ho, ht⟩) (fun _ h => by cases h) dX3_takesUpper_109
    refine lv_tableOut (tgt := 108) hx hb dX3_takesUpper_28 (by have q_28_0 := lv_neT (a := 0) n_28_0 rfl; have q_28_1 := lv_neT (a := 1) n_28_1 rfl; have q_28_2 := lv_neT (a := 2) n_28_2 rfl; have q_28_3 := lv_neT (a := 3) n_28_3 rfl; have q_28_4 := lv_neT (a := 4) n_28_4 rfl; omega) (by decide) ?_
    refine lv_iconst (v := 0) hx hb dX3_takesUpper_108 (by decide) ?_
    subst hQ; exact W.zret (v := (0 : Int32)) hx hb hr rfl (fun t ht _ => ⟨(0 : Int32), rfl, ho, ht⟩) (fun _ h => by cases h) dX3_takesUpper_109
  unfold wp_X3_takesUpper at ho
  refine lv_aload_n hx hb dX3_takesUpper_0 rfl (lv_at hl 0 rfl) ?_
  refine ca_Vi (b := a_pl) (As := []) (rest := []) ⟨hx, hb, hml, hown, hts⟩ (c_X3_sortLaid l D cI cJ cZ a_fl a_pl pl_lower pl_way pl_more pl_beyond  _ ho) (cwV 0 hts (gdV wl_357 wl_358 wl_359 wl_18 wl_360) rfl rfl rfl (by decide +kernel) ⟨hRf _ (Nat.le_of_ble_eq_true rfl), hRl _ (Nat.le_of_ble_eq_true rfl)⟩) hK hN hP [0] rfl 0 3 rfl rfl rfl rfl hl.1 rfl (Nat.le_of_ble_eq_true rfl) dX3_takesUpper_1 ⟨Nat.zero_le _, Nat.zero_le _⟩ (fun r1 ho => ?_)
  refine lv_istore_n (lv' := [(2, .int r1), (0, .ref a_pl), (1, .int p1)]) hx hb dX3_takesUpper_4 rfl hl (by decide) rfl (fun ls hl => ?_)
  refine lv_iload_n hx hb dX3_takesUpper_5 rfl (lv_at hl 0 rfl) ?_
  refine lv_iconst (v := 1) hx hb dX3_takesUpper_6 (by decide) ?_
  refine lv_icmp_ne (tgt := 12) hx hb dX3_takesUpper_7 (by decide) (fun c_7 => ?_) (fun c_7 => ?_)
  · replace ho := ho.1 c_7
    refine lv_aload_n hx hb dX3_takesUpper_12 rfl (lv_at hl 1 rfl) ?_
    refine va_get (D := D) (ci := 3) (v := .int pl_lower) (C := RX3) (T := TX3) (N := 5) hx hb hts inlX3 hown hK hP 0 rfl rfl 1 (by decide) (hts _ wl_334) (fun _ h9 => h9) rfl dX3_takesUpper_13 ?_
    refine lv_iconst (v := 1) hx hb dX3_takesUpper_16 (by decide) ?_
    refine lv_iand hx hb dX3_takesUpper_17 ?_
    refine lv_if_ne (tgt := 25) hx hb dX3_takesUpper_18 (by decide) (fun c_18 => ?_) (fun c_18 => ?_)
    · replace ho := ho.1 c_18
      refine lv_iconst (v := 0) hx hb dX3_takesUpper_25 (by decide) ?_
      exact C_26 r1 (0 : Int32) ls ho (lv_sub hl [1, 2, 0] rfl)
    · replace ho := ho.2 c_18
      refine lv_iconst (v := 1) hx hb dX3_takesUpper_21 (by decide) ?_
      refine lv_goto (tgt := 26) hx hb dX3_takesUpper_22 (by decide) ?_
      exact C_26 r1 (1 : Int32) ls ho (lv_sub hl [1, 2, 0] rfl)
  · replace ho := ho.2 c_7
    refine lv_iconst (v := 0) hx hb dX3_takesUpper_10 (by decide) ?_
    subst hQ; exact W.zret (v := (0 : Int32)) hx hb hr rfl (fun t ht _ => ⟨(0 : Int32), rfl, ho, ht⟩) (fun _ h => by cases h) dX3_takesUpper_11

def w_X3_rounded : List Cond := .code yX3_rounded cX3_rounded 5 (some .int) :: wsL_law
set_option maxHeartbeats 4000000 in
set_option maxRecDepth 100000 in
theorem c_X3_rounded (l : Launch) (D : va_G) (cI cJ cZ : ClassId) (a_fl : Nat) (a_pl : Nat) (fl_e : Int32) (fl_f : Int32) (fl_bias : Int32) (fl_codes : Int32) (fl_signBit : Int32) (fl_endless : Int32) (pl_lower : Int32) (pl_way : Int32) (pl_more : Int32) (pl_beyond : Int32) (p1 : Int32) (p2 : Int32) (post : Int32 → Prop) (ho : wp_X3_rounded post fl_signBit pl_lower pl_way pl_more pl_beyond p1 p2) : Met l yX3_rounded w_X3_rounded ({ frames := 2, cells := 0, slots := 0, locals := 43 } : Room) (ro_P D [(cI, .int), (cJ, .long), (cZ, .boolean)] [.ref a_pl, .int p1, .int p2] [(a_fl, oX1 fl_e fl_f fl_bias fl_codes fl_signBit fl_endless), (a_pl, oX3 a_fl pl_lower pl_way pl_more pl_beyond)]) (vp_Si post) 0 0 (fun _ => False) := by
  refine Met.ofW (cc := cX3_rounded) (maxL := 5) (ret := (some .int)) (by decide) rfl ?_
  intro p e s m args below meth c s₁ B hml hv
  obtain ⟨hargs, hP, hK, hN⟩ := hv
  have hx := B.exec
  have hb := B.bytes
  have hr := B.returns
  have hts : ∀ w ∈ wsL_law, w.before args s = true := fun w h => atoms_spec (ws := w_X3_rounded) B.pre w (List.mem_cons_of_mem _ h)
  have hown : s.vm.findClass RX3 = some m.cls := findClass_of_methodNamed B.named
  have hlocks := B.notSynchronized
  have hl := lv_entry ([.ref a_pl, .int p1, .int p2]) (n := 5) (Nat.le_of_ble_eq_true rfl)
  rw [hargs, lg_entry_eq, ← hargs]
  generalize (lg_sl ([.ref a_pl, .int p1, .int p2]) ++ List.replicate (5 - (lg_sl ([.ref a_pl, .int p1, .int p2])).length) Slot.unset).toArray = ls at hl ⊢
  replace hl : lv_has ls 5 [(0, .ref a_pl), (1, .int p1), (2, .int p2)] := hl
  have hRf : ∀ n, n ≤ 2 → n ≤ (headSpec w_X3_rounded ({ frames := 2, cells := 0, slots := 0, locals := 43 } : Room)).room.frames := fun n h => h
  have hRl : ∀ n, n ≤ 43 → n ≤ (headSpec w_X3_rounded ({ frames := 2, cells := 0, slots := 0, locals := 43 } : Room)).room.locals := fun n h => h
  generalize (headSpec w_X3_rounded ({ frames := 2, cells := 0, slots := 0, locals := 43 } : Room)).room = R at hRf hRl ⊢
  generalize hQ : MQ below _ args s 0 0 _ = Q
  have C_41 : ∀ (y0 : Int32) (ls : Array Slot), wp_X3_rounded_41 post  fl_signBit p1 y0 → lv_has ls 5 [(0, .ref a_pl), (1, .int p1)] → W p l e R s m args below meth c s.heap [] 0 0 Q (F0 m 41 ls [.int y0]) := by
    intro y0 ls ho hl
    unfold wp_X3_rounded_41 at ho
    refine lv_istore (lv' := [(4, .int y0), (0, .ref a_pl), (1, .int p1)]) hx hb dX3_rounded_41 hl (by decide) rfl (fun ls hl => ?_)
    refine lv_iload_n hx hb dX3_rounded_43 rfl (lv_at hl 2 rfl) ?_
    refine lv_if_eq (tgt := 60) hx hb dX3_rounded_44 (by decide) (fun c_44 => ?_) (fun c_44 => ?_)
    · replace ho := ho.1 c_44
      refine lv_iload hx hb dX3_rounded_60 (lv_at hl 0 rfl) ?_
      subst hQ; exact W.iret (v := y0) hx hb hr (fun t ht _ => ⟨y0, rfl, ho, ht⟩) (fun _ h => by cases h) dX3_rounded_62
    · replace ho := ho.2 c_44
      refine lv_iload hx hb dX3_rounded_47 (lv_at hl 0 rfl) ?_
      refine lv_aload_n hx hb dX3_rounded_49 rfl (lv_at hl 1 rfl) ?_
      refine va_get (D := D) (ci := 3) (v := .ref a_fl) (C := RX3) (T := TX3) (N := 5) hx hb hts inlX3 hown hK hP 1 rfl rfl 0 (by decide) (hts _ wl_56) (fun _ h9 => h9) rfl dX3_rounded_50 ?_
      refine va_getN (D := D) (ci := 1) (v := .int fl_signBit) (C := RX1) (T := TX1) (N := 6) hx hb hts inlX1 hown hK hP 0 rfl rfl 4 (by decide) hN.fRX3_64 (fun _ h9 => h9) rfl dX3_rounded_53 ?_
      refine lv_iadd hx hb dX3_rounded_56 ?_
      refine lv_goto (tgt := 62) hx hb dX3_rounded_57 (by decide) ?_
      subst hQ; exact W.iret (v := (y0 + fl_signBit)) hx hb hr (fun t ht _ => ⟨(y0 + fl_signBit), rfl, ho, ht⟩) (fun _ h => by cases h) dX3_rounded_62
  have C_20 : ∀ (x3 : Int32) (ls : Array Slot), wp_X3_rounded_20 post  fl_signBit pl_lower pl_way pl_more pl_beyond p1 x3 → lv_has ls 5 [(0, .ref a_pl), (1, .int p1), (3, .int x3)] → W p l e R s m args below meth c s.heap [] 0 0 Q (F0 m 20 ls []) := by
    intro x3 ls ho hl
    unfold wp_X3_rounded_20 at ho
    refine lv_aload_n hx hb dX3_rounded_20 rfl (lv_at hl 0 rfl) ?_
    refine lv_iload_n hx hb dX3_rounded_21 rfl (lv_at hl 2 rfl) ?_
    refine ca_Vi (b := a_pl) (As := [.int x3]) (rest := []) ⟨hx, hb, hml, hown, hts⟩ (c_X3_takesUpper l D cI cJ cZ a_fl a_pl pl_lower pl_way pl_more pl_beyond x3 _ ho) (cwV 1 hts (gdV wl_353 wl_354 wl_355 wl_18 wl_356) rfl rfl rfl (by decide +kernel) ⟨hRf _ (Nat.le_of_ble_eq_true rfl), hRl _ (Nat.le_of_ble_eq_true rfl)⟩) hK hN hP [1] rfl 0 3 rfl rfl rfl rfl hl.1 rfl (Nat.le_of_ble_eq_true rfl) dX3_rounded_22 ⟨Nat.zero_le _, Nat.zero_le _⟩ (fun r22 ho => ?_)
    refine lv_if_eq (tgt := 37) hx hb dX3_rounded_25 (by decide) (fun c_25 => ?_) (fun c_25 => ?_)
    · replace ho := ho.1 c_25
      refine lv_aload_n hx hb dX3_rounded_37 rfl (lv_at hl 0 rfl) ?_
      refine va_get (D := D) (ci := 3) (v := .int pl_lower) (C := RX3) (T := TX3) (N := 5) hx hb hts inlX3 hown hK hP 1 rfl rfl 1 (by decide) (hts _ wl_334) (fun _ h9 => h9) rfl dX3_rounded_38 ?_
      exact C_41 pl_lower ls ho (lv_sub hl [0, 1] rfl)
    · replace ho := ho.2 c_25
      refine lv_aload_n hx hb dX3_rounded_28 rfl (lv_at hl 0 rfl) ?_
      refine va_get (D := D) (ci := 3) (v := .int pl_lower) (C := RX3) (T := TX3) (N := 5) hx hb hts inlX3 hown hK hP 1 rfl rfl 1 (by decide) (hts _ wl_334) (fun _ h9 => h9) rfl dX3_rounded_29 ?_
      refine lv_iconst (v := 1) hx hb dX3_rounded_32 (by decide) ?_
      refine lv_iadd hx hb dX3_rounded_33 ?_
      refine lv_goto (tgt := 41) hx hb dX3_rounded_34 (by decide) ?_
      exact C_41 (pl_lower + (1 : Int32)) ls ho (lv_sub hl [0, 1] rfl)
  have C_16 : ∀  (ls : Array Slot), wp_X3_rounded_16 post  fl_signBit pl_lower pl_way pl_more pl_beyond p1 p2 → lv_has ls 5 [(0, .ref a_pl), (1, .int p1), (2, .int p2)] → W p l e R s m args below meth c s.heap [] 0 0 Q (F0 m 16 ls []) := by
    intro  ls ho hl
    unfold wp_X3_rounded_16 at ho
    refine lv_iconst (v := 5) hx hb dX3_rounded_16 (by decide) ?_
    refine lv_iload_n hx hb dX3_rounded_17 rfl (lv_at hl 2 rfl) ?_
    refine lv_isub hx hb dX3_rounded_18 ?_
    refine lv_istore_n (lv' := [(3, .int ((5 : Int32) - p2)), (0, .ref a_pl), (1, .int p1), (2, .int p2)]) hx hb dX3_rounded_19 rfl hl (by decide) rfl (fun ls hl => ?_)
    exact C_20 ((5 : Int32) - p2) ls ho (lv_sub hl [1, 2, 0] rfl)
  unfold wp_X3_rounded at ho
  refine lv_iload_n hx hb dX3_rounded_0 rfl (lv_at hl 2 rfl) ?_
  refine lv_istore_n (lv' := [(3, .int p2), (0, .ref a_pl), (1, .int p1), (2, .int p2)]) hx hb dX3_rounded_1 rfl hl (by decide) rfl (fun ls hl => ?_)
  refine lv_iload_n hx hb dX3_rounded_2 rfl (lv_at hl 2 rfl) ?_
  refine lv_if_eq (tgt := 20) hx hb dX3_rounded_3 (by decide) (fun c_3 => ?_) (fun c_3 => ?_)
  · replace ho := ho.1 c_3
    exact C_20 p2 ls ho (lv_sub hl [1, 2, 0] rfl)
  · replace ho := ho.2 c_3
    refine lv_iload_n hx hb dX3_rounded_6 rfl (lv_at hl 3 rfl) ?_
    refine lv_iconst (v := 2) hx hb dX3_rounded_7 (by decide) ?_
    refine lv_icmp_eq (tgt := 16) hx hb dX3_rounded_8 (by decide) (fun c_8 => ?_) (fun c_8 => ?_)
    · replace ho := ho.1 c_8
      exact C_16  ls ho (lv_sub hl [1, 2, 3] rfl)
    · replace ho := ho.2 c_8
      refine lv_iload_n hx hb dX3_rounded_11 rfl (lv_at hl 3 rfl) ?_
      refine lv_iconst (v := 3) hx hb dX3_rounded_12 (by decide) ?_
      refine lv_icmp_ne (tgt := 20) hx hb dX3_rounded_13 (by decide) (fun c_13 => ?_) (fun c_13 => ?_)
      · replace ho := ho.1 c_13
        exact C_20 p2 ls ho (lv_sub hl [1, 2, 0] rfl)
      · replace ho := ho.2 c_13
        exact C_16  ls ho (lv_sub hl [1, 2, 3] rfl)
