def w_X6_settledResult : List Cond := .code yX6_settledResult cX6_settledResult 7 (some .int) :: wsL_law
set_option maxHeartbeats 4000000 in
set_option maxRecDepth 100000 in
theorem c_X6_settledResult (l : Launch) (D : va_G) (cI cJ cZ : ClassId) (a_fl : Nat) (a_va : Nat) (a_p2 : Nat) (fl_e : Int32) (fl_f : Int32) (fl_bias : Int32) (fl_codes : Int32) (fl_signBit : Int32) (fl_endless : Int32) (va_m : Int64) (va_x : Int32) (va_more : Int32) (va_laid : Int32) (va_below : Int32) (va_settled : Int32) (va_sort : Int32) (p1 : Int32) (p2 : Int32) (post : Int32 → Prop) (ho : wp_X6_settledResult post fl_signBit fl_endless p1 p2) : Met l yX6_settledResult w_X6_settledResult ({ frames := 2, cells := 0, slots := 0, locals := 42 } : Room) (ro_P D [(cI, .int), (cJ, .long), (cZ, .boolean)] [.ref a_va, .int p1, .int p2] [(a_fl, oX1 fl_e fl_f fl_bias fl_codes fl_signBit fl_endless), (a_va, oX6 a_fl a_p2 va_m va_x va_more va_laid va_below va_settled va_sort)]) (vp_Si post) 0 0 (fun _ => False) := by
  refine Met.ofW (cc := cX6_settledResult) (maxL := 7) (ret := (some .int)) (by decide) rfl ?_
  intro p e s m args below meth c s₁ B hml hv
  obtain ⟨hargs, hP, hK, hN⟩ := hv
  have hx := B.exec
  have hb := B.bytes
  have hr := B.returns
  have hts : ∀ w ∈ wsL_law, w.before args s = true := fun w h => atoms_spec (ws := w_X6_settledResult) B.pre w (List.mem_cons_of_mem _ h)
  have hown : s.vm.findClass RX6 = some m.cls := findClass_of_methodNamed B.named
  have hlocks := B.notSynchronized
  have hl := lv_entry ([.ref a_va, .int p1, .int p2]) (n := 7) (Nat.le_of_ble_eq_true rfl)
  rw [hargs, lg_entry_eq, ← hargs]
  generalize (lg_sl ([.ref a_va, .int p1, .int p2]) ++ List.replicate (7 - (lg_sl ([.ref a_va, .int p1, .int p2])).length) Slot.unset).toArray = ls at hl ⊢
  replace hl : lv_has ls 7 [(0, .ref a_va), (1, .int p1), (2, .int p2)] := hl
  have hRf : ∀ n, n ≤ 2 → n ≤ (headSpec w_X6_settledResult ({ frames := 2, cells := 0, slots := 0, locals := 42 } : Room)).room.frames := fun n h => h
  have hRl : ∀ n, n ≤ 42 → n ≤ (headSpec w_X6_settledResult ({ frames := 2, cells := 0, slots := 0, locals := 42 } : Room)).room.locals := fun n h => h
  generalize (headSpec w_X6_settledResult ({ frames := 2, cells := 0, slots := 0, locals := 42 } : Room)).room = R at hRf hRl ⊢
  generalize hQ : MQ below _ args s 0 0 _ = Q
  have C_98 : ∀ (x5 : Int32) (y0 : Int32) (ls : Array Slot), wp_X6_settledResult_98 post  fl_endless x5 y0 → lv_has ls 7 [(0, .ref a_va), (5, .int x5)] → W p l e R s m args below meth c s.heap [] 0 0 Q (F0 m 98 ls [.int y0]) := by
    intro x5 y0 ls ho hl
    unfold wp_X6_settledResult_98 at ho
    refine lv_istore (lv' := [(6, .int y0), (0, .ref a_va), (5, .int x5)]) hx hb dX6_settledResult_98 hl (by decide) rfl (fun ls hl => ?_)
    refine lv_iload hx hb dX6_settledResult_100 (lv_at hl 0 rfl) ?_
    refine lv_if_eq (tgt := 110) hx hb dX6_settledResult_102 (by decide) (fun c_102 => ?_) (fun c_102 => ?_)
    · replace ho := ho.1 c_102
      refine lv_iload hx hb dX6_settledResult_110 (lv_at hl 2 rfl) ?_
      refine lv_aload_n hx hb dX6_settledResult_112 rfl (lv_at hl 1 rfl) ?_
      refine va_get (D := D) (ci := 5) (v := .ref a_fl) (C := RX6) (T := TX6) (N := 9) hx hb hts inlX6 hown hK hP 1 rfl rfl 0 (by decide) (hts _ wl_61) (fun _ h9 => h9) rfl dX6_settledResult_113 ?_
      refine va_getN (D := D) (ci := 1) (v := .int fl_endless) (C := RX1) (T := TX1) (N := 6) hx hb hts inlX1 hown hK hP 0 rfl rfl 5 (by decide) hN.fRX6_106 (fun _ h9 => h9) rfl dX6_settledResult_116 ?_
      refine lv_iadd hx hb dX6_settledResult_119 ?_
      subst hQ; exact W.iret (v := (x5 + fl_endless)) hx hb hr (fun t ht _ => ⟨(x5 + fl_endless), rfl, ho, ht⟩) (fun _ h => by cases h) dX6_settledResult_120
    · replace ho := ho.2 c_102
      refine lv_iload hx hb dX6_settledResult_105 (lv_at hl 2 rfl) ?_
      refine lv_goto (tgt := 120) hx hb dX6_settledResult_107 (by decide) ?_
      subst hQ; exact W.iret (v := x5) hx hb hr (fun t ht _ => ⟨x5, rfl, ho, ht⟩) (fun _ h => by cases h) dX6_settledResult_120
  have C_90 : ∀ (x5 : Int32) (y0 : Int32) (y1 : Int32) (ls : Array Slot), wp_X6_settledResult_90 post  fl_endless x5 y0 y1 → lv_has ls 7 [(0, .ref a_va), (5, .int x5)] → W p l e R s m args below meth c s.heap [] 0 0 Q (F0 m 90 ls [.int y0, .int y1]) := by
    intro x5 y0 y1 ls ho hl
    unfold wp_X6_settledResult_90 at ho
    refine lv_icmp_eq (tgt := 97) hx hb dX6_settledResult_90 (by decide) (fun c_90 => ?_) (fun c_90 => ?_)
    · replace ho := ho.1 c_90
      refine lv_iconst (v := 0) hx hb dX6_settledResult_97 (by decide) ?_
      exact C_98 x5 (0 : Int32) ls ho (lv_sub hl [0, 1] rfl)
    · replace ho := ho.2 c_90
      refine lv_iconst (v := 1) hx hb dX6_settledResult_93 (by decide) ?_
      refine lv_goto (tgt := 98) hx hb dX6_settledResult_94 (by decide) ?_
      exact C_98 x5 (1 : Int32) ls ho (lv_sub hl [0, 1] rfl)
  have C_78 : ∀ (x3 : Int32) (y0 : Int32) (ls : Array Slot), wp_X6_settledResult_78 post  fl_endless p1 x3 y0 → lv_has ls 7 [(0, .ref a_va), (1, .int p1), (3, .int x3)] → W p l e R s m args below meth c s.heap [] 0 0 Q (F0 m 78 ls [.int y0]) := by
    intro x3 y0 ls ho hl
    unfold wp_X6_settledResult_78 at ho
    refine lv_istore (lv' := [(5, .int y0), (0, .ref a_va), (1, .int p1), (3, .int x3)]) hx hb dX6_settledResult_78 hl (by decide) rfl (fun ls hl => ?_)
    refine lv_iload_n hx hb dX6_settledResult_80 rfl (lv_at hl 3 rfl) ?_
    refine lv_iload_n hx hb dX6_settledResult_81 rfl (lv_at hl 2 rfl) ?_
    refine lv_if_ne (tgt := 89) hx hb dX6_settledResult_82 (by decide) (fun c_82 => ?_) (fun c_82 => ?_)
    · replace ho := ho.1 c_82
      refine lv_iconst (v := 0) hx hb dX6_settledResult_89 (by decide) ?_
      exact C_90 y0 (0 : Int32) x3 ls ho (lv_sub hl [1, 0] rfl)
    · replace ho := ho.2 c_82
      refine lv_iconst (v := 1) hx hb dX6_settledResult_85 (by decide) ?_
      refine lv_goto (tgt := 90) hx hb dX6_settledResult_86 (by decide) ?_
      exact C_90 y0 (1 : Int32) x3 ls ho (lv_sub hl [1, 0] rfl)
  have C_52 : ∀  (ls : Array Slot), wp_X6_settledResult_52 post  fl_endless → lv_has ls 7 [(0, .ref a_va)] → W p l e R s m args below meth c s.heap [] 0 0 Q (F0 m 52 ls []) := by
    intro  ls ho hl
    unfold wp_X6_settledResult_52 at ho
    refine lv_aload_n hx hb dX6_settledResult_52 rfl (lv_at hl 0 rfl) ?_
    refine va_get (D := D) (ci := 5) (v := .ref a_fl) (C := RX6) (T := TX6) (N := 9) hx hb hts inlX6 hown hK hP 1 rfl rfl 0 (by decide) (hts _ wl_61) (fun _ h9 => h9) rfl dX6_settledResult_53 ?_
    refine ca_Vi (b := a_fl) (As := []) (rest := []) ⟨hx, hb, hml, hown, hts⟩ (c_X1_none l D cI cJ cZ a_fl fl_e fl_f fl_bias fl_codes fl_signBit fl_endless  _ ho) (cwV 0 hts (gdV wl_460 wl_461 wl_462 wl_14 wl_463) rfl rfl rfl (by decide +kernel) ⟨hRf _ (Nat.le_of_ble_eq_true rfl), hRl _ (Nat.le_of_ble_eq_true rfl)⟩) hK hN hP [0] rfl 0 1 rfl rfl rfl rfl hl.1 rfl (Nat.le_of_ble_eq_true rfl) dX6_settledResult_56 ⟨Nat.zero_le _, Nat.zero_le _⟩ (fun r56 ho => ?_)
    subst hQ; exact W.iret (v := r56) hx hb hr (fun t ht _ => ⟨r56, rfl, ho, ht⟩) (fun _ h => by cases h) dX6_settledResult_59
  have C_34 : ∀ (x3 : Int32) (y0 : Int32) (ls : Array Slot), wp_X6_settledResult_34 post  fl_signBit fl_endless p1 p2 x3 y0 → lv_has ls 7 [(0, .ref a_va), (1, .int p1), (2, .int p2), (3, .int x3)] → W p l e R s m args below meth c s.heap [] 0 0 Q (F0 m 34 ls [.int y0]) := by
    intro x3 y0 ls ho hl
    unfold wp_X6_settledResult_34 at ho
    refine lv_istore (lv' := [(4, .int y0), (0, .ref a_va), (1, .int p1), (2, .int p2), (3, .int x3)]) hx hb dX6_settledResult_34 hl (by decide) rfl (fun ls hl => ?_)
    refine lv_aload_n hx hb dX6_settledResult_36 rfl (lv_at hl 1 rfl) ?_
    refine va_get (D := D) (ci := 5) (v := .ref a_fl) (C := RX6) (T := TX6) (N := 9) hx hb hts inlX6 hown hK hP 1 rfl rfl 0 (by decide) (hts _ wl_61) (fun _ h9 => h9) rfl dX6_settledResult_37 ?_
    refine lv_iload_n hx hb dX6_settledResult_40 rfl (lv_at hl 3 rfl) ?_
    refine ca_Vi (b := a_fl) (As := [.int p2]) (rest := []) ⟨hx, hb, hml, hown, hts⟩ (c_X1_isNone l D cI cJ cZ a_fl fl_e fl_f fl_bias fl_codes fl_signBit fl_endless p2 _ ho) (cwV 1 hts (gdV wl_459 wl_200 wl_201 wl_14 wl_202) rfl rfl rfl (by decide +kernel) ⟨hRf _ (Nat.le_of_ble_eq_true rfl), hRl _ (Nat.le_of_ble_eq_true rfl)⟩) hK hN hP [0] rfl 0 1 rfl rfl rfl rfl hl.1 rfl (Nat.le_of_ble_eq_true rfl) dX6_settledResult_41 ⟨Nat.zero_le _, Nat.zero_le _⟩ (fun r41 ho => ?_)
    refine lv_if_ne (tgt := 52) hx hb dX6_settledResult_44 (by decide) (fun c_44 => ?_) (fun c_44 => ?_)
    · replace ho := ho.1 c_44
      exact C_52  ls ho (lv_sub hl [1] rfl)
    · replace ho := ho.2 c_44
      refine lv_iload hx hb dX6_settledResult_47 (lv_at hl 0 rfl) ?_
      refine lv_if_eq (tgt := 60) hx hb dX6_settledResult_49 (by decide) (fun c_49 => ?_) (fun c_49 => ?_)
      · replace ho := ho.1 c_49
        refine lv_iload_n hx hb dX6_settledResult_60 rfl (lv_at hl 2 rfl) ?_
        refine lv_iconst (v := 3) hx hb dX6_settledResult_61 (by decide) ?_
        refine lv_icmp_ne (tgt := 69) hx hb dX6_settledResult_62 (by decide) (fun c_62 => ?_) (fun c_62 => ?_)
        · replace ho := ho.1 c_62
          refine lv_iload_n hx hb dX6_settledResult_69 rfl (lv_at hl 3 rfl) ?_
          refine lv_aload_n hx hb dX6_settledResult_70 rfl (lv_at hl 1 rfl) ?_
          refine va_get (D := D) (ci := 5) (v := .ref a_fl) (C := RX6) (T := TX6) (N := 9) hx hb hts inlX6 hown hK hP 1 rfl rfl 0 (by decide) (hts _ wl_61) (fun _ h9 => h9) rfl dX6_settledResult_71 ?_
          refine va_getN (D := D) (ci := 1) (v := .int fl_signBit) (C := RX1) (T := TX1) (N := 6) hx hb hts inlX1 hown hK hP 0 rfl rfl 4 (by decide) hN.fRX6_103 (fun _ h9 => h9) rfl dX6_settledResult_74 ?_
          refine lv_iand hx hb dX6_settledResult_77 ?_
          exact C_78 x3 (p2 &&& fl_signBit) ls ho (lv_sub hl [1, 2, 4] rfl)
        · replace ho := ho.2 c_62
          refine lv_iconst (v := 0) hx hb dX6_settledResult_65 (by decide) ?_
          refine lv_goto (tgt := 78) hx hb dX6_settledResult_66 (by decide) ?_
          exact C_78 x3 (0 : Int32) ls ho (lv_sub hl [1, 2, 4] rfl)
      · replace ho := ho.2 c_49
        exact C_52  ls ho (lv_sub hl [1] rfl)
  have C_33 : ∀ (x3 : Int32) (ls : Array Slot), wp_X6_settledResult_33 post  fl_signBit fl_endless p1 p2 x3 → lv_has ls 7 [(0, .ref a_va), (1, .int p1), (2, .int p2), (3, .int x3)] → W p l e R s m args below meth c s.heap [] 0 0 Q (F0 m 33 ls []) := by
    intro x3 ls ho hl
    unfold wp_X6_settledResult_33 at ho
    refine lv_iconst (v := 0) hx hb dX6_settledResult_33 (by decide) ?_
    exact C_34 x3 (0 : Int32) ls ho (lv_sub hl [0, 1, 2, 3] rfl)
  unfold wp_X6_settledResult at ho
  refine lv_aload_n hx hb dX6_settledResult_0 rfl (lv_at hl 0 rfl) ?_
  refine va_get (D := D) (ci := 5) (v := .ref a_fl) (C := RX6) (T := TX6) (N := 9) hx hb hts inlX6 hown hK hP 1 rfl rfl 0 (by decide) (hts _ wl_61) (fun _ h9 => h9) rfl dX6_settledResult_1 ?_
  refine lv_iload_n hx hb dX6_settledResult_4 rfl (lv_at hl 2 rfl) ?_
  refine ca_Vi (b := a_fl) (As := [.int p2]) (rest := []) ⟨hx, hb, hml, hown, hts⟩ (c_X1_isZero l D cI cJ cZ a_fl fl_e fl_f fl_bias fl_codes fl_signBit fl_endless p2 _ ho) (cwV 1 hts (gdV wl_419 wl_196 wl_197 wl_14 wl_198) rfl rfl rfl (by decide +kernel) ⟨hRf _ (Nat.le_of_ble_eq_true rfl), hRl _ (Nat.le_of_ble_eq_true rfl)⟩) hK hN hP [0] rfl 0 1 rfl rfl rfl rfl hl.1 rfl (Nat.le_of_ble_eq_true rfl) dX6_settledResult_5 ⟨Nat.zero_le _, Nat.zero_le _⟩ (fun r5 ho => ?_)
  refine lv_istore_n (lv' := [(3, .int r5), (0, .ref a_va), (1, .int p1), (2, .int p2)]) hx hb dX6_settledResult_8 rfl hl (by decide) rfl (fun ls hl => ?_)
  refine lv_iload_n hx hb dX6_settledResult_9 rfl (lv_at hl 2 rfl) ?_
  refine lv_iconst (v := 1) hx hb dX6_settledResult_10 (by decide) ?_
  refine lv_icmp_ne (tgt := 33) hx hb dX6_settledResult_11 (by decide) (fun c_11 => ?_) (fun c_11 => ?_)
  · replace ho := ho.1 c_11
    exact C_33 r5 ls ho (lv_sub hl [1, 2, 3, 0] rfl)
  · replace ho := ho.2 c_11
    refine lv_aload_n hx hb dX6_settledResult_14 rfl (lv_at hl 1 rfl) ?_
    refine va_get (D := D) (ci := 5) (v := .ref a_fl) (C := RX6) (T := TX6) (N := 9) hx hb hts inlX6 hown hK hP 1 rfl rfl 0 (by decide) (hts _ wl_61) (fun _ h9 => h9) rfl dX6_settledResult_15 ?_
    refine lv_iload_n hx hb dX6_settledResult_18 rfl (lv_at hl 3 rfl) ?_
    refine ca_Vi (b := a_fl) (As := [.int p2]) (rest := []) ⟨hx, hb, hml, hown, hts⟩ (c_X1_isBelow l D cI cJ cZ a_fl fl_e fl_f fl_bias fl_codes fl_signBit fl_endless p2 _ ho) (cwV 1 hts (gdV wl_420 wl_204 wl_205 wl_14 wl_206) rfl rfl rfl (by decide +kernel) ⟨hRf _ (Nat.le_of_ble_eq_true rfl), hRl _ (Nat.le_of_ble_eq_true rfl)⟩) hK hN hP [0] rfl 0 1 rfl rfl rfl rfl hl.1 rfl (Nat.le_of_ble_eq_true rfl) dX6_settledResult_19 ⟨Nat.zero_le _, Nat.zero_le _⟩ (fun r19 ho => ?_)
    refine lv_if_eq (tgt := 33) hx hb dX6_settledResult_22 (by decide) (fun c_22 => ?_) (fun c_22 => ?_)
    · replace ho := ho.1 c_22
      exact C_33 r5 ls ho (lv_sub hl [1, 2, 3, 0] rfl)
    · replace ho := ho.2 c_22
      refine lv_iload_n hx hb dX6_settledResult_25 rfl (lv_at hl 0 rfl) ?_
      refine lv_if_ne (tgt := 33) hx hb dX6_settledResult_26 (by decide) (fun c_26 => ?_) (fun c_26 => ?_)
      · replace ho := ho.1 c_26
        exact C_33 r5 ls ho (lv_sub hl [1, 2, 3, 0] rfl)
      · replace ho := ho.2 c_26
        refine lv_iconst (v := 1) hx hb dX6_settledResult_29 (by decide) ?_
        refine lv_goto (tgt := 34) hx hb dX6_settledResult_30 (by decide) ?_
        exact C_34 r5 (1 : Int32) ls ho (lv_sub hl [1, 2, 3, 0] rfl)

def w_X6_read : List Cond := .code yX6_read cX6_read 5 none :: wsL_law
set_option maxHeartbeats 4000000 in
set_option maxRecDepth 100000 in
theorem c_X6_read (l : Launch) (D : va_G) (cI cJ cZ : ClassId) (a_fl : Nat) (a_va : Nat) (a_p2 : Nat) (sz : Nat) (fl_e : Int32) (fl_f : Int32) (fl_bias : Int32) (fl_codes : Int32) (fl_signBit : Int32) (fl_endless : Int32) (va_m : Int64) (va_x : Int32) (va_more : Int32) (va_laid : Int32) (va_below : Int32) (va_settled : Int32) (va_sort : Int32) (p2_lower : Int32) (p2_way : Int32) (p2_more : Int32) (p2_beyond : Int32) (p1 : Int32) (p2 : Int32) (post : Int64 → Int32 → Int32 → Int32 → Int32 → Int32 → Int32 → Int32 → Int32 → Int32 → Int32 → Prop) (A : Nat → Prop) (hAe : A = va_A [(a_fl, oX1 fl_e fl_f fl_bias fl_codes fl_signBit fl_endless), (a_va, oX6 a_fl a_p2 va_m va_x va_more va_laid va_below va_settled va_sort), (a_p2, oX3 a_fl p2_lower p2_way p2_more p2_beyond)] sz) (ho : wp_X6_read post fl_f fl_bias fl_signBit fl_endless va_m va_x va_more va_below va_settled p2_lower p2_way p2_more p2_beyond p1 p2) : Met l yX6_read w_X6_read ({ frames := 3, cells := 0, slots := 0, locals := 79 } : Room) (rw_P D [(cI, .int), (cJ, .long), (cZ, .boolean)] [.ref a_va, .int p1, .int p2] sz [(a_fl, oX1 fl_e fl_f fl_bias fl_codes fl_signBit fl_endless), (a_va, oX6 a_fl a_p2 va_m va_x va_more va_laid va_below va_settled va_sort), (a_p2, oX3 a_fl p2_lower p2_way p2_more p2_beyond)]) (va_Qv (fun (u : (Int64) × (Int32) × (Int32) × (Int32) × (Int32) × (Int32) × (Int32) × (Int32) × (Int32) × (Int32) × (Int32)) => post u.1 u.2.1 u.2.2.1 u.2.2.2.1 u.2.2.2.2.1 u.2.2.2.2.2.1 u.2.2.2.2.2.2.1 u.2.2.2.2.2.2.2.1 u.2.2.2.2.2.2.2.2.1 u.2.2.2.2.2.2.2.2.2.1 u.2.2.2.2.2.2.2.2.2.2) (rw_B D A (fun (u : (Int64) × (Int32) × (Int32) × (Int32) × (Int32) × (Int32) × (Int32) × (Int32) × (Int32) × (Int32) × (Int32)) => [(a_fl, oX1 fl_e fl_f fl_bias fl_codes fl_signBit fl_endless), (a_va, oX6 a_fl a_p2 u.1 u.2.1 u.2.2.1 u.2.2.2.1 u.2.2.2.2.1 u.2.2.2.2.2.1 u.2.2.2.2.2.2.1), (a_p2, oX3 a_fl u.2.2.2.2.2.2.2.1 u.2.2.2.2.2.2.2.2.1 u.2.2.2.2.2.2.2.2.2.1 u.2.2.2.2.2.2.2.2.2.2)])) A) 0 0 A := by
  refine Met.ofW (cc := cX6_read) (maxL := 5) (ret := none) (by decide) rfl ?_
  intro p e s m args below meth c s₁ B hml hv
  obtain ⟨hargs, hsz, hP, hK, hN, hD0⟩ := hv
  have hx := B.exec
  have hb := B.bytes
  have hr := B.returns
  have hts : ∀ w ∈ wsL_law, w.before args s = true := fun w h => atoms_spec (ws := w_X6_read) B.pre w (List.mem_cons_of_mem _ h)
  have hown : s.vm.findClass RX6 = some m.cls := findClass_of_methodNamed B.named
  have hlocks := B.notSynchronized
  subst hsz
  have hD : va_D A [(a_fl, oX1 fl_e fl_f fl_bias fl_codes fl_signBit fl_endless), (a_va, oX6 a_fl a_p2 va_m va_x va_more va_laid va_below va_settled va_sort), (a_p2, oX3 a_fl p2_lower p2_way p2_more p2_beyond)] := by rw [hAe]; exact hD0.self
  have hA : ∀ q : Nat, s.heap.size ≤ q → A q := fun q h => by rw [hAe]; exact Or.inr h
  have hS : va_S A s.heap s.heap [] := va_S.rf
  have hl := lv_entry ([.ref a_va, .int p1, .int p2]) (n := 5) (Nat.le_of_ble_eq_true rfl)
  rw [hargs, lg_entry_eq, ← hargs]
  generalize (lg_sl ([.ref a_va, .int p1, .int p2]) ++ List.replicate (5 - (lg_sl ([.ref a_va, .int p1, .int p2])).length) Slot.unset).toArray = ls at hl ⊢
  replace hl : lv_has ls 5 [(0, .ref a_va), (1, .int p1), (2, .int p2)] := hl
  have hRf : ∀ n, n ≤ 3 → n ≤ (headSpec w_X6_read ({ frames := 3, cells := 0, slots := 0, locals := 79 } : Room)).room.frames := fun n h => h
  have hRl : ∀ n, n ≤ 79 → n ≤ (headSpec w_X6_read ({ frames := 3, cells := 0, slots := 0, locals := 79 } : Room)).room.locals := fun n h => h
  generalize (headSpec w_X6_read ({ frames := 3, cells := 0, slots := 0, locals := 79 } : Room)).room = R at hRf hRl ⊢
  generalize hQ : MQ below _ args s 0 0 _ = Q
  have C_90 : ∀ (va_m : Int64) (va_x : Int32) (va_more : Int32) (va_laid : Int32) (va_below : Int32) (va_settled : Int32) (va_sort : Int32) (p2_lower : Int32) (p2_way : Int32) (p2_more : Int32) (p2_beyond : Int32) (y0 : Int32) (H : Heap) (locs : List Loc) (ls : Array Slot), wp_X6_read_90 post  fl_f fl_bias fl_signBit fl_endless va_m va_x va_more va_laid va_settled p1 p2 y0 → va_P D vwCl [(a_fl, oX1 fl_e fl_f fl_bias fl_codes fl_signBit fl_endless), (a_va, oX6 a_fl a_p2 va_m va_x va_more va_laid va_below va_settled va_sort), (a_p2, oX3 a_fl p2_lower p2_way p2_more p2_beyond)] H → va_D A [(a_fl, oX1 fl_e fl_f fl_bias fl_codes fl_signBit fl_endless), (a_va, oX6 a_fl a_p2 va_m va_x va_more va_laid va_below va_settled va_sort), (a_p2, oX3 a_fl p2_lower p2_way p2_more p2_beyond)] → va_S A s.heap H locs → lv_has ls 5 [(0, .ref a_va), (1, .int p1), (2, .int p2)] → W p l e R s m args below meth c H locs 0 0 Q (F0 m 90 ls [.int y0, .ref a_va]) := by
    intro va_m va_x va_more va_laid va_below va_settled va_sort p2_lower p2_way p2_more p2_beyond y0 H locs ls ho hP hD hS hl
    unfold wp_X6_read_90 at ho
    have o_90 := ho.1
    replace ho := ho.2
    refine va_put (D := D) (ci := 5) (v := .int y0) (ty := .boolean) (C := RX6) (T := TX6) (N := 9) hx hb hts inlX6 tyX6 tyX6_ok nmX6 hown hK hP hD hS 1 rfl rfl 6 (by decide) (hts _ wl_409) (fun _ h9 => h9) rfl (by decide +kernel) (bz_n o_90) (bz_f o_90) (Nat.le_of_ble_eq_true rfl) dX6_read_90 (fun H locs hP hD hS => ?_)
    replace hP : va_P D vwCl [(a_fl, oX1 fl_e fl_f fl_bias fl_codes fl_signBit fl_endless), (a_va, oX6 a_fl a_p2 va_m va_x va_more va_laid y0 va_settled va_sort), (a_p2, oX3 a_fl p2_lower p2_way p2_more p2_beyond)] H := hP
    replace hD : va_D A [(a_fl, oX1 fl_e fl_f fl_bias fl_codes fl_signBit fl_endless), (a_va, oX6 a_fl a_p2 va_m va_x va_more va_laid y0 va_settled va_sort), (a_p2, oX3 a_fl p2_lower p2_way p2_more p2_beyond)] := hD
    refine lv_aload_n hx hb dX6_read_93 rfl (lv_at hl 0 rfl) ?_
    refine lv_iload_n hx hb dX6_read_94 rfl (lv_at hl 1 rfl) ?_
    refine lv_aload_n hx hb dX6_read_95 rfl (lv_at hl 0 rfl) ?_
    refine va_get (D := D) (ci := 5) (v := .ref a_fl) (C := RX6) (T := TX6) (N := 9) hx hb hts inlX6 hown hK hP 1 rfl rfl 0 (by decide) (hts _ wl_61) (fun _ h9 => h9) rfl dX6_read_96 ?_
    refine lv_iload_n hx hb dX6_read_99 rfl (lv_at hl 2 rfl) ?_
    refine ca_Vi (b := a_fl) (As := [.int p2]) (rest := [.int p1, .ref a_va]) ⟨hx, hb, hml, hown, hts⟩ (c_X1_factor l D cI cJ cZ a_fl fl_e fl_f fl_bias fl_codes fl_signBit fl_endless p2 _ ho) (cwV 1 hts (gdV wl_422 wl_224 wl_225 wl_14 wl_226) rfl rfl rfl (by decide +kernel) ⟨hRf _ (Nat.le_of_ble_eq_true rfl), hRl _ (Nat.le_of_ble_eq_true rfl)⟩) hK hN hP [0] rfl 0 1 rfl rfl rfl rfl hl.1 rfl (Nat.le_of_ble_eq_true rfl) dX6_read_100 ⟨Nat.zero_le _, Nat.zero_le _⟩ (fun r100 ho => ?_)
    refine lv_aload_n hx hb dX6_read_103 rfl (lv_at hl 0 rfl) ?_
    refine va_get (D := D) (ci := 5) (v := .ref a_fl) (C := RX6) (T := TX6) (N := 9) hx hb hts inlX6 hown hK hP 1 rfl rfl 0 (by decide) (hts _ wl_61) (fun _ h9 => h9) rfl dX6_read_104 ?_
    refine lv_iload_n hx hb dX6_read_107 rfl (lv_at hl 2 rfl) ?_
    refine ca_Vi (b := a_fl) (As := [.int p2]) (rest := [.int r100, .int p1, .ref a_va]) ⟨hx, hb, hml, hown, hts⟩ (c_X1_power l D cI cJ cZ a_fl fl_e fl_f fl_bias fl_codes fl_signBit fl_endless p2 _ ho) (cwV 1 hts (gdV wl_423 wl_239 wl_240 wl_14 wl_241) rfl rfl rfl (by decide +kernel) ⟨hRf _ (Nat.le_of_ble_eq_true rfl), hRl _ (Nat.le_of_ble_eq_true rfl)⟩) hK hN hP [0] rfl 0 1 rfl rfl rfl rfl hl.1 rfl (Nat.le_of_ble_eq_true rfl) dX6_read_108 ⟨Nat.zero_le _, Nat.zero_le _⟩ (fun r108 ho => ?_)
    refine ca_Wv (b := a_va) (As := [.int p1, .int r100, .int r108]) (rest := []) (wr := [(a_fl, oX1 fl_e fl_f fl_bias fl_codes fl_signBit fl_endless), (a_p2, oX3 a_fl p2_lower p2_way p2_more p2_beyond)]) (wo := fun (u : (Int64) × (Int32) × (Int32)) => [(a_va, oX6 a_fl a_p2 u.1 u.2.1 u.2.2 va_laid y0 va_settled va_sort)]) (wn := fun (u : (Int64) × (Int32) × (Int32)) => [(a_fl, oX1 fl_e fl_f fl_bias fl_codes fl_signBit fl_endless), (a_va, oX6 a_fl a_p2 u.1 u.2.1 u.2.2 va_laid y0 va_settled va_sort), (a_p2, oX3 a_fl p2_lower p2_way p2_more p2_beyond)]) ⟨hx, hb, hml, hown, hts⟩ (c_X6_reckon l D cI cJ cZ a_fl a_va a_p2 H.size va_m va_x va_more va_laid y0 va_settled va_sort p1 r100 r108 _ _ rfl ho) (cwV 3 hts (gdV wl_424 wl_425 wl_426 wl_22 wl_427) rfl rfl rfl (by decide +kernel) ⟨hRf _ (Nat.le_of_ble_eq_true rfl), hRl _ (Nat.le_of_ble_eq_true rfl)⟩) hK hN hP hD hS hA [1] [0, 2] [0, 2, 1] rfl rfl (by decide) (by decide) (by decide) (by decide) (fun _ => rfl) 0 5 rfl rfl rfl rfl hl.1 rfl (Nat.le_of_ble_eq_true rfl) dX6_read_111 ⟨Nat.zero_le _, Nat.zero_le _⟩ (fun  u111 H locs ho hP hD hS => ?_)
    obtain ⟨u111_1, u111_2, u111_3⟩ := u111
    try dsimp only at ho
    replace hP : va_P D vwCl [(a_fl, oX1 fl_e fl_f fl_bias fl_codes fl_signBit fl_endless), (a_va, oX6 a_fl a_p2 u111_1 u111_2 u111_3 va_laid y0 va_settled va_sort), (a_p2, oX3 a_fl p2_lower p2_way p2_more p2_beyond)] H := hP
    replace hD : va_D A [(a_fl, oX1 fl_e fl_f fl_bias fl_codes fl_signBit fl_endless), (a_va, oX6 a_fl a_p2 u111_1 u111_2 u111_3 va_laid y0 va_settled va_sort), (a_p2, oX3 a_fl p2_lower p2_way p2_more p2_beyond)] := hD
    refine lv_aload_n hx hb dX6_read_114 rfl (lv_at hl 0 rfl) ?_
    refine va_get (D := D) (ci := 5) (v := .ref a_p2) (C := RX6) (T := TX6) (N := 9) hx hb hts inlX6 hown hK hP 1 rfl rfl 1 (by decide) (hts _ wl_63) (fun _ h9 => h9) rfl dX6_read_115 ?_
    refine lv_aload_n hx hb dX6_read_118 rfl (lv_at hl 0 rfl) ?_
    refine va_get (D := D) (ci := 5) (v := .long u111_1) (C := RX6) (T := TX6) (N := 9) hx hb hts inlX6 hown hK hP 1 rfl rfl 2 (by decide) (hts _ wl_415) (fun _ h9 => h9) rfl dX6_read_119 ?_
    refine lv_aload_n hx hb dX6_read_122 rfl (lv_at hl 0 rfl) ?_
    refine va_get (D := D) (ci := 5) (v := .int u111_2) (C := RX6) (T := TX6) (N := 9) hx hb hts inlX6 hown hK hP 1 rfl rfl 3 (by decide) (hts _ wl_416) (fun _ h9 => h9) rfl dX6_read_123 ?_
    refine lv_aload_n hx hb dX6_read_126 rfl (lv_at hl 0 rfl) ?_
    refine va_get (D := D) (ci := 5) (v := .int u111_3) (C := RX6) (T := TX6) (N := 9) hx hb hts inlX6 hown hK hP 1 rfl rfl 4 (by decide) (hts _ wl_417) (fun _ h9 => h9) rfl dX6_read_127 ?_
    refine ca_Wv (b := a_p2) (As := [.long u111_1, .int u111_2, .int u111_3]) (rest := []) (wr := [(a_va, oX6 a_fl a_p2 u111_1 u111_2 u111_3 va_laid y0 va_settled va_sort)]) (wo := fun (u : (Int32) × (Int32) × (Int32) × (Int32)) => [(a_fl, oX1 fl_e fl_f fl_bias fl_codes fl_signBit fl_endless), (a_p2, oX3 a_fl u.1 u.2.1 u.2.2.1 u.2.2.2)]) (wn := fun (u : (Int32) × (Int32) × (Int32) × (Int32)) => [(a_fl, oX1 fl_e fl_f fl_bias fl_codes fl_signBit fl_endless), (a_va, oX6 a_fl a_p2 u111_1 u111_2 u111_3 va_laid y0 va_settled va_sort), (a_p2, oX3 a_fl u.1 u.2.1 u.2.2.1 u.2.2.2)]) ⟨hx, hb, hml, hown, hts⟩ (c_X3_lay l D cI cJ cZ a_fl a_p2 H.size fl_e fl_f fl_bias fl_codes fl_signBit fl_endless p2_lower p2_way p2_more p2_beyond u111_1 u111_2 u111_3 _ _ rfl ho) (cwV 3 hts (gdV wl_453 wl_327 wl_328 wl_18 wl_329) rfl rfl rfl (by decide +kernel) ⟨hRf _ (Nat.le_of_ble_eq_true rfl), hRl _ (Nat.le_of_ble_eq_true rfl)⟩) hK hN hP hD hS hA [0, 2] [1] [1, 0, 2] rfl rfl (by decide) (by decide) (by decide) (by decide) (fun _ => rfl) 1 3 rfl rfl rfl rfl hl.1 rfl (Nat.le_of_ble_eq_true rfl) dX6_read_130 ⟨Nat.zero_le _, Nat.zero_le _⟩ (fun  u130 H locs ho hP hD hS => ?_)
    obtain ⟨u130_1, u130_2, u130_3, u130_4⟩ := u130
    try dsimp only at ho
    replace hP : va_P D vwCl [(a_fl, oX1 fl_e fl_f fl_bias fl_codes fl_signBit fl_endless), (a_va, oX6 a_fl a_p2 u111_1 u111_2 u111_3 va_laid y0 va_settled va_sort), (a_p2, oX3 a_fl u130_1 u130_2 u130_3 u130_4)] H := hP
    replace hD : va_D A [(a_fl, oX1 fl_e fl_f fl_bias fl_codes fl_signBit fl_endless), (a_va, oX6 a_fl a_p2 u111_1 u111_2 u111_3 va_laid y0 va_settled va_sort), (a_p2, oX3 a_fl u130_1 u130_2 u130_3 u130_4)] := hD
    refine lv_aload_n hx hb dX6_read_133 rfl (lv_at hl 0 rfl) ?_
    refine lv_aload_n hx hb dX6_read_134 rfl (lv_at hl 0 rfl) ?_
    refine va_get (D := D) (ci := 5) (v := .ref a_p2) (C := RX6) (T := TX6) (N := 9) hx hb hts inlX6 hown hK hP 1 rfl rfl 1 (by decide) (hts _ wl_63) (fun _ h9 => h9) rfl dX6_read_135 ?_
    refine ca_Vi (b := a_p2) (As := []) (rest := [.ref a_va]) ⟨hx, hb, hml, hown, hts⟩ (c_X3_sortLaid l D cI cJ cZ a_fl a_p2 u130_1 u130_2 u130_3 u130_4  _ ho) (cwV 0 hts (gdV wl_454 wl_358 wl_359 wl_18 wl_360) rfl rfl rfl (by decide +kernel) ⟨hRf _ (Nat.le_of_ble_eq_true rfl), hRl _ (Nat.le_of_ble_eq_true rfl)⟩) hK hN hP [2] rfl 0 3 rfl rfl rfl rfl hl.1 rfl (Nat.le_of_ble_eq_true rfl) dX6_read_138 ⟨Nat.zero_le _, Nat.zero_le _⟩ (fun r138 ho => ?_)
    refine va_put (D := D) (ci := 5) (v := .int r138) (ty := .int) (C := RX6) (T := TX6) (N := 9) hx hb hts inlX6 tyX6 tyX6_ok nmX6 hown hK hP hD hS 1 rfl rfl 8 (by decide) (hts _ wl_418) (fun _ h9 => h9) rfl (by decide +kernel) rfl rfl (Nat.le_of_ble_eq_true rfl) dX6_read_141 (fun H locs hP hD hS => ?_)
    replace hP : va_P D vwCl [(a_fl, oX1 fl_e fl_f fl_bias fl_codes fl_signBit fl_endless), (a_va, oX6 a_fl a_p2 u111_1 u111_2 u111_3 va_laid y0 va_settled r138), (a_p2, oX3 a_fl u130_1 u130_2 u130_3 u130_4)] H := hP
    replace hD : va_D A [(a_fl, oX1 fl_e fl_f fl_bias fl_codes fl_signBit fl_endless), (a_va, oX6 a_fl a_p2 u111_1 u111_2 u111_3 va_laid y0 va_settled r138), (a_p2, oX3 a_fl u130_1 u130_2 u130_3 u130_4)] := hD
    refine lv_goto (tgt := 174) hx hb dX6_read_144 (by decide) ?_
    subst hQ; exact W.vret hx hb hr (fun t ht hW => ⟨⟨(u111_1, u111_2, u111_3, va_laid, y0, va_settled, r138, u130_1, u130_2, u130_3, u130_4), rfl, ho, by rw [ht]; exact hP, hD⟩, hS.F ht⟩) (fun q hq => hS.2.2 q hq) dX6_read_174
  have C_89 : ∀ (va_m : Int64) (va_x : Int32) (va_more : Int32) (va_laid : Int32) (va_below : Int32) (va_settled : Int32) (va_sort : Int32) (p2_lower : Int32) (p2_way : Int32) (p2_more : Int32) (p2_beyond : Int32) (H : Heap) (locs : List Loc) (ls : Array Slot), wp_X6_read_89 post  fl_f fl_bias fl_signBit fl_endless va_m va_x va_more va_laid va_settled p1 p2 → va_P D vwCl [(a_fl, oX1 fl_e fl_f fl_bias fl_codes fl_signBit fl_endless), (a_va, oX6 a_fl a_p2 va_m va_x va_more va_laid va_below va_settled va_sort), (a_p2, oX3 a_fl p2_lower p2_way p2_more p2_beyond)] H → va_D A [(a_fl, oX1 fl_e fl_f fl_bias fl_codes fl_signBit fl_endless), (a_va, oX6 a_fl a_p2 va_m va_x va_more va_laid va_below va_settled va_sort), (a_p2, oX3 a_fl p2_lower p2_way p2_more p2_beyond)] → va_S A s.heap H locs → lv_has ls 5 [(0, .ref a_va), (1, .int p1), (2, .int p2)] → W p l e R s m args below meth c H locs 0 0 Q (F0 m 89 ls [.ref a_va]) := by
    intro va_m va_x va_more va_laid va_below va_settled va_sort p2_lower p2_way p2_more p2_beyond H locs ls ho hP hD hS hl
    unfold wp_X6_read_89 at ho
    refine lv_iconst (v := 0) hx hb dX6_read_89 (by decide) ?_
    exact C_90 va_m va_x va_more va_laid va_below va_settled va_sort p2_lower p2_way p2_more p2_beyond (0 : Int32) H locs ls ho hP hD hS (lv_sub hl [0, 1, 2] rfl)
  have C_58 : ∀ (va_m : Int64) (va_x : Int32) (va_more : Int32) (va_laid : Int32) (va_below : Int32) (va_settled : Int32) (va_sort : Int32) (p2_lower : Int32) (p2_way : Int32) (p2_more : Int32) (p2_beyond : Int32) (x3 : Int32) (y0 : Int32) (H : Heap) (locs : List Loc) (ls : Array Slot), wp_X6_read_58 post  fl_f fl_bias fl_signBit fl_endless va_m va_x va_more va_below va_settled p2_lower p2_way p2_more p2_beyond p1 p2 x3 y0 → va_P D vwCl [(a_fl, oX1 fl_e fl_f fl_bias fl_codes fl_signBit fl_endless), (a_va, oX6 a_fl a_p2 va_m va_x va_more va_laid va_below va_settled va_sort), (a_p2, oX3 a_fl p2_lower p2_way p2_more p2_beyond)] H → va_D A [(a_fl, oX1 fl_e fl_f fl_bias fl_codes fl_signBit fl_endless), (a_va, oX6 a_fl a_p2 va_m va_x va_more va_laid va_below va_settled va_sort), (a_p2, oX3 a_fl p2_lower p2_way p2_more p2_beyond)] → va_S A s.heap H locs → lv_has ls 5 [(0, .ref a_va), (1, .int p1), (2, .int p2), (3, .int x3)] → W p l e R s m args below meth c H locs 0 0 Q (F0 m 58 ls [.int y0, .ref a_va]) := by
    intro va_m va_x va_more va_laid va_below va_settled va_sort p2_lower p2_way p2_more p2_beyond x3 y0 H locs ls ho hP hD hS hl
    unfold wp_X6_read_58 at ho
    have o_58 := ho.1
    replace ho := ho.2
    refine va_put (D := D) (ci := 5) (v := .int y0) (ty := .boolean) (C := RX6) (T := TX6) (N := 9) hx hb hts inlX6 tyX6 tyX6_ok nmX6 hown hK hP hD hS 1 rfl rfl 5 (by decide) (hts _ wl_408) (fun _ h9 => h9) rfl (by decide +kernel) (bz_n o_58) (bz_f o_58) (Nat.le_of_ble_eq_true rfl) dX6_read_58 (fun H locs hP hD hS => ?_)
    replace hP : va_P D vwCl [(a_fl, oX1 fl_e fl_f fl_bias fl_codes fl_signBit fl_endless), (a_va, oX6 a_fl a_p2 va_m va_x va_more y0 va_below va_settled va_sort), (a_p2, oX3 a_fl p2_lower p2_way p2_more p2_beyond)] H := hP
    replace hD : va_D A [(a_fl, oX1 fl_e fl_f fl_bias fl_codes fl_signBit fl_endless), (a_va, oX6 a_fl a_p2 va_m va_x va_more y0 va_below va_settled va_sort), (a_p2, oX3 a_fl p2_lower p2_way p2_more p2_beyond)] := hD
    refine lv_aload_n hx hb dX6_read_61 rfl (lv_at hl 0 rfl) ?_
    refine va_get (D := D) (ci := 5) (v := .int y0) (C := RX6) (T := TX6) (N := 9) hx hb hts inlX6 hown hK hP 1 rfl rfl 5 (by decide) (hts _ wl_408) (fun _ h9 => h9) rfl dX6_read_62 ?_
    refine lv_if_eq (tgt := 147) hx hb dX6_read_65 (by decide) (fun c_65 => ?_) (fun c_65 => ?_)
    · replace ho := ho.1 c_65
      refine lv_aload_n hx hb dX6_read_147 rfl (lv_at hl 0 rfl) ?_
      refine lv_aload_n hx hb dX6_read_148 rfl (lv_at hl 0 rfl) ?_
      refine lv_iload_n hx hb dX6_read_149 rfl (lv_at hl 1 rfl) ?_
      refine lv_iload_n hx hb dX6_read_150 rfl (lv_at hl 2 rfl) ?_
      refine ca_Vi (b := a_va) (As := [.int p1, .int p2]) (rest := [.ref a_va]) ⟨hx, hb, hml, hown, hts⟩ (c_X6_settledResult l D cI cJ cZ a_fl a_va a_p2 fl_e fl_f fl_bias fl_codes fl_signBit fl_endless va_m va_x va_more y0 va_below va_settled va_sort p1 p2 _ ho) (cwV 2 hts (gdV wl_455 wl_456 wl_457 wl_22 wl_458) rfl rfl rfl (by decide +kernel) ⟨hRf _ (Nat.le_of_ble_eq_true rfl), hRl _ (Nat.le_of_ble_eq_true rfl)⟩) hK hN hP [0, 1] rfl 1 5 rfl rfl rfl rfl hl.1 rfl (Nat.le_of_ble_eq_true rfl) dX6_read_151 ⟨Nat.zero_le _, Nat.zero_le _⟩ (fun r151 ho => ?_)
      refine va_put (D := D) (ci := 5) (v := .int r151) (ty := .int) (C := RX6) (T := TX6) (N := 9) hx hb hts inlX6 tyX6 tyX6_ok nmX6 hown hK hP hD hS 1 rfl rfl 7 (by decide) (hts _ wl_410) (fun _ h9 => h9) rfl (by decide +kernel) rfl rfl (Nat.le_of_ble_eq_true rfl) dX6_read_154 (fun H locs hP hD hS => ?_)
      replace hP : va_P D vwCl [(a_fl, oX1 fl_e fl_f fl_bias fl_codes fl_signBit fl_endless), (a_va, oX6 a_fl a_p2 va_m va_x va_more y0 va_below r151 va_sort), (a_p2, oX3 a_fl p2_lower p2_way p2_more p2_beyond)] H := hP
      replace hD : va_D A [(a_fl, oX1 fl_e fl_f fl_bias fl_codes fl_signBit fl_endless), (a_va, oX6 a_fl a_p2 va_m va_x va_more y0 va_below r151 va_sort), (a_p2, oX3 a_fl p2_lower p2_way p2_more p2_beyond)] := hD
      refine lv_aload_n hx hb dX6_read_157 rfl (lv_at hl 0 rfl) ?_
      refine lv_iload_n hx hb dX6_read_158 rfl (lv_at hl 3 rfl) ?_
      refine lv_if_eq (tgt := 170) hx hb dX6_read_159 (by decide) (fun c_159 => ?_) (fun c_159 => ?_)
      · replace ho := ho.1 c_159
        refine lv_iconst (v := 0) hx hb dX6_read_170 (by decide) ?_
        refine va_put (D := D) (ci := 5) (v := .int (0 : Int32)) (ty := .int) (C := RX6) (T := TX6) (N := 9) hx hb hts inlX6 tyX6 tyX6_ok nmX6 hown hK hP hD hS 1 rfl rfl 8 (by decide) (hts _ wl_418) (fun _ h9 => h9) rfl (by decide +kernel) rfl rfl (Nat.le_of_ble_eq_true rfl) dX6_read_171 (fun H locs hP hD hS => ?_)
        replace hP : va_P D vwCl [(a_fl, oX1 fl_e fl_f fl_bias fl_codes fl_signBit fl_endless), (a_va, oX6 a_fl a_p2 va_m va_x va_more y0 va_below r151 (0 : Int32)), (a_p2, oX3 a_fl p2_lower p2_way p2_more p2_beyond)] H := hP
        replace hD : va_D A [(a_fl, oX1 fl_e fl_f fl_bias fl_codes fl_signBit fl_endless), (a_va, oX6 a_fl a_p2 va_m va_x va_more y0 va_below r151 (0 : Int32)), (a_p2, oX3 a_fl p2_lower p2_way p2_more p2_beyond)] := hD
        subst hQ; exact W.vret hx hb hr (fun t ht hW => ⟨⟨(va_m, va_x, va_more, y0, va_below, r151, (0 : Int32), p2_lower, p2_way, p2_more, p2_beyond), rfl, ho, by rw [ht]; exact hP, hD⟩, hS.F ht⟩) (fun q hq => hS.2.2 q hq) dX6_read_174
      · replace ho := ho.2 c_159
        refine lv_iload_n hx hb dX6_read_162 rfl (lv_at hl 1 rfl) ?_
        refine lv_if_eq (tgt := 170) hx hb dX6_read_163 (by decide) (fun c_163 => ?_) (fun c_163 => ?_)
        · replace ho := ho.1 c_163
          refine lv_iconst (v := 0) hx hb dX6_read_170 (by decide) ?_
          refine va_put (D := D) (ci := 5) (v := .int (0 : Int32)) (ty := .int) (C := RX6) (T := TX6) (N := 9) hx hb hts inlX6 tyX6 tyX6_ok nmX6 hown hK hP hD hS 1 rfl rfl 8 (by decide) (hts _ wl_418) (fun _ h9 => h9) rfl (by decide +kernel) rfl rfl (Nat.le_of_ble_eq_true rfl) dX6_read_171 (fun H locs hP hD hS => ?_)
          replace hP : va_P D vwCl [(a_fl, oX1 fl_e fl_f fl_bias fl_codes fl_signBit fl_endless), (a_va, oX6 a_fl a_p2 va_m va_x va_more y0 va_below r151 (0 : Int32)), (a_p2, oX3 a_fl p2_lower p2_way p2_more p2_beyond)] H := hP
          replace hD : va_D A [(a_fl, oX1 fl_e fl_f fl_bias fl_codes fl_signBit fl_endless), (a_va, oX6 a_fl a_p2 va_m va_x va_more y0 va_below r151 (0 : Int32)), (a_p2, oX3 a_fl p2_lower p2_way p2_more p2_beyond)] := hD
          subst hQ; exact W.vret hx hb hr (fun t ht hW => ⟨⟨(va_m, va_x, va_more, y0, va_below, r151, (0 : Int32), p2_lower, p2_way, p2_more, p2_beyond), rfl, ho, by rw [ht]; exact hP, hD⟩, hS.F ht⟩) (fun q hq => hS.2.2 q hq) dX6_read_174
        · replace ho := ho.2 c_163
          refine lv_iconst (v := 1) hx hb dX6_read_166 (by decide) ?_
          refine lv_goto (tgt := 171) hx hb dX6_read_167 (by decide) ?_
          refine va_put (D := D) (ci := 5) (v := .int (1 : Int32)) (ty := .int) (C := RX6) (T := TX6) (N := 9) hx hb hts inlX6 tyX6 tyX6_ok nmX6 hown hK hP hD hS 1 rfl rfl 8 (by decide) (hts _ wl_418) (fun _ h9 => h9) rfl (by decide +kernel) rfl rfl (Nat.le_of_ble_eq_true rfl) dX6_read_171 (fun H locs hP hD hS => ?_)
          replace hP : va_P D vwCl [(a_fl, oX1 fl_e fl_f fl_bias fl_codes fl_signBit fl_endless), (a_va, oX6 a_fl a_p2 va_m va_x va_more y0 va_below r151 (1 : Int32)), (a_p2, oX3 a_fl p2_lower p2_way p2_more p2_beyond)] H := hP
          replace hD : va_D A [(a_fl, oX1 fl_e fl_f fl_bias fl_codes fl_signBit fl_endless), (a_va, oX6 a_fl a_p2 va_m va_x va_more y0 va_below r151 (1 : Int32)), (a_p2, oX3 a_fl p2_lower p2_way p2_more p2_beyond)] := hD
          subst hQ; exact W.vret hx hb hr (fun t ht hW => ⟨⟨(va_m, va_x, va_more, y0, va_below, r151, (1 : Int32), p2_lower, p2_way, p2_more, p2_beyond), rfl, ho, by rw [ht]; exact hP, hD⟩, hS.F ht⟩) (fun q hq => hS.2.2 q hq) dX6_read_174
    · replace ho := ho.2 c_65
      refine lv_aload_n hx hb dX6_read_68 rfl (lv_at hl 0 rfl) ?_
      refine lv_iload_n hx hb dX6_read_69 rfl (lv_at hl 1 rfl) ?_
      refine lv_iconst (v := 3) hx hb dX6_read_70 (by decide) ?_
      refine lv_icmp_eq (tgt := 89) hx hb dX6_read_71 (by decide) (fun c_71 => ?_) (fun c_71 => ?_)
      · replace ho := ho.1 c_71
        exact C_89 va_m va_x va_more y0 va_below va_settled va_sort p2_lower p2_way p2_more p2_beyond H locs ls ho hP hD hS (lv_sub hl [0, 1, 2] rfl)
      · replace ho := ho.2 c_71
        refine lv_aload_n hx hb dX6_read_74 rfl (lv_at hl 0 rfl) ?_
        refine va_get (D := D) (ci := 5) (v := .ref a_fl) (C := RX6) (T := TX6) (N := 9) hx hb hts inlX6 hown hK hP 1 rfl rfl 0 (by decide) (hts _ wl_61) (fun _ h9 => h9) rfl dX6_read_75 ?_
        refine lv_iload_n hx hb dX6_read_78 rfl (lv_at hl 2 rfl) ?_
        refine ca_Vi (b := a_fl) (As := [.int p2]) (rest := [.ref a_va]) ⟨hx, hb, hml, hown, hts⟩ (c_X1_isBelow l D cI cJ cZ a_fl fl_e fl_f fl_bias fl_codes fl_signBit fl_endless p2 _ ho) (cwV 1 hts (gdV wl_420 wl_204 wl_205 wl_14 wl_206) rfl rfl rfl (by decide +kernel) ⟨hRf _ (Nat.le_of_ble_eq_true rfl), hRl _ (Nat.le_of_ble_eq_true rfl)⟩) hK hN hP [0] rfl 0 1 rfl rfl rfl rfl hl.1 rfl (Nat.le_of_ble_eq_true rfl) dX6_read_79 ⟨Nat.zero_le _, Nat.zero_le _⟩ (fun r79 ho => ?_)
        refine lv_if_eq (tgt := 89) hx hb dX6_read_82 (by decide) (fun c_82 => ?_) (fun c_82 => ?_)
        · replace ho := ho.1 c_82
          exact C_89 va_m va_x va_more y0 va_below va_settled va_sort p2_lower p2_way p2_more p2_beyond H locs ls ho hP hD hS (lv_sub hl [0, 1, 2] rfl)
        · replace ho := ho.2 c_82
          refine lv_iconst (v := 1) hx hb dX6_read_85 (by decide) ?_
          refine lv_goto (tgt := 90) hx hb dX6_read_86 (by decide) ?_
          exact C_90 va_m va_x va_more y0 va_below va_settled va_sort p2_lower p2_way p2_more p2_beyond (1 : Int32) H locs ls ho hP hD hS (lv_sub hl [0, 1, 2] rfl)
  have C_57 : ∀ (va_m : Int64) (va_x : Int32) (va_more : Int32) (va_laid : Int32) (va_below : Int32) (va_settled : Int32) (va_sort : Int32) (p2_lower : Int32) (p2_way : Int32) (p2_more : Int32) (p2_beyond : Int32) (x3 : Int32) (H : Heap) (locs : List Loc) (ls : Array Slot), wp_X6_read_57 post  fl_f fl_bias fl_signBit fl_endless va_m va_x va_more va_below va_settled p2_lower p2_way p2_more p2_beyond p1 p2 x3 → va_P D vwCl [(a_fl, oX1 fl_e fl_f fl_bias fl_codes fl_signBit fl_endless), (a_va, oX6 a_fl a_p2 va_m va_x va_more va_laid va_below va_settled va_sort), (a_p2, oX3 a_fl p2_lower p2_way p2_more p2_beyond)] H → va_D A [(a_fl, oX1 fl_e fl_f fl_bias fl_codes fl_signBit fl_endless), (a_va, oX6 a_fl a_p2 va_m va_x va_more va_laid va_below va_settled va_sort), (a_p2, oX3 a_fl p2_lower p2_way p2_more p2_beyond)] → va_S A s.heap H locs → lv_has ls 5 [(0, .ref a_va), (1, .int p1), (2, .int p2), (3, .int x3)] → W p l e R s m args below meth c H locs 0 0 Q (F0 m 57 ls [.ref a_va]) := by
    intro va_m va_x va_more va_laid va_below va_settled va_sort p2_lower p2_way p2_more p2_beyond x3 H locs ls ho hP hD hS hl
    unfold wp_X6_read_57 at ho
    refine lv_iconst (v := 0) hx hb dX6_read_57 (by decide) ?_
    exact C_58 va_m va_x va_more va_laid va_below va_settled va_sort p2_lower p2_way p2_more p2_beyond x3 (0 : Int32) H locs ls ho hP hD hS (lv_sub hl [0, 1, 2, 3] rfl)
  have C_30 : ∀ (va_m : Int64) (va_x : Int32) (va_more : Int32) (va_laid : Int32) (va_below : Int32) (va_settled : Int32) (va_sort : Int32) (p2_lower : Int32) (p2_way : Int32) (p2_more : Int32) (p2_beyond : Int32) (x3 : Int32) (y0 : Int32) (H : Heap) (locs : List Loc) (ls : Array Slot), wp_X6_read_30 post  fl_f fl_bias fl_signBit fl_endless va_m va_x va_more va_below va_settled p2_lower p2_way p2_more p2_beyond p1 p2 x3 y0 → va_P D vwCl [(a_fl, oX1 fl_e fl_f fl_bias fl_codes fl_signBit fl_endless), (a_va, oX6 a_fl a_p2 va_m va_x va_more va_laid va_below va_settled va_sort), (a_p2, oX3 a_fl p2_lower p2_way p2_more p2_beyond)] H → va_D A [(a_fl, oX1 fl_e fl_f fl_bias fl_codes fl_signBit fl_endless), (a_va, oX6 a_fl a_p2 va_m va_x va_more va_laid va_below va_settled va_sort), (a_p2, oX3 a_fl p2_lower p2_way p2_more p2_beyond)] → va_S A s.heap H locs → lv_has ls 5 [(0, .ref a_va), (1, .int p1), (2, .int p2), (3, .int x3)] → W p l e R s m args below meth c H locs 0 0 Q (F0 m 30 ls [.int y0]) := by
    intro va_m va_x va_more va_laid va_below va_settled va_sort p2_lower p2_way p2_more p2_beyond x3 y0 H locs ls ho hP hD hS hl
    unfold wp_X6_read_30 at ho
    refine lv_istore (lv' := [(4, .int y0), (0, .ref a_va), (1, .int p1), (2, .int p2), (3, .int x3)]) hx hb dX6_read_30 hl (by decide) rfl (fun ls hl => ?_)
    refine lv_aload_n hx hb dX6_read_32 rfl (lv_at hl 1 rfl) ?_
    refine lv_aload_n hx hb dX6_read_33 rfl (lv_at hl 1 rfl) ?_
    refine va_get (D := D) (ci := 5) (v := .ref a_fl) (C := RX6) (T := TX6) (N := 9) hx hb hts inlX6 hown hK hP 1 rfl rfl 0 (by decide) (hts _ wl_61) (fun _ h9 => h9) rfl dX6_read_34 ?_
    refine lv_iload_n hx hb dX6_read_37 rfl (lv_at hl 3 rfl) ?_
    refine ca_Vi (b := a_fl) (As := [.int p2]) (rest := [.ref a_va]) ⟨hx, hb, hml, hown, hts⟩ (c_X1_isPlain l D cI cJ cZ a_fl fl_e fl_f fl_bias fl_codes fl_signBit fl_endless p2 _ ho) (cwV 1 hts (gdV wl_421 wl_183 wl_184 wl_14 wl_185) rfl rfl rfl (by decide +kernel) ⟨hRf _ (Nat.le_of_ble_eq_true rfl), hRl _ (Nat.le_of_ble_eq_true rfl)⟩) hK hN hP [0] rfl 0 1 rfl rfl rfl rfl hl.1 rfl (Nat.le_of_ble_eq_true rfl) dX6_read_38 ⟨Nat.zero_le _, Nat.zero_le _⟩ (fun r38 ho => ?_)
    refine lv_if_eq (tgt := 57) hx hb dX6_read_41 (by decide) (fun c_41 => ?_) (fun c_41 => ?_)
    · replace ho := ho.1 c_41
      exact C_57 va_m va_x va_more va_laid va_below va_settled va_sort p2_lower p2_way p2_more p2_beyond x3 H locs ls ho hP hD hS (lv_sub hl [1, 2, 3, 4] rfl)
    · replace ho := ho.2 c_41
      refine lv_iload_n hx hb dX6_read_44 rfl (lv_at hl 4 rfl) ?_
      refine lv_if_ne (tgt := 57) hx hb dX6_read_45 (by decide) (fun c_45 => ?_) (fun c_45 => ?_)
      · replace ho := ho.1 c_45
        exact C_57 va_m va_x va_more va_laid va_below va_settled va_sort p2_lower p2_way p2_more p2_beyond x3 H locs ls ho hP hD hS (lv_sub hl [1, 2, 3, 4] rfl)
      · replace ho := ho.2 c_45
        refine lv_iload hx hb dX6_read_48 (lv_at hl 0 rfl) ?_
        refine lv_if_ne (tgt := 57) hx hb dX6_read_50 (by decide) (fun c_50 => ?_) (fun c_50 => ?_)
        · replace ho := ho.1 c_50
          exact C_57 va_m va_x va_more va_laid va_below va_settled va_sort p2_lower p2_way p2_more p2_beyond x3 H locs ls ho hP hD hS (lv_sub hl [1, 2, 3, 4] rfl)
        · replace ho := ho.2 c_50
          refine lv_iconst (v := 1) hx hb dX6_read_53 (by decide) ?_
          refine lv_goto (tgt := 58) hx hb dX6_read_54 (by decide) ?_
          exact C_58 va_m va_x va_more va_laid va_below va_settled va_sort p2_lower p2_way p2_more p2_beyond x3 (1 : Int32) H locs ls ho hP hD hS (lv_sub hl [1, 2, 3, 4] rfl)
  have C_29 : ∀ (va_m : Int64) (va_x : Int32) (va_more : Int32) (va_laid : Int32) (va_below : Int32) (va_settled : Int32) (va_sort : Int32) (p2_lower : Int32) (p2_way : Int32) (p2_more : Int32) (p2_beyond : Int32) (x3 : Int32) (H : Heap) (locs : List Loc) (ls : Array Slot), wp_X6_read_29 post  fl_f fl_bias fl_signBit fl_endless va_m va_x va_more va_below va_settled p2_lower p2_way p2_more p2_beyond p1 p2 x3 → va_P D vwCl [(a_fl, oX1 fl_e fl_f fl_bias fl_codes fl_signBit fl_endless), (a_va, oX6 a_fl a_p2 va_m va_x va_more va_laid va_below va_settled va_sort), (a_p2, oX3 a_fl p2_lower p2_way p2_more p2_beyond)] H → va_D A [(a_fl, oX1 fl_e fl_f fl_bias fl_codes fl_signBit fl_endless), (a_va, oX6 a_fl a_p2 va_m va_x va_more va_laid va_below va_settled va_sort), (a_p2, oX3 a_fl p2_lower p2_way p2_more p2_beyond)] → va_S A s.heap H locs → lv_has ls 5 [(0, .ref a_va), (1, .int p1), (2, .int p2), (3, .int x3)] → W p l e R s m args below meth c H locs 0 0 Q (F0 m 29 ls []) := by
    intro va_m va_x va_more va_laid va_below va_settled va_sort p2_lower p2_way p2_more p2_beyond x3 H locs ls ho hP hD hS hl
    unfold wp_X6_read_29 at ho
    refine lv_iconst (v := 0) hx hb dX6_read_29 (by decide) ?_
    exact C_30 va_m va_x va_more va_laid va_below va_settled va_sort p2_lower p2_way p2_more p2_beyond x3 (0 : Int32) H locs ls ho hP hD hS (lv_sub hl [0, 1, 2, 3] rfl)
  suffices main : ∀ (H : Heap) (locs : List Loc), va_P D vwCl [(a_fl, oX1 fl_e fl_f fl_bias fl_codes fl_signBit fl_endless), (a_va, oX6 a_fl a_p2 va_m va_x va_more va_laid va_below va_settled va_sort), (a_p2, oX3 a_fl p2_lower p2_way p2_more p2_beyond)] H → va_S A s.heap H locs → W p l e R s m args below meth c H locs 0 0 Q (F0 m 0 ls []) from main _ _ hP hS
  intro H locs hP hS
  unfold wp_X6_read at ho
  refine lv_aload_n hx hb dX6_read_0 rfl (lv_at hl 0 rfl) ?_
  refine va_get (D := D) (ci := 5) (v := .ref a_fl) (C := RX6) (T := TX6) (N := 9) hx hb hts inlX6 hown hK hP 1 rfl rfl 0 (by decide) (hts _ wl_61) (fun _ h9 => h9) rfl dX6_read_1 ?_
  refine lv_iload_n hx hb dX6_read_4 rfl (lv_at hl 2 rfl) ?_
  refine ca_Vi (b := a_fl) (As := [.int p2]) (rest := []) ⟨hx, hb, hml, hown, hts⟩ (c_X1_isZero l D cI cJ cZ a_fl fl_e fl_f fl_bias fl_codes fl_signBit fl_endless p2 _ ho) (cwV 1 hts (gdV wl_419 wl_196 wl_197 wl_14 wl_198) rfl rfl rfl (by decide +kernel) ⟨hRf _ (Nat.le_of_ble_eq_true rfl), hRl _ (Nat.le_of_ble_eq_true rfl)⟩) hK hN hP [0] rfl 0 1 rfl rfl rfl rfl hl.1 rfl (Nat.le_of_ble_eq_true rfl) dX6_read_5 ⟨Nat.zero_le _, Nat.zero_le _⟩ (fun r5 ho => ?_)
  refine lv_istore_n (lv' := [(3, .int r5), (0, .ref a_va), (1, .int p1), (2, .int p2)]) hx hb dX6_read_8 rfl hl (by decide) rfl (fun ls hl => ?_)
  refine lv_iload_n hx hb dX6_read_9 rfl (lv_at hl 2 rfl) ?_
  refine lv_iconst (v := 1) hx hb dX6_read_10 (by decide) ?_
  refine lv_icmp_ne (tgt := 29) hx hb dX6_read_11 (by decide) (fun c_11 => ?_) (fun c_11 => ?_)
  · replace ho := ho.1 c_11
    exact C_29 va_m va_x va_more va_laid va_below va_settled va_sort p2_lower p2_way p2_more p2_beyond r5 H locs ls ho hP hD hS (lv_sub hl [1, 2, 3, 0] rfl)
  · replace ho := ho.2 c_11
    refine lv_aload_n hx hb dX6_read_14 rfl (lv_at hl 1 rfl) ?_
    refine va_get (D := D) (ci := 5) (v := .ref a_fl) (C := RX6) (T := TX6) (N := 9) hx hb hts inlX6 hown hK hP 1 rfl rfl 0 (by decide) (hts _ wl_61) (fun _ h9 => h9) rfl dX6_read_15 ?_
    refine lv_iload_n hx hb dX6_read_18 rfl (lv_at hl 3 rfl) ?_
    refine ca_Vi (b := a_fl) (As := [.int p2]) (rest := []) ⟨hx, hb, hml, hown, hts⟩ (c_X1_isBelow l D cI cJ cZ a_fl fl_e fl_f fl_bias fl_codes fl_signBit fl_endless p2 _ ho) (cwV 1 hts (gdV wl_420 wl_204 wl_205 wl_14 wl_206) rfl rfl rfl (by decide +kernel) ⟨hRf _ (Nat.le_of_ble_eq_true rfl), hRl _ (Nat.le_of_ble_eq_true rfl)⟩) hK hN hP [0] rfl 0 1 rfl rfl rfl rfl hl.1 rfl (Nat.le_of_ble_eq_true rfl) dX6_read_19 ⟨Nat.zero_le _, Nat.zero_le _⟩ (fun r19 ho => ?_)
    refine lv_if_eq (tgt := 29) hx hb dX6_read_22 (by decide) (fun c_22 => ?_) (fun c_22 => ?_)
    · replace ho := ho.1 c_22
      exact C_29 va_m va_x va_more va_laid va_below va_settled va_sort p2_lower p2_way p2_more p2_beyond r5 H locs ls ho hP hD hS (lv_sub hl [1, 2, 3, 0] rfl)
    · replace ho := ho.2 c_22
      refine lv_iconst (v := 1) hx hb dX6_read_25 (by decide) ?_
      refine lv_goto (tgt := 30) hx hb dX6_read_26 (by decide) ?_
      exact C_30 va_m va_x va_more va_laid va_below va_settled va_sort p2_lower p2_way p2_more p2_beyond r5 (1 : Int32) H locs ls ho hP hD hS (lv_sub hl [1, 2, 3, 0] rfl)

def w_X6_figuresRead : List Cond := .code yX6_figuresRead cX6_figuresRead 1 (some .int) :: wsL_law
set_option maxHeartbeats 4000000 in
set_option maxRecDepth 100000 in
theorem c_X6_figuresRead (l : Launch) (D : va_G) (cI cJ cZ : ClassId) (a_fl : Nat) (a_va : Nat) (a_p2 : Nat) (fl_e : Int32) (fl_f : Int32) (fl_bias : Int32) (fl_codes : Int32) (fl_signBit : Int32) (fl_endless : Int32) (va_m : Int64) (va_x : Int32) (va_more : Int32) (va_laid : Int32) (va_below : Int32) (va_settled : Int32) (va_sort : Int32) (p2_lower : Int32) (p2_way : Int32) (p2_more : Int32) (p2_beyond : Int32)  (post : Int32 → Prop) (ho : wp_X6_figuresRead post fl_endless va_laid p2_lower p2_way p2_more p2_beyond) : Met l yX6_figuresRead w_X6_figuresRead ({ frames := 2, cells := 0, slots := 0, locals := 41 } : Room) (ro_P D [(cI, .int), (cJ, .long), (cZ, .boolean)] [.ref a_va] [(a_fl, oX1 fl_e fl_f fl_bias fl_codes fl_signBit fl_endless), (a_va, oX6 a_fl a_p2 va_m va_x va_more va_laid va_below va_settled va_sort), (a_p2, oX3 a_fl p2_lower p2_way p2_more p2_beyond)]) (vp_Si post) 0 0 (fun _ => False) := by
  refine Met.ofW (cc := cX6_figuresRead) (maxL := 1) (ret := (some .int)) (by decide) rfl ?_
  intro p e s m args below meth c s₁ B hml hv
  obtain ⟨hargs, hP, hK, hN⟩ := hv
  have hx := B.exec
  have hb := B.bytes
  have hr := B.returns
  have hts : ∀ w ∈ wsL_law, w.before args s = true := fun w h => atoms_spec (ws := w_X6_figuresRead) B.pre w (List.mem_cons_of_mem _ h)
  have hown : s.vm.findClass RX6 = some m.cls := findClass_of_methodNamed B.named
  have hlocks := B.notSynchronized
  have hl := lv_entry ([.ref a_va]) (n := 1) (Nat.le_of_ble_eq_true rfl)
  rw [hargs, lg_entry_eq, ← hargs]
  generalize (lg_sl ([.ref a_va]) ++ List.replicate (1 - (lg_sl ([.ref a_va])).length) Slot.unset).toArray = ls at hl ⊢
  replace hl : lv_has ls 1 [(0, .ref a_va)] := hl
  have hRf : ∀ n, n ≤ 2 → n ≤ (headSpec w_X6_figuresRead ({ frames := 2, cells := 0, slots := 0, locals := 41 } : Room)).room.frames := fun n h => h
  have hRl : ∀ n, n ≤ 41 → n ≤ (headSpec w_X6_figuresRead ({ frames := 2, cells := 0, slots := 0, locals := 41 } : Room)).room.locals := fun n h => h
  generalize (headSpec w_X6_figuresRead ({ frames := 2, cells := 0, slots := 0, locals := 41 } : Room)).room = R at hRf hRl ⊢
  generalize hQ : MQ below _ args s 0 0 _ = Q
  unfold wp_X6_figuresRead at ho
  refine lv_aload_n hx hb dX6_figuresRead_0 rfl (lv_at hl 0 rfl) ?_
  refine va_get (D := D) (ci := 5) (v := .int va_laid) (C := RX6) (T := TX6) (N := 9) hx hb hts inlX6 hown hK hP 1 rfl rfl 5 (by decide) (hts _ wl_408) (fun _ h9 => h9) rfl dX6_figuresRead_1 ?_
  refine lv_if_eq (tgt := 17) hx hb dX6_figuresRead_4 (by decide) (fun c_4 => ?_) (fun c_4 => ?_)
  · replace ho := ho.1 c_4
    refine lv_bipush (v := (-9)) hx hb dX6_figuresRead_17 (by decide) ?_
    subst hQ; exact W.iret (v := (-9 : Int32)) hx hb hr (fun t ht _ => ⟨(-9 : Int32), rfl, ho, ht⟩) (fun _ h => by cases h) dX6_figuresRead_19
  · replace ho := ho.2 c_4
    refine lv_aload_n hx hb dX6_figuresRead_7 rfl (lv_at hl 0 rfl) ?_
    refine va_get (D := D) (ci := 5) (v := .ref a_p2) (C := RX6) (T := TX6) (N := 9) hx hb hts inlX6 hown hK hP 1 rfl rfl 1 (by decide) (hts _ wl_63) (fun _ h9 => h9) rfl dX6_figuresRead_8 ?_
    refine ca_Vi (b := a_p2) (As := []) (rest := []) ⟨hx, hb, hml, hown, hts⟩ (c_X3_figuresLaid l D cI cJ cZ a_fl a_p2 fl_e fl_f fl_bias fl_codes fl_signBit fl_endless p2_lower p2_way p2_more p2_beyond  _ ho) (cwV 0 hts (gdV wl_509 wl_510 wl_511 wl_18 wl_512) rfl rfl rfl (by decide +kernel) ⟨hRf _ (Nat.le_of_ble_eq_true rfl), hRl _ (Nat.le_of_ble_eq_true rfl)⟩) hK hN hP [0, 2] rfl 1 3 rfl rfl rfl rfl hl.1 rfl (Nat.le_of_ble_eq_true rfl) dX6_figuresRead_11 ⟨Nat.zero_le _, Nat.zero_le _⟩ (fun r11 ho => ?_)
    refine lv_goto (tgt := 19) hx hb dX6_figuresRead_14 (by decide) ?_
    subst hQ; exact W.iret (v := r11) hx hb hr (fun t ht _ => ⟨r11, rfl, ho, ht⟩) (fun _ h => by cases h) dX6_figuresRead_19

def w_X6_hardnessRead : List Cond := .code yX6_hardnessRead cX6_hardnessRead 5 (some .int) :: wsL_law
set_option maxHeartbeats 4000000 in
set_option maxRecDepth 100000 in
theorem c_X6_hardnessRead (l : Launch) (D : va_G) (cI cJ cZ : ClassId) (a_fl : Nat) (a_va : Nat) (a_p2 : Nat) (fl_e : Int32) (fl_f : Int32) (fl_bias : Int32) (fl_codes : Int32) (fl_signBit : Int32) (fl_endless : Int32) (va_m : Int64) (va_x : Int32) (va_more : Int32) (va_laid : Int32) (va_below : Int32) (va_settled : Int32) (va_sort : Int32) (p2_lower : Int32) (p2_way : Int32) (p2_more : Int32) (p2_beyond : Int32)  (post : Int32 → Prop) (ho : wp_X6_hardnessRead post fl_endless va_laid p2_lower p2_way p2_more p2_beyond) : Met l yX6_hardnessRead w_X6_hardnessRead ({ frames := 3, cells := 0, slots := 0, locals := 61 } : Room) (ro_P D [(cI, .int), (cJ, .long), (cZ, .boolean)] [.ref a_va] [(a_fl, oX1 fl_e fl_f fl_bias fl_codes fl_signBit fl_endless), (a_va, oX6 a_fl a_p2 va_m va_x va_more va_laid va_below va_settled va_sort), (a_p2, oX3 a_fl p2_lower p2_way p2_more p2_beyond)]) (vp_Si post) 0 0 (fun _ => False) := by
  refine Met.ofW (cc := cX6_hardnessRead) (maxL := 5) (ret := (some .int)) (by decide) rfl ?_
  intro p e s m args below meth c s₁ B hml hv
  obtain ⟨hargs, hP, hK, hN⟩ := hv
  have hx := B.exec
  have hb := B.bytes
  have hr := B.returns
  have hts : ∀ w ∈ wsL_law, w.before args s = true := fun w h => atoms_spec (ws := w_X6_hardnessRead) B.pre w (List.mem_cons_of_mem _ h)
  have hown : s.vm.findClass RX6 = some m.cls := findClass_of_methodNamed B.named
  have hlocks := B.notSynchronized
  have hl := lv_entry ([.ref a_va]) (n := 5) (Nat.le_of_ble_eq_true rfl)
  rw [hargs, lg_entry_eq, ← hargs]
  generalize (lg_sl ([.ref a_va]) ++ List.replicate (5 - (lg_sl ([.ref a_va])).length) Slot.unset).toArray = ls at hl ⊢
  replace hl : lv_has ls 5 [(0, .ref a_va)] := hl
  have hRf : ∀ n, n ≤ 3 → n ≤ (headSpec w_X6_hardnessRead ({ frames := 3, cells := 0, slots := 0, locals := 61 } : Room)).room.frames := fun n h => h
  have hRl : ∀ n, n ≤ 61 → n ≤ (headSpec w_X6_hardnessRead ({ frames := 3, cells := 0, slots := 0, locals := 61 } : Room)).room.locals := fun n h => h
  generalize (headSpec w_X6_hardnessRead ({ frames := 3, cells := 0, slots := 0, locals := 61 } : Room)).room = R at hRf hRl ⊢
  generalize hQ : MQ below _ args s 0 0 _ = Q
  have C_24 : ∀ n : Nat, ∀ (x1 : Int32) (x2 : Int32) (x3 : Int32) (x4 : Int32) (ls : Array Slot), wp_X6_hardnessRead_24 post   n x1 x2 x3 x4 → lv_has ls 5 [(1, .int x1), (2, .int x2), (3, .int x3), (4, .int x4)] → W p l e R s m args below meth c s.heap [] 0 0 Q (F0 m 24 ls []) := by
    intro n
    induction n with
    | zero => intro x1 x2 x3 x4 ls ho hl; exact ho.elim
    | succ n_24 ih_24 =>
      intro x1 x2 x3 x4 ls ho hl
      replace ho : wp_X6_hardnessRead_24_b post  (wp_X6_hardnessRead_24 post  n_24) x1 x2 x3 x4 := ho
      unfold wp_X6_hardnessRead_24_b at ho
      refine lv_iload hx hb dX6_hardnessRead_24 (lv_at hl 3 rfl) ?_
      refine lv_if_lt (tgt := 48) hx hb dX6_hardnessRead_26 (by decide) (fun c_26 => ?_) (fun c_26 => ?_)
      · replace ho := ho.1 c_26
        refine lv_iload_n hx hb dX6_hardnessRead_48 rfl (lv_at hl 2 rfl) ?_
        subst hQ; exact W.iret (v := x3) hx hb hr (fun t ht _ => ⟨x3, rfl, ho, ht⟩) (fun _ h => by cases h) dX6_hardnessRead_49
      · replace ho := ho.2 c_26
        refine lv_iload_n hx hb dX6_hardnessRead_29 rfl (lv_at hl 0 rfl) ?_
        refine lv_iload hx hb dX6_hardnessRead_30 (lv_at hl 3 rfl) ?_
        refine lv_ishr hx hb dX6_hardnessRead_32 ?_
        refine lv_iconst (v := 1) hx hb dX6_hardnessRead_33 (by decide) ?_
        refine lv_iand hx hb dX6_hardnessRead_34 ?_
        refine lv_iload_n hx hb dX6_hardnessRead_35 rfl (lv_at hl 1 rfl) ?_
        refine lv_icmp_ne (tgt := 48) hx hb dX6_hardnessRead_36 (by decide) (fun c_36 => ?_) (fun c_36 => ?_)
        · replace ho := ho.1 c_36
          refine lv_iload_n hx hb dX6_hardnessRead_48 rfl (lv_at hl 2 rfl) ?_
          subst hQ; exact W.iret (v := x3) hx hb hr (fun t ht _ => ⟨x3, rfl, ho, ht⟩) (fun _ h => by cases h) dX6_hardnessRead_49
        · replace ho := ho.2 c_36
          refine lv_iinc (v := (x3 + (1 : Int32))) (lv' := [(3, .int (x3 + (1 : Int32))), (1, .int x1), (2, .int x2), (4, .int x4)]) hx hb dX6_hardnessRead_39 hl (k := 2) rfl rfl (by decide) rfl (fun ls hl => ?_)
          refine lv_iinc (v := (x4 + (-1 : Int32))) (lv' := [(4, .int (x4 + (-1 : Int32))), (3, .int (x3 + (1 : Int32))), (1, .int x1), (2, .int x2)]) hx hb dX6_hardnessRead_42 hl (k := 3) rfl rfl (by decide) rfl (fun ls hl => ?_)
          refine lv_goto (tgt := 24) hx hb dX6_hardnessRead_45 (by decide) ?_
          exact ih_24 x1 x2 (x3 + (1 : Int32)) (x4 + (-1 : Int32)) ls ho (lv_sub hl [2, 3, 1, 0] rfl)
  unfold wp_X6_hardnessRead at ho
  refine lv_aload_n hx hb dX6_hardnessRead_0 rfl (lv_at hl 0 rfl) ?_
  refine ca_Vi (b := a_va) (As := []) (rest := []) ⟨hx, hb, hml, hown, hts⟩ (c_X6_figuresRead l D cI cJ cZ a_fl a_va a_p2 fl_e fl_f fl_bias fl_codes fl_signBit fl_endless va_m va_x va_more va_laid va_below va_settled va_sort p2_lower p2_way p2_more p2_beyond  _ ho) (cwV 0 hts (gdV wl_529 wl_506 wl_507 wl_22 wl_508) rfl rfl rfl (by decide +kernel) ⟨hRf _ (Nat.le_of_ble_eq_true rfl), hRl _ (Nat.le_of_ble_eq_true rfl)⟩) hK hN hP [0, 1, 2] rfl 1 5 rfl rfl rfl rfl hl.1 rfl (Nat.le_of_ble_eq_true rfl) dX6_hardnessRead_1 ⟨Nat.zero_le _, Nat.zero_le _⟩ (fun r1 ho => ?_)
  refine lv_istore_n (lv' := [(1, .int r1), (0, .ref a_va)]) hx hb dX6_hardnessRead_4 rfl hl (by decide) rfl (fun ls hl => ?_)
  refine lv_iload_n hx hb dX6_hardnessRead_5 rfl (lv_at hl 0 rfl) ?_
  refine lv_if_ge (tgt := 11) hx hb dX6_hardnessRead_6 (by decide) (fun c_6 => ?_) (fun c_6 => ?_)
  · replace ho := ho.1 c_6
    refine lv_iload_n hx hb dX6_hardnessRead_11 rfl (lv_at hl 0 rfl) ?_
    refine lv_bipush (v := 8) hx hb dX6_hardnessRead_12 (by decide) ?_
    refine lv_ishr hx hb dX6_hardnessRead_14 ?_
    refine lv_iconst (v := 1) hx hb dX6_hardnessRead_15 (by decide) ?_
    refine lv_iand hx hb dX6_hardnessRead_16 ?_
    refine lv_istore_n (lv' := [(2, .int ((r1 >>> ((8 : Int32) &&& 31)) &&& (1 : Int32))), (1, .int r1), (0, .ref a_va)]) hx hb dX6_hardnessRead_17 rfl hl (by decide) rfl (fun ls hl => ?_)
    refine lv_iconst (v := 0) hx hb dX6_hardnessRead_18 (by decide) ?_
    refine lv_istore_n (lv' := [(3, .int (0 : Int32)), (2, .int ((r1 >>> ((8 : Int32) &&& 31)) &&& (1 : Int32))), (1, .int r1), (0, .ref a_va)]) hx hb dX6_hardnessRead_19 rfl hl (by decide) rfl (fun ls hl => ?_)
    refine lv_bipush (v := 8) hx hb dX6_hardnessRead_20 (by decide) ?_
    refine lv_istore (lv' := [(4, .int (8 : Int32)), (3, .int (0 : Int32)), (2, .int ((r1 >>> ((8 : Int32) &&& 31)) &&& (1 : Int32))), (1, .int r1), (0, .ref a_va)]) hx hb dX6_hardnessRead_22 hl (by decide) rfl (fun ls hl => ?_)
    obtain ⟨n_24, ho⟩ := ho
    exact C_24 n_24 r1 ((r1 >>> ((8 : Int32) &&& 31)) &&& (1 : Int32)) (0 : Int32) (8 : Int32) ls ho (lv_sub hl [3, 2, 1, 0] rfl)
  · replace ho := ho.2 c_6
    refine lv_iconst (v := 0) hx hb dX6_hardnessRead_9 (by decide) ?_
    subst hQ; exact W.iret (v := (0 : Int32)) hx hb hr (fun t ht _ => ⟨(0 : Int32), rfl, ho, ht⟩) (fun _ h => by cases h) dX6_hardnessRead_10
