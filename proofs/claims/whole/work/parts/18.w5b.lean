def w_X5_firstCode : List Cond := .code yX5_firstCode cX5_firstCode 11 (some .int) :: wsL_law
set_option maxHeartbeats 4000000 in
set_option maxRecDepth 100000 in
theorem c_X5_firstCode (l : Launch) (D : va_G) (cI cJ cZ : ClassId) (a_fl : Nat) (a_va : Nat) (a_p2 : Nat) (a_st : Nat) (a_stT : Nat) (a_stB : Nat) (sz : Nat) (fl_e : Int32) (fl_f : Int32) (fl_bias : Int32) (fl_codes : Int32) (fl_signBit : Int32) (fl_endless : Int32) (va_m : Int64) (va_x : Int32) (va_more : Int32) (va_laid : Int32) (va_below : Int32) (va_settled : Int32) (va_sort : Int32) (p2_lower : Int32) (p2_way : Int32) (p2_more : Int32) (p2_beyond : Int32) (stB_r : Nat → Int32) (p1 : Int32) (p2 : Int32) (p3 : Int32) (post : Int32 → Int64 → Int32 → Int32 → Int32 → Int32 → Int32 → Int32 → Int32 → Int32 → Int32 → Int32 → Prop) (A : Nat → Prop) (hAe : A = va_A [(a_fl, oX1 fl_e fl_f fl_bias fl_codes fl_signBit fl_endless), (a_va, oX6 a_fl a_p2 va_m va_x va_more va_laid va_below va_settled va_sort), (a_p2, oX3 a_fl p2_lower p2_way p2_more p2_beyond), (a_st, oX5 a_fl a_va a_stT a_stB), (a_stB, .inl (cI, 800, .inl stB_r))] sz) (ho : wp_X5_firstCode post fl_f fl_bias fl_signBit fl_endless va_m va_x va_more va_laid va_below va_settled va_sort p2_lower p2_way p2_more p2_beyond stB_r p1 p2 p3) : Met l yX5_firstCode w_X5_firstCode ({ frames := 5, cells := 0, slots := 0, locals := 126 } : Room) (rw_P D [(cI, .int), (cJ, .long), (cZ, .boolean)] [.ref a_st, .int p1, .int p2, .int p3] sz [(a_fl, oX1 fl_e fl_f fl_bias fl_codes fl_signBit fl_endless), (a_va, oX6 a_fl a_p2 va_m va_x va_more va_laid va_below va_settled va_sort), (a_p2, oX3 a_fl p2_lower p2_way p2_more p2_beyond), (a_st, oX5 a_fl a_va a_stT a_stB), (a_stB, .inl (cI, 800, .inl stB_r))]) (va_Qi (fun (r : Int32) (u : (Int64) × (Int32) × (Int32) × (Int32) × (Int32) × (Int32) × (Int32) × (Int32) × (Int32) × (Int32) × (Int32)) => post r u.1 u.2.1 u.2.2.1 u.2.2.2.1 u.2.2.2.2.1 u.2.2.2.2.2.1 u.2.2.2.2.2.2.1 u.2.2.2.2.2.2.2.1 u.2.2.2.2.2.2.2.2.1 u.2.2.2.2.2.2.2.2.2.1 u.2.2.2.2.2.2.2.2.2.2) (rw_B D A (fun (u : (Int64) × (Int32) × (Int32) × (Int32) × (Int32) × (Int32) × (Int32) × (Int32) × (Int32) × (Int32) × (Int32)) => [(a_fl, oX1 fl_e fl_f fl_bias fl_codes fl_signBit fl_endless), (a_va, oX6 a_fl a_p2 u.1 u.2.1 u.2.2.1 u.2.2.2.1 u.2.2.2.2.1 u.2.2.2.2.2.1 u.2.2.2.2.2.2.1), (a_p2, oX3 a_fl u.2.2.2.2.2.2.2.1 u.2.2.2.2.2.2.2.2.1 u.2.2.2.2.2.2.2.2.2.1 u.2.2.2.2.2.2.2.2.2.2), (a_st, oX5 a_fl a_va a_stT a_stB), (a_stB, .inl (cI, 800, .inl stB_r))])) A) 0 0 A := by
  refine Met.ofW (cc := cX5_firstCode) (maxL := 11) (ret := (some .int)) (by decide) rfl ?_
  intro p e s m args below meth c s₁ B hml hv
  obtain ⟨hargs, hsz, hP, hK, hN, hD0⟩ := hv
  have hx := B.exec
  have hb := B.bytes
  have hr := B.returns
  have hts : ∀ w ∈ wsL_law, w.before args s = true := fun w h => atoms_spec (ws := w_X5_firstCode) B.pre w (List.mem_cons_of_mem _ h)
  have hown : s.vm.findClass RX5 = some m.cls := findClass_of_methodNamed B.named
  have hlocks := B.notSynchronized
  subst hsz
  have hD : va_D A [(a_fl, oX1 fl_e fl_f fl_bias fl_codes fl_signBit fl_endless), (a_va, oX6 a_fl a_p2 va_m va_x va_more va_laid va_below va_settled va_sort), (a_p2, oX3 a_fl p2_lower p2_way p2_more p2_beyond), (a_st, oX5 a_fl a_va a_stT a_stB), (a_stB, .inl (cI, 800, .inl stB_r))] := by rw [hAe]; exact hD0.self
  have hA : ∀ q : Nat, s.heap.size ≤ q → A q := fun q h => by rw [hAe]; exact Or.inr h
  have hS : va_S A s.heap s.heap [] := va_S.rf
  have hl := lv_entry ([.ref a_st, .int p1, .int p2, .int p3]) (n := 11) (Nat.le_of_ble_eq_true rfl)
  rw [hargs, lg_entry_eq, ← hargs]
  generalize (lg_sl ([.ref a_st, .int p1, .int p2, .int p3]) ++ List.replicate (11 - (lg_sl ([.ref a_st, .int p1, .int p2, .int p3])).length) Slot.unset).toArray = ls at hl ⊢
  replace hl : lv_has ls 11 [(0, .ref a_st), (1, .int p1), (2, .int p2), (3, .int p3)] := hl
  have hRf : ∀ n, n ≤ 5 → n ≤ (headSpec w_X5_firstCode ({ frames := 5, cells := 0, slots := 0, locals := 126 } : Room)).room.frames := fun n h => h
  have hRl : ∀ n, n ≤ 126 → n ≤ (headSpec w_X5_firstCode ({ frames := 5, cells := 0, slots := 0, locals := 126 } : Room)).room.locals := fun n h => h
  generalize (headSpec w_X5_firstCode ({ frames := 5, cells := 0, slots := 0, locals := 126 } : Room)).room = R at hRf hRl ⊢
  generalize hQ : MQ below _ args s 0 0 _ = Q
  have C_104 : ∀ n : Nat, ∀ (va_m : Int64) (va_x : Int32) (va_more : Int32) (va_laid : Int32) (va_below : Int32) (va_settled : Int32) (va_sort : Int32) (p2_lower : Int32) (p2_way : Int32) (p2_more : Int32) (p2_beyond : Int32) (x5 : Int32) (x8 : Int32) (x9 : Int32) (H : Heap) (locs : List Loc) (ls : Array Slot), wp_X5_firstCode_104 post  fl_f fl_bias fl_signBit fl_endless p1 p2 n va_m va_x va_more va_laid va_below va_settled va_sort p2_lower p2_way p2_more p2_beyond x5 x8 x9 → va_P D vwCl [(a_fl, oX1 fl_e fl_f fl_bias fl_codes fl_signBit fl_endless), (a_va, oX6 a_fl a_p2 va_m va_x va_more va_laid va_below va_settled va_sort), (a_p2, oX3 a_fl p2_lower p2_way p2_more p2_beyond), (a_st, oX5 a_fl a_va a_stT a_stB), (a_stB, .inl (cI, 800, .inl stB_r))] H → va_D A [(a_fl, oX1 fl_e fl_f fl_bias fl_codes fl_signBit fl_endless), (a_va, oX6 a_fl a_p2 va_m va_x va_more va_laid va_below va_settled va_sort), (a_p2, oX3 a_fl p2_lower p2_way p2_more p2_beyond), (a_st, oX5 a_fl a_va a_stT a_stB), (a_stB, .inl (cI, 800, .inl stB_r))] → va_S A s.heap H locs → lv_has ls 11 [(0, .ref a_st), (1, .int p1), (2, .int p2), (5, .int x5), (8, .int x8), (9, .int x9)] → W p l e R s m args below meth c H locs 0 0 Q (F0 m 104 ls []) := by
    intro n
    induction n with
    | zero => intro va_m va_x va_more va_laid va_below va_settled va_sort p2_lower p2_way p2_more p2_beyond x5 x8 x9 H locs ls ho hP hD hS hl; exact ho.elim
    | succ n_104 ih_104 =>
      have C_143 : ∀ (va_m : Int64) (va_x : Int32) (va_more : Int32) (va_laid : Int32) (va_below : Int32) (va_settled : Int32) (va_sort : Int32) (p2_lower : Int32) (p2_way : Int32) (p2_more : Int32) (p2_beyond : Int32) (x9 : Int32) (x10 : Int32) (y0 : Int32) (y1 : Int32) (H : Heap) (locs : List Loc) (ls : Array Slot), wp_X5_firstCode_143 post (wp_X5_firstCode_104 post fl_f fl_bias fl_signBit fl_endless p1 p2 n_104) va_m va_x va_more va_laid va_below va_settled va_sort p2_lower p2_way p2_more p2_beyond x9 x10 y0 y1 → va_P D vwCl [(a_fl, oX1 fl_e fl_f fl_bias fl_codes fl_signBit fl_endless), (a_va, oX6 a_fl a_p2 va_m va_x va_more va_laid va_below va_settled va_sort), (a_p2, oX3 a_fl p2_lower p2_way p2_more p2_beyond), (a_st, oX5 a_fl a_va a_stT a_stB), (a_stB, .inl (cI, 800, .inl stB_r))] H → va_D A [(a_fl, oX1 fl_e fl_f fl_bias fl_codes fl_signBit fl_endless), (a_va, oX6 a_fl a_p2 va_m va_x va_more va_laid va_below va_settled va_sort), (a_p2, oX3 a_fl p2_lower p2_way p2_more p2_beyond), (a_st, oX5 a_fl a_va a_stT a_stB), (a_stB, .inl (cI, 800, .inl stB_r))] → va_S A s.heap H locs → lv_has ls 11 [(0, .ref a_st), (1, .int p1), (2, .int p2), (9, .int x9), (10, .int x10)] → W p l e R s m args below meth c H locs 0 0 Q (F0 m 143 ls [.int y0, .int y1]) := by
        intro va_m va_x va_more va_laid va_below va_settled va_sort p2_lower p2_way p2_more p2_beyond x9 x10 y0 y1 H locs ls ho hP hD hS hl
        unfold wp_X5_firstCode_143 at ho
        refine lv_isub hx hb dX5_firstCode_143 ?_
        refine lv_istore (lv' := [(5, .int (y1 - y0)), (0, .ref a_st), (1, .int p1), (2, .int p2), (9, .int x9), (10, .int x10)]) hx hb dX5_firstCode_144 hl (by decide) rfl (fun ls hl => ?_)
        refine lv_iload hx hb dX5_firstCode_146 (lv_at hl 0 rfl) ?_
        refine lv_if_ge (tgt := 154) hx hb dX5_firstCode_148 (by decide) (fun c_148 => ?_) (fun c_148 => ?_)
        · replace ho := ho.1 c_148
          refine lv_iload hx hb dX5_firstCode_154 (lv_at hl 5 rfl) ?_
          refine lv_istore (lv' := [(8, .int x10), (5, .int (y1 - y0)), (0, .ref a_st), (1, .int p1), (2, .int p2), (9, .int x9), (10, .int x10)]) hx hb dX5_firstCode_156 hl (by decide) rfl (fun ls hl => ?_)
          refine lv_iinc (v := (x9 + (1 : Int32))) (lv' := [(9, .int (x9 + (1 : Int32))), (8, .int x10), (5, .int (y1 - y0)), (0, .ref a_st), (1, .int p1), (2, .int p2), (10, .int x10)]) hx hb dX5_firstCode_158 hl (k := 5) rfl rfl (by decide) rfl (fun ls hl => ?_)
          refine lv_goto (tgt := 104) hx hb dX5_firstCode_161 (by decide) ?_
          exact ih_104 va_m va_x va_more va_laid va_below va_settled va_sort p2_lower p2_way p2_more p2_beyond (y1 - y0) x10 (x9 + (1 : Int32)) H locs ls ho hP hD hS (lv_sub hl [3, 4, 5, 2, 1, 0] rfl)
        · replace ho := ho.2 c_148
          refine lv_iload hx hb dX5_firstCode_151 (lv_at hl 4 rfl) ?_
          subst hQ; exact W.iret (v := x9) hx hb hr (fun t ht hW => ⟨⟨x9, (va_m, va_x, va_more, va_laid, va_below, va_settled, va_sort, p2_lower, p2_way, p2_more, p2_beyond), rfl, ho, by rw [ht]; exact hP, hD⟩, hS.F ht⟩) (fun q hq => hS.2.2 q hq) dX5_firstCode_153
      intro va_m va_x va_more va_laid va_below va_settled va_sort p2_lower p2_way p2_more p2_beyond x5 x8 x9 H locs ls ho hP hD hS hl
      replace ho : wp_X5_firstCode_104_b post fl_f fl_bias fl_signBit fl_endless p1 p2 (wp_X5_firstCode_104 post fl_f fl_bias fl_signBit fl_endless p1 p2 n_104) va_m va_x va_more va_laid va_below va_settled va_sort p2_lower p2_way p2_more p2_beyond x5 x8 x9 := ho
      unfold wp_X5_firstCode_104_b at ho
      refine lv_iload hx hb dX5_firstCode_104 (lv_at hl 5 rfl) ?_
      refine lv_aload_n hx hb dX5_firstCode_106 rfl (lv_at hl 0 rfl) ?_
      refine va_get (D := D) (ci := 4) (v := .ref a_fl) (C := RX5) (T := TX5) (N := 4) hx hb hts inlX5 hown hK hP 3 rfl rfl 0 (by decide) (hts _ wl_80) (fun _ h9 => h9) rfl dX5_firstCode_107 ?_
      refine va_getN (D := D) (ci := 1) (v := .int fl_endless) (C := RX1) (T := TX1) (N := 6) hx hb hts inlX1 hown hK hP 0 rfl rfl 5 (by decide) hN.fRX5_42 (fun _ h9 => h9) rfl dX5_firstCode_110 ?_
      refine lv_icmp_ge (tgt := 164) hx hb dX5_firstCode_113 (by decide) (fun c_113 => ?_) (fun c_113 => ?_)
      · replace ho := ho.1 c_113
        refine lv_bipush (v := (-9)) hx hb dX5_firstCode_164 (by decide) ?_
        subst hQ; exact W.iret (v := (-9 : Int32)) hx hb hr (fun t ht hW => ⟨⟨(-9 : Int32), (va_m, va_x, va_more, va_laid, va_below, va_settled, va_sort, p2_lower, p2_way, p2_more, p2_beyond), rfl, ho, by rw [ht]; exact hP, hD⟩, hS.F ht⟩) (fun q hq => hS.2.2 q hq) dX5_firstCode_166
      · replace ho := ho.2 c_113
        refine lv_aload_n hx hb dX5_firstCode_116 rfl (lv_at hl 0 rfl) ?_
        refine va_get (D := D) (ci := 4) (v := .ref a_va) (C := RX5) (T := TX5) (N := 4) hx hb hts inlX5 hown hK hP 3 rfl rfl 1 (by decide) (hts _ wl_81) (fun _ h9 => h9) rfl dX5_firstCode_117 ?_
        refine lv_iload_n hx hb dX5_firstCode_120 rfl (lv_at hl 1 rfl) ?_
        refine lv_iload hx hb dX5_firstCode_121 (lv_at hl 5 rfl) ?_
        refine lv_iload_n hx hb dX5_firstCode_123 rfl (lv_at hl 2 rfl) ?_
        refine ca_Wi (b := a_va) (As := [.int p1, .int x9, .int p2]) (rest := []) (wr := [(a_st, oX5 a_fl a_va a_stT a_stB), (a_stB, .inl (cI, 800, .inl stB_r))]) (wo := fun (u : (Int64) × (Int32) × (Int32) × (Int32) × (Int32) × (Int32) × (Int32) × (Int32) × (Int32) × (Int32) × (Int32)) => [(a_fl, oX1 fl_e fl_f fl_bias fl_codes fl_signBit fl_endless), (a_va, oX6 a_fl a_p2 u.1 u.2.1 u.2.2.1 u.2.2.2.1 u.2.2.2.2.1 u.2.2.2.2.2.1 u.2.2.2.2.2.2.1), (a_p2, oX3 a_fl u.2.2.2.2.2.2.2.1 u.2.2.2.2.2.2.2.2.1 u.2.2.2.2.2.2.2.2.2.1 u.2.2.2.2.2.2.2.2.2.2)]) (wn := fun (u : (Int64) × (Int32) × (Int32) × (Int32) × (Int32) × (Int32) × (Int32) × (Int32) × (Int32) × (Int32) × (Int32)) => [(a_fl, oX1 fl_e fl_f fl_bias fl_codes fl_signBit fl_endless), (a_va, oX6 a_fl a_p2 u.1 u.2.1 u.2.2.1 u.2.2.2.1 u.2.2.2.2.1 u.2.2.2.2.2.1 u.2.2.2.2.2.2.1), (a_p2, oX3 a_fl u.2.2.2.2.2.2.2.1 u.2.2.2.2.2.2.2.2.1 u.2.2.2.2.2.2.2.2.2.1 u.2.2.2.2.2.2.2.2.2.2), (a_st, oX5 a_fl a_va a_stT a_stB), (a_stB, .inl (cI, 800, .inl stB_r))]) ⟨hx, hb, hml, hown, hts⟩ (c_X6_resultAt l D cI cJ cZ a_fl a_va a_p2 H.size fl_e fl_f fl_bias fl_codes fl_signBit fl_endless va_m va_x va_more va_laid va_below va_settled va_sort p2_lower p2_way p2_more p2_beyond p1 x9 p2 _ _ rfl ho) (cwV 3 hts (gdV wl_615 wl_405 wl_406 wl_22 wl_407) rfl rfl rfl (by decide +kernel) ⟨hRf _ (Nat.le_of_ble_eq_true rfl), hRl _ (Nat.le_of_ble_eq_true rfl)⟩) hK hN hP hD hS hA [0, 1, 2] [3, 4] [2, 3, 4, 0, 1] rfl rfl (by decide) (by decide) (by decide) (by decide) (fun _ => rfl) 1 5 rfl rfl rfl rfl hl.1 rfl (Nat.le_of_ble_eq_true rfl) dX5_firstCode_124 ⟨Nat.zero_le _, Nat.zero_le _⟩ (fun r124 u124 H locs ho hP hD hS => ?_)
        obtain ⟨u124_1, u124_2, u124_3, u124_4, u124_5, u124_6, u124_7, u124_8, u124_9, u124_10, u124_11⟩ := u124
        try dsimp only at ho
        replace hP : va_P D vwCl [(a_fl, oX1 fl_e fl_f fl_bias fl_codes fl_signBit fl_endless), (a_va, oX6 a_fl a_p2 u124_1 u124_2 u124_3 u124_4 u124_5 u124_6 u124_7), (a_p2, oX3 a_fl u124_8 u124_9 u124_10 u124_11), (a_st, oX5 a_fl a_va a_stT a_stB), (a_stB, .inl (cI, 800, .inl stB_r))] H := hP
        replace hD : va_D A [(a_fl, oX1 fl_e fl_f fl_bias fl_codes fl_signBit fl_endless), (a_va, oX6 a_fl a_p2 u124_1 u124_2 u124_3 u124_4 u124_5 u124_6 u124_7), (a_p2, oX3 a_fl u124_8 u124_9 u124_10 u124_11), (a_st, oX5 a_fl a_va a_stT a_stB), (a_stB, .inl (cI, 800, .inl stB_r))] := hD
        refine lv_istore (lv' := [(10, .int r124), (0, .ref a_st), (1, .int p1), (2, .int p2), (5, .int x5), (8, .int x8), (9, .int x9)]) hx hb dX5_firstCode_127 hl (by decide) rfl (fun ls hl => ?_)
        refine lv_iload hx hb dX5_firstCode_129 (lv_at hl 4 rfl) ?_
        refine lv_iload hx hb dX5_firstCode_131 (lv_at hl 0 rfl) ?_
        refine lv_iload hx hb dX5_firstCode_133 (lv_at hl 5 rfl) ?_
        refine lv_icmp_ne (tgt := 142) hx hb dX5_firstCode_135 (by decide) (fun c_135 => ?_) (fun c_135 => ?_)
        · replace ho := ho.1 c_135
          refine lv_iconst (v := 1) hx hb dX5_firstCode_142 (by decide) ?_
          exact C_143 u124_1 u124_2 u124_3 u124_4 u124_5 u124_6 u124_7 u124_8 u124_9 u124_10 u124_11 x9 r124 (1 : Int32) x5 H locs ls ho hP hD hS (lv_sub hl [1, 2, 3, 6, 0] rfl)
        · replace ho := ho.2 c_135
          refine lv_iconst (v := 0) hx hb dX5_firstCode_138 (by decide) ?_
          refine lv_goto (tgt := 143) hx hb dX5_firstCode_139 (by decide) ?_
          exact C_143 u124_1 u124_2 u124_3 u124_4 u124_5 u124_6 u124_7 u124_8 u124_9 u124_10 u124_11 x9 r124 (0 : Int32) x5 H locs ls ho hP hD hS (lv_sub hl [1, 2, 3, 6, 0] rfl)
  have C_98 : ∀ (va_m : Int64) (va_x : Int32) (va_more : Int32) (va_laid : Int32) (va_below : Int32) (va_settled : Int32) (va_sort : Int32) (p2_lower : Int32) (p2_way : Int32) (p2_more : Int32) (p2_beyond : Int32) (x5 : Int32) (x7 : Int32) (y0 : Int32) (H : Heap) (locs : List Loc) (ls : Array Slot), wp_X5_firstCode_98 post  fl_f fl_bias fl_signBit fl_endless va_m va_x va_more va_laid va_below va_settled va_sort p2_lower p2_way p2_more p2_beyond p1 p2 x5 x7 y0 → va_P D vwCl [(a_fl, oX1 fl_e fl_f fl_bias fl_codes fl_signBit fl_endless), (a_va, oX6 a_fl a_p2 va_m va_x va_more va_laid va_below va_settled va_sort), (a_p2, oX3 a_fl p2_lower p2_way p2_more p2_beyond), (a_st, oX5 a_fl a_va a_stT a_stB), (a_stB, .inl (cI, 800, .inl stB_r))] H → va_D A [(a_fl, oX1 fl_e fl_f fl_bias fl_codes fl_signBit fl_endless), (a_va, oX6 a_fl a_p2 va_m va_x va_more va_laid va_below va_settled va_sort), (a_p2, oX3 a_fl p2_lower p2_way p2_more p2_beyond), (a_st, oX5 a_fl a_va a_stT a_stB), (a_stB, .inl (cI, 800, .inl stB_r))] → va_S A s.heap H locs → lv_has ls 11 [(0, .ref a_st), (1, .int p1), (2, .int p2), (5, .int x5), (7, .int x7)] → W p l e R s m args below meth c H locs 0 0 Q (F0 m 98 ls [.int y0]) := by
    intro va_m va_x va_more va_laid va_below va_settled va_sort p2_lower p2_way p2_more p2_beyond x5 x7 y0 H locs ls ho hP hD hS hl
    unfold wp_X5_firstCode_98 at ho
    refine lv_istore (lv' := [(8, .int y0), (0, .ref a_st), (1, .int p1), (2, .int p2), (5, .int x5), (7, .int x7)]) hx hb dX5_firstCode_98 hl (by decide) rfl (fun ls hl => ?_)
    refine lv_iload hx hb dX5_firstCode_100 (lv_at hl 5 rfl) ?_
    refine lv_istore (lv' := [(9, .int x7), (8, .int y0), (0, .ref a_st), (1, .int p1), (2, .int p2), (5, .int x5), (7, .int x7)]) hx hb dX5_firstCode_102 hl (by decide) rfl (fun ls hl => ?_)
    obtain ⟨n_104, ho⟩ := ho
    exact C_104 n_104 va_m va_x va_more va_laid va_below va_settled va_sort p2_lower p2_way p2_more p2_beyond x5 y0 x7 H locs ls ho hP hD hS (lv_sub hl [2, 3, 4, 5, 1, 0] rfl)
  have C_63 : ∀ (va_m : Int64) (va_x : Int32) (va_more : Int32) (va_laid : Int32) (va_below : Int32) (va_settled : Int32) (va_sort : Int32) (p2_lower : Int32) (p2_way : Int32) (p2_more : Int32) (p2_beyond : Int32) (x5 : Int32) (x6 : Int32) (H : Heap) (locs : List Loc) (ls : Array Slot), wp_X5_firstCode_63 post  fl_f fl_bias fl_signBit fl_endless va_m va_x va_more va_laid va_below va_settled va_sort p2_lower p2_way p2_more p2_beyond p1 p2 x5 x6 → va_P D vwCl [(a_fl, oX1 fl_e fl_f fl_bias fl_codes fl_signBit fl_endless), (a_va, oX6 a_fl a_p2 va_m va_x va_more va_laid va_below va_settled va_sort), (a_p2, oX3 a_fl p2_lower p2_way p2_more p2_beyond), (a_st, oX5 a_fl a_va a_stT a_stB), (a_stB, .inl (cI, 800, .inl stB_r))] H → va_D A [(a_fl, oX1 fl_e fl_f fl_bias fl_codes fl_signBit fl_endless), (a_va, oX6 a_fl a_p2 va_m va_x va_more va_laid va_below va_settled va_sort), (a_p2, oX3 a_fl p2_lower p2_way p2_more p2_beyond), (a_st, oX5 a_fl a_va a_stT a_stB), (a_stB, .inl (cI, 800, .inl stB_r))] → va_S A s.heap H locs → lv_has ls 11 [(0, .ref a_st), (1, .int p1), (2, .int p2), (5, .int x5), (6, .int x6)] → W p l e R s m args below meth c H locs 0 0 Q (F0 m 63 ls []) := by
    intro va_m va_x va_more va_laid va_below va_settled va_sort p2_lower p2_way p2_more p2_beyond x5 x6 H locs ls ho hP hD hS hl
    unfold wp_X5_firstCode_63 at ho
    refine lv_iload hx hb dX5_firstCode_63 (lv_at hl 4 rfl) ?_
    refine lv_bipush (v := 8) hx hb dX5_firstCode_65 (by decide) ?_
    refine lv_ishl hx hb dX5_firstCode_67 ?_
    refine lv_iconst (v := 1) hx hb dX5_firstCode_68 (by decide) ?_
    refine va_mmax hx hb (hml.trans hl.1.symm) hown (hts _ wl_637) (hts _ wl_243) (hts _ wl_244) (hts _ wl_245) (hRf 1 (Nat.le_of_ble_eq_true rfl)) (hRl _ (Nat.le_of_ble_eq_true rfl)) (Nat.zero_le _) (Nat.zero_le _) dX5_firstCode_69 ?_
    refine lv_istore (lv' := [(7, .int (if (x6 <<< ((8 : Int32) &&& 31)) < (1 : Int32) then (1 : Int32) else (x6 <<< ((8 : Int32) &&& 31)))), (0, .ref a_st), (1, .int p1), (2, .int p2), (5, .int x5), (6, .int x6)]) hx hb dX5_firstCode_72 hl (by decide) rfl (fun ls hl => ?_)
    refine lv_iload hx hb dX5_firstCode_74 (lv_at hl 0 rfl) ?_
    refine lv_iconst (v := 1) hx hb dX5_firstCode_76 (by decide) ?_
    refine lv_icmp_ne (tgt := 85) hx hb dX5_firstCode_77 (by decide) (fun c_77 => ?_) (fun c_77 => ?_)
    · replace ho := ho.1 c_77
      refine lv_aload_n hx hb dX5_firstCode_85 rfl (lv_at hl 1 rfl) ?_
      refine va_get (D := D) (ci := 4) (v := .ref a_va) (C := RX5) (T := TX5) (N := 4) hx hb hts inlX5 hown hK hP 3 rfl rfl 1 (by decide) (hts _ wl_81) (fun _ h9 => h9) rfl dX5_firstCode_86 ?_
      refine lv_iload_n hx hb dX5_firstCode_89 rfl (lv_at hl 2 rfl) ?_
      refine lv_iload hx hb dX5_firstCode_90 (lv_at hl 0 rfl) ?_
      refine lv_iconst (v := 1) hx hb dX5_firstCode_92 (by decide) ?_
      refine lv_isub hx hb dX5_firstCode_93 ?_
      refine lv_iload_n hx hb dX5_firstCode_94 rfl (lv_at hl 3 rfl) ?_
      refine ca_Wi (b := a_va) (As := [.int p1, .int ((if (x6 <<< ((8 : Int32) &&& 31)) < (1 : Int32) then (1 : Int32) else (x6 <<< ((8 : Int32) &&& 31))) - (1 : Int32)), .int p2]) (rest := []) (wr := [(a_st, oX5 a_fl a_va a_stT a_stB), (a_stB, .inl (cI, 800, .inl stB_r))]) (wo := fun (u : (Int64) × (Int32) × (Int32) × (Int32) × (Int32) × (Int32) × (Int32) × (Int32) × (Int32) × (Int32) × (Int32)) => [(a_fl, oX1 fl_e fl_f fl_bias fl_codes fl_signBit fl_endless), (a_va, oX6 a_fl a_p2 u.1 u.2.1 u.2.2.1 u.2.2.2.1 u.2.2.2.2.1 u.2.2.2.2.2.1 u.2.2.2.2.2.2.1), (a_p2, oX3 a_fl u.2.2.2.2.2.2.2.1 u.2.2.2.2.2.2.2.2.1 u.2.2.2.2.2.2.2.2.2.1 u.2.2.2.2.2.2.2.2.2.2)]) (wn := fun (u : (Int64) × (Int32) × (Int32) × (Int32) × (Int32) × (Int32) × (Int32) × (Int32) × (Int32) × (Int32) × (Int32)) => [(a_fl, oX1 fl_e fl_f fl_bias fl_codes fl_signBit fl_endless), (a_va, oX6 a_fl a_p2 u.1 u.2.1 u.2.2.1 u.2.2.2.1 u.2.2.2.2.1 u.2.2.2.2.2.1 u.2.2.2.2.2.2.1), (a_p2, oX3 a_fl u.2.2.2.2.2.2.2.1 u.2.2.2.2.2.2.2.2.1 u.2.2.2.2.2.2.2.2.2.1 u.2.2.2.2.2.2.2.2.2.2), (a_st, oX5 a_fl a_va a_stT a_stB), (a_stB, .inl (cI, 800, .inl stB_r))]) ⟨hx, hb, hml, hown, hts⟩ (c_X6_resultAt l D cI cJ cZ a_fl a_va a_p2 H.size fl_e fl_f fl_bias fl_codes fl_signBit fl_endless va_m va_x va_more va_laid va_below va_settled va_sort p2_lower p2_way p2_more p2_beyond p1 ((if (x6 <<< ((8 : Int32) &&& 31)) < (1 : Int32) then (1 : Int32) else (x6 <<< ((8 : Int32) &&& 31))) - (1 : Int32)) p2 _ _ rfl ho) (cwV 3 hts (gdV wl_615 wl_405 wl_406 wl_22 wl_407) rfl rfl rfl (by decide +kernel) ⟨hRf _ (Nat.le_of_ble_eq_true rfl), hRl _ (Nat.le_of_ble_eq_true rfl)⟩) hK hN hP hD hS hA [0, 1, 2] [3, 4] [2, 3, 4, 0, 1] rfl rfl (by decide) (by decide) (by decide) (by decide) (fun _ => rfl) 1 5 rfl rfl rfl rfl hl.1 rfl (Nat.le_of_ble_eq_true rfl) dX5_firstCode_95 ⟨Nat.zero_le _, Nat.zero_le _⟩ (fun r95 u95 H locs ho hP hD hS => ?_)
      obtain ⟨u95_1, u95_2, u95_3, u95_4, u95_5, u95_6, u95_7, u95_8, u95_9, u95_10, u95_11⟩ := u95
      try dsimp only at ho
      replace hP : va_P D vwCl [(a_fl, oX1 fl_e fl_f fl_bias fl_codes fl_signBit fl_endless), (a_va, oX6 a_fl a_p2 u95_1 u95_2 u95_3 u95_4 u95_5 u95_6 u95_7), (a_p2, oX3 a_fl u95_8 u95_9 u95_10 u95_11), (a_st, oX5 a_fl a_va a_stT a_stB), (a_stB, .inl (cI, 800, .inl stB_r))] H := hP
      replace hD : va_D A [(a_fl, oX1 fl_e fl_f fl_bias fl_codes fl_signBit fl_endless), (a_va, oX6 a_fl a_p2 u95_1 u95_2 u95_3 u95_4 u95_5 u95_6 u95_7), (a_p2, oX3 a_fl u95_8 u95_9 u95_10 u95_11), (a_st, oX5 a_fl a_va a_stT a_stB), (a_stB, .inl (cI, 800, .inl stB_r))] := hD
      exact C_98 u95_1 u95_2 u95_3 u95_4 u95_5 u95_6 u95_7 u95_8 u95_9 u95_10 u95_11 x5 (if (x6 <<< ((8 : Int32) &&& 31)) < (1 : Int32) then (1 : Int32) else (x6 <<< ((8 : Int32) &&& 31))) r95 H locs ls ho hP hD hS (lv_sub hl [1, 2, 3, 4, 0] rfl)
    · replace ho := ho.2 c_77
      refine lv_bipush (v := (-9)) hx hb dX5_firstCode_80 (by decide) ?_
      refine lv_goto (tgt := 98) hx hb dX5_firstCode_82 (by decide) ?_
      exact C_98 va_m va_x va_more va_laid va_below va_settled va_sort p2_lower p2_way p2_more p2_beyond x5 (if (x6 <<< ((8 : Int32) &&& 31)) < (1 : Int32) then (1 : Int32) else (x6 <<< ((8 : Int32) &&& 31))) (-9 : Int32) H locs ls ho hP hD hS (lv_sub hl [1, 2, 3, 4, 0] rfl)
  have C_16 : ∀ n : Nat, ∀ (va_m : Int64) (va_x : Int32) (va_more : Int32) (va_laid : Int32) (va_below : Int32) (va_settled : Int32) (va_sort : Int32) (p2_lower : Int32) (p2_way : Int32) (p2_more : Int32) (p2_beyond : Int32) (x4 : Int32) (x5 : Int32) (x6 : Int32) (H : Heap) (locs : List Loc) (ls : Array Slot), wp_X5_firstCode_16 post  fl_f fl_bias fl_signBit fl_endless stB_r p1 p2 n va_m va_x va_more va_laid va_below va_settled va_sort p2_lower p2_way p2_more p2_beyond x4 x5 x6 → va_P D vwCl [(a_fl, oX1 fl_e fl_f fl_bias fl_codes fl_signBit fl_endless), (a_va, oX6 a_fl a_p2 va_m va_x va_more va_laid va_below va_settled va_sort), (a_p2, oX3 a_fl p2_lower p2_way p2_more p2_beyond), (a_st, oX5 a_fl a_va a_stT a_stB), (a_stB, .inl (cI, 800, .inl stB_r))] H → va_D A [(a_fl, oX1 fl_e fl_f fl_bias fl_codes fl_signBit fl_endless), (a_va, oX6 a_fl a_p2 va_m va_x va_more va_laid va_below va_settled va_sort), (a_p2, oX3 a_fl p2_lower p2_way p2_more p2_beyond), (a_st, oX5 a_fl a_va a_stT a_stB), (a_stB, .inl (cI, 800, .inl stB_r))] → va_S A s.heap H locs → lv_has ls 11 [(0, .ref a_st), (1, .int p1), (2, .int p2), (4, .int x4), (5, .int x5), (6, .int x6)] → W p l e R s m args below meth c H locs 0 0 Q (F0 m 16 ls []) := by
    intro n
    induction n with
    | zero => intro va_m va_x va_more va_laid va_below va_settled va_sort p2_lower p2_way p2_more p2_beyond x4 x5 x6 H locs ls ho hP hD hS hl; exact ho.elim
    | succ n_16 ih_16 =>
      intro va_m va_x va_more va_laid va_below va_settled va_sort p2_lower p2_way p2_more p2_beyond x4 x5 x6 H locs ls ho hP hD hS hl
      replace ho : wp_X5_firstCode_16_b post fl_f fl_bias fl_signBit fl_endless stB_r p1 p2 (wp_X5_firstCode_16 post fl_f fl_bias fl_signBit fl_endless stB_r p1 p2 n_16) va_m va_x va_more va_laid va_below va_settled va_sort p2_lower p2_way p2_more p2_beyond x4 x5 x6 := ho
      unfold wp_X5_firstCode_16_b at ho
      refine lv_iload hx hb dX5_firstCode_16 (lv_at hl 5 rfl) ?_
      refine lv_bipush (v := 32) hx hb dX5_firstCode_18 (by decide) ?_
      refine lv_icmp_ge (tgt := 63) hx hb dX5_firstCode_20 (by decide) (fun c_20 => ?_) (fun c_20 => ?_)
      · replace ho := ho.1 c_20
        exact C_63 va_m va_x va_more va_laid va_below va_settled va_sort p2_lower p2_way p2_more p2_beyond x5 x6 H locs ls ho hP hD hS (lv_sub hl [0, 1, 2, 4, 5] rfl)
      · replace ho := ho.2 c_20
        refine lv_iload hx hb dX5_firstCode_23 (lv_at hl 4 rfl) ?_
        refine lv_aload_n hx hb dX5_firstCode_25 rfl (lv_at hl 0 rfl) ?_
        refine va_get (D := D) (ci := 4) (v := .ref a_stB) (C := RX5) (T := TX5) (N := 4) hx hb hts inlX5 hown hK hP 3 rfl rfl 3 (by decide) (hts _ wl_83) (fun _ h9 => h9) rfl dX5_firstCode_26 ?_
        refine lv_iload hx hb dX5_firstCode_29 (lv_at hl 3 rfl) ?_
        refine lv_iload hx hb dX5_firstCode_31 (lv_at hl 5 rfl) ?_
        refine lv_iadd hx hb dX5_firstCode_33 ?_
        refine ca_Si (As := [.ref a_stB, .int (x4 + x6)]) (rest := [.int x5]) ⟨hx, hb, hml, hown, hts⟩ (c_X4_at l D cI cJ cZ a_stB 800 stB_r (x4 + x6) _ ho) (va_cwS 2 hts (gdS wl_614 wl_137 wl_134 wl_138) rfl rfl rfl (by decide +kernel) ⟨hRf _ (Nat.le_of_ble_eq_true rfl), hRl _ (Nat.le_of_ble_eq_true rfl)⟩) hK hN hP [4] rfl rfl hl.1 rfl (Nat.le_of_ble_eq_true rfl) dX5_firstCode_34 ⟨Nat.zero_le _, Nat.zero_le _⟩ (fun r34 ho => ?_)
        refine lv_icmp_lt (tgt := 63) hx hb dX5_firstCode_37 (by decide) (fun c_37 => ?_) (fun c_37 => ?_)
        · replace ho := ho.1 c_37
          exact C_63 va_m va_x va_more va_laid va_below va_settled va_sort p2_lower p2_way p2_more p2_beyond x5 x6 H locs ls ho hP hD hS (lv_sub hl [0, 1, 2, 4, 5] rfl)
        · replace ho := ho.2 c_37
          refine lv_iload hx hb dX5_firstCode_40 (lv_at hl 4 rfl) ?_
          refine lv_aload_n hx hb dX5_firstCode_42 rfl (lv_at hl 0 rfl) ?_
          refine va_get (D := D) (ci := 4) (v := .ref a_stB) (C := RX5) (T := TX5) (N := 4) hx hb hts inlX5 hown hK hP 3 rfl rfl 3 (by decide) (hts _ wl_83) (fun _ h9 => h9) rfl dX5_firstCode_43 ?_
          refine lv_iload hx hb dX5_firstCode_46 (lv_at hl 3 rfl) ?_
          refine lv_iload hx hb dX5_firstCode_48 (lv_at hl 5 rfl) ?_
          refine lv_iadd hx hb dX5_firstCode_50 ?_
          refine ca_Si (As := [.ref a_stB, .int (x4 + x6)]) (rest := [.int x5]) ⟨hx, hb, hml, hown, hts⟩ (c_X4_at l D cI cJ cZ a_stB 800 stB_r (x4 + x6) _ ho) (va_cwS 2 hts (gdS wl_614 wl_137 wl_134 wl_138) rfl rfl rfl (by decide +kernel) ⟨hRf _ (Nat.le_of_ble_eq_true rfl), hRl _ (Nat.le_of_ble_eq_true rfl)⟩) hK hN hP [4] rfl rfl hl.1 rfl (Nat.le_of_ble_eq_true rfl) dX5_firstCode_51 ⟨Nat.zero_le _, Nat.zero_le _⟩ (fun r51 ho => ?_)
          refine lv_isub hx hb dX5_firstCode_54 ?_
          refine lv_istore (lv' := [(5, .int (x5 - r51)), (0, .ref a_st), (1, .int p1), (2, .int p2), (4, .int x4), (6, .int x6)]) hx hb dX5_firstCode_55 hl (by decide) rfl (fun ls hl => ?_)
          refine lv_iinc (v := (x6 + (1 : Int32))) (lv' := [(6, .int (x6 + (1 : Int32))), (5, .int (x5 - r51)), (0, .ref a_st), (1, .int p1), (2, .int p2), (4, .int x4)]) hx hb dX5_firstCode_57 hl (k := 5) rfl rfl (by decide) rfl (fun ls hl => ?_)
          refine lv_goto (tgt := 16) hx hb dX5_firstCode_60 (by decide) ?_
          exact ih_16 va_m va_x va_more va_laid va_below va_settled va_sort p2_lower p2_way p2_more p2_beyond x4 (x5 - r51) (x6 + (1 : Int32)) H locs ls ho hP hD hS (lv_sub hl [2, 3, 4, 5, 1, 0] rfl)
  suffices main : ∀ (H : Heap) (locs : List Loc), va_P D vwCl [(a_fl, oX1 fl_e fl_f fl_bias fl_codes fl_signBit fl_endless), (a_va, oX6 a_fl a_p2 va_m va_x va_more va_laid va_below va_settled va_sort), (a_p2, oX3 a_fl p2_lower p2_way p2_more p2_beyond), (a_st, oX5 a_fl a_va a_stT a_stB), (a_stB, .inl (cI, 800, .inl stB_r))] H → va_S A s.heap H locs → W p l e R s m args below meth c H locs 0 0 Q (F0 m 0 ls []) from main _ _ hP hS
  intro H locs hP hS
  unfold wp_X5_firstCode at ho
  refine lv_iload_n hx hb dX5_firstCode_0 rfl (lv_at hl 1 rfl) ?_
  refine lv_iconst (v := 5) hx hb dX5_firstCode_1 (by decide) ?_
  refine lv_imul hx hb dX5_firstCode_2 ?_
  refine lv_iload_n hx hb dX5_firstCode_3 rfl (lv_at hl 2 rfl) ?_
  refine lv_iadd hx hb dX5_firstCode_4 ?_
  refine lv_bipush (v := 32) hx hb dX5_firstCode_5 (by decide) ?_
  refine lv_imul hx hb dX5_firstCode_7 ?_
  refine lv_istore (lv' := [(4, .int (((p1 * (5 : Int32)) + p2) * (32 : Int32))), (0, .ref a_st), (1, .int p1), (2, .int p2), (3, .int p3)]) hx hb dX5_firstCode_8 hl (by decide) rfl (fun ls hl => ?_)
  refine lv_iload_n hx hb dX5_firstCode_10 rfl (lv_at hl 4 rfl) ?_
  refine lv_istore (lv' := [(5, .int p3), (4, .int (((p1 * (5 : Int32)) + p2) * (32 : Int32))), (0, .ref a_st), (1, .int p1), (2, .int p2), (3, .int p3)]) hx hb dX5_firstCode_11 hl (by decide) rfl (fun ls hl => ?_)
  refine lv_iconst (v := 0) hx hb dX5_firstCode_13 (by decide) ?_
  refine lv_istore (lv' := [(6, .int (0 : Int32)), (5, .int p3), (4, .int (((p1 * (5 : Int32)) + p2) * (32 : Int32))), (0, .ref a_st), (1, .int p1), (2, .int p2), (3, .int p3)]) hx hb dX5_firstCode_14 hl (by decide) rfl (fun ls hl => ?_)
  obtain ⟨n_16, ho⟩ := ho
  exact C_16 n_16 va_m va_x va_more va_laid va_below va_settled va_sort p2_lower p2_way p2_more p2_beyond (((p1 * (5 : Int32)) + p2) * (32 : Int32)) p3 (0 : Int32) H locs ls ho hP hD hS (lv_sub hl [3, 4, 5, 2, 1, 0] rfl)
