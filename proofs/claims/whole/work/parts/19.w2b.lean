def w_X2_narrow : List Cond := .code yX2_narrow cX2_narrow 12 (some .boolean) :: wsL_law
set_option maxHeartbeats 4000000 in
set_option maxRecDepth 100000 in
theorem c_X2_narrow (l : Launch) (D : va_G) (cI cJ cZ : ClassId) (a_fl : Nat) (a_va : Nat) (a_li : Nat) (a_liD : Nat) (a_liF : Nat) (a_liA : Nat) (a_liB : Nat) (sz : Nat) (li_parts : Int32) (li_s : Int32) (li_least : Int64) (li_greatest : Int64) (liD_r : Nat → Int32) (p1 : Int32) (p2 : Int32) (post : Int32 → Int64 → Int64 → Prop) (A : Nat → Prop) (hAe : A = va_A [(a_li, oX2 a_fl a_va a_liD a_liF a_liA a_liB li_parts li_s li_least li_greatest), (a_liD, .inl (cI, 256, .inl liD_r))] sz) (ho : wp_X2_narrow post li_s li_least li_greatest liD_r p1 p2) : Met l yX2_narrow w_X2_narrow ({ frames := 2, cells := 0, slots := 0, locals := 48 } : Room) (rw_P D [(cI, .int), (cJ, .long), (cZ, .boolean)] [.ref a_li, .int p1, .int p2] sz [(a_li, oX2 a_fl a_va a_liD a_liF a_liA a_liB li_parts li_s li_least li_greatest), (a_liD, .inl (cI, 256, .inl liD_r))]) (va_Qi (fun (r : Int32) (u : (Int64) × (Int64)) => post r u.1 u.2) (rw_B D A (fun (u : (Int64) × (Int64)) => [(a_li, oX2 a_fl a_va a_liD a_liF a_liA a_liB li_parts li_s u.1 u.2), (a_liD, .inl (cI, 256, .inl liD_r))])) A) 0 0 A := by
  refine Met.ofW (cc := cX2_narrow) (maxL := 12) (ret := (some .boolean)) (by decide) rfl ?_
  intro p e s m args below meth c s₁ B hml hv
  obtain ⟨hargs, hsz, hP, hK, hN, hD0⟩ := hv
  have hx := B.exec
  have hb := B.bytes
  have hr := B.returns
  have hts : ∀ w ∈ wsL_law, w.before args s = true := fun w h => atoms_spec (ws := w_X2_narrow) B.pre w (List.mem_cons_of_mem _ h)
  have hown : s.vm.findClass RX2 = some m.cls := findClass_of_methodNamed B.named
  have hlocks := B.notSynchronized
  subst hsz
  have hD : va_D A [(a_li, oX2 a_fl a_va a_liD a_liF a_liA a_liB li_parts li_s li_least li_greatest), (a_liD, .inl (cI, 256, .inl liD_r))] := by rw [hAe]; exact hD0.self
  have hA : ∀ q : Nat, s.heap.size ≤ q → A q := fun q h => by rw [hAe]; exact Or.inr h
  have hS : va_S A s.heap s.heap [] := va_S.rf
  have hl := lv_entry ([.ref a_li, .int p1, .int p2]) (n := 12) (Nat.le_of_ble_eq_true rfl)
  rw [hargs, lg_entry_eq, ← hargs]
  generalize (lg_sl ([.ref a_li, .int p1, .int p2]) ++ List.replicate (12 - (lg_sl ([.ref a_li, .int p1, .int p2])).length) Slot.unset).toArray = ls at hl ⊢
  replace hl : lv_has ls 12 [(0, .ref a_li), (1, .int p1), (2, .int p2)] := hl
  have hRf : ∀ n, n ≤ 2 → n ≤ (headSpec w_X2_narrow ({ frames := 2, cells := 0, slots := 0, locals := 48 } : Room)).room.frames := fun n h => h
  have hRl : ∀ n, n ≤ 48 → n ≤ (headSpec w_X2_narrow ({ frames := 2, cells := 0, slots := 0, locals := 48 } : Room)).room.locals := fun n h => h
  generalize (headSpec w_X2_narrow ({ frames := 2, cells := 0, slots := 0, locals := 48 } : Room)).room = R at hRf hRl ⊢
  generalize hQ : MQ below _ args s 0 0 _ = Q
  have C_22 : ∀ n : Nat, ∀ (li_least : Int64) (li_greatest : Int64) (x3 : Int64) (x5 : Int64) (x7 : Int64) (x9 : Int32) (H : Heap) (locs : List Loc) (ls : Array Slot), wp_X2_narrow_22 post  liD_r p2 n li_least li_greatest x3 x5 x7 x9 → va_P D vwCl [(a_li, oX2 a_fl a_va a_liD a_liF a_liA a_liB li_parts li_s li_least li_greatest), (a_liD, .inl (cI, 256, .inl liD_r))] H → va_D A [(a_li, oX2 a_fl a_va a_liD a_liF a_liA a_liB li_parts li_s li_least li_greatest), (a_liD, .inl (cI, 256, .inl liD_r))] → va_S A s.heap H locs → lv_has ls 12 [(0, .ref a_li), (2, .int p2), (3, .long x3), (5, .long x5), (7, .long x7), (9, .int x9)] → W p l e R s m args below meth c H locs 0 0 Q (F0 m 22 ls []) := by
    intro n
    induction n with
    | zero => intro li_least li_greatest x3 x5 x7 x9 H locs ls ho hP hD hS hl; exact ho.elim
    | succ n_22 ih_22 =>
      intro li_least li_greatest x3 x5 x7 x9 H locs ls ho hP hD hS hl
      replace ho : wp_X2_narrow_22_b post liD_r p2 (wp_X2_narrow_22 post liD_r p2 n_22) li_least li_greatest x3 x5 x7 x9 := ho
      unfold wp_X2_narrow_22_b at ho
      refine lv_iload hx hb dX2_narrow_22 (lv_at hl 5 rfl) ?_
      refine lv_iload_n hx hb dX2_narrow_24 rfl (lv_at hl 1 rfl) ?_
      refine lv_icmp_ge (tgt := 100) hx hb dX2_narrow_25 (by decide) (fun c_25 => ?_) (fun c_25 => ?_)
      · replace ho := ho.1 c_25
        refine lv_lload hx hb dX2_narrow_100 (lv_at hl 3 rfl) ?_
        refine lv_lload hx hb dX2_narrow_102 (lv_at hl 4 rfl) ?_
        refine W.lcmp hx hb dX2_narrow_104 ?_
        refine lv_if_le (tgt := 110) hx hb dX2_narrow_105 (by decide) (fun c_105 => ?_) (fun c_105 => ?_)
        · replace ho := ho.1 c_105
          refine lv_aload_n hx hb dX2_narrow_110 rfl (lv_at hl 0 rfl) ?_
          refine lv_lload hx hb dX2_narrow_111 (lv_at hl 3 rfl) ?_
          refine va_put (D := D) (ci := 2) (v := .long x5) (ty := .long) (C := RX2) (T := TX2) (N := 10) hx hb hts inlX2 tyX2 tyX2_ok nmX2 hown hK hP hD hS 0 rfl rfl 8 (by decide) (hts _ wl_671) (fun _ h9 => h9) rfl (by decide +kernel) rfl rfl (Nat.le_of_ble_eq_true rfl) dX2_narrow_113 (fun H locs hP hD hS => ?_)
          replace hP : va_P D vwCl [(a_li, oX2 a_fl a_va a_liD a_liF a_liA a_liB li_parts li_s x5 li_greatest), (a_liD, .inl (cI, 256, .inl liD_r))] H := hP
          replace hD : va_D A [(a_li, oX2 a_fl a_va a_liD a_liF a_liA a_liB li_parts li_s x5 li_greatest), (a_liD, .inl (cI, 256, .inl liD_r))] := hD
          refine lv_aload_n hx hb dX2_narrow_116 rfl (lv_at hl 0 rfl) ?_
          refine lv_lload hx hb dX2_narrow_117 (lv_at hl 4 rfl) ?_
          refine va_put (D := D) (ci := 2) (v := .long x7) (ty := .long) (C := RX2) (T := TX2) (N := 10) hx hb hts inlX2 tyX2 tyX2_ok nmX2 hown hK hP hD hS 0 rfl rfl 9 (by decide) (hts _ wl_673) (fun _ h9 => h9) rfl (by decide +kernel) rfl rfl (Nat.le_of_ble_eq_true rfl) dX2_narrow_119 (fun H locs hP hD hS => ?_)
          replace hP : va_P D vwCl [(a_li, oX2 a_fl a_va a_liD a_liF a_liA a_liB li_parts li_s x5 x7), (a_liD, .inl (cI, 256, .inl liD_r))] H := hP
          replace hD : va_D A [(a_li, oX2 a_fl a_va a_liD a_liF a_liA a_liB li_parts li_s x5 x7), (a_liD, .inl (cI, 256, .inl liD_r))] := hD
          refine lv_iconst (v := 1) hx hb dX2_narrow_122 (by decide) ?_
          subst hQ; exact W.zret (v := (1 : Int32)) hx hb hr rfl (fun t ht hW => ⟨⟨(1 : Int32), (x5, x7), rfl, ho, by rw [ht]; exact hP, hD⟩, hS.F ht⟩) (fun q hq => hS.2.2 q hq) dX2_narrow_123
        · replace ho := ho.2 c_105
          refine lv_iconst (v := 0) hx hb dX2_narrow_108 (by decide) ?_
          subst hQ; exact W.zret (v := (0 : Int32)) hx hb hr rfl (fun t ht hW => ⟨⟨(0 : Int32), (li_least, li_greatest), rfl, ho, by rw [ht]; exact hP, hD⟩, hS.F ht⟩) (fun q hq => hS.2.2 q hq) dX2_narrow_109
      · replace ho := ho.2 c_25
        refine lv_aload_n hx hb dX2_narrow_28 rfl (lv_at hl 0 rfl) ?_
        refine va_get (D := D) (ci := 2) (v := .ref a_liD) (C := RX2) (T := TX2) (N := 10) hx hb hts inlX2 hown hK hP 0 rfl rfl 2 (by decide) (hts _ wl_90) (fun _ h9 => h9) rfl dX2_narrow_29 ?_
        refine lv_iload_n hx hb dX2_narrow_32 rfl (lv_at hl 1 rfl) ?_
        refine ca_Si (As := [.ref a_liD, .int p2]) (rest := []) ⟨hx, hb, hml, hown, hts⟩ (c_X4_at l D cI cJ cZ a_liD 256 liD_r p2 _ ho) (va_cwS 2 hts (gdS wl_684 wl_137 wl_134 wl_138) rfl rfl rfl (by decide +kernel) ⟨hRf _ (Nat.le_of_ble_eq_true rfl), hRl _ (Nat.le_of_ble_eq_true rfl)⟩) hK hN hP [1] rfl rfl hl.1 rfl (Nat.le_of_ble_eq_true rfl) dX2_narrow_33 ⟨Nat.zero_le _, Nat.zero_le _⟩ (fun r33 ho => ?_)
        refine lv_aload_n hx hb dX2_narrow_36 rfl (lv_at hl 0 rfl) ?_
        refine va_get (D := D) (ci := 2) (v := .ref a_liD) (C := RX2) (T := TX2) (N := 10) hx hb hts inlX2 hown hK hP 0 rfl rfl 2 (by decide) (hts _ wl_90) (fun _ h9 => h9) rfl dX2_narrow_37 ?_
        refine lv_iload hx hb dX2_narrow_40 (lv_at hl 5 rfl) ?_
        refine ca_Si (As := [.ref a_liD, .int x9]) (rest := [.int r33]) ⟨hx, hb, hml, hown, hts⟩ (c_X4_at l D cI cJ cZ a_liD 256 liD_r x9 _ ho) (va_cwS 2 hts (gdS wl_684 wl_137 wl_134 wl_138) rfl rfl rfl (by decide +kernel) ⟨hRf _ (Nat.le_of_ble_eq_true rfl), hRl _ (Nat.le_of_ble_eq_true rfl)⟩) hK hN hP [1] rfl rfl hl.1 rfl (Nat.le_of_ble_eq_true rfl) dX2_narrow_42 ⟨Nat.zero_le _, Nat.zero_le _⟩ (fun r42 ho => ?_)
        refine lv_isub hx hb dX2_narrow_45 ?_
        refine lv_i2l hx hb dX2_narrow_46 rfl ?_
        refine lv_lload_n hx hb dX2_narrow_47 rfl (lv_at hl 2 rfl) ?_
        refine lv_lmul hx hb dX2_narrow_48 ?_
        refine lv_lstore (lv' := [(10, .long (((r33 - r42).toInt64) * x3)), (0, .ref a_li), (2, .int p2), (3, .long x3), (5, .long x5), (7, .long x7), (9, .int x9)]) hx hb dX2_narrow_49 hl (by decide) rfl (fun ls hl => ?_)
        refine lv_lload hx hb dX2_narrow_51 (lv_at hl 4 rfl) ?_
        refine lv_lload_n hx hb dX2_narrow_53 rfl (lv_at hl 3 rfl) ?_
        refine lv_lconst (v := 1) hx hb dX2_narrow_54 (by decide) ?_
        refine lv_lsub hx hb dX2_narrow_55 ?_
        refine lv_lload hx hb dX2_narrow_56 (lv_at hl 0 rfl) ?_
        refine lv_lsub hx hb dX2_narrow_58 ?_
        refine lv_iload_n hx hb dX2_narrow_59 rfl (lv_at hl 2 rfl) ?_
        refine lv_iload hx hb dX2_narrow_60 (lv_at hl 6 rfl) ?_
        refine lv_isub hx hb dX2_narrow_62 ?_
        refine lv_i2l hx hb dX2_narrow_63 rfl ?_
        refine ca_Sl (As := [.long ((x3 - (1 : Int64)) - (((r33 - r42).toInt64) * x3)), .long ((p2 - x9).toInt64)]) (rest := [.long x5]) ⟨hx, hb, hml, hown, hts⟩ (c_X2_floorBy l D cI cJ cZ   ((x3 - (1 : Int64)) - (((r33 - r42).toInt64) * x3)) ((p2 - x9).toInt64) _ ho) (va_cwS 2 hts (gdS wl_685 wl_686 wl_34 wl_687) rfl rfl rfl (by decide +kernel) ⟨hRf _ (Nat.le_of_ble_eq_true rfl), hRl _ (Nat.le_of_ble_eq_true rfl)⟩) hK hN hP [] rfl rfl hl.1 rfl (Nat.le_of_ble_eq_true rfl) dX2_narrow_64 ⟨Nat.zero_le _, Nat.zero_le _⟩ (fun r64 ho => ?_)
        refine lv_lneg hx hb dX2_narrow_67 ?_
        refine va_mmax_long hx hb (hml.trans hl.1.symm) hown (hts _ wl_678) (hts _ wl_679) (hts _ wl_244) (hts _ wl_680) (hRf 1 (Nat.le_of_ble_eq_true rfl)) (hRl _ (Nat.le_of_ble_eq_true rfl)) (Nat.zero_le _) (Nat.zero_le _) dX2_narrow_68 ?_
        refine lv_lstore (lv' := [(5, .long (if (-r64) < x5 then x5 else (-r64))), (10, .long (((r33 - r42).toInt64) * x3)), (0, .ref a_li), (2, .int p2), (3, .long x3), (7, .long x7), (9, .int x9)]) hx hb dX2_narrow_71 hl (by decide) rfl (fun ls hl => ?_)
        refine lv_lload hx hb dX2_narrow_73 (lv_at hl 5 rfl) ?_
        refine lv_lload_n hx hb dX2_narrow_75 rfl (lv_at hl 4 rfl) ?_
        refine lv_lconst (v := 1) hx hb dX2_narrow_76 (by decide) ?_
        refine lv_lsub hx hb dX2_narrow_77 ?_
        refine lv_lload hx hb dX2_narrow_78 (lv_at hl 1 rfl) ?_
        refine lv_ladd hx hb dX2_narrow_80 ?_
        refine lv_iload_n hx hb dX2_narrow_81 rfl (lv_at hl 3 rfl) ?_
        refine lv_iload hx hb dX2_narrow_82 (lv_at hl 6 rfl) ?_
        refine lv_isub hx hb dX2_narrow_84 ?_
        refine lv_i2l hx hb dX2_narrow_85 rfl ?_
        refine ca_Sl (As := [.long ((x3 - (1 : Int64)) + (((r33 - r42).toInt64) * x3)), .long ((p2 - x9).toInt64)]) (rest := [.long x7]) ⟨hx, hb, hml, hown, hts⟩ (c_X2_floorBy l D cI cJ cZ   ((x3 - (1 : Int64)) + (((r33 - r42).toInt64) * x3)) ((p2 - x9).toInt64) _ ho) (va_cwS 2 hts (gdS wl_685 wl_686 wl_34 wl_687) rfl rfl rfl (by decide +kernel) ⟨hRf _ (Nat.le_of_ble_eq_true rfl), hRl _ (Nat.le_of_ble_eq_true rfl)⟩) hK hN hP [] rfl rfl hl.1 rfl (Nat.le_of_ble_eq_true rfl) dX2_narrow_86 ⟨Nat.zero_le _, Nat.zero_le _⟩ (fun r86 ho => ?_)
        refine va_mmin_long hx hb (hml.trans hl.1.symm) hown (hts _ wl_681) (hts _ wl_682) (hts _ wl_244) (hts _ wl_683) (hRf 1 (Nat.le_of_ble_eq_true rfl)) (hRl _ (Nat.le_of_ble_eq_true rfl)) (Nat.zero_le _) (Nat.zero_le _) dX2_narrow_89 ?_
        refine lv_lstore (lv' := [(7, .long (if r86 < x7 then r86 else x7)), (5, .long (if (-r64) < x5 then x5 else (-r64))), (10, .long (((r33 - r42).toInt64) * x3)), (0, .ref a_li), (2, .int p2), (3, .long x3), (9, .int x9)]) hx hb dX2_narrow_92 hl (by decide) rfl (fun ls hl => ?_)
        refine lv_iinc (v := (x9 + (1 : Int32))) (lv' := [(9, .int (x9 + (1 : Int32))), (7, .long (if r86 < x7 then r86 else x7)), (5, .long (if (-r64) < x5 then x5 else (-r64))), (10, .long (((r33 - r42).toInt64) * x3)), (0, .ref a_li), (2, .int p2), (3, .long x3)]) hx hb dX2_narrow_94 hl (k := 6) rfl rfl (by decide) rfl (fun ls hl => ?_)
        refine lv_goto (tgt := 22) hx hb dX2_narrow_97 (by decide) ?_
        exact ih_22 li_least li_greatest x3 (if (-r64) < x5 then x5 else (-r64)) (if r86 < x7 then r86 else x7) (x9 + (1 : Int32)) H locs ls ho hP hD hS (lv_sub hl [4, 5, 6, 2, 1, 0] rfl)
  suffices main : ∀ (H : Heap) (locs : List Loc), va_P D vwCl [(a_li, oX2 a_fl a_va a_liD a_liF a_liA a_liB li_parts li_s li_least li_greatest), (a_liD, .inl (cI, 256, .inl liD_r))] H → va_S A s.heap H locs → W p l e R s m args below meth c H locs 0 0 Q (F0 m 0 ls []) from main _ _ hP hS
  intro H locs hP hS
  unfold wp_X2_narrow at ho
  refine lv_lconst (v := 1) hx hb dX2_narrow_0 (by decide) ?_
  refine lv_aload_n hx hb dX2_narrow_1 rfl (lv_at hl 0 rfl) ?_
  refine va_get (D := D) (ci := 2) (v := .int li_s) (C := RX2) (T := TX2) (N := 10) hx hb hts inlX2 hown hK hP 0 rfl rfl 7 (by decide) (hts _ wl_665) (fun _ h9 => h9) rfl dX2_narrow_2 ?_
  refine lv_lshl hx hb dX2_narrow_5 rfl ?_
  refine lv_lstore_n (lv' := [(3, .long ((1 : Int64) <<< (li_s.toInt64 &&& 63))), (0, .ref a_li), (1, .int p1), (2, .int p2)]) hx hb dX2_narrow_6 rfl hl (by decide) rfl (fun ls hl => ?_)
  refine lv_aload_n hx hb dX2_narrow_7 rfl (lv_at hl 1 rfl) ?_
  refine va_get (D := D) (ci := 2) (v := .long li_least) (C := RX2) (T := TX2) (N := 10) hx hb hts inlX2 hown hK hP 0 rfl rfl 8 (by decide) (hts _ wl_671) (fun _ h9 => h9) rfl dX2_narrow_8 ?_
  refine lv_lstore (lv' := [(5, .long li_least), (3, .long ((1 : Int64) <<< (li_s.toInt64 &&& 63))), (0, .ref a_li), (1, .int p1), (2, .int p2)]) hx hb dX2_narrow_11 hl (by decide) rfl (fun ls hl => ?_)
  refine lv_aload_n hx hb dX2_narrow_13 rfl (lv_at hl 2 rfl) ?_
  refine va_get (D := D) (ci := 2) (v := .long li_greatest) (C := RX2) (T := TX2) (N := 10) hx hb hts inlX2 hown hK hP 0 rfl rfl 9 (by decide) (hts _ wl_673) (fun _ h9 => h9) rfl dX2_narrow_14 ?_
  refine lv_lstore (lv' := [(7, .long li_greatest), (5, .long li_least), (3, .long ((1 : Int64) <<< (li_s.toInt64 &&& 63))), (0, .ref a_li), (1, .int p1), (2, .int p2)]) hx hb dX2_narrow_17 hl (by decide) rfl (fun ls hl => ?_)
  refine lv_iload_n hx hb dX2_narrow_19 rfl (lv_at hl 4 rfl) ?_
  refine lv_istore (lv' := [(9, .int p1), (7, .long li_greatest), (5, .long li_least), (3, .long ((1 : Int64) <<< (li_s.toInt64 &&& 63))), (0, .ref a_li), (1, .int p1), (2, .int p2)]) hx hb dX2_narrow_20 hl (by decide) rfl (fun ls hl => ?_)
  obtain ⟨n_22, ho⟩ := ho
  exact C_22 n_22 li_least li_greatest ((1 : Int64) <<< (li_s.toInt64 &&& 63)) li_least li_greatest p1 H locs ls ho hP hD hS (lv_sub hl [4, 6, 3, 2, 1, 0] rfl)

def w_X2_leastStart : List Cond := .code yX2_leastStart cX2_leastStart 4 (some .long) :: wsL_law
set_option maxHeartbeats 4000000 in
set_option maxRecDepth 100000 in
theorem c_X2_leastStart (l : Launch) (D : va_G) (cI cJ cZ : ClassId) (a_fl : Nat) (a_va : Nat) (a_li : Nat) (a_liD : Nat) (a_liF : Nat) (a_liA : Nat) (a_liB : Nat) (li_parts : Int32) (li_s : Int32) (li_least : Int64) (li_greatest : Int64) (liD_r : Nat → Int32) (p1 : Int32) (p2 : Int64) (post : Int64 → Prop) (ho : wp_X2_leastStart post li_s liD_r p1 p2) : Met l yX2_leastStart w_X2_leastStart ({ frames := 1, cells := 0, slots := 0, locals := 21 } : Room) (ro_P D [(cI, .int), (cJ, .long), (cZ, .boolean)] [.ref a_li, .int p1, .long p2] [(a_li, oX2 a_fl a_va a_liD a_liF a_liA a_liB li_parts li_s li_least li_greatest), (a_liD, .inl (cI, 256, .inl liD_r))]) (vp_Sl post) 0 0 (fun _ => False) := by
  refine Met.ofW (cc := cX2_leastStart) (maxL := 4) (ret := (some .long)) (by decide) rfl ?_
  intro p e s m args below meth c s₁ B hml hv
  obtain ⟨hargs, hP, hK, hN⟩ := hv
  have hx := B.exec
  have hb := B.bytes
  have hr := B.returns
  have hts : ∀ w ∈ wsL_law, w.before args s = true := fun w h => atoms_spec (ws := w_X2_leastStart) B.pre w (List.mem_cons_of_mem _ h)
  have hown : s.vm.findClass RX2 = some m.cls := findClass_of_methodNamed B.named
  have hlocks := B.notSynchronized
  have hl := lv_entry ([.ref a_li, .int p1, .long p2]) (n := 4) (Nat.le_of_ble_eq_true rfl)
  rw [hargs, lg_entry_eq, ← hargs]
  generalize (lg_sl ([.ref a_li, .int p1, .long p2]) ++ List.replicate (4 - (lg_sl ([.ref a_li, .int p1, .long p2])).length) Slot.unset).toArray = ls at hl ⊢
  replace hl : lv_has ls 4 [(0, .ref a_li), (1, .int p1), (2, .long p2)] := hl
  have hRf : ∀ n, n ≤ 1 → n ≤ (headSpec w_X2_leastStart ({ frames := 1, cells := 0, slots := 0, locals := 21 } : Room)).room.frames := fun n h => h
  have hRl : ∀ n, n ≤ 21 → n ≤ (headSpec w_X2_leastStart ({ frames := 1, cells := 0, slots := 0, locals := 21 } : Room)).room.locals := fun n h => h
  generalize (headSpec w_X2_leastStart ({ frames := 1, cells := 0, slots := 0, locals := 21 } : Room)).room = R at hRf hRl ⊢
  generalize hQ : MQ below _ args s 0 0 _ = Q
  unfold wp_X2_leastStart at ho
  refine lv_aload_n hx hb dX2_leastStart_0 rfl (lv_at hl 0 rfl) ?_
  refine va_get (D := D) (ci := 2) (v := .ref a_liD) (C := RX2) (T := TX2) (N := 10) hx hb hts inlX2 hown hK hP 0 rfl rfl 2 (by decide) (hts _ wl_90) (fun _ h9 => h9) rfl dX2_leastStart_1 ?_
  refine lv_iload_n hx hb dX2_leastStart_4 rfl (lv_at hl 1 rfl) ?_
  refine ca_Si (As := [.ref a_liD, .int p1]) (rest := []) ⟨hx, hb, hml, hown, hts⟩ (c_X4_at l D cI cJ cZ a_liD 256 liD_r p1 _ ho) (va_cwS 2 hts (gdS wl_684 wl_137 wl_134 wl_138) rfl rfl rfl (by decide +kernel) ⟨hRf _ (Nat.le_of_ble_eq_true rfl), hRl _ (Nat.le_of_ble_eq_true rfl)⟩) hK hN hP [1] rfl rfl hl.1 rfl (Nat.le_of_ble_eq_true rfl) dX2_leastStart_5 ⟨Nat.zero_le _, Nat.zero_le _⟩ (fun r5 ho => ?_)
  refine lv_i2l hx hb dX2_leastStart_8 rfl ?_
  refine lv_aload_n hx hb dX2_leastStart_9 rfl (lv_at hl 0 rfl) ?_
  refine va_get (D := D) (ci := 2) (v := .int li_s) (C := RX2) (T := TX2) (N := 10) hx hb hts inlX2 hown hK hP 0 rfl rfl 7 (by decide) (hts _ wl_665) (fun _ h9 => h9) rfl dX2_leastStart_10 ?_
  refine lv_lshl hx hb dX2_leastStart_13 rfl ?_
  refine lv_lload_n hx hb dX2_leastStart_14 rfl (lv_at hl 2 rfl) ?_
  refine lv_iload_n hx hb dX2_leastStart_15 rfl (lv_at hl 1 rfl) ?_
  refine lv_i2l hx hb dX2_leastStart_16 rfl ?_
  refine lv_lmul hx hb dX2_leastStart_17 ?_
  refine lv_lsub hx hb dX2_leastStart_18 ?_
  subst hQ; exact W.lret (v := ((r5.toInt64 <<< (li_s.toInt64 &&& 63)) - (p2 * p1.toInt64))) hx hb hr (fun t ht _ => ⟨((r5.toInt64 <<< (li_s.toInt64 &&& 63)) - (p2 * p1.toInt64)), rfl, ho, ht⟩) (fun _ h => by cases h) dX2_leastStart_19

def w_X2_closePart : List Cond := .code yX2_closePart cX2_closePart 8 none :: wsL_law
set_option maxHeartbeats 4000000 in
set_option maxRecDepth 100000 in
theorem c_X2_closePart (l : Launch) (D : va_G) (cI cJ cZ : ClassId) (a_fl : Nat) (a_va : Nat) (a_li : Nat) (a_liD : Nat) (a_liF : Nat) (a_liA : Nat) (a_liB : Nat) (sz : Nat) (li_parts : Int32) (li_s : Int32) (li_least : Int64) (li_greatest : Int64) (liD_r : Nat → Int32) (liF_r : Nat → Int32) (liA_r : Nat → Int32) (liB_r : Nat → Int32) (p1 : Int32) (p2 : Int32) (post : Int32 → (Nat → Int32) → (Nat → Int32) → (Nat → Int32) → Prop) (A : Nat → Prop) (hAe : A = va_A [(a_li, oX2 a_fl a_va a_liD a_liF a_liA a_liB li_parts li_s li_least li_greatest), (a_liD, .inl (cI, 256, .inl liD_r)), (a_liF, .inl (cI, 256, .inl liF_r)), (a_liA, .inl (cI, 256, .inl liA_r)), (a_liB, .inl (cI, 256, .inl liB_r))] sz) (ho : wp_X2_closePart post li_parts li_s li_least li_greatest liD_r liF_r liA_r liB_r p1 p2) : Met l yX2_closePart w_X2_closePart ({ frames := 2, cells := 0, slots := 0, locals := 44 } : Room) (rw_P D [(cI, .int), (cJ, .long), (cZ, .boolean)] [.ref a_li, .int p1, .int p2] sz [(a_li, oX2 a_fl a_va a_liD a_liF a_liA a_liB li_parts li_s li_least li_greatest), (a_liD, .inl (cI, 256, .inl liD_r)), (a_liF, .inl (cI, 256, .inl liF_r)), (a_liA, .inl (cI, 256, .inl liA_r)), (a_liB, .inl (cI, 256, .inl liB_r))]) (va_Qv (fun (u : (Int32) × (Nat → Int32) × (Nat → Int32) × (Nat → Int32)) => post u.1 u.2.1 u.2.2.1 u.2.2.2) (rw_B D A (fun (u : (Int32) × (Nat → Int32) × (Nat → Int32) × (Nat → Int32)) => [(a_li, oX2 a_fl a_va a_liD a_liF a_liA a_liB u.1 li_s li_least li_greatest), (a_liD, .inl (cI, 256, .inl liD_r)), (a_liF, .inl (cI, 256, .inl u.2.1)), (a_liA, .inl (cI, 256, .inl u.2.2.1)), (a_liB, .inl (cI, 256, .inl u.2.2.2))])) A) 0 0 A := by
  refine Met.ofW (cc := cX2_closePart) (maxL := 8) (ret := none) (by decide) rfl ?_
  intro p e s m args below meth c s₁ B hml hv
  obtain ⟨hargs, hsz, hP, hK, hN, hD0⟩ := hv
  have hx := B.exec
  have hb := B.bytes
  have hr := B.returns
  have hts : ∀ w ∈ wsL_law, w.before args s = true := fun w h => atoms_spec (ws := w_X2_closePart) B.pre w (List.mem_cons_of_mem _ h)
  have hown : s.vm.findClass RX2 = some m.cls := findClass_of_methodNamed B.named
  have hlocks := B.notSynchronized
  subst hsz
  have hD : va_D A [(a_li, oX2 a_fl a_va a_liD a_liF a_liA a_liB li_parts li_s li_least li_greatest), (a_liD, .inl (cI, 256, .inl liD_r)), (a_liF, .inl (cI, 256, .inl liF_r)), (a_liA, .inl (cI, 256, .inl liA_r)), (a_liB, .inl (cI, 256, .inl liB_r))] := by rw [hAe]; exact hD0.self
  have hA : ∀ q : Nat, s.heap.size ≤ q → A q := fun q h => by rw [hAe]; exact Or.inr h
  have hS : va_S A s.heap s.heap [] := va_S.rf
  have hl := lv_entry ([.ref a_li, .int p1, .int p2]) (n := 8) (Nat.le_of_ble_eq_true rfl)
  rw [hargs, lg_entry_eq, ← hargs]
  generalize (lg_sl ([.ref a_li, .int p1, .int p2]) ++ List.replicate (8 - (lg_sl ([.ref a_li, .int p1, .int p2])).length) Slot.unset).toArray = ls at hl ⊢
  replace hl : lv_has ls 8 [(0, .ref a_li), (1, .int p1), (2, .int p2)] := hl
  have hRf : ∀ n, n ≤ 2 → n ≤ (headSpec w_X2_closePart ({ frames := 2, cells := 0, slots := 0, locals := 44 } : Room)).room.frames := fun n h => h
  have hRl : ∀ n, n ≤ 44 → n ≤ (headSpec w_X2_closePart ({ frames := 2, cells := 0, slots := 0, locals := 44 } : Room)).room.locals := fun n h => h
  generalize (headSpec w_X2_closePart ({ frames := 2, cells := 0, slots := 0, locals := 44 } : Room)).room = R at hRf hRl ⊢
  generalize hQ : MQ below _ args s 0 0 _ = Q
  have C_29 : ∀ n : Nat, ∀ (li_parts : Int32) (liF_r : Nat → Int32) (liA_r : Nat → Int32) (liB_r : Nat → Int32) (x3 : Int64) (x5 : Int64) (x7 : Int32) (H : Heap) (locs : List Loc) (ls : Array Slot), wp_X2_closePart_29 post  li_s liD_r p1 p2 n li_parts liF_r liA_r liB_r x3 x5 x7 → va_P D vwCl [(a_li, oX2 a_fl a_va a_liD a_liF a_liA a_liB li_parts li_s li_least li_greatest), (a_liD, .inl (cI, 256, .inl liD_r)), (a_liF, .inl (cI, 256, .inl liF_r)), (a_liA, .inl (cI, 256, .inl liA_r)), (a_liB, .inl (cI, 256, .inl liB_r))] H → va_D A [(a_li, oX2 a_fl a_va a_liD a_liF a_liA a_liB li_parts li_s li_least li_greatest), (a_liD, .inl (cI, 256, .inl liD_r)), (a_liF, .inl (cI, 256, .inl liF_r)), (a_liA, .inl (cI, 256, .inl liA_r)), (a_liB, .inl (cI, 256, .inl liB_r))] → va_S A s.heap H locs → lv_has ls 8 [(0, .ref a_li), (1, .int p1), (2, .int p2), (3, .long x3), (5, .long x5), (7, .int x7)] → W p l e R s m args below meth c H locs 0 0 Q (F0 m 29 ls []) := by
    intro n
    induction n with
    | zero => intro li_parts liF_r liA_r liB_r x3 x5 x7 H locs ls ho hP hD hS hl; exact ho.elim
    | succ n_29 ih_29 =>
      intro li_parts liF_r liA_r liB_r x3 x5 x7 H locs ls ho hP hD hS hl
      replace ho : wp_X2_closePart_29_b post li_s liD_r p1 p2 (wp_X2_closePart_29 post li_s liD_r p1 p2 n_29) li_parts liF_r liA_r liB_r x3 x5 x7 := ho
      unfold wp_X2_closePart_29_b at ho
      refine lv_iload hx hb dX2_closePart_29 (lv_at hl 5 rfl) ?_
      refine lv_iload_n hx hb dX2_closePart_31 rfl (lv_at hl 2 rfl) ?_
      refine lv_icmp_gt (tgt := 55) hx hb dX2_closePart_32 (by decide) (fun c_32 => ?_) (fun c_32 => ?_)
      · replace ho := ho.1 c_32
        refine lv_aload_n hx hb dX2_closePart_55 rfl (lv_at hl 0 rfl) ?_
        refine va_get (D := D) (ci := 2) (v := .ref a_liF) (C := RX2) (T := TX2) (N := 10) hx hb hts inlX2 hown hK hP 0 rfl rfl 3 (by decide) (hts _ wl_91) (fun _ h9 => h9) rfl dX2_closePart_56 ?_
        refine lv_aload_n hx hb dX2_closePart_59 rfl (lv_at hl 0 rfl) ?_
        refine va_get (D := D) (ci := 2) (v := .int li_parts) (C := RX2) (T := TX2) (N := 10) hx hb hts inlX2 hown hK hP 0 rfl rfl 6 (by decide) (hts _ wl_160) (fun _ h9 => h9) rfl dX2_closePart_60 ?_
        refine lv_iload_n hx hb dX2_closePart_63 rfl (lv_at hl 1 rfl) ?_
        refine ca_Tv (As := [.ref a_liF, .int li_parts, .int p1]) (rest := []) (wr := [(a_li, oX2 a_fl a_va a_liD a_liF a_liA a_liB li_parts li_s li_least li_greatest), (a_liD, .inl (cI, 256, .inl liD_r)), (a_liA, .inl (cI, 256, .inl liA_r)), (a_liB, .inl (cI, 256, .inl liB_r))]) (wo := fun (u : (Nat → Int32)) => [(a_liF, .inl (cI, 256, .inl u))]) (wn := fun (u : (Nat → Int32)) => [(a_li, oX2 a_fl a_va a_liD a_liF a_liA a_liB li_parts li_s li_least li_greatest), (a_liD, .inl (cI, 256, .inl liD_r)), (a_liF, .inl (cI, 256, .inl u)), (a_liA, .inl (cI, 256, .inl liA_r)), (a_liB, .inl (cI, 256, .inl liB_r))]) ⟨hx, hb, hml, hown, hts⟩ (c_X4_put l D cI cJ cZ a_liF H.size 256 liF_r li_parts p1 _ _ rfl ho) (va_cwS 3 hts (gdS wl_660 wl_140 wl_134 wl_141) rfl rfl rfl (by decide +kernel) ⟨hRf _ (Nat.le_of_ble_eq_true rfl), hRl _ (Nat.le_of_ble_eq_true rfl)⟩) hK hN hP hD hS hA [2] [0, 1, 3, 4] [0, 1, 4, 2, 3] rfl rfl (by decide) (by decide) (by decide) (by decide) (fun _ => rfl) rfl hl.1 rfl (Nat.le_of_ble_eq_true rfl) dX2_closePart_64 ⟨Nat.zero_le _, Nat.zero_le _⟩ (fun  u64 H locs ho hP hD hS => ?_)
        try dsimp only at ho
        replace hP : va_P D vwCl [(a_li, oX2 a_fl a_va a_liD a_liF a_liA a_liB li_parts li_s li_least li_greatest), (a_liD, .inl (cI, 256, .inl liD_r)), (a_liF, .inl (cI, 256, .inl u64)), (a_liA, .inl (cI, 256, .inl liA_r)), (a_liB, .inl (cI, 256, .inl liB_r))] H := hP
        replace hD : va_D A [(a_li, oX2 a_fl a_va a_liD a_liF a_liA a_liB li_parts li_s li_least li_greatest), (a_liD, .inl (cI, 256, .inl liD_r)), (a_liF, .inl (cI, 256, .inl u64)), (a_liA, .inl (cI, 256, .inl liA_r)), (a_liB, .inl (cI, 256, .inl liB_r))] := hD
        refine lv_aload_n hx hb dX2_closePart_67 rfl (lv_at hl 0 rfl) ?_
        refine va_get (D := D) (ci := 2) (v := .ref a_liA) (C := RX2) (T := TX2) (N := 10) hx hb hts inlX2 hown hK hP 0 rfl rfl 4 (by decide) (hts _ wl_92) (fun _ h9 => h9) rfl dX2_closePart_68 ?_
        refine lv_aload_n hx hb dX2_closePart_71 rfl (lv_at hl 0 rfl) ?_
        refine va_get (D := D) (ci := 2) (v := .int li_parts) (C := RX2) (T := TX2) (N := 10) hx hb hts inlX2 hown hK hP 0 rfl rfl 6 (by decide) (hts _ wl_160) (fun _ h9 => h9) rfl dX2_closePart_72 ?_
        refine lv_lload hx hb dX2_closePart_75 (lv_at hl 4 rfl) ?_
        refine lv_l2i hx hb dX2_closePart_77 rfl ?_
        refine ca_Tv (As := [.ref a_liA, .int li_parts, .int x5.toInt32]) (rest := []) (wr := [(a_li, oX2 a_fl a_va a_liD a_liF a_liA a_liB li_parts li_s li_least li_greatest), (a_liD, .inl (cI, 256, .inl liD_r)), (a_liF, .inl (cI, 256, .inl u64)), (a_liB, .inl (cI, 256, .inl liB_r))]) (wo := fun (u : (Nat → Int32)) => [(a_liA, .inl (cI, 256, .inl u))]) (wn := fun (u : (Nat → Int32)) => [(a_li, oX2 a_fl a_va a_liD a_liF a_liA a_liB li_parts li_s li_least li_greatest), (a_liD, .inl (cI, 256, .inl liD_r)), (a_liF, .inl (cI, 256, .inl u64)), (a_liA, .inl (cI, 256, .inl u)), (a_liB, .inl (cI, 256, .inl liB_r))]) ⟨hx, hb, hml, hown, hts⟩ (c_X4_put l D cI cJ cZ a_liA H.size 256 liA_r li_parts x5.toInt32 _ _ rfl ho) (va_cwS 3 hts (gdS wl_660 wl_140 wl_134 wl_141) rfl rfl rfl (by decide +kernel) ⟨hRf _ (Nat.le_of_ble_eq_true rfl), hRl _ (Nat.le_of_ble_eq_true rfl)⟩) hK hN hP hD hS hA [3] [0, 1, 2, 4] [0, 1, 2, 4, 3] rfl rfl (by decide) (by decide) (by decide) (by decide) (fun _ => rfl) rfl hl.1 rfl (Nat.le_of_ble_eq_true rfl) dX2_closePart_78 ⟨Nat.zero_le _, Nat.zero_le _⟩ (fun  u78 H locs ho hP hD hS => ?_)
        try dsimp only at ho
        replace hP : va_P D vwCl [(a_li, oX2 a_fl a_va a_liD a_liF a_liA a_liB li_parts li_s li_least li_greatest), (a_liD, .inl (cI, 256, .inl liD_r)), (a_liF, .inl (cI, 256, .inl u64)), (a_liA, .inl (cI, 256, .inl u78)), (a_liB, .inl (cI, 256, .inl liB_r))] H := hP
        replace hD : va_D A [(a_li, oX2 a_fl a_va a_liD a_liF a_liA a_liB li_parts li_s li_least li_greatest), (a_liD, .inl (cI, 256, .inl liD_r)), (a_liF, .inl (cI, 256, .inl u64)), (a_liA, .inl (cI, 256, .inl u78)), (a_liB, .inl (cI, 256, .inl liB_r))] := hD
        refine lv_aload_n hx hb dX2_closePart_81 rfl (lv_at hl 0 rfl) ?_
        refine va_get (D := D) (ci := 2) (v := .ref a_liB) (C := RX2) (T := TX2) (N := 10) hx hb hts inlX2 hown hK hP 0 rfl rfl 5 (by decide) (hts _ wl_93) (fun _ h9 => h9) rfl dX2_closePart_82 ?_
        refine lv_aload_n hx hb dX2_closePart_85 rfl (lv_at hl 0 rfl) ?_
        refine va_get (D := D) (ci := 2) (v := .int li_parts) (C := RX2) (T := TX2) (N := 10) hx hb hts inlX2 hown hK hP 0 rfl rfl 6 (by decide) (hts _ wl_160) (fun _ h9 => h9) rfl dX2_closePart_86 ?_
        refine lv_lload_n hx hb dX2_closePart_89 rfl (lv_at hl 3 rfl) ?_
        refine lv_l2i hx hb dX2_closePart_90 rfl ?_
        refine ca_Tv (As := [.ref a_liB, .int li_parts, .int x3.toInt32]) (rest := []) (wr := [(a_li, oX2 a_fl a_va a_liD a_liF a_liA a_liB li_parts li_s li_least li_greatest), (a_liD, .inl (cI, 256, .inl liD_r)), (a_liF, .inl (cI, 256, .inl u64)), (a_liA, .inl (cI, 256, .inl u78))]) (wo := fun (u : (Nat → Int32)) => [(a_liB, .inl (cI, 256, .inl u))]) (wn := fun (u : (Nat → Int32)) => [(a_li, oX2 a_fl a_va a_liD a_liF a_liA a_liB li_parts li_s li_least li_greatest), (a_liD, .inl (cI, 256, .inl liD_r)), (a_liF, .inl (cI, 256, .inl u64)), (a_liA, .inl (cI, 256, .inl u78)), (a_liB, .inl (cI, 256, .inl u))]) ⟨hx, hb, hml, hown, hts⟩ (c_X4_put l D cI cJ cZ a_liB H.size 256 liB_r li_parts x3.toInt32 _ _ rfl ho) (va_cwS 3 hts (gdS wl_660 wl_140 wl_134 wl_141) rfl rfl rfl (by decide +kernel) ⟨hRf _ (Nat.le_of_ble_eq_true rfl), hRl _ (Nat.le_of_ble_eq_true rfl)⟩) hK hN hP hD hS hA [4] [0, 1, 2, 3] [0, 1, 2, 3, 4] rfl rfl (by decide) (by decide) (by decide) (by decide) (fun _ => rfl) rfl hl.1 rfl (Nat.le_of_ble_eq_true rfl) dX2_closePart_91 ⟨Nat.zero_le _, Nat.zero_le _⟩ (fun  u91 H locs ho hP hD hS => ?_)
        try dsimp only at ho
        replace hP : va_P D vwCl [(a_li, oX2 a_fl a_va a_liD a_liF a_liA a_liB li_parts li_s li_least li_greatest), (a_liD, .inl (cI, 256, .inl liD_r)), (a_liF, .inl (cI, 256, .inl u64)), (a_liA, .inl (cI, 256, .inl u78)), (a_liB, .inl (cI, 256, .inl u91))] H := hP
        replace hD : va_D A [(a_li, oX2 a_fl a_va a_liD a_liF a_liA a_liB li_parts li_s li_least li_greatest), (a_liD, .inl (cI, 256, .inl liD_r)), (a_liF, .inl (cI, 256, .inl u64)), (a_liA, .inl (cI, 256, .inl u78)), (a_liB, .inl (cI, 256, .inl u91))] := hD
        refine lv_aload_n hx hb dX2_closePart_94 rfl (lv_at hl 0 rfl) ?_
        refine lv_dup hx hb dX2_closePart_95 rfl ?_
        refine va_get (D := D) (ci := 2) (v := .int li_parts) (C := RX2) (T := TX2) (N := 10) hx hb hts inlX2 hown hK hP 0 rfl rfl 6 (by decide) (hts _ wl_160) (fun _ h9 => h9) rfl dX2_closePart_96 ?_
        refine lv_iconst (v := 1) hx hb dX2_closePart_99 (by decide) ?_
        refine lv_iadd hx hb dX2_closePart_100 ?_
        refine va_put (D := D) (ci := 2) (v := .int (li_parts + (1 : Int32))) (ty := .int) (C := RX2) (T := TX2) (N := 10) hx hb hts inlX2 tyX2 tyX2_ok nmX2 hown hK hP hD hS 0 rfl rfl 6 (by decide) (hts _ wl_160) (fun _ h9 => h9) rfl (by decide +kernel) rfl rfl (Nat.le_of_ble_eq_true rfl) dX2_closePart_101 (fun H locs hP hD hS => ?_)
        replace hP : va_P D vwCl [(a_li, oX2 a_fl a_va a_liD a_liF a_liA a_liB (li_parts + (1 : Int32)) li_s li_least li_greatest), (a_liD, .inl (cI, 256, .inl liD_r)), (a_liF, .inl (cI, 256, .inl u64)), (a_liA, .inl (cI, 256, .inl u78)), (a_liB, .inl (cI, 256, .inl u91))] H := hP
        replace hD : va_D A [(a_li, oX2 a_fl a_va a_liD a_liF a_liA a_liB (li_parts + (1 : Int32)) li_s li_least li_greatest), (a_liD, .inl (cI, 256, .inl liD_r)), (a_liF, .inl (cI, 256, .inl u64)), (a_liA, .inl (cI, 256, .inl u78)), (a_liB, .inl (cI, 256, .inl u91))] := hD
        subst hQ; exact W.vret hx hb hr (fun t ht hW => ⟨⟨((li_parts + (1 : Int32)), u64, u78, u91), rfl, ho, by rw [ht]; exact hP, hD⟩, hS.F ht⟩) (fun q hq => hS.2.2 q hq) dX2_closePart_104
      · replace ho := ho.2 c_32
        refine lv_lload hx hb dX2_closePart_35 (lv_at hl 4 rfl) ?_
        refine lv_aload_n hx hb dX2_closePart_37 rfl (lv_at hl 0 rfl) ?_
        refine lv_iload hx hb dX2_closePart_38 (lv_at hl 5 rfl) ?_
        refine lv_lload_n hx hb dX2_closePart_40 rfl (lv_at hl 3 rfl) ?_
        refine ca_Vl (b := a_li) (As := [.int x7, .long x3]) (rest := [.long x5]) ⟨hx, hb, hml, hown, hts⟩ (c_X2_leastStart l D cI cJ cZ a_fl a_va a_li a_liD a_liF a_liA a_liB li_parts li_s li_least li_greatest liD_r x7 x3 _ ho) (cwV 2 hts (gdV wl_695 wl_696 wl_697 wl_34 wl_698) rfl rfl rfl (by decide +kernel) ⟨hRf _ (Nat.le_of_ble_eq_true rfl), hRl _ (Nat.le_of_ble_eq_true rfl)⟩) hK hN hP [0, 1] rfl 0 2 rfl rfl rfl rfl hl.1 rfl (Nat.le_of_ble_eq_true rfl) dX2_closePart_41 ⟨Nat.zero_le _, Nat.zero_le _⟩ (fun r41 ho => ?_)
        refine va_mmax_long hx hb (hml.trans hl.1.symm) hown (hts _ wl_678) (hts _ wl_679) (hts _ wl_244) (hts _ wl_680) (hRf 1 (Nat.le_of_ble_eq_true rfl)) (hRl _ (Nat.le_of_ble_eq_true rfl)) (Nat.zero_le _) (Nat.zero_le _) dX2_closePart_44 ?_
        refine lv_lstore (lv' := [(5, .long (if r41 < x5 then x5 else r41)), (0, .ref a_li), (1, .int p1), (2, .int p2), (3, .long x3), (7, .int x7)]) hx hb dX2_closePart_47 hl (by decide) rfl (fun ls hl => ?_)
        refine lv_iinc (v := (x7 + (1 : Int32))) (lv' := [(7, .int (x7 + (1 : Int32))), (5, .long (if r41 < x5 then x5 else r41)), (0, .ref a_li), (1, .int p1), (2, .int p2), (3, .long x3)]) hx hb dX2_closePart_49 hl (k := 5) rfl rfl (by decide) rfl (fun ls hl => ?_)
        refine lv_goto (tgt := 29) hx hb dX2_closePart_52 (by decide) ?_
        exact ih_29 li_parts liF_r liA_r liB_r x3 (if r41 < x5 then x5 else r41) (x7 + (1 : Int32)) H locs ls ho hP hD hS (lv_sub hl [2, 3, 4, 5, 1, 0] rfl)
  suffices main : ∀ (H : Heap) (locs : List Loc), va_P D vwCl [(a_li, oX2 a_fl a_va a_liD a_liF a_liA a_liB li_parts li_s li_least li_greatest), (a_liD, .inl (cI, 256, .inl liD_r)), (a_liF, .inl (cI, 256, .inl liF_r)), (a_liA, .inl (cI, 256, .inl liA_r)), (a_liB, .inl (cI, 256, .inl liB_r))] H → va_S A s.heap H locs → W p l e R s m args below meth c H locs 0 0 Q (F0 m 0 ls []) from main _ _ hP hS
  intro H locs hP hS
  unfold wp_X2_closePart at ho
  refine lv_aload_n hx hb dX2_closePart_0 rfl (lv_at hl 0 rfl) ?_
  refine va_get (D := D) (ci := 2) (v := .long li_least) (C := RX2) (T := TX2) (N := 10) hx hb hts inlX2 hown hK hP 0 rfl rfl 8 (by decide) (hts _ wl_671) (fun _ h9 => h9) rfl dX2_closePart_1 ?_
  refine lv_aload_n hx hb dX2_closePart_4 rfl (lv_at hl 0 rfl) ?_
  refine va_get (D := D) (ci := 2) (v := .long li_greatest) (C := RX2) (T := TX2) (N := 10) hx hb hts inlX2 hown hK hP 0 rfl rfl 9 (by decide) (hts _ wl_673) (fun _ h9 => h9) rfl dX2_closePart_5 ?_
  refine lv_lconst (v := 0) hx hb dX2_closePart_8 (by decide) ?_
  refine va_mmin_long hx hb (hml.trans hl.1.symm) hown (hts _ wl_681) (hts _ wl_682) (hts _ wl_244) (hts _ wl_683) (hRf 1 (Nat.le_of_ble_eq_true rfl)) (hRl _ (Nat.le_of_ble_eq_true rfl)) (Nat.zero_le _) (Nat.zero_le _) dX2_closePart_9 ?_
  refine va_mmax_long hx hb (hml.trans hl.1.symm) hown (hts _ wl_678) (hts _ wl_679) (hts _ wl_244) (hts _ wl_680) (hRf 1 (Nat.le_of_ble_eq_true rfl)) (hRl _ (Nat.le_of_ble_eq_true rfl)) (Nat.zero_le _) (Nat.zero_le _) dX2_closePart_12 ?_
  refine lv_lstore_n (lv' := [(3, .long (if (if (0 : Int64) < li_greatest then (0 : Int64) else li_greatest) < li_least then li_least else (if (0 : Int64) < li_greatest then (0 : Int64) else li_greatest))), (0, .ref a_li), (1, .int p1), (2, .int p2)]) hx hb dX2_closePart_15 rfl hl (by decide) rfl (fun ls hl => ?_)
  refine lv_aload_n hx hb dX2_closePart_16 rfl (lv_at hl 1 rfl) ?_
  refine lv_iload_n hx hb dX2_closePart_17 rfl (lv_at hl 2 rfl) ?_
  refine lv_lload_n hx hb dX2_closePart_18 rfl (lv_at hl 0 rfl) ?_
  refine ca_Vl (b := a_li) (As := [.int p1, .long (if (if (0 : Int64) < li_greatest then (0 : Int64) else li_greatest) < li_least then li_least else (if (0 : Int64) < li_greatest then (0 : Int64) else li_greatest))]) (rest := []) ⟨hx, hb, hml, hown, hts⟩ (c_X2_leastStart l D cI cJ cZ a_fl a_va a_li a_liD a_liF a_liA a_liB li_parts li_s li_least li_greatest liD_r p1 (if (if (0 : Int64) < li_greatest then (0 : Int64) else li_greatest) < li_least then li_least else (if (0 : Int64) < li_greatest then (0 : Int64) else li_greatest)) _ ho) (cwV 2 hts (gdV wl_695 wl_696 wl_697 wl_34 wl_698) rfl rfl rfl (by decide +kernel) ⟨hRf _ (Nat.le_of_ble_eq_true rfl), hRl _ (Nat.le_of_ble_eq_true rfl)⟩) hK hN hP [0, 1] rfl 0 2 rfl rfl rfl rfl hl.1 rfl (Nat.le_of_ble_eq_true rfl) dX2_closePart_19 ⟨Nat.zero_le _, Nat.zero_le _⟩ (fun r19 ho => ?_)
  refine lv_lstore (lv' := [(5, .long r19), (3, .long (if (if (0 : Int64) < li_greatest then (0 : Int64) else li_greatest) < li_least then li_least else (if (0 : Int64) < li_greatest then (0 : Int64) else li_greatest))), (0, .ref a_li), (1, .int p1), (2, .int p2)]) hx hb dX2_closePart_22 hl (by decide) rfl (fun ls hl => ?_)
  refine lv_iload_n hx hb dX2_closePart_24 rfl (lv_at hl 3 rfl) ?_
  refine lv_iconst (v := 1) hx hb dX2_closePart_25 (by decide) ?_
  refine lv_iadd hx hb dX2_closePart_26 ?_
  refine lv_istore (lv' := [(7, .int (p1 + (1 : Int32))), (5, .long r19), (3, .long (if (if (0 : Int64) < li_greatest then (0 : Int64) else li_greatest) < li_least then li_least else (if (0 : Int64) < li_greatest then (0 : Int64) else li_greatest))), (0, .ref a_li), (1, .int p1), (2, .int p2)]) hx hb dX2_closePart_27 hl (by decide) rfl (fun ls hl => ?_)
  obtain ⟨n_29, ho⟩ := ho
  exact C_29 n_29 li_parts liF_r liA_r liB_r (if (if (0 : Int64) < li_greatest then (0 : Int64) else li_greatest) < li_least then li_least else (if (0 : Int64) < li_greatest then (0 : Int64) else li_greatest)) r19 (p1 + (1 : Int32)) H locs ls ho hP hD hS (lv_sub hl [3, 4, 5, 2, 1, 0] rfl)
