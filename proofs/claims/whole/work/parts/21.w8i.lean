def w_X8_findSpans : List Cond := .code yX8_findSpans cX8_findSpans 6 none :: wsL_law
set_option maxHeartbeats 4000000 in
set_option maxRecDepth 100000 in
theorem c_X8_findSpans (l : Launch) (D : va_G) (cI cJ cZ : ClassId) (a_mo : Nat) (a_moR : Nat) (a_moK : Nat) (a_moH : Nat) (a_moS : Nat) (a_moF : Nat) (a_moT : Nat) (a_moP : Nat) (a_moQ : Nat) (a_moA : Nat) (a_moB : Nat) (a_moD : Nat) (sz : Nat) (mo_e : Int32) (mo_f : Int32) (mo_codes : Int32) (mo_most : Int32) (mo_minus : Int32) (mo_low : Int32) (mo_function : Int32) (mo_atX : Int32) (mo_atM : Int64) (mo_spanFunction : Int32) (mo_spanRounding : Int32) (mo_spanMany : Int32) (mo_parts : Int32) (mo_shift : Int32) (moF_r : Nat → Int32) (moT_r : Nat → Int32) (p1 : Int32) (p2 : Int32) (post : Int32 → Int32 → Int64 → Int32 → Int32 → Int32 → (Nat → Int32) → (Nat → Int32) → Prop) (A : Nat → Prop) (hAe : A = va_A [(a_mo, oX8 a_moR mo_e mo_f mo_codes mo_most mo_minus mo_low mo_function mo_atX mo_atM a_moK a_moH a_moS mo_spanFunction mo_spanRounding mo_spanMany a_moF a_moT mo_parts mo_shift a_moP a_moQ a_moA a_moB a_moD), (a_moF, .inl (cI, 16384, .inl moF_r)), (a_moT, .inl (cI, 16384, .inl moT_r))] sz) (ho : wp_X8_findSpans post mo_f mo_most mo_minus mo_low mo_function mo_atX mo_atM mo_spanFunction mo_spanRounding mo_spanMany moF_r moT_r p1 p2) : Met l yX8_findSpans w_X8_findSpans ({ frames := 6, cells := 0, slots := 0, locals := 151 } : Room) (rw_P D [(cI, .int), (cJ, .long), (cZ, .boolean)] [.ref a_mo, .int p1, .int p2] sz [(a_mo, oX8 a_moR mo_e mo_f mo_codes mo_most mo_minus mo_low mo_function mo_atX mo_atM a_moK a_moH a_moS mo_spanFunction mo_spanRounding mo_spanMany a_moF a_moT mo_parts mo_shift a_moP a_moQ a_moA a_moB a_moD), (a_moF, .inl (cI, 16384, .inl moF_r)), (a_moT, .inl (cI, 16384, .inl moT_r))]) (va_Qv (fun (u : (Int32) × (Int32) × (Int64) × (Int32) × (Int32) × (Int32) × (Nat → Int32) × (Nat → Int32)) => post u.1 u.2.1 u.2.2.1 u.2.2.2.1 u.2.2.2.2.1 u.2.2.2.2.2.1 u.2.2.2.2.2.2.1 u.2.2.2.2.2.2.2) (rw_B D A (fun (u : (Int32) × (Int32) × (Int64) × (Int32) × (Int32) × (Int32) × (Nat → Int32) × (Nat → Int32)) => [(a_mo, oX8 a_moR mo_e mo_f mo_codes mo_most mo_minus mo_low u.1 u.2.1 u.2.2.1 a_moK a_moH a_moS u.2.2.2.1 u.2.2.2.2.1 u.2.2.2.2.2.1 a_moF a_moT mo_parts mo_shift a_moP a_moQ a_moA a_moB a_moD), (a_moF, .inl (cI, 16384, .inl u.2.2.2.2.2.2.1)), (a_moT, .inl (cI, 16384, .inl u.2.2.2.2.2.2.2))])) A) 0 0 A := by
  refine Met.ofW (cc := cX8_findSpans) (maxL := 6) (ret := none) (by decide) rfl ?_
  intro p e s m args below meth c s₁ B hml hv
  obtain ⟨hargs, hsz, hP, hK, hN, hD0⟩ := hv
  have hx := B.exec
  have hb := B.bytes
  have hr := B.returns
  have hts : ∀ w ∈ wsL_law, w.before args s = true := fun w h => atoms_spec (ws := w_X8_findSpans) B.pre w (List.mem_cons_of_mem _ h)
  have hown : s.vm.findClass RX8 = some m.cls := findClass_of_methodNamed B.named
  have hlocks := B.notSynchronized
  subst hsz
  have hD : va_D A [(a_mo, oX8 a_moR mo_e mo_f mo_codes mo_most mo_minus mo_low mo_function mo_atX mo_atM a_moK a_moH a_moS mo_spanFunction mo_spanRounding mo_spanMany a_moF a_moT mo_parts mo_shift a_moP a_moQ a_moA a_moB a_moD), (a_moF, .inl (cI, 16384, .inl moF_r)), (a_moT, .inl (cI, 16384, .inl moT_r))] := by rw [hAe]; exact hD0.self
  have hA : ∀ q : Nat, s.heap.size ≤ q → A q := fun q h => by rw [hAe]; exact Or.inr h
  have hS : va_S A s.heap s.heap [] := va_S.rf
  have hl := lv_entry ([.ref a_mo, .int p1, .int p2]) (n := 6) (Nat.le_of_ble_eq_true rfl)
  rw [hargs, lg_entry_eq, ← hargs]
  generalize (lg_sl ([.ref a_mo, .int p1, .int p2]) ++ List.replicate (6 - (lg_sl ([.ref a_mo, .int p1, .int p2])).length) Slot.unset).toArray = ls at hl ⊢
  replace hl : lv_has ls 6 [(0, .ref a_mo), (1, .int p1), (2, .int p2)] := hl
  have hRf : ∀ n, n ≤ 6 → n ≤ (headSpec w_X8_findSpans ({ frames := 6, cells := 0, slots := 0, locals := 151 } : Room)).room.frames := fun n h => h
  have hRl : ∀ n, n ≤ 151 → n ≤ (headSpec w_X8_findSpans ({ frames := 6, cells := 0, slots := 0, locals := 151 } : Room)).room.locals := fun n h => h
  generalize (headSpec w_X8_findSpans ({ frames := 6, cells := 0, slots := 0, locals := 151 } : Room)).room = R at hRf hRl ⊢
  generalize hQ : MQ below _ args s 0 0 _ = Q
  have C_37 : ∀ n : Nat, ∀ (mo_function : Int32) (mo_atX : Int32) (mo_atM : Int64) (mo_spanFunction : Int32) (mo_spanRounding : Int32) (mo_spanMany : Int32) (moF_r : Nat → Int32) (moT_r : Nat → Int32) (x3 : Int32) (x4 : Int32) (H : Heap) (locs : List Loc) (ls : Array Slot), wp_X8_findSpans_37 post  mo_f mo_most mo_minus mo_low p1 p2 n mo_function mo_atX mo_atM mo_spanFunction mo_spanRounding mo_spanMany moF_r moT_r x3 x4 → va_P D vwCl [(a_mo, oX8 a_moR mo_e mo_f mo_codes mo_most mo_minus mo_low mo_function mo_atX mo_atM a_moK a_moH a_moS mo_spanFunction mo_spanRounding mo_spanMany a_moF a_moT mo_parts mo_shift a_moP a_moQ a_moA a_moB a_moD), (a_moF, .inl (cI, 16384, .inl moF_r)), (a_moT, .inl (cI, 16384, .inl moT_r))] H → va_D A [(a_mo, oX8 a_moR mo_e mo_f mo_codes mo_most mo_minus mo_low mo_function mo_atX mo_atM a_moK a_moH a_moS mo_spanFunction mo_spanRounding mo_spanMany a_moF a_moT mo_parts mo_shift a_moP a_moQ a_moA a_moB a_moD), (a_moF, .inl (cI, 16384, .inl moF_r)), (a_moT, .inl (cI, 16384, .inl moT_r))] → va_S A s.heap H locs → lv_has ls 6 [(0, .ref a_mo), (1, .int p1), (2, .int p2), (3, .int x3), (4, .int x4)] → W p l e R s m args below meth c H locs 0 0 Q (F0 m 37 ls []) := by
    intro n
    induction n with
    | zero => intro mo_function mo_atX mo_atM mo_spanFunction mo_spanRounding mo_spanMany moF_r moT_r x3 x4 H locs ls ho hP hD hS hl; exact ho.elim
    | succ n_37 ih_37 =>
      have C_90 : ∀ (mo_function : Int32) (mo_atX : Int32) (mo_atM : Int64) (mo_spanFunction : Int32) (mo_spanRounding : Int32) (mo_spanMany : Int32) (moF_r : Nat → Int32) (moT_r : Nat → Int32) (x4 : Int32) (x5 : Int32) (H : Heap) (locs : List Loc) (ls : Array Slot), wp_X8_findSpans_90 post (wp_X8_findSpans_37 post mo_f mo_most mo_minus mo_low p1 p2 n_37) mo_function mo_atX mo_atM mo_spanFunction mo_spanRounding mo_spanMany moF_r moT_r x4 x5 → va_P D vwCl [(a_mo, oX8 a_moR mo_e mo_f mo_codes mo_most mo_minus mo_low mo_function mo_atX mo_atM a_moK a_moH a_moS mo_spanFunction mo_spanRounding mo_spanMany a_moF a_moT mo_parts mo_shift a_moP a_moQ a_moA a_moB a_moD), (a_moF, .inl (cI, 16384, .inl moF_r)), (a_moT, .inl (cI, 16384, .inl moT_r))] H → va_D A [(a_mo, oX8 a_moR mo_e mo_f mo_codes mo_most mo_minus mo_low mo_function mo_atX mo_atM a_moK a_moH a_moS mo_spanFunction mo_spanRounding mo_spanMany a_moF a_moT mo_parts mo_shift a_moP a_moQ a_moA a_moB a_moD), (a_moF, .inl (cI, 16384, .inl moF_r)), (a_moT, .inl (cI, 16384, .inl moT_r))] → va_S A s.heap H locs → lv_has ls 6 [(0, .ref a_mo), (1, .int p1), (2, .int p2), (4, .int x4), (5, .int x5)] → W p l e R s m args below meth c H locs 0 0 Q (F0 m 90 ls []) := by
        intro mo_function mo_atX mo_atM mo_spanFunction mo_spanRounding mo_spanMany moF_r moT_r x4 x5 H locs ls ho hP hD hS hl
        unfold wp_X8_findSpans_90 at ho
        refine lv_aload_n hx hb dX8_findSpans_90 rfl (lv_at hl 0 rfl) ?_
        refine va_get (D := D) (ci := 7) (v := .ref a_moT) (C := RX8) (T := TX8) (N := 25) hx hb hts inlX8 hown hK hP 0 rfl rfl 17 (by decide) (hts _ wl_105) (fun _ h9 => h9) rfl dX8_findSpans_91 ?_
        refine lv_aload_n hx hb dX8_findSpans_94 rfl (lv_at hl 0 rfl) ?_
        refine va_get (D := D) (ci := 7) (v := .int mo_spanMany) (C := RX8) (T := TX8) (N := 25) hx hb hts inlX8 hown hK hP 0 rfl rfl 15 (by decide) (hts _ wl_622) (fun _ h9 => h9) rfl dX8_findSpans_95 ?_
        refine lv_iconst (v := 1) hx hb dX8_findSpans_98 (by decide) ?_
        refine lv_isub hx hb dX8_findSpans_99 ?_
        refine lv_iload hx hb dX8_findSpans_100 (lv_at hl 3 rfl) ?_
        have o_102 := ho.1
        replace ho := ho.2
        refine va_iast hx hb hK hP hD hS 2 0 rfl rfl o_102 dX8_findSpans_102 (fun H locs hP hD hS => ?_)
        replace hP : va_P D vwCl [(a_mo, oX8 a_moR mo_e mo_f mo_codes mo_most mo_minus mo_low mo_function mo_atX mo_atM a_moK a_moH a_moS mo_spanFunction mo_spanRounding mo_spanMany a_moF a_moT mo_parts mo_shift a_moP a_moQ a_moA a_moB a_moD), (a_moF, .inl (cI, 16384, .inl moF_r)), (a_moT, .inl (cI, 16384, .inl (upd moT_r (mo_spanMany - (1 : Int32)).toNatClampNeg x4)))] H := hP
        replace hD : va_D A [(a_mo, oX8 a_moR mo_e mo_f mo_codes mo_most mo_minus mo_low mo_function mo_atX mo_atM a_moK a_moH a_moS mo_spanFunction mo_spanRounding mo_spanMany a_moF a_moT mo_parts mo_shift a_moP a_moQ a_moA a_moB a_moD), (a_moF, .inl (cI, 16384, .inl moF_r)), (a_moT, .inl (cI, 16384, .inl (upd moT_r (mo_spanMany - (1 : Int32)).toNatClampNeg x4)))] := hD
        refine lv_iload hx hb dX8_findSpans_103 (lv_at hl 4 rfl) ?_
        refine lv_istore_n (lv' := [(3, .int x5), (0, .ref a_mo), (1, .int p1), (2, .int p2), (4, .int x4), (5, .int x5)]) hx hb dX8_findSpans_105 rfl hl (by decide) rfl (fun ls hl => ?_)
        refine lv_iinc (v := (x4 + (1 : Int32))) (lv' := [(4, .int (x4 + (1 : Int32))), (3, .int x5), (0, .ref a_mo), (1, .int p1), (2, .int p2), (5, .int x5)]) hx hb dX8_findSpans_106 hl (k := 4) rfl rfl (by decide) rfl (fun ls hl => ?_)
        refine lv_goto (tgt := 37) hx hb dX8_findSpans_109 (by decide) ?_
        exact ih_37 mo_function mo_atX mo_atM mo_spanFunction mo_spanRounding mo_spanMany moF_r (upd moT_r (mo_spanMany - (1 : Int32)).toNatClampNeg x4) x5 (x4 + (1 : Int32)) H locs ls ho hP hD hS (lv_sub hl [2, 3, 4, 1, 0] rfl)
      have C_69 : ∀ (mo_function : Int32) (mo_atX : Int32) (mo_atM : Int64) (mo_spanFunction : Int32) (mo_spanRounding : Int32) (mo_spanMany : Int32) (moF_r : Nat → Int32) (moT_r : Nat → Int32) (x4 : Int32) (x5 : Int32) (H : Heap) (locs : List Loc) (ls : Array Slot), wp_X8_findSpans_69 post (wp_X8_findSpans_37 post mo_f mo_most mo_minus mo_low p1 p2 n_37) mo_function mo_atX mo_atM mo_spanFunction mo_spanRounding mo_spanMany moF_r moT_r x4 x5 → va_P D vwCl [(a_mo, oX8 a_moR mo_e mo_f mo_codes mo_most mo_minus mo_low mo_function mo_atX mo_atM a_moK a_moH a_moS mo_spanFunction mo_spanRounding mo_spanMany a_moF a_moT mo_parts mo_shift a_moP a_moQ a_moA a_moB a_moD), (a_moF, .inl (cI, 16384, .inl moF_r)), (a_moT, .inl (cI, 16384, .inl moT_r))] H → va_D A [(a_mo, oX8 a_moR mo_e mo_f mo_codes mo_most mo_minus mo_low mo_function mo_atX mo_atM a_moK a_moH a_moS mo_spanFunction mo_spanRounding mo_spanMany a_moF a_moT mo_parts mo_shift a_moP a_moQ a_moA a_moB a_moD), (a_moF, .inl (cI, 16384, .inl moF_r)), (a_moT, .inl (cI, 16384, .inl moT_r))] → va_S A s.heap H locs → lv_has ls 6 [(0, .ref a_mo), (1, .int p1), (2, .int p2), (4, .int x4), (5, .int x5)] → W p l e R s m args below meth c H locs 0 0 Q (F0 m 69 ls []) := by
        intro mo_function mo_atX mo_atM mo_spanFunction mo_spanRounding mo_spanMany moF_r moT_r x4 x5 H locs ls ho hP hD hS hl
        unfold wp_X8_findSpans_69 at ho
        refine lv_aload_n hx hb dX8_findSpans_69 rfl (lv_at hl 0 rfl) ?_
        refine va_get (D := D) (ci := 7) (v := .ref a_moF) (C := RX8) (T := TX8) (N := 25) hx hb hts inlX8 hown hK hP 0 rfl rfl 16 (by decide) (hts _ wl_104) (fun _ h9 => h9) rfl dX8_findSpans_70 ?_
        refine lv_aload_n hx hb dX8_findSpans_73 rfl (lv_at hl 0 rfl) ?_
        refine va_get (D := D) (ci := 7) (v := .int mo_spanMany) (C := RX8) (T := TX8) (N := 25) hx hb hts inlX8 hown hK hP 0 rfl rfl 15 (by decide) (hts _ wl_622) (fun _ h9 => h9) rfl dX8_findSpans_74 ?_
        refine lv_iload hx hb dX8_findSpans_77 (lv_at hl 3 rfl) ?_
        have o_79 := ho.1
        replace ho := ho.2
        refine va_iast hx hb hK hP hD hS 1 0 rfl rfl o_79 dX8_findSpans_79 (fun H locs hP hD hS => ?_)
        replace hP : va_P D vwCl [(a_mo, oX8 a_moR mo_e mo_f mo_codes mo_most mo_minus mo_low mo_function mo_atX mo_atM a_moK a_moH a_moS mo_spanFunction mo_spanRounding mo_spanMany a_moF a_moT mo_parts mo_shift a_moP a_moQ a_moA a_moB a_moD), (a_moF, .inl (cI, 16384, .inl (upd moF_r mo_spanMany.toNatClampNeg x4))), (a_moT, .inl (cI, 16384, .inl moT_r))] H := hP
        replace hD : va_D A [(a_mo, oX8 a_moR mo_e mo_f mo_codes mo_most mo_minus mo_low mo_function mo_atX mo_atM a_moK a_moH a_moS mo_spanFunction mo_spanRounding mo_spanMany a_moF a_moT mo_parts mo_shift a_moP a_moQ a_moA a_moB a_moD), (a_moF, .inl (cI, 16384, .inl (upd moF_r mo_spanMany.toNatClampNeg x4))), (a_moT, .inl (cI, 16384, .inl moT_r))] := hD
        refine lv_aload_n hx hb dX8_findSpans_80 rfl (lv_at hl 0 rfl) ?_
        refine lv_dup hx hb dX8_findSpans_81 rfl ?_
        refine va_get (D := D) (ci := 7) (v := .int mo_spanMany) (C := RX8) (T := TX8) (N := 25) hx hb hts inlX8 hown hK hP 0 rfl rfl 15 (by decide) (hts _ wl_622) (fun _ h9 => h9) rfl dX8_findSpans_82 ?_
        refine lv_iconst (v := 1) hx hb dX8_findSpans_85 (by decide) ?_
        refine lv_iadd hx hb dX8_findSpans_86 ?_
        refine va_put (D := D) (ci := 7) (v := .int (mo_spanMany + (1 : Int32))) (ty := .int) (C := RX8) (T := TX8) (N := 25) hx hb hts inlX8 tyX8 tyX8_ok nmX8 hown hK hP hD hS 0 rfl rfl 15 (by decide) (hts _ wl_622) (fun _ h9 => h9) rfl (by decide +kernel) rfl rfl (Nat.le_of_ble_eq_true rfl) dX8_findSpans_87 (fun H locs hP hD hS => ?_)
        replace hP : va_P D vwCl [(a_mo, oX8 a_moR mo_e mo_f mo_codes mo_most mo_minus mo_low mo_function mo_atX mo_atM a_moK a_moH a_moS mo_spanFunction mo_spanRounding (mo_spanMany + (1 : Int32)) a_moF a_moT mo_parts mo_shift a_moP a_moQ a_moA a_moB a_moD), (a_moF, .inl (cI, 16384, .inl (upd moF_r mo_spanMany.toNatClampNeg x4))), (a_moT, .inl (cI, 16384, .inl moT_r))] H := hP
        replace hD : va_D A [(a_mo, oX8 a_moR mo_e mo_f mo_codes mo_most mo_minus mo_low mo_function mo_atX mo_atM a_moK a_moH a_moS mo_spanFunction mo_spanRounding (mo_spanMany + (1 : Int32)) a_moF a_moT mo_parts mo_shift a_moP a_moQ a_moA a_moB a_moD), (a_moF, .inl (cI, 16384, .inl (upd moF_r mo_spanMany.toNatClampNeg x4))), (a_moT, .inl (cI, 16384, .inl moT_r))] := hD
        exact C_90 mo_function mo_atX mo_atM mo_spanFunction mo_spanRounding (mo_spanMany + (1 : Int32)) (upd moF_r mo_spanMany.toNatClampNeg x4) moT_r x4 x5 H locs ls ho hP hD hS (lv_sub hl [0, 1, 2, 3, 4] rfl)
      intro mo_function mo_atX mo_atM mo_spanFunction mo_spanRounding mo_spanMany moF_r moT_r x3 x4 H locs ls ho hP hD hS hl
      replace ho : wp_X8_findSpans_37_b post mo_f mo_most mo_minus mo_low p1 p2 (wp_X8_findSpans_37 post mo_f mo_most mo_minus mo_low p1 p2 n_37) mo_function mo_atX mo_atM mo_spanFunction mo_spanRounding mo_spanMany moF_r moT_r x3 x4 := ho
      unfold wp_X8_findSpans_37_b at ho
      refine lv_iload hx hb dX8_findSpans_37 (lv_at hl 4 rfl) ?_
      refine lv_aload_n hx hb dX8_findSpans_39 rfl (lv_at hl 0 rfl) ?_
      refine va_get (D := D) (ci := 7) (v := .int mo_most) (C := RX8) (T := TX8) (N := 25) hx hb hts inlX8 hown hK hP 0 rfl rfl 4 (by decide) (hts _ wl_120) (fun _ h9 => h9) rfl dX8_findSpans_40 ?_
      refine lv_icmp_gt (tgt := 112) hx hb dX8_findSpans_43 (by decide) (fun c_43 => ?_) (fun c_43 => ?_)
      · replace ho := ho.1 c_43
        subst hQ; exact W.vret hx hb hr (fun t ht hW => ⟨⟨(mo_function, mo_atX, mo_atM, mo_spanFunction, mo_spanRounding, mo_spanMany, moF_r, moT_r), rfl, ho, by rw [ht]; exact hP, hD⟩, hS.F ht⟩) (fun q hq => hS.2.2 q hq) dX8_findSpans_112
      · replace ho := ho.2 c_43
        refine lv_aload_n hx hb dX8_findSpans_46 rfl (lv_at hl 0 rfl) ?_
        refine lv_iload_n hx hb dX8_findSpans_47 rfl (lv_at hl 1 rfl) ?_
        refine lv_iload hx hb dX8_findSpans_48 (lv_at hl 4 rfl) ?_
        refine lv_iload_n hx hb dX8_findSpans_50 rfl (lv_at hl 2 rfl) ?_
        refine ca_Wi (b := a_mo) (As := [.int p1, .int x4, .int p2]) (rest := []) (wr := [(a_moF, .inl (cI, 16384, .inl moF_r)), (a_moT, .inl (cI, 16384, .inl moT_r))]) (wo := fun (u : (Int32) × (Int32) × (Int64)) => [(a_mo, oX8 a_moR mo_e mo_f mo_codes mo_most mo_minus mo_low u.1 u.2.1 u.2.2 a_moK a_moH a_moS mo_spanFunction mo_spanRounding mo_spanMany a_moF a_moT mo_parts mo_shift a_moP a_moQ a_moA a_moB a_moD)]) (wn := fun (u : (Int32) × (Int32) × (Int64)) => [(a_mo, oX8 a_moR mo_e mo_f mo_codes mo_most mo_minus mo_low u.1 u.2.1 u.2.2 a_moK a_moH a_moS mo_spanFunction mo_spanRounding mo_spanMany a_moF a_moT mo_parts mo_shift a_moP a_moQ a_moA a_moB a_moD), (a_moF, .inl (cI, 16384, .inl moF_r)), (a_moT, .inl (cI, 16384, .inl moT_r))]) ⟨hx, hb, hml, hown, hts⟩ (c_X8_rightOf l D cI cJ cZ a_mo a_moR a_moK a_moH a_moS a_moF a_moT a_moP a_moQ a_moA a_moB a_moD H.size mo_e mo_f mo_codes mo_most mo_minus mo_low mo_function mo_atX mo_atM mo_spanFunction mo_spanRounding mo_spanMany mo_parts mo_shift p1 x4 p2 _ _ rfl ho) (cwV 3 hts (gdV wl_472 wl_473 wl_474 wl_5 wl_475) rfl rfl rfl (by decide +kernel) ⟨hRf _ (Nat.le_of_ble_eq_true rfl), hRl _ (Nat.le_of_ble_eq_true rfl)⟩) hK hN hP hD hS hA [0] [1, 2] [2, 0, 1] rfl rfl (by decide) (by decide) (by decide) (by decide) (fun _ => rfl) 0 7 rfl rfl rfl rfl hl.1 rfl (Nat.le_of_ble_eq_true rfl) dX8_findSpans_51 ⟨Nat.zero_le _, Nat.zero_le _⟩ (fun r51 u51 H locs ho hP hD hS => ?_)
        obtain ⟨u51_1, u51_2, u51_3⟩ := u51
        try dsimp only at ho
        replace hP : va_P D vwCl [(a_mo, oX8 a_moR mo_e mo_f mo_codes mo_most mo_minus mo_low u51_1 u51_2 u51_3 a_moK a_moH a_moS mo_spanFunction mo_spanRounding mo_spanMany a_moF a_moT mo_parts mo_shift a_moP a_moQ a_moA a_moB a_moD), (a_moF, .inl (cI, 16384, .inl moF_r)), (a_moT, .inl (cI, 16384, .inl moT_r))] H := hP
        replace hD : va_D A [(a_mo, oX8 a_moR mo_e mo_f mo_codes mo_most mo_minus mo_low u51_1 u51_2 u51_3 a_moK a_moH a_moS mo_spanFunction mo_spanRounding mo_spanMany a_moF a_moT mo_parts mo_shift a_moP a_moQ a_moA a_moB a_moD), (a_moF, .inl (cI, 16384, .inl moF_r)), (a_moT, .inl (cI, 16384, .inl moT_r))] := hD
        refine lv_istore (lv' := [(5, .int r51), (0, .ref a_mo), (1, .int p1), (2, .int p2), (3, .int x3), (4, .int x4)]) hx hb dX8_findSpans_54 hl (by decide) rfl (fun ls hl => ?_)
        refine lv_aload_n hx hb dX8_findSpans_56 rfl (lv_at hl 1 rfl) ?_
        refine va_get (D := D) (ci := 7) (v := .int mo_spanMany) (C := RX8) (T := TX8) (N := 25) hx hb hts inlX8 hown hK hP 0 rfl rfl 15 (by decide) (hts _ wl_622) (fun _ h9 => h9) rfl dX8_findSpans_57 ?_
        refine lv_if_eq (tgt := 69) hx hb dX8_findSpans_60 (by decide) (fun c_60 => ?_) (fun c_60 => ?_)
        · replace ho := ho.1 c_60
          exact C_69 u51_1 u51_2 u51_3 mo_spanFunction mo_spanRounding mo_spanMany moF_r moT_r x4 r51 H locs ls ho hP hD hS (lv_sub hl [1, 2, 3, 5, 0] rfl)
        · replace ho := ho.2 c_60
          refine lv_iload hx hb dX8_findSpans_63 (lv_at hl 0 rfl) ?_
          refine lv_iload_n hx hb dX8_findSpans_65 rfl (lv_at hl 4 rfl) ?_
          refine lv_icmp_eq (tgt := 90) hx hb dX8_findSpans_66 (by decide) (fun c_66 => ?_) (fun c_66 => ?_)
          · replace ho := ho.1 c_66
            exact C_90 u51_1 u51_2 u51_3 mo_spanFunction mo_spanRounding mo_spanMany moF_r moT_r x4 r51 H locs ls ho hP hD hS (lv_sub hl [1, 2, 3, 5, 0] rfl)
          · replace ho := ho.2 c_66
            exact C_69 u51_1 u51_2 u51_3 mo_spanFunction mo_spanRounding mo_spanMany moF_r moT_r x4 r51 H locs ls ho hP hD hS (lv_sub hl [1, 2, 3, 5, 0] rfl)
  have C_17 : ∀ (mo_function : Int32) (mo_atX : Int32) (mo_atM : Int64) (mo_spanFunction : Int32) (mo_spanRounding : Int32) (mo_spanMany : Int32) (moF_r : Nat → Int32) (moT_r : Nat → Int32) (H : Heap) (locs : List Loc) (ls : Array Slot), wp_X8_findSpans_17 post  mo_f mo_most mo_minus mo_low mo_function mo_atX mo_atM moF_r moT_r p1 p2 → va_P D vwCl [(a_mo, oX8 a_moR mo_e mo_f mo_codes mo_most mo_minus mo_low mo_function mo_atX mo_atM a_moK a_moH a_moS mo_spanFunction mo_spanRounding mo_spanMany a_moF a_moT mo_parts mo_shift a_moP a_moQ a_moA a_moB a_moD), (a_moF, .inl (cI, 16384, .inl moF_r)), (a_moT, .inl (cI, 16384, .inl moT_r))] H → va_D A [(a_mo, oX8 a_moR mo_e mo_f mo_codes mo_most mo_minus mo_low mo_function mo_atX mo_atM a_moK a_moH a_moS mo_spanFunction mo_spanRounding mo_spanMany a_moF a_moT mo_parts mo_shift a_moP a_moQ a_moA a_moB a_moD), (a_moF, .inl (cI, 16384, .inl moF_r)), (a_moT, .inl (cI, 16384, .inl moT_r))] → va_S A s.heap H locs → lv_has ls 6 [(0, .ref a_mo), (1, .int p1), (2, .int p2)] → W p l e R s m args below meth c H locs 0 0 Q (F0 m 17 ls []) := by
    intro mo_function mo_atX mo_atM mo_spanFunction mo_spanRounding mo_spanMany moF_r moT_r H locs ls ho hP hD hS hl
    unfold wp_X8_findSpans_17 at ho
    refine lv_aload_n hx hb dX8_findSpans_17 rfl (lv_at hl 0 rfl) ?_
    refine lv_iload_n hx hb dX8_findSpans_18 rfl (lv_at hl 1 rfl) ?_
    refine va_put (D := D) (ci := 7) (v := .int p1) (ty := .int) (C := RX8) (T := TX8) (N := 25) hx hb hts inlX8 tyX8 tyX8_ok nmX8 hown hK hP hD hS 0 rfl rfl 13 (by decide) (hts _ wl_123) (fun _ h9 => h9) rfl (by decide +kernel) rfl rfl (Nat.le_of_ble_eq_true rfl) dX8_findSpans_19 (fun H locs hP hD hS => ?_)
    replace hP : va_P D vwCl [(a_mo, oX8 a_moR mo_e mo_f mo_codes mo_most mo_minus mo_low mo_function mo_atX mo_atM a_moK a_moH a_moS p1 mo_spanRounding mo_spanMany a_moF a_moT mo_parts mo_shift a_moP a_moQ a_moA a_moB a_moD), (a_moF, .inl (cI, 16384, .inl moF_r)), (a_moT, .inl (cI, 16384, .inl moT_r))] H := hP
    replace hD : va_D A [(a_mo, oX8 a_moR mo_e mo_f mo_codes mo_most mo_minus mo_low mo_function mo_atX mo_atM a_moK a_moH a_moS p1 mo_spanRounding mo_spanMany a_moF a_moT mo_parts mo_shift a_moP a_moQ a_moA a_moB a_moD), (a_moF, .inl (cI, 16384, .inl moF_r)), (a_moT, .inl (cI, 16384, .inl moT_r))] := hD
    refine lv_aload_n hx hb dX8_findSpans_22 rfl (lv_at hl 0 rfl) ?_
    refine lv_iload_n hx hb dX8_findSpans_23 rfl (lv_at hl 2 rfl) ?_
    refine va_put (D := D) (ci := 7) (v := .int p2) (ty := .int) (C := RX8) (T := TX8) (N := 25) hx hb hts inlX8 tyX8 tyX8_ok nmX8 hown hK hP hD hS 0 rfl rfl 14 (by decide) (hts _ wl_627) (fun _ h9 => h9) rfl (by decide +kernel) rfl rfl (Nat.le_of_ble_eq_true rfl) dX8_findSpans_24 (fun H locs hP hD hS => ?_)
    replace hP : va_P D vwCl [(a_mo, oX8 a_moR mo_e mo_f mo_codes mo_most mo_minus mo_low mo_function mo_atX mo_atM a_moK a_moH a_moS p1 p2 mo_spanMany a_moF a_moT mo_parts mo_shift a_moP a_moQ a_moA a_moB a_moD), (a_moF, .inl (cI, 16384, .inl moF_r)), (a_moT, .inl (cI, 16384, .inl moT_r))] H := hP
    replace hD : va_D A [(a_mo, oX8 a_moR mo_e mo_f mo_codes mo_most mo_minus mo_low mo_function mo_atX mo_atM a_moK a_moH a_moS p1 p2 mo_spanMany a_moF a_moT mo_parts mo_shift a_moP a_moQ a_moA a_moB a_moD), (a_moF, .inl (cI, 16384, .inl moF_r)), (a_moT, .inl (cI, 16384, .inl moT_r))] := hD
    refine lv_aload_n hx hb dX8_findSpans_27 rfl (lv_at hl 0 rfl) ?_
    refine lv_iconst (v := 0) hx hb dX8_findSpans_28 (by decide) ?_
    refine va_put (D := D) (ci := 7) (v := .int (0 : Int32)) (ty := .int) (C := RX8) (T := TX8) (N := 25) hx hb hts inlX8 tyX8 tyX8_ok nmX8 hown hK hP hD hS 0 rfl rfl 15 (by decide) (hts _ wl_622) (fun _ h9 => h9) rfl (by decide +kernel) rfl rfl (Nat.le_of_ble_eq_true rfl) dX8_findSpans_29 (fun H locs hP hD hS => ?_)
    replace hP : va_P D vwCl [(a_mo, oX8 a_moR mo_e mo_f mo_codes mo_most mo_minus mo_low mo_function mo_atX mo_atM a_moK a_moH a_moS p1 p2 (0 : Int32) a_moF a_moT mo_parts mo_shift a_moP a_moQ a_moA a_moB a_moD), (a_moF, .inl (cI, 16384, .inl moF_r)), (a_moT, .inl (cI, 16384, .inl moT_r))] H := hP
    replace hD : va_D A [(a_mo, oX8 a_moR mo_e mo_f mo_codes mo_most mo_minus mo_low mo_function mo_atX mo_atM a_moK a_moH a_moS p1 p2 (0 : Int32) a_moF a_moT mo_parts mo_shift a_moP a_moQ a_moA a_moB a_moD), (a_moF, .inl (cI, 16384, .inl moF_r)), (a_moT, .inl (cI, 16384, .inl moT_r))] := hD
    refine lv_iconst (v := (-1)) hx hb dX8_findSpans_32 (by decide) ?_
    refine lv_istore_n (lv' := [(3, .int (-1 : Int32)), (0, .ref a_mo), (1, .int p1), (2, .int p2)]) hx hb dX8_findSpans_33 rfl hl (by decide) rfl (fun ls hl => ?_)
    refine lv_iconst (v := 1) hx hb dX8_findSpans_34 (by decide) ?_
    refine lv_istore (lv' := [(4, .int (1 : Int32)), (3, .int (-1 : Int32)), (0, .ref a_mo), (1, .int p1), (2, .int p2)]) hx hb dX8_findSpans_35 hl (by decide) rfl (fun ls hl => ?_)
    obtain ⟨n_37, ho⟩ := ho
    exact C_37 n_37 mo_function mo_atX mo_atM p1 p2 (0 : Int32) moF_r moT_r (-1 : Int32) (1 : Int32) H locs ls ho hP hD hS (lv_sub hl [2, 3, 4, 1, 0] rfl)
  suffices main : ∀ (H : Heap) (locs : List Loc), va_P D vwCl [(a_mo, oX8 a_moR mo_e mo_f mo_codes mo_most mo_minus mo_low mo_function mo_atX mo_atM a_moK a_moH a_moS mo_spanFunction mo_spanRounding mo_spanMany a_moF a_moT mo_parts mo_shift a_moP a_moQ a_moA a_moB a_moD), (a_moF, .inl (cI, 16384, .inl moF_r)), (a_moT, .inl (cI, 16384, .inl moT_r))] H → va_S A s.heap H locs → W p l e R s m args below meth c H locs 0 0 Q (F0 m 0 ls []) from main _ _ hP hS
  intro H locs hP hS
  unfold wp_X8_findSpans at ho
  refine lv_aload_n hx hb dX8_findSpans_0 rfl (lv_at hl 0 rfl) ?_
  refine va_get (D := D) (ci := 7) (v := .int mo_spanFunction) (C := RX8) (T := TX8) (N := 25) hx hb hts inlX8 hown hK hP 0 rfl rfl 13 (by decide) (hts _ wl_123) (fun _ h9 => h9) rfl dX8_findSpans_1 ?_
  refine lv_iload_n hx hb dX8_findSpans_4 rfl (lv_at hl 1 rfl) ?_
  refine lv_icmp_ne (tgt := 17) hx hb dX8_findSpans_5 (by decide) (fun c_5 => ?_) (fun c_5 => ?_)
  · replace ho := ho.1 c_5
    exact C_17 mo_function mo_atX mo_atM mo_spanFunction mo_spanRounding mo_spanMany moF_r moT_r H locs ls ho hP hD hS (lv_sub hl [0, 1, 2] rfl)
  · replace ho := ho.2 c_5
    refine lv_aload_n hx hb dX8_findSpans_8 rfl (lv_at hl 0 rfl) ?_
    refine va_get (D := D) (ci := 7) (v := .int mo_spanRounding) (C := RX8) (T := TX8) (N := 25) hx hb hts inlX8 hown hK hP 0 rfl rfl 14 (by decide) (hts _ wl_627) (fun _ h9 => h9) rfl dX8_findSpans_9 ?_
    refine lv_iload_n hx hb dX8_findSpans_12 rfl (lv_at hl 2 rfl) ?_
    refine lv_icmp_ne (tgt := 17) hx hb dX8_findSpans_13 (by decide) (fun c_13 => ?_) (fun c_13 => ?_)
    · replace ho := ho.1 c_13
      exact C_17 mo_function mo_atX mo_atM mo_spanFunction mo_spanRounding mo_spanMany moF_r moT_r H locs ls ho hP hD hS (lv_sub hl [0, 1, 2] rfl)
    · replace ho := ho.2 c_13
      subst hQ; exact W.vret hx hb hr (fun t ht hW => ⟨⟨(mo_function, mo_atX, mo_atM, mo_spanFunction, mo_spanRounding, mo_spanMany, moF_r, moT_r), rfl, ho, by rw [ht]; exact hP, hD⟩, hS.F ht⟩) (fun q hq => hS.2.2 q hq) dX8_findSpans_16

def w_X8_spans : List Cond := .code yX8_spans cX8_spans 3 (some .int) :: wsL_law
set_option maxHeartbeats 4000000 in
set_option maxRecDepth 100000 in
theorem c_X8_spans (l : Launch) (D : va_G) (cI cJ cZ : ClassId) (a_mo : Nat) (a_moR : Nat) (a_moK : Nat) (a_moH : Nat) (a_moS : Nat) (a_moF : Nat) (a_moT : Nat) (a_moP : Nat) (a_moQ : Nat) (a_moA : Nat) (a_moB : Nat) (a_moD : Nat) (sz : Nat) (mo_e : Int32) (mo_f : Int32) (mo_codes : Int32) (mo_most : Int32) (mo_minus : Int32) (mo_low : Int32) (mo_function : Int32) (mo_atX : Int32) (mo_atM : Int64) (mo_spanFunction : Int32) (mo_spanRounding : Int32) (mo_spanMany : Int32) (mo_parts : Int32) (mo_shift : Int32) (moR_r : Nat → Int32) (moF_r : Nat → Int32) (moT_r : Nat → Int32) (p1 : Int32) (p2 : Int32) (post : Int32 → Int32 → Int32 → Int64 → Int32 → Int32 → Int32 → (Nat → Int32) → (Nat → Int32) → (Nat → Int32) → Prop) (A : Nat → Prop) (hAe : A = va_A [(a_mo, oX8 a_moR mo_e mo_f mo_codes mo_most mo_minus mo_low mo_function mo_atX mo_atM a_moK a_moH a_moS mo_spanFunction mo_spanRounding mo_spanMany a_moF a_moT mo_parts mo_shift a_moP a_moQ a_moA a_moB a_moD), (a_moR, .inl (cI, 7, .inl moR_r)), (a_moF, .inl (cI, 16384, .inl moF_r)), (a_moT, .inl (cI, 16384, .inl moT_r))] sz) (ho : wp_X8_spans post mo_f mo_most mo_minus mo_low mo_function mo_atX mo_atM mo_spanFunction mo_spanRounding mo_spanMany moR_r moF_r moT_r p1 p2) : Met l yX8_spans w_X8_spans ({ frames := 7, cells := 0, slots := 0, locals := 176 } : Room) (rw_P D [(cI, .int), (cJ, .long), (cZ, .boolean)] [.ref a_mo, .int p1, .int p2] sz [(a_mo, oX8 a_moR mo_e mo_f mo_codes mo_most mo_minus mo_low mo_function mo_atX mo_atM a_moK a_moH a_moS mo_spanFunction mo_spanRounding mo_spanMany a_moF a_moT mo_parts mo_shift a_moP a_moQ a_moA a_moB a_moD), (a_moR, .inl (cI, 7, .inl moR_r)), (a_moF, .inl (cI, 16384, .inl moF_r)), (a_moT, .inl (cI, 16384, .inl moT_r))]) (va_Qi (fun (r : Int32) (u : (Int32) × (Int32) × (Int64) × (Int32) × (Int32) × (Int32) × (Nat → Int32) × (Nat → Int32) × (Nat → Int32)) => post r u.1 u.2.1 u.2.2.1 u.2.2.2.1 u.2.2.2.2.1 u.2.2.2.2.2.1 u.2.2.2.2.2.2.1 u.2.2.2.2.2.2.2.1 u.2.2.2.2.2.2.2.2) (rw_B D A (fun (u : (Int32) × (Int32) × (Int64) × (Int32) × (Int32) × (Int32) × (Nat → Int32) × (Nat → Int32) × (Nat → Int32)) => [(a_mo, oX8 a_moR mo_e mo_f mo_codes mo_most mo_minus mo_low u.1 u.2.1 u.2.2.1 a_moK a_moH a_moS u.2.2.2.1 u.2.2.2.2.1 u.2.2.2.2.2.1 a_moF a_moT mo_parts mo_shift a_moP a_moQ a_moA a_moB a_moD), (a_moR, .inl (cI, 7, .inl u.2.2.2.2.2.2.1)), (a_moF, .inl (cI, 16384, .inl u.2.2.2.2.2.2.2.1)), (a_moT, .inl (cI, 16384, .inl u.2.2.2.2.2.2.2.2))])) A) 0 0 A := by
  refine Met.ofW (cc := cX8_spans) (maxL := 3) (ret := (some .int)) (by decide) rfl ?_
  intro p e s m args below meth c s₁ B hml hv
  obtain ⟨hargs, hsz, hP, hK, hN, hD0⟩ := hv
  have hx := B.exec
  have hb := B.bytes
  have hr := B.returns
  have hts : ∀ w ∈ wsL_law, w.before args s = true := fun w h => atoms_spec (ws := w_X8_spans) B.pre w (List.mem_cons_of_mem _ h)
  have hown : s.vm.findClass RX8 = some m.cls := findClass_of_methodNamed B.named
  have hlocks := B.notSynchronized
  subst hsz
  have hD : va_D A [(a_mo, oX8 a_moR mo_e mo_f mo_codes mo_most mo_minus mo_low mo_function mo_atX mo_atM a_moK a_moH a_moS mo_spanFunction mo_spanRounding mo_spanMany a_moF a_moT mo_parts mo_shift a_moP a_moQ a_moA a_moB a_moD), (a_moR, .inl (cI, 7, .inl moR_r)), (a_moF, .inl (cI, 16384, .inl moF_r)), (a_moT, .inl (cI, 16384, .inl moT_r))] := by rw [hAe]; exact hD0.self
  have hA : ∀ q : Nat, s.heap.size ≤ q → A q := fun q h => by rw [hAe]; exact Or.inr h
  have hS : va_S A s.heap s.heap [] := va_S.rf
  have hl := lv_entry ([.ref a_mo, .int p1, .int p2]) (n := 3) (Nat.le_of_ble_eq_true rfl)
  rw [hargs, lg_entry_eq, ← hargs]
  generalize (lg_sl ([.ref a_mo, .int p1, .int p2]) ++ List.replicate (3 - (lg_sl ([.ref a_mo, .int p1, .int p2])).length) Slot.unset).toArray = ls at hl ⊢
  replace hl : lv_has ls 3 [(0, .ref a_mo), (1, .int p1), (2, .int p2)] := hl
  have hRf : ∀ n, n ≤ 7 → n ≤ (headSpec w_X8_spans ({ frames := 7, cells := 0, slots := 0, locals := 176 } : Room)).room.frames := fun n h => h
  have hRl : ∀ n, n ≤ 176 → n ≤ (headSpec w_X8_spans ({ frames := 7, cells := 0, slots := 0, locals := 176 } : Room)).room.locals := fun n h => h
  generalize (headSpec w_X8_spans ({ frames := 7, cells := 0, slots := 0, locals := 176 } : Room)).room = R at hRf hRl ⊢
  generalize hQ : MQ below _ args s 0 0 _ = Q
  have C_15 : ∀ (mo_function : Int32) (mo_atX : Int32) (mo_atM : Int64) (mo_spanFunction : Int32) (mo_spanRounding : Int32) (mo_spanMany : Int32) (moR_r : Nat → Int32) (moF_r : Nat → Int32) (moT_r : Nat → Int32) (H : Heap) (locs : List Loc) (ls : Array Slot), wp_X8_spans_15 post  mo_function mo_atX mo_atM mo_spanFunction mo_spanRounding mo_spanMany moR_r moF_r moT_r → va_P D vwCl [(a_mo, oX8 a_moR mo_e mo_f mo_codes mo_most mo_minus mo_low mo_function mo_atX mo_atM a_moK a_moH a_moS mo_spanFunction mo_spanRounding mo_spanMany a_moF a_moT mo_parts mo_shift a_moP a_moQ a_moA a_moB a_moD), (a_moR, .inl (cI, 7, .inl moR_r)), (a_moF, .inl (cI, 16384, .inl moF_r)), (a_moT, .inl (cI, 16384, .inl moT_r))] H → va_D A [(a_mo, oX8 a_moR mo_e mo_f mo_codes mo_most mo_minus mo_low mo_function mo_atX mo_atM a_moK a_moH a_moS mo_spanFunction mo_spanRounding mo_spanMany a_moF a_moT mo_parts mo_shift a_moP a_moQ a_moA a_moB a_moD), (a_moR, .inl (cI, 7, .inl moR_r)), (a_moF, .inl (cI, 16384, .inl moF_r)), (a_moT, .inl (cI, 16384, .inl moT_r))] → va_S A s.heap H locs → lv_has ls 3 [(0, .ref a_mo)] → W p l e R s m args below meth c H locs 0 0 Q (F0 m 15 ls []) := by
    intro mo_function mo_atX mo_atM mo_spanFunction mo_spanRounding mo_spanMany moR_r moF_r moT_r H locs ls ho hP hD hS hl
    unfold wp_X8_spans_15 at ho
    refine lv_aload_n hx hb dX8_spans_15 rfl (lv_at hl 0 rfl) ?_
    refine lv_iconst (v := (-1)) hx hb dX8_spans_16 (by decide) ?_
    refine ca_Wi (b := a_mo) (As := [.int (-1 : Int32)]) (rest := []) (wr := [(a_moF, .inl (cI, 16384, .inl moF_r)), (a_moT, .inl (cI, 16384, .inl moT_r))]) (wo := fun (u : (Nat → Int32)) => [(a_mo, oX8 a_moR mo_e mo_f mo_codes mo_most mo_minus mo_low mo_function mo_atX mo_atM a_moK a_moH a_moS mo_spanFunction mo_spanRounding mo_spanMany a_moF a_moT mo_parts mo_shift a_moP a_moQ a_moA a_moB a_moD), (a_moR, .inl (cI, 7, .inl u))]) (wn := fun (u : (Nat → Int32)) => [(a_mo, oX8 a_moR mo_e mo_f mo_codes mo_most mo_minus mo_low mo_function mo_atX mo_atM a_moK a_moH a_moS mo_spanFunction mo_spanRounding mo_spanMany a_moF a_moT mo_parts mo_shift a_moP a_moQ a_moA a_moB a_moD), (a_moR, .inl (cI, 7, .inl u)), (a_moF, .inl (cI, 16384, .inl moF_r)), (a_moT, .inl (cI, 16384, .inl moT_r))]) ⟨hx, hb, hml, hown, hts⟩ (c_X8_refuse l D cI cJ cZ a_mo a_moR a_moK a_moH a_moS a_moF a_moT a_moP a_moQ a_moA a_moB a_moD H.size mo_e mo_f mo_codes mo_most mo_minus mo_low mo_function mo_atX mo_atM mo_spanFunction mo_spanRounding mo_spanMany mo_parts mo_shift moR_r (-1 : Int32) _ _ rfl ho) (cwV 1 hts (gdV wl_165 wl_166 wl_167 wl_5 wl_168) rfl rfl rfl (by decide +kernel) ⟨hRf _ (Nat.le_of_ble_eq_true rfl), hRl _ (Nat.le_of_ble_eq_true rfl)⟩) hK hN hP hD hS hA [0, 1] [2, 3] [2, 3, 0, 1] rfl rfl (by decide) (by decide) (by decide) (by decide) (fun _ => rfl) 0 7 rfl rfl rfl rfl hl.1 rfl (Nat.le_of_ble_eq_true rfl) dX8_spans_17 ⟨Nat.zero_le _, Nat.zero_le _⟩ (fun r17 u17 H locs ho hP hD hS => ?_)
    try dsimp only at ho
    replace hP : va_P D vwCl [(a_mo, oX8 a_moR mo_e mo_f mo_codes mo_most mo_minus mo_low mo_function mo_atX mo_atM a_moK a_moH a_moS mo_spanFunction mo_spanRounding mo_spanMany a_moF a_moT mo_parts mo_shift a_moP a_moQ a_moA a_moB a_moD), (a_moR, .inl (cI, 7, .inl u17)), (a_moF, .inl (cI, 16384, .inl moF_r)), (a_moT, .inl (cI, 16384, .inl moT_r))] H := hP
    replace hD : va_D A [(a_mo, oX8 a_moR mo_e mo_f mo_codes mo_most mo_minus mo_low mo_function mo_atX mo_atM a_moK a_moH a_moS mo_spanFunction mo_spanRounding mo_spanMany a_moF a_moT mo_parts mo_shift a_moP a_moQ a_moA a_moB a_moD), (a_moR, .inl (cI, 7, .inl u17)), (a_moF, .inl (cI, 16384, .inl moF_r)), (a_moT, .inl (cI, 16384, .inl moT_r))] := hD
    subst hQ; exact W.iret (v := r17) hx hb hr (fun t ht hW => ⟨⟨r17, (mo_function, mo_atX, mo_atM, mo_spanFunction, mo_spanRounding, mo_spanMany, u17, moF_r, moT_r), rfl, ho, by rw [ht]; exact hP, hD⟩, hS.F ht⟩) (fun q hq => hS.2.2 q hq) dX8_spans_20
  suffices main : ∀ (H : Heap) (locs : List Loc), va_P D vwCl [(a_mo, oX8 a_moR mo_e mo_f mo_codes mo_most mo_minus mo_low mo_function mo_atX mo_atM a_moK a_moH a_moS mo_spanFunction mo_spanRounding mo_spanMany a_moF a_moT mo_parts mo_shift a_moP a_moQ a_moA a_moB a_moD), (a_moR, .inl (cI, 7, .inl moR_r)), (a_moF, .inl (cI, 16384, .inl moF_r)), (a_moT, .inl (cI, 16384, .inl moT_r))] H → va_S A s.heap H locs → W p l e R s m args below meth c H locs 0 0 Q (F0 m 0 ls []) from main _ _ hP hS
  intro H locs hP hS
  unfold wp_X8_spans at ho
  refine lv_iload_n hx hb dX8_spans_0 rfl (lv_at hl 1 rfl) ?_
  refine ca_Si (As := [.int p1]) (rest := []) ⟨hx, hb, hml, hown, hts⟩ (c_X8_isFunction l D cI cJ cZ   p1 _ ho) (va_cwS 1 hts (gdS wl_469 wl_470 wl_5 wl_471) rfl rfl rfl (by decide +kernel) ⟨hRf _ (Nat.le_of_ble_eq_true rfl), hRl _ (Nat.le_of_ble_eq_true rfl)⟩) hK hN hP [] rfl rfl hl.1 rfl (Nat.le_of_ble_eq_true rfl) dX8_spans_1 ⟨Nat.zero_le _, Nat.zero_le _⟩ (fun r1 ho => ?_)
  refine lv_if_eq (tgt := 15) hx hb dX8_spans_4 (by decide) (fun c_4 => ?_) (fun c_4 => ?_)
  · replace ho := ho.1 c_4
    exact C_15 mo_function mo_atX mo_atM mo_spanFunction mo_spanRounding mo_spanMany moR_r moF_r moT_r H locs ls ho hP hD hS (lv_sub hl [0] rfl)
  · replace ho := ho.2 c_4
    refine lv_iload_n hx hb dX8_spans_7 rfl (lv_at hl 2 rfl) ?_
    refine lv_iconst (v := 5) hx hb dX8_spans_8 (by decide) ?_
    refine ca_Si (As := [.int p2, .int (5 : Int32)]) (rest := []) ⟨hx, hb, hml, hown, hts⟩ (c_X8_isIn l D cI cJ cZ   p2 (5 : Int32) _ ho) (va_cwS 2 hts (gdS wl_254 wl_255 wl_5 wl_256) rfl rfl rfl (by decide +kernel) ⟨hRf _ (Nat.le_of_ble_eq_true rfl), hRl _ (Nat.le_of_ble_eq_true rfl)⟩) hK hN hP [] rfl rfl hl.1 rfl (Nat.le_of_ble_eq_true rfl) dX8_spans_9 ⟨Nat.zero_le _, Nat.zero_le _⟩ (fun r9 ho => ?_)
    refine lv_if_ne (tgt := 21) hx hb dX8_spans_12 (by decide) (fun c_12 => ?_) (fun c_12 => ?_)
    · replace ho := ho.1 c_12
      refine lv_aload_n hx hb dX8_spans_21 rfl (lv_at hl 0 rfl) ?_
      refine lv_iload_n hx hb dX8_spans_22 rfl (lv_at hl 1 rfl) ?_
      refine lv_iload_n hx hb dX8_spans_23 rfl (lv_at hl 2 rfl) ?_
      refine ca_Wv (b := a_mo) (As := [.int p1, .int p2]) (rest := []) (wr := [(a_moR, .inl (cI, 7, .inl moR_r))]) (wo := fun (u : (Int32) × (Int32) × (Int64) × (Int32) × (Int32) × (Int32) × (Nat → Int32) × (Nat → Int32)) => [(a_mo, oX8 a_moR mo_e mo_f mo_codes mo_most mo_minus mo_low u.1 u.2.1 u.2.2.1 a_moK a_moH a_moS u.2.2.2.1 u.2.2.2.2.1 u.2.2.2.2.2.1 a_moF a_moT mo_parts mo_shift a_moP a_moQ a_moA a_moB a_moD), (a_moF, .inl (cI, 16384, .inl u.2.2.2.2.2.2.1)), (a_moT, .inl (cI, 16384, .inl u.2.2.2.2.2.2.2))]) (wn := fun (u : (Int32) × (Int32) × (Int64) × (Int32) × (Int32) × (Int32) × (Nat → Int32) × (Nat → Int32)) => [(a_mo, oX8 a_moR mo_e mo_f mo_codes mo_most mo_minus mo_low u.1 u.2.1 u.2.2.1 a_moK a_moH a_moS u.2.2.2.1 u.2.2.2.2.1 u.2.2.2.2.2.1 a_moF a_moT mo_parts mo_shift a_moP a_moQ a_moA a_moB a_moD), (a_moR, .inl (cI, 7, .inl moR_r)), (a_moF, .inl (cI, 16384, .inl u.2.2.2.2.2.2.1)), (a_moT, .inl (cI, 16384, .inl u.2.2.2.2.2.2.2))]) ⟨hx, hb, hml, hown, hts⟩ (c_X8_findSpans l D cI cJ cZ a_mo a_moR a_moK a_moH a_moS a_moF a_moT a_moP a_moQ a_moA a_moB a_moD H.size mo_e mo_f mo_codes mo_most mo_minus mo_low mo_function mo_atX mo_atM mo_spanFunction mo_spanRounding mo_spanMany mo_parts mo_shift moF_r moT_r p1 p2 _ _ rfl ho) (cwV 2 hts (gdV wl_623 wl_624 wl_625 wl_5 wl_626) rfl rfl rfl (by decide +kernel) ⟨hRf _ (Nat.le_of_ble_eq_true rfl), hRl _ (Nat.le_of_ble_eq_true rfl)⟩) hK hN hP hD hS hA [0, 2, 3] [1] [1, 0, 2, 3] rfl rfl (by decide) (by decide) (by decide) (by decide) (fun _ => rfl) 0 7 rfl rfl rfl rfl hl.1 rfl (Nat.le_of_ble_eq_true rfl) dX8_spans_24 ⟨Nat.zero_le _, Nat.zero_le _⟩ (fun  u24 H locs ho hP hD hS => ?_)
      obtain ⟨u24_1, u24_2, u24_3, u24_4, u24_5, u24_6, u24_7, u24_8⟩ := u24
      try dsimp only at ho
      replace hP : va_P D vwCl [(a_mo, oX8 a_moR mo_e mo_f mo_codes mo_most mo_minus mo_low u24_1 u24_2 u24_3 a_moK a_moH a_moS u24_4 u24_5 u24_6 a_moF a_moT mo_parts mo_shift a_moP a_moQ a_moA a_moB a_moD), (a_moR, .inl (cI, 7, .inl moR_r)), (a_moF, .inl (cI, 16384, .inl u24_7)), (a_moT, .inl (cI, 16384, .inl u24_8))] H := hP
      replace hD : va_D A [(a_mo, oX8 a_moR mo_e mo_f mo_codes mo_most mo_minus mo_low u24_1 u24_2 u24_3 a_moK a_moH a_moS u24_4 u24_5 u24_6 a_moF a_moT mo_parts mo_shift a_moP a_moQ a_moA a_moB a_moD), (a_moR, .inl (cI, 7, .inl moR_r)), (a_moF, .inl (cI, 16384, .inl u24_7)), (a_moT, .inl (cI, 16384, .inl u24_8))] := hD
      refine lv_aload_n hx hb dX8_spans_27 rfl (lv_at hl 0 rfl) ?_
      refine va_get (D := D) (ci := 7) (v := .int u24_6) (C := RX8) (T := TX8) (N := 25) hx hb hts inlX8 hown hK hP 0 rfl rfl 15 (by decide) (hts _ wl_622) (fun _ h9 => h9) rfl dX8_spans_28 ?_
      subst hQ; exact W.iret (v := u24_6) hx hb hr (fun t ht hW => ⟨⟨u24_6, (u24_1, u24_2, u24_3, u24_4, u24_5, u24_6, moR_r, u24_7, u24_8), rfl, ho, by rw [ht]; exact hP, hD⟩, hS.F ht⟩) (fun q hq => hS.2.2 q hq) dX8_spans_31
    · replace ho := ho.2 c_12
      exact C_15 mo_function mo_atX mo_atM mo_spanFunction mo_spanRounding mo_spanMany moR_r moF_r moT_r H locs ls ho hP hD hS (lv_sub hl [0] rfl)
