def w_X8_plainly : List Cond := .code yX8_plainly cX8_plainly 6 (some .int) :: wsL_law
set_option maxHeartbeats 4000000 in
set_option maxRecDepth 100000 in
theorem c_X8_plainly (l : Launch) (D : va_G) (cI cJ cZ : ClassId) (a_mo : Nat) (a_moR : Nat) (a_moK : Nat) (a_moH : Nat) (a_moS : Nat) (a_moF : Nat) (a_moT : Nat) (a_moP : Nat) (a_moQ : Nat) (a_moA : Nat) (a_moB : Nat) (a_moD : Nat) (mo_e : Int32) (mo_f : Int32) (mo_codes : Int32) (mo_most : Int32) (mo_minus : Int32) (mo_low : Int32) (mo_function : Int32) (mo_atX : Int32) (mo_atM : Int64) (mo_spanFunction : Int32) (mo_spanRounding : Int32) (mo_spanMany : Int32) (mo_parts : Int32) (mo_shift : Int32) (p1 : Int32) (p2 : Int32) (post : Int32 → Prop) (ho : wp_X8_plainly post mo_most mo_minus p1 p2) : Met l yX8_plainly w_X8_plainly ({ frames := 2, cells := 0, slots := 0, locals := 43 } : Room) (ro_P D [(cI, .int), (cJ, .long), (cZ, .boolean)] [.ref a_mo, .int p1, .int p2] [(a_mo, oX8 a_moR mo_e mo_f mo_codes mo_most mo_minus mo_low mo_function mo_atX mo_atM a_moK a_moH a_moS mo_spanFunction mo_spanRounding mo_spanMany a_moF a_moT mo_parts mo_shift a_moP a_moQ a_moA a_moB a_moD)]) (vp_Si post) 0 0 (fun _ => False) := by
  refine Met.ofW (cc := cX8_plainly) (maxL := 6) (ret := (some .int)) (by decide) rfl ?_
  intro p e s m args below meth c s₁ B hml hv
  obtain ⟨hargs, hP, hK, hN⟩ := hv
  have hx := B.exec
  have hb := B.bytes
  have hr := B.returns
  have hts : ∀ w ∈ wsL_law, w.before args s = true := fun w h => atoms_spec (ws := w_X8_plainly) B.pre w (List.mem_cons_of_mem _ h)
  have hown : s.vm.findClass RX8 = some m.cls := findClass_of_methodNamed B.named
  have hlocks := B.notSynchronized
  have hl := lv_entry ([.ref a_mo, .int p1, .int p2]) (n := 6) (Nat.le_of_ble_eq_true rfl)
  rw [hargs, lg_entry_eq, ← hargs]
  generalize (lg_sl ([.ref a_mo, .int p1, .int p2]) ++ List.replicate (6 - (lg_sl ([.ref a_mo, .int p1, .int p2])).length) Slot.unset).toArray = ls at hl ⊢
  replace hl : lv_has ls 6 [(0, .ref a_mo), (1, .int p1), (2, .int p2)] := hl
  have hRf : ∀ n, n ≤ 2 → n ≤ (headSpec w_X8_plainly ({ frames := 2, cells := 0, slots := 0, locals := 43 } : Room)).room.frames := fun n h => h
  have hRl : ∀ n, n ≤ 43 → n ≤ (headSpec w_X8_plainly ({ frames := 2, cells := 0, slots := 0, locals := 43 } : Room)).room.locals := fun n h => h
  generalize (headSpec w_X8_plainly ({ frames := 2, cells := 0, slots := 0, locals := 43 } : Room)).room = R at hRf hRl ⊢
  generalize hQ : MQ below _ args s 0 0 _ = Q
  have C_53 : ∀ (x3 : Int32) (x4 : Int32) (x5 : Int32) (ls : Array Slot), wp_X8_plainly_53 post  p1 x3 x4 x5 → lv_has ls 6 [(1, .int p1), (3, .int x3), (4, .int x4), (5, .int x5)] → W p l e R s m args below meth c s.heap [] 0 0 Q (F0 m 53 ls []) := by
    intro x3 x4 x5 ls ho hl
    unfold wp_X8_plainly_53 at ho
    refine lv_iload hx hb dX8_plainly_53 (lv_at hl 2 rfl) ?_
    refine lv_iconst (v := 1) hx hb dX8_plainly_55 (by decide) ?_
    refine lv_icmp_ne (tgt := 81) hx hb dX8_plainly_56 (by decide) (fun c_56 => ?_) (fun c_56 => ?_)
    · replace ho := ho.1 c_56
      refine lv_iload hx hb dX8_plainly_81 (lv_at hl 2 rfl) ?_
      refine lv_iconst (v := 2) hx hb dX8_plainly_83 (by decide) ?_
      refine lv_icmp_ne (tgt := 110) hx hb dX8_plainly_84 (by decide) (fun c_84 => ?_) (fun c_84 => ?_)
      · replace ho := ho.1 c_84
        refine lv_iconst (v := (-1)) hx hb dX8_plainly_110 (by decide) ?_
        subst hQ; exact W.iret (v := (-1 : Int32)) hx hb hr (fun t ht _ => ⟨(-1 : Int32), rfl, ho, ht⟩) (fun _ h => by cases h) dX8_plainly_111
      · replace ho := ho.2 c_84
        refine lv_iload_n hx hb dX8_plainly_87 rfl (lv_at hl 0 rfl) ?_
        refine lv_if_ne (tgt := 95) hx hb dX8_plainly_88 (by decide) (fun c_88 => ?_) (fun c_88 => ?_)
        · replace ho := ho.1 c_88
          refine lv_iload_n hx hb dX8_plainly_95 rfl (lv_at hl 0 rfl) ?_
          refine lv_iconst (v := 3) hx hb dX8_plainly_96 (by decide) ?_
          refine lv_icmp_ne (tgt := 105) hx hb dX8_plainly_97 (by decide) (fun c_97 => ?_) (fun c_97 => ?_)
          · replace ho := ho.1 c_97
            refine lv_iload_n hx hb dX8_plainly_105 rfl (lv_at hl 1 rfl) ?_
            refine lv_iload hx hb dX8_plainly_106 (lv_at hl 3 rfl) ?_
            refine lv_iadd hx hb dX8_plainly_108 ?_
            subst hQ; exact W.iret (v := (x3 + x5)) hx hb hr (fun t ht _ => ⟨(x3 + x5), rfl, ho, ht⟩) (fun _ h => by cases h) dX8_plainly_109
          · replace ho := ho.2 c_97
            refine lv_iload hx hb dX8_plainly_100 (lv_at hl 3 rfl) ?_
            refine lv_goto (tgt := 109) hx hb dX8_plainly_102 (by decide) ?_
            subst hQ; exact W.iret (v := x5) hx hb hr (fun t ht _ => ⟨x5, rfl, ho, ht⟩) (fun _ h => by cases h) dX8_plainly_109
        · replace ho := ho.2 c_88
          refine lv_iload_n hx hb dX8_plainly_91 rfl (lv_at hl 1 rfl) ?_
          refine lv_goto (tgt := 109) hx hb dX8_plainly_92 (by decide) ?_
          subst hQ; exact W.iret (v := x3) hx hb hr (fun t ht _ => ⟨x3, rfl, ho, ht⟩) (fun _ h => by cases h) dX8_plainly_109
    · replace ho := ho.2 c_56
      refine lv_iload_n hx hb dX8_plainly_59 rfl (lv_at hl 0 rfl) ?_
      refine lv_if_ne (tgt := 70) hx hb dX8_plainly_60 (by decide) (fun c_60 => ?_) (fun c_60 => ?_)
      · replace ho := ho.1 c_60
        refine lv_iload_n hx hb dX8_plainly_70 rfl (lv_at hl 0 rfl) ?_
        refine lv_iconst (v := 3) hx hb dX8_plainly_71 (by decide) ?_
        refine lv_icmp_ne (tgt := 79) hx hb dX8_plainly_72 (by decide) (fun c_72 => ?_) (fun c_72 => ?_)
        · replace ho := ho.1 c_72
          refine lv_iload_n hx hb dX8_plainly_79 rfl (lv_at hl 1 rfl) ?_
          subst hQ; exact W.iret (v := x3) hx hb hr (fun t ht _ => ⟨x3, rfl, ho, ht⟩) (fun _ h => by cases h) dX8_plainly_80
        · replace ho := ho.2 c_72
          refine lv_iconst (v := 0) hx hb dX8_plainly_75 (by decide) ?_
          refine lv_goto (tgt := 80) hx hb dX8_plainly_76 (by decide) ?_
          subst hQ; exact W.iret (v := (0 : Int32)) hx hb hr (fun t ht _ => ⟨(0 : Int32), rfl, ho, ht⟩) (fun _ h => by cases h) dX8_plainly_80
      · replace ho := ho.2 c_60
        refine lv_iload_n hx hb dX8_plainly_63 rfl (lv_at hl 1 rfl) ?_
        refine lv_iload hx hb dX8_plainly_64 (lv_at hl 3 rfl) ?_
        refine lv_iadd hx hb dX8_plainly_66 ?_
        refine lv_goto (tgt := 80) hx hb dX8_plainly_67 (by decide) ?_
        subst hQ; exact W.iret (v := (x3 + x5)) hx hb hr (fun t ht _ => ⟨(x3 + x5), rfl, ho, ht⟩) (fun _ h => by cases h) dX8_plainly_80
  unfold wp_X8_plainly at ho
  refine lv_iload_n hx hb dX8_plainly_0 rfl (lv_at hl 2 rfl) ?_
  refine lv_aload_n hx hb dX8_plainly_1 rfl (lv_at hl 0 rfl) ?_
  refine va_get (D := D) (ci := 7) (v := .int mo_minus) (C := RX8) (T := TX8) (N := 25) hx hb hts inlX8 hown hK hP 0 rfl rfl 5 (by decide) (hts _ wl_119) (fun _ h9 => h9) rfl dX8_plainly_2 ?_
  have o_5 := ho.1
  replace ho := ho.2
  refine lv_idiv hx hb dX8_plainly_5 o_5 ?_
  refine lv_aload_n hx hb dX8_plainly_6 rfl (lv_at hl 0 rfl) ?_
  refine va_get (D := D) (ci := 7) (v := .int mo_minus) (C := RX8) (T := TX8) (N := 25) hx hb hts inlX8 hown hK hP 0 rfl rfl 5 (by decide) (hts _ wl_119) (fun _ h9 => h9) rfl dX8_plainly_7 ?_
  refine lv_imul hx hb dX8_plainly_10 ?_
  refine lv_istore_n (lv' := [(3, .int ((p2 / mo_minus) * mo_minus)), (0, .ref a_mo), (1, .int p1), (2, .int p2)]) hx hb dX8_plainly_11 rfl hl (by decide) rfl (fun ls hl => ?_)
  refine lv_aload_n hx hb dX8_plainly_12 rfl (lv_at hl 1 rfl) ?_
  refine lv_iload_n hx hb dX8_plainly_13 rfl (lv_at hl 3 rfl) ?_
  refine ca_Vi (b := a_mo) (As := [.int p2]) (rest := []) ⟨hx, hb, hml, hown, hts⟩ (c_X8_kind l D cI cJ cZ a_mo a_moR a_moK a_moH a_moS a_moF a_moT a_moP a_moQ a_moA a_moB a_moD mo_e mo_f mo_codes mo_most mo_minus mo_low mo_function mo_atX mo_atM mo_spanFunction mo_spanRounding mo_spanMany mo_parts mo_shift p2 _ ho) (cwV 1 hts (gdV wl_266 wl_267 wl_268 wl_5 wl_269) rfl rfl rfl (by decide +kernel) ⟨hRf _ (Nat.le_of_ble_eq_true rfl), hRl _ (Nat.le_of_ble_eq_true rfl)⟩) hK hN hP [0] rfl 0 7 rfl rfl rfl rfl hl.1 rfl (Nat.le_of_ble_eq_true rfl) dX8_plainly_14 ⟨Nat.zero_le _, Nat.zero_le _⟩ (fun r14 ho => ?_)
  refine lv_istore (lv' := [(4, .int r14), (3, .int ((p2 / mo_minus) * mo_minus)), (0, .ref a_mo), (1, .int p1), (2, .int p2)]) hx hb dX8_plainly_17 hl (by decide) rfl (fun ls hl => ?_)
  refine lv_aload_n hx hb dX8_plainly_19 rfl (lv_at hl 2 rfl) ?_
  refine va_get (D := D) (ci := 7) (v := .int mo_most) (C := RX8) (T := TX8) (N := 25) hx hb hts inlX8 hown hK hP 0 rfl rfl 4 (by decide) (hts _ wl_120) (fun _ h9 => h9) rfl dX8_plainly_20 ?_
  refine lv_iconst (v := 1) hx hb dX8_plainly_23 (by decide) ?_
  refine lv_iadd hx hb dX8_plainly_24 ?_
  refine lv_istore (lv' := [(5, .int (mo_most + (1 : Int32))), (4, .int r14), (3, .int ((p2 / mo_minus) * mo_minus)), (0, .ref a_mo), (1, .int p1), (2, .int p2)]) hx hb dX8_plainly_25 hl (by decide) rfl (fun ls hl => ?_)
  refine lv_iload hx hb dX8_plainly_27 (lv_at hl 1 rfl) ?_
  refine lv_iconst (v := 3) hx hb dX8_plainly_29 (by decide) ?_
  refine lv_icmp_eq (tgt := 48) hx hb dX8_plainly_30 (by decide) (fun c_30 => ?_) (fun c_30 => ?_)
  · replace ho := ho.1 c_30
    refine lv_iload hx hb dX8_plainly_48 (lv_at hl 0 rfl) ?_
    refine lv_iconst (v := 1) hx hb dX8_plainly_50 (by decide) ?_
    refine lv_iadd hx hb dX8_plainly_51 ?_
    subst hQ; exact W.iret (v := ((mo_most + (1 : Int32)) + (1 : Int32))) hx hb hr (fun t ht _ => ⟨((mo_most + (1 : Int32)) + (1 : Int32)), rfl, ho, ht⟩) (fun _ h => by cases h) dX8_plainly_52
  · replace ho := ho.2 c_30
    refine lv_iload_n hx hb dX8_plainly_33 rfl (lv_at hl 4 rfl) ?_
    refine lv_iconst (v := 1) hx hb dX8_plainly_34 (by decide) ?_
    refine lv_icmp_ne (tgt := 53) hx hb dX8_plainly_35 (by decide) (fun c_35 => ?_) (fun c_35 => ?_)
    · replace ho := ho.1 c_35
      exact C_53 ((p2 / mo_minus) * mo_minus) r14 (mo_most + (1 : Int32)) ls ho (lv_sub hl [4, 2, 1, 0] rfl)
    · replace ho := ho.2 c_35
      refine lv_iload_n hx hb dX8_plainly_38 rfl (lv_at hl 2 rfl) ?_
      refine lv_if_le (tgt := 53) hx hb dX8_plainly_39 (by decide) (fun c_39 => ?_) (fun c_39 => ?_)
      · replace ho := ho.1 c_39
        exact C_53 ((p2 / mo_minus) * mo_minus) r14 (mo_most + (1 : Int32)) ls ho (lv_sub hl [4, 2, 1, 0] rfl)
      · replace ho := ho.2 c_39
        refine lv_iload hx hb dX8_plainly_42 (lv_at hl 1 rfl) ?_
        refine lv_iconst (v := 1) hx hb dX8_plainly_44 (by decide) ?_
        refine lv_icmp_eq (tgt := 53) hx hb dX8_plainly_45 (by decide) (fun c_45 => ?_) (fun c_45 => ?_)
        · replace ho := ho.1 c_45
          exact C_53 ((p2 / mo_minus) * mo_minus) r14 (mo_most + (1 : Int32)) ls ho (lv_sub hl [4, 2, 1, 0] rfl)
        · replace ho := ho.2 c_45
          refine lv_iload hx hb dX8_plainly_48 (lv_at hl 0 rfl) ?_
          refine lv_iconst (v := 1) hx hb dX8_plainly_50 (by decide) ?_
          refine lv_iadd hx hb dX8_plainly_51 ?_
          subst hQ; exact W.iret (v := ((mo_most + (1 : Int32)) + (1 : Int32))) hx hb hr (fun t ht _ => ⟨((mo_most + (1 : Int32)) + (1 : Int32)), rfl, ho, ht⟩) (fun _ h => by cases h) dX8_plainly_52

def w_X8_sets : List Cond := .code yX8_sets cX8_sets 3 none :: wsL_law
set_option maxHeartbeats 4000000 in
set_option maxRecDepth 100000 in
theorem c_X8_sets (l : Launch) (D : va_G) (cI cJ cZ : ClassId) (a_mo : Nat) (a_moR : Nat) (a_moK : Nat) (a_moH : Nat) (a_moS : Nat) (a_moF : Nat) (a_moT : Nat) (a_moP : Nat) (a_moQ : Nat) (a_moA : Nat) (a_moB : Nat) (a_moD : Nat) (sz : Nat) (mo_e : Int32) (mo_f : Int32) (mo_codes : Int32) (mo_most : Int32) (mo_minus : Int32) (mo_low : Int32) (mo_function : Int32) (mo_atX : Int32) (mo_atM : Int64) (mo_spanFunction : Int32) (mo_spanRounding : Int32) (mo_spanMany : Int32) (mo_parts : Int32) (mo_shift : Int32) (p1 : Int32) (p2 : Int32) (post : Int32 → Int32 → Int64 → Prop) (A : Nat → Prop) (hAe : A = va_A [(a_mo, oX8 a_moR mo_e mo_f mo_codes mo_most mo_minus mo_low mo_function mo_atX mo_atM a_moK a_moH a_moS mo_spanFunction mo_spanRounding mo_spanMany a_moF a_moT mo_parts mo_shift a_moP a_moQ a_moA a_moB a_moD)] sz) (ho : wp_X8_sets post mo_f mo_minus mo_low p1 p2) : Met l yX8_sets w_X8_sets ({ frames := 1, cells := 0, slots := 0, locals := 21 } : Room) (rw_P D [(cI, .int), (cJ, .long), (cZ, .boolean)] [.ref a_mo, .int p1, .int p2] sz [(a_mo, oX8 a_moR mo_e mo_f mo_codes mo_most mo_minus mo_low mo_function mo_atX mo_atM a_moK a_moH a_moS mo_spanFunction mo_spanRounding mo_spanMany a_moF a_moT mo_parts mo_shift a_moP a_moQ a_moA a_moB a_moD)]) (va_Qv (fun (u : (Int32) × (Int32) × (Int64)) => post u.1 u.2.1 u.2.2) (rw_B D A (fun (u : (Int32) × (Int32) × (Int64)) => [(a_mo, oX8 a_moR mo_e mo_f mo_codes mo_most mo_minus mo_low u.1 u.2.1 u.2.2 a_moK a_moH a_moS mo_spanFunction mo_spanRounding mo_spanMany a_moF a_moT mo_parts mo_shift a_moP a_moQ a_moA a_moB a_moD)])) A) 0 0 A := by
  refine Met.ofW (cc := cX8_sets) (maxL := 3) (ret := none) (by decide) rfl ?_
  intro p e s m args below meth c s₁ B hml hv
  obtain ⟨hargs, hsz, hP, hK, hN, hD0⟩ := hv
  have hx := B.exec
  have hb := B.bytes
  have hr := B.returns
  have hts : ∀ w ∈ wsL_law, w.before args s = true := fun w h => atoms_spec (ws := w_X8_sets) B.pre w (List.mem_cons_of_mem _ h)
  have hown : s.vm.findClass RX8 = some m.cls := findClass_of_methodNamed B.named
  have hlocks := B.notSynchronized
  subst hsz
  have hD : va_D A [(a_mo, oX8 a_moR mo_e mo_f mo_codes mo_most mo_minus mo_low mo_function mo_atX mo_atM a_moK a_moH a_moS mo_spanFunction mo_spanRounding mo_spanMany a_moF a_moT mo_parts mo_shift a_moP a_moQ a_moA a_moB a_moD)] := by rw [hAe]; exact hD0.self
  have hA : ∀ q : Nat, s.heap.size ≤ q → A q := fun q h => by rw [hAe]; exact Or.inr h
  have hS : va_S A s.heap s.heap [] := va_S.rf
  have hl := lv_entry ([.ref a_mo, .int p1, .int p2]) (n := 3) (Nat.le_of_ble_eq_true rfl)
  rw [hargs, lg_entry_eq, ← hargs]
  generalize (lg_sl ([.ref a_mo, .int p1, .int p2]) ++ List.replicate (3 - (lg_sl ([.ref a_mo, .int p1, .int p2])).length) Slot.unset).toArray = ls at hl ⊢
  replace hl : lv_has ls 3 [(0, .ref a_mo), (1, .int p1), (2, .int p2)] := hl
  have hRf : ∀ n, n ≤ 1 → n ≤ (headSpec w_X8_sets ({ frames := 1, cells := 0, slots := 0, locals := 21 } : Room)).room.frames := fun n h => h
  have hRl : ∀ n, n ≤ 21 → n ≤ (headSpec w_X8_sets ({ frames := 1, cells := 0, slots := 0, locals := 21 } : Room)).room.locals := fun n h => h
  generalize (headSpec w_X8_sets ({ frames := 1, cells := 0, slots := 0, locals := 21 } : Room)).room = R at hRf hRl ⊢
  generalize hQ : MQ below _ args s 0 0 _ = Q
  suffices main : ∀ (H : Heap) (locs : List Loc), va_P D vwCl [(a_mo, oX8 a_moR mo_e mo_f mo_codes mo_most mo_minus mo_low mo_function mo_atX mo_atM a_moK a_moH a_moS mo_spanFunction mo_spanRounding mo_spanMany a_moF a_moT mo_parts mo_shift a_moP a_moQ a_moA a_moB a_moD)] H → va_S A s.heap H locs → W p l e R s m args below meth c H locs 0 0 Q (F0 m 0 ls []) from main _ _ hP hS
  intro H locs hP hS
  unfold wp_X8_sets at ho
  refine lv_aload_n hx hb dX8_sets_0 rfl (lv_at hl 0 rfl) ?_
  refine lv_iload_n hx hb dX8_sets_1 rfl (lv_at hl 1 rfl) ?_
  refine va_put (D := D) (ci := 7) (v := .int p1) (ty := .int) (C := RX8) (T := TX8) (N := 25) hx hb hts inlX8 tyX8 tyX8_ok nmX8 hown hK hP hD hS 0 rfl rfl 7 (by decide) (hts _ wl_367) (fun _ h9 => h9) rfl (by decide +kernel) rfl rfl (Nat.le_of_ble_eq_true rfl) dX8_sets_2 (fun H locs hP hD hS => ?_)
  replace hP : va_P D vwCl [(a_mo, oX8 a_moR mo_e mo_f mo_codes mo_most mo_minus mo_low p1 mo_atX mo_atM a_moK a_moH a_moS mo_spanFunction mo_spanRounding mo_spanMany a_moF a_moT mo_parts mo_shift a_moP a_moQ a_moA a_moB a_moD)] H := hP
  replace hD : va_D A [(a_mo, oX8 a_moR mo_e mo_f mo_codes mo_most mo_minus mo_low p1 mo_atX mo_atM a_moK a_moH a_moS mo_spanFunction mo_spanRounding mo_spanMany a_moF a_moT mo_parts mo_shift a_moP a_moQ a_moA a_moB a_moD)] := hD
  refine lv_aload_n hx hb dX8_sets_5 rfl (lv_at hl 0 rfl) ?_
  refine lv_aload_n hx hb dX8_sets_6 rfl (lv_at hl 0 rfl) ?_
  refine lv_aload_n hx hb dX8_sets_7 rfl (lv_at hl 0 rfl) ?_
  refine lv_iload_n hx hb dX8_sets_8 rfl (lv_at hl 2 rfl) ?_
  refine ca_Vi (b := a_mo) (As := [.int p2]) (rest := [.ref a_mo, .ref a_mo]) ⟨hx, hb, hml, hown, hts⟩ (c_X8_size l D cI cJ cZ a_mo a_moR a_moK a_moH a_moS a_moF a_moT a_moP a_moQ a_moA a_moB a_moD mo_e mo_f mo_codes mo_most mo_minus mo_low p1 mo_atX mo_atM mo_spanFunction mo_spanRounding mo_spanMany mo_parts mo_shift p2 _ ho) (cwV 1 hts (gdV wl_262 wl_263 wl_264 wl_5 wl_265) rfl rfl rfl (by decide +kernel) ⟨hRf _ (Nat.le_of_ble_eq_true rfl), hRl _ (Nat.le_of_ble_eq_true rfl)⟩) hK hN hP [0] rfl 0 7 rfl rfl rfl rfl hl.1 rfl (Nat.le_of_ble_eq_true rfl) dX8_sets_9 ⟨Nat.zero_le _, Nat.zero_le _⟩ (fun r9 ho => ?_)
  refine ca_Vi (b := a_mo) (As := [.int r9]) (rest := [.ref a_mo]) ⟨hx, hb, hml, hown, hts⟩ (c_X8_figure l D cI cJ cZ a_mo a_moR a_moK a_moH a_moS a_moF a_moT a_moP a_moQ a_moA a_moB a_moD mo_e mo_f mo_codes mo_most mo_minus mo_low p1 mo_atX mo_atM mo_spanFunction mo_spanRounding mo_spanMany mo_parts mo_shift r9 _ ho) (cwV 1 hts (gdV wl_274 wl_275 wl_276 wl_5 wl_277) rfl rfl rfl (by decide +kernel) ⟨hRf _ (Nat.le_of_ble_eq_true rfl), hRl _ (Nat.le_of_ble_eq_true rfl)⟩) hK hN hP [0] rfl 0 7 rfl rfl rfl rfl hl.1 rfl (Nat.le_of_ble_eq_true rfl) dX8_sets_12 ⟨Nat.zero_le _, Nat.zero_le _⟩ (fun r12 ho => ?_)
  refine lv_i2l hx hb dX8_sets_15 rfl ?_
  refine va_put (D := D) (ci := 7) (v := .long r12.toInt64) (ty := .long) (C := RX8) (T := TX8) (N := 25) hx hb hts inlX8 tyX8 tyX8_ok nmX8 hown hK hP hD hS 0 rfl rfl 9 (by decide) (hts _ wl_368) (fun _ h9 => h9) rfl (by decide +kernel) rfl rfl (Nat.le_of_ble_eq_true rfl) dX8_sets_16 (fun H locs hP hD hS => ?_)
  replace hP : va_P D vwCl [(a_mo, oX8 a_moR mo_e mo_f mo_codes mo_most mo_minus mo_low p1 mo_atX r12.toInt64 a_moK a_moH a_moS mo_spanFunction mo_spanRounding mo_spanMany a_moF a_moT mo_parts mo_shift a_moP a_moQ a_moA a_moB a_moD)] H := hP
  replace hD : va_D A [(a_mo, oX8 a_moR mo_e mo_f mo_codes mo_most mo_minus mo_low p1 mo_atX r12.toInt64 a_moK a_moH a_moS mo_spanFunction mo_spanRounding mo_spanMany a_moF a_moT mo_parts mo_shift a_moP a_moQ a_moA a_moB a_moD)] := hD
  refine lv_aload_n hx hb dX8_sets_19 rfl (lv_at hl 0 rfl) ?_
  refine lv_aload_n hx hb dX8_sets_20 rfl (lv_at hl 0 rfl) ?_
  refine lv_aload_n hx hb dX8_sets_21 rfl (lv_at hl 0 rfl) ?_
  refine lv_iload_n hx hb dX8_sets_22 rfl (lv_at hl 2 rfl) ?_
  refine ca_Vi (b := a_mo) (As := [.int p2]) (rest := [.ref a_mo, .ref a_mo]) ⟨hx, hb, hml, hown, hts⟩ (c_X8_size l D cI cJ cZ a_mo a_moR a_moK a_moH a_moS a_moF a_moT a_moP a_moQ a_moA a_moB a_moD mo_e mo_f mo_codes mo_most mo_minus mo_low p1 mo_atX r12.toInt64 mo_spanFunction mo_spanRounding mo_spanMany mo_parts mo_shift p2 _ ho) (cwV 1 hts (gdV wl_262 wl_263 wl_264 wl_5 wl_265) rfl rfl rfl (by decide +kernel) ⟨hRf _ (Nat.le_of_ble_eq_true rfl), hRl _ (Nat.le_of_ble_eq_true rfl)⟩) hK hN hP [0] rfl 0 7 rfl rfl rfl rfl hl.1 rfl (Nat.le_of_ble_eq_true rfl) dX8_sets_23 ⟨Nat.zero_le _, Nat.zero_le _⟩ (fun r23 ho => ?_)
  refine ca_Vi (b := a_mo) (As := [.int r23]) (rest := [.ref a_mo]) ⟨hx, hb, hml, hown, hts⟩ (c_X8_power l D cI cJ cZ a_mo a_moR a_moK a_moH a_moS a_moF a_moT a_moP a_moQ a_moA a_moB a_moD mo_e mo_f mo_codes mo_most mo_minus mo_low p1 mo_atX r12.toInt64 mo_spanFunction mo_spanRounding mo_spanMany mo_parts mo_shift r23 _ ho) (cwV 1 hts (gdV wl_278 wl_279 wl_280 wl_5 wl_281) rfl rfl rfl (by decide +kernel) ⟨hRf _ (Nat.le_of_ble_eq_true rfl), hRl _ (Nat.le_of_ble_eq_true rfl)⟩) hK hN hP [0] rfl 0 7 rfl rfl rfl rfl hl.1 rfl (Nat.le_of_ble_eq_true rfl) dX8_sets_26 ⟨Nat.zero_le _, Nat.zero_le _⟩ (fun r26 ho => ?_)
  refine va_put (D := D) (ci := 7) (v := .int r26) (ty := .int) (C := RX8) (T := TX8) (N := 25) hx hb hts inlX8 tyX8 tyX8_ok nmX8 hown hK hP hD hS 0 rfl rfl 8 (by decide) (hts _ wl_369) (fun _ h9 => h9) rfl (by decide +kernel) rfl rfl (Nat.le_of_ble_eq_true rfl) dX8_sets_29 (fun H locs hP hD hS => ?_)
  replace hP : va_P D vwCl [(a_mo, oX8 a_moR mo_e mo_f mo_codes mo_most mo_minus mo_low p1 r26 r12.toInt64 a_moK a_moH a_moS mo_spanFunction mo_spanRounding mo_spanMany a_moF a_moT mo_parts mo_shift a_moP a_moQ a_moA a_moB a_moD)] H := hP
  replace hD : va_D A [(a_mo, oX8 a_moR mo_e mo_f mo_codes mo_most mo_minus mo_low p1 r26 r12.toInt64 a_moK a_moH a_moS mo_spanFunction mo_spanRounding mo_spanMany a_moF a_moT mo_parts mo_shift a_moP a_moQ a_moA a_moB a_moD)] := hD
  subst hQ; exact W.vret hx hb hr (fun t ht hW => ⟨⟨(p1, r26, r12.toInt64), rfl, ho, by rw [ht]; exact hP, hD⟩, hS.F ht⟩) (fun q hq => hS.2.2 q hq) dX8_sets_32

def w_X8_rightOf : List Cond := .code yX8_rightOf cX8_rightOf 5 (some .int) :: wsL_law
set_option maxHeartbeats 4000000 in
set_option maxRecDepth 100000 in
theorem c_X8_rightOf (l : Launch) (D : va_G) (cI cJ cZ : ClassId) (a_mo : Nat) (a_moR : Nat) (a_moK : Nat) (a_moH : Nat) (a_moS : Nat) (a_moF : Nat) (a_moT : Nat) (a_moP : Nat) (a_moQ : Nat) (a_moA : Nat) (a_moB : Nat) (a_moD : Nat) (sz : Nat) (mo_e : Int32) (mo_f : Int32) (mo_codes : Int32) (mo_most : Int32) (mo_minus : Int32) (mo_low : Int32) (mo_function : Int32) (mo_atX : Int32) (mo_atM : Int64) (mo_spanFunction : Int32) (mo_spanRounding : Int32) (mo_spanMany : Int32) (mo_parts : Int32) (mo_shift : Int32) (p1 : Int32) (p2 : Int32) (p3 : Int32) (post : Int32 → Int32 → Int32 → Int64 → Prop) (A : Nat → Prop) (hAe : A = va_A [(a_mo, oX8 a_moR mo_e mo_f mo_codes mo_most mo_minus mo_low mo_function mo_atX mo_atM a_moK a_moH a_moS mo_spanFunction mo_spanRounding mo_spanMany a_moF a_moT mo_parts mo_shift a_moP a_moQ a_moA a_moB a_moD)] sz) (ho : wp_X8_rightOf post mo_f mo_most mo_minus mo_low mo_function mo_atX mo_atM p1 p2 p3) : Met l yX8_rightOf w_X8_rightOf ({ frames := 5, cells := 0, slots := 0, locals := 127 } : Room) (rw_P D [(cI, .int), (cJ, .long), (cZ, .boolean)] [.ref a_mo, .int p1, .int p2, .int p3] sz [(a_mo, oX8 a_moR mo_e mo_f mo_codes mo_most mo_minus mo_low mo_function mo_atX mo_atM a_moK a_moH a_moS mo_spanFunction mo_spanRounding mo_spanMany a_moF a_moT mo_parts mo_shift a_moP a_moQ a_moA a_moB a_moD)]) (va_Qi (fun (r : Int32) (u : (Int32) × (Int32) × (Int64)) => post r u.1 u.2.1 u.2.2) (rw_B D A (fun (u : (Int32) × (Int32) × (Int64)) => [(a_mo, oX8 a_moR mo_e mo_f mo_codes mo_most mo_minus mo_low u.1 u.2.1 u.2.2 a_moK a_moH a_moS mo_spanFunction mo_spanRounding mo_spanMany a_moF a_moT mo_parts mo_shift a_moP a_moQ a_moA a_moB a_moD)])) A) 0 0 A := by
  refine Met.ofW (cc := cX8_rightOf) (maxL := 5) (ret := (some .int)) (by decide) rfl ?_
  intro p e s m args below meth c s₁ B hml hv
  obtain ⟨hargs, hsz, hP, hK, hN, hD0⟩ := hv
  have hx := B.exec
  have hb := B.bytes
  have hr := B.returns
  have hts : ∀ w ∈ wsL_law, w.before args s = true := fun w h => atoms_spec (ws := w_X8_rightOf) B.pre w (List.mem_cons_of_mem _ h)
  have hown : s.vm.findClass RX8 = some m.cls := findClass_of_methodNamed B.named
  have hlocks := B.notSynchronized
  subst hsz
  have hD : va_D A [(a_mo, oX8 a_moR mo_e mo_f mo_codes mo_most mo_minus mo_low mo_function mo_atX mo_atM a_moK a_moH a_moS mo_spanFunction mo_spanRounding mo_spanMany a_moF a_moT mo_parts mo_shift a_moP a_moQ a_moA a_moB a_moD)] := by rw [hAe]; exact hD0.self
  have hA : ∀ q : Nat, s.heap.size ≤ q → A q := fun q h => by rw [hAe]; exact Or.inr h
  have hS : va_S A s.heap s.heap [] := va_S.rf
  have hl := lv_entry ([.ref a_mo, .int p1, .int p2, .int p3]) (n := 5) (Nat.le_of_ble_eq_true rfl)
  rw [hargs, lg_entry_eq, ← hargs]
  generalize (lg_sl ([.ref a_mo, .int p1, .int p2, .int p3]) ++ List.replicate (5 - (lg_sl ([.ref a_mo, .int p1, .int p2, .int p3])).length) Slot.unset).toArray = ls at hl ⊢
  replace hl : lv_has ls 5 [(0, .ref a_mo), (1, .int p1), (2, .int p2), (3, .int p3)] := hl
  have hRf : ∀ n, n ≤ 5 → n ≤ (headSpec w_X8_rightOf ({ frames := 5, cells := 0, slots := 0, locals := 127 } : Room)).room.frames := fun n h => h
  have hRl : ∀ n, n ≤ 127 → n ≤ (headSpec w_X8_rightOf ({ frames := 5, cells := 0, slots := 0, locals := 127 } : Room)).room.locals := fun n h => h
  generalize (headSpec w_X8_rightOf ({ frames := 5, cells := 0, slots := 0, locals := 127 } : Room)).room = R at hRf hRl ⊢
  generalize hQ : MQ below _ args s 0 0 _ = Q
  have C_42 : ∀ (mo_function : Int32) (mo_atX : Int32) (mo_atM : Int64) (y0 : Int32) (y1 : Int32) (H : Heap) (locs : List Loc) (ls : Array Slot), wp_X8_rightOf_42 post  mo_f mo_most mo_minus mo_low mo_function mo_atX mo_atM y0 y1 → va_P D vwCl [(a_mo, oX8 a_moR mo_e mo_f mo_codes mo_most mo_minus mo_low mo_function mo_atX mo_atM a_moK a_moH a_moS mo_spanFunction mo_spanRounding mo_spanMany a_moF a_moT mo_parts mo_shift a_moP a_moQ a_moA a_moB a_moD)] H → va_D A [(a_mo, oX8 a_moR mo_e mo_f mo_codes mo_most mo_minus mo_low mo_function mo_atX mo_atM a_moK a_moH a_moS mo_spanFunction mo_spanRounding mo_spanMany a_moF a_moT mo_parts mo_shift a_moP a_moQ a_moA a_moB a_moD)] → va_S A s.heap H locs → lv_has ls 5 [] → W p l e R s m args below meth c H locs 0 0 Q (F0 m 42 ls [.int y0, .int y1, .ref a_mo]) := by
    intro mo_function mo_atX mo_atM y0 y1 H locs ls ho hP hD hS hl
    unfold wp_X8_rightOf_42 at ho
    refine ca_Vi (b := a_mo) (As := [.int y1, .int y0]) (rest := []) ⟨hx, hb, hml, hown, hts⟩ (c_X8_rounded l D cI cJ cZ a_mo a_moR a_moK a_moH a_moS a_moF a_moT a_moP a_moQ a_moA a_moB a_moD mo_e mo_f mo_codes mo_most mo_minus mo_low mo_function mo_atX mo_atM mo_spanFunction mo_spanRounding mo_spanMany mo_parts mo_shift y1 y0 _ ho) (cwV 2 hts (gdV wl_370 wl_371 wl_372 wl_5 wl_373) rfl rfl rfl (by decide +kernel) ⟨hRf _ (Nat.le_of_ble_eq_true rfl), hRl _ (Nat.le_of_ble_eq_true rfl)⟩) hK hN hP [0] rfl 0 7 rfl rfl rfl rfl hl.1 rfl (Nat.le_of_ble_eq_true rfl) dX8_rightOf_42 ⟨Nat.zero_le _, Nat.zero_le _⟩ (fun r42 ho => ?_)
    subst hQ; exact W.iret (v := r42) hx hb hr (fun t ht hW => ⟨⟨r42, (mo_function, mo_atX, mo_atM), rfl, ho, by rw [ht]; exact hP, hD⟩, hS.F ht⟩) (fun q hq => hS.2.2 q hq) dX8_rightOf_45
  have C_41 : ∀ (mo_function : Int32) (mo_atX : Int32) (mo_atM : Int64) (y0 : Int32) (H : Heap) (locs : List Loc) (ls : Array Slot), wp_X8_rightOf_41 post  mo_f mo_most mo_minus mo_low mo_function mo_atX mo_atM y0 → va_P D vwCl [(a_mo, oX8 a_moR mo_e mo_f mo_codes mo_most mo_minus mo_low mo_function mo_atX mo_atM a_moK a_moH a_moS mo_spanFunction mo_spanRounding mo_spanMany a_moF a_moT mo_parts mo_shift a_moP a_moQ a_moA a_moB a_moD)] H → va_D A [(a_mo, oX8 a_moR mo_e mo_f mo_codes mo_most mo_minus mo_low mo_function mo_atX mo_atM a_moK a_moH a_moS mo_spanFunction mo_spanRounding mo_spanMany a_moF a_moT mo_parts mo_shift a_moP a_moQ a_moA a_moB a_moD)] → va_S A s.heap H locs → lv_has ls 5 [] → W p l e R s m args below meth c H locs 0 0 Q (F0 m 41 ls [.int y0, .ref a_mo]) := by
    intro mo_function mo_atX mo_atM y0 H locs ls ho hP hD hS hl
    unfold wp_X8_rightOf_41 at ho
    refine lv_iconst (v := 0) hx hb dX8_rightOf_41 (by decide) ?_
    exact C_42 mo_function mo_atX mo_atM (0 : Int32) y0 H locs ls ho hP hD hS (lv_sub hl [] rfl)
  suffices main : ∀ (H : Heap) (locs : List Loc), va_P D vwCl [(a_mo, oX8 a_moR mo_e mo_f mo_codes mo_most mo_minus mo_low mo_function mo_atX mo_atM a_moK a_moH a_moS mo_spanFunction mo_spanRounding mo_spanMany a_moF a_moT mo_parts mo_shift a_moP a_moQ a_moA a_moB a_moD)] H → va_S A s.heap H locs → W p l e R s m args below meth c H locs 0 0 Q (F0 m 0 ls []) from main _ _ hP hS
  intro H locs hP hS
  unfold wp_X8_rightOf at ho
  refine lv_aload_n hx hb dX8_rightOf_0 rfl (lv_at hl 0 rfl) ?_
  refine lv_iload_n hx hb dX8_rightOf_1 rfl (lv_at hl 1 rfl) ?_
  refine lv_iload_n hx hb dX8_rightOf_2 rfl (lv_at hl 2 rfl) ?_
  refine ca_Vi (b := a_mo) (As := [.int p1, .int p2]) (rest := []) ⟨hx, hb, hml, hown, hts⟩ (c_X8_plainly l D cI cJ cZ a_mo a_moR a_moK a_moH a_moS a_moF a_moT a_moP a_moQ a_moA a_moB a_moD mo_e mo_f mo_codes mo_most mo_minus mo_low mo_function mo_atX mo_atM mo_spanFunction mo_spanRounding mo_spanMany mo_parts mo_shift p1 p2 _ ho) (cwV 2 hts (gdV wl_476 wl_477 wl_478 wl_5 wl_479) rfl rfl rfl (by decide +kernel) ⟨hRf _ (Nat.le_of_ble_eq_true rfl), hRl _ (Nat.le_of_ble_eq_true rfl)⟩) hK hN hP [0] rfl 0 7 rfl rfl rfl rfl hl.1 rfl (Nat.le_of_ble_eq_true rfl) dX8_rightOf_3 ⟨Nat.zero_le _, Nat.zero_le _⟩ (fun r3 ho => ?_)
  refine lv_istore (lv' := [(4, .int r3), (0, .ref a_mo), (1, .int p1), (2, .int p2), (3, .int p3)]) hx hb dX8_rightOf_6 hl (by decide) rfl (fun ls hl => ?_)
  refine lv_iload hx hb dX8_rightOf_8 (lv_at hl 0 rfl) ?_
  refine lv_if_lt (tgt := 16) hx hb dX8_rightOf_10 (by decide) (fun c_10 => ?_) (fun c_10 => ?_)
  · replace ho := ho.1 c_10
    refine lv_aload_n hx hb dX8_rightOf_16 rfl (lv_at hl 1 rfl) ?_
    refine lv_iload_n hx hb dX8_rightOf_17 rfl (lv_at hl 2 rfl) ?_
    refine lv_iload_n hx hb dX8_rightOf_18 rfl (lv_at hl 3 rfl) ?_
    refine ca_Wv (b := a_mo) (As := [.int p1, .int p2]) (rest := []) (wr := []) (wo := fun (u : (Int32) × (Int32) × (Int64)) => [(a_mo, oX8 a_moR mo_e mo_f mo_codes mo_most mo_minus mo_low u.1 u.2.1 u.2.2 a_moK a_moH a_moS mo_spanFunction mo_spanRounding mo_spanMany a_moF a_moT mo_parts mo_shift a_moP a_moQ a_moA a_moB a_moD)]) (wn := fun (u : (Int32) × (Int32) × (Int64)) => [(a_mo, oX8 a_moR mo_e mo_f mo_codes mo_most mo_minus mo_low u.1 u.2.1 u.2.2 a_moK a_moH a_moS mo_spanFunction mo_spanRounding mo_spanMany a_moF a_moT mo_parts mo_shift a_moP a_moQ a_moA a_moB a_moD)]) ⟨hx, hb, hml, hown, hts⟩ (c_X8_sets l D cI cJ cZ a_mo a_moR a_moK a_moH a_moS a_moF a_moT a_moP a_moQ a_moA a_moB a_moD H.size mo_e mo_f mo_codes mo_most mo_minus mo_low mo_function mo_atX mo_atM mo_spanFunction mo_spanRounding mo_spanMany mo_parts mo_shift p1 p2 _ _ rfl ho) (cwV 2 hts (gdV wl_480 wl_481 wl_482 wl_5 wl_483) rfl rfl rfl (by decide +kernel) ⟨hRf _ (Nat.le_of_ble_eq_true rfl), hRl _ (Nat.le_of_ble_eq_true rfl)⟩) hK hN hP hD hS hA [0] [] [0] rfl rfl (by decide) (by decide) (by decide) (by decide) (fun _ => rfl) 0 7 rfl rfl rfl rfl hl.1 rfl (Nat.le_of_ble_eq_true rfl) dX8_rightOf_19 ⟨Nat.zero_le _, Nat.zero_le _⟩ (fun  u19 H locs ho hP hD hS => ?_)
    obtain ⟨u19_1, u19_2, u19_3⟩ := u19
    try dsimp only at ho
    replace hP : va_P D vwCl [(a_mo, oX8 a_moR mo_e mo_f mo_codes mo_most mo_minus mo_low u19_1 u19_2 u19_3 a_moK a_moH a_moS mo_spanFunction mo_spanRounding mo_spanMany a_moF a_moT mo_parts mo_shift a_moP a_moQ a_moA a_moB a_moD)] H := hP
    replace hD : va_D A [(a_mo, oX8 a_moR mo_e mo_f mo_codes mo_most mo_minus mo_low u19_1 u19_2 u19_3 a_moK a_moH a_moS mo_spanFunction mo_spanRounding mo_spanMany a_moF a_moT mo_parts mo_shift a_moP a_moQ a_moA a_moB a_moD)] := hD
    refine lv_aload_n hx hb dX8_rightOf_22 rfl (lv_at hl 1 rfl) ?_
    refine lv_iload_n hx hb dX8_rightOf_23 rfl (lv_at hl 4 rfl) ?_
    refine lv_iload_n hx hb dX8_rightOf_24 rfl (lv_at hl 3 rfl) ?_
    refine lv_aload_n hx hb dX8_rightOf_25 rfl (lv_at hl 1 rfl) ?_
    refine va_get (D := D) (ci := 7) (v := .int mo_minus) (C := RX8) (T := TX8) (N := 25) hx hb hts inlX8 hown hK hP 0 rfl rfl 5 (by decide) (hts _ wl_119) (fun _ h9 => h9) rfl dX8_rightOf_26 ?_
    refine lv_icmp_lt (tgt := 41) hx hb dX8_rightOf_29 (by decide) (fun c_29 => ?_) (fun c_29 => ?_)
    · replace ho := ho.1 c_29
      exact C_41 u19_1 u19_2 u19_3 p3 H locs ls ho hP hD hS (lv_sub hl [] rfl)
    · replace ho := ho.2 c_29
      refine lv_iload_n hx hb dX8_rightOf_32 rfl (lv_at hl 2 rfl) ?_
      refine lv_iconst (v := 3) hx hb dX8_rightOf_33 (by decide) ?_
      refine lv_icmp_eq (tgt := 41) hx hb dX8_rightOf_34 (by decide) (fun c_34 => ?_) (fun c_34 => ?_)
      · replace ho := ho.1 c_34
        exact C_41 u19_1 u19_2 u19_3 p3 H locs ls ho hP hD hS (lv_sub hl [] rfl)
      · replace ho := ho.2 c_34
        refine lv_iconst (v := 1) hx hb dX8_rightOf_37 (by decide) ?_
        refine lv_goto (tgt := 42) hx hb dX8_rightOf_38 (by decide) ?_
        exact C_42 u19_1 u19_2 u19_3 (1 : Int32) p3 H locs ls ho hP hD hS (lv_sub hl [] rfl)
  · replace ho := ho.2 c_10
    refine lv_iload hx hb dX8_rightOf_13 (lv_at hl 0 rfl) ?_
    subst hQ; exact W.iret (v := r3) hx hb hr (fun t ht hW => ⟨⟨r3, (mo_function, mo_atX, mo_atM), rfl, ho, by rw [ht]; exact hP, hD⟩, hS.F ht⟩) (fun q hq => hS.2.2 q hq) dX8_rightOf_15

def w_X8_isFunction : List Cond := .code yX8_isFunction cX8_isFunction 1 (some .boolean) :: wsL_law
set_option maxHeartbeats 4000000 in
set_option maxRecDepth 100000 in
theorem c_X8_isFunction (l : Launch) (D : va_G) (cI cJ cZ : ClassId)   (p1 : Int32) (post : Int32 → Prop) (ho : wp_X8_isFunction post p1) : Met l yX8_isFunction w_X8_isFunction ({ frames := 1, cells := 0, slots := 0, locals := 21 } : Room) (ro_P D [(cI, .int), (cJ, .long), (cZ, .boolean)] [.int p1] []) (vp_Si post) 0 0 (fun _ => False) := by
  refine Met.ofW (cc := cX8_isFunction) (maxL := 1) (ret := (some .boolean)) (by decide) rfl ?_
  intro p e s m args below meth c s₁ B hml hv
  obtain ⟨hargs, hP, hK, hN⟩ := hv
  have hx := B.exec
  have hb := B.bytes
  have hr := B.returns
  have hts : ∀ w ∈ wsL_law, w.before args s = true := fun w h => atoms_spec (ws := w_X8_isFunction) B.pre w (List.mem_cons_of_mem _ h)
  have hown : s.vm.findClass RX8 = some m.cls := findClass_of_methodNamed B.named
  have hlocks := B.notSynchronized
  have hl := lv_entry ([.int p1]) (n := 1) (Nat.le_of_ble_eq_true rfl)
  rw [hargs, lg_entry_eq, ← hargs]
  generalize (lg_sl ([.int p1]) ++ List.replicate (1 - (lg_sl ([.int p1])).length) Slot.unset).toArray = ls at hl ⊢
  replace hl : lv_has ls 1 [(0, .int p1)] := hl
  have hRf : ∀ n, n ≤ 1 → n ≤ (headSpec w_X8_isFunction ({ frames := 1, cells := 0, slots := 0, locals := 21 } : Room)).room.frames := fun n h => h
  have hRl : ∀ n, n ≤ 21 → n ≤ (headSpec w_X8_isFunction ({ frames := 1, cells := 0, slots := 0, locals := 21 } : Room)).room.locals := fun n h => h
  generalize (headSpec w_X8_isFunction ({ frames := 1, cells := 0, slots := 0, locals := 21 } : Room)).room = R at hRf hRl ⊢
  generalize hQ : MQ below _ args s 0 0 _ = Q
  unfold wp_X8_isFunction at ho
  refine lv_iload_n hx hb dX8_isFunction_0 rfl (lv_at hl 0 rfl) ?_
  refine lv_iconst (v := 5) hx hb dX8_isFunction_1 (by decide) ?_
  refine ca_Si (As := [.int p1, .int (5 : Int32)]) (rest := []) ⟨hx, hb, hml, hown, hts⟩ (c_X8_isIn l D cI cJ cZ   p1 (5 : Int32) _ ho) (va_cwS 2 hts (gdS wl_254 wl_255 wl_5 wl_256) rfl rfl rfl (by decide +kernel) ⟨hRf _ (Nat.le_of_ble_eq_true rfl), hRl _ (Nat.le_of_ble_eq_true rfl)⟩) hK hN hP [] rfl rfl hl.1 rfl (Nat.le_of_ble_eq_true rfl) dX8_isFunction_2 ⟨Nat.zero_le _, Nat.zero_le _⟩ (fun r2 ho => ?_)
  have o_5 := ho.1
  replace ho := ho.2
  subst hQ; exact W.zret (v := r2) hx hb hr (bz_n o_5) (fun t ht _ => ⟨r2, rfl, ho, ht⟩) (fun _ h => by cases h) dX8_isFunction_5

def w_X8_right : List Cond := .code yX8_right cX8_right 4 (some .int) :: wsL_law
set_option maxHeartbeats 4000000 in
set_option maxRecDepth 100000 in
theorem c_X8_right (l : Launch) (D : va_G) (cI cJ cZ : ClassId) (a_mo : Nat) (a_moR : Nat) (a_moK : Nat) (a_moH : Nat) (a_moS : Nat) (a_moF : Nat) (a_moT : Nat) (a_moP : Nat) (a_moQ : Nat) (a_moA : Nat) (a_moB : Nat) (a_moD : Nat) (sz : Nat) (mo_e : Int32) (mo_f : Int32) (mo_codes : Int32) (mo_most : Int32) (mo_minus : Int32) (mo_low : Int32) (mo_function : Int32) (mo_atX : Int32) (mo_atM : Int64) (mo_spanFunction : Int32) (mo_spanRounding : Int32) (mo_spanMany : Int32) (mo_parts : Int32) (mo_shift : Int32) (moR_r : Nat → Int32) (p1 : Int32) (p2 : Int32) (p3 : Int32) (post : Int32 → Int32 → Int32 → Int64 → (Nat → Int32) → Prop) (A : Nat → Prop) (hAe : A = va_A [(a_mo, oX8 a_moR mo_e mo_f mo_codes mo_most mo_minus mo_low mo_function mo_atX mo_atM a_moK a_moH a_moS mo_spanFunction mo_spanRounding mo_spanMany a_moF a_moT mo_parts mo_shift a_moP a_moQ a_moA a_moB a_moD), (a_moR, .inl (cI, 7, .inl moR_r))] sz) (ho : wp_X8_right post mo_f mo_codes mo_most mo_minus mo_low mo_function mo_atX mo_atM moR_r p1 p2 p3) : Met l yX8_right w_X8_right ({ frames := 6, cells := 0, slots := 0, locals := 151 } : Room) (rw_P D [(cI, .int), (cJ, .long), (cZ, .boolean)] [.ref a_mo, .int p1, .int p2, .int p3] sz [(a_mo, oX8 a_moR mo_e mo_f mo_codes mo_most mo_minus mo_low mo_function mo_atX mo_atM a_moK a_moH a_moS mo_spanFunction mo_spanRounding mo_spanMany a_moF a_moT mo_parts mo_shift a_moP a_moQ a_moA a_moB a_moD), (a_moR, .inl (cI, 7, .inl moR_r))]) (va_Qi (fun (r : Int32) (u : (Int32) × (Int32) × (Int64) × (Nat → Int32)) => post r u.1 u.2.1 u.2.2.1 u.2.2.2) (rw_B D A (fun (u : (Int32) × (Int32) × (Int64) × (Nat → Int32)) => [(a_mo, oX8 a_moR mo_e mo_f mo_codes mo_most mo_minus mo_low u.1 u.2.1 u.2.2.1 a_moK a_moH a_moS mo_spanFunction mo_spanRounding mo_spanMany a_moF a_moT mo_parts mo_shift a_moP a_moQ a_moA a_moB a_moD), (a_moR, .inl (cI, 7, .inl u.2.2.2))])) A) 0 0 A := by
  refine Met.ofW (cc := cX8_right) (maxL := 4) (ret := (some .int)) (by decide) rfl ?_
  intro p e s m args below meth c s₁ B hml hv
  obtain ⟨hargs, hsz, hP, hK, hN, hD0⟩ := hv
  have hx := B.exec
  have hb := B.bytes
  have hr := B.returns
  have hts : ∀ w ∈ wsL_law, w.before args s = true := fun w h => atoms_spec (ws := w_X8_right) B.pre w (List.mem_cons_of_mem _ h)
  have hown : s.vm.findClass RX8 = some m.cls := findClass_of_methodNamed B.named
  have hlocks := B.notSynchronized
  subst hsz
  have hD : va_D A [(a_mo, oX8 a_moR mo_e mo_f mo_codes mo_most mo_minus mo_low mo_function mo_atX mo_atM a_moK a_moH a_moS mo_spanFunction mo_spanRounding mo_spanMany a_moF a_moT mo_parts mo_shift a_moP a_moQ a_moA a_moB a_moD), (a_moR, .inl (cI, 7, .inl moR_r))] := by rw [hAe]; exact hD0.self
  have hA : ∀ q : Nat, s.heap.size ≤ q → A q := fun q h => by rw [hAe]; exact Or.inr h
  have hS : va_S A s.heap s.heap [] := va_S.rf
  have hl := lv_entry ([.ref a_mo, .int p1, .int p2, .int p3]) (n := 4) (Nat.le_of_ble_eq_true rfl)
  rw [hargs, lg_entry_eq, ← hargs]
  generalize (lg_sl ([.ref a_mo, .int p1, .int p2, .int p3]) ++ List.replicate (4 - (lg_sl ([.ref a_mo, .int p1, .int p2, .int p3])).length) Slot.unset).toArray = ls at hl ⊢
  replace hl : lv_has ls 4 [(0, .ref a_mo), (1, .int p1), (2, .int p2), (3, .int p3)] := hl
  have hRf : ∀ n, n ≤ 6 → n ≤ (headSpec w_X8_right ({ frames := 6, cells := 0, slots := 0, locals := 151 } : Room)).room.frames := fun n h => h
  have hRl : ∀ n, n ≤ 151 → n ≤ (headSpec w_X8_right ({ frames := 6, cells := 0, slots := 0, locals := 151 } : Room)).room.locals := fun n h => h
  generalize (headSpec w_X8_right ({ frames := 6, cells := 0, slots := 0, locals := 151 } : Room)).room = R at hRf hRl ⊢
  generalize hQ : MQ below _ args s 0 0 _ = Q
  have C_33 : ∀ (mo_function : Int32) (mo_atX : Int32) (mo_atM : Int64) (moR_r : Nat → Int32) (H : Heap) (locs : List Loc) (ls : Array Slot), wp_X8_right_33 post  mo_function mo_atX mo_atM moR_r → va_P D vwCl [(a_mo, oX8 a_moR mo_e mo_f mo_codes mo_most mo_minus mo_low mo_function mo_atX mo_atM a_moK a_moH a_moS mo_spanFunction mo_spanRounding mo_spanMany a_moF a_moT mo_parts mo_shift a_moP a_moQ a_moA a_moB a_moD), (a_moR, .inl (cI, 7, .inl moR_r))] H → va_D A [(a_mo, oX8 a_moR mo_e mo_f mo_codes mo_most mo_minus mo_low mo_function mo_atX mo_atM a_moK a_moH a_moS mo_spanFunction mo_spanRounding mo_spanMany a_moF a_moT mo_parts mo_shift a_moP a_moQ a_moA a_moB a_moD), (a_moR, .inl (cI, 7, .inl moR_r))] → va_S A s.heap H locs → lv_has ls 4 [(0, .ref a_mo)] → W p l e R s m args below meth c H locs 0 0 Q (F0 m 33 ls []) := by
    intro mo_function mo_atX mo_atM moR_r H locs ls ho hP hD hS hl
    unfold wp_X8_right_33 at ho
    refine lv_aload_n hx hb dX8_right_33 rfl (lv_at hl 0 rfl) ?_
    refine lv_iconst (v := (-1)) hx hb dX8_right_34 (by decide) ?_
    refine ca_Wi (b := a_mo) (As := [.int (-1 : Int32)]) (rest := []) (wr := []) (wo := fun (u : (Nat → Int32)) => [(a_mo, oX8 a_moR mo_e mo_f mo_codes mo_most mo_minus mo_low mo_function mo_atX mo_atM a_moK a_moH a_moS mo_spanFunction mo_spanRounding mo_spanMany a_moF a_moT mo_parts mo_shift a_moP a_moQ a_moA a_moB a_moD), (a_moR, .inl (cI, 7, .inl u))]) (wn := fun (u : (Nat → Int32)) => [(a_mo, oX8 a_moR mo_e mo_f mo_codes mo_most mo_minus mo_low mo_function mo_atX mo_atM a_moK a_moH a_moS mo_spanFunction mo_spanRounding mo_spanMany a_moF a_moT mo_parts mo_shift a_moP a_moQ a_moA a_moB a_moD), (a_moR, .inl (cI, 7, .inl u))]) ⟨hx, hb, hml, hown, hts⟩ (c_X8_refuse l D cI cJ cZ a_mo a_moR a_moK a_moH a_moS a_moF a_moT a_moP a_moQ a_moA a_moB a_moD H.size mo_e mo_f mo_codes mo_most mo_minus mo_low mo_function mo_atX mo_atM mo_spanFunction mo_spanRounding mo_spanMany mo_parts mo_shift moR_r (-1 : Int32) _ _ rfl ho) (cwV 1 hts (gdV wl_165 wl_166 wl_167 wl_5 wl_168) rfl rfl rfl (by decide +kernel) ⟨hRf _ (Nat.le_of_ble_eq_true rfl), hRl _ (Nat.le_of_ble_eq_true rfl)⟩) hK hN hP hD hS hA [0, 1] [] [0, 1] rfl rfl (by decide) (by decide) (by decide) (by decide) (fun _ => rfl) 0 7 rfl rfl rfl rfl hl.1 rfl (Nat.le_of_ble_eq_true rfl) dX8_right_35 ⟨Nat.zero_le _, Nat.zero_le _⟩ (fun r35 u35 H locs ho hP hD hS => ?_)
    try dsimp only at ho
    replace hP : va_P D vwCl [(a_mo, oX8 a_moR mo_e mo_f mo_codes mo_most mo_minus mo_low mo_function mo_atX mo_atM a_moK a_moH a_moS mo_spanFunction mo_spanRounding mo_spanMany a_moF a_moT mo_parts mo_shift a_moP a_moQ a_moA a_moB a_moD), (a_moR, .inl (cI, 7, .inl u35))] H := hP
    replace hD : va_D A [(a_mo, oX8 a_moR mo_e mo_f mo_codes mo_most mo_minus mo_low mo_function mo_atX mo_atM a_moK a_moH a_moS mo_spanFunction mo_spanRounding mo_spanMany a_moF a_moT mo_parts mo_shift a_moP a_moQ a_moA a_moB a_moD), (a_moR, .inl (cI, 7, .inl u35))] := hD
    subst hQ; exact W.iret (v := r35) hx hb hr (fun t ht hW => ⟨⟨r35, (mo_function, mo_atX, mo_atM, u35), rfl, ho, by rw [ht]; exact hP, hD⟩, hS.F ht⟩) (fun q hq => hS.2.2 q hq) dX8_right_38
  suffices main : ∀ (H : Heap) (locs : List Loc), va_P D vwCl [(a_mo, oX8 a_moR mo_e mo_f mo_codes mo_most mo_minus mo_low mo_function mo_atX mo_atM a_moK a_moH a_moS mo_spanFunction mo_spanRounding mo_spanMany a_moF a_moT mo_parts mo_shift a_moP a_moQ a_moA a_moB a_moD), (a_moR, .inl (cI, 7, .inl moR_r))] H → va_S A s.heap H locs → W p l e R s m args below meth c H locs 0 0 Q (F0 m 0 ls []) from main _ _ hP hS
  intro H locs hP hS
  unfold wp_X8_right at ho
  refine lv_iload_n hx hb dX8_right_0 rfl (lv_at hl 1 rfl) ?_
  refine ca_Si (As := [.int p1]) (rest := []) ⟨hx, hb, hml, hown, hts⟩ (c_X8_isFunction l D cI cJ cZ   p1 _ ho) (va_cwS 1 hts (gdS wl_469 wl_470 wl_5 wl_471) rfl rfl rfl (by decide +kernel) ⟨hRf _ (Nat.le_of_ble_eq_true rfl), hRl _ (Nat.le_of_ble_eq_true rfl)⟩) hK hN hP [] rfl rfl hl.1 rfl (Nat.le_of_ble_eq_true rfl) dX8_right_1 ⟨Nat.zero_le _, Nat.zero_le _⟩ (fun r1 ho => ?_)
  refine lv_if_eq (tgt := 33) hx hb dX8_right_4 (by decide) (fun c_4 => ?_) (fun c_4 => ?_)
  · replace ho := ho.1 c_4
    exact C_33 mo_function mo_atX mo_atM moR_r H locs ls ho hP hD hS (lv_sub hl [0] rfl)
  · replace ho := ho.2 c_4
    refine lv_aload_n hx hb dX8_right_7 rfl (lv_at hl 0 rfl) ?_
    refine lv_iload_n hx hb dX8_right_8 rfl (lv_at hl 2 rfl) ?_
    refine ca_Vi (b := a_mo) (As := [.int p2]) (rest := []) ⟨hx, hb, hml, hown, hts⟩ (c_X8_isCode l D cI cJ cZ a_mo a_moR a_moK a_moH a_moS a_moF a_moT a_moP a_moQ a_moA a_moB a_moD mo_e mo_f mo_codes mo_most mo_minus mo_low mo_function mo_atX mo_atM mo_spanFunction mo_spanRounding mo_spanMany mo_parts mo_shift p2 _ ho) (cwV 1 hts (gdV wl_250 wl_251 wl_252 wl_5 wl_253) rfl rfl rfl (by decide +kernel) ⟨hRf _ (Nat.le_of_ble_eq_true rfl), hRl _ (Nat.le_of_ble_eq_true rfl)⟩) hK hN hP [0] rfl 0 7 rfl rfl rfl rfl hl.1 rfl (Nat.le_of_ble_eq_true rfl) dX8_right_9 ⟨Nat.zero_le _, Nat.zero_le _⟩ (fun r9 ho => ?_)
    refine lv_if_eq (tgt := 33) hx hb dX8_right_12 (by decide) (fun c_12 => ?_) (fun c_12 => ?_)
    · replace ho := ho.1 c_12
      exact C_33 mo_function mo_atX mo_atM moR_r H locs ls ho hP hD hS (lv_sub hl [0] rfl)
    · replace ho := ho.2 c_12
      refine lv_iload_n hx hb dX8_right_15 rfl (lv_at hl 3 rfl) ?_
      refine lv_iconst (v := 5) hx hb dX8_right_16 (by decide) ?_
      refine ca_Si (As := [.int p3, .int (5 : Int32)]) (rest := []) ⟨hx, hb, hml, hown, hts⟩ (c_X8_isIn l D cI cJ cZ   p3 (5 : Int32) _ ho) (va_cwS 2 hts (gdS wl_254 wl_255 wl_5 wl_256) rfl rfl rfl (by decide +kernel) ⟨hRf _ (Nat.le_of_ble_eq_true rfl), hRl _ (Nat.le_of_ble_eq_true rfl)⟩) hK hN hP [] rfl rfl hl.1 rfl (Nat.le_of_ble_eq_true rfl) dX8_right_17 ⟨Nat.zero_le _, Nat.zero_le _⟩ (fun r17 ho => ?_)
      refine lv_if_eq (tgt := 33) hx hb dX8_right_20 (by decide) (fun c_20 => ?_) (fun c_20 => ?_)
      · replace ho := ho.1 c_20
        exact C_33 mo_function mo_atX mo_atM moR_r H locs ls ho hP hD hS (lv_sub hl [0] rfl)
      · replace ho := ho.2 c_20
        refine lv_aload_n hx hb dX8_right_23 rfl (lv_at hl 0 rfl) ?_
        refine lv_iload_n hx hb dX8_right_24 rfl (lv_at hl 1 rfl) ?_
        refine lv_iload_n hx hb dX8_right_25 rfl (lv_at hl 2 rfl) ?_
        refine lv_iload_n hx hb dX8_right_26 rfl (lv_at hl 3 rfl) ?_
        refine ca_Wi (b := a_mo) (As := [.int p1, .int p2, .int p3]) (rest := []) (wr := [(a_moR, .inl (cI, 7, .inl moR_r))]) (wo := fun (u : (Int32) × (Int32) × (Int64)) => [(a_mo, oX8 a_moR mo_e mo_f mo_codes mo_most mo_minus mo_low u.1 u.2.1 u.2.2 a_moK a_moH a_moS mo_spanFunction mo_spanRounding mo_spanMany a_moF a_moT mo_parts mo_shift a_moP a_moQ a_moA a_moB a_moD)]) (wn := fun (u : (Int32) × (Int32) × (Int64)) => [(a_mo, oX8 a_moR mo_e mo_f mo_codes mo_most mo_minus mo_low u.1 u.2.1 u.2.2 a_moK a_moH a_moS mo_spanFunction mo_spanRounding mo_spanMany a_moF a_moT mo_parts mo_shift a_moP a_moQ a_moA a_moB a_moD), (a_moR, .inl (cI, 7, .inl moR_r))]) ⟨hx, hb, hml, hown, hts⟩ (c_X8_rightOf l D cI cJ cZ a_mo a_moR a_moK a_moH a_moS a_moF a_moT a_moP a_moQ a_moA a_moB a_moD H.size mo_e mo_f mo_codes mo_most mo_minus mo_low mo_function mo_atX mo_atM mo_spanFunction mo_spanRounding mo_spanMany mo_parts mo_shift p1 p2 p3 _ _ rfl ho) (cwV 3 hts (gdV wl_472 wl_473 wl_474 wl_5 wl_475) rfl rfl rfl (by decide +kernel) ⟨hRf _ (Nat.le_of_ble_eq_true rfl), hRl _ (Nat.le_of_ble_eq_true rfl)⟩) hK hN hP hD hS hA [0] [1] [1, 0] rfl rfl (by decide) (by decide) (by decide) (by decide) (fun _ => rfl) 0 7 rfl rfl rfl rfl hl.1 rfl (Nat.le_of_ble_eq_true rfl) dX8_right_27 ⟨Nat.zero_le _, Nat.zero_le _⟩ (fun r27 u27 H locs ho hP hD hS => ?_)
        obtain ⟨u27_1, u27_2, u27_3⟩ := u27
        try dsimp only at ho
        replace hP : va_P D vwCl [(a_mo, oX8 a_moR mo_e mo_f mo_codes mo_most mo_minus mo_low u27_1 u27_2 u27_3 a_moK a_moH a_moS mo_spanFunction mo_spanRounding mo_spanMany a_moF a_moT mo_parts mo_shift a_moP a_moQ a_moA a_moB a_moD), (a_moR, .inl (cI, 7, .inl moR_r))] H := hP
        replace hD : va_D A [(a_mo, oX8 a_moR mo_e mo_f mo_codes mo_most mo_minus mo_low u27_1 u27_2 u27_3 a_moK a_moH a_moS mo_spanFunction mo_spanRounding mo_spanMany a_moF a_moT mo_parts mo_shift a_moP a_moQ a_moA a_moB a_moD), (a_moR, .inl (cI, 7, .inl moR_r))] := hD
        refine lv_goto (tgt := 38) hx hb dX8_right_30 (by decide) ?_
        subst hQ; exact W.iret (v := r27) hx hb hr (fun t ht hW => ⟨⟨r27, (u27_1, u27_2, u27_3, moR_r), rfl, ho, by rw [ht]; exact hP, hD⟩, hS.F ht⟩) (fun q hq => hS.2.2 q hq) dX8_right_38

def w_X8_sortOf : List Cond := .code yX8_sortOf cX8_sortOf 4 (some .int) :: wsL_law
set_option maxHeartbeats 4000000 in
set_option maxRecDepth 100000 in
theorem c_X8_sortOf (l : Launch) (D : va_G) (cI cJ cZ : ClassId) (a_mo : Nat) (a_moR : Nat) (a_moK : Nat) (a_moH : Nat) (a_moS : Nat) (a_moF : Nat) (a_moT : Nat) (a_moP : Nat) (a_moQ : Nat) (a_moA : Nat) (a_moB : Nat) (a_moD : Nat) (sz : Nat) (mo_e : Int32) (mo_f : Int32) (mo_codes : Int32) (mo_most : Int32) (mo_minus : Int32) (mo_low : Int32) (mo_function : Int32) (mo_atX : Int32) (mo_atM : Int64) (mo_spanFunction : Int32) (mo_spanRounding : Int32) (mo_spanMany : Int32) (mo_parts : Int32) (mo_shift : Int32) (p1 : Int32) (p2 : Int32) (post : Int32 → Int32 → Int32 → Int64 → Prop) (A : Nat → Prop) (hAe : A = va_A [(a_mo, oX8 a_moR mo_e mo_f mo_codes mo_most mo_minus mo_low mo_function mo_atX mo_atM a_moK a_moH a_moS mo_spanFunction mo_spanRounding mo_spanMany a_moF a_moT mo_parts mo_shift a_moP a_moQ a_moA a_moB a_moD)] sz) (ho : wp_X8_sortOf post mo_f mo_most mo_minus mo_low mo_function mo_atX mo_atM p1 p2) : Met l yX8_sortOf w_X8_sortOf ({ frames := 4, cells := 0, slots := 0, locals := 101 } : Room) (rw_P D [(cI, .int), (cJ, .long), (cZ, .boolean)] [.ref a_mo, .int p1, .int p2] sz [(a_mo, oX8 a_moR mo_e mo_f mo_codes mo_most mo_minus mo_low mo_function mo_atX mo_atM a_moK a_moH a_moS mo_spanFunction mo_spanRounding mo_spanMany a_moF a_moT mo_parts mo_shift a_moP a_moQ a_moA a_moB a_moD)]) (va_Qi (fun (r : Int32) (u : (Int32) × (Int32) × (Int64)) => post r u.1 u.2.1 u.2.2) (rw_B D A (fun (u : (Int32) × (Int32) × (Int64)) => [(a_mo, oX8 a_moR mo_e mo_f mo_codes mo_most mo_minus mo_low u.1 u.2.1 u.2.2 a_moK a_moH a_moS mo_spanFunction mo_spanRounding mo_spanMany a_moF a_moT mo_parts mo_shift a_moP a_moQ a_moA a_moB a_moD)])) A) 0 0 A := by
  refine Met.ofW (cc := cX8_sortOf) (maxL := 4) (ret := (some .int)) (by decide) rfl ?_
  intro p e s m args below meth c s₁ B hml hv
  obtain ⟨hargs, hsz, hP, hK, hN, hD0⟩ := hv
  have hx := B.exec
  have hb := B.bytes
  have hr := B.returns
  have hts : ∀ w ∈ wsL_law, w.before args s = true := fun w h => atoms_spec (ws := w_X8_sortOf) B.pre w (List.mem_cons_of_mem _ h)
  have hown : s.vm.findClass RX8 = some m.cls := findClass_of_methodNamed B.named
  have hlocks := B.notSynchronized
  subst hsz
  have hD : va_D A [(a_mo, oX8 a_moR mo_e mo_f mo_codes mo_most mo_minus mo_low mo_function mo_atX mo_atM a_moK a_moH a_moS mo_spanFunction mo_spanRounding mo_spanMany a_moF a_moT mo_parts mo_shift a_moP a_moQ a_moA a_moB a_moD)] := by rw [hAe]; exact hD0.self
  have hA : ∀ q : Nat, s.heap.size ≤ q → A q := fun q h => by rw [hAe]; exact Or.inr h
  have hS : va_S A s.heap s.heap [] := va_S.rf
  have hl := lv_entry ([.ref a_mo, .int p1, .int p2]) (n := 4) (Nat.le_of_ble_eq_true rfl)
  rw [hargs, lg_entry_eq, ← hargs]
  generalize (lg_sl ([.ref a_mo, .int p1, .int p2]) ++ List.replicate (4 - (lg_sl ([.ref a_mo, .int p1, .int p2])).length) Slot.unset).toArray = ls at hl ⊢
  replace hl : lv_has ls 4 [(0, .ref a_mo), (1, .int p1), (2, .int p2)] := hl
  have hRf : ∀ n, n ≤ 4 → n ≤ (headSpec w_X8_sortOf ({ frames := 4, cells := 0, slots := 0, locals := 101 } : Room)).room.frames := fun n h => h
  have hRl : ∀ n, n ≤ 101 → n ≤ (headSpec w_X8_sortOf ({ frames := 4, cells := 0, slots := 0, locals := 101 } : Room)).room.locals := fun n h => h
  generalize (headSpec w_X8_sortOf ({ frames := 4, cells := 0, slots := 0, locals := 101 } : Room)).room = R at hRf hRl ⊢
  generalize hQ : MQ below _ args s 0 0 _ = Q
  suffices main : ∀ (H : Heap) (locs : List Loc), va_P D vwCl [(a_mo, oX8 a_moR mo_e mo_f mo_codes mo_most mo_minus mo_low mo_function mo_atX mo_atM a_moK a_moH a_moS mo_spanFunction mo_spanRounding mo_spanMany a_moF a_moT mo_parts mo_shift a_moP a_moQ a_moA a_moB a_moD)] H → va_S A s.heap H locs → W p l e R s m args below meth c H locs 0 0 Q (F0 m 0 ls []) from main _ _ hP hS
  intro H locs hP hS
  unfold wp_X8_sortOf at ho
  refine lv_aload_n hx hb dX8_sortOf_0 rfl (lv_at hl 0 rfl) ?_
  refine lv_iload_n hx hb dX8_sortOf_1 rfl (lv_at hl 1 rfl) ?_
  refine lv_iload_n hx hb dX8_sortOf_2 rfl (lv_at hl 2 rfl) ?_
  refine ca_Vi (b := a_mo) (As := [.int p1, .int p2]) (rest := []) ⟨hx, hb, hml, hown, hts⟩ (c_X8_plainly l D cI cJ cZ a_mo a_moR a_moK a_moH a_moS a_moF a_moT a_moP a_moQ a_moA a_moB a_moD mo_e mo_f mo_codes mo_most mo_minus mo_low mo_function mo_atX mo_atM mo_spanFunction mo_spanRounding mo_spanMany mo_parts mo_shift p1 p2 _ ho) (cwV 2 hts (gdV wl_476 wl_477 wl_478 wl_5 wl_479) rfl rfl rfl (by decide +kernel) ⟨hRf _ (Nat.le_of_ble_eq_true rfl), hRl _ (Nat.le_of_ble_eq_true rfl)⟩) hK hN hP [0] rfl 0 7 rfl rfl rfl rfl hl.1 rfl (Nat.le_of_ble_eq_true rfl) dX8_sortOf_3 ⟨Nat.zero_le _, Nat.zero_le _⟩ (fun r3 ho => ?_)
  refine lv_if_lt (tgt := 28) hx hb dX8_sortOf_6 (by decide) (fun c_6 => ?_) (fun c_6 => ?_)
  · replace ho := ho.1 c_6
    refine lv_aload_n hx hb dX8_sortOf_28 rfl (lv_at hl 0 rfl) ?_
    refine lv_iload_n hx hb dX8_sortOf_29 rfl (lv_at hl 1 rfl) ?_
    refine lv_iload_n hx hb dX8_sortOf_30 rfl (lv_at hl 2 rfl) ?_
    refine ca_Wv (b := a_mo) (As := [.int p1, .int p2]) (rest := []) (wr := []) (wo := fun (u : (Int32) × (Int32) × (Int64)) => [(a_mo, oX8 a_moR mo_e mo_f mo_codes mo_most mo_minus mo_low u.1 u.2.1 u.2.2 a_moK a_moH a_moS mo_spanFunction mo_spanRounding mo_spanMany a_moF a_moT mo_parts mo_shift a_moP a_moQ a_moA a_moB a_moD)]) (wn := fun (u : (Int32) × (Int32) × (Int64)) => [(a_mo, oX8 a_moR mo_e mo_f mo_codes mo_most mo_minus mo_low u.1 u.2.1 u.2.2 a_moK a_moH a_moS mo_spanFunction mo_spanRounding mo_spanMany a_moF a_moT mo_parts mo_shift a_moP a_moQ a_moA a_moB a_moD)]) ⟨hx, hb, hml, hown, hts⟩ (c_X8_sets l D cI cJ cZ a_mo a_moR a_moK a_moH a_moS a_moF a_moT a_moP a_moQ a_moA a_moB a_moD H.size mo_e mo_f mo_codes mo_most mo_minus mo_low mo_function mo_atX mo_atM mo_spanFunction mo_spanRounding mo_spanMany mo_parts mo_shift p1 p2 _ _ rfl ho) (cwV 2 hts (gdV wl_480 wl_481 wl_482 wl_5 wl_483) rfl rfl rfl (by decide +kernel) ⟨hRf _ (Nat.le_of_ble_eq_true rfl), hRl _ (Nat.le_of_ble_eq_true rfl)⟩) hK hN hP hD hS hA [0] [] [0] rfl rfl (by decide) (by decide) (by decide) (by decide) (fun _ => rfl) 0 7 rfl rfl rfl rfl hl.1 rfl (Nat.le_of_ble_eq_true rfl) dX8_sortOf_31 ⟨Nat.zero_le _, Nat.zero_le _⟩ (fun  u31 H locs ho hP hD hS => ?_)
    obtain ⟨u31_1, u31_2, u31_3⟩ := u31
    try dsimp only at ho
    replace hP : va_P D vwCl [(a_mo, oX8 a_moR mo_e mo_f mo_codes mo_most mo_minus mo_low u31_1 u31_2 u31_3 a_moK a_moH a_moS mo_spanFunction mo_spanRounding mo_spanMany a_moF a_moT mo_parts mo_shift a_moP a_moQ a_moA a_moB a_moD)] H := hP
    replace hD : va_D A [(a_mo, oX8 a_moR mo_e mo_f mo_codes mo_most mo_minus mo_low u31_1 u31_2 u31_3 a_moK a_moH a_moS mo_spanFunction mo_spanRounding mo_spanMany a_moF a_moT mo_parts mo_shift a_moP a_moQ a_moA a_moB a_moD)] := hD
    refine lv_aload_n hx hb dX8_sortOf_34 rfl (lv_at hl 0 rfl) ?_
    refine ca_Vi (b := a_mo) (As := []) (rest := []) ⟨hx, hb, hml, hown, hts⟩ (c_X8_floor l D cI cJ cZ a_mo a_moR a_moK a_moH a_moS a_moF a_moT a_moP a_moQ a_moA a_moB a_moD mo_e mo_f mo_codes mo_most mo_minus mo_low u31_1 u31_2 u31_3 mo_spanFunction mo_spanRounding mo_spanMany mo_parts mo_shift  _ ho) (cwV 0 hts (gdV wl_374 wl_375 wl_376 wl_5 wl_377) rfl rfl rfl (by decide +kernel) ⟨hRf _ (Nat.le_of_ble_eq_true rfl), hRl _ (Nat.le_of_ble_eq_true rfl)⟩) hK hN hP [0] rfl 0 7 rfl rfl rfl rfl hl.1 rfl (Nat.le_of_ble_eq_true rfl) dX8_sortOf_35 ⟨Nat.zero_le _, Nat.zero_le _⟩ (fun r35 ho => ?_)
    refine lv_istore_n (lv' := [(3, .int r35), (0, .ref a_mo), (1, .int p1), (2, .int p2)]) hx hb dX8_sortOf_38 rfl hl (by decide) rfl (fun ls hl => ?_)
    refine lv_aload_n hx hb dX8_sortOf_39 rfl (lv_at hl 1 rfl) ?_
    refine lv_iload_n hx hb dX8_sortOf_40 rfl (lv_at hl 0 rfl) ?_
    refine ca_Vi (b := a_mo) (As := [.int r35]) (rest := []) ⟨hx, hb, hml, hown, hts⟩ (c_X8_isFloat l D cI cJ cZ a_mo a_moR a_moK a_moH a_moS a_moF a_moT a_moP a_moQ a_moA a_moB a_moD mo_e mo_f mo_codes mo_most mo_minus mo_low u31_1 u31_2 u31_3 mo_spanFunction mo_spanRounding mo_spanMany mo_parts mo_shift r35 _ ho) (cwV 1 hts (gdV wl_388 wl_389 wl_390 wl_5 wl_391) rfl rfl rfl (by decide +kernel) ⟨hRf _ (Nat.le_of_ble_eq_true rfl), hRl _ (Nat.le_of_ble_eq_true rfl)⟩) hK hN hP [0] rfl 0 7 rfl rfl rfl rfl hl.1 rfl (Nat.le_of_ble_eq_true rfl) dX8_sortOf_41 ⟨Nat.zero_le _, Nat.zero_le _⟩ (fun r41 ho => ?_)
    refine lv_if_eq (tgt := 51) hx hb dX8_sortOf_44 (by decide) (fun c_44 => ?_) (fun c_44 => ?_)
    · replace ho := ho.1 c_44
      refine lv_aload_n hx hb dX8_sortOf_51 rfl (lv_at hl 1 rfl) ?_
      refine lv_iload_n hx hb dX8_sortOf_52 rfl (lv_at hl 0 rfl) ?_
      refine ca_Vi (b := a_mo) (As := [.int r35]) (rest := []) ⟨hx, hb, hml, hown, hts⟩ (c_X8_middle l D cI cJ cZ a_mo a_moR a_moK a_moH a_moS a_moF a_moT a_moP a_moQ a_moA a_moB a_moD mo_e mo_f mo_codes mo_most mo_minus mo_low u31_1 u31_2 u31_3 mo_spanFunction mo_spanRounding mo_spanMany mo_parts mo_shift r35 _ ho) (cwV 1 hts (gdV wl_392 wl_393 wl_394 wl_5 wl_395) rfl rfl rfl (by decide +kernel) ⟨hRf _ (Nat.le_of_ble_eq_true rfl), hRl _ (Nat.le_of_ble_eq_true rfl)⟩) hK hN hP [0] rfl 0 7 rfl rfl rfl rfl hl.1 rfl (Nat.le_of_ble_eq_true rfl) dX8_sortOf_53 ⟨Nat.zero_le _, Nat.zero_le _⟩ (fun r53 ho => ?_)
      refine lv_if_ne (tgt := 63) hx hb dX8_sortOf_56 (by decide) (fun c_56 => ?_) (fun c_56 => ?_)
      · replace ho := ho.1 c_56
        refine lv_iconst (v := 3) hx hb dX8_sortOf_63 (by decide) ?_
        subst hQ; exact W.iret (v := (3 : Int32)) hx hb hr (fun t ht hW => ⟨⟨(3 : Int32), (u31_1, u31_2, u31_3), rfl, ho, by rw [ht]; exact hP, hD⟩, hS.F ht⟩) (fun q hq => hS.2.2 q hq) dX8_sortOf_64
      · replace ho := ho.2 c_56
        refine lv_iconst (v := 2) hx hb dX8_sortOf_59 (by decide) ?_
        refine lv_goto (tgt := 64) hx hb dX8_sortOf_60 (by decide) ?_
        subst hQ; exact W.iret (v := (2 : Int32)) hx hb hr (fun t ht hW => ⟨⟨(2 : Int32), (u31_1, u31_2, u31_3), rfl, ho, by rw [ht]; exact hP, hD⟩, hS.F ht⟩) (fun q hq => hS.2.2 q hq) dX8_sortOf_64
    · replace ho := ho.2 c_44
      refine lv_iconst (v := 1) hx hb dX8_sortOf_47 (by decide) ?_
      refine lv_goto (tgt := 64) hx hb dX8_sortOf_48 (by decide) ?_
      subst hQ; exact W.iret (v := (1 : Int32)) hx hb hr (fun t ht hW => ⟨⟨(1 : Int32), (u31_1, u31_2, u31_3), rfl, ho, by rw [ht]; exact hP, hD⟩, hS.F ht⟩) (fun q hq => hS.2.2 q hq) dX8_sortOf_64
  · replace ho := ho.2 c_6
    refine lv_aload_n hx hb dX8_sortOf_9 rfl (lv_at hl 0 rfl) ?_
    refine lv_iload_n hx hb dX8_sortOf_10 rfl (lv_at hl 2 rfl) ?_
    refine ca_Vi (b := a_mo) (As := [.int p2]) (rest := []) ⟨hx, hb, hml, hown, hts⟩ (c_X8_kind l D cI cJ cZ a_mo a_moR a_moK a_moH a_moS a_moF a_moT a_moP a_moQ a_moA a_moB a_moD mo_e mo_f mo_codes mo_most mo_minus mo_low mo_function mo_atX mo_atM mo_spanFunction mo_spanRounding mo_spanMany mo_parts mo_shift p2 _ ho) (cwV 1 hts (gdV wl_266 wl_267 wl_268 wl_5 wl_269) rfl rfl rfl (by decide +kernel) ⟨hRf _ (Nat.le_of_ble_eq_true rfl), hRl _ (Nat.le_of_ble_eq_true rfl)⟩) hK hN hP [0] rfl 0 7 rfl rfl rfl rfl hl.1 rfl (Nat.le_of_ble_eq_true rfl) dX8_sortOf_11 ⟨Nat.zero_le _, Nat.zero_le _⟩ (fun r11 ho => ?_)
    refine lv_iconst (v := 1) hx hb dX8_sortOf_14 (by decide) ?_
    refine lv_icmp_ne (tgt := 26) hx hb dX8_sortOf_15 (by decide) (fun c_15 => ?_) (fun c_15 => ?_)
    · replace ho := ho.1 c_15
      refine lv_iconst (v := 0) hx hb dX8_sortOf_26 (by decide) ?_
      subst hQ; exact W.iret (v := (0 : Int32)) hx hb hr (fun t ht hW => ⟨⟨(0 : Int32), (mo_function, mo_atX, mo_atM), rfl, ho, by rw [ht]; exact hP, hD⟩, hS.F ht⟩) (fun q hq => hS.2.2 q hq) dX8_sortOf_27
    · replace ho := ho.2 c_15
      refine lv_iload_n hx hb dX8_sortOf_18 rfl (lv_at hl 1 rfl) ?_
      refine lv_if_eq (tgt := 26) hx hb dX8_sortOf_19 (by decide) (fun c_19 => ?_) (fun c_19 => ?_)
      · replace ho := ho.1 c_19
        refine lv_iconst (v := 0) hx hb dX8_sortOf_26 (by decide) ?_
        subst hQ; exact W.iret (v := (0 : Int32)) hx hb hr (fun t ht hW => ⟨⟨(0 : Int32), (mo_function, mo_atX, mo_atM), rfl, ho, by rw [ht]; exact hP, hD⟩, hS.F ht⟩) (fun q hq => hS.2.2 q hq) dX8_sortOf_27
      · replace ho := ho.2 c_19
        refine lv_iconst (v := 1) hx hb dX8_sortOf_22 (by decide) ?_
        refine lv_goto (tgt := 27) hx hb dX8_sortOf_23 (by decide) ?_
        subst hQ; exact W.iret (v := (1 : Int32)) hx hb hr (fun t ht hW => ⟨⟨(1 : Int32), (mo_function, mo_atX, mo_atM), rfl, ho, by rw [ht]; exact hP, hD⟩, hS.F ht⟩) (fun q hq => hS.2.2 q hq) dX8_sortOf_27
