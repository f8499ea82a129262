def wp_X8_count_79 (post : Int32 → Int32 → Int32 → Int64 → (Nat → Int32) → (Nat → Int32) → (Nat → Int32) → (Nat → Int32) → Prop) (K_47 : Int32 → Int32 → Int64 → (Nat → Int32) → (Nat → Int32) → (Nat → Int32) → (Nat → Int32) → Int32 → Int32 → Prop) (mo_function : Int32) (mo_atX : Int32) (mo_atM : Int64) (moR_r : Nat → Int32) (moK_r : Nat → Int32) (moH_r : Nat → Int32) (moS_r : Nat → Int32) (x4 : Int32) (y0 : Int32) (y1 : Int32) : Prop := K_47 mo_function mo_atX mo_atM moR_r moK_r moH_r moS_r (y1 + y0) (x4 + (1 : Int32))
def wp_X8_count_47_b (post : Int32 → Int32 → Int32 → Int64 → (Nat → Int32) → (Nat → Int32) → (Nat → Int32) → (Nat → Int32) → Prop)  (mo_codes : Int32) (p1 : Int32) (p2 : Int32) (K_47 : Int32 → Int32 → Int64 → (Nat → Int32) → (Nat → Int32) → (Nat → Int32) → (Nat → Int32) → Int32 → Int32 → Prop) (mo_function : Int32) (mo_atX : Int32) (mo_atM : Int64) (moR_r : Nat → Int32) (moK_r : Nat → Int32) (moH_r : Nat → Int32) (moS_r : Nat → Int32) (x3 : Int32) (x4 : Int32) : Prop := ((mo_codes ≤ x4) → (post x3 mo_function mo_atX mo_atM moR_r moK_r moH_r moS_r)) ∧ ((¬ (mo_codes ≤ x4)) → ((vp_in (((16384 : Int32) * p1) + x4) 81920) ∧ (((¬ (moH_r (((16384 : Int32) * p1) + x4).toNatClampNeg) = p2) → (wp_X8_count_79 post K_47 mo_function mo_atX mo_atM moR_r moK_r moH_r moS_r x4 (0 : Int32) x3)) ∧ ((¬ (¬ (moH_r (((16384 : Int32) * p1) + x4).toNatClampNeg) = p2)) → (wp_X8_count_79 post K_47 mo_function mo_atX mo_atM moR_r moK_r moH_r moS_r x4 (1 : Int32) x3)))))
noncomputable def wp_X8_count_47 (post : Int32 → Int32 → Int32 → Int64 → (Nat → Int32) → (Nat → Int32) → (Nat → Int32) → (Nat → Int32) → Prop)  (mo_codes : Int32) (p1 : Int32) (p2 : Int32) (n : Nat) : Int32 → Int32 → Int64 → (Nat → Int32) → (Nat → Int32) → (Nat → Int32) → (Nat → Int32) → Int32 → Int32 → Prop := Nat.rec (motive := fun _ => Int32 → Int32 → Int64 → (Nat → Int32) → (Nat → Int32) → (Nat → Int32) → (Nat → Int32) → Int32 → Int32 → Prop) (fun _ _ _ _ _ _ _ _ _ => False) (fun _ K_47 => wp_X8_count_47_b post mo_codes p1 p2 K_47) n
def wp_X8_count (post : Int32 → Int32 → Int32 → Int64 → (Nat → Int32) → (Nat → Int32) → (Nat → Int32) → (Nat → Int32) → Prop) (mo_f : Int32) (mo_codes : Int32) (mo_most : Int32) (mo_minus : Int32) (mo_low : Int32) (mo_function : Int32) (mo_atX : Int32) (mo_atM : Int64) (moR_r : Nat → Int32) (moK_r : Nat → Int32) (moH_r : Nat → Int32) (moS_r : Nat → Int32) (p1 : Int32) (p2 : Int32) : Prop := wp_X8_isFunction (fun r1 => (((¬ r1 = 0) → (((0 ≤ p2) → (((p2 ≤ (9 : Int32)) → (wp_X8_know (fun u39_1 u39_2 u39_3 u39_4 u39_5 u39_6 => (∃ n, wp_X8_count_47 post mo_codes p1 p2 n u39_1 u39_2 u39_3 moR_r u39_4 u39_5 u39_6 (0 : Int32) (0 : Int32))) mo_f mo_codes mo_most mo_minus mo_low mo_function mo_atX mo_atM moK_r moH_r moS_r p1)) ∧ ((¬ (p2 ≤ (9 : Int32))) → (wp_X8_refuse (fun r33 u33 => (post r33 mo_function mo_atX mo_atM u33 moK_r moH_r moS_r)) moR_r (-6 : Int32))))) ∧ ((¬ (0 ≤ p2)) → (wp_X8_refuse (fun r20 u20 => (post r20 mo_function mo_atX mo_atM u20 moK_r moH_r moS_r)) moR_r (-4 : Int32))))) ∧ ((¬ (¬ r1 = 0)) → (wp_X8_refuse (fun r9 u9 => (post r9 mo_function mo_atX mo_atM u9 moK_r moH_r moS_r)) moR_r (-1 : Int32))))) p1
set_option maxRecDepth 20000 in
theorem in_X8_count_X8 : ∀ w ∈ u_ws RX8 TX8 25, w ∈ wsX8_count := fun w h => (goodIn_r wsX80 [87, 88, 89, 90, 91, 92, 93, 94, 95, 96, 97, 98, 99, 100, 101, 102, 103, 104, 105, 106, 107, 108, 109, 110, 111] (by decide +kernel) (by decide +kernel) w h).1
set_option maxHeartbeats 4000000 in
set_option maxRecDepth 100000 in
theorem c_X8_count (l : Launch) (D : va_G) (cI cJ cZ : ClassId) (a_mo : Nat) (a_moR : Nat) (a_moK : Nat) (a_moH : Nat) (a_moS : Nat) (a_moF : Nat) (a_moT : Nat) (a_moP : Nat) (a_moQ : Nat) (a_moA : Nat) (a_moB : Nat) (a_moD : Nat) (sz : Nat) (mo_e : Int32) (mo_f : Int32) (mo_codes : Int32) (mo_most : Int32) (mo_minus : Int32) (mo_low : Int32) (mo_function : Int32) (mo_atX : Int32) (mo_atM : Int64) (mo_spanFunction : Int32) (mo_spanRounding : Int32) (mo_spanMany : Int32) (mo_parts : Int32) (mo_shift : Int32) (moR_r : Nat → Int32) (moK_r : Nat → Int32) (moH_r : Nat → Int32) (moS_r : Nat → Int32) (p1 : Int32) (p2 : Int32) (post : Int32 → Int32 → Int32 → Int64 → (Nat → Int32) → (Nat → Int32) → (Nat → Int32) → (Nat → Int32) → Prop) (A : Nat → Prop) (hAe : A = va_A [(a_mo, oX8 a_moR mo_e mo_f mo_codes mo_most mo_minus mo_low mo_function mo_atX mo_atM a_moK a_moH a_moS mo_spanFunction mo_spanRounding mo_spanMany a_moF a_moT mo_parts mo_shift a_moP a_moQ a_moA a_moB a_moD), (a_moR, .inl (cI, 7, .inl moR_r)), (a_moK, .inl (cZ, 5, .inl moK_r)), (a_moH, .inl (cI, 81920, .inl moH_r)), (a_moS, .inl (cI, 81920, .inl moS_r))] sz) (ho : wp_X8_count post mo_f mo_codes mo_most mo_minus mo_low mo_function mo_atX mo_atM moR_r moK_r moH_r moS_r p1 p2) : Met l yX8_count wsX8_count ({ frames := 7, cells := 0, slots := 0, locals := 175 } : Room) (rw_P D [(cI, .int), (cJ, .long), (cZ, .boolean)] [.ref a_mo, .int p1, .int p2] sz [(a_mo, oX8 a_moR mo_e mo_f mo_codes mo_most mo_minus mo_low mo_function mo_atX mo_atM a_moK a_moH a_moS mo_spanFunction mo_spanRounding mo_spanMany a_moF a_moT mo_parts mo_shift a_moP a_moQ a_moA a_moB a_moD), (a_moR, .inl (cI, 7, .inl moR_r)), (a_moK, .inl (cZ, 5, .inl moK_r)), (a_moH, .inl (cI, 81920, .inl moH_r)), (a_moS, .inl (cI, 81920, .inl moS_r))]) (va_Qi (fun (r : Int32) (u : (Int32) × (Int32) × (Int64) × (Nat → Int32) × (Nat → Int32) × (Nat → Int32) × (Nat → Int32)) => post r u.1 u.2.1 u.2.2.1 u.2.2.2.1 u.2.2.2.2.1 u.2.2.2.2.2.1 u.2.2.2.2.2.2) (rw_B D A (fun (u : (Int32) × (Int32) × (Int64) × (Nat → Int32) × (Nat → Int32) × (Nat → Int32) × (Nat → Int32)) => [(a_mo, oX8 a_moR mo_e mo_f mo_codes mo_most mo_minus mo_low u.1 u.2.1 u.2.2.1 a_moK a_moH a_moS mo_spanFunction mo_spanRounding mo_spanMany a_moF a_moT mo_parts mo_shift a_moP a_moQ a_moA a_moB a_moD), (a_moR, .inl (cI, 7, .inl u.2.2.2.1)), (a_moK, .inl (cZ, 5, .inl u.2.2.2.2.1)), (a_moH, .inl (cI, 81920, .inl u.2.2.2.2.2.1)), (a_moS, .inl (cI, 81920, .inl u.2.2.2.2.2.2))])) A) 0 0 A := by
  refine Met.ofW (cc := cX8_count) (maxL := 5) (ret := (some .int)) (by decide) rfl ?_
  intro p e s m args below meth c s₁ B hml hv
  obtain ⟨hargs, hsz, hP, hK, hN, hD0⟩ := hv
  have hx := B.exec
  have hb := B.bytes
  have hr := B.returns
  have hts := atoms_spec (ws := wsX8_count) B.pre
  have hown : s.vm.findClass RX8 = some m.cls := findClass_of_methodNamed B.named
  have hlocks := B.notSynchronized
  subst hsz
  have hD : va_D A [(a_mo, oX8 a_moR mo_e mo_f mo_codes mo_most mo_minus mo_low mo_function mo_atX mo_atM a_moK a_moH a_moS mo_spanFunction mo_spanRounding mo_spanMany a_moF a_moT mo_parts mo_shift a_moP a_moQ a_moA a_moB a_moD), (a_moR, .inl (cI, 7, .inl moR_r)), (a_moK, .inl (cZ, 5, .inl moK_r)), (a_moH, .inl (cI, 81920, .inl moH_r)), (a_moS, .inl (cI, 81920, .inl moS_r))] := by rw [hAe]; exact hD0.self
  have hA : ∀ q : Nat, s.heap.size ≤ q → A q := fun q h => by rw [hAe]; exact Or.inr h
  have hS : va_S A s.heap s.heap [] := va_S.rf
  have hl := lv_entry ([.ref a_mo, .int p1, .int p2]) (n := 5) (Nat.le_of_ble_eq_true rfl)
  rw [hargs, lg_entry_eq, ← hargs]
  generalize (lg_sl ([.ref a_mo, .int p1, .int p2]) ++ List.replicate (5 - (lg_sl ([.ref a_mo, .int p1, .int p2])).length) Slot.unset).toArray = ls at hl ⊢
  replace hl : lv_has ls 5 [(0, .ref a_mo), (1, .int p1), (2, .int p2)] := hl
  have hRf : ∀ n, n ≤ 7 → n ≤ (headSpec wsX8_count ({ frames := 7, cells := 0, slots := 0, locals := 175 } : Room)).room.frames := fun n h => h
  have hRl : ∀ n, n ≤ 175 → n ≤ (headSpec wsX8_count ({ frames := 7, cells := 0, slots := 0, locals := 175 } : Room)).room.locals := fun n h => h
  generalize (headSpec wsX8_count ({ frames := 7, cells := 0, slots := 0, locals := 175 } : Room)).room = R at hRf hRl ⊢
  generalize hQ : MQ below _ args s 0 0 _ = Q
  have C_47 : ∀ n : Nat, ∀ (mo_function : Int32) (mo_atX : Int32) (mo_atM : Int64) (moR_r : Nat → Int32) (moK_r : Nat → Int32) (moH_r : Nat → Int32) (moS_r : Nat → Int32) (x3 : Int32) (x4 : Int32) (H : Heap) (locs : List Loc) (ls : Array Slot), wp_X8_count_47 post  mo_codes p1 p2 n mo_function mo_atX mo_atM moR_r moK_r moH_r moS_r x3 x4 → va_P D vwCl [(a_mo, oX8 a_moR mo_e mo_f mo_codes mo_most mo_minus mo_low mo_function mo_atX mo_atM a_moK a_moH a_moS mo_spanFunction mo_spanRounding mo_spanMany a_moF a_moT mo_parts mo_shift a_moP a_moQ a_moA a_moB a_moD), (a_moR, .inl (cI, 7, .inl moR_r)), (a_moK, .inl (cZ, 5, .inl moK_r)), (a_moH, .inl (cI, 81920, .inl moH_r)), (a_moS, .inl (cI, 81920, .inl moS_r))] H → va_D A [(a_mo, oX8 a_moR mo_e mo_f mo_codes mo_most mo_minus mo_low mo_function mo_atX mo_atM a_moK a_moH a_moS mo_spanFunction mo_spanRounding mo_spanMany a_moF a_moT mo_parts mo_shift a_moP a_moQ a_moA a_moB a_moD), (a_moR, .inl (cI, 7, .inl moR_r)), (a_moK, .inl (cZ, 5, .inl moK_r)), (a_moH, .inl (cI, 81920, .inl moH_r)), (a_moS, .inl (cI, 81920, .inl moS_r))] → va_S A s.heap H locs → lv_has ls 5 [(0, .ref a_mo), (1, .int p1), (2, .int p2), (3, .int x3), (4, .int x4)] → W p l e R s m args below meth c H locs 0 0 Q (F0 m 47 ls []) := by
    intro n
    induction n with
    | zero => intro mo_function mo_atX mo_atM moR_r moK_r moH_r moS_r x3 x4 H locs ls ho hP hD hS hl; exact ho.elim
    | succ n_47 ih_47 =>
      have C_79 : ∀ (mo_function : Int32) (mo_atX : Int32) (mo_atM : Int64) (moR_r : Nat → Int32) (moK_r : Nat → Int32) (moH_r : Nat → Int32) (moS_r : Nat → Int32) (x4 : Int32) (y0 : Int32) (y1 : Int32) (H : Heap) (locs : List Loc) (ls : Array Slot), wp_X8_count_79 post (wp_X8_count_47 post mo_codes p1 p2 n_47) mo_function mo_atX mo_atM moR_r moK_r moH_r moS_r x4 y0 y1 → va_P D vwCl [(a_mo, oX8 a_moR mo_e mo_f mo_codes mo_most mo_minus mo_low mo_function mo_atX mo_atM a_moK a_moH a_moS mo_spanFunction mo_spanRounding mo_spanMany a_moF a_moT mo_parts mo_shift a_moP a_moQ a_moA a_moB a_moD), (a_moR, .inl (cI, 7, .inl moR_r)), (a_moK, .inl (cZ, 5, .inl moK_r)), (a_moH, .inl (cI, 81920, .inl moH_r)), (a_moS, .inl (cI, 81920, .inl moS_r))] H → va_D A [(a_mo, oX8 a_moR mo_e mo_f mo_codes mo_most mo_minus mo_low mo_function mo_atX mo_atM a_moK a_moH a_moS mo_spanFunction mo_spanRounding mo_spanMany a_moF a_moT mo_parts mo_shift a_moP a_moQ a_moA a_moB a_moD), (a_moR, .inl (cI, 7, .inl moR_r)), (a_moK, .inl (cZ, 5, .inl moK_r)), (a_moH, .inl (cI, 81920, .inl moH_r)), (a_moS, .inl (cI, 81920, .inl moS_r))] → va_S A s.heap H locs → lv_has ls 5 [(0, .ref a_mo), (1, .int p1), (2, .int p2), (4, .int x4)] → W p l e R s m args below meth c H locs 0 0 Q (F0 m 79 ls [.int y0, .int y1]) := by
        intro mo_function mo_atX mo_atM moR_r moK_r moH_r moS_r x4 y0 y1 H locs ls ho hP hD hS hl
        unfold wp_X8_count_79 at ho
        refine lv_iadd hx hb dX8_count_79 ?_
        refine lv_istore_n (lv' := [(3, .int (y1 + y0)), (0, .ref a_mo), (1, .int p1), (2, .int p2), (4, .int x4)]) hx hb dX8_count_80 rfl hl (by decide) rfl (fun ls hl => ?_)
        refine lv_iinc (v := (x4 + (1 : Int32))) (lv' := [(4, .int (x4 + (1 : Int32))), (3, .int (y1 + y0)), (0, .ref a_mo), (1, .int p1), (2, .int p2)]) hx hb dX8_count_81 hl (k := 4) rfl rfl (by decide) rfl (fun ls hl => ?_)
        refine lv_goto (tgt := 47) hx hb dX8_count_84 (by decide) ?_
        exact ih_47 mo_function mo_atX mo_atM moR_r moK_r moH_r moS_r (y1 + y0) (x4 + (1 : Int32)) H locs ls ho hP hD hS (lv_sub hl [2, 3, 4, 1, 0] rfl)
      intro mo_function mo_atX mo_atM moR_r moK_r moH_r moS_r x3 x4 H locs ls ho hP hD hS hl
      replace ho : wp_X8_count_47_b post mo_codes p1 p2 (wp_X8_count_47 post mo_codes p1 p2 n_47) mo_function mo_atX mo_atM moR_r moK_r moH_r moS_r x3 x4 := ho
      unfold wp_X8_count_47_b at ho
      refine lv_iload hx hb dX8_count_47 (lv_at hl 4 rfl) ?_
      refine lv_aload_n hx hb dX8_count_49 rfl (lv_at hl 0 rfl) ?_
      refine va_get (D := D) (ci := 7) (v := .int mo_codes) (C := RX8) (T := TX8) (N := 25) hx hb hts in_X8_count_X8 hown hK hP 0 rfl rfl 3 (by decide) (hts (.fieldLink RX8 62 "HardBenchModel" "codes" "I") (List.mem_of_getElem? (i := 1) (by decide +kernel))) (fun _ h9 => h9) rfl dX8_count_50 ?_
      refine lv_icmp_ge (tgt := 87) hx hb dX8_count_53 (by decide) (fun c_53 => ?_) (fun c_53 => ?_)
      · replace ho := ho.1 c_53
        refine lv_iload_n hx hb dX8_count_87 rfl (lv_at hl 3 rfl) ?_
        subst hQ; exact W.iret (v := x3) hx hb hr (fun t ht hW => ⟨⟨x3, (mo_function, mo_atX, mo_atM, moR_r, moK_r, moH_r, moS_r), rfl, ho, by rw [ht]; exact hP, hD⟩, hS.F ht⟩) (fun q hq => hS.2.2 q hq) dX8_count_88
      · replace ho := ho.2 c_53
        refine lv_iload_n hx hb dX8_count_56 rfl (lv_at hl 3 rfl) ?_
        refine lv_aload_n hx hb dX8_count_57 rfl (lv_at hl 0 rfl) ?_
        refine va_get (D := D) (ci := 7) (v := .ref a_moH) (C := RX8) (T := TX8) (N := 25) hx hb hts in_X8_count_X8 hown hK hP 0 rfl rfl 11 (by decide) (hts (.fieldLink RX8 18 "HardBenchModel" "hards" "[I") (List.mem_of_getElem? (i := 2) (by decide +kernel))) (fun _ h9 => h9) rfl dX8_count_58 ?_
        refine lv_sipush (v := 16384) hx hb dX8_count_61 (by decide) ?_
        refine lv_iload_n hx hb dX8_count_64 rfl (lv_at hl 1 rfl) ?_
        refine lv_imul hx hb dX8_count_65 ?_
        refine lv_iload hx hb dX8_count_66 (lv_at hl 4 rfl) ?_
        refine lv_iadd hx hb dX8_count_68 ?_
        have o_69 := ho.1
        replace ho := ho.2
        refine va_iald hx hb hK hP 3 0 rfl rfl o_69 dX8_count_69 ?_
        refine lv_iload_n hx hb dX8_count_70 rfl (lv_at hl 2 rfl) ?_
        refine lv_icmp_ne (tgt := 78) hx hb dX8_count_71 (by decide) (fun c_71 => ?_) (fun c_71 => ?_)
        · replace ho := ho.1 c_71
          refine lv_iconst (v := 0) hx hb dX8_count_78 (by decide) ?_
          exact C_79 mo_function mo_atX mo_atM moR_r moK_r moH_r moS_r x4 (0 : Int32) x3 H locs ls ho hP hD hS (lv_sub hl [0, 1, 2, 4] rfl)
        · replace ho := ho.2 c_71
          refine lv_iconst (v := 1) hx hb dX8_count_74 (by decide) ?_
          refine lv_goto (tgt := 79) hx hb dX8_count_75 (by decide) ?_
          exact C_79 mo_function mo_atX mo_atM moR_r moK_r moH_r moS_r x4 (1 : Int32) x3 H locs ls ho hP hD hS (lv_sub hl [0, 1, 2, 4] rfl)
  unfold wp_X8_count at ho
  refine lv_iload_n hx hb dX8_count_0 rfl (lv_at hl 1 rfl) ?_
  refine ca_Si (As := [.int p1]) (rest := []) ⟨hx, hb, hml, hown, hts⟩ (c_X8_isFunction l D cI cJ cZ   p1 _ ho) (va_cwS 1 hts gX8_count_X8_isFunction rfl rfl rfl (by decide +kernel) ⟨hRf _ (Nat.le_of_ble_eq_true rfl), hRl _ (Nat.le_of_ble_eq_true rfl)⟩) hK hN hP [] rfl rfl hl.1 rfl (Nat.le_of_ble_eq_true rfl) dX8_count_1 ⟨Nat.zero_le _, Nat.zero_le _⟩ (fun r1 ho => ?_)
  refine lv_if_ne (tgt := 13) hx hb dX8_count_4 (by decide) (fun c_4 => ?_) (fun c_4 => ?_)
  · replace ho := ho.1 c_4
    refine lv_iload_n hx hb dX8_count_13 rfl (lv_at hl 2 rfl) ?_
    refine lv_if_ge (tgt := 24) hx hb dX8_count_14 (by decide) (fun c_14 => ?_) (fun c_14 => ?_)
    · replace ho := ho.1 c_14
      refine lv_iload_n hx hb dX8_count_24 rfl (lv_at hl 2 rfl) ?_
      refine lv_bipush (v := 9) hx hb dX8_count_25 (by decide) ?_
      refine lv_icmp_le (tgt := 37) hx hb dX8_count_27 (by decide) (fun c_27 => ?_) (fun c_27 => ?_)
      · replace ho := ho.1 c_27
        refine lv_aload_n hx hb dX8_count_37 rfl (lv_at hl 0 rfl) ?_
        refine lv_iload_n hx hb dX8_count_38 rfl (lv_at hl 1 rfl) ?_
        refine ca_Wv (b := a_mo) (As := [.int p1]) (rest := []) (wr := [(a_moR, .inl (cI, 7, .inl moR_r))]) (wo := fun u => [(a_mo, oX8 a_moR mo_e mo_f mo_codes mo_most mo_minus mo_low u.1 u.2.1 u.2.2.1 a_moK a_moH a_moS mo_spanFunction mo_spanRounding mo_spanMany a_moF a_moT mo_parts mo_shift a_moP a_moQ a_moA a_moB a_moD), (a_moK, .inl (cZ, 5, .inl u.2.2.2.1)), (a_moH, .inl (cI, 81920, .inl u.2.2.2.2.1)), (a_moS, .inl (cI, 81920, .inl u.2.2.2.2.2))]) (wn := fun u => [(a_mo, oX8 a_moR mo_e mo_f mo_codes mo_most mo_minus mo_low u.1 u.2.1 u.2.2.1 a_moK a_moH a_moS mo_spanFunction mo_spanRounding mo_spanMany a_moF a_moT mo_parts mo_shift a_moP a_moQ a_moA a_moB a_moD), (a_moR, .inl (cI, 7, .inl moR_r)), (a_moK, .inl (cZ, 5, .inl u.2.2.2.1)), (a_moH, .inl (cI, 81920, .inl u.2.2.2.2.1)), (a_moS, .inl (cI, 81920, .inl u.2.2.2.2.2))]) ⟨hx, hb, hml, hown, hts⟩ (c_X8_know l D cI cJ cZ a_mo a_moR a_moK a_moH a_moS a_moF a_moT a_moP a_moQ a_moA a_moB a_moD H.size mo_e mo_f mo_codes mo_most mo_minus mo_low mo_function mo_atX mo_atM mo_spanFunction mo_spanRounding mo_spanMany mo_parts mo_shift moK_r moH_r moS_r p1 _ _ rfl ho) (cwV 1 hts gX8_count_X8_know rfl rfl rfl (by decide +kernel) ⟨hRf _ (Nat.le_of_ble_eq_true rfl), hRl _ (Nat.le_of_ble_eq_true rfl)⟩) hK hN hP hD hS hA [0, 2, 3, 4] [1] [1, 0, 2, 3, 4] rfl rfl (by decide) (by decide) (by decide) (by decide) (fun _ => rfl) 0 7 rfl rfl rfl rfl hl.1 rfl (Nat.le_of_ble_eq_true rfl) dX8_count_39 ⟨Nat.zero_le _, Nat.zero_le _⟩ (fun  u39 H locs ho hP hD hS => ?_)
        obtain ⟨u39_1, u39_2, u39_3, u39_4, u39_5, u39_6⟩ := u39
        try dsimp only at ho
        replace hP : va_P D vwCl [(a_mo, oX8 a_moR mo_e mo_f mo_codes mo_most mo_minus mo_low u39_1 u39_2 u39_3 a_moK a_moH a_moS mo_spanFunction mo_spanRounding mo_spanMany a_moF a_moT mo_parts mo_shift a_moP a_moQ a_moA a_moB a_moD), (a_moR, .inl (cI, 7, .inl moR_r)), (a_moK, .inl (cZ, 5, .inl u39_4)), (a_moH, .inl (cI, 81920, .inl u39_5)), (a_moS, .inl (cI, 81920, .inl u39_6))] H := hP
        replace hD : va_D A [(a_mo, oX8 a_moR mo_e mo_f mo_codes mo_most mo_minus mo_low u39_1 u39_2 u39_3 a_moK a_moH a_moS mo_spanFunction mo_spanRounding mo_spanMany a_moF a_moT mo_parts mo_shift a_moP a_moQ a_moA a_moB a_moD), (a_moR, .inl (cI, 7, .inl moR_r)), (a_moK, .inl (cZ, 5, .inl u39_4)), (a_moH, .inl (cI, 81920, .inl u39_5)), (a_moS, .inl (cI, 81920, .inl u39_6))] := hD
        refine lv_iconst (v := 0) hx hb dX8_count_42 (by decide) ?_
        refine lv_istore_n (lv' := [(3, .int (0 : Int32)), (0, .ref a_mo), (1, .int p1), (2, .int p2)]) hx hb dX8_count_43 rfl hl (by decide) rfl (fun ls hl => ?_)
        refine lv_iconst (v := 0) hx hb dX8_count_44 (by decide) ?_
        refine lv_istore (lv' := [(4, .int (0 : Int32)), (3, .int (0 : Int32)), (0, .ref a_mo), (1, .int p1), (2, .int p2)]) hx hb dX8_count_45 hl (by decide) rfl (fun ls hl => ?_)
        obtain ⟨n_47, ho⟩ := ho
        exact C_47 n_47 u39_1 u39_2 u39_3 moR_r u39_4 u39_5 u39_6 (0 : Int32) (0 : Int32) H locs ls ho hP hD hS (lv_sub hl [2, 3, 4, 1, 0] rfl)
      · replace ho := ho.2 c_27
        refine lv_aload_n hx hb dX8_count_30 rfl (lv_at hl 0 rfl) ?_
        refine lv_bipush (v := (-6)) hx hb dX8_count_31 (by decide) ?_
        refine ca_Wi (b := a_mo) (As := [.int (-6 : Int32)]) (rest := []) (wr := [(a_moK, .inl (cZ, 5, .inl moK_r)), (a_moH, .inl (cI, 81920, .inl moH_r)), (a_moS, .inl (cI, 81920, .inl moS_r))]) (wo := fun u => [(a_mo, oX8 a_moR mo_e mo_f mo_codes mo_most mo_minus mo_low mo_function mo_atX mo_atM a_moK a_moH a_moS mo_spanFunction mo_spanRounding mo_spanMany a_moF a_moT mo_parts mo_shift a_moP a_moQ a_moA a_moB a_moD), (a_moR, .inl (cI, 7, .inl u))]) (wn := fun u => [(a_mo, oX8 a_moR mo_e mo_f mo_codes mo_most mo_minus mo_low mo_function mo_atX mo_atM a_moK a_moH a_moS mo_spanFunction mo_spanRounding mo_spanMany a_moF a_moT mo_parts mo_shift a_moP a_moQ a_moA a_moB a_moD), (a_moR, .inl (cI, 7, .inl u)), (a_moK, .inl (cZ, 5, .inl moK_r)), (a_moH, .inl (cI, 81920, .inl moH_r)), (a_moS, .inl (cI, 81920, .inl moS_r))]) ⟨hx, hb, hml, hown, hts⟩ (c_X8_refuse l D cI cJ cZ a_mo a_moR a_moK a_moH a_moS a_moF a_moT a_moP a_moQ a_moA a_moB a_moD H.size mo_e mo_f mo_codes mo_most mo_minus mo_low mo_function mo_atX mo_atM mo_spanFunction mo_spanRounding mo_spanMany mo_parts mo_shift moR_r (-6 : Int32) _ _ rfl ho) (cwV 1 hts gX8_count_X8_refuse rfl rfl rfl (by decide +kernel) ⟨hRf _ (Nat.le_of_ble_eq_true rfl), hRl _ (Nat.le_of_ble_eq_true rfl)⟩) hK hN hP hD hS hA [0, 1] [2, 3, 4] [3, 4, 0, 1, 2] rfl rfl (by decide) (by decide) (by decide) (by decide) (fun _ => rfl) 0 7 rfl rfl rfl rfl hl.1 rfl (Nat.le_of_ble_eq_true rfl) dX8_count_33 ⟨Nat.zero_le _, Nat.zero_le _⟩ (fun r33 u33 H locs ho hP hD hS => ?_)
        try dsimp only at ho
        replace hP : va_P D vwCl [(a_mo, oX8 a_moR mo_e mo_f mo_codes mo_most mo_minus mo_low mo_function mo_atX mo_atM a_moK a_moH a_moS mo_spanFunction mo_spanRounding mo_spanMany a_moF a_moT mo_parts mo_shift a_moP a_moQ a_moA a_moB a_moD), (a_moR, .inl (cI, 7, .inl u33)), (a_moK, .inl (cZ, 5, .inl moK_r)), (a_moH, .inl (cI, 81920, .inl moH_r)), (a_moS, .inl (cI, 81920, .inl moS_r))] H := hP
        replace hD : va_D A [(a_mo, oX8 a_moR mo_e mo_f mo_codes mo_most mo_minus mo_low mo_function mo_atX mo_atM a_moK a_moH a_moS mo_spanFunction mo_spanRounding mo_spanMany a_moF a_moT mo_parts mo_shift a_moP a_moQ a_moA a_moB a_moD), (a_moR, .inl (cI, 7, .inl u33)), (a_moK, .inl (cZ, 5, .inl moK_r)), (a_moH, .inl (cI, 81920, .inl moH_r)), (a_moS, .inl (cI, 81920, .inl moS_r))] := hD
        subst hQ; exact W.iret (v := r33) hx hb hr (fun t ht hW => ⟨⟨r33, (mo_function, mo_atX, mo_atM, u33, moK_r, moH_r, moS_r), rfl, ho, by rw [ht]; exact hP, hD⟩, hS.F ht⟩) (fun q hq => hS.2.2 q hq) dX8_count_36
    · replace ho := ho.2 c_14
      refine lv_aload_n hx hb dX8_count_17 rfl (lv_at hl 0 rfl) ?_
      refine lv_bipush (v := (-4)) hx hb dX8_count_18 (by decide) ?_
      refine ca_Wi (b := a_mo) (As := [.int (-4 : Int32)]) (rest := []) (wr := [(a_moK, .inl (cZ, 5, .inl moK_r)), (a_moH, .inl (cI, 81920, .inl moH_r)), (a_moS, .inl (cI, 81920, .inl moS_r))]) (wo := fun u => [(a_mo, oX8 a_moR mo_e mo_f mo_codes mo_most mo_minus mo_low mo_function mo_atX mo_atM a_moK a_moH a_moS mo_spanFunction mo_spanRounding mo_spanMany a_moF a_moT mo_parts mo_shift a_moP a_moQ a_moA a_moB a_moD), (a_moR, .inl (cI, 7, .inl u))]) (wn := fun u => [(a_mo, oX8 a_moR mo_e mo_f mo_codes mo_most mo_minus mo_low mo_function mo_atX mo_atM a_moK a_moH a_moS mo_spanFunction mo_spanRounding mo_spanMany a_moF a_moT mo_parts mo_shift a_moP a_moQ a_moA a_moB a_moD), (a_moR, .inl (cI, 7, .inl u)), (a_moK, .inl (cZ, 5, .inl moK_r)), (a_moH, .inl (cI, 81920, .inl moH_r)), (a_moS, .inl (cI, 81920, .inl moS_r))]) ⟨hx, hb, hml, hown, hts⟩ (c_X8_refuse l D cI cJ cZ a_mo a_moR a_moK a_moH a_moS a_moF a_moT a_moP a_moQ a_moA a_moB a_moD H.size mo_e mo_f mo_codes mo_most mo_minus mo_low mo_function mo_atX mo_atM mo_spanFunction mo_spanRounding mo_spanMany mo_parts mo_shift moR_r (-4 : Int32) _ _ rfl ho) (cwV 1 hts gX8_count_X8_refuse rfl rfl rfl (by decide +kernel) ⟨hRf _ (Nat.le_of_ble_eq_true rfl), hRl _ (Nat.le_of_ble_eq_true rfl)⟩) hK hN hP hD hS hA [0, 1] [2, 3, 4] [3, 4, 0, 1, 2] rfl rfl (by decide) (by decide) (by decide) (by decide) (fun _ => rfl) 0 7 rfl rfl rfl rfl hl.1 rfl (Nat.le_of_ble_eq_true rfl) dX8_count_20 ⟨Nat.zero_le _, Nat.zero_le _⟩ (fun r20 u20 H locs ho hP hD hS => ?_)
      try dsimp only at ho
      replace hP : va_P D vwCl [(a_mo, oX8 a_moR mo_e mo_f mo_codes mo_most mo_minus mo_low mo_function mo_atX mo_atM a_moK a_moH a_moS mo_spanFunction mo_spanRounding mo_spanMany a_moF a_moT mo_parts mo_shift a_moP a_moQ a_moA a_moB a_moD), (a_moR, .inl (cI, 7, .inl u20)), (a_moK, .inl (cZ, 5, .inl moK_r)), (a_moH, .inl (cI, 81920, .inl moH_r)), (a_moS, .inl (cI, 81920, .inl moS_r))] H := hP
      replace hD : va_D A [(a_mo, oX8 a_moR mo_e mo_f mo_codes mo_most mo_minus mo_low mo_function mo_atX mo_atM a_moK a_moH a_moS mo_spanFunction mo_spanRounding mo_spanMany a_moF a_moT mo_parts mo_shift a_moP a_moQ a_moA a_moB a_moD), (a_moR, .inl (cI, 7, .inl u20)), (a_moK, .inl (cZ, 5, .inl moK_r)), (a_moH, .inl (cI, 81920, .inl moH_r)), (a_moS, .inl (cI, 81920, .inl moS_r))] := hD
      subst hQ; exact W.iret (v := r20) hx hb hr (fun t ht hW => ⟨⟨r20, (mo_function, mo_atX, mo_atM, u20, moK_r, moH_r, moS_r), rfl, ho, by rw [ht]; exact hP, hD⟩, hS.F ht⟩) (fun q hq => hS.2.2 q hq) dX8_count_23
  · replace ho := ho.2 c_4
    refine lv_aload_n hx hb dX8_count_7 rfl (lv_at hl 0 rfl) ?_
    refine lv_iconst (v := (-1)) hx hb dX8_count_8 (by decide) ?_
    refine ca_Wi (b := a_mo) (As := [.int (-1 : Int32)]) (rest := []) (wr := [(a_moK, .inl (cZ, 5, .inl moK_r)), (a_moH, .inl (cI, 81920, .inl moH_r)), (a_moS, .inl (cI, 81920, .inl moS_r))]) (wo := fun u => [(a_mo, oX8 a_moR mo_e mo_f mo_codes mo_most mo_minus mo_low mo_function mo_atX mo_atM a_moK a_moH a_moS mo_spanFunction mo_spanRounding mo_spanMany a_moF a_moT mo_parts mo_shift a_moP a_moQ a_moA a_moB a_moD), (a_moR, .inl (cI, 7, .inl u))]) (wn := fun u => [(a_mo, oX8 a_moR mo_e mo_f mo_codes mo_most mo_minus mo_low mo_function mo_atX mo_atM a_moK a_moH a_moS mo_spanFunction mo_spanRounding mo_spanMany a_moF a_moT mo_parts mo_shift a_moP a_moQ a_moA a_moB a_moD), (a_moR, .inl (cI, 7, .inl u)), (a_moK, .inl (cZ, 5, .inl moK_r)), (a_moH, .inl (cI, 81920, .inl moH_r)), (a_moS, .inl (cI, 81920, .inl moS_r))]) ⟨hx, hb, hml, hown, hts⟩ (c_X8_refuse l D cI cJ cZ a_mo a_moR a_moK a_moH a_moS a_moF a_moT a_moP a_moQ a_moA a_moB a_moD H.size mo_e mo_f mo_codes mo_most mo_minus mo_low mo_function mo_atX mo_atM mo_spanFunction mo_spanRounding mo_spanMany mo_parts mo_shift moR_r (-1 : Int32) _ _ rfl ho) (cwV 1 hts gX8_count_X8_refuse rfl rfl rfl (by decide +kernel) ⟨hRf _ (Nat.le_of_ble_eq_true rfl), hRl _ (Nat.le_of_ble_eq_true rfl)⟩) hK hN hP hD hS hA [0, 1] [2, 3, 4] [3, 4, 0, 1, 2] rfl rfl (by decide) (by decide) (by decide) (by decide) (fun _ => rfl) 0 7 rfl rfl rfl rfl hl.1 rfl (Nat.le_of_ble_eq_true rfl) dX8_count_9 ⟨Nat.zero_le _, Nat.zero_le _⟩ (fun r9 u9 H locs ho hP hD hS => ?_)
    try dsimp only at ho
    replace hP : va_P D vwCl [(a_mo, oX8 a_moR mo_e mo_f mo_codes mo_most mo_minus mo_low mo_function mo_atX mo_atM a_moK a_moH a_moS mo_spanFunction mo_spanRounding mo_spanMany a_moF a_moT mo_parts mo_shift a_moP a_moQ a_moA a_moB a_moD), (a_moR, .inl (cI, 7, .inl u9)), (a_moK, .inl (cZ, 5, .inl moK_r)), (a_moH, .inl (cI, 81920, .inl moH_r)), (a_moS, .inl (cI, 81920, .inl moS_r))] H := hP
    replace hD : va_D A [(a_mo, oX8 a_moR mo_e mo_f mo_codes mo_most mo_minus mo_low mo_function mo_atX mo_atM a_moK a_moH a_moS mo_spanFunction mo_spanRounding mo_spanMany a_moF a_moT mo_parts mo_shift a_moP a_moQ a_moA a_moB a_moD), (a_moR, .inl (cI, 7, .inl u9)), (a_moK, .inl (cZ, 5, .inl moK_r)), (a_moH, .inl (cI, 81920, .inl moH_r)), (a_moS, .inl (cI, 81920, .inl moS_r))] := hD
    subst hQ; exact W.iret (v := r9) hx hb hr (fun t ht hW => ⟨⟨r9, (mo_function, mo_atX, mo_atM, u9, moK_r, moH_r, moS_r), rfl, ho, by rw [ht]; exact hP, hD⟩, hS.F ht⟩) (fun q hq => hS.2.2 q hq) dX8_count_12

def wp_X8_all_70 (post : Int32 → Int32 → Int32 → Int64 → (Nat → Int32) → (Nat → Int32) → (Nat → Int32) → (Nat → Int32) → Prop) (K_38 : Int32 → Int32 → Int64 → (Nat → Int32) → (Nat → Int32) → (Nat → Int32) → (Nat → Int32) → Int32 → Int32 → Prop) (mo_function : Int32) (mo_atX : Int32) (mo_atM : Int64) (moR_r : Nat → Int32) (moK_r : Nat → Int32) (moH_r : Nat → Int32) (moS_r : Nat → Int32) (x4 : Int32) (y0 : Int32) (y1 : Int32) : Prop := K_38 mo_function mo_atX mo_atM moR_r moK_r moH_r moS_r (y1 + y0) (x4 + (1 : Int32))
def wp_X8_all_38_b (post : Int32 → Int32 → Int32 → Int64 → (Nat → Int32) → (Nat → Int32) → (Nat → Int32) → (Nat → Int32) → Prop)  (mo_codes : Int32) (p1 : Int32) (p2 : Int32) (K_38 : Int32 → Int32 → Int64 → (Nat → Int32) → (Nat → Int32) → (Nat → Int32) → (Nat → Int32) → Int32 → Int32 → Prop) (mo_function : Int32) (mo_atX : Int32) (mo_atM : Int64) (moR_r : Nat → Int32) (moK_r : Nat → Int32) (moH_r : Nat → Int32) (moS_r : Nat → Int32) (x3 : Int32) (x4 : Int32) : Prop := ((mo_codes ≤ x4) → (post x3 mo_function mo_atX mo_atM moR_r moK_r moH_r moS_r)) ∧ ((¬ (mo_codes ≤ x4)) → ((vp_in (((16384 : Int32) * p1) + x4) 81920) ∧ (((¬ (moS_r (((16384 : Int32) * p1) + x4).toNatClampNeg) = p2) → (wp_X8_all_70 post K_38 mo_function mo_atX mo_atM moR_r moK_r moH_r moS_r x4 (0 : Int32) x3)) ∧ ((¬ (¬ (moS_r (((16384 : Int32) * p1) + x4).toNatClampNeg) = p2)) → (wp_X8_all_70 post K_38 mo_function mo_atX mo_atM moR_r moK_r moH_r moS_r x4 (1 : Int32) x3)))))
noncomputable def wp_X8_all_38 (post : Int32 → Int32 → Int32 → Int64 → (Nat → Int32) → (Nat → Int32) → (Nat → Int32) → (Nat → Int32) → Prop)  (mo_codes : Int32) (p1 : Int32) (p2 : Int32) (n : Nat) : Int32 → Int32 → Int64 → (Nat → Int32) → (Nat → Int32) → (Nat → Int32) → (Nat → Int32) → Int32 → Int32 → Prop := Nat.rec (motive := fun _ => Int32 → Int32 → Int64 → (Nat → Int32) → (Nat → Int32) → (Nat → Int32) → (Nat → Int32) → Int32 → Int32 → Prop) (fun _ _ _ _ _ _ _ _ _ => False) (fun _ K_38 => wp_X8_all_38_b post mo_codes p1 p2 K_38) n
def wp_X8_all (post : Int32 → Int32 → Int32 → Int64 → (Nat → Int32) → (Nat → Int32) → (Nat → Int32) → (Nat → Int32) → Prop) (mo_f : Int32) (mo_codes : Int32) (mo_most : Int32) (mo_minus : Int32) (mo_low : Int32) (mo_function : Int32) (mo_atX : Int32) (mo_atM : Int64) (moR_r : Nat → Int32) (moK_r : Nat → Int32) (moH_r : Nat → Int32) (moS_r : Nat → Int32) (p1 : Int32) (p2 : Int32) : Prop := wp_X8_isFunction (fun r1 => (((¬ r1 = 0) → (wp_X8_isIn (fun r15 => (((¬ r15 = 0) → (wp_X8_know (fun u30_1 u30_2 u30_3 u30_4 u30_5 u30_6 => (∃ n, wp_X8_all_38 post mo_codes p1 p2 n u30_1 u30_2 u30_3 moR_r u30_4 u30_5 u30_6 (0 : Int32) (0 : Int32))) mo_f mo_codes mo_most mo_minus mo_low mo_function mo_atX mo_atM moK_r moH_r moS_r p1)) ∧ ((¬ (¬ r15 = 0)) → (wp_X8_refuse (fun r24 u24 => (post r24 mo_function mo_atX mo_atM u24 moK_r moH_r moS_r)) moR_r (-2 : Int32))))) p2 (4 : Int32))) ∧ ((¬ (¬ r1 = 0)) → (wp_X8_refuse (fun r9 u9 => (post r9 mo_function mo_atX mo_atM u9 moK_r moH_r moS_r)) moR_r (-1 : Int32))))) p1
set_option maxRecDepth 20000 in
theorem in_X8_all_X8 : ∀ w ∈ u_ws RX8 TX8 25, w ∈ wsX8_all := fun w h => (goodIn_r wsX80 [87, 88, 89, 90, 91, 92, 93, 94, 95, 96, 97, 98, 99, 100, 101, 102, 103, 104, 105, 106, 107, 108, 109, 110, 111] (by decide +kernel) (by decide +kernel) w h).1
set_option maxHeartbeats 4000000 in
set_option maxRecDepth 100000 in
theorem c_X8_all (l : Launch) (D : va_G) (cI cJ cZ : ClassId) (a_mo : Nat) (a_moR : Nat) (a_moK : Nat) (a_moH : Nat) (a_moS : Nat) (a_moF : Nat) (a_moT : Nat) (a_moP : Nat) (a_moQ : Nat) (a_moA : Nat) (a_moB : Nat) (a_moD : Nat) (sz : Nat) (mo_e : Int32) (mo_f : Int32) (mo_codes : Int32) (mo_most : Int32) (mo_minus : Int32) (mo_low : Int32) (mo_function : Int32) (mo_atX : Int32) (mo_atM : Int64) (mo_spanFunction : Int32) (mo_spanRounding : Int32) (mo_spanMany : Int32) (mo_parts : Int32) (mo_shift : Int32) (moR_r : Nat → Int32) (moK_r : Nat → Int32) (moH_r : Nat → Int32) (moS_r : Nat → Int32) (p1 : Int32) (p2 : Int32) (post : Int32 → Int32 → Int32 → Int64 → (Nat → Int32) → (Nat → Int32) → (Nat → Int32) → (Nat → Int32) → Prop) (A : Nat → Prop) (hAe : A = va_A [(a_mo, oX8 a_moR mo_e mo_f mo_codes mo_most mo_minus mo_low mo_function mo_atX mo_atM a_moK a_moH a_moS mo_spanFunction mo_spanRounding mo_spanMany a_moF a_moT mo_parts mo_shift a_moP a_moQ a_moA a_moB a_moD), (a_moR, .inl (cI, 7, .inl moR_r)), (a_moK, .inl (cZ, 5, .inl moK_r)), (a_moH, .inl (cI, 81920, .inl moH_r)), (a_moS, .inl (cI, 81920, .inl moS_r))] sz) (ho : wp_X8_all post mo_f mo_codes mo_most mo_minus mo_low mo_function mo_atX mo_atM moR_r moK_r moH_r moS_r p1 p2) : Met l yX8_all wsX8_all ({ frames := 7, cells := 0, slots := 0, locals := 175 } : Room) (rw_P D [(cI, .int), (cJ, .long), (cZ, .boolean)] [.ref a_mo, .int p1, .int p2] sz [(a_mo, oX8 a_moR mo_e mo_f mo_codes mo_most mo_minus mo_low mo_function mo_atX mo_atM a_moK a_moH a_moS mo_spanFunction mo_spanRounding mo_spanMany a_moF a_moT mo_parts mo_shift a_moP a_moQ a_moA a_moB a_moD), (a_moR, .inl (cI, 7, .inl moR_r)), (a_moK, .inl (cZ, 5, .inl moK_r)), (a_moH, .inl (cI, 81920, .inl moH_r)), (a_moS, .inl (cI, 81920, .inl moS_r))]) (va_Qi (fun (r : Int32) (u : (Int32) × (Int32) × (Int64) × (Nat → Int32) × (Nat → Int32) × (Nat → Int32) × (Nat → Int32)) => post r u.1 u.2.1 u.2.2.1 u.2.2.2.1 u.2.2.2.2.1 u.2.2.2.2.2.1 u.2.2.2.2.2.2) (rw_B D A (fun (u : (Int32) × (Int32) × (Int64) × (Nat → Int32) × (Nat → Int32) × (Nat → Int32) × (Nat → Int32)) => [(a_mo, oX8 a_moR mo_e mo_f mo_codes mo_most mo_minus mo_low u.1 u.2.1 u.2.2.1 a_moK a_moH a_moS mo_spanFunction mo_spanRounding mo_spanMany a_moF a_moT mo_parts mo_shift a_moP a_moQ a_moA a_moB a_moD), (a_moR, .inl (cI, 7, .inl u.2.2.2.1)), (a_moK, .inl (cZ, 5, .inl u.2.2.2.2.1)), (a_moH, .inl (cI, 81920, .inl u.2.2.2.2.2.1)), (a_moS, .inl (cI, 81920, .inl u.2.2.2.2.2.2))])) A) 0 0 A := by
  refine Met.ofW (cc := cX8_all) (maxL := 5) (ret := (some .int)) (by decide) rfl ?_
  intro p e s m args below meth c s₁ B hml hv
  obtain ⟨hargs, hsz, hP, hK, hN, hD0⟩ := hv
  have hx := B.exec
  have hb := B.bytes
  have hr := B.returns
  have hts := atoms_spec (ws := wsX8_all) B.pre
  have hown : s.vm.findClass RX8 = some m.cls := findClass_of_methodNamed B.named
  have hlocks := B.notSynchronized
  subst hsz
  have hD : va_D A [(a_mo, oX8 a_moR mo_e mo_f mo_codes mo_most mo_minus mo_low mo_function mo_atX mo_atM a_moK a_moH a_moS mo_spanFunction mo_spanRounding mo_spanMany a_moF a_moT mo_parts mo_shift a_moP a_moQ a_moA a_moB a_moD), (a_moR, .inl (cI, 7, .inl moR_r)), (a_moK, .inl (cZ, 5, .inl moK_r)), (a_moH, .inl (cI, 81920, .inl moH_r)), (a_moS, .inl (cI, 81920, .inl moS_r))] := by rw [hAe]; exact hD0.self
  have hA : ∀ q : Nat, s.heap.size ≤ q → A q := fun q h => by rw [hAe]; exact Or.inr h
  have hS : va_S A s.heap s.heap [] := va_S.rf
  have hl := lv_entry ([.ref a_mo, .int p1, .int p2]) (n := 5) (Nat.le_of_ble_eq_true rfl)
  rw [hargs, lg_entry_eq, ← hargs]
  generalize (lg_sl ([.ref a_mo, .int p1, .int p2]) ++ List.replicate (5 - (lg_sl ([.ref a_mo, .int p1, .int p2])).length) Slot.unset).toArray = ls at hl ⊢
  replace hl : lv_has ls 5 [(0, .ref a_mo), (1, .int p1), (2, .int p2)] := hl
  have hRf : ∀ n, n ≤ 7 → n ≤ (headSpec wsX8_all ({ frames := 7, cells := 0, slots := 0, locals := 175 } : Room)).room.frames := fun n h => h
  have hRl : ∀ n, n ≤ 175 → n ≤ (headSpec wsX8_all ({ frames := 7, cells := 0, slots := 0, locals := 175 } : Room)).room.locals := fun n h => h
  generalize (headSpec wsX8_all ({ frames := 7, cells := 0, slots := 0, locals := 175 } : Room)).room = R at hRf hRl ⊢
  generalize hQ : MQ below _ args s 0 0 _ = Q
  have C_38 : ∀ n : Nat, ∀ (mo_function : Int32) (mo_atX : Int32) (mo_atM : Int64) (moR_r : Nat → Int32) (moK_r : Nat → Int32) (moH_r : Nat → Int32) (moS_r : Nat → Int32) (x3 : Int32) (x4 : Int32) (H : Heap) (locs : List Loc) (ls : Array Slot), wp_X8_all_38 post  mo_codes p1 p2 n mo_function mo_atX mo_atM moR_r moK_r moH_r moS_r x3 x4 → va_P D vwCl [(a_mo, oX8 a_moR mo_e mo_f mo_codes mo_most mo_minus mo_low mo_function mo_atX mo_atM a_moK a_moH a_moS mo_spanFunction mo_spanRounding mo_spanMany a_moF a_moT mo_parts mo_shift a_moP a_moQ a_moA a_moB a_moD), (a_moR, .inl (cI, 7, .inl moR_r)), (a_moK, .inl (cZ, 5, .inl moK_r)), (a_moH, .inl (cI, 81920, .inl moH_r)), (a_moS, .inl (cI, 81920, .inl moS_r))] H → va_D A [(a_mo, oX8 a_moR mo_e mo_f mo_codes mo_most mo_minus mo_low mo_function mo_atX mo_atM a_moK a_moH a_moS mo_spanFunction mo_spanRounding mo_spanMany a_moF a_moT mo_parts mo_shift a_moP a_moQ a_moA a_moB a_moD), (a_moR, .inl (cI, 7, .inl moR_r)), (a_moK, .inl (cZ, 5, .inl moK_r)), (a_moH, .inl (cI, 81920, .inl moH_r)), (a_moS, .inl (cI, 81920, .inl moS_r))] → va_S A s.heap H locs → lv_has ls 5 [(0, .ref a_mo), (1, .int p1), (2, .int p2), (3, .int x3), (4, .int x4)] → W p l e R s m args below meth c H locs 0 0 Q (F0 m 38 ls []) := by
    intro n
    induction n with
    | zero => intro mo_function mo_atX mo_atM moR_r moK_r moH_r moS_r x3 x4 H locs ls ho hP hD hS hl; exact ho.elim
    | succ n_38 ih_38 =>
      have C_70 : ∀ (mo_function : Int32) (mo_atX : Int32) (mo_atM : Int64) (moR_r : Nat → Int32) (moK_r : Nat → Int32) (moH_r : Nat → Int32) (moS_r : Nat → Int32) (x4 : Int32) (y0 : Int32) (y1 : Int32) (H : Heap) (locs : List Loc) (ls : Array Slot), wp_X8_all_70 post (wp_X8_all_38 post mo_codes p1 p2 n_38) mo_function mo_atX mo_atM moR_r moK_r moH_r moS_r x4 y0 y1 → va_P D vwCl [(a_mo, oX8 a_moR mo_e mo_f mo_codes mo_most mo_minus mo_low mo_function mo_atX mo_atM a_moK a_moH a_moS mo_spanFunction mo_spanRounding mo_spanMany a_moF a_moT mo_parts mo_shift a_moP a_moQ a_moA a_moB a_moD), (a_moR, .inl (cI, 7, .inl moR_r)), (a_moK, .inl (cZ, 5, .inl moK_r)), (a_moH, .inl (cI, 81920, .inl moH_r)), (a_moS, .inl (cI, 81920, .inl moS_r))] H → va_D A [(a_mo, oX8 a_moR mo_e mo_f mo_codes mo_most mo_minus mo_low mo_function mo_atX mo_atM a_moK a_moH a_moS mo_spanFunction mo_spanRounding mo_spanMany a_moF a_moT mo_parts mo_shift a_moP a_moQ a_moA a_moB a_moD), (a_moR, .inl (cI, 7, .inl moR_r)), (a_moK, .inl (cZ, 5, .inl moK_r)), (a_moH, .inl (cI, 81920, .inl moH_r)), (a_moS, .inl (cI, 81920, .inl moS_r))] → va_S A s.heap H locs → lv_has ls 5 [(0, .ref a_mo), (1, .int p1), (2, .int p2), (4, .int x4)] → W p l e R s m args below meth c H locs 0 0 Q (F0 m 70 ls [.int y0, .int y1]) := by
        intro mo_function mo_atX mo_atM moR_r moK_r moH_r moS_r x4 y0 y1 H locs ls ho hP hD hS hl
        unfold wp_X8_all_70 at ho
        refine lv_iadd hx hb dX8_all_70 ?_
        refine lv_istore_n (lv' := [(3, .int (y1 + y0)), (0, .ref a_mo), (1, .int p1), (2, .int p2), (4, .int x4)]) hx hb dX8_all_71 rfl hl (by decide) rfl (fun ls hl => ?_)
        refine lv_iinc (v := (x4 + (1 : Int32))) (lv' := [(4, .int (x4 + (1 : Int32))), (3, .int (y1 + y0)), (0, .ref a_mo), (1, .int p1), (2, .int p2)]) hx hb dX8_all_72 hl (k := 4) rfl rfl (by decide) rfl (fun ls hl => ?_)
        refine lv_goto (tgt := 38) hx hb dX8_all_75 (by decide) ?_
        exact ih_38 mo_function mo_atX mo_atM moR_r moK_r moH_r moS_r (y1 + y0) (x4 + (1 : Int32)) H locs ls ho hP hD hS (lv_sub hl [2, 3, 4, 1, 0] rfl)
      intro mo_function mo_atX mo_atM moR_r moK_r moH_r moS_r x3 x4 H locs ls ho hP hD hS hl
      replace ho : wp_X8_all_38_b post mo_codes p1 p2 (wp_X8_all_38 post mo_codes p1 p2 n_38) mo_function mo_atX mo_atM moR_r moK_r moH_r moS_r x3 x4 := ho
      unfold wp_X8_all_38_b at ho
      refine lv_iload hx hb dX8_all_38 (lv_at hl 4 rfl) ?_
      refine lv_aload_n hx hb dX8_all_40 rfl (lv_at hl 0 rfl) ?_
      refine va_get (D := D) (ci := 7) (v := .int mo_codes) (C := RX8) (T := TX8) (N := 25) hx hb hts in_X8_all_X8 hown hK hP 0 rfl rfl 3 (by decide) (hts (.fieldLink RX8 62 "HardBenchModel" "codes" "I") (List.mem_of_getElem? (i := 1) (by decide +kernel))) (fun _ h9 => h9) rfl dX8_all_41 ?_
      refine lv_icmp_ge (tgt := 78) hx hb dX8_all_44 (by decide) (fun c_44 => ?_) (fun c_44 => ?_)
      · replace ho := ho.1 c_44
        refine lv_iload_n hx hb dX8_all_78 rfl (lv_at hl 3 rfl) ?_
        subst hQ; exact W.iret (v := x3) hx hb hr (fun t ht hW => ⟨⟨x3, (mo_function, mo_atX, mo_atM, moR_r, moK_r, moH_r, moS_r), rfl, ho, by rw [ht]; exact hP, hD⟩, hS.F ht⟩) (fun q hq => hS.2.2 q hq) dX8_all_79
      · replace ho := ho.2 c_44
        refine lv_iload_n hx hb dX8_all_47 rfl (lv_at hl 3 rfl) ?_
        refine lv_aload_n hx hb dX8_all_48 rfl (lv_at hl 0 rfl) ?_
        refine va_get (D := D) (ci := 7) (v := .ref a_moS) (C := RX8) (T := TX8) (N := 25) hx hb hts in_X8_all_X8 hown hK hP 0 rfl rfl 12 (by decide) (hts (.fieldLink RX8 21 "HardBenchModel" "sorts" "[I") (List.mem_of_getElem? (i := 2) (by decide +kernel))) (fun _ h9 => h9) rfl dX8_all_49 ?_
        refine lv_sipush (v := 16384) hx hb dX8_all_52 (by decide) ?_
        refine lv_iload_n hx hb dX8_all_55 rfl (lv_at hl 1 rfl) ?_
        refine lv_imul hx hb dX8_all_56 ?_
        refine lv_iload hx hb dX8_all_57 (lv_at hl 4 rfl) ?_
        refine lv_iadd hx hb dX8_all_59 ?_
        have o_60 := ho.1
        replace ho := ho.2
        refine va_iald hx hb hK hP 4 0 rfl rfl o_60 dX8_all_60 ?_
        refine lv_iload_n hx hb dX8_all_61 rfl (lv_at hl 2 rfl) ?_
        refine lv_icmp_ne (tgt := 69) hx hb dX8_all_62 (by decide) (fun c_62 => ?_) (fun c_62 => ?_)
        · replace ho := ho.1 c_62
          refine lv_iconst (v := 0) hx hb dX8_all_69 (by decide) ?_
          exact C_70 mo_function mo_atX mo_atM moR_r moK_r moH_r moS_r x4 (0 : Int32) x3 H locs ls ho hP hD hS (lv_sub hl [0, 1, 2, 4] rfl)
        · replace ho := ho.2 c_62
          refine lv_iconst (v := 1) hx hb dX8_all_65 (by decide) ?_
          refine lv_goto (tgt := 70) hx hb dX8_all_66 (by decide) ?_
          exact C_70 mo_function mo_atX mo_atM moR_r moK_r moH_r moS_r x4 (1 : Int32) x3 H locs ls ho hP hD hS (lv_sub hl [0, 1, 2, 4] rfl)
  unfold wp_X8_all at ho
  refine lv_iload_n hx hb dX8_all_0 rfl (lv_at hl 1 rfl) ?_
  refine ca_Si (As := [.int p1]) (rest := []) ⟨hx, hb, hml, hown, hts⟩ (c_X8_isFunction l D cI cJ cZ   p1 _ ho) (va_cwS 1 hts gX8_all_X8_isFunction rfl rfl rfl (by decide +kernel) ⟨hRf _ (Nat.le_of_ble_eq_true rfl), hRl _ (Nat.le_of_ble_eq_true rfl)⟩) hK hN hP [] rfl rfl hl.1 rfl (Nat.le_of_ble_eq_true rfl) dX8_all_1 ⟨Nat.zero_le _, Nat.zero_le _⟩ (fun r1 ho => ?_)
  refine lv_if_ne (tgt := 13) hx hb dX8_all_4 (by decide) (fun c_4 => ?_) (fun c_4 => ?_)
  · replace ho := ho.1 c_4
    refine lv_iload_n hx hb dX8_all_13 rfl (lv_at hl 2 rfl) ?_
    refine lv_iconst (v := 4) hx hb dX8_all_14 (by decide) ?_
    refine ca_Si (As := [.int p2, .int (4 : Int32)]) (rest := []) ⟨hx, hb, hml, hown, hts⟩ (c_X8_isIn l D cI cJ cZ   p2 (4 : Int32) _ ho) (va_cwS 2 hts gX8_all_X8_isIn rfl rfl rfl (by decide +kernel) ⟨hRf _ (Nat.le_of_ble_eq_true rfl), hRl _ (Nat.le_of_ble_eq_true rfl)⟩) hK hN hP [] rfl rfl hl.1 rfl (Nat.le_of_ble_eq_true rfl) dX8_all_15 ⟨Nat.zero_le _, Nat.zero_le _⟩ (fun r15 ho => ?_)
    refine lv_if_ne (tgt := 28) hx hb dX8_all_18 (by decide) (fun c_18 => ?_) (fun c_18 => ?_)
    · replace ho := ho.1 c_18
      refine lv_aload_n hx hb dX8_all_28 rfl (lv_at hl 0 rfl) ?_
      refine lv_iload_n hx hb dX8_all_29 rfl (lv_at hl 1 rfl) ?_
      refine ca_Wv (b := a_mo) (As := [.int p1]) (rest := []) (wr := [(a_moR, .inl (cI, 7, .inl moR_r))]) (wo := fun u => [(a_mo, oX8 a_moR mo_e mo_f mo_codes mo_most mo_minus mo_low u.1 u.2.1 u.2.2.1 a_moK a_moH a_moS mo_spanFunction mo_spanRounding mo_spanMany a_moF a_moT mo_parts mo_shift a_moP a_moQ a_moA a_moB a_moD), (a_moK, .inl (cZ, 5, .inl u.2.2.2.1)), (a_moH, .inl (cI, 81920, .inl u.2.2.2.2.1)), (a_moS, .inl (cI, 81920, .inl u.2.2.2.2.2))]) (wn := fun u => [(a_mo, oX8 a_moR mo_e mo_f mo_codes mo_most mo_minus mo_low u.1 u.2.1 u.2.2.1 a_moK a_moH a_moS mo_spanFunction mo_spanRounding mo_spanMany a_moF a_moT mo_parts mo_shift a_moP a_moQ a_moA a_moB a_moD), (a_moR, .inl (cI, 7, .inl moR_r)), (a_moK, .inl (cZ, 5, .inl u.2.2.2.1)), (a_moH, .inl (cI, 81920, .inl u.2.2.2.2.1)), (a_moS, .inl (cI, 81920, .inl u.2.2.2.2.2))]) ⟨hx, hb, hml, hown, hts⟩ (c_X8_know l D cI cJ cZ a_mo a_moR a_moK a_moH a_moS a_moF a_moT a_moP a_moQ a_moA a_moB a_moD H.size mo_e mo_f mo_codes mo_most mo_minus mo_low mo_function mo_atX mo_atM mo_spanFunction mo_spanRounding mo_spanMany mo_parts mo_shift moK_r moH_r moS_r p1 _ _ rfl ho) (cwV 1 hts gX8_all_X8_know rfl rfl rfl (by decide +kernel) ⟨hRf _ (Nat.le_of_ble_eq_true rfl), hRl _ (Nat.le_of_ble_eq_true rfl)⟩) hK hN hP hD hS hA [0, 2, 3, 4] [1] [1, 0, 2, 3, 4] rfl rfl (by decide) (by decide) (by decide) (by decide) (fun _ => rfl) 0 7 rfl rfl rfl rfl hl.1 rfl (Nat.le_of_ble_eq_true rfl) dX8_all_30 ⟨Nat.zero_le _, Nat.zero_le _⟩ (fun  u30 H locs ho hP hD hS => ?_)
      obtain ⟨u30_1, u30_2, u30_3, u30_4, u30_5, u30_6⟩ := u30
      try dsimp only at ho
      replace hP : va_P D vwCl [(a_mo, oX8 a_moR mo_e mo_f mo_codes mo_most mo_minus mo_low u30_1 u30_2 u30_3 a_moK a_moH a_moS mo_spanFunction mo_spanRounding mo_spanMany a_moF a_moT mo_parts mo_shift a_moP a_moQ a_moA a_moB a_moD), (a_moR, .inl (cI, 7, .inl moR_r)), (a_moK, .inl (cZ, 5, .inl u30_4)), (a_moH, .inl (cI, 81920, .inl u30_5)), (a_moS, .inl (cI, 81920, .inl u30_6))] H := hP
      replace hD : va_D A [(a_mo, oX8 a_moR mo_e mo_f mo_codes mo_most mo_minus mo_low u30_1 u30_2 u30_3 a_moK a_moH a_moS mo_spanFunction mo_spanRounding mo_spanMany a_moF a_moT mo_parts mo_shift a_moP a_moQ a_moA a_moB a_moD), (a_moR, .inl (cI, 7, .inl moR_r)), (a_moK, .inl (cZ, 5, .inl u30_4)), (a_moH, .inl (cI, 81920, .inl u30_5)), (a_moS, .inl (cI, 81920, .inl u30_6))] := hD
      refine lv_iconst (v := 0) hx hb dX8_all_33 (by decide) ?_
      refine lv_istore_n (lv' := [(3, .int (0 : Int32)), (0, .ref a_mo), (1, .int p1), (2, .int p2)]) hx hb dX8_all_34 rfl hl (by decide) rfl (fun ls hl => ?_)
      refine lv_iconst (v := 0) hx hb dX8_all_35 (by decide) ?_
      refine lv_istore (lv' := [(4, .int (0 : Int32)), (3, .int (0 : Int32)), (0, .ref a_mo), (1, .int p1), (2, .int p2)]) hx hb dX8_all_36 hl (by decide) rfl (fun ls hl => ?_)
      obtain ⟨n_38, ho⟩ := ho
      exact C_38 n_38 u30_1 u30_2 u30_3 moR_r u30_4 u30_5 u30_6 (0 : Int32) (0 : Int32) H locs ls ho hP hD hS (lv_sub hl [2, 3, 4, 1, 0] rfl)
    · replace ho := ho.2 c_18
      refine lv_aload_n hx hb dX8_all_21 rfl (lv_at hl 0 rfl) ?_
      refine lv_bipush (v := (-2)) hx hb dX8_all_22 (by decide) ?_
      refine ca_Wi (b := a_mo) (As := [.int (-2 : Int32)]) (rest := []) (wr := [(a_moK, .inl (cZ, 5, .inl moK_r)), (a_moH, .inl (cI, 81920, .inl moH_r)), (a_moS, .inl (cI, 81920, .inl moS_r))]) (wo := fun u => [(a_mo, oX8 a_moR mo_e mo_f mo_codes mo_most mo_minus mo_low mo_function mo_atX mo_atM a_moK a_moH a_moS mo_spanFunction mo_spanRounding mo_spanMany a_moF a_moT mo_parts mo_shift a_moP a_moQ a_moA a_moB a_moD), (a_moR, .inl (cI, 7, .inl u))]) (wn := fun u => [(a_mo, oX8 a_moR mo_e mo_f mo_codes mo_most mo_minus mo_low mo_function mo_atX mo_atM a_moK a_moH a_moS mo_spanFunction mo_spanRounding mo_spanMany a_moF a_moT mo_parts mo_shift a_moP a_moQ a_moA a_moB a_moD), (a_moR, .inl (cI, 7, .inl u)), (a_moK, .inl (cZ, 5, .inl moK_r)), (a_moH, .inl (cI, 81920, .inl moH_r)), (a_moS, .inl (cI, 81920, .inl moS_r))]) ⟨hx, hb, hml, hown, hts⟩ (c_X8_refuse l D cI cJ cZ a_mo a_moR a_moK a_moH a_moS a_moF a_moT a_moP a_moQ a_moA a_moB a_moD H.size mo_e mo_f mo_codes mo_most mo_minus mo_low mo_function mo_atX mo_atM mo_spanFunction mo_spanRounding mo_spanMany mo_parts mo_shift moR_r (-2 : Int32) _ _ rfl ho) (cwV 1 hts gX8_all_X8_refuse rfl rfl rfl (by decide +kernel) ⟨hRf _ (Nat.le_of_ble_eq_true rfl), hRl _ (Nat.le_of_ble_eq_true rfl)⟩) hK hN hP hD hS hA [0, 1] [2, 3, 4] [3, 4, 0, 1, 2] rfl rfl (by decide) (by decide) (by decide) (by decide) (fun _ => rfl) 0 7 rfl rfl rfl rfl hl.1 rfl (Nat.le_of_ble_eq_true rfl) dX8_all_24 ⟨Nat.zero_le _, Nat.zero_le _⟩ (fun r24 u24 H locs ho hP hD hS => ?_)
      try dsimp only at ho
      replace hP : va_P D vwCl [(a_mo, oX8 a_moR mo_e mo_f mo_codes mo_most mo_minus mo_low mo_function mo_atX mo_atM a_moK a_moH a_moS mo_spanFunction mo_spanRounding mo_spanMany a_moF a_moT mo_parts mo_shift a_moP a_moQ a_moA a_moB a_moD), (a_moR, .inl (cI, 7, .inl u24)), (a_moK, .inl (cZ, 5, .inl moK_r)), (a_moH, .inl (cI, 81920, .inl moH_r)), (a_moS, .inl (cI, 81920, .inl moS_r))] H := hP
      replace hD : va_D A [(a_mo, oX8 a_moR mo_e mo_f mo_codes mo_most mo_minus mo_low mo_function mo_atX mo_atM a_moK a_moH a_moS mo_spanFunction mo_spanRounding mo_spanMany a_moF a_moT mo_parts mo_shift a_moP a_moQ a_moA a_moB a_moD), (a_moR, .inl (cI, 7, .inl u24)), (a_moK, .inl (cZ, 5, .inl moK_r)), (a_moH, .inl (cI, 81920, .inl moH_r)), (a_moS, .inl (cI, 81920, .inl moS_r))] := hD
      subst hQ; exact W.iret (v := r24) hx hb hr (fun t ht hW => ⟨⟨r24, (mo_function, mo_atX, mo_atM, u24, moK_r, moH_r, moS_r), rfl, ho, by rw [ht]; exact hP, hD⟩, hS.F ht⟩) (fun q hq => hS.2.2 q hq) dX8_all_27
  · replace ho := ho.2 c_4
    refine lv_aload_n hx hb dX8_all_7 rfl (lv_at hl 0 rfl) ?_
    refine lv_iconst (v := (-1)) hx hb dX8_all_8 (by decide) ?_
    refine ca_Wi (b := a_mo) (As := [.int (-1 : Int32)]) (rest := []) (wr := [(a_moK, .inl (cZ, 5, .inl moK_r)), (a_moH, .inl (cI, 81920, .inl moH_r)), (a_moS, .inl (cI, 81920, .inl moS_r))]) (wo := fun u => [(a_mo, oX8 a_moR mo_e mo_f mo_codes mo_most mo_minus mo_low mo_function mo_atX mo_atM a_moK a_moH a_moS mo_spanFunction mo_spanRounding mo_spanMany a_moF a_moT mo_parts mo_shift a_moP a_moQ a_moA a_moB a_moD), (a_moR, .inl (cI, 7, .inl u))]) (wn := fun u => [(a_mo, oX8 a_moR mo_e mo_f mo_codes mo_most mo_minus mo_low mo_function mo_atX mo_atM a_moK a_moH a_moS mo_spanFunction mo_spanRounding mo_spanMany a_moF a_moT mo_parts mo_shift a_moP a_moQ a_moA a_moB a_moD), (a_moR, .inl (cI, 7, .inl u)), (a_moK, .inl (cZ, 5, .inl moK_r)), (a_moH, .inl (cI, 81920, .inl moH_r)), (a_moS, .inl (cI, 81920, .inl moS_r))]) ⟨hx, hb, hml, hown, hts⟩ (c_X8_refuse l D cI cJ cZ a_mo a_moR a_moK a_moH a_moS a_moF a_moT a_moP a_moQ a_moA a_moB a_moD H.size mo_e mo_f mo_codes mo_most mo_minus mo_low mo_function mo_atX mo_atM mo_spanFunction mo_spanRounding mo_spanMany mo_parts mo_shift moR_r (-1 : Int32) _ _ rfl ho) (cwV 1 hts gX8_all_X8_refuse rfl rfl rfl (by decide +kernel) ⟨hRf _ (Nat.le_of_ble_eq_true rfl), hRl _ (Nat.le_of_ble_eq_true rfl)⟩) hK hN hP hD hS hA [0, 1] [2, 3, 4] [3, 4, 0, 1, 2] rfl rfl (by decide) (by decide) (by decide) (by decide) (fun _ => rfl) 0 7 rfl rfl rfl rfl hl.1 rfl (Nat.le_of_ble_eq_true rfl) dX8_all_9 ⟨Nat.zero_le _, Nat.zero_le _⟩ (fun r9 u9 H locs ho hP hD hS => ?_)
    try dsimp only at ho
    replace hP : va_P D vwCl [(a_mo, oX8 a_moR mo_e mo_f mo_codes mo_most mo_minus mo_low mo_function mo_atX mo_atM a_moK a_moH a_moS mo_spanFunction mo_spanRounding mo_spanMany a_moF a_moT mo_parts mo_shift a_moP a_moQ a_moA a_moB a_moD), (a_moR, .inl (cI, 7, .inl u9)), (a_moK, .inl (cZ, 5, .inl moK_r)), (a_moH, .inl (cI, 81920, .inl moH_r)), (a_moS, .inl (cI, 81920, .inl moS_r))] H := hP
    replace hD : va_D A [(a_mo, oX8 a_moR mo_e mo_f mo_codes mo_most mo_minus mo_low mo_function mo_atX mo_atM a_moK a_moH a_moS mo_spanFunction mo_spanRounding mo_spanMany a_moF a_moT mo_parts mo_shift a_moP a_moQ a_moA a_moB a_moD), (a_moR, .inl (cI, 7, .inl u9)), (a_moK, .inl (cZ, 5, .inl moK_r)), (a_moH, .inl (cI, 81920, .inl moH_r)), (a_moS, .inl (cI, 81920, .inl moS_r))] := hD
    subst hQ; exact W.iret (v := r9) hx hb hr (fun t ht hW => ⟨⟨r9, (mo_function, mo_atX, mo_atM, u9, moK_r, moH_r, moS_r), rfl, ho, by rw [ht]; exact hP, hD⟩, hS.F ht⟩) (fun q hq => hS.2.2 q hq) dX8_all_12

def wp_X8_findSpans_90 (post : Int32 → Int32 → Int64 → Int32 → Int32 → Int32 → (Nat → Int32) → (Nat → Int32) → Prop) (K_37 : Int32 → Int32 → Int64 → Int32 → Int32 → Int32 → (Nat → Int32) → (Nat → Int32) → Int32 → Int32 → Prop) (mo_function : Int32) (mo_atX : Int32) (mo_atM : Int64) (mo_spanFunction : Int32) (mo_spanRounding : Int32) (mo_spanMany : Int32) (moF_r : Nat → Int32) (moT_r : Nat → Int32) (x4 : Int32) (x5 : Int32) : Prop := (vp_in (mo_spanMany - (1 : Int32)) 16384) ∧ (K_37 mo_function mo_atX mo_atM mo_spanFunction mo_spanRounding mo_spanMany moF_r (upd moT_r (mo_spanMany - (1 : Int32)).toNatClampNeg x4) x5 (x4 + (1 : Int32)))
def wp_X8_findSpans_69 (post : Int32 → Int32 → Int64 → Int32 → Int32 → Int32 → (Nat → Int32) → (Nat → Int32) → Prop) (K_37 : Int32 → Int32 → Int64 → Int32 → Int32 → Int32 → (Nat → Int32) → (Nat → Int32) → Int32 → Int32 → Prop) (mo_function : Int32) (mo_atX : Int32) (mo_atM : Int64) (mo_spanFunction : Int32) (mo_spanRounding : Int32) (mo_spanMany : Int32) (moF_r : Nat → Int32) (moT_r : Nat → Int32) (x4 : Int32) (x5 : Int32) : Prop := (vp_in mo_spanMany 16384) ∧ (wp_X8_findSpans_90 post K_37 mo_function mo_atX mo_atM mo_spanFunction mo_spanRounding (mo_spanMany + (1 : Int32)) (upd moF_r mo_spanMany.toNatClampNeg x4) moT_r x4 x5)
def wp_X8_findSpans_37_b (post : Int32 → Int32 → Int64 → Int32 → Int32 → Int32 → (Nat → Int32) → (Nat → Int32) → Prop)  (mo_f : Int32) (mo_most : Int32) (mo_minus : Int32) (mo_low : Int32) (p1 : Int32) (p2 : Int32) (K_37 : Int32 → Int32 → Int64 → Int32 → Int32 → Int32 → (Nat → Int32) → (Nat → Int32) → Int32 → Int32 → Prop) (mo_function : Int32) (mo_atX : Int32) (mo_atM : Int64) (mo_spanFunction : Int32) (mo_spanRounding : Int32) (mo_spanMany : Int32) (moF_r : Nat → Int32) (moT_r : Nat → Int32) (x3 : Int32) (x4 : Int32) : Prop := ((mo_most < x4) → (post  mo_function mo_atX mo_atM mo_spanFunction mo_spanRounding mo_spanMany moF_r moT_r)) ∧ ((¬ (mo_most < x4)) → (wp_X8_rightOf (fun r51 u51_1 u51_2 u51_3 => (((mo_spanMany = 0) → (wp_X8_findSpans_69 post K_37 u51_1 u51_2 u51_3 mo_spanFunction mo_spanRounding mo_spanMany moF_r moT_r x4 r51)) ∧ ((¬ (mo_spanMany = 0)) → (((r51 = x3) → (wp_X8_findSpans_90 post K_37 u51_1 u51_2 u51_3 mo_spanFunction mo_spanRounding mo_spanMany moF_r moT_r x4 r51)) ∧ ((¬ (r51 = x3)) → (wp_X8_findSpans_69 post K_37 u51_1 u51_2 u51_3 mo_spanFunction mo_spanRounding mo_spanMany moF_r moT_r x4 r51)))))) mo_f mo_most mo_minus mo_low mo_function mo_atX mo_atM p1 x4 p2))
noncomputable def wp_X8_findSpans_37 (post : Int32 → Int32 → Int64 → Int32 → Int32 → Int32 → (Nat → Int32) → (Nat → Int32) → Prop)  (mo_f : Int32) (mo_most : Int32) (mo_minus : Int32) (mo_low : Int32) (p1 : Int32) (p2 : Int32) (n : Nat) : Int32 → Int32 → Int64 → Int32 → Int32 → Int32 → (Nat → Int32) → (Nat → Int32) → Int32 → Int32 → Prop := Nat.rec (motive := fun _ => Int32 → Int32 → Int64 → Int32 → Int32 → Int32 → (Nat → Int32) → (Nat → Int32) → Int32 → Int32 → Prop) (fun _ _ _ _ _ _ _ _ _ _ => False) (fun _ K_37 => wp_X8_findSpans_37_b post mo_f mo_most mo_minus mo_low p1 p2 K_37) n
def wp_X8_findSpans_17 (post : Int32 → Int32 → Int64 → Int32 → Int32 → Int32 → (Nat → Int32) → (Nat → Int32) → Prop)  (mo_f : Int32) (mo_most : Int32) (mo_minus : Int32) (mo_low : Int32) (mo_function : Int32) (mo_atX : Int32) (mo_atM : Int64) (moF_r : Nat → Int32) (moT_r : Nat → Int32) (p1 : Int32) (p2 : Int32) : Prop := ∃ n, wp_X8_findSpans_37 post mo_f mo_most mo_minus mo_low p1 p2 n mo_function mo_atX mo_atM p1 p2 (0 : Int32) moF_r moT_r (-1 : Int32) (1 : Int32)
def wp_X8_findSpans (post : Int32 → Int32 → Int64 → Int32 → Int32 → Int32 → (Nat → Int32) → (Nat → Int32) → Prop) (mo_f : Int32) (mo_most : Int32) (mo_minus : Int32) (mo_low : Int32) (mo_function : Int32) (mo_atX : Int32) (mo_atM : Int64) (mo_spanFunction : Int32) (mo_spanRounding : Int32) (mo_spanMany : Int32) (moF_r : Nat → Int32) (moT_r : Nat → Int32) (p1 : Int32) (p2 : Int32) : Prop := ((¬ mo_spanFunction = p1) → (wp_X8_findSpans_17 post mo_f mo_most mo_minus mo_low mo_function mo_atX mo_atM moF_r moT_r p1 p2)) ∧ ((¬ (¬ mo_spanFunction = p1)) → (((¬ mo_spanRounding = p2) → (wp_X8_findSpans_17 post mo_f mo_most mo_minus mo_low mo_function mo_atX mo_atM moF_r moT_r p1 p2)) ∧ ((¬ (¬ mo_spanRounding = p2)) → (post  mo_function mo_atX mo_atM mo_spanFunction mo_spanRounding mo_spanMany moF_r moT_r))))
set_option maxRecDepth 20000 in
theorem in_X8_findSpans_X8 : ∀ w ∈ u_ws RX8 TX8 25, w ∈ wsX8_findSpans := fun w h => (goodIn_r wsX80 [69, 70, 71, 72, 73, 74, 75, 76, 77, 78, 79, 80, 81, 82, 83, 84, 85, 86, 87, 88, 89, 90, 91, 92, 93] (by decide +kernel) (by decide +kernel) w h).1
set_option maxHeartbeats 4000000 in
set_option maxRecDepth 100000 in
theorem c_X8_findSpans (l : Launch) (D : va_G) (cI cJ cZ : ClassId) (a_mo : Nat) (a_moR : Nat) (a_moK : Nat) (a_moH : Nat) (a_moS : Nat) (a_moF : Nat) (a_moT : Nat) (a_moP : Nat) (a_moQ : Nat) (a_moA : Nat) (a_moB : Nat) (a_moD : Nat) (sz : Nat) (mo_e : Int32) (mo_f : Int32) (mo_codes : Int32) (mo_most : Int32) (mo_minus : Int32) (mo_low : Int32) (mo_function : Int32) (mo_atX : Int32) (mo_atM : Int64) (mo_spanFunction : Int32) (mo_spanRounding : Int32) (mo_spanMany : Int32) (mo_parts : Int32) (mo_shift : Int32) (moF_r : Nat → Int32) (moT_r : Nat → Int32) (p1 : Int32) (p2 : Int32) (post : Int32 → Int32 → Int64 → Int32 → Int32 → Int32 → (Nat → Int32) → (Nat → Int32) → Prop) (A : Nat → Prop) (hAe : A = va_A [(a_mo, oX8 a_moR mo_e mo_f mo_codes mo_most mo_minus mo_low mo_function mo_atX mo_atM a_moK a_moH a_moS mo_spanFunction mo_spanRounding mo_spanMany a_moF a_moT mo_parts mo_shift a_moP a_moQ a_moA a_moB a_moD), (a_moF, .inl (cI, 16384, .inl moF_r)), (a_moT, .inl (cI, 16384, .inl moT_r))] sz) (ho : wp_X8_findSpans post mo_f mo_most mo_minus mo_low mo_function mo_atX mo_atM mo_spanFunction mo_spanRounding mo_spanMany moF_r moT_r p1 p2) : Met l yX8_findSpans wsX8_findSpans ({ frames := 6, cells := 0, slots := 0, locals := 151 } : Room) (rw_P D [(cI, .int), (cJ, .long), (cZ, .boolean)] [.ref a_mo, .int p1, .int p2] sz [(a_mo, oX8 a_moR mo_e mo_f mo_codes mo_most mo_minus mo_low mo_function mo_atX mo_atM a_moK a_moH a_moS mo_spanFunction mo_spanRounding mo_spanMany a_moF a_moT mo_parts mo_shift a_moP a_moQ a_moA a_moB a_moD), (a_moF, .inl (cI, 16384, .inl moF_r)), (a_moT, .inl (cI, 16384, .inl moT_r))]) (va_Qv (fun (u : (Int32) × (Int32) × (Int64) × (Int32) × (Int32) × (Int32) × (Nat → Int32) × (Nat → Int32)) => post u.1 u.2.1 u.2.2.1 u.2.2.2.1 u.2.2.2.2.1 u.2.2.2.2.2.1 u.2.2.2.2.2.2.1 u.2.2.2.2.2.2.2) (rw_B D A (fun (u : (Int32) × (Int32) × (Int64) × (Int32) × (Int32) × (Int32) × (Nat → Int32) × (Nat → Int32)) => [(a_mo, oX8 a_moR mo_e mo_f mo_codes mo_most mo_minus mo_low u.1 u.2.1 u.2.2.1 a_moK a_moH a_moS u.2.2.2.1 u.2.2.2.2.1 u.2.2.2.2.2.1 a_moF a_moT mo_parts mo_shift a_moP a_moQ a_moA a_moB a_moD), (a_moF, .inl (cI, 16384, .inl u.2.2.2.2.2.2.1)), (a_moT, .inl (cI, 16384, .inl u.2.2.2.2.2.2.2))])) A) 0 0 A := by
  refine Met.ofW (cc := cX8_findSpans) (maxL := 6) (ret := none) (by decide) rfl ?_
  intro p e s m args below meth c s₁ B hml hv
  obtain ⟨hargs, hsz, hP, hK, hN, hD0⟩ := hv
  have hx := B.exec
  have hb := B.bytes
  have hr := B.returns
  have hts := atoms_spec (ws := wsX8_findSpans) B.pre
  have hown : s.vm.findClass RX8 = some m.cls := findClass_of_methodNamed B.named
  have hlocks := B.notSynchronized
  subst hsz
  have hD : va_D A [(a_mo, oX8 a_moR mo_e mo_f mo_codes mo_most mo_minus mo_low mo_function mo_atX mo_atM a_moK a_moH a_moS mo_spanFunction mo_spanRounding mo_spanMany a_moF a_moT mo_parts mo_shift a_moP a_moQ a_moA a_moB a_moD), (a_moF, .inl (cI, 16384, .inl moF_r)), (a_moT, .inl (cI, 16384, .inl moT_r))] := by rw [hAe]; exact hD0.self
  have hA : ∀ q : Nat, s.heap.size ≤ q → A q := fun q h => by rw [hAe]; exact Or.inr h
  have hS : va_S A s.heap s.heap [] := va_S.rf
  have hl := lv_entry ([.ref a_mo, .int p1, .int p2]) (n := 6) (Nat.le_of_ble_eq_true rfl)
  rw [hargs, lg_entry_eq, ← hargs]
  generalize (lg_sl ([.ref a_mo, .int p1, .int p2]) ++ List.replicate (6 - (lg_sl ([.ref a_mo, .int p1, .int p2])).length) Slot.unset).toArray = ls at hl ⊢
  replace hl : lv_has ls 6 [(0, .ref a_mo), (1, .int p1), (2, .int p2)] := hl
  have hRf : ∀ n, n ≤ 6 → n ≤ (headSpec wsX8_findSpans ({ frames := 6, cells := 0, slots := 0, locals := 151 } : Room)).room.frames := fun n h => h
  have hRl : ∀ n, n ≤ 151 → n ≤ (headSpec wsX8_findSpans ({ frames := 6, cells := 0, slots := 0, locals := 151 } : Room)).room.locals := fun n h => h
  generalize (headSpec wsX8_findSpans ({ frames := 6, cells := 0, slots := 0, locals := 151 } : Room)).room = R at hRf hRl ⊢
  generalize hQ : MQ below _ args s 0 0 _ = Q
  have C_37 : ∀ n : Nat, ∀ (mo_function : Int32) (mo_atX : Int32) (mo_atM : Int64) (mo_spanFunction : Int32) (mo_spanRounding : Int32) (mo_spanMany : Int32) (moF_r : Nat → Int32) (moT_r : Nat → Int32) (x3 : Int32) (x4 : Int32) (H : Heap) (locs : List Loc) (ls : Array Slot), wp_X8_findSpans_37 post  mo_f mo_most mo_minus mo_low p1 p2 n mo_function mo_atX mo_atM mo_spanFunction mo_spanRounding mo_spanMany moF_r moT_r x3 x4 → va_P D vwCl [(a_mo, oX8 a_moR mo_e mo_f mo_codes mo_most mo_minus mo_low mo_function mo_atX mo_atM a_moK a_moH a_moS mo_spanFunction mo_spanRounding mo_spanMany a_moF a_moT mo_parts mo_shift a_moP a_moQ a_moA a_moB a_moD), (a_moF, .inl (cI, 16384, .inl moF_r)), (a_moT, .inl (cI, 16384, .inl moT_r))] H → va_D A [(a_mo, oX8 a_moR mo_e mo_f mo_codes mo_most mo_minus mo_low mo_function mo_atX mo_atM a_moK a_moH a_moS mo_spanFunction mo_spanRounding mo_spanMany a_moF a_moT mo_parts mo_shift a_moP a_moQ a_moA a_moB a_moD), (a_moF, .inl (cI, 16384, .inl moF_r)), (a_moT, .inl (cI, 16384, .inl moT_r))] → va_S A s.heap H locs → lv_has ls 6 [(0, .ref a_mo), (1, .int p1), (2, .int p2), (3, .int x3), (4, .int x4)] → W p l e R s m args below meth c H locs 0 0 Q (F0 m 37 ls []) := by
    intro n
    induction n with
    | zero => intro mo_function mo_atX mo_atM mo_spanFunction mo_spanRounding mo_spanMany moF_r moT_r x3 x4 H locs ls ho hP hD hS hl; exact ho.elim
    | succ n_37 ih_37 =>
      have C_90 : ∀ (mo_function : Int32) (mo_atX : Int32) (mo_atM : Int64) (mo_spanFunction : Int32) (mo_spanRounding : Int32) (mo_spanMany : Int32) (moF_r : Nat → Int32) (moT_r : Nat → Int32) (x4 : Int32) (x5 : Int32) (H : Heap) (locs : List Loc) (ls : Array Slot), wp_X8_findSpans_90 post (wp_X8_findSpans_37 post mo_f mo_most mo_minus mo_low p1 p2 n_37) mo_function mo_atX mo_atM mo_spanFunction mo_spanRounding mo_spanMany moF_r moT_r x4 x5 → va_P D vwCl [(a_mo, oX8 a_moR mo_e mo_f mo_codes mo_most mo_minus mo_low mo_function mo_atX mo_atM a_moK a_moH a_moS mo_spanFunction mo_spanRounding mo_spanMany a_moF a_moT mo_parts mo_shift a_moP a_moQ a_moA a_moB a_moD), (a_moF, .inl (cI, 16384, .inl moF_r)), (a_moT, .inl (cI, 16384, .inl moT_r))] H → va_D A [(a_mo, oX8 a_moR mo_e mo_f mo_codes mo_most mo_minus mo_low mo_function mo_atX mo_atM a_moK a_moH a_moS mo_spanFunction mo_spanRounding mo_spanMany a_moF a_moT mo_parts mo_shift a_moP a_moQ a_moA a_moB a_moD), (a_moF, .inl (cI, 16384, .inl moF_r)), (a_moT, .inl (cI, 16384, .inl moT_r))] → va_S A s.heap H locs → lv_has ls 6 [(0, .ref a_mo), (1, .int p1), (2, .int p2), (4, .int x4), (5, .int x5)] → W p l e R s m args below meth c H locs 0 0 Q (F0 m 90 ls []) := by
        intro mo_function mo_atX mo_atM mo_spanFunction mo_spanRounding mo_spanMany moF_r moT_r x4 x5 H locs ls ho hP hD hS hl
        unfold wp_X8_findSpans_90 at ho
        refine lv_aload_n hx hb dX8_findSpans_90 rfl (lv_at hl 0 rfl) ?_
        refine va_get (D := D) (ci := 7) (v := .ref a_moT) (C := RX8) (T := TX8) (N := 25) hx hb hts in_X8_findSpans_X8 hown hK hP 0 rfl rfl 17 (by decide) (hts (.fieldLink RX8 27 "HardBenchModel" "spanTo" "[I") (List.mem_of_getElem? (i := 6) (by decide +kernel))) (fun _ h9 => h9) rfl dX8_findSpans_91 ?_
        refine lv_aload_n hx hb dX8_findSpans_94 rfl (lv_at hl 0 rfl) ?_
        refine va_get (D := D) (ci := 7) (v := .int mo_spanMany) (C := RX8) (T := TX8) (N := 25) hx hb hts in_X8_findSpans_X8 hown hK hP 0 rfl rfl 15 (by decide) (hts (.fieldLink RX8 187 "HardBenchModel" "spanMany" "I") (List.mem_of_getElem? (i := 3) (by decide +kernel))) (fun _ h9 => h9) rfl dX8_findSpans_95 ?_
        refine lv_iconst (v := 1) hx hb dX8_findSpans_98 (by decide) ?_
        refine lv_isub hx hb dX8_findSpans_99 ?_
        refine lv_iload hx hb dX8_findSpans_100 (lv_at hl 3 rfl) ?_
        have o_102 := ho.1
        replace ho := ho.2
        refine va_iast hx hb hK hP hD hS 2 0 rfl rfl o_102 dX8_findSpans_102 (fun H locs hP hD hS => ?_)
        replace hP : va_P D vwCl [(a_mo, oX8 a_moR mo_e mo_f mo_codes mo_most mo_minus mo_low mo_function mo_atX mo_atM a_moK a_moH a_moS mo_spanFunction mo_spanRounding mo_spanMany a_moF a_moT mo_parts mo_shift a_moP a_moQ a_moA a_moB a_moD), (a_moF, .inl (cI, 16384, .inl moF_r)), (a_moT, .inl (cI, 16384, .inl (upd moT_r (mo_spanMany - (1 : Int32)).toNatClampNeg x4)))] H := hP
        replace hD : va_D A [(a_mo, oX8 a_moR mo_e mo_f mo_codes mo_most mo_minus mo_low mo_function mo_atX mo_atM a_moK a_moH a_moS mo_spanFunction mo_spanRounding mo_spanMany a_moF a_moT mo_parts mo_shift a_moP a_moQ a_moA a_moB a_moD), (a_moF, .inl (cI, 16384, .inl moF_r)), (a_moT, .inl (cI, 16384, .inl (upd moT_r (mo_spanMany - (1 : Int32)).toNatClampNeg x4)))] := hD
        refine lv_iload hx hb dX8_findSpans_103 (lv_at hl 4 rfl) ?_
        refine lv_istore_n (lv' := [(3, .int x5), (0, .ref a_mo), (1, .int p1), (2, .int p2), (4, .int x4), (5, .int x5)]) hx hb dX8_findSpans_105 rfl hl (by decide) rfl (fun ls hl => ?_)
        refine lv_iinc (v := (x4 + (1 : Int32))) (lv' := [(4, .int (x4 + (1 : Int32))), (3, .int x5), (0, .ref a_mo), (1, .int p1), (2, .int p2), (5, .int x5)]) hx hb dX8_findSpans_106 hl (k := 4) rfl rfl (by decide) rfl (fun ls hl => ?_)
        refine lv_goto (tgt := 37) hx hb dX8_findSpans_109 (by decide) ?_
        exact ih_37 mo_function mo_atX mo_atM mo_spanFunction mo_spanRounding mo_spanMany moF_r (upd moT_r (mo_spanMany - (1 : Int32)).toNatClampNeg x4) x5 (x4 + (1 : Int32)) H locs ls ho hP hD hS (lv_sub hl [2, 3, 4, 1, 0] rfl)
      have C_69 : ∀ (mo_function : Int32) (mo_atX : Int32) (mo_atM : Int64) (mo_spanFunction : Int32) (mo_spanRounding : Int32) (mo_spanMany : Int32) (moF_r : Nat → Int32) (moT_r : Nat → Int32) (x4 : Int32) (x5 : Int32) (H : Heap) (locs : List Loc) (ls : Array Slot), wp_X8_findSpans_69 post (wp_X8_findSpans_37 post mo_f mo_most mo_minus mo_low p1 p2 n_37) mo_function mo_atX mo_atM mo_spanFunction mo_spanRounding mo_spanMany moF_r moT_r x4 x5 → va_P D vwCl [(a_mo, oX8 a_moR mo_e mo_f mo_codes mo_most mo_minus mo_low mo_function mo_atX mo_atM a_moK a_moH a_moS mo_spanFunction mo_spanRounding mo_spanMany a_moF a_moT mo_parts mo_shift a_moP a_moQ a_moA a_moB a_moD), (a_moF, .inl (cI, 16384, .inl moF_r)), (a_moT, .inl (cI, 16384, .inl moT_r))] H → va_D A [(a_mo, oX8 a_moR mo_e mo_f mo_codes mo_most mo_minus mo_low mo_function mo_atX mo_atM a_moK a_moH a_moS mo_spanFunction mo_spanRounding mo_spanMany a_moF a_moT mo_parts mo_shift a_moP a_moQ a_moA a_moB a_moD), (a_moF, .inl (cI, 16384, .inl moF_r)), (a_moT, .inl (cI, 16384, .inl moT_r))] → va_S A s.heap H locs → lv_has ls 6 [(0, .ref a_mo), (1, .int p1), (2, .int p2), (4, .int x4), (5, .int x5)] → W p l e R s m args below meth c H locs 0 0 Q (F0 m 69 ls []) := by
        intro mo_function mo_atX mo_atM mo_spanFunction mo_spanRounding mo_spanMany moF_r moT_r x4 x5 H locs ls ho hP hD hS hl
        unfold wp_X8_findSpans_69 at ho
        refine lv_aload_n hx hb dX8_findSpans_69 rfl (lv_at hl 0 rfl) ?_
        refine va_get (D := D) (ci := 7) (v := .ref a_moF) (C := RX8) (T := TX8) (N := 25) hx hb hts in_X8_findSpans_X8 hown hK hP 0 rfl rfl 16 (by decide) (hts (.fieldLink RX8 24 "HardBenchModel" "spanFrom" "[I") (List.mem_of_getElem? (i := 5) (by decide +kernel))) (fun _ h9 => h9) rfl dX8_findSpans_70 ?_
        refine lv_aload_n hx hb dX8_findSpans_73 rfl (lv_at hl 0 rfl) ?_
        refine va_get (D := D) (ci := 7) (v := .int mo_spanMany) (C := RX8) (T := TX8) (N := 25) hx hb hts in_X8_findSpans_X8 hown hK hP 0 rfl rfl 15 (by decide) (hts (.fieldLink RX8 187 "HardBenchModel" "spanMany" "I") (List.mem_of_getElem? (i := 3) (by decide +kernel))) (fun _ h9 => h9) rfl dX8_findSpans_74 ?_
        refine lv_iload hx hb dX8_findSpans_77 (lv_at hl 3 rfl) ?_
        have o_79 := ho.1
        replace ho := ho.2
        refine va_iast hx hb hK hP hD hS 1 0 rfl rfl o_79 dX8_findSpans_79 (fun H locs hP hD hS => ?_)
        replace hP : va_P D vwCl [(a_mo, oX8 a_moR mo_e mo_f mo_codes mo_most mo_minus mo_low mo_function mo_atX mo_atM a_moK a_moH a_moS mo_spanFunction mo_spanRounding mo_spanMany a_moF a_moT mo_parts mo_shift a_moP a_moQ a_moA a_moB a_moD), (a_moF, .inl (cI, 16384, .inl (upd moF_r mo_spanMany.toNatClampNeg x4))), (a_moT, .inl (cI, 16384, .inl moT_r))] H := hP
        replace hD : va_D A [(a_mo, oX8 a_moR mo_e mo_f mo_codes mo_most mo_minus mo_low mo_function mo_atX mo_atM a_moK a_moH a_moS mo_spanFunction mo_spanRounding mo_spanMany a_moF a_moT mo_parts mo_shift a_moP a_moQ a_moA a_moB a_moD), (a_moF, .inl (cI, 16384, .inl (upd moF_r mo_spanMany.toNatClampNeg x4))), (a_moT, .inl (cI, 16384, .inl moT_r))] := hD
        refine lv_aload_n hx hb dX8_findSpans_80 rfl (lv_at hl 0 rfl) ?_
        refine lv_dup hx hb dX8_findSpans_81 rfl ?_
        refine va_get (D := D) (ci := 7) (v := .int mo_spanMany) (C := RX8) (T := TX8) (N := 25) hx hb hts in_X8_findSpans_X8 hown hK hP 0 rfl rfl 15 (by decide) (hts (.fieldLink RX8 187 "HardBenchModel" "spanMany" "I") (List.mem_of_getElem? (i := 3) (by decide +kernel))) (fun _ h9 => h9) rfl dX8_findSpans_82 ?_
        refine lv_iconst (v := 1) hx hb dX8_findSpans_85 (by decide) ?_
        refine lv_iadd hx hb dX8_findSpans_86 ?_
        refine va_put (D := D) (ci := 7) (v := .int (mo_spanMany + (1 : Int32))) (ty := .int) (C := RX8) (T := TX8) (N := 25) hx hb hts in_X8_findSpans_X8 tyX8 tyX8_ok nmX8 hown hK hP hD hS 0 rfl rfl 15 (by decide) (hts (.fieldLink RX8 187 "HardBenchModel" "spanMany" "I") (List.mem_of_getElem? (i := 3) (by decide +kernel))) (fun _ h9 => h9) rfl (by decide +kernel) rfl rfl (Nat.le_of_ble_eq_true rfl) dX8_findSpans_87 (fun H locs hP hD hS => ?_)
        replace hP : va_P D vwCl [(a_mo, oX8 a_moR mo_e mo_f mo_codes mo_most mo_minus mo_low mo_function mo_atX mo_atM a_moK a_moH a_moS mo_spanFunction mo_spanRounding (mo_spanMany + (1 : Int32)) a_moF a_moT mo_parts mo_shift a_moP a_moQ a_moA a_moB a_moD), (a_moF, .inl (cI, 16384, .inl (upd moF_r mo_spanMany.toNatClampNeg x4))), (a_moT, .inl (cI, 16384, .inl moT_r))] H := hP
        replace hD : va_D A [(a_mo, oX8 a_moR mo_e mo_f mo_codes mo_most mo_minus mo_low mo_function mo_atX mo_atM a_moK a_moH a_moS mo_spanFunction mo_spanRounding (mo_spanMany + (1 : Int32)) a_moF a_moT mo_parts mo_shift a_moP a_moQ a_moA a_moB a_moD), (a_moF, .inl (cI, 16384, .inl (upd moF_r mo_spanMany.toNatClampNeg x4))), (a_moT, .inl (cI, 16384, .inl moT_r))] := hD
        exact C_90 mo_function mo_atX mo_atM mo_spanFunction mo_spanRounding (mo_spanMany + (1 : Int32)) (upd moF_r mo_spanMany.toNatClampNeg x4) moT_r x4 x5 H locs ls ho hP hD hS (lv_sub hl [0, 1, 2, 3, 4] rfl)
      intro mo_function mo_atX mo_atM mo_spanFunction mo_spanRounding mo_spanMany moF_r moT_r x3 x4 H locs ls ho hP hD hS hl
      replace ho : wp_X8_findSpans_37_b post mo_f mo_most mo_minus mo_low p1 p2 (wp_X8_findSpans_37 post mo_f mo_most mo_minus mo_low p1 p2 n_37) mo_function mo_atX mo_atM mo_spanFunction mo_spanRounding mo_spanMany moF_r moT_r x3 x4 := ho
      unfold wp_X8_findSpans_37_b at ho
      refine lv_iload hx hb dX8_findSpans_37 (lv_at hl 4 rfl) ?_
      refine lv_aload_n hx hb dX8_findSpans_39 rfl (lv_at hl 0 rfl) ?_
      refine va_get (D := D) (ci := 7) (v := .int mo_most) (C := RX8) (T := TX8) (N := 25) hx hb hts in_X8_findSpans_X8 hown hK hP 0 rfl rfl 4 (by decide) (hts (.fieldLink RX8 68 "HardBenchModel" "most" "I") (List.mem_of_getElem? (i := 4) (by decide +kernel))) (fun _ h9 => h9) rfl dX8_findSpans_40 ?_
      refine lv_icmp_gt (tgt := 112) hx hb dX8_findSpans_43 (by decide) (fun c_43 => ?_) (fun c_43 => ?_)
      · replace ho := ho.1 c_43
        subst hQ; exact W.vret hx hb hr (fun t ht hW => ⟨⟨(mo_function, mo_atX, mo_atM, mo_spanFunction, mo_spanRounding, mo_spanMany, moF_r, moT_r), rfl, ho, by rw [ht]; exact hP, hD⟩, hS.F ht⟩) (fun q hq => hS.2.2 q hq) dX8_findSpans_112
      · replace ho := ho.2 c_43
        refine lv_aload_n hx hb dX8_findSpans_46 rfl (lv_at hl 0 rfl) ?_
        refine lv_iload_n hx hb dX8_findSpans_47 rfl (lv_at hl 1 rfl) ?_
        refine lv_iload hx hb dX8_findSpans_48 (lv_at hl 4 rfl) ?_
        refine lv_iload_n hx hb dX8_findSpans_50 rfl (lv_at hl 2 rfl) ?_
        refine ca_Wi (b := a_mo) (As := [.int p1, .int x4, .int p2]) (rest := []) (wr := [(a_moF, .inl (cI, 16384, .inl moF_r)), (a_moT, .inl (cI, 16384, .inl moT_r))]) (wo := fun u => [(a_mo, oX8 a_moR mo_e mo_f mo_codes mo_most mo_minus mo_low u.1 u.2.1 u.2.2 a_moK a_moH a_moS mo_spanFunction mo_spanRounding mo_spanMany a_moF a_moT mo_parts mo_shift a_moP a_moQ a_moA a_moB a_moD)]) (wn := fun u => [(a_mo, oX8 a_moR mo_e mo_f mo_codes mo_most mo_minus mo_low u.1 u.2.1 u.2.2 a_moK a_moH a_moS mo_spanFunction mo_spanRounding mo_spanMany a_moF a_moT mo_parts mo_shift a_moP a_moQ a_moA a_moB a_moD), (a_moF, .inl (cI, 16384, .inl moF_r)), (a_moT, .inl (cI, 16384, .inl moT_r))]) ⟨hx, hb, hml, hown, hts⟩ (c_X8_rightOf l D cI cJ cZ a_mo a_moR a_moK a_moH a_moS a_moF a_moT a_moP a_moQ a_moA a_moB a_moD H.size mo_e mo_f mo_codes mo_most mo_minus mo_low mo_function mo_atX mo_atM mo_spanFunction mo_spanRounding mo_spanMany mo_parts mo_shift p1 x4 p2 _ _ rfl ho) (cwV 3 hts gX8_findSpans_X8_rightOf rfl rfl rfl (by decide +kernel) ⟨hRf _ (Nat.le_of_ble_eq_true rfl), hRl _ (Nat.le_of_ble_eq_true rfl)⟩) hK hN hP hD hS hA [0] [1, 2] [2, 0, 1] rfl rfl (by decide) (by decide) (by decide) (by decide) (fun _ => rfl) 0 7 rfl rfl rfl rfl hl.1 rfl (Nat.le_of_ble_eq_true rfl) dX8_findSpans_51 ⟨Nat.zero_le _, Nat.zero_le _⟩ (fun r51 u51 H locs ho hP hD hS => ?_)
        obtain ⟨u51_1, u51_2, u51_3⟩ := u51
        try dsimp only at ho
        replace hP : va_P D vwCl [(a_mo, oX8 a_moR mo_e mo_f mo_codes mo_most mo_minus mo_low u51_1 u51_2 u51_3 a_moK a_moH a_moS mo_spanFunction mo_spanRounding mo_spanMany a_moF a_moT mo_parts mo_shift a_moP a_moQ a_moA a_moB a_moD), (a_moF, .inl (cI, 16384, .inl moF_r)), (a_moT, .inl (cI, 16384, .inl moT_r))] H := hP
        replace hD : va_D A [(a_mo, oX8 a_moR mo_e mo_f mo_codes mo_most mo_minus mo_low u51_1 u51_2 u51_3 a_moK a_moH a_moS mo_spanFunction mo_spanRounding mo_spanMany a_moF a_moT mo_parts mo_shift a_moP a_moQ a_moA a_moB a_moD), (a_moF, .inl (cI, 16384, .inl moF_r)), (a_moT, .inl (cI, 16384, .inl moT_r))] := hD
        refine lv_istore (lv' := [(5, .int r51), (0, .ref a_mo), (1, .int p1), (2, .int p2), (3, .int x3), (4, .int x4)]) hx hb dX8_findSpans_54 hl (by decide) rfl (fun ls hl => ?_)
        refine lv_aload_n hx hb dX8_findSpans_56 rfl (lv_at hl 1 rfl) ?_
        refine va_get (D := D) (ci := 7) (v := .int mo_spanMany) (C := RX8) (T := TX8) (N := 25) hx hb hts in_X8_findSpans_X8 hown hK hP 0 rfl rfl 15 (by decide) (hts (.fieldLink RX8 187 "HardBenchModel" "spanMany" "I") (List.mem_of_getElem? (i := 3) (by decide +kernel))) (fun _ h9 => h9) rfl dX8_findSpans_57 ?_
        refine lv_if_eq (tgt := 69) hx hb dX8_findSpans_60 (by decide) (fun c_60 => ?_) (fun c_60 => ?_)
        · replace ho := ho.1 c_60
          exact C_69 u51_1 u51_2 u51_3 mo_spanFunction mo_spanRounding mo_spanMany moF_r moT_r x4 r51 H locs ls ho hP hD hS (lv_sub hl [1, 2, 3, 5, 0] rfl)
        · replace ho := ho.2 c_60
          refine lv_iload hx hb dX8_findSpans_63 (lv_at hl 0 rfl) ?_
          refine lv_iload_n hx hb dX8_findSpans_65 rfl (lv_at hl 4 rfl) ?_
          refine lv_icmp_eq (tgt := 90) hx hb dX8_findSpans_66 (by decide) (fun c_66 => ?_) (fun c_66 => ?_)
          · replace ho := ho.1 c_66
            exact C_90 u51_1 u51_2 u51_3 mo_spanFunction mo_spanRounding mo_spanMany moF_r moT_r x4 r51 H locs ls ho hP hD hS (lv_sub hl [1, 2, 3, 5, 0] rfl)
          · replace ho := ho.2 c_66
            exact C_69 u51_1 u51_2 u51_3 mo_spanFunction mo_spanRounding mo_spanMany moF_r moT_r x4 r51 H locs ls ho hP hD hS (lv_sub hl [1, 2, 3, 5, 0] rfl)
  have C_17 : ∀ (mo_function : Int32) (mo_atX : Int32) (mo_atM : Int64) (mo_spanFunction : Int32) (mo_spanRounding : Int32) (mo_spanMany : Int32) (moF_r : Nat → Int32) (moT_r : Nat → Int32) (H : Heap) (locs : List Loc) (ls : Array Slot), wp_X8_findSpans_17 post  mo_f mo_most mo_minus mo_low mo_function mo_atX mo_atM moF_r moT_r p1 p2 → va_P D vwCl [(a_mo, oX8 a_moR mo_e mo_f mo_codes mo_most mo_minus mo_low mo_function mo_atX mo_atM a_moK a_moH a_moS mo_spanFunction mo_spanRounding mo_spanMany a_moF a_moT mo_parts mo_shift a_moP a_moQ a_moA a_moB a_moD), (a_moF, .inl (cI, 16384, .inl moF_r)), (a_moT, .inl (cI, 16384, .inl moT_r))] H → va_D A [(a_mo, oX8 a_moR mo_e mo_f mo_codes mo_most mo_minus mo_low mo_function mo_atX mo_atM a_moK a_moH a_moS mo_spanFunction mo_spanRounding mo_spanMany a_moF a_moT mo_parts mo_shift a_moP a_moQ a_moA a_moB a_moD), (a_moF, .inl (cI, 16384, .inl moF_r)), (a_moT, .inl (cI, 16384, .inl moT_r))] → va_S A s.heap H locs → lv_has ls 6 [(0, .ref a_mo), (1, .int p1), (2, .int p2)] → W p l e R s m args below meth c H locs 0 0 Q (F0 m 17 ls []) := by
    intro mo_function mo_atX mo_atM mo_spanFunction mo_spanRounding mo_spanMany moF_r moT_r H locs ls ho hP hD hS hl
    unfold wp_X8_findSpans_17 at ho
    refine lv_aload_n hx hb dX8_findSpans_17 rfl (lv_at hl 0 rfl) ?_
    refine lv_iload_n hx hb dX8_findSpans_18 rfl (lv_at hl 1 rfl) ?_
    refine va_put (D := D) (ci := 7) (v := .int p1) (ty := .int) (C := RX8) (T := TX8) (N := 25) hx hb hts in_X8_findSpans_X8 tyX8 tyX8_ok nmX8 hown hK hP hD hS 0 rfl rfl 13 (by decide) (hts (.fieldLink RX8 77 "HardBenchModel" "spanFunction" "I") (List.mem_of_getElem? (i := 1) (by decide +kernel))) (fun _ h9 => h9) rfl (by decide +kernel) rfl rfl (Nat.le_of_ble_eq_true rfl) dX8_findSpans_19 (fun H locs hP hD hS => ?_)
    replace hP : va_P D vwCl [(a_mo, oX8 a_moR mo_e mo_f mo_codes mo_most mo_minus mo_low mo_function mo_atX mo_atM a_moK a_moH a_moS p1 mo_spanRounding mo_spanMany a_moF a_moT mo_parts mo_shift a_moP a_moQ a_moA a_moB a_moD), (a_moF, .inl (cI, 16384, .inl moF_r)), (a_moT, .inl (cI, 16384, .inl moT_r))] H := hP
    replace hD : va_D A [(a_mo, oX8 a_moR mo_e mo_f mo_codes mo_most mo_minus mo_low mo_function mo_atX mo_atM a_moK a_moH a_moS p1 mo_spanRounding mo_spanMany a_moF a_moT mo_parts mo_shift a_moP a_moQ a_moA a_moB a_moD), (a_moF, .inl (cI, 16384, .inl moF_r)), (a_moT, .inl (cI, 16384, .inl moT_r))] := hD
    refine lv_aload_n hx hb dX8_findSpans_22 rfl (lv_at hl 0 rfl) ?_
    refine lv_iload_n hx hb dX8_findSpans_23 rfl (lv_at hl 2 rfl) ?_
    refine va_put (D := D) (ci := 7) (v := .int p2) (ty := .int) (C := RX8) (T := TX8) (N := 25) hx hb hts in_X8_findSpans_X8 tyX8 tyX8_ok nmX8 hown hK hP hD hS 0 rfl rfl 14 (by decide) (hts (.fieldLink RX8 184 "HardBenchModel" "spanRounding" "I") (List.mem_of_getElem? (i := 2) (by decide +kernel))) (fun _ h9 => h9) rfl (by decide +kernel) rfl rfl (Nat.le_of_ble_eq_true rfl) dX8_findSpans_24 (fun H locs hP hD hS => ?_)
    replace hP : va_P D vwCl [(a_mo, oX8 a_moR mo_e mo_f mo_codes mo_most mo_minus mo_low mo_function mo_atX mo_atM a_moK a_moH a_moS p1 p2 mo_spanMany a_moF a_moT mo_parts mo_shift a_moP a_moQ a_moA a_moB a_moD), (a_moF, .inl (cI, 16384, .inl moF_r)), (a_moT, .inl (cI, 16384, .inl moT_r))] H := hP
    replace hD : va_D A [(a_mo, oX8 a_moR mo_e mo_f mo_codes mo_most mo_minus mo_low mo_function mo_atX mo_atM a_moK a_moH a_moS p1 p2 mo_spanMany a_moF a_moT mo_parts mo_shift a_moP a_moQ a_moA a_moB a_moD), (a_moF, .inl (cI, 16384, .inl moF_r)), (a_moT, .inl (cI, 16384, .inl moT_r))] := hD
    refine lv_aload_n hx hb dX8_findSpans_27 rfl (lv_at hl 0 rfl) ?_
    refine lv_iconst (v := 0) hx hb dX8_findSpans_28 (by decide) ?_
    refine va_put (D := D) (ci := 7) (v := .int (0 : Int32)) (ty := .int) (C := RX8) (T := TX8) (N := 25) hx hb hts in_X8_findSpans_X8 tyX8 tyX8_ok nmX8 hown hK hP hD hS 0 rfl rfl 15 (by decide) (hts (.fieldLink RX8 187 "HardBenchModel" "spanMany" "I") (List.mem_of_getElem? (i := 3) (by decide +kernel))) (fun _ h9 => h9) rfl (by decide +kernel) rfl rfl (Nat.le_of_ble_eq_true rfl) dX8_findSpans_29 (fun H locs hP hD hS => ?_)
    replace hP : va_P D vwCl [(a_mo, oX8 a_moR mo_e mo_f mo_codes mo_most mo_minus mo_low mo_function mo_atX mo_atM a_moK a_moH a_moS p1 p2 (0 : Int32) a_moF a_moT mo_parts mo_shift a_moP a_moQ a_moA a_moB a_moD), (a_moF, .inl (cI, 16384, .inl moF_r)), (a_moT, .inl (cI, 16384, .inl moT_r))] H := hP
    replace hD : va_D A [(a_mo, oX8 a_moR mo_e mo_f mo_codes mo_most mo_minus mo_low mo_function mo_atX mo_atM a_moK a_moH a_moS p1 p2 (0 : Int32) a_moF a_moT mo_parts mo_shift a_moP a_moQ a_moA a_moB a_moD), (a_moF, .inl (cI, 16384, .inl moF_r)), (a_moT, .inl (cI, 16384, .inl moT_r))] := hD
    refine lv_iconst (v := (-1)) hx hb dX8_findSpans_32 (by decide) ?_
    refine lv_istore_n (lv' := [(3, .int (-1 : Int32)), (0, .ref a_mo), (1, .int p1), (2, .int p2)]) hx hb dX8_findSpans_33 rfl hl (by decide) rfl (fun ls hl => ?_)
    refine lv_iconst (v := 1) hx hb dX8_findSpans_34 (by decide) ?_
    refine lv_istore (lv' := [(4, .int (1 : Int32)), (3, .int (-1 : Int32)), (0, .ref a_mo), (1, .int p1), (2, .int p2)]) hx hb dX8_findSpans_35 hl (by decide) rfl (fun ls hl => ?_)
    obtain ⟨n_37, ho⟩ := ho
    exact C_37 n_37 mo_function mo_atX mo_atM p1 p2 (0 : Int32) moF_r moT_r (-1 : Int32) (1 : Int32) H locs ls ho hP hD hS (lv_sub hl [2, 3, 4, 1, 0] rfl)
  unfold wp_X8_findSpans at ho
  refine lv_aload_n hx hb dX8_findSpans_0 rfl (lv_at hl 0 rfl) ?_
  refine va_get (D := D) (ci := 7) (v := .int mo_spanFunction) (C := RX8) (T := TX8) (N := 25) hx hb hts in_X8_findSpans_X8 hown hK hP 0 rfl rfl 13 (by decide) (hts (.fieldLink RX8 77 "HardBenchModel" "spanFunction" "I") (List.mem_of_getElem? (i := 1) (by decide +kernel))) (fun _ h9 => h9) rfl dX8_findSpans_1 ?_
  refine lv_iload_n hx hb dX8_findSpans_4 rfl (lv_at hl 1 rfl) ?_
  refine lv_icmp_ne (tgt := 17) hx hb dX8_findSpans_5 (by decide) (fun c_5 => ?_) (fun c_5 => ?_)
  · replace ho := ho.1 c_5
    exact C_17 mo_function mo_atX mo_atM mo_spanFunction mo_spanRounding mo_spanMany moF_r moT_r H locs ls ho hP hD hS (lv_sub hl [0, 1, 2] rfl)
  · replace ho := ho.2 c_5
    refine lv_aload_n hx hb dX8_findSpans_8 rfl (lv_at hl 0 rfl) ?_
    refine va_get (D := D) (ci := 7) (v := .int mo_spanRounding) (C := RX8) (T := TX8) (N := 25) hx hb hts in_X8_findSpans_X8 hown hK hP 0 rfl rfl 14 (by decide) (hts (.fieldLink RX8 184 "HardBenchModel" "spanRounding" "I") (List.mem_of_getElem? (i := 2) (by decide +kernel))) (fun _ h9 => h9) rfl dX8_findSpans_9 ?_
    refine lv_iload_n hx hb dX8_findSpans_12 rfl (lv_at hl 2 rfl) ?_
    refine lv_icmp_ne (tgt := 17) hx hb dX8_findSpans_13 (by decide) (fun c_13 => ?_) (fun c_13 => ?_)
    · replace ho := ho.1 c_13
      exact C_17 mo_function mo_atX mo_atM mo_spanFunction mo_spanRounding mo_spanMany moF_r moT_r H locs ls ho hP hD hS (lv_sub hl [0, 1, 2] rfl)
    · replace ho := ho.2 c_13
      subst hQ; exact W.vret hx hb hr (fun t ht hW => ⟨⟨(mo_function, mo_atX, mo_atM, mo_spanFunction, mo_spanRounding, mo_spanMany, moF_r, moT_r), rfl, ho, by rw [ht]; exact hP, hD⟩, hS.F ht⟩) (fun q hq => hS.2.2 q hq) dX8_findSpans_16

def wp_X8_spans_15 (post : Int32 → Int32 → Int32 → Int64 → Int32 → Int32 → Int32 → (Nat → Int32) → (Nat → Int32) → (Nat → Int32) → Prop)  (mo_function : Int32) (mo_atX : Int32) (mo_atM : Int64) (mo_spanFunction : Int32) (mo_spanRounding : Int32) (mo_spanMany : Int32) (moR_r : Nat → Int32) (moF_r : Nat → Int32) (moT_r : Nat → Int32) : Prop := wp_X8_refuse (fun r17 u17 => (post r17 mo_function mo_atX mo_atM mo_spanFunction mo_spanRounding mo_spanMany u17 moF_r moT_r)) moR_r (-1 : Int32)
def wp_X8_spans (post : Int32 → Int32 → Int32 → Int64 → Int32 → Int32 → Int32 → (Nat → Int32) → (Nat → Int32) → (Nat → Int32) → Prop) (mo_f : Int32) (mo_most : Int32) (mo_minus : Int32) (mo_low : Int32) (mo_function : Int32) (mo_atX : Int32) (mo_atM : Int64) (mo_spanFunction : Int32) (mo_spanRounding : Int32) (mo_spanMany : Int32) (moR_r : Nat → Int32) (moF_r : Nat → Int32) (moT_r : Nat → Int32) (p1 : Int32) (p2 : Int32) : Prop := wp_X8_isFunction (fun r1 => (((r1 = 0) → (wp_X8_spans_15 post mo_function mo_atX mo_atM mo_spanFunction mo_spanRounding mo_spanMany moR_r moF_r moT_r)) ∧ ((¬ (r1 = 0)) → (wp_X8_isIn (fun r9 => (((¬ r9 = 0) → (wp_X8_findSpans (fun u24_1 u24_2 u24_3 u24_4 u24_5 u24_6 u24_7 u24_8 => (post u24_6 u24_1 u24_2 u24_3 u24_4 u24_5 u24_6 moR_r u24_7 u24_8)) mo_f mo_most mo_minus mo_low mo_function mo_atX mo_atM mo_spanFunction mo_spanRounding mo_spanMany moF_r moT_r p1 p2)) ∧ ((¬ (¬ r9 = 0)) → (wp_X8_spans_15 post mo_function mo_atX mo_atM mo_spanFunction mo_spanRounding mo_spanMany moR_r moF_r moT_r)))) p2 (5 : Int32))))) p1
set_option maxRecDepth 20000 in
theorem in_X8_spans_X8 : ∀ w ∈ u_ws RX8 TX8 25, w ∈ wsX8_spans := fun w h => (goodIn_r wsX80 [84, 85, 86, 87, 88, 89, 90, 91, 92, 93, 94, 95, 96, 97, 98, 99, 100, 101, 102, 103, 104, 105, 106, 107, 108] (by decide +kernel) (by decide +kernel) w h).1
set_option maxHeartbeats 4000000 in
set_option maxRecDepth 100000 in
theorem c_X8_spans (l : Launch) (D : va_G) (cI cJ cZ : ClassId) (a_mo : Nat) (a_moR : Nat) (a_moK : Nat) (a_moH : Nat) (a_moS : Nat) (a_moF : Nat) (a_moT : Nat) (a_moP : Nat) (a_moQ : Nat) (a_moA : Nat) (a_moB : Nat) (a_moD : Nat) (sz : Nat) (mo_e : Int32) (mo_f : Int32) (mo_codes : Int32) (mo_most : Int32) (mo_minus : Int32) (mo_low : Int32) (mo_function : Int32) (mo_atX : Int32) (mo_atM : Int64) (mo_spanFunction : Int32) (mo_spanRounding : Int32) (mo_spanMany : Int32) (mo_parts : Int32) (mo_shift : Int32) (moR_r : Nat → Int32) (moF_r : Nat → Int32) (moT_r : Nat → Int32) (p1 : Int32) (p2 : Int32) (post : Int32 → Int32 → Int32 → Int64 → Int32 → Int32 → Int32 → (Nat → Int32) → (Nat → Int32) → (Nat → Int32) → Prop) (A : Nat → Prop) (hAe : A = va_A [(a_mo, oX8 a_moR mo_e mo_f mo_codes mo_most mo_minus mo_low mo_function mo_atX mo_atM a_moK a_moH a_moS mo_spanFunction mo_spanRounding mo_spanMany a_moF a_moT mo_parts mo_shift a_moP a_moQ a_moA a_moB a_moD), (a_moR, .inl (cI, 7, .inl moR_r)), (a_moF, .inl (cI, 16384, .inl moF_r)), (a_moT, .inl (cI, 16384, .inl moT_r))] sz) (ho : wp_X8_spans post mo_f mo_most mo_minus mo_low mo_function mo_atX mo_atM mo_spanFunction mo_spanRounding mo_spanMany moR_r moF_r moT_r p1 p2) : Met l yX8_spans wsX8_spans ({ frames := 7, cells := 0, slots := 0, locals := 176 } : Room) (rw_P D [(cI, .int), (cJ, .long), (cZ, .boolean)] [.ref a_mo, .int p1, .int p2] sz [(a_mo, oX8 a_moR mo_e mo_f mo_codes mo_most mo_minus mo_low mo_function mo_atX mo_atM a_moK a_moH a_moS mo_spanFunction mo_spanRounding mo_spanMany a_moF a_moT mo_parts mo_shift a_moP a_moQ a_moA a_moB a_moD), (a_moR, .inl (cI, 7, .inl moR_r)), (a_moF, .inl (cI, 16384, .inl moF_r)), (a_moT, .inl (cI, 16384, .inl moT_r))]) (va_Qi (fun (r : Int32) (u : (Int32) × (Int32) × (Int64) × (Int32) × (Int32) × (Int32) × (Nat → Int32) × (Nat → Int32) × (Nat → Int32)) => post r u.1 u.2.1 u.2.2.1 u.2.2.2.1 u.2.2.2.2.1 u.2.2.2.2.2.1 u.2.2.2.2.2.2.1 u.2.2.2.2.2.2.2.1 u.2.2.2.2.2.2.2.2) (rw_B D A (fun (u : (Int32) × (Int32) × (Int64) × (Int32) × (Int32) × (Int32) × (Nat → Int32) × (Nat → Int32) × (Nat → Int32)) => [(a_mo, oX8 a_moR mo_e mo_f mo_codes mo_most mo_minus mo_low u.1 u.2.1 u.2.2.1 a_moK a_moH a_moS u.2.2.2.1 u.2.2.2.2.1 u.2.2.2.2.2.1 a_moF a_moT mo_parts mo_shift a_moP a_moQ a_moA a_moB a_moD), (a_moR, .inl (cI, 7, .inl u.2.2.2.2.2.2.1)), (a_moF, .inl (cI, 16384, .inl u.2.2.2.2.2.2.2.1)), (a_moT, .inl (cI, 16384, .inl u.2.2.2.2.2.2.2.2))])) A) 0 0 A := by
  refine Met.ofW (cc := cX8_spans) (maxL := 3) (ret := (some .int)) (by decide) rfl ?_
  intro p e s m args below meth c s₁ B hml hv
  obtain ⟨hargs, hsz, hP, hK, hN, hD0⟩ := hv
  have hx := B.exec
  have hb := B.bytes
  have hr := B.returns
  have hts := atoms_spec (ws := wsX8_spans) B.pre
  have hown : s.vm.findClass RX8 = some m.cls := findClass_of_methodNamed B.named
  have hlocks := B.notSynchronized
  subst hsz
  have hD : va_D A [(a_mo, oX8 a_moR mo_e mo_f mo_codes mo_most mo_minus mo_low mo_function mo_atX mo_atM a_moK a_moH a_moS mo_spanFunction mo_spanRounding mo_spanMany a_moF a_moT mo_parts mo_shift a_moP a_moQ a_moA a_moB a_moD), (a_moR, .inl (cI, 7, .inl moR_r)), (a_moF, .inl (cI, 16384, .inl moF_r)), (a_moT, .inl (cI, 16384, .inl moT_r))] := by rw [hAe]; exact hD0.self
  have hA : ∀ q : Nat, s.heap.size ≤ q → A q := fun q h => by rw [hAe]; exact Or.inr h
  have hS : va_S A s.heap s.heap [] := va_S.rf
  have hl := lv_entry ([.ref a_mo, .int p1, .int p2]) (n := 3) (Nat.le_of_ble_eq_true rfl)
  rw [hargs, lg_entry_eq, ← hargs]
  generalize (lg_sl ([.ref a_mo, .int p1, .int p2]) ++ List.replicate (3 - (lg_sl ([.ref a_mo, .int p1, .int p2])).length) Slot.unset).toArray = ls at hl ⊢
  replace hl : lv_has ls 3 [(0, .ref a_mo), (1, .int p1), (2, .int p2)] := hl
  have hRf : ∀ n, n ≤ 7 → n ≤ (headSpec wsX8_spans ({ frames := 7, cells := 0, slots := 0, locals := 176 } : Room)).room.frames := fun n h => h
  have hRl : ∀ n, n ≤ 176 → n ≤ (headSpec wsX8_spans ({ frames := 7, cells := 0, slots := 0, locals := 176 } : Room)).room.locals := fun n h => h
  generalize (headSpec wsX8_spans ({ frames := 7, cells := 0, slots := 0, locals := 176 } : Room)).room = R at hRf hRl ⊢
  generalize hQ : MQ below _ args s 0 0 _ = Q
  have C_15 : ∀ (mo_function : Int32) (mo_atX : Int32) (mo_atM : Int64) (mo_spanFunction : Int32) (mo_spanRounding : Int32) (mo_spanMany : Int32) (moR_r : Nat → Int32) (moF_r : Nat → Int32) (moT_r : Nat → Int32) (H : Heap) (locs : List Loc) (ls : Array Slot), wp_X8_spans_15 post  mo_function mo_atX mo_atM mo_spanFunction mo_spanRounding mo_spanMany moR_r moF_r moT_r → va_P D vwCl [(a_mo, oX8 a_moR mo_e mo_f mo_codes mo_most mo_minus mo_low mo_function mo_atX mo_atM a_moK a_moH a_moS mo_spanFunction mo_spanRounding mo_spanMany a_moF a_moT mo_parts mo_shift a_moP a_moQ a_moA a_moB a_moD), (a_moR, .inl (cI, 7, .inl moR_r)), (a_moF, .inl (cI, 16384, .inl moF_r)), (a_moT, .inl (cI, 16384, .inl moT_r))] H → va_D A [(a_mo, oX8 a_moR mo_e mo_f mo_codes mo_most mo_minus mo_low mo_function mo_atX mo_atM a_moK a_moH a_moS mo_spanFunction mo_spanRounding mo_spanMany a_moF a_moT mo_parts mo_shift a_moP a_moQ a_moA a_moB a_moD), (a_moR, .inl (cI, 7, .inl moR_r)), (a_moF, .inl (cI, 16384, .inl moF_r)), (a_moT, .inl (cI, 16384, .inl moT_r))] → va_S A s.heap H locs → lv_has ls 3 [(0, .ref a_mo)] → W p l e R s m args below meth c H locs 0 0 Q (F0 m 15 ls []) := by
    intro mo_function mo_atX mo_atM mo_spanFunction mo_spanRounding mo_spanMany moR_r moF_r moT_r H locs ls ho hP hD hS hl
    unfold wp_X8_spans_15 at ho
    refine lv_aload_n hx hb dX8_spans_15 rfl (lv_at hl 0 rfl) ?_
    refine lv_iconst (v := (-1)) hx hb dX8_spans_16 (by decide) ?_
    refine ca_Wi (b := a_mo) (As := [.int (-1 : Int32)]) (rest := []) (wr := [(a_moF, .inl (cI, 16384, .inl moF_r)), (a_moT, .inl (cI, 16384, .inl moT_r))]) (wo := fun u => [(a_mo, oX8 a_moR mo_e mo_f mo_codes mo_most mo_minus mo_low mo_function mo_atX mo_atM a_moK a_moH a_moS mo_spanFunction mo_spanRounding mo_spanMany a_moF a_moT mo_parts mo_shift a_moP a_moQ a_moA a_moB a_moD), (a_moR, .inl (cI, 7, .inl u))]) (wn := fun u => [(a_mo, oX8 a_moR mo_e mo_f mo_codes mo_most mo_minus mo_low mo_function mo_atX mo_atM a_moK a_moH a_moS mo_spanFunction mo_spanRounding mo_spanMany a_moF a_moT mo_parts mo_shift a_moP a_moQ a_moA a_moB a_moD), (a_moR, .inl (cI, 7, .inl u)), (a_moF, .inl (cI, 16384, .inl moF_r)), (a_moT, .inl (cI, 16384, .inl moT_r))]) ⟨hx, hb, hml, hown, hts⟩ (c_X8_refuse l D cI cJ cZ a_mo a_moR a_moK a_moH a_moS a_moF a_moT a_moP a_moQ a_moA a_moB a_moD H.size mo_e mo_f mo_codes mo_most mo_minus mo_low mo_function mo_atX mo_atM mo_spanFunction mo_spanRounding mo_spanMany mo_parts mo_shift moR_r (-1 : Int32) _ _ rfl ho) (cwV 1 hts gX8_spans_X8_refuse rfl rfl rfl (by decide +kernel) ⟨hRf _ (Nat.le_of_ble_eq_true rfl), hRl _ (Nat.le_of_ble_eq_true rfl)⟩) hK hN hP hD hS hA [0, 1] [2, 3] [2, 3, 0, 1] rfl rfl (by decide) (by decide) (by decide) (by decide) (fun _ => rfl) 0 7 rfl rfl rfl rfl hl.1 rfl (Nat.le_of_ble_eq_true rfl) dX8_spans_17 ⟨Nat.zero_le _, Nat.zero_le _⟩ (fun r17 u17 H locs ho hP hD hS => ?_)
    try dsimp only at ho
    replace hP : va_P D vwCl [(a_mo, oX8 a_moR mo_e mo_f mo_codes mo_most mo_minus mo_low mo_function mo_atX mo_atM a_moK a_moH a_moS mo_spanFunction mo_spanRounding mo_spanMany a_moF a_moT mo_parts mo_shift a_moP a_moQ a_moA a_moB a_moD), (a_moR, .inl (cI, 7, .inl u17)), (a_moF, .inl (cI, 16384, .inl moF_r)), (a_moT, .inl (cI, 16384, .inl moT_r))] H := hP
    replace hD : va_D A [(a_mo, oX8 a_moR mo_e mo_f mo_codes mo_most mo_minus mo_low mo_function mo_atX mo_atM a_moK a_moH a_moS mo_spanFunction mo_spanRounding mo_spanMany a_moF a_moT mo_parts mo_shift a_moP a_moQ a_moA a_moB a_moD), (a_moR, .inl (cI, 7, .inl u17)), (a_moF, .inl (cI, 16384, .inl moF_r)), (a_moT, .inl (cI, 16384, .inl moT_r))] := hD
    subst hQ; exact W.iret (v := r17) hx hb hr (fun t ht hW => ⟨⟨r17, (mo_function, mo_atX, mo_atM, mo_spanFunction, mo_spanRounding, mo_spanMany, u17, moF_r, moT_r), rfl, ho, by rw [ht]; exact hP, hD⟩, hS.F ht⟩) (fun q hq => hS.2.2 q hq) dX8_spans_20
  unfold wp_X8_spans at ho
  refine lv_iload_n hx hb dX8_spans_0 rfl (lv_at hl 1 rfl) ?_
  refine ca_Si (As := [.int p1]) (rest := []) ⟨hx, hb, hml, hown, hts⟩ (c_X8_isFunction l D cI cJ cZ   p1 _ ho) (va_cwS 1 hts gX8_spans_X8_isFunction rfl rfl rfl (by decide +kernel) ⟨hRf _ (Nat.le_of_ble_eq_true rfl), hRl _ (Nat.le_of_ble_eq_true rfl)⟩) hK hN hP [] rfl rfl hl.1 rfl (Nat.le_of_ble_eq_true rfl) dX8_spans_1 ⟨Nat.zero_le _, Nat.zero_le _⟩ (fun r1 ho => ?_)
  refine lv_if_eq (tgt := 15) hx hb dX8_spans_4 (by decide) (fun c_4 => ?_) (fun c_4 => ?_)
  · replace ho := ho.1 c_4
    exact C_15 mo_function mo_atX mo_atM mo_spanFunction mo_spanRounding mo_spanMany moR_r moF_r moT_r H locs ls ho hP hD hS (lv_sub hl [0] rfl)
  · replace ho := ho.2 c_4
    refine lv_iload_n hx hb dX8_spans_7 rfl (lv_at hl 2 rfl) ?_
    refine lv_iconst (v := 5) hx hb dX8_spans_8 (by decide) ?_
    refine ca_Si (As := [.int p2, .int (5 : Int32)]) (rest := []) ⟨hx, hb, hml, hown, hts⟩ (c_X8_isIn l D cI cJ cZ   p2 (5 : Int32) _ ho) (va_cwS 2 hts gX8_spans_X8_isIn rfl rfl rfl (by decide +kernel) ⟨hRf _ (Nat.le_of_ble_eq_true rfl), hRl _ (Nat.le_of_ble_eq_true rfl)⟩) hK hN hP [] rfl rfl hl.1 rfl (Nat.le_of_ble_eq_true rfl) dX8_spans_9 ⟨Nat.zero_le _, Nat.zero_le _⟩ (fun r9 ho => ?_)
    refine lv_if_ne (tgt := 21) hx hb dX8_spans_12 (by decide) (fun c_12 => ?_) (fun c_12 => ?_)
    · replace ho := ho.1 c_12
      refine lv_aload_n hx hb dX8_spans_21 rfl (lv_at hl 0 rfl) ?_
      refine lv_iload_n hx hb dX8_spans_22 rfl (lv_at hl 1 rfl) ?_
      refine lv_iload_n hx hb dX8_spans_23 rfl (lv_at hl 2 rfl) ?_
      refine ca_Wv (b := a_mo) (As := [.int p1, .int p2]) (rest := []) (wr := [(a_moR, .inl (cI, 7, .inl moR_r))]) (wo := fun u => [(a_mo, oX8 a_moR mo_e mo_f mo_codes mo_most mo_minus mo_low u.1 u.2.1 u.2.2.1 a_moK a_moH a_moS u.2.2.2.1 u.2.2.2.2.1 u.2.2.2.2.2.1 a_moF a_moT mo_parts mo_shift a_moP a_moQ a_moA a_moB a_moD), (a_moF, .inl (cI, 16384, .inl u.2.2.2.2.2.2.1)), (a_moT, .inl (cI, 16384, .inl u.2.2.2.2.2.2.2))]) (wn := fun u => [(a_mo, oX8 a_moR mo_e mo_f mo_codes mo_most mo_minus mo_low u.1 u.2.1 u.2.2.1 a_moK a_moH a_moS u.2.2.2.1 u.2.2.2.2.1 u.2.2.2.2.2.1 a_moF a_moT mo_parts mo_shift a_moP a_moQ a_moA a_moB a_moD), (a_moR, .inl (cI, 7, .inl moR_r)), (a_moF, .inl (cI, 16384, .inl u.2.2.2.2.2.2.1)), (a_moT, .inl (cI, 16384, .inl u.2.2.2.2.2.2.2))]) ⟨hx, hb, hml, hown, hts⟩ (c_X8_findSpans l D cI cJ cZ a_mo a_moR a_moK a_moH a_moS a_moF a_moT a_moP a_moQ a_moA a_moB a_moD H.size mo_e mo_f mo_codes mo_most mo_minus mo_low mo_function mo_atX mo_atM mo_spanFunction mo_spanRounding mo_spanMany mo_parts mo_shift moF_r moT_r p1 p2 _ _ rfl ho) (cwV 2 hts gX8_spans_X8_findSpans rfl rfl rfl (by decide +kernel) ⟨hRf _ (Nat.le_of_ble_eq_true rfl), hRl _ (Nat.le_of_ble_eq_true rfl)⟩) hK hN hP hD hS hA [0, 2, 3] [1] [1, 0, 2, 3] rfl rfl (by decide) (by decide) (by decide) (by decide) (fun _ => rfl) 0 7 rfl rfl rfl rfl hl.1 rfl (Nat.le_of_ble_eq_true rfl) dX8_spans_24 ⟨Nat.zero_le _, Nat.zero_le _⟩ (fun  u24 H locs ho hP hD hS => ?_)
      obtain ⟨u24_1, u24_2, u24_3, u24_4, u24_5, u24_6, u24_7, u24_8⟩ := u24
      try dsimp only at ho
      replace hP : va_P D vwCl [(a_mo, oX8 a_moR mo_e mo_f mo_codes mo_most mo_minus mo_low u24_1 u24_2 u24_3 a_moK a_moH a_moS u24_4 u24_5 u24_6 a_moF a_moT mo_parts mo_shift a_moP a_moQ a_moA a_moB a_moD), (a_moR, .inl (cI, 7, .inl moR_r)), (a_moF, .inl (cI, 16384, .inl u24_7)), (a_moT, .inl (cI, 16384, .inl u24_8))] H := hP
      replace hD : va_D A [(a_mo, oX8 a_moR mo_e mo_f mo_codes mo_most mo_minus mo_low u24_1 u24_2 u24_3 a_moK a_moH a_moS u24_4 u24_5 u24_6 a_moF a_moT mo_parts mo_shift a_moP a_moQ a_moA a_moB a_moD), (a_moR, .inl (cI, 7, .inl moR_r)), (a_moF, .inl (cI, 16384, .inl u24_7)), (a_moT, .inl (cI, 16384, .inl u24_8))] := hD
      refine lv_aload_n hx hb dX8_spans_27 rfl (lv_at hl 0 rfl) ?_
      refine va_get (D := D) (ci := 7) (v := .int u24_6) (C := RX8) (T := TX8) (N := 25) hx hb hts in_X8_spans_X8 hown hK hP 0 rfl rfl 15 (by decide) (hts (.fieldLink RX8 187 "HardBenchModel" "spanMany" "I") (List.mem_of_getElem? (i := 1) (by decide +kernel))) (fun _ h9 => h9) rfl dX8_spans_28 ?_
      subst hQ; exact W.iret (v := u24_6) hx hb hr (fun t ht hW => ⟨⟨u24_6, (u24_1, u24_2, u24_3, u24_4, u24_5, u24_6, moR_r, u24_7, u24_8), rfl, ho, by rw [ht]; exact hP, hD⟩, hS.F ht⟩) (fun q hq => hS.2.2 q hq) dX8_spans_31
    · replace ho := ho.2 c_12
      exact C_15 mo_function mo_atX mo_atM mo_spanFunction mo_spanRounding mo_spanMany moR_r moF_r moT_r H locs ls ho hP hD hS (lv_sub hl [0] rfl)

def wp_X8_span_15 (post : Int32 → Int32 → Int32 → Int64 → Int32 → Int32 → Int32 → (Nat → Int32) → (Nat → Int32) → (Nat → Int32) → Prop)  (mo_function : Int32) (mo_atX : Int32) (mo_atM : Int64) (mo_spanFunction : Int32) (mo_spanRounding : Int32) (mo_spanMany : Int32) (moR_r : Nat → Int32) (moF_r : Nat → Int32) (moT_r : Nat → Int32) : Prop := wp_X8_refuse (fun r17 u17 => (post r17 mo_function mo_atX mo_atM mo_spanFunction mo_spanRounding mo_spanMany u17 moF_r moT_r)) moR_r (-1 : Int32)
def wp_X8_span (post : Int32 → Int32 → Int32 → Int64 → Int32 → Int32 → Int32 → (Nat → Int32) → (Nat → Int32) → (Nat → Int32) → Prop) (mo_f : Int32) (mo_most : Int32) (mo_minus : Int32) (mo_low : Int32) (mo_function : Int32) (mo_atX : Int32) (mo_atM : Int64) (mo_spanFunction : Int32) (mo_spanRounding : Int32) (mo_spanMany : Int32) (moR_r : Nat → Int32) (moF_r : Nat → Int32) (moT_r : Nat → Int32) (p1 : Int32) (p2 : Int32) (p3 : Int32) (p4 : Int32) : Prop := wp_X8_isFunction (fun r1 => (((r1 = 0) → (wp_X8_span_15 post mo_function mo_atX mo_atM mo_spanFunction mo_spanRounding mo_spanMany moR_r moF_r moT_r)) ∧ ((¬ (r1 = 0)) → (wp_X8_isIn (fun r9 => (((¬ r9 = 0) → (wp_X8_findSpans (fun u24_1 u24_2 u24_3 u24_4 u24_5 u24_6 u24_7 u24_8 => (wp_X8_isIn (fun r32 => (((¬ r32 = 0) → (((p4 = (0 : Int32)) → ((vp_in p3 16384) ∧ (post (u24_7 p3.toNatClampNeg) u24_1 u24_2 u24_3 u24_4 u24_5 u24_6 moR_r u24_7 u24_8))) ∧ ((¬ (p4 = (0 : Int32))) → (((p4 = (1 : Int32)) → ((vp_in p3 16384) ∧ (post (u24_8 p3.toNatClampNeg) u24_1 u24_2 u24_3 u24_4 u24_5 u24_6 moR_r u24_7 u24_8))) ∧ ((¬ (p4 = (1 : Int32))) → (((p4 = (2 : Int32)) → ((vp_in p3 16384) ∧ (wp_X8_rightOf (fun r95 u95_1 u95_2 u95_3 => (post r95 u95_1 u95_2 u95_3 u24_4 u24_5 u24_6 moR_r u24_7 u24_8)) mo_f mo_most mo_minus mo_low u24_1 u24_2 u24_3 p1 (u24_7 p3.toNatClampNeg) p2))) ∧ ((¬ (p4 = (2 : Int32))) → (wp_X8_refuse (fun r102 u102 => (post r102 u24_1 u24_2 u24_3 u24_4 u24_5 u24_6 u102 u24_7 u24_8)) moR_r (-2 : Int32))))))))) ∧ ((¬ (¬ r32 = 0)) → (wp_X8_refuse (fun r40 u40 => (post r40 u24_1 u24_2 u24_3 u24_4 u24_5 u24_6 u40 u24_7 u24_8)) moR_r (-1 : Int32))))) p3 u24_6)) mo_f mo_most mo_minus mo_low mo_function mo_atX mo_atM mo_spanFunction mo_spanRounding mo_spanMany moF_r moT_r p1 p2)) ∧ ((¬ (¬ r9 = 0)) → (wp_X8_span_15 post mo_function mo_atX mo_atM mo_spanFunction mo_spanRounding mo_spanMany moR_r moF_r moT_r)))) p2 (5 : Int32))))) p1
set_option maxRecDepth 20000 in
theorem in_X8_span_X8 : ∀ w ∈ u_ws RX8 TX8 25, w ∈ wsX8_span := fun w h => (goodIn_r wsX80 [84, 85, 86, 87, 88, 89, 90, 91, 92, 93, 94, 95, 96, 97, 98, 99, 100, 101, 102, 103, 104, 105, 106, 107, 108] (by decide +kernel) (by decide +kernel) w h).1
set_option maxHeartbeats 4000000 in
set_option maxRecDepth 100000 in
theorem c_X8_span (l : Launch) (D : va_G) (cI cJ cZ : ClassId) (a_mo : Nat) (a_moR : Nat) (a_moK : Nat) (a_moH : Nat) (a_moS : Nat) (a_moF : Nat) (a_moT : Nat) (a_moP : Nat) (a_moQ : Nat) (a_moA : Nat) (a_moB : Nat) (a_moD : Nat) (sz : Nat) (mo_e : Int32) (mo_f : Int32) (mo_codes : Int32) (mo_most : Int32) (mo_minus : Int32) (mo_low : Int32) (mo_function : Int32) (mo_atX : Int32) (mo_atM : Int64) (mo_spanFunction : Int32) (mo_spanRounding : Int32) (mo_spanMany : Int32) (mo_parts : Int32) (mo_shift : Int32) (moR_r : Nat → Int32) (moF_r : Nat → Int32) (moT_r : Nat → Int32) (p1 : Int32) (p2 : Int32) (p3 : Int32) (p4 : Int32) (post : Int32 → Int32 → Int32 → Int64 → Int32 → Int32 → Int32 → (Nat → Int32) → (Nat → Int32) → (Nat → Int32) → Prop) (A : Nat → Prop) (hAe : A = va_A [(a_mo, oX8 a_moR mo_e mo_f mo_codes mo_most mo_minus mo_low mo_function mo_atX mo_atM a_moK a_moH a_moS mo_spanFunction mo_spanRounding mo_spanMany a_moF a_moT mo_parts mo_shift a_moP a_moQ a_moA a_moB a_moD), (a_moR, .inl (cI, 7, .inl moR_r)), (a_moF, .inl (cI, 16384, .inl moF_r)), (a_moT, .inl (cI, 16384, .inl moT_r))] sz) (ho : wp_X8_span post mo_f mo_most mo_minus mo_low mo_function mo_atX mo_atM mo_spanFunction mo_spanRounding mo_spanMany moR_r moF_r moT_r p1 p2 p3 p4) : Met l yX8_span wsX8_span ({ frames := 7, cells := 0, slots := 0, locals := 176 } : Room) (rw_P D [(cI, .int), (cJ, .long), (cZ, .boolean)] [.ref a_mo, .int p1, .int p2, .int p3, .int p4] sz [(a_mo, oX8 a_moR mo_e mo_f mo_codes mo_most mo_minus mo_low mo_function mo_atX mo_atM a_moK a_moH a_moS mo_spanFunction mo_spanRounding mo_spanMany a_moF a_moT mo_parts mo_shift a_moP a_moQ a_moA a_moB a_moD), (a_moR, .inl (cI, 7, .inl moR_r)), (a_moF, .inl (cI, 16384, .inl moF_r)), (a_moT, .inl (cI, 16384, .inl moT_r))]) (va_Qi (fun (r : Int32) (u : (Int32) × (Int32) × (Int64) × (Int32) × (Int32) × (Int32) × (Nat → Int32) × (Nat → Int32) × (Nat → Int32)) => post r u.1 u.2.1 u.2.2.1 u.2.2.2.1 u.2.2.2.2.1 u.2.2.2.2.2.1 u.2.2.2.2.2.2.1 u.2.2.2.2.2.2.2.1 u.2.2.2.2.2.2.2.2) (rw_B D A (fun (u : (Int32) × (Int32) × (Int64) × (Int32) × (Int32) × (Int32) × (Nat → Int32) × (Nat → Int32) × (Nat → Int32)) => [(a_mo, oX8 a_moR mo_e mo_f mo_codes mo_most mo_minus mo_low u.1 u.2.1 u.2.2.1 a_moK a_moH a_moS u.2.2.2.1 u.2.2.2.2.1 u.2.2.2.2.2.1 a_moF a_moT mo_parts mo_shift a_moP a_moQ a_moA a_moB a_moD), (a_moR, .inl (cI, 7, .inl u.2.2.2.2.2.2.1)), (a_moF, .inl (cI, 16384, .inl u.2.2.2.2.2.2.2.1)), (a_moT, .inl (cI, 16384, .inl u.2.2.2.2.2.2.2.2))])) A) 0 0 A := by
  refine Met.ofW (cc := cX8_span) (maxL := 5) (ret := (some .int)) (by decide) rfl ?_
  intro p e s m args below meth c s₁ B hml hv
  obtain ⟨hargs, hsz, hP, hK, hN, hD0⟩ := hv
  have hx := B.exec
  have hb := B.bytes
  have hr := B.returns
  have hts := atoms_spec (ws := wsX8_span) B.pre
  have hown : s.vm.findClass RX8 = some m.cls := findClass_of_methodNamed B.named
  have hlocks := B.notSynchronized
  subst hsz
  have hD : va_D A [(a_mo, oX8 a_moR mo_e mo_f mo_codes mo_most mo_minus mo_low mo_function mo_atX mo_atM a_moK a_moH a_moS mo_spanFunction mo_spanRounding mo_spanMany a_moF a_moT mo_parts mo_shift a_moP a_moQ a_moA a_moB a_moD), (a_moR, .inl (cI, 7, .inl moR_r)), (a_moF, .inl (cI, 16384, .inl moF_r)), (a_moT, .inl (cI, 16384, .inl moT_r))] := by rw [hAe]; exact hD0.self
  have hA : ∀ q : Nat, s.heap.size ≤ q → A q := fun q h => by rw [hAe]; exact Or.inr h
  have hS : va_S A s.heap s.heap [] := va_S.rf
  have hl := lv_entry ([.ref a_mo, .int p1, .int p2, .int p3, .int p4]) (n := 5) (Nat.le_of_ble_eq_true rfl)
  rw [hargs, lg_entry_eq, ← hargs]
  generalize (lg_sl ([.ref a_mo, .int p1, .int p2, .int p3, .int p4]) ++ List.replicate (5 - (lg_sl ([.ref a_mo, .int p1, .int p2, .int p3, .int p4])).length) Slot.unset).toArray = ls at hl ⊢
  replace hl : lv_has ls 5 [(0, .ref a_mo), (1, .int p1), (2, .int p2), (3, .int p3), (4, .int p4)] := hl
  have hRf : ∀ n, n ≤ 7 → n ≤ (headSpec wsX8_span ({ frames := 7, cells := 0, slots := 0, locals := 176 } : Room)).room.frames := fun n h => h
  have hRl : ∀ n, n ≤ 176 → n ≤ (headSpec wsX8_span ({ frames := 7, cells := 0, slots := 0, locals := 176 } : Room)).room.locals := fun n h => h
  generalize (headSpec wsX8_span ({ frames := 7, cells := 0, slots := 0, locals := 176 } : Room)).room = R at hRf hRl ⊢
  generalize hQ : MQ below _ args s 0 0 _ = Q
  have C_15 : ∀ (mo_function : Int32) (mo_atX : Int32) (mo_atM : Int64) (mo_spanFunction : Int32) (mo_spanRounding : Int32) (mo_spanMany : Int32) (moR_r : Nat → Int32) (moF_r : Nat → Int32) (moT_r : Nat → Int32) (H : Heap) (locs : List Loc) (ls : Array Slot), wp_X8_span_15 post  mo_function mo_atX mo_atM mo_spanFunction mo_spanRounding mo_spanMany moR_r moF_r moT_r → va_P D vwCl [(a_mo, oX8 a_moR mo_e mo_f mo_codes mo_most mo_minus mo_low mo_function mo_atX mo_atM a_moK a_moH a_moS mo_spanFunction mo_spanRounding mo_spanMany a_moF a_moT mo_parts mo_shift a_moP a_moQ a_moA a_moB a_moD), (a_moR, .inl (cI, 7, .inl moR_r)), (a_moF, .inl (cI, 16384, .inl moF_r)), (a_moT, .inl (cI, 16384, .inl moT_r))] H → va_D A [(a_mo, oX8 a_moR mo_e mo_f mo_codes mo_most mo_minus mo_low mo_function mo_atX mo_atM a_moK a_moH a_moS mo_spanFunction mo_spanRounding mo_spanMany a_moF a_moT mo_parts mo_shift a_moP a_moQ a_moA a_moB a_moD), (a_moR, .inl (cI, 7, .inl moR_r)), (a_moF, .inl (cI, 16384, .inl moF_r)), (a_moT, .inl (cI, 16384, .inl moT_r))] → va_S A s.heap H locs → lv_has ls 5 [(0, .ref a_mo)] → W p l e R s m args below meth c H locs 0 0 Q (F0 m 15 ls []) := by
    intro mo_function mo_atX mo_atM mo_spanFunction mo_spanRounding mo_spanMany moR_r moF_r moT_r H locs ls ho hP hD hS hl
    unfold wp_X8_span_15 at ho
    refine lv_aload_n hx hb dX8_span_15 rfl (lv_at hl 0 rfl) ?_
    refine lv_iconst (v := (-1)) hx hb dX8_span_16 (by decide) ?_
    refine ca_Wi (b := a_mo) (As := [.int (-1 : Int32)]) (rest := []) (wr := [(a_moF, .inl (cI, 16384, .inl moF_r)), (a_moT, .inl (cI, 16384, .inl moT_r))]) (wo := fun u => [(a_mo, oX8 a_moR mo_e mo_f mo_codes mo_most mo_minus mo_low mo_function mo_atX mo_atM a_moK a_moH a_moS mo_spanFunction mo_spanRounding mo_spanMany a_moF a_moT mo_parts mo_shift a_moP a_moQ a_moA a_moB a_moD), (a_moR, .inl (cI, 7, .inl u))]) (wn := fun u => [(a_mo, oX8 a_moR mo_e mo_f mo_codes mo_most mo_minus mo_low mo_function mo_atX mo_atM a_moK a_moH a_moS mo_spanFunction mo_spanRounding mo_spanMany a_moF a_moT mo_parts mo_shift a_moP a_moQ a_moA a_moB a_moD), (a_moR, .inl (cI, 7, .inl u)), (a_moF, .inl (cI, 16384, .inl moF_r)), (a_moT, .inl (cI, 16384, .inl moT_r))]) ⟨hx, hb, hml, hown, hts⟩ (c_X8_refuse l D cI cJ cZ a_mo a_moR a_moK a_moH a_moS a_moF a_moT a_moP a_moQ a_moA a_moB a_moD H.size mo_e mo_f mo_codes mo_most mo_minus mo_low mo_function mo_atX mo_atM mo_spanFunction mo_spanRounding mo_spanMany mo_parts mo_shift moR_r (-1 : Int32) _ _ rfl ho) (cwV 1 hts gX8_span_X8_refuse rfl rfl rfl (by decide +kernel) ⟨hRf _ (Nat.le_of_ble_eq_true rfl), hRl _ (Nat.le_of_ble_eq_true rfl)⟩) hK hN hP hD hS hA [0, 1] [2, 3] [2, 3, 0, 1] rfl rfl (by decide) (by decide) (by decide) (by decide) (fun _ => rfl) 0 7 rfl rfl rfl rfl hl.1 rfl (Nat.le_of_ble_eq_true rfl) dX8_span_17 ⟨Nat.zero_le _, Nat.zero_le _⟩ (fun r17 u17 H locs ho hP hD hS => ?_)
    try dsimp only at ho
    replace hP : va_P D vwCl [(a_mo, oX8 a_moR mo_e mo_f mo_codes mo_most mo_minus mo_low mo_function mo_atX mo_atM a_moK a_moH a_moS mo_spanFunction mo_spanRounding mo_spanMany a_moF a_moT mo_parts mo_shift a_moP a_moQ a_moA a_moB a_moD), (a_moR, .inl (cI, 7, .inl u17)), (a_moF, .inl (cI, 16384, .inl moF_r)), (a_moT, .inl (cI, 16384, .inl moT_r))] H := hP
    replace hD : va_D A [(a_mo, oX8 a_moR mo_e mo_f mo_codes mo_most mo_minus mo_low mo_function mo_atX mo_atM a_moK a_moH a_moS mo_spanFunction mo_spanRounding mo_spanMany a_moF a_moT mo_parts mo_shift a_moP a_moQ a_moA a_moB a_moD), (a_moR, .inl (cI, 7, .inl u17)), (a_moF, .inl (cI, 16384, .inl moF_r)), (a_moT, .inl (cI, 16384, .inl moT_r))] := hD
    subst hQ; exact W.iret (v := r17) hx hb hr (fun t ht hW => ⟨⟨r17, (mo_function, mo_atX, mo_atM, mo_spanFunction, mo_spanRounding, mo_spanMany, u17, moF_r, moT_r), rfl, ho, by rw [ht]; exact hP, hD⟩, hS.F ht⟩) (fun q hq => hS.2.2 q hq) dX8_span_20
  unfold wp_X8_span at ho
  refine lv_iload_n hx hb dX8_span_0 rfl (lv_at hl 1 rfl) ?_
  refine ca_Si (As := [.int p1]) (rest := []) ⟨hx, hb, hml, hown, hts⟩ (c_X8_isFunction l D cI cJ cZ   p1 _ ho) (va_cwS 1 hts gX8_span_X8_isFunction rfl rfl rfl (by decide +kernel) ⟨hRf _ (Nat.le_of_ble_eq_true rfl), hRl _ (Nat.le_of_ble_eq_true rfl)⟩) hK hN hP [] rfl rfl hl.1 rfl (Nat.le_of_ble_eq_true rfl) dX8_span_1 ⟨Nat.zero_le _, Nat.zero_le _⟩ (fun r1 ho => ?_)
  refine lv_if_eq (tgt := 15) hx hb dX8_span_4 (by decide) (fun c_4 => ?_) (fun c_4 => ?_)
  · replace ho := ho.1 c_4
    exact C_15 mo_function mo_atX mo_atM mo_spanFunction mo_spanRounding mo_spanMany moR_r moF_r moT_r H locs ls ho hP hD hS (lv_sub hl [0] rfl)
  · replace ho := ho.2 c_4
    refine lv_iload_n hx hb dX8_span_7 rfl (lv_at hl 2 rfl) ?_
    refine lv_iconst (v := 5) hx hb dX8_span_8 (by decide) ?_
    refine ca_Si (As := [.int p2, .int (5 : Int32)]) (rest := []) ⟨hx, hb, hml, hown, hts⟩ (c_X8_isIn l D cI cJ cZ   p2 (5 : Int32) _ ho) (va_cwS 2 hts gX8_span_X8_isIn rfl rfl rfl (by decide +kernel) ⟨hRf _ (Nat.le_of_ble_eq_true rfl), hRl _ (Nat.le_of_ble_eq_true rfl)⟩) hK hN hP [] rfl rfl hl.1 rfl (Nat.le_of_ble_eq_true rfl) dX8_span_9 ⟨Nat.zero_le _, Nat.zero_le _⟩ (fun r9 ho => ?_)
    refine lv_if_ne (tgt := 21) hx hb dX8_span_12 (by decide) (fun c_12 => ?_) (fun c_12 => ?_)
    · replace ho := ho.1 c_12
      refine lv_aload_n hx hb dX8_span_21 rfl (lv_at hl 0 rfl) ?_
      refine lv_iload_n hx hb dX8_span_22 rfl (lv_at hl 1 rfl) ?_
      refine lv_iload_n hx hb dX8_span_23 rfl (lv_at hl 2 rfl) ?_
      refine ca_Wv (b := a_mo) (As := [.int p1, .int p2]) (rest := []) (wr := [(a_moR, .inl (cI, 7, .inl moR_r))]) (wo := fun u => [(a_mo, oX8 a_moR mo_e mo_f mo_codes mo_most mo_minus mo_low u.1 u.2.1 u.2.2.1 a_moK a_moH a_moS u.2.2.2.1 u.2.2.2.2.1 u.2.2.2.2.2.1 a_moF a_moT mo_parts mo_shift a_moP a_moQ a_moA a_moB a_moD), (a_moF, .inl (cI, 16384, .inl u.2.2.2.2.2.2.1)), (a_moT, .inl (cI, 16384, .inl u.2.2.2.2.2.2.2))]) (wn := fun u => [(a_mo, oX8 a_moR mo_e mo_f mo_codes mo_most mo_minus mo_low u.1 u.2.1 u.2.2.1 a_moK a_moH a_moS u.2.2.2.1 u.2.2.2.2.1 u.2.2.2.2.2.1 a_moF a_moT mo_parts mo_shift a_moP a_moQ a_moA a_moB a_moD), (a_moR, .inl (cI, 7, .inl moR_r)), (a_moF, .inl (cI, 16384, .inl u.2.2.2.2.2.2.1)), (a_moT, .inl (cI, 16384, .inl u.2.2.2.2.2.2.2))]) ⟨hx, hb, hml, hown, hts⟩ (c_X8_findSpans l D cI cJ cZ a_mo a_moR a_moK a_moH a_moS a_moF a_moT a_moP a_moQ a_moA a_moB a_moD H.size mo_e mo_f mo_codes mo_most mo_minus mo_low mo_function mo_atX mo_atM mo_spanFunction mo_spanRounding mo_spanMany mo_parts mo_shift moF_r moT_r p1 p2 _ _ rfl ho) (cwV 2 hts gX8_span_X8_findSpans rfl rfl rfl (by decide +kernel) ⟨hRf _ (Nat.le_of_ble_eq_true rfl), hRl _ (Nat.le_of_ble_eq_true rfl)⟩) hK hN hP hD hS hA [0, 2, 3] [1] [1, 0, 2, 3] rfl rfl (by decide) (by decide) (by decide) (by decide) (fun _ => rfl) 0 7 rfl rfl rfl rfl hl.1 rfl (Nat.le_of_ble_eq_true rfl) dX8_span_24 ⟨Nat.zero_le _, Nat.zero_le _⟩ (fun  u24 H locs ho hP hD hS => ?_)
      obtain ⟨u24_1, u24_2, u24_3, u24_4, u24_5, u24_6, u24_7, u24_8⟩ := u24
      try dsimp only at ho
      replace hP : va_P D vwCl [(a_mo, oX8 a_moR mo_e mo_f mo_codes mo_most mo_minus mo_low u24_1 u24_2 u24_3 a_moK a_moH a_moS u24_4 u24_5 u24_6 a_moF a_moT mo_parts mo_shift a_moP a_moQ a_moA a_moB a_moD), (a_moR, .inl (cI, 7, .inl moR_r)), (a_moF, .inl (cI, 16384, .inl u24_7)), (a_moT, .inl (cI, 16384, .inl u24_8))] H := hP
      replace hD : va_D A [(a_mo, oX8 a_moR mo_e mo_f mo_codes mo_most mo_minus mo_low u24_1 u24_2 u24_3 a_moK a_moH a_moS u24_4 u24_5 u24_6 a_moF a_moT mo_parts mo_shift a_moP a_moQ a_moA a_moB a_moD), (a_moR, .inl (cI, 7, .inl moR_r)), (a_moF, .inl (cI, 16384, .inl u24_7)), (a_moT, .inl (cI, 16384, .inl u24_8))] := hD
      refine lv_iload_n hx hb dX8_span_27 rfl (lv_at hl 3 rfl) ?_
      refine lv_aload_n hx hb dX8_span_28 rfl (lv_at hl 0 rfl) ?_
      refine va_get (D := D) (ci := 7) (v := .int u24_6) (C := RX8) (T := TX8) (N := 25) hx hb hts in_X8_span_X8 hown hK hP 0 rfl rfl 15 (by decide) (hts (.fieldLink RX8 187 "HardBenchModel" "spanMany" "I") (List.mem_of_getElem? (i := 1) (by decide +kernel))) (fun _ h9 => h9) rfl dX8_span_29 ?_
      refine ca_Si (As := [.int p3, .int u24_6]) (rest := []) ⟨hx, hb, hml, hown, hts⟩ (c_X8_isIn l D cI cJ cZ   p3 u24_6 _ ho) (va_cwS 2 hts gX8_span_X8_isIn rfl rfl rfl (by decide +kernel) ⟨hRf _ (Nat.le_of_ble_eq_true rfl), hRl _ (Nat.le_of_ble_eq_true rfl)⟩) hK hN hP [] rfl rfl hl.1 rfl (Nat.le_of_ble_eq_true rfl) dX8_span_32 ⟨Nat.zero_le _, Nat.zero_le _⟩ (fun r32 ho => ?_)
      refine lv_if_ne (tgt := 44) hx hb dX8_span_35 (by decide) (fun c_35 => ?_) (fun c_35 => ?_)
      · replace ho := ho.1 c_35
        refine lv_iload hx hb dX8_span_44 (lv_at hl 4 rfl) ?_
        refine lv_topi (fun z_46 ez_46 => ?_)
        rw [← ez_46] at ho
        by_cases n_46_0 : z_46 = 0
        · replace ho := ho.1 n_46_0
          subst n_46_0
          refine lv_tableIn (tgt := 72) hx hb dX8_span_46 (by decide) (by decide) rfl (by decide) ?_
          refine lv_aload_n hx hb dX8_span_72 rfl (lv_at hl 0 rfl) ?_
          refine va_get (D := D) (ci := 7) (v := .ref a_moF) (C := RX8) (T := TX8) (N := 25) hx hb hts in_X8_span_X8 hown hK hP 0 rfl rfl 16 (by decide) (hts (.fieldLink RX8 24 "HardBenchModel" "spanFrom" "[I") (List.mem_of_getElem? (i := 2) (by decide +kernel))) (fun _ h9 => h9) rfl dX8_span_73 ?_
          refine lv_iload_n hx hb dX8_span_76 rfl (lv_at hl 3 rfl) ?_
          have o_77 := ho.1
          replace ho := ho.2
          refine va_iald hx hb hK hP 2 0 rfl rfl o_77 dX8_span_77 ?_
          subst hQ; exact W.iret (v := (u24_7 p3.toNatClampNeg)) hx hb hr (fun t ht hW => ⟨⟨(u24_7 p3.toNatClampNeg), (u24_1, u24_2, u24_3, u24_4, u24_5, u24_6, moR_r, u24_7, u24_8), rfl, ho, by rw [ht]; exact hP, hD⟩, hS.F ht⟩) (fun q hq => hS.2.2 q hq) dX8_span_78
        replace ho := ho.2 n_46_0
        by_cases n_46_1 : z_46 = 1
        · replace ho := ho.1 n_46_1
          subst n_46_1
          refine lv_tableIn (tgt := 79) hx hb dX8_span_46 (by decide) (by decide) rfl (by decide) ?_
          refine lv_aload_n hx hb dX8_span_79 rfl (lv_at hl 0 rfl) ?_
          refine va_get (D := D) (ci := 7) (v := .ref a_moT) (C := RX8) (T := TX8) (N := 25) hx hb hts in_X8_span_X8 hown hK hP 0 rfl rfl 17 (by decide) (hts (.fieldLink RX8 27 "HardBenchModel" "spanTo" "[I") (List.mem_of_getElem? (i := 3) (by decide +kernel))) (fun _ h9 => h9) rfl dX8_span_80 ?_
          refine lv_iload_n hx hb dX8_span_83 rfl (lv_at hl 3 rfl) ?_
          have o_84 := ho.1
          replace ho := ho.2
          refine va_iald hx hb hK hP 3 0 rfl rfl o_84 dX8_span_84 ?_
          subst hQ; exact W.iret (v := (u24_8 p3.toNatClampNeg)) hx hb hr (fun t ht hW => ⟨⟨(u24_8 p3.toNatClampNeg), (u24_1, u24_2, u24_3, u24_4, u24_5, u24_6, moR_r, u24_7, u24_8), rfl, ho, by rw [ht]; exact hP, hD⟩, hS.F ht⟩) (fun q hq => hS.2.2 q hq) dX8_span_85
        replace ho := ho.2 n_46_1
        by_cases n_46_2 : z_46 = 2
        · replace ho := ho.1 n_46_2
          subst n_46_2
          refine lv_tableIn (tgt := 86) hx hb dX8_span_46 (by decide) (by decide) rfl (by decide) ?_
          refine lv_aload_n hx hb dX8_span_86 rfl (lv_at hl 0 rfl) ?_
          refine lv_iload_n hx hb dX8_span_87 rfl (lv_at hl 1 rfl) ?_
          refine lv_aload_n hx hb dX8_span_88 rfl (lv_at hl 0 rfl) ?_
          refine va_get (D := D) (ci := 7) (v := .ref a_moF) (C := RX8) (T := TX8) (N := 25) hx hb hts in_X8_span_X8 hown hK hP 0 rfl rfl 16 (by decide) (hts (.fieldLink RX8 24 "HardBenchModel" "spanFrom" "[I") (List.mem_of_getElem? (i := 2) (by decide +kernel))) (fun _ h9 => h9) rfl dX8_span_89 ?_
          refine lv_iload_n hx hb dX8_span_92 rfl (lv_at hl 3 rfl) ?_
          have o_93 := ho.1
          replace ho := ho.2
          refine va_iald hx hb hK hP 2 0 rfl rfl o_93 dX8_span_93 ?_
          refine lv_iload_n hx hb dX8_span_94 rfl (lv_at hl 2 rfl) ?_
          refine ca_Wi (b := a_mo) (As := [.int p1, .int (u24_7 p3.toNatClampNeg), .int p2]) (rest := []) (wr := [(a_moR, .inl (cI, 7, .inl moR_r)), (a_moF, .inl (cI, 16384, .inl u24_7)), (a_moT, .inl (cI, 16384, .inl u24_8))]) (wo := fun u => [(a_mo, oX8 a_moR mo_e mo_f mo_codes mo_most mo_minus mo_low u.1 u.2.1 u.2.2 a_moK a_moH a_moS u24_4 u24_5 u24_6 a_moF a_moT mo_parts mo_shift a_moP a_moQ a_moA a_moB a_moD)]) (wn := fun u => [(a_mo, oX8 a_moR mo_e mo_f mo_codes mo_most mo_minus mo_low u.1 u.2.1 u.2.2 a_moK a_moH a_moS u24_4 u24_5 u24_6 a_moF a_moT mo_parts mo_shift a_moP a_moQ a_moA a_moB a_moD), (a_moR, .inl (cI, 7, .inl moR_r)), (a_moF, .inl (cI, 16384, .inl u24_7)), (a_moT, .inl (cI, 16384, .inl u24_8))]) ⟨hx, hb, hml, hown, hts⟩ (c_X8_rightOf l D cI cJ cZ a_mo a_moR a_moK a_moH a_moS a_moF a_moT a_moP a_moQ a_moA a_moB a_moD H.size mo_e mo_f mo_codes mo_most mo_minus mo_low u24_1 u24_2 u24_3 u24_4 u24_5 u24_6 mo_parts mo_shift p1 (u24_7 p3.toNatClampNeg) p2 _ _ rfl ho) (cwV 3 hts gX8_span_X8_rightOf rfl rfl rfl (by decide +kernel) ⟨hRf _ (Nat.le_of_ble_eq_true rfl), hRl _ (Nat.le_of_ble_eq_true rfl)⟩) hK hN hP hD hS hA [0] [1, 2, 3] [3, 0, 1, 2] rfl rfl (by decide) (by decide) (by decide) (by decide) (fun _ => rfl) 0 7 rfl rfl rfl rfl hl.1 rfl (Nat.le_of_ble_eq_true rfl) dX8_span_95 ⟨Nat.zero_le _, Nat.zero_le _⟩ (fun r95 u95 H locs ho hP hD hS => ?_)
          obtain ⟨u95_1, u95_2, u95_3⟩ := u95
          try dsimp only at ho
          replace hP : va_P D vwCl [(a_mo, oX8 a_moR mo_e mo_f mo_codes mo_most mo_minus mo_low u95_1 u95_2 u95_3 a_moK a_moH a_moS u24_4 u24_5 u24_6 a_moF a_moT mo_parts mo_shift a_moP a_moQ a_moA a_moB a_moD), (a_moR, .inl (cI, 7, .inl moR_r)), (a_moF, .inl (cI, 16384, .inl u24_7)), (a_moT, .inl (cI, 16384, .inl u24_8))] H := hP
          replace hD : va_D A [(a_mo, oX8 a_moR mo_e mo_f mo_codes mo_most mo_minus mo_low u95_1 u95_2 u95_3 a_moK a_moH a_moS u24_4 u24_5 u24_6 a_moF a_moT mo_parts mo_shift a_moP a_moQ a_moA a_moB a_moD), (a_moR, .inl (cI, 7, .inl moR_r)), (a_moF, .inl (cI, 16384, .inl u24_7)), (a_moT, .inl (cI, 16384, .inl u24_8))] := hD
          subst hQ; exact W.iret (v := r95) hx hb hr (fun t ht hW => ⟨⟨r95, (u95_1, u95_2, u95_3, u24_4, u24_5, u24_6, moR_r, u24_7, u24_8), rfl, ho, by rw [ht]; exact hP, hD⟩, hS.F ht⟩) (fun q hq => hS.2.2 q hq) dX8_span_98
        replace ho := ho.2 n_46_2
        refine lv_tableOut (tgt := 99) hx hb dX8_span_46 (by have q_46_0 := lv_neT (a := 0) n_46_0 rfl; have q_46_1 := lv_neT (a := 1) n_46_1 rfl; have q_46_2 := lv_neT (a := 2) n_46_2 rfl; omega) (by decide) ?_
        refine lv_aload_n hx hb dX8_span_99 rfl (lv_at hl 0 rfl) ?_
        refine lv_bipush (v := (-2)) hx hb dX8_span_100 (by decide) ?_
        refine ca_Wi (b := a_mo) (As := [.int (-2 : Int32)]) (rest := []) (wr := [(a_moF, .inl (cI, 16384, .inl u24_7)), (a_moT, .inl (cI, 16384, .inl u24_8))]) (wo := fun u => [(a_mo, oX8 a_moR mo_e mo_f mo_codes mo_most mo_minus mo_low u24_1 u24_2 u24_3 a_moK a_moH a_moS u24_4 u24_5 u24_6 a_moF a_moT mo_parts mo_shift a_moP a_moQ a_moA a_moB a_moD), (a_moR, .inl (cI, 7, .inl u))]) (wn := fun u => [(a_mo, oX8 a_moR mo_e mo_f mo_codes mo_most mo_minus mo_low u24_1 u24_2 u24_3 a_moK a_moH a_moS u24_4 u24_5 u24_6 a_moF a_moT mo_parts mo_shift a_moP a_moQ a_moA a_moB a_moD), (a_moR, .inl (cI, 7, .inl u)), (a_moF, .inl (cI, 16384, .inl u24_7)), (a_moT, .inl (cI, 16384, .inl u24_8))]) ⟨hx, hb, hml, hown, hts⟩ (c_X8_refuse l D cI cJ cZ a_mo a_moR a_moK a_moH a_moS a_moF a_moT a_moP a_moQ a_moA a_moB a_moD H.size mo_e mo_f mo_codes mo_most mo_minus mo_low u24_1 u24_2 u24_3 u24_4 u24_5 u24_6 mo_parts mo_shift moR_r (-2 : Int32) _ _ rfl ho) (cwV 1 hts gX8_span_X8_refuse rfl rfl rfl (by decide +kernel) ⟨hRf _ (Nat.le_of_ble_eq_true rfl), hRl _ (Nat.le_of_ble_eq_true rfl)⟩) hK hN hP hD hS hA [0, 1] [2, 3] [2, 3, 0, 1] rfl rfl (by decide) (by decide) (by decide) (by decide) (fun _ => rfl) 0 7 rfl rfl rfl rfl hl.1 rfl (Nat.le_of_ble_eq_true rfl) dX8_span_102 ⟨Nat.zero_le _, Nat.zero_le _⟩ (fun r102 u102 H locs ho hP hD hS => ?_)
        try dsimp only at ho
        replace hP : va_P D vwCl [(a_mo, oX8 a_moR mo_e mo_f mo_codes mo_most mo_minus mo_low u24_1 u24_2 u24_3 a_moK a_moH a_moS u24_4 u24_5 u24_6 a_moF a_moT mo_parts mo_shift a_moP a_moQ a_moA a_moB a_moD), (a_moR, .inl (cI, 7, .inl u102)), (a_moF, .inl (cI, 16384, .inl u24_7)), (a_moT, .inl (cI, 16384, .inl u24_8))] H := hP
        replace hD : va_D A [(a_mo, oX8 a_moR mo_e mo_f mo_codes mo_most mo_minus mo_low u24_1 u24_2 u24_3 a_moK a_moH a_moS u24_4 u24_5 u24_6 a_moF a_moT mo_parts mo_shift a_moP a_moQ a_moA a_moB a_moD), (a_moR, .inl (cI, 7, .inl u102)), (a_moF, .inl (cI, 16384, .inl u24_7)), (a_moT, .inl (cI, 16384, .inl u24_8))] := hD
        subst hQ; exact W.iret (v := r102) hx hb hr (fun t ht hW => ⟨⟨r102, (u24_1, u24_2, u24_3, u24_4, u24_5, u24_6, u102, u24_7, u24_8), rfl, ho, by rw [ht]; exact hP, hD⟩, hS.F ht⟩) (fun q hq => hS.2.2 q hq) dX8_span_105
      · replace ho := ho.2 c_35
        refine lv_aload_n hx hb dX8_span_38 rfl (lv_at hl 0 rfl) ?_
        refine lv_iconst (v := (-1)) hx hb dX8_span_39 (by decide) ?_
        refine ca_Wi (b := a_mo) (As := [.int (-1 : Int32)]) (rest := []) (wr := [(a_moF, .inl (cI, 16384, .inl u24_7)), (a_moT, .inl (cI, 16384, .inl u24_8))]) (wo := fun u => [(a_mo, oX8 a_moR mo_e mo_f mo_codes mo_most mo_minus mo_low u24_1 u24_2 u24_3 a_moK a_moH a_moS u24_4 u24_5 u24_6 a_moF a_moT mo_parts mo_shift a_moP a_moQ a_moA a_moB a_moD), (a_moR, .inl (cI, 7, .inl u))]) (wn := fun u => [(a_mo, oX8 a_moR mo_e mo_f mo_codes mo_most mo_minus mo_low u24_1 u24_2 u24_3 a_moK a_moH a_moS u24_4 u24_5 u24_6 a_moF a_moT mo_parts mo_shift a_moP a_moQ a_moA a_moB a_moD), (a_moR, .inl (cI, 7, .inl u)), (a_moF, .inl (cI, 16384, .inl u24_7)), (a_moT, .inl (cI, 16384, .inl u24_8))]) ⟨hx, hb, hml, hown, hts⟩ (c_X8_refuse l D cI cJ cZ a_mo a_moR a_moK a_moH a_moS a_moF a_moT a_moP a_moQ a_moA a_moB a_moD H.size mo_e mo_f mo_codes mo_most mo_minus mo_low u24_1 u24_2 u24_3 u24_4 u24_5 u24_6 mo_parts mo_shift moR_r (-1 : Int32) _ _ rfl ho) (cwV 1 hts gX8_span_X8_refuse rfl rfl rfl (by decide +kernel) ⟨hRf _ (Nat.le_of_ble_eq_true rfl), hRl _ (Nat.le_of_ble_eq_true rfl)⟩) hK hN hP hD hS hA [0, 1] [2, 3] [2, 3, 0, 1] rfl rfl (by decide) (by decide) (by decide) (by decide) (fun _ => rfl) 0 7 rfl rfl rfl rfl hl.1 rfl (Nat.le_of_ble_eq_true rfl) dX8_span_40 ⟨Nat.zero_le _, Nat.zero_le _⟩ (fun r40 u40 H locs ho hP hD hS => ?_)
        try dsimp only at ho
        replace hP : va_P D vwCl [(a_mo, oX8 a_moR mo_e mo_f mo_codes mo_most mo_minus mo_low u24_1 u24_2 u24_3 a_moK a_moH a_moS u24_4 u24_5 u24_6 a_moF a_moT mo_parts mo_shift a_moP a_moQ a_moA a_moB a_moD), (a_moR, .inl (cI, 7, .inl u40)), (a_moF, .inl (cI, 16384, .inl u24_7)), (a_moT, .inl (cI, 16384, .inl u24_8))] H := hP
        replace hD : va_D A [(a_mo, oX8 a_moR mo_e mo_f mo_codes mo_most mo_minus mo_low u24_1 u24_2 u24_3 a_moK a_moH a_moS u24_4 u24_5 u24_6 a_moF a_moT mo_parts mo_shift a_moP a_moQ a_moA a_moB a_moD), (a_moR, .inl (cI, 7, .inl u40)), (a_moF, .inl (cI, 16384, .inl u24_7)), (a_moT, .inl (cI, 16384, .inl u24_8))] := hD
        subst hQ; exact W.iret (v := r40) hx hb hr (fun t ht hW => ⟨⟨r40, (u24_1, u24_2, u24_3, u24_4, u24_5, u24_6, u40, u24_7, u24_8), rfl, ho, by rw [ht]; exact hP, hD⟩, hS.F ht⟩) (fun q hq => hS.2.2 q hq) dX8_span_43
    · replace ho := ho.2 c_12
      exact C_15 mo_function mo_atX mo_atM mo_spanFunction mo_spanRounding mo_spanMany moR_r moF_r moT_r H locs ls ho hP hD hS (lv_sub hl [0] rfl)

def wp_X8_isPower (post : Int32 → Prop) (mo_e : Int32) (p1 : Int32) : Prop := ((p1 ≤ 0) → (post (0 : Int32))) ∧ ((¬ (p1 ≤ 0)) → ((((((1 : Int32) <<< (mo_e &&& 31)) - (1 : Int32)) ≤ p1) → (post (0 : Int32))) ∧ ((¬ ((((1 : Int32) <<< (mo_e &&& 31)) - (1 : Int32)) ≤ p1)) → (post (1 : Int32)))))
set_option maxRecDepth 20000 in
theorem in_X8_isPower_X8 : ∀ w ∈ u_ws RX8 TX8 25, w ∈ wsX8_isPower := fun w h => (goodIn_r wsX80 [2, 3, 4, 5, 6, 7, 8, 9, 10, 11, 12, 13, 14, 15, 16, 17, 18, 19, 20, 21, 22, 23, 24, 25, 26] (by decide +kernel) (by decide +kernel) w h).1
set_option maxHeartbeats 4000000 in
set_option maxRecDepth 100000 in
theorem c_X8_isPower (l : Launch) (D : va_G) (cI cJ cZ : ClassId) (a_mo : Nat) (a_moR : Nat) (a_moK : Nat) (a_moH : Nat) (a_moS : Nat) (a_moF : Nat) (a_moT : Nat) (a_moP : Nat) (a_moQ : Nat) (a_moA : Nat) (a_moB : Nat) (a_moD : Nat) (mo_e : Int32) (mo_f : Int32) (mo_codes : Int32) (mo_most : Int32) (mo_minus : Int32) (mo_low : Int32) (mo_function : Int32) (mo_atX : Int32) (mo_atM : Int64) (mo_spanFunction : Int32) (mo_spanRounding : Int32) (mo_spanMany : Int32) (mo_parts : Int32) (mo_shift : Int32) (p1 : Int32) (post : Int32 → Prop) (ho : wp_X8_isPower post mo_e p1) : Met l yX8_isPower wsX8_isPower ({ frames := 0, cells := 0, slots := 0, locals := 0 } : Room) (ro_P D [(cI, .int), (cJ, .long), (cZ, .boolean)] [.ref a_mo, .int p1] [(a_mo, oX8 a_moR mo_e mo_f mo_codes mo_most mo_minus mo_low mo_function mo_atX mo_atM a_moK a_moH a_moS mo_spanFunction mo_spanRounding mo_spanMany a_moF a_moT mo_parts mo_shift a_moP a_moQ a_moA a_moB a_moD)]) (vp_Si post) 0 0 (fun _ => False) := by
  refine Met.ofW (cc := cX8_isPower) (maxL := 2) (ret := (some .boolean)) (by decide) rfl ?_
  intro p e s m args below meth c s₁ B hml hv
  obtain ⟨hargs, hP, hK, hN⟩ := hv
  have hx := B.exec
  have hb := B.bytes
  have hr := B.returns
  have hts := atoms_spec (ws := wsX8_isPower) B.pre
  have hown : s.vm.findClass RX8 = some m.cls := findClass_of_methodNamed B.named
  have hlocks := B.notSynchronized
  have hl := lv_entry ([.ref a_mo, .int p1]) (n := 2) (Nat.le_of_ble_eq_true rfl)
  rw [hargs, lg_entry_eq, ← hargs]
  generalize (lg_sl ([.ref a_mo, .int p1]) ++ List.replicate (2 - (lg_sl ([.ref a_mo, .int p1])).length) Slot.unset).toArray = ls at hl ⊢
  replace hl : lv_has ls 2 [(0, .ref a_mo), (1, .int p1)] := hl
  have hRf : ∀ n, n ≤ 0 → n ≤ (headSpec wsX8_isPower ({ frames := 0, cells := 0, slots := 0, locals := 0 } : Room)).room.frames := fun n h => h
  have hRl : ∀ n, n ≤ 0 → n ≤ (headSpec wsX8_isPower ({ frames := 0, cells := 0, slots := 0, locals := 0 } : Room)).room.locals := fun n h => h
  generalize (headSpec wsX8_isPower ({ frames := 0, cells := 0, slots := 0, locals := 0 } : Room)).room = R at hRf hRl ⊢
  generalize hQ : MQ below _ args s 0 0 _ = Q
  unfold wp_X8_isPower at ho
  refine lv_iload_n hx hb dX8_isPower_0 rfl (lv_at hl 1 rfl) ?_
  refine lv_if_le (tgt := 20) hx hb dX8_isPower_1 (by decide) (fun c_1 => ?_) (fun c_1 => ?_)
  · replace ho := ho.1 c_1
    refine lv_iconst (v := 0) hx hb dX8_isPower_20 (by decide) ?_
    subst hQ; exact W.zret (v := (0 : Int32)) hx hb hr rfl (fun t ht _ => ⟨(0 : Int32), rfl, ho, ht⟩) (fun _ h => by cases h) dX8_isPower_21
  · replace ho := ho.2 c_1
    refine lv_iload_n hx hb dX8_isPower_4 rfl (lv_at hl 1 rfl) ?_
    refine lv_iconst (v := 1) hx hb dX8_isPower_5 (by decide) ?_
    refine lv_aload_n hx hb dX8_isPower_6 rfl (lv_at hl 0 rfl) ?_
    refine va_get (D := D) (ci := 7) (v := .int mo_e) (C := RX8) (T := TX8) (N := 25) hx hb hts in_X8_isPower_X8 hown hK hP 0 rfl rfl 1 (by decide) (hts (.fieldLink RX8 55 "HardBenchModel" "e" "I") (List.mem_of_getElem? (i := 1) (by decide +kernel))) (fun _ h9 => h9) rfl dX8_isPower_7 ?_
    refine lv_ishl hx hb dX8_isPower_10 ?_
    refine lv_iconst (v := 1) hx hb dX8_isPower_11 (by decide) ?_
    refine lv_isub hx hb dX8_isPower_12 ?_
    refine lv_icmp_ge (tgt := 20) hx hb dX8_isPower_13 (by decide) (fun c_13 => ?_) (fun c_13 => ?_)
    · replace ho := ho.1 c_13
      refine lv_iconst (v := 0) hx hb dX8_isPower_20 (by decide) ?_
      subst hQ; exact W.zret (v := (0 : Int32)) hx hb hr rfl (fun t ht _ => ⟨(0 : Int32), rfl, ho, ht⟩) (fun _ h => by cases h) dX8_isPower_21
    · replace ho := ho.2 c_13
      refine lv_iconst (v := 1) hx hb dX8_isPower_16 (by decide) ?_
      refine lv_goto (tgt := 21) hx hb dX8_isPower_17 (by decide) ?_
      subst hQ; exact W.zret (v := (1 : Int32)) hx hb hr rfl (fun t ht _ => ⟨(1 : Int32), rfl, ho, ht⟩) (fun _ h => by cases h) dX8_isPower_21

def wp_X8_lays (post : (Nat → Int32) → (Nat → Int32) → (Nat → Int64) → (Nat → Int64) → Prop) (mo_parts : Int32) (moP_r : Nat → Int32) (moQ_r : Nat → Int32) (moA_r : Nat → Int64) (moB_r : Nat → Int64) (p1 : Int32) (p2 : Int32) (p3 : Int64) (p4 : Int64) : Prop := (vp_in mo_parts 256) ∧ ((vp_in mo_parts 256) ∧ ((vp_in mo_parts 256) ∧ ((vp_in mo_parts 256) ∧ (post  (upd moP_r mo_parts.toNatClampNeg p1) (upd moQ_r mo_parts.toNatClampNeg p2) (vp_updL moA_r mo_parts.toNatClampNeg p3) (vp_updL moB_r mo_parts.toNatClampNeg p4)))))
set_option maxRecDepth 20000 in
theorem in_X8_lays_X8 : ∀ w ∈ u_ws RX8 TX8 25, w ∈ wsX8_lays := fun w h => (goodIn_r wsX80 [6, 7, 8, 9, 10, 11, 12, 13, 14, 15, 16, 17, 18, 19, 20, 21, 22, 23, 24, 25, 26, 27, 28, 29, 30] (by decide +kernel) (by decide +kernel) w h).1
set_option maxHeartbeats 4000000 in
set_option maxRecDepth 100000 in
theorem c_X8_lays (l : Launch) (D : va_G) (cI cJ cZ : ClassId) (a_mo : Nat) (a_moR : Nat) (a_moK : Nat) (a_moH : Nat) (a_moS : Nat) (a_moF : Nat) (a_moT : Nat) (a_moP : Nat) (a_moQ : Nat) (a_moA : Nat) (a_moB : Nat) (a_moD : Nat) (sz : Nat) (mo_e : Int32) (mo_f : Int32) (mo_codes : Int32) (mo_most : Int32) (mo_minus : Int32) (mo_low : Int32) (mo_function : Int32) (mo_atX : Int32) (mo_atM : Int64) (mo_spanFunction : Int32) (mo_spanRounding : Int32) (mo_spanMany : Int32) (mo_parts : Int32) (mo_shift : Int32) (moP_r : Nat → Int32) (moQ_r : Nat → Int32) (moA_r : Nat → Int64) (moB_r : Nat → Int64) (p1 : Int32) (p2 : Int32) (p3 : Int64) (p4 : Int64) (post : (Nat → Int32) → (Nat → Int32) → (Nat → Int64) → (Nat → Int64) → Prop) (A : Nat → Prop) (hAe : A = va_A [(a_mo, oX8 a_moR mo_e mo_f mo_codes mo_most mo_minus mo_low mo_function mo_atX mo_atM a_moK a_moH a_moS mo_spanFunction mo_spanRounding mo_spanMany a_moF a_moT mo_parts mo_shift a_moP a_moQ a_moA a_moB a_moD), (a_moP, .inl (cI, 256, .inl moP_r)), (a_moQ, .inl (cI, 256, .inl moQ_r)), (a_moA, .inl (cJ, 256, .inr (.inl moA_r))), (a_moB, .inl (cJ, 256, .inr (.inl moB_r)))] sz) (ho : wp_X8_lays post mo_parts moP_r moQ_r moA_r moB_r p1 p2 p3 p4) : Met l yX8_lays wsX8_lays ({ frames := 0, cells := 0, slots := 0, locals := 0 } : Room) (rw_P D [(cI, .int), (cJ, .long), (cZ, .boolean)] [.ref a_mo, .int p1, .int p2, .long p3, .long p4] sz [(a_mo, oX8 a_moR mo_e mo_f mo_codes mo_most mo_minus mo_low mo_function mo_atX mo_atM a_moK a_moH a_moS mo_spanFunction mo_spanRounding mo_spanMany a_moF a_moT mo_parts mo_shift a_moP a_moQ a_moA a_moB a_moD), (a_moP, .inl (cI, 256, .inl moP_r)), (a_moQ, .inl (cI, 256, .inl moQ_r)), (a_moA, .inl (cJ, 256, .inr (.inl moA_r))), (a_moB, .inl (cJ, 256, .inr (.inl moB_r)))]) (va_Qv (fun (u : (Nat → Int32) × (Nat → Int32) × (Nat → Int64) × (Nat → Int64)) => post u.1 u.2.1 u.2.2.1 u.2.2.2) (rw_B D A (fun (u : (Nat → Int32) × (Nat → Int32) × (Nat → Int64) × (Nat → Int64)) => [(a_mo, oX8 a_moR mo_e mo_f mo_codes mo_most mo_minus mo_low mo_function mo_atX mo_atM a_moK a_moH a_moS mo_spanFunction mo_spanRounding mo_spanMany a_moF a_moT mo_parts mo_shift a_moP a_moQ a_moA a_moB a_moD), (a_moP, .inl (cI, 256, .inl u.1)), (a_moQ, .inl (cI, 256, .inl u.2.1)), (a_moA, .inl (cJ, 256, .inr (.inl u.2.2.1))), (a_moB, .inl (cJ, 256, .inr (.inl u.2.2.2)))])) A) 0 0 A := by
  refine Met.ofW (cc := cX8_lays) (maxL := 7) (ret := none) (by decide) rfl ?_
  intro p e s m args below meth c s₁ B hml hv
  obtain ⟨hargs, hsz, hP, hK, hN, hD0⟩ := hv
  have hx := B.exec
  have hb := B.bytes
  have hr := B.returns
  have hts := atoms_spec (ws := wsX8_lays) B.pre
  have hown : s.vm.findClass RX8 = some m.cls := findClass_of_methodNamed B.named
  have hlocks := B.notSynchronized
  subst hsz
  have hD : va_D A [(a_mo, oX8 a_moR mo_e mo_f mo_codes mo_most mo_minus mo_low mo_function mo_atX mo_atM a_moK a_moH a_moS mo_spanFunction mo_spanRounding mo_spanMany a_moF a_moT mo_parts mo_shift a_moP a_moQ a_moA a_moB a_moD), (a_moP, .inl (cI, 256, .inl moP_r)), (a_moQ, .inl (cI, 256, .inl moQ_r)), (a_moA, .inl (cJ, 256, .inr (.inl moA_r))), (a_moB, .inl (cJ, 256, .inr (.inl moB_r)))] := by rw [hAe]; exact hD0.self
  have hA : ∀ q : Nat, s.heap.size ≤ q → A q := fun q h => by rw [hAe]; exact Or.inr h
  have hS : va_S A s.heap s.heap [] := va_S.rf
  have hl := lv_entry ([.ref a_mo, .int p1, .int p2, .long p3, .long p4]) (n := 7) (Nat.le_of_ble_eq_true rfl)
  rw [hargs, lg_entry_eq, ← hargs]
  generalize (lg_sl ([.ref a_mo, .int p1, .int p2, .long p3, .long p4]) ++ List.replicate (7 - (lg_sl ([.ref a_mo, .int p1, .int p2, .long p3, .long p4])).length) Slot.unset).toArray = ls at hl ⊢
  replace hl : lv_has ls 7 [(0, .ref a_mo), (1, .int p1), (2, .int p2), (3, .long p3), (5, .long p4)] := hl
  have hRf : ∀ n, n ≤ 0 → n ≤ (headSpec wsX8_lays ({ frames := 0, cells := 0, slots := 0, locals := 0 } : Room)).room.frames := fun n h => h
  have hRl : ∀ n, n ≤ 0 → n ≤ (headSpec wsX8_lays ({ frames := 0, cells := 0, slots := 0, locals := 0 } : Room)).room.locals := fun n h => h
  generalize (headSpec wsX8_lays ({ frames := 0, cells := 0, slots := 0, locals := 0 } : Room)).room = R at hRf hRl ⊢
  generalize hQ : MQ below _ args s 0 0 _ = Q
  unfold wp_X8_lays at ho
  refine lv_aload_n hx hb dX8_lays_0 rfl (lv_at hl 0 rfl) ?_
  refine va_get (D := D) (ci := 7) (v := .ref a_moP) (C := RX8) (T := TX8) (N := 25) hx hb hts in_X8_lays_X8 hown hK hP 0 rfl rfl 20 (by decide) (hts (.fieldLink RX8 30 "HardBenchModel" "partFrom" "[I") (List.mem_of_getElem? (i := 1) (by decide +kernel))) (fun _ h9 => h9) rfl dX8_lays_1 ?_
  refine lv_aload_n hx hb dX8_lays_4 rfl (lv_at hl 0 rfl) ?_
  refine va_get (D := D) (ci := 7) (v := .int mo_parts) (C := RX8) (T := TX8) (N := 25) hx hb hts in_X8_lays_X8 hown hK hP 0 rfl rfl 18 (by decide) (hts (.fieldLink RX8 74 "HardBenchModel" "parts" "I") (List.mem_of_getElem? (i := 2) (by decide +kernel))) (fun _ h9 => h9) rfl dX8_lays_5 ?_
  refine lv_iload_n hx hb dX8_lays_8 rfl (lv_at hl 1 rfl) ?_
  have o_9 := ho.1
  replace ho := ho.2
  refine va_iast hx hb hK hP hD hS 1 0 rfl rfl o_9 dX8_lays_9 (fun H locs hP hD hS => ?_)
  replace hP : va_P D vwCl [(a_mo, oX8 a_moR mo_e mo_f mo_codes mo_most mo_minus mo_low mo_function mo_atX mo_atM a_moK a_moH a_moS mo_spanFunction mo_spanRounding mo_spanMany a_moF a_moT mo_parts mo_shift a_moP a_moQ a_moA a_moB a_moD), (a_moP, .inl (cI, 256, .inl (upd moP_r mo_parts.toNatClampNeg p1))), (a_moQ, .inl (cI, 256, .inl moQ_r)), (a_moA, .inl (cJ, 256, .inr (.inl moA_r))), (a_moB, .inl (cJ, 256, .inr (.inl moB_r)))] H := hP
  replace hD : va_D A [(a_mo, oX8 a_moR mo_e mo_f mo_codes mo_most mo_minus mo_low mo_function mo_atX mo_atM a_moK a_moH a_moS mo_spanFunction mo_spanRounding mo_spanMany a_moF a_moT mo_parts mo_shift a_moP a_moQ a_moA a_moB a_moD), (a_moP, .inl (cI, 256, .inl (upd moP_r mo_parts.toNatClampNeg p1))), (a_moQ, .inl (cI, 256, .inl moQ_r)), (a_moA, .inl (cJ, 256, .inr (.inl moA_r))), (a_moB, .inl (cJ, 256, .inr (.inl moB_r)))] := hD
  refine lv_aload_n hx hb dX8_lays_10 rfl (lv_at hl 0 rfl) ?_
  refine va_get (D := D) (ci := 7) (v := .ref a_moQ) (C := RX8) (T := TX8) (N := 25) hx hb hts in_X8_lays_X8 hown hK hP 0 rfl rfl 21 (by decide) (hts (.fieldLink RX8 33 "HardBenchModel" "partTo" "[I") (List.mem_of_getElem? (i := 3) (by decide +kernel))) (fun _ h9 => h9) rfl dX8_lays_11 ?_
  refine lv_aload_n hx hb dX8_lays_14 rfl (lv_at hl 0 rfl) ?_
  refine va_get (D := D) (ci := 7) (v := .int mo_parts) (C := RX8) (T := TX8) (N := 25) hx hb hts in_X8_lays_X8 hown hK hP 0 rfl rfl 18 (by decide) (hts (.fieldLink RX8 74 "HardBenchModel" "parts" "I") (List.mem_of_getElem? (i := 2) (by decide +kernel))) (fun _ h9 => h9) rfl dX8_lays_15 ?_
  refine lv_iload_n hx hb dX8_lays_18 rfl (lv_at hl 2 rfl) ?_
  have o_19 := ho.1
  replace ho := ho.2
  refine va_iast hx hb hK hP hD hS 2 0 rfl rfl o_19 dX8_lays_19 (fun H locs hP hD hS => ?_)
  replace hP : va_P D vwCl [(a_mo, oX8 a_moR mo_e mo_f mo_codes mo_most mo_minus mo_low mo_function mo_atX mo_atM a_moK a_moH a_moS mo_spanFunction mo_spanRounding mo_spanMany a_moF a_moT mo_parts mo_shift a_moP a_moQ a_moA a_moB a_moD), (a_moP, .inl (cI, 256, .inl (upd moP_r mo_parts.toNatClampNeg p1))), (a_moQ, .inl (cI, 256, .inl (upd moQ_r mo_parts.toNatClampNeg p2))), (a_moA, .inl (cJ, 256, .inr (.inl moA_r))), (a_moB, .inl (cJ, 256, .inr (.inl moB_r)))] H := hP
  replace hD : va_D A [(a_mo, oX8 a_moR mo_e mo_f mo_codes mo_most mo_minus mo_low mo_function mo_atX mo_atM a_moK a_moH a_moS mo_spanFunction mo_spanRounding mo_spanMany a_moF a_moT mo_parts mo_shift a_moP a_moQ a_moA a_moB a_moD), (a_moP, .inl (cI, 256, .inl (upd moP_r mo_parts.toNatClampNeg p1))), (a_moQ, .inl (cI, 256, .inl (upd moQ_r mo_parts.toNatClampNeg p2))), (a_moA, .inl (cJ, 256, .inr (.inl moA_r))), (a_moB, .inl (cJ, 256, .inr (.inl moB_r)))] := hD
  refine lv_aload_n hx hb dX8_lays_20 rfl (lv_at hl 0 rfl) ?_
  refine va_get (D := D) (ci := 7) (v := .ref a_moA) (C := RX8) (T := TX8) (N := 25) hx hb hts in_X8_lays_X8 hown hK hP 0 rfl rfl 22 (by decide) (hts (.fieldLink RX8 36 "HardBenchModel" "partA" "[J") (List.mem_of_getElem? (i := 4) (by decide +kernel))) (fun _ h9 => h9) rfl dX8_lays_21 ?_
  refine lv_aload_n hx hb dX8_lays_24 rfl (lv_at hl 0 rfl) ?_
  refine va_get (D := D) (ci := 7) (v := .int mo_parts) (C := RX8) (T := TX8) (N := 25) hx hb hts in_X8_lays_X8 hown hK hP 0 rfl rfl 18 (by decide) (hts (.fieldLink RX8 74 "HardBenchModel" "parts" "I") (List.mem_of_getElem? (i := 2) (by decide +kernel))) (fun _ h9 => h9) rfl dX8_lays_25 ?_
  refine lv_lload_n hx hb dX8_lays_28 rfl (lv_at hl 3 rfl) ?_
  have o_29 := ho.1
  replace ho := ho.2
  refine va_last hx hb hK hP hD hS 3 1 rfl rfl o_29 dX8_lays_29 (fun H locs hP hD hS => ?_)
  replace hP : va_P D vwCl [(a_mo, oX8 a_moR mo_e mo_f mo_codes mo_most mo_minus mo_low mo_function mo_atX mo_atM a_moK a_moH a_moS mo_spanFunction mo_spanRounding mo_spanMany a_moF a_moT mo_parts mo_shift a_moP a_moQ a_moA a_moB a_moD), (a_moP, .inl (cI, 256, .inl (upd moP_r mo_parts.toNatClampNeg p1))), (a_moQ, .inl (cI, 256, .inl (upd moQ_r mo_parts.toNatClampNeg p2))), (a_moA, .inl (cJ, 256, .inr (.inl (vp_updL moA_r mo_parts.toNatClampNeg p3)))), (a_moB, .inl (cJ, 256, .inr (.inl moB_r)))] H := hP
  replace hD : va_D A [(a_mo, oX8 a_moR mo_e mo_f mo_codes mo_most mo_minus mo_low mo_function mo_atX mo_atM a_moK a_moH a_moS mo_spanFunction mo_spanRounding mo_spanMany a_moF a_moT mo_parts mo_shift a_moP a_moQ a_moA a_moB a_moD), (a_moP, .inl (cI, 256, .inl (upd moP_r mo_parts.toNatClampNeg p1))), (a_moQ, .inl (cI, 256, .inl (upd moQ_r mo_parts.toNatClampNeg p2))), (a_moA, .inl (cJ, 256, .inr (.inl (vp_updL moA_r mo_parts.toNatClampNeg p3)))), (a_moB, .inl (cJ, 256, .inr (.inl moB_r)))] := hD
  refine lv_aload_n hx hb dX8_lays_30 rfl (lv_at hl 0 rfl) ?_
  refine va_get (D := D) (ci := 7) (v := .ref a_moB) (C := RX8) (T := TX8) (N := 25) hx hb hts in_X8_lays_X8 hown hK hP 0 rfl rfl 23 (by decide) (hts (.fieldLink RX8 40 "HardBenchModel" "partB" "[J") (List.mem_of_getElem? (i := 5) (by decide +kernel))) (fun _ h9 => h9) rfl dX8_lays_31 ?_
  refine lv_aload_n hx hb dX8_lays_34 rfl (lv_at hl 0 rfl) ?_
  refine va_get (D := D) (ci := 7) (v := .int mo_parts) (C := RX8) (T := TX8) (N := 25) hx hb hts in_X8_lays_X8 hown hK hP 0 rfl rfl 18 (by decide) (hts (.fieldLink RX8 74 "HardBenchModel" "parts" "I") (List.mem_of_getElem? (i := 2) (by decide +kernel))) (fun _ h9 => h9) rfl dX8_lays_35 ?_
  refine lv_lload hx hb dX8_lays_38 (lv_at hl 4 rfl) ?_
  have o_40 := ho.1
  replace ho := ho.2
  refine va_last hx hb hK hP hD hS 4 1 rfl rfl o_40 dX8_lays_40 (fun H locs hP hD hS => ?_)
  replace hP : va_P D vwCl [(a_mo, oX8 a_moR mo_e mo_f mo_codes mo_most mo_minus mo_low mo_function mo_atX mo_atM a_moK a_moH a_moS mo_spanFunction mo_spanRounding mo_spanMany a_moF a_moT mo_parts mo_shift a_moP a_moQ a_moA a_moB a_moD), (a_moP, .inl (cI, 256, .inl (upd moP_r mo_parts.toNatClampNeg p1))), (a_moQ, .inl (cI, 256, .inl (upd moQ_r mo_parts.toNatClampNeg p2))), (a_moA, .inl (cJ, 256, .inr (.inl (vp_updL moA_r mo_parts.toNatClampNeg p3)))), (a_moB, .inl (cJ, 256, .inr (.inl (vp_updL moB_r mo_parts.toNatClampNeg p4))))] H := hP
  replace hD : va_D A [(a_mo, oX8 a_moR mo_e mo_f mo_codes mo_most mo_minus mo_low mo_function mo_atX mo_atM a_moK a_moH a_moS mo_spanFunction mo_spanRounding mo_spanMany a_moF a_moT mo_parts mo_shift a_moP a_moQ a_moA a_moB a_moD), (a_moP, .inl (cI, 256, .inl (upd moP_r mo_parts.toNatClampNeg p1))), (a_moQ, .inl (cI, 256, .inl (upd moQ_r mo_parts.toNatClampNeg p2))), (a_moA, .inl (cJ, 256, .inr (.inl (vp_updL moA_r mo_parts.toNatClampNeg p3)))), (a_moB, .inl (cJ, 256, .inr (.inl (vp_updL moB_r mo_parts.toNatClampNeg p4))))] := hD
  subst hQ; exact W.vret hx hb hr (fun t ht hW => ⟨⟨((upd moP_r mo_parts.toNatClampNeg p1), (upd moQ_r mo_parts.toNatClampNeg p2), (vp_updL moA_r mo_parts.toNatClampNeg p3), (vp_updL moB_r mo_parts.toNatClampNeg p4)), rfl, ho, by rw [ht]; exact hP, hD⟩, hS.F ht⟩) (fun q hq => hS.2.2 q hq) dX8_lays_41

def wp_X8_flat_29 (post : Int32 → (Nat → Int32) → (Nat → Int32) → (Nat → Int64) → (Nat → Int64) → Prop)  (mo_parts : Int32) (moP_r : Nat → Int32) (moQ_r : Nat → Int32) (moA_r : Nat → Int64) (moB_r : Nat → Int64) (moD_r : Nat → Int64) (p1 : Int32) (x3 : Int32) : Prop := (vp_in p1 256) ∧ (wp_X8_lays (fun u41_1 u41_2 u41_3 u41_4 => (post x3 u41_1 u41_2 u41_3 u41_4)) mo_parts moP_r moQ_r moA_r moB_r p1 (x3 - (1 : Int32)) (moD_r p1.toNatClampNeg) (0 : Int64))
def wp_X8_flat_2_b (post : Int32 → (Nat → Int32) → (Nat → Int32) → (Nat → Int64) → (Nat → Int64) → Prop)  (mo_parts : Int32) (moD_r : Nat → Int64) (p1 : Int32) (p2 : Int32) (K_2 : (Nat → Int32) → (Nat → Int32) → (Nat → Int64) → (Nat → Int64) → Int32 → Prop) (moP_r : Nat → Int32) (moQ_r : Nat → Int32) (moA_r : Nat → Int64) (moB_r : Nat → Int64) (x3 : Int32) : Prop := ((p2 ≤ x3) → (wp_X8_flat_29 post mo_parts moP_r moQ_r moA_r moB_r moD_r p1 x3)) ∧ ((¬ (p2 ≤ x3)) → ((vp_in x3 256) ∧ ((vp_in p1 256) ∧ (((¬ (lg_cmp (moD_r x3.toNatClampNeg) (moD_r p1.toNatClampNeg)) = 0) → (wp_X8_flat_29 post mo_parts moP_r moQ_r moA_r moB_r moD_r p1 x3)) ∧ ((¬ (¬ (lg_cmp (moD_r x3.toNatClampNeg) (moD_r p1.toNatClampNeg)) = 0)) → (K_2 moP_r moQ_r moA_r moB_r (x3 + (1 : Int32))))))))
noncomputable def wp_X8_flat_2 (post : Int32 → (Nat → Int32) → (Nat → Int32) → (Nat → Int64) → (Nat → Int64) → Prop)  (mo_parts : Int32) (moD_r : Nat → Int64) (p1 : Int32) (p2 : Int32) (n : Nat) : (Nat → Int32) → (Nat → Int32) → (Nat → Int64) → (Nat → Int64) → Int32 → Prop := Nat.rec (motive := fun _ => (Nat → Int32) → (Nat → Int32) → (Nat → Int64) → (Nat → Int64) → Int32 → Prop) (fun _ _ _ _ _ => False) (fun _ K_2 => wp_X8_flat_2_b post mo_parts moD_r p1 p2 K_2) n
def wp_X8_flat (post : Int32 → (Nat → Int32) → (Nat → Int32) → (Nat → Int64) → (Nat → Int64) → Prop) (mo_parts : Int32) (moP_r : Nat → Int32) (moQ_r : Nat → Int32) (moA_r : Nat → Int64) (moB_r : Nat → Int64) (moD_r : Nat → Int64) (p1 : Int32) (p2 : Int32) : Prop := ∃ n, wp_X8_flat_2 post mo_parts moD_r p1 p2 n moP_r moQ_r moA_r moB_r p1
set_option maxRecDepth 20000 in
theorem in_X8_flat_X8 : ∀ w ∈ u_ws RX8 TX8 25, w ∈ wsX8_flat := fun w h => (goodIn_r wsX80 [12, 13, 14, 15, 16, 17, 18, 19, 20, 21, 22, 23, 24, 25, 26, 27, 28, 29, 30, 31, 32, 33, 34, 35, 36] (by decide +kernel) (by decide +kernel) w h).1
set_option maxHeartbeats 4000000 in
set_option maxRecDepth 100000 in
theorem c_X8_flat (l : Launch) (D : va_G) (cI cJ cZ : ClassId) (a_mo : Nat) (a_moR : Nat) (a_moK : Nat) (a_moH : Nat) (a_moS : Nat) (a_moF : Nat) (a_moT : Nat) (a_moP : Nat) (a_moQ : Nat) (a_moA : Nat) (a_moB : Nat) (a_moD : Nat) (sz : Nat) (mo_e : Int32) (mo_f : Int32) (mo_codes : Int32) (mo_most : Int32) (mo_minus : Int32) (mo_low : Int32) (mo_function : Int32) (mo_atX : Int32) (mo_atM : Int64) (mo_spanFunction : Int32) (mo_spanRounding : Int32) (mo_spanMany : Int32) (mo_parts : Int32) (mo_shift : Int32) (moP_r : Nat → Int32) (moQ_r : Nat → Int32) (moA_r : Nat → Int64) (moB_r : Nat → Int64) (moD_r : Nat → Int64) (p1 : Int32) (p2 : Int32) (post : Int32 → (Nat → Int32) → (Nat → Int32) → (Nat → Int64) → (Nat → Int64) → Prop) (A : Nat → Prop) (hAe : A = va_A [(a_mo, oX8 a_moR mo_e mo_f mo_codes mo_most mo_minus mo_low mo_function mo_atX mo_atM a_moK a_moH a_moS mo_spanFunction mo_spanRounding mo_spanMany a_moF a_moT mo_parts mo_shift a_moP a_moQ a_moA a_moB a_moD), (a_moP, .inl (cI, 256, .inl moP_r)), (a_moQ, .inl (cI, 256, .inl moQ_r)), (a_moA, .inl (cJ, 256, .inr (.inl moA_r))), (a_moB, .inl (cJ, 256, .inr (.inl moB_r))), (a_moD, .inl (cJ, 256, .inr (.inl moD_r)))] sz) (ho : wp_X8_flat post mo_parts moP_r moQ_r moA_r moB_r moD_r p1 p2) : Met l yX8_flat wsX8_flat ({ frames := 1, cells := 0, slots := 0, locals := 26 } : Room) (rw_P D [(cI, .int), (cJ, .long), (cZ, .boolean)] [.ref a_mo, .int p1, .int p2] sz [(a_mo, oX8 a_moR mo_e mo_f mo_codes mo_most mo_minus mo_low mo_function mo_atX mo_atM a_moK a_moH a_moS mo_spanFunction mo_spanRounding mo_spanMany a_moF a_moT mo_parts mo_shift a_moP a_moQ a_moA a_moB a_moD), (a_moP, .inl (cI, 256, .inl moP_r)), (a_moQ, .inl (cI, 256, .inl moQ_r)), (a_moA, .inl (cJ, 256, .inr (.inl moA_r))), (a_moB, .inl (cJ, 256, .inr (.inl moB_r))), (a_moD, .inl (cJ, 256, .inr (.inl moD_r)))]) (va_Qi (fun (r : Int32) (u : (Nat → Int32) × (Nat → Int32) × (Nat → Int64) × (Nat → Int64)) => post r u.1 u.2.1 u.2.2.1 u.2.2.2) (rw_B D A (fun (u : (Nat → Int32) × (Nat → Int32) × (Nat → Int64) × (Nat → Int64)) => [(a_mo, oX8 a_moR mo_e mo_f mo_codes mo_most mo_minus mo_low mo_function mo_atX mo_atM a_moK a_moH a_moS mo_spanFunction mo_spanRounding mo_spanMany a_moF a_moT mo_parts mo_shift a_moP a_moQ a_moA a_moB a_moD), (a_moP, .inl (cI, 256, .inl u.1)), (a_moQ, .inl (cI, 256, .inl u.2.1)), (a_moA, .inl (cJ, 256, .inr (.inl u.2.2.1))), (a_moB, .inl (cJ, 256, .inr (.inl u.2.2.2))), (a_moD, .inl (cJ, 256, .inr (.inl moD_r)))])) A) 0 0 A := by
  refine Met.ofW (cc := cX8_flat) (maxL := 4) (ret := (some .int)) (by decide) rfl ?_
  intro p e s m args below meth c s₁ B hml hv
  obtain ⟨hargs, hsz, hP, hK, hN, hD0⟩ := hv
  have hx := B.exec
  have hb := B.bytes
  have hr := B.returns
  have hts := atoms_spec (ws := wsX8_flat) B.pre
  have hown : s.vm.findClass RX8 = some m.cls := findClass_of_methodNamed B.named
  have hlocks := B.notSynchronized
  subst hsz
  have hD : va_D A [(a_mo, oX8 a_moR mo_e mo_f mo_codes mo_most mo_minus mo_low mo_function mo_atX mo_atM a_moK a_moH a_moS mo_spanFunction mo_spanRounding mo_spanMany a_moF a_moT mo_parts mo_shift a_moP a_moQ a_moA a_moB a_moD), (a_moP, .inl (cI, 256, .inl moP_r)), (a_moQ, .inl (cI, 256, .inl moQ_r)), (a_moA, .inl (cJ, 256, .inr (.inl moA_r))), (a_moB, .inl (cJ, 256, .inr (.inl moB_r))), (a_moD, .inl (cJ, 256, .inr (.inl moD_r)))] := by rw [hAe]; exact hD0.self
  have hA : ∀ q : Nat, s.heap.size ≤ q → A q := fun q h => by rw [hAe]; exact Or.inr h
  have hS : va_S A s.heap s.heap [] := va_S.rf
  have hl := lv_entry ([.ref a_mo, .int p1, .int p2]) (n := 4) (Nat.le_of_ble_eq_true rfl)
  rw [hargs, lg_entry_eq, ← hargs]
  generalize (lg_sl ([.ref a_mo, .int p1, .int p2]) ++ List.replicate (4 - (lg_sl ([.ref a_mo, .int p1, .int p2])).length) Slot.unset).toArray = ls at hl ⊢
  replace hl : lv_has ls 4 [(0, .ref a_mo), (1, .int p1), (2, .int p2)] := hl
  have hRf : ∀ n, n ≤ 1 → n ≤ (headSpec wsX8_flat ({ frames := 1, cells := 0, slots := 0, locals := 26 } : Room)).room.frames := fun n h => h
  have hRl : ∀ n, n ≤ 26 → n ≤ (headSpec wsX8_flat ({ frames := 1, cells := 0, slots := 0, locals := 26 } : Room)).room.locals := fun n h => h
  generalize (headSpec wsX8_flat ({ frames := 1, cells := 0, slots := 0, locals := 26 } : Room)).room = R at hRf hRl ⊢
  generalize hQ : MQ below _ args s 0 0 _ = Q
  have C_29 : ∀ (moP_r : Nat → Int32) (moQ_r : Nat → Int32) (moA_r : Nat → Int64) (moB_r : Nat → Int64) (x3 : Int32) (H : Heap) (locs : List Loc) (ls : Array Slot), wp_X8_flat_29 post  mo_parts moP_r moQ_r moA_r moB_r moD_r p1 x3 → va_P D vwCl [(a_mo, oX8 a_moR mo_e mo_f mo_codes mo_most mo_minus mo_low mo_function mo_atX mo_atM a_moK a_moH a_moS mo_spanFunction mo_spanRounding mo_spanMany a_moF a_moT mo_parts mo_shift a_moP a_moQ a_moA a_moB a_moD), (a_moP, .inl (cI, 256, .inl moP_r)), (a_moQ, .inl (cI, 256, .inl moQ_r)), (a_moA, .inl (cJ, 256, .inr (.inl moA_r))), (a_moB, .inl (cJ, 256, .inr (.inl moB_r))), (a_moD, .inl (cJ, 256, .inr (.inl moD_r)))] H → va_D A [(a_mo, oX8 a_moR mo_e mo_f mo_codes mo_most mo_minus mo_low mo_function mo_atX mo_atM a_moK a_moH a_moS mo_spanFunction mo_spanRounding mo_spanMany a_moF a_moT mo_parts mo_shift a_moP a_moQ a_moA a_moB a_moD), (a_moP, .inl (cI, 256, .inl moP_r)), (a_moQ, .inl (cI, 256, .inl moQ_r)), (a_moA, .inl (cJ, 256, .inr (.inl moA_r))), (a_moB, .inl (cJ, 256, .inr (.inl moB_r))), (a_moD, .inl (cJ, 256, .inr (.inl moD_r)))] → va_S A s.heap H locs → lv_has ls 4 [(0, .ref a_mo), (1, .int p1), (3, .int x3)] → W p l e R s m args below meth c H locs 0 0 Q (F0 m 29 ls []) := by
    intro moP_r moQ_r moA_r moB_r x3 H locs ls ho hP hD hS hl
    unfold wp_X8_flat_29 at ho
    refine lv_aload_n hx hb dX8_flat_29 rfl (lv_at hl 0 rfl) ?_
    refine lv_iload_n hx hb dX8_flat_30 rfl (lv_at hl 1 rfl) ?_
    refine lv_iload_n hx hb dX8_flat_31 rfl (lv_at hl 2 rfl) ?_
    refine lv_iconst (v := 1) hx hb dX8_flat_32 (by decide) ?_
    refine lv_isub hx hb dX8_flat_33 ?_
    refine lv_aload_n hx hb dX8_flat_34 rfl (lv_at hl 0 rfl) ?_
    refine va_get (D := D) (ci := 7) (v := .ref a_moD) (C := RX8) (T := TX8) (N := 25) hx hb hts in_X8_flat_X8 hown hK hP 0 rfl rfl 24 (by decide) (hts (.fieldLink RX8 43 "HardBenchModel" "due" "[J") (List.mem_of_getElem? (i := 1) (by decide +kernel))) (fun _ h9 => h9) rfl dX8_flat_35 ?_
    refine lv_iload_n hx hb dX8_flat_38 rfl (lv_at hl 1 rfl) ?_
    have o_39 := ho.1
    replace ho := ho.2
    refine va_lald hx hb hK hP 5 1 rfl rfl o_39 dX8_flat_39 ?_
    refine lv_lconst (v := 0) hx hb dX8_flat_40 (by decide) ?_
    refine ca_Wv (b := a_mo) (As := [.int p1, .int (x3 - (1 : Int32)), .long (moD_r p1.toNatClampNeg), .long (0 : Int64)]) (rest := []) (wr := [(a_moD, .inl (cJ, 256, .inr (.inl moD_r)))]) (wo := fun u => [(a_mo, oX8 a_moR mo_e mo_f mo_codes mo_most mo_minus mo_low mo_function mo_atX mo_atM a_moK a_moH a_moS mo_spanFunction mo_spanRounding mo_spanMany a_moF a_moT mo_parts mo_shift a_moP a_moQ a_moA a_moB a_moD), (a_moP, .inl (cI, 256, .inl u.1)), (a_moQ, .inl (cI, 256, .inl u.2.1)), (a_moA, .inl (cJ, 256, .inr (.inl u.2.2.1))), (a_moB, .inl (cJ, 256, .inr (.inl u.2.2.2)))]) (wn := fun u => [(a_mo, oX8 a_moR mo_e mo_f mo_codes mo_most mo_minus mo_low mo_function mo_atX mo_atM a_moK a_moH a_moS mo_spanFunction mo_spanRounding mo_spanMany a_moF a_moT mo_parts mo_shift a_moP a_moQ a_moA a_moB a_moD), (a_moP, .inl (cI, 256, .inl u.1)), (a_moQ, .inl (cI, 256, .inl u.2.1)), (a_moA, .inl (cJ, 256, .inr (.inl u.2.2.1))), (a_moB, .inl (cJ, 256, .inr (.inl u.2.2.2))), (a_moD, .inl (cJ, 256, .inr (.inl moD_r)))]) ⟨hx, hb, hml, hown, hts⟩ (c_X8_lays l D cI cJ cZ a_mo a_moR a_moK a_moH a_moS a_moF a_moT a_moP a_moQ a_moA a_moB a_moD H.size mo_e mo_f mo_codes mo_most mo_minus mo_low mo_function mo_atX mo_atM mo_spanFunction mo_spanRounding mo_spanMany mo_parts mo_shift moP_r moQ_r moA_r moB_r p1 (x3 - (1 : Int32)) (moD_r p1.toNatClampNeg) (0 : Int64) _ _ rfl ho) (cwV 4 hts gX8_flat_X8_lays rfl rfl rfl (by decide +kernel) ⟨hRf _ (Nat.le_of_ble_eq_true rfl), hRl _ (Nat.le_of_ble_eq_true rfl)⟩) hK hN hP hD hS hA [0, 1, 2, 3, 4] [5] [1, 2, 3, 4, 5, 0] rfl rfl (by decide) (by decide) (by decide) (by decide) (fun _ => rfl) 0 7 rfl rfl rfl rfl hl.1 rfl (Nat.le_of_ble_eq_true rfl) dX8_flat_41 ⟨Nat.zero_le _, Nat.zero_le _⟩ (fun  u41 H locs ho hP hD hS => ?_)
    obtain ⟨u41_1, u41_2, u41_3, u41_4⟩ := u41
    try dsimp only at ho
    replace hP : va_P D vwCl [(a_mo, oX8 a_moR mo_e mo_f mo_codes mo_most mo_minus mo_low mo_function mo_atX mo_atM a_moK a_moH a_moS mo_spanFunction mo_spanRounding mo_spanMany a_moF a_moT mo_parts mo_shift a_moP a_moQ a_moA a_moB a_moD), (a_moP, .inl (cI, 256, .inl u41_1)), (a_moQ, .inl (cI, 256, .inl u41_2)), (a_moA, .inl (cJ, 256, .inr (.inl u41_3))), (a_moB, .inl (cJ, 256, .inr (.inl u41_4))), (a_moD, .inl (cJ, 256, .inr (.inl moD_r)))] H := hP
    replace hD : va_D A [(a_mo, oX8 a_moR mo_e mo_f mo_codes mo_most mo_minus mo_low mo_function mo_atX mo_atM a_moK a_moH a_moS mo_spanFunction mo_spanRounding mo_spanMany a_moF a_moT mo_parts mo_shift a_moP a_moQ a_moA a_moB a_moD), (a_moP, .inl (cI, 256, .inl u41_1)), (a_moQ, .inl (cI, 256, .inl u41_2)), (a_moA, .inl (cJ, 256, .inr (.inl u41_3))), (a_moB, .inl (cJ, 256, .inr (.inl u41_4))), (a_moD, .inl (cJ, 256, .inr (.inl moD_r)))] := hD
    refine lv_iload_n hx hb dX8_flat_44 rfl (lv_at hl 2 rfl) ?_
    subst hQ; exact W.iret (v := x3) hx hb hr (fun t ht hW => ⟨⟨x3, (u41_1, u41_2, u41_3, u41_4), rfl, ho, by rw [ht]; exact hP, hD⟩, hS.F ht⟩) (fun q hq => hS.2.2 q hq) dX8_flat_45
  have C_2 : ∀ n : Nat, ∀ (moP_r : Nat → Int32) (moQ_r : Nat → Int32) (moA_r : Nat → Int64) (moB_r : Nat → Int64) (x3 : Int32) (H : Heap) (locs : List Loc) (ls : Array Slot), wp_X8_flat_2 post  mo_parts moD_r p1 p2 n moP_r moQ_r moA_r moB_r x3 → va_P D vwCl [(a_mo, oX8 a_moR mo_e mo_f mo_codes mo_most mo_minus mo_low mo_function mo_atX mo_atM a_moK a_moH a_moS mo_spanFunction mo_spanRounding mo_spanMany a_moF a_moT mo_parts mo_shift a_moP a_moQ a_moA a_moB a_moD), (a_moP, .inl (cI, 256, .inl moP_r)), (a_moQ, .inl (cI, 256, .inl moQ_r)), (a_moA, .inl (cJ, 256, .inr (.inl moA_r))), (a_moB, .inl (cJ, 256, .inr (.inl moB_r))), (a_moD, .inl (cJ, 256, .inr (.inl moD_r)))] H → va_D A [(a_mo, oX8 a_moR mo_e mo_f mo_codes mo_most mo_minus mo_low mo_function mo_atX mo_atM a_moK a_moH a_moS mo_spanFunction mo_spanRounding mo_spanMany a_moF a_moT mo_parts mo_shift a_moP a_moQ a_moA a_moB a_moD), (a_moP, .inl (cI, 256, .inl moP_r)), (a_moQ, .inl (cI, 256, .inl moQ_r)), (a_moA, .inl (cJ, 256, .inr (.inl moA_r))), (a_moB, .inl (cJ, 256, .inr (.inl moB_r))), (a_moD, .inl (cJ, 256, .inr (.inl moD_r)))] → va_S A s.heap H locs → lv_has ls 4 [(0, .ref a_mo), (1, .int p1), (2, .int p2), (3, .int x3)] → W p l e R s m args below meth c H locs 0 0 Q (F0 m 2 ls []) := by
    intro n
    induction n with
    | zero => intro moP_r moQ_r moA_r moB_r x3 H locs ls ho hP hD hS hl; exact ho.elim
    | succ n_2 ih_2 =>
      intro moP_r moQ_r moA_r moB_r x3 H locs ls ho hP hD hS hl
      replace ho : wp_X8_flat_2_b post mo_parts moD_r p1 p2 (wp_X8_flat_2 post mo_parts moD_r p1 p2 n_2) moP_r moQ_r moA_r moB_r x3 := ho
      unfold wp_X8_flat_2_b at ho
      refine lv_iload_n hx hb dX8_flat_2 rfl (lv_at hl 3 rfl) ?_
      refine lv_iload_n hx hb dX8_flat_3 rfl (lv_at hl 2 rfl) ?_
      refine lv_icmp_ge (tgt := 29) hx hb dX8_flat_4 (by decide) (fun c_4 => ?_) (fun c_4 => ?_)
      · replace ho := ho.1 c_4
        exact C_29 moP_r moQ_r moA_r moB_r x3 H locs ls ho hP hD hS (lv_sub hl [0, 1, 3] rfl)
      · replace ho := ho.2 c_4
        refine lv_aload_n hx hb dX8_flat_7 rfl (lv_at hl 0 rfl) ?_
        refine va_get (D := D) (ci := 7) (v := .ref a_moD) (C := RX8) (T := TX8) (N := 25) hx hb hts in_X8_flat_X8 hown hK hP 0 rfl rfl 24 (by decide) (hts (.fieldLink RX8 43 "HardBenchModel" "due" "[J") (List.mem_of_getElem? (i := 1) (by decide +kernel))) (fun _ h9 => h9) rfl dX8_flat_8 ?_
        refine lv_iload_n hx hb dX8_flat_11 rfl (lv_at hl 3 rfl) ?_
        have o_12 := ho.1
        replace ho := ho.2
        refine va_lald hx hb hK hP 5 1 rfl rfl o_12 dX8_flat_12 ?_
        refine lv_aload_n hx hb dX8_flat_13 rfl (lv_at hl 0 rfl) ?_
        refine va_get (D := D) (ci := 7) (v := .ref a_moD) (C := RX8) (T := TX8) (N := 25) hx hb hts in_X8_flat_X8 hown hK hP 0 rfl rfl 24 (by decide) (hts (.fieldLink RX8 43 "HardBenchModel" "due" "[J") (List.mem_of_getElem? (i := 1) (by decide +kernel))) (fun _ h9 => h9) rfl dX8_flat_14 ?_
        refine lv_iload_n hx hb dX8_flat_17 rfl (lv_at hl 1 rfl) ?_
        have o_18 := ho.1
        replace ho := ho.2
        refine va_lald hx hb hK hP 5 1 rfl rfl o_18 dX8_flat_18 ?_
        refine W.lcmp hx hb dX8_flat_19 ?_
        refine lv_if_ne (tgt := 29) hx hb dX8_flat_20 (by decide) (fun c_20 => ?_) (fun c_20 => ?_)
        · replace ho := ho.1 c_20
          exact C_29 moP_r moQ_r moA_r moB_r x3 H locs ls ho hP hD hS (lv_sub hl [0, 1, 3] rfl)
        · replace ho := ho.2 c_20
          refine lv_iinc (v := (x3 + (1 : Int32))) (lv' := [(3, .int (x3 + (1 : Int32))), (0, .ref a_mo), (1, .int p1), (2, .int p2)]) hx hb dX8_flat_23 hl (k := 3) rfl rfl (by decide) rfl (fun ls hl => ?_)
          refine lv_goto (tgt := 2) hx hb dX8_flat_26 (by decide) ?_
          exact ih_2 moP_r moQ_r moA_r moB_r (x3 + (1 : Int32)) H locs ls ho hP hD hS (lv_sub hl [1, 2, 3, 0] rfl)
  unfold wp_X8_flat at ho
  refine lv_iload_n hx hb dX8_flat_0 rfl (lv_at hl 1 rfl) ?_
  refine lv_istore_n (lv' := [(3, .int p1), (0, .ref a_mo), (1, .int p1), (2, .int p2)]) hx hb dX8_flat_1 rfl hl (by decide) rfl (fun ls hl => ?_)
  obtain ⟨n_2, ho⟩ := ho
  exact C_2 n_2 moP_r moQ_r moA_r moB_r p1 H locs ls ho hP hD hS (lv_sub hl [1, 2, 3, 0] rfl)

def wp_X8_line_230_b (post : Int32 → (Nat → Int32) → (Nat → Int32) → (Nat → Int64) → (Nat → Int64) → Prop)  (mo_parts : Int32) (moD_r : Nat → Int64) (p1 : Int32) (K_230 : (Nat → Int32) → (Nat → Int32) → (Nat → Int64) → (Nat → Int64) → Int32 → Int64 → Int64 → Int32 → Prop) (moP_r : Nat → Int32) (moQ_r : Nat → Int32) (moA_r : Nat → Int64) (moB_r : Nat → Int64) (x9 : Int32) (x11 : Int64) (x13 : Int64) (x15 : Int32) : Prop := ((x9 ≤ x15) → (wp_X8_lays (fun u274_1 u274_2 u274_3 u274_4 => (post x9 u274_1 u274_2 u274_3 u274_4)) mo_parts moP_r moQ_r moA_r moB_r p1 (x9 - (1 : Int32)) x13 x11)) ∧ ((¬ (x9 ≤ x15)) → ((vp_in x15 256) ∧ (K_230 moP_r moQ_r moA_r moB_r x9 x11 (if ((moD_r x15.toNatClampNeg) - (x11 * x15.toInt64)) < x13 then x13 else ((moD_r x15.toNatClampNeg) - (x11 * x15.toInt64))) (x15 + (1 : Int32)))))
noncomputable def wp_X8_line_230 (post : Int32 → (Nat → Int32) → (Nat → Int32) → (Nat → Int64) → (Nat → Int64) → Prop)  (mo_parts : Int32) (moD_r : Nat → Int64) (p1 : Int32) (n : Nat) : (Nat → Int32) → (Nat → Int32) → (Nat → Int64) → (Nat → Int64) → Int32 → Int64 → Int64 → Int32 → Prop := Nat.rec (motive := fun _ => (Nat → Int32) → (Nat → Int32) → (Nat → Int64) → (Nat → Int64) → Int32 → Int64 → Int64 → Int32 → Prop) (fun _ _ _ _ _ _ _ _ => False) (fun _ K_230 => wp_X8_line_230_b post mo_parts moD_r p1 K_230) n
def wp_X8_line_211 (post : Int32 → (Nat → Int32) → (Nat → Int32) → (Nat → Int64) → (Nat → Int64) → Prop)  (mo_parts : Int32) (moP_r : Nat → Int32) (moQ_r : Nat → Int32) (moA_r : Nat → Int64) (moB_r : Nat → Int64) (moD_r : Nat → Int64) (p1 : Int32) (x9 : Int32) (y0 : Int64) : Prop := (vp_in p1 256) ∧ (∃ n, wp_X8_line_230 post mo_parts moD_r p1 n moP_r moQ_r moA_r moB_r x9 y0 ((moD_r p1.toNatClampNeg) - (y0 * p1.toInt64)) p1)
def wp_X8_line_181 (post : Int32 → (Nat → Int32) → (Nat → Int32) → (Nat → Int64) → (Nat → Int64) → Prop) (K_35 : (Nat → Int32) → (Nat → Int32) → (Nat → Int64) → (Nat → Int64) → Int64 → Int64 → Int64 → Int32 → Int32 → Prop) (moP_r : Nat → Int32) (moQ_r : Nat → Int32) (moA_r : Nat → Int64) (moB_r : Nat → Int64) (x3 : Int64) (x5 : Int64) (x7 : Int64) (x9 : Int32) (y0 : Int32) : Prop := K_35 moP_r moQ_r moA_r moB_r x3 x5 x7 x9 y0
def wp_X8_line_149 (post : Int32 → (Nat → Int32) → (Nat → Int32) → (Nat → Int64) → (Nat → Int64) → Prop) (K_35 : (Nat → Int32) → (Nat → Int32) → (Nat → Int64) → (Nat → Int64) → Int64 → Int64 → Int64 → Int32 → Int32 → Prop) (moP_r : Nat → Int32) (moQ_r : Nat → Int32) (moA_r : Nat → Int64) (moB_r : Nat → Int64) (p2 : Int32) (x3 : Int64) (x5 : Int64) (x7 : Int64) (x9 : Int32) (x11 : Int64) (x13 : Int64) (y0 : Int32) : Prop := ((¬ y0 = 0) → (((p2 ≤ (x9 + (1 : Int32))) → (wp_X8_line_181 post K_35 moP_r moQ_r moA_r moB_r x3 x11 x13 (x9 + (1 : Int32)) (0 : Int32))) ∧ ((¬ (p2 ≤ (x9 + (1 : Int32)))) → (wp_X8_line_181 post K_35 moP_r moQ_r moA_r moB_r x3 x11 x13 (x9 + (1 : Int32)) (1 : Int32))))) ∧ ((¬ (¬ y0 = 0)) → (K_35 moP_r moQ_r moA_r moB_r x3 x5 x7 x9 y0))
def wp_X8_line_51_b (post : Int32 → (Nat → Int32) → (Nat → Int32) → (Nat → Int64) → (Nat → Int64) → Prop) (K_35 : (Nat → Int32) → (Nat → Int32) → (Nat → Int64) → (Nat → Int64) → Int64 → Int64 → Int64 → Int32 → Int32 → Prop) (moD_r : Nat → Int64) (p2 : Int32) (K_51 : (Nat → Int32) → (Nat → Int32) → (Nat → Int64) → (Nat → Int64) → Int64 → Int64 → Int64 → Int32 → Int64 → Int64 → Int32 → Prop) (moP_r : Nat → Int32) (moQ_r : Nat → Int32) (moA_r : Nat → Int64) (moB_r : Nat → Int64) (x3 : Int64) (x5 : Int64) (x7 : Int64) (x9 : Int32) (x11 : Int64) (x13 : Int64) (x15 : Int32) : Prop := ((x9 ≤ x15) → (((0 < (lg_cmp x11 x13)) → (wp_X8_line_149 post K_35 moP_r moQ_r moA_r moB_r p2 x3 x5 x7 x9 x11 x13 (0 : Int32))) ∧ ((¬ (0 < (lg_cmp x11 x13))) → (wp_X8_line_149 post K_35 moP_r moQ_r moA_r moB_r p2 x3 x5 x7 x9 x11 x13 (1 : Int32))))) ∧ ((¬ (x9 ≤ x15)) → ((vp_in x9 256) ∧ ((vp_in x15 256) ∧ (wp_J9_floorDiv_f86c9 (fun r89 => ((vp_in x9 256) ∧ ((vp_in x15 256) ∧ (wp_J9_floorDiv_f86c9 (fun r121 => (K_51 moP_r moQ_r moA_r moB_r x3 x5 x7 x9 (if (-r121) < x11 then x11 else (-r121)) (if r89 < x13 then r89 else x13) (x15 + (1 : Int32)))) (-((((moD_r x9.toNatClampNeg) - (moD_r x15.toNatClampNeg)) - x3) + (1 : Int64))) ((x9 - x15).toInt64))))) ((((moD_r x9.toNatClampNeg) - (moD_r x15.toNatClampNeg)) + x3) - (1 : Int64)) ((x9 - x15).toInt64)))))
noncomputable def wp_X8_line_51 (post : Int32 → (Nat → Int32) → (Nat → Int32) → (Nat → Int64) → (Nat → Int64) → Prop) (K_35 : (Nat → Int32) → (Nat → Int32) → (Nat → Int64) → (Nat → Int64) → Int64 → Int64 → Int64 → Int32 → Int32 → Prop) (moD_r : Nat → Int64) (p2 : Int32) (n : Nat) : (Nat → Int32) → (Nat → Int32) → (Nat → Int64) → (Nat → Int64) → Int64 → Int64 → Int64 → Int32 → Int64 → Int64 → Int32 → Prop := Nat.rec (motive := fun _ => (Nat → Int32) → (Nat → Int32) → (Nat → Int64) → (Nat → Int64) → Int64 → Int64 → Int64 → Int32 → Int64 → Int64 → Int32 → Prop) (fun _ _ _ _ _ _ _ _ _ _ _ => False) (fun _ K_51 => wp_X8_line_51_b post K_35 moD_r p2 K_51) n
def wp_X8_line_35_b (post : Int32 → (Nat → Int32) → (Nat → Int32) → (Nat → Int64) → (Nat → Int64) → Prop)  (mo_parts : Int32) (moD_r : Nat → Int64) (p1 : Int32) (p2 : Int32) (K_35 : (Nat → Int32) → (Nat → Int32) → (Nat → Int64) → (Nat → Int64) → Int64 → Int64 → Int64 → Int32 → Int32 → Prop) (moP_r : Nat → Int32) (moQ_r : Nat → Int32) (moA_r : Nat → Int64) (moB_r : Nat → Int64) (x3 : Int64) (x5 : Int64) (x7 : Int64) (x9 : Int32) (x10 : Int32) : Prop := ((x10 = 0) → ((((lg_cmp x5 (0 : Int64)) ≤ 0) → (((0 ≤ (lg_cmp x7 (0 : Int64))) → (wp_X8_line_211 post mo_parts moP_r moQ_r moA_r moB_r moD_r p1 x9 (0 : Int64))) ∧ ((¬ (0 ≤ (lg_cmp x7 (0 : Int64)))) → (wp_X8_line_211 post mo_parts moP_r moQ_r moA_r moB_r moD_r p1 x9 x7)))) ∧ ((¬ ((lg_cmp x5 (0 : Int64)) ≤ 0)) → (wp_X8_line_211 post mo_parts moP_r moQ_r moA_r moB_r moD_r p1 x9 x5)))) ∧ ((¬ (x10 = 0)) → (∃ n, wp_X8_line_51 post K_35 moD_r p2 n moP_r moQ_r moA_r moB_r x3 x5 x7 x9 x5 x7 p1))
noncomputable def wp_X8_line_35 (post : Int32 → (Nat → Int32) → (Nat → Int32) → (Nat → Int64) → (Nat → Int64) → Prop)  (mo_parts : Int32) (moD_r : Nat → Int64) (p1 : Int32) (p2 : Int32) (n : Nat) : (Nat → Int32) → (Nat → Int32) → (Nat → Int64) → (Nat → Int64) → Int64 → Int64 → Int64 → Int32 → Int32 → Prop := Nat.rec (motive := fun _ => (Nat → Int32) → (Nat → Int32) → (Nat → Int64) → (Nat → Int64) → Int64 → Int64 → Int64 → Int32 → Int32 → Prop) (fun _ _ _ _ _ _ _ _ _ => False) (fun _ K_35 => wp_X8_line_35_b post mo_parts moD_r p1 p2 K_35) n
def wp_X8_line_33 (post : Int32 → (Nat → Int32) → (Nat → Int32) → (Nat → Int64) → (Nat → Int64) → Prop)  (mo_parts : Int32) (moP_r : Nat → Int32) (moQ_r : Nat → Int32) (moA_r : Nat → Int64) (moB_r : Nat → Int64) (moD_r : Nat → Int64) (p1 : Int32) (p2 : Int32) (x3 : Int64) (x5 : Int64) (x7 : Int64) (x9 : Int32) (y0 : Int32) : Prop := ∃ n, wp_X8_line_35 post mo_parts moD_r p1 p2 n moP_r moQ_r moA_r moB_r x3 x5 x7 x9 y0
def wp_X8_line (post : Int32 → (Nat → Int32) → (Nat → Int32) → (Nat → Int64) → (Nat → Int64) → Prop) (mo_parts : Int32) (mo_shift : Int32) (moP_r : Nat → Int32) (moQ_r : Nat → Int32) (moA_r : Nat → Int64) (moB_r : Nat → Int64) (moD_r : Nat → Int64) (p1 : Int32) (p2 : Int32) : Prop := ((p2 ≤ (p1 + (1 : Int32))) → (wp_X8_line_33 post mo_parts moP_r moQ_r moA_r moB_r moD_r p1 p2 ((1 : Int64) <<< (mo_shift.toInt64 &&& 63)) (-1000000000000 : Int64) (1000000000000 : Int64) (p1 + (1 : Int32)) (0 : Int32))) ∧ ((¬ (p2 ≤ (p1 + (1 : Int32)))) → (wp_X8_line_33 post mo_parts moP_r moQ_r moA_r moB_r moD_r p1 p2 ((1 : Int64) <<< (mo_shift.toInt64 &&& 63)) (-1000000000000 : Int64) (1000000000000 : Int64) (p1 + (1 : Int32)) (1 : Int32)))
set_option maxRecDepth 20000 in
theorem in_X8_line_X8 : ∀ w ∈ u_ws RX8 TX8 25, w ∈ wsX8_line := fun w h => (goodIn_r wsX80 [26, 27, 28, 29, 30, 31, 32, 33, 34, 35, 36, 37, 38, 39, 40, 41, 42, 43, 44, 45, 46, 47, 48, 49, 50] (by decide +kernel) (by decide +kernel) w h).1
set_option maxHeartbeats 4000000 in
set_option maxRecDepth 100000 in
theorem c_X8_line (l : Launch) (D : va_G) (cI cJ cZ : ClassId) (a_mo : Nat) (a_moR : Nat) (a_moK : Nat) (a_moH : Nat) (a_moS : Nat) (a_moF : Nat) (a_moT : Nat) (a_moP : Nat) (a_moQ : Nat) (a_moA : Nat) (a_moB : Nat) (a_moD : Nat) (sz : Nat) (mo_e : Int32) (mo_f : Int32) (mo_codes : Int32) (mo_most : Int32) (mo_minus : Int32) (mo_low : Int32) (mo_function : Int32) (mo_atX : Int32) (mo_atM : Int64) (mo_spanFunction : Int32) (mo_spanRounding : Int32) (mo_spanMany : Int32) (mo_parts : Int32) (mo_shift : Int32) (moP_r : Nat → Int32) (moQ_r : Nat → Int32) (moA_r : Nat → Int64) (moB_r : Nat → Int64) (moD_r : Nat → Int64) (p1 : Int32) (p2 : Int32) (post : Int32 → (Nat → Int32) → (Nat → Int32) → (Nat → Int64) → (Nat → Int64) → Prop) (A : Nat → Prop) (hAe : A = va_A [(a_mo, oX8 a_moR mo_e mo_f mo_codes mo_most mo_minus mo_low mo_function mo_atX mo_atM a_moK a_moH a_moS mo_spanFunction mo_spanRounding mo_spanMany a_moF a_moT mo_parts mo_shift a_moP a_moQ a_moA a_moB a_moD), (a_moP, .inl (cI, 256, .inl moP_r)), (a_moQ, .inl (cI, 256, .inl moQ_r)), (a_moA, .inl (cJ, 256, .inr (.inl moA_r))), (a_moB, .inl (cJ, 256, .inr (.inl moB_r))), (a_moD, .inl (cJ, 256, .inr (.inl moD_r)))] sz) (ho : wp_X8_line post mo_parts mo_shift moP_r moQ_r moA_r moB_r moD_r p1 p2) : Met l yX8_line wsX8_line ({ frames := 1, cells := 0, slots := 0, locals := 26 } : Room) (rw_P D [(cI, .int), (cJ, .long), (cZ, .boolean)] [.ref a_mo, .int p1, .int p2] sz [(a_mo, oX8 a_moR mo_e mo_f mo_codes mo_most mo_minus mo_low mo_function mo_atX mo_atM a_moK a_moH a_moS mo_spanFunction mo_spanRounding mo_spanMany a_moF a_moT mo_parts mo_shift a_moP a_moQ a_moA a_moB a_moD), (a_moP, .inl (cI, 256, .inl moP_r)), (a_moQ, .inl (cI, 256, .inl moQ_r)), (a_moA, .inl (cJ, 256, .inr (.inl moA_r))), (a_moB, .inl (cJ, 256, .inr (.inl moB_r))), (a_moD, .inl (cJ, 256, .inr (.inl moD_r)))]) (va_Qi (fun (r : Int32) (u : (Nat → Int32) × (Nat → Int32) × (Nat → Int64) × (Nat → Int64)) => post r u.1 u.2.1 u.2.2.1 u.2.2.2) (rw_B D A (fun (u : (Nat → Int32) × (Nat → Int32) × (Nat → Int64) × (Nat → Int64)) => [(a_mo, oX8 a_moR mo_e mo_f mo_codes mo_most mo_minus mo_low mo_function mo_atX mo_atM a_moK a_moH a_moS mo_spanFunction mo_spanRounding mo_spanMany a_moF a_moT mo_parts mo_shift a_moP a_moQ a_moA a_moB a_moD), (a_moP, .inl (cI, 256, .inl u.1)), (a_moQ, .inl (cI, 256, .inl u.2.1)), (a_moA, .inl (cJ, 256, .inr (.inl u.2.2.1))), (a_moB, .inl (cJ, 256, .inr (.inl u.2.2.2))), (a_moD, .inl (cJ, 256, .inr (.inl moD_r)))])) A) 0 0 A := by
  refine Met.ofW (cc := cX8_line) (maxL := 18) (ret := (some .int)) (by decide) rfl ?_
  intro p e s m args below meth c s₁ B hml hv
  obtain ⟨hargs, hsz, hP, hK, hN, hD0⟩ := hv
  have hx := B.exec
  have hb := B.bytes
  have hr := B.returns
  have hts := atoms_spec (ws := wsX8_line) B.pre
  have hown : s.vm.findClass RX8 = some m.cls := findClass_of_methodNamed B.named
  have hlocks := B.notSynchronized
  subst hsz
  have hD : va_D A [(a_mo, oX8 a_moR mo_e mo_f mo_codes mo_most mo_minus mo_low mo_function mo_atX mo_atM a_moK a_moH a_moS mo_spanFunction mo_spanRounding mo_spanMany a_moF a_moT mo_parts mo_shift a_moP a_moQ a_moA a_moB a_moD), (a_moP, .inl (cI, 256, .inl moP_r)), (a_moQ, .inl (cI, 256, .inl moQ_r)), (a_moA, .inl (cJ, 256, .inr (.inl moA_r))), (a_moB, .inl (cJ, 256, .inr (.inl moB_r))), (a_moD, .inl (cJ, 256, .inr (.inl moD_r)))] := by rw [hAe]; exact hD0.self
  have hA : ∀ q : Nat, s.heap.size ≤ q → A q := fun q h => by rw [hAe]; exact Or.inr h
  have hS : va_S A s.heap s.heap [] := va_S.rf
  have hl := lv_entry ([.ref a_mo, .int p1, .int p2]) (n := 18) (Nat.le_of_ble_eq_true rfl)
  rw [hargs, lg_entry_eq, ← hargs]
  generalize (lg_sl ([.ref a_mo, .int p1, .int p2]) ++ List.replicate (18 - (lg_sl ([.ref a_mo, .int p1, .int p2])).length) Slot.unset).toArray = ls at hl ⊢
  replace hl : lv_has ls 18 [(0, .ref a_mo), (1, .int p1), (2, .int p2)] := hl
  have hRf : ∀ n, n ≤ 1 → n ≤ (headSpec wsX8_line ({ frames := 1, cells := 0, slots := 0, locals := 26 } : Room)).room.frames := fun n h => h
  have hRl : ∀ n, n ≤ 26 → n ≤ (headSpec wsX8_line ({ frames := 1, cells := 0, slots := 0, locals := 26 } : Room)).room.locals := fun n h => h
  generalize (headSpec wsX8_line ({ frames := 1, cells := 0, slots := 0, locals := 26 } : Room)).room = R at hRf hRl ⊢
  generalize hQ : MQ below _ args s 0 0 _ = Q
  have C_230 : ∀ n : Nat, ∀ (moP_r : Nat → Int32) (moQ_r : Nat → Int32) (moA_r : Nat → Int64) (moB_r : Nat → Int64) (x9 : Int32) (x11 : Int64) (x13 : Int64) (x15 : Int32) (H : Heap) (locs : List Loc) (ls : Array Slot), wp_X8_line_230 post  mo_parts moD_r p1 n moP_r moQ_r moA_r moB_r x9 x11 x13 x15 → va_P D vwCl [(a_mo, oX8 a_moR mo_e mo_f mo_codes mo_most mo_minus mo_low mo_function mo_atX mo_atM a_moK a_moH a_moS mo_spanFunction mo_spanRounding mo_spanMany a_moF a_moT mo_parts mo_shift a_moP a_moQ a_moA a_moB a_moD), (a_moP, .inl (cI, 256, .inl moP_r)), (a_moQ, .inl (cI, 256, .inl moQ_r)), (a_moA, .inl (cJ, 256, .inr (.inl moA_r))), (a_moB, .inl (cJ, 256, .inr (.inl moB_r))), (a_moD, .inl (cJ, 256, .inr (.inl moD_r)))] H → va_D A [(a_mo, oX8 a_moR mo_e mo_f mo_codes mo_most mo_minus mo_low mo_function mo_atX mo_atM a_moK a_moH a_moS mo_spanFunction mo_spanRounding mo_spanMany a_moF a_moT mo_parts mo_shift a_moP a_moQ a_moA a_moB a_moD), (a_moP, .inl (cI, 256, .inl moP_r)), (a_moQ, .inl (cI, 256, .inl moQ_r)), (a_moA, .inl (cJ, 256, .inr (.inl moA_r))), (a_moB, .inl (cJ, 256, .inr (.inl moB_r))), (a_moD, .inl (cJ, 256, .inr (.inl moD_r)))] → va_S A s.heap H locs → lv_has ls 18 [(0, .ref a_mo), (1, .int p1), (9, .int x9), (11, .long x11), (13, .long x13), (15, .int x15)] → W p l e R s m args below meth c H locs 0 0 Q (F0 m 230 ls []) := by
    intro n
    induction n with
    | zero => intro moP_r moQ_r moA_r moB_r x9 x11 x13 x15 H locs ls ho hP hD hS hl; exact ho.elim
    | succ n_230 ih_230 =>
      intro moP_r moQ_r moA_r moB_r x9 x11 x13 x15 H locs ls ho hP hD hS hl
      replace ho : wp_X8_line_230_b post mo_parts moD_r p1 (wp_X8_line_230 post mo_parts moD_r p1 n_230) moP_r moQ_r moA_r moB_r x9 x11 x13 x15 := ho
      unfold wp_X8_line_230_b at ho
      refine lv_iload hx hb dX8_line_230 (lv_at hl 5 rfl) ?_
      refine lv_iload hx hb dX8_line_232 (lv_at hl 2 rfl) ?_
      refine lv_icmp_ge (tgt := 264) hx hb dX8_line_234 (by decide) (fun c_234 => ?_) (fun c_234 => ?_)
      · replace ho := ho.1 c_234
        refine lv_aload_n hx hb dX8_line_264 rfl (lv_at hl 0 rfl) ?_
        refine lv_iload_n hx hb dX8_line_265 rfl (lv_at hl 1 rfl) ?_
        refine lv_iload hx hb dX8_line_266 (lv_at hl 2 rfl) ?_
        refine lv_iconst (v := 1) hx hb dX8_line_268 (by decide) ?_
        refine lv_isub hx hb dX8_line_269 ?_
        refine lv_lload hx hb dX8_line_270 (lv_at hl 4 rfl) ?_
        refine lv_lload hx hb dX8_line_272 (lv_at hl 3 rfl) ?_
        refine ca_Wv (b := a_mo) (As := [.int p1, .int (x9 - (1 : Int32)), .long x13, .long x11]) (rest := []) (wr := [(a_moD, .inl (cJ, 256, .inr (.inl moD_r)))]) (wo := fun u => [(a_mo, oX8 a_moR mo_e mo_f mo_codes mo_most mo_minus mo_low mo_function mo_atX mo_atM a_moK a_moH a_moS mo_spanFunction mo_spanRounding mo_spanMany a_moF a_moT mo_parts mo_shift a_moP a_moQ a_moA a_moB a_moD), (a_moP, .inl (cI, 256, .inl u.1)), (a_moQ, .inl (cI, 256, .inl u.2.1)), (a_moA, .inl (cJ, 256, .inr (.inl u.2.2.1))), (a_moB, .inl (cJ, 256, .inr (.inl u.2.2.2)))]) (wn := fun u => [(a_mo, oX8 a_moR mo_e mo_f mo_codes mo_most mo_minus mo_low mo_function mo_atX mo_atM a_moK a_moH a_moS mo_spanFunction mo_spanRounding mo_spanMany a_moF a_moT mo_parts mo_shift a_moP a_moQ a_moA a_moB a_moD), (a_moP, .inl (cI, 256, .inl u.1)), (a_moQ, .inl (cI, 256, .inl u.2.1)), (a_moA, .inl (cJ, 256, .inr (.inl u.2.2.1))), (a_moB, .inl (cJ, 256, .inr (.inl u.2.2.2))), (a_moD, .inl (cJ, 256, .inr (.inl moD_r)))]) ⟨hx, hb, hml, hown, hts⟩ (c_X8_lays l D cI cJ cZ a_mo a_moR a_moK a_moH a_moS a_moF a_moT a_moP a_moQ a_moA a_moB a_moD H.size mo_e mo_f mo_codes mo_most mo_minus mo_low mo_function mo_atX mo_atM mo_spanFunction mo_spanRounding mo_spanMany mo_parts mo_shift moP_r moQ_r moA_r moB_r p1 (x9 - (1 : Int32)) x13 x11 _ _ rfl ho) (cwV 4 hts gX8_line_X8_lays rfl rfl rfl (by decide +kernel) ⟨hRf _ (Nat.le_of_ble_eq_true rfl), hRl _ (Nat.le_of_ble_eq_true rfl)⟩) hK hN hP hD hS hA [0, 1, 2, 3, 4] [5] [1, 2, 3, 4, 5, 0] rfl rfl (by decide) (by decide) (by decide) (by decide) (fun _ => rfl) 0 7 rfl rfl rfl rfl hl.1 rfl (Nat.le_of_ble_eq_true rfl) dX8_line_274 ⟨Nat.zero_le _, Nat.zero_le _⟩ (fun  u274 H locs ho hP hD hS => ?_)
        obtain ⟨u274_1, u274_2, u274_3, u274_4⟩ := u274
        try dsimp only at ho
        replace hP : va_P D vwCl [(a_mo, oX8 a_moR mo_e mo_f mo_codes mo_most mo_minus mo_low mo_function mo_atX mo_atM a_moK a_moH a_moS mo_spanFunction mo_spanRounding mo_spanMany a_moF a_moT mo_parts mo_shift a_moP a_moQ a_moA a_moB a_moD), (a_moP, .inl (cI, 256, .inl u274_1)), (a_moQ, .inl (cI, 256, .inl u274_2)), (a_moA, .inl (cJ, 256, .inr (.inl u274_3))), (a_moB, .inl (cJ, 256, .inr (.inl u274_4))), (a_moD, .inl (cJ, 256, .inr (.inl moD_r)))] H := hP
        replace hD : va_D A [(a_mo, oX8 a_moR mo_e mo_f mo_codes mo_most mo_minus mo_low mo_function mo_atX mo_atM a_moK a_moH a_moS mo_spanFunction mo_spanRounding mo_spanMany a_moF a_moT mo_parts mo_shift a_moP a_moQ a_moA a_moB a_moD), (a_moP, .inl (cI, 256, .inl u274_1)), (a_moQ, .inl (cI, 256, .inl u274_2)), (a_moA, .inl (cJ, 256, .inr (.inl u274_3))), (a_moB, .inl (cJ, 256, .inr (.inl u274_4))), (a_moD, .inl (cJ, 256, .inr (.inl moD_r)))] := hD
        refine lv_iload hx hb dX8_line_277 (lv_at hl 2 rfl) ?_
        subst hQ; exact W.iret (v := x9) hx hb hr (fun t ht hW => ⟨⟨x9, (u274_1, u274_2, u274_3, u274_4), rfl, ho, by rw [ht]; exact hP, hD⟩, hS.F ht⟩) (fun q hq => hS.2.2 q hq) dX8_line_279
      · replace ho := ho.2 c_234
        refine lv_lload hx hb dX8_line_237 (lv_at hl 4 rfl) ?_
        refine lv_aload_n hx hb dX8_line_239 rfl (lv_at hl 0 rfl) ?_
        refine va_get (D := D) (ci := 7) (v := .ref a_moD) (C := RX8) (T := TX8) (N := 25) hx hb hts in_X8_line_X8 hown hK hP 0 rfl rfl 24 (by decide) (hts (.fieldLink RX8 43 "HardBenchModel" "due" "[J") (List.mem_of_getElem? (i := 4) (by decide +kernel))) (fun _ h9 => h9) rfl dX8_line_240 ?_
        refine lv_iload hx hb dX8_line_243 (lv_at hl 5 rfl) ?_
        have o_245 := ho.1
        replace ho := ho.2
        refine va_lald hx hb hK hP 5 1 rfl rfl o_245 dX8_line_245 ?_
        refine lv_lload hx hb dX8_line_246 (lv_at hl 3 rfl) ?_
        refine lv_iload hx hb dX8_line_248 (lv_at hl 5 rfl) ?_
        refine lv_i2l hx hb dX8_line_250 rfl ?_
        refine lv_lmul hx hb dX8_line_251 ?_
        refine lv_lsub hx hb dX8_line_252 ?_
        refine va_mmax_long hx hb (hml.trans hl.1.symm) hown (hts (.methodLink RX8 220 Lib.MathLoose.max_long.x) (List.mem_of_getElem? (i := 9) (by decide +kernel))) (hts (.static Lib.MathLoose.max_long.x) (List.mem_of_getElem? (i := 10) (by decide +kernel))) (hts (.initialized "java/lang/Math") (List.mem_of_getElem? (i := 7) (by decide +kernel))) (hts (.code Lib.MathLoose.max_long.x Lib.MathLoose.max_long.code 4 (some .long)) (List.mem_of_getElem? (i := 11) (by decide +kernel))) (hRf 1 (Nat.le_of_ble_eq_true rfl)) (hRl _ (Nat.le_of_ble_eq_true rfl)) (Nat.zero_le _) (Nat.zero_le _) dX8_line_253 ?_
        refine lv_lstore (lv' := [(13, .long (if ((moD_r x15.toNatClampNeg) - (x11 * x15.toInt64)) < x13 then x13 else ((moD_r x15.toNatClampNeg) - (x11 * x15.toInt64)))), (0, .ref a_mo), (1, .int p1), (9, .int x9), (11, .long x11), (15, .int x15)]) hx hb dX8_line_256 hl (by decide) rfl (fun ls hl => ?_)
        refine lv_iinc (v := (x15 + (1 : Int32))) (lv' := [(15, .int (x15 + (1 : Int32))), (13, .long (if ((moD_r x15.toNatClampNeg) - (x11 * x15.toInt64)) < x13 then x13 else ((moD_r x15.toNatClampNeg) - (x11 * x15.toInt64)))), (0, .ref a_mo), (1, .int p1), (9, .int x9), (11, .long x11)]) hx hb dX8_line_258 hl (k := 5) rfl rfl (by decide) rfl (fun ls hl => ?_)
        refine lv_goto (tgt := 230) hx hb dX8_line_261 (by decide) ?_
        exact ih_230 moP_r moQ_r moA_r moB_r x9 x11 (if ((moD_r x15.toNatClampNeg) - (x11 * x15.toInt64)) < x13 then x13 else ((moD_r x15.toNatClampNeg) - (x11 * x15.toInt64))) (x15 + (1 : Int32)) H locs ls ho hP hD hS (lv_sub hl [2, 3, 4, 5, 1, 0] rfl)
  have C_211 : ∀ (moP_r : Nat → Int32) (moQ_r : Nat → Int32) (moA_r : Nat → Int64) (moB_r : Nat → Int64) (x9 : Int32) (y0 : Int64) (H : Heap) (locs : List Loc) (ls : Array Slot), wp_X8_line_211 post  mo_parts moP_r moQ_r moA_r moB_r moD_r p1 x9 y0 → va_P D vwCl [(a_mo, oX8 a_moR mo_e mo_f mo_codes mo_most mo_minus mo_low mo_function mo_atX mo_atM a_moK a_moH a_moS mo_spanFunction mo_spanRounding mo_spanMany a_moF a_moT mo_parts mo_shift a_moP a_moQ a_moA a_moB a_moD), (a_moP, .inl (cI, 256, .inl moP_r)), (a_moQ, .inl (cI, 256, .inl moQ_r)), (a_moA, .inl (cJ, 256, .inr (.inl moA_r))), (a_moB, .inl (cJ, 256, .inr (.inl moB_r))), (a_moD, .inl (cJ, 256, .inr (.inl moD_r)))] H → va_D A [(a_mo, oX8 a_moR mo_e mo_f mo_codes mo_most mo_minus mo_low mo_function mo_atX mo_atM a_moK a_moH a_moS mo_spanFunction mo_spanRounding mo_spanMany a_moF a_moT mo_parts mo_shift a_moP a_moQ a_moA a_moB a_moD), (a_moP, .inl (cI, 256, .inl moP_r)), (a_moQ, .inl (cI, 256, .inl moQ_r)), (a_moA, .inl (cJ, 256, .inr (.inl moA_r))), (a_moB, .inl (cJ, 256, .inr (.inl moB_r))), (a_moD, .inl (cJ, 256, .inr (.inl moD_r)))] → va_S A s.heap H locs → lv_has ls 18 [(0, .ref a_mo), (1, .int p1), (9, .int x9)] → W p l e R s m args below meth c H locs 0 0 Q (F0 m 211 ls [.long y0]) := by
    intro moP_r moQ_r moA_r moB_r x9 y0 H locs ls ho hP hD hS hl
    unfold wp_X8_line_211 at ho
    refine lv_lstore (lv' := [(11, .long y0), (0, .ref a_mo), (1, .int p1), (9, .int x9)]) hx hb dX8_line_211 hl (by decide) rfl (fun ls hl => ?_)
    refine lv_aload_n hx hb dX8_line_213 rfl (lv_at hl 1 rfl) ?_
    refine va_get (D := D) (ci := 7) (v := .ref a_moD) (C := RX8) (T := TX8) (N := 25) hx hb hts in_X8_line_X8 hown hK hP 0 rfl rfl 24 (by decide) (hts (.fieldLink RX8 43 "HardBenchModel" "due" "[J") (List.mem_of_getElem? (i := 4) (by decide +kernel))) (fun _ h9 => h9) rfl dX8_line_214 ?_
    refine lv_iload_n hx hb dX8_line_217 rfl (lv_at hl 2 rfl) ?_
    have o_218 := ho.1
    replace ho := ho.2
    refine va_lald hx hb hK hP 5 1 rfl rfl o_218 dX8_line_218 ?_
    refine lv_lload hx hb dX8_line_219 (lv_at hl 0 rfl) ?_
    refine lv_iload_n hx hb dX8_line_221 rfl (lv_at hl 2 rfl) ?_
    refine lv_i2l hx hb dX8_line_222 rfl ?_
    refine lv_lmul hx hb dX8_line_223 ?_
    refine lv_lsub hx hb dX8_line_224 ?_
    refine lv_lstore (lv' := [(13, .long ((moD_r p1.toNatClampNeg) - (y0 * p1.toInt64))), (11, .long y0), (0, .ref a_mo), (1, .int p1), (9, .int x9)]) hx hb dX8_line_225 hl (by decide) rfl (fun ls hl => ?_)
    refine lv_iload_n hx hb dX8_line_227 rfl (lv_at hl 3 rfl) ?_
    refine lv_istore (lv' := [(15, .int p1), (13, .long ((moD_r p1.toNatClampNeg) - (y0 * p1.toInt64))), (11, .long y0), (0, .ref a_mo), (1, .int p1), (9, .int x9)]) hx hb dX8_line_228 hl (by decide) rfl (fun ls hl => ?_)
    obtain ⟨n_230, ho⟩ := ho
    exact C_230 n_230 moP_r moQ_r moA_r moB_r x9 y0 ((moD_r p1.toNatClampNeg) - (y0 * p1.toInt64)) p1 H locs ls ho hP hD hS (lv_sub hl [3, 4, 5, 2, 1, 0] rfl)
  have C_35 : ∀ n : Nat, ∀ (moP_r : Nat → Int32) (moQ_r : Nat → Int32) (moA_r : Nat → Int64) (moB_r : Nat → Int64) (x3 : Int64) (x5 : Int64) (x7 : Int64) (x9 : Int32) (x10 : Int32) (H : Heap) (locs : List Loc) (ls : Array Slot), wp_X8_line_35 post  mo_parts moD_r p1 p2 n moP_r moQ_r moA_r moB_r x3 x5 x7 x9 x10 → va_P D vwCl [(a_mo, oX8 a_moR mo_e mo_f mo_codes mo_most mo_minus mo_low mo_function mo_atX mo_atM a_moK a_moH a_moS mo_spanFunction mo_spanRounding mo_spanMany a_moF a_moT mo_parts mo_shift a_moP a_moQ a_moA a_moB a_moD), (a_moP, .inl (cI, 256, .inl moP_r)), (a_moQ, .inl (cI, 256, .inl moQ_r)), (a_moA, .inl (cJ, 256, .inr (.inl moA_r))), (a_moB, .inl (cJ, 256, .inr (.inl moB_r))), (a_moD, .inl (cJ, 256, .inr (.inl moD_r)))] H → va_D A [(a_mo, oX8 a_moR mo_e mo_f mo_codes mo_most mo_minus mo_low mo_function mo_atX mo_atM a_moK a_moH a_moS mo_spanFunction mo_spanRounding mo_spanMany a_moF a_moT mo_parts mo_shift a_moP a_moQ a_moA a_moB a_moD), (a_moP, .inl (cI, 256, .inl moP_r)), (a_moQ, .inl (cI, 256, .inl moQ_r)), (a_moA, .inl (cJ, 256, .inr (.inl moA_r))), (a_moB, .inl (cJ, 256, .inr (.inl moB_r))), (a_moD, .inl (cJ, 256, .inr (.inl moD_r)))] → va_S A s.heap H locs → lv_has ls 18 [(0, .ref a_mo), (1, .int p1), (2, .int p2), (3, .long x3), (5, .long x5), (7, .long x7), (9, .int x9), (10, .int x10)] → W p l e R s m args below meth c H locs 0 0 Q (F0 m 35 ls []) := by
    intro n
    induction n with
    | zero => intro moP_r moQ_r moA_r moB_r x3 x5 x7 x9 x10 H locs ls ho hP hD hS hl; exact ho.elim
    | succ n_35 ih_35 =>
      have C_181 : ∀ (moP_r : Nat → Int32) (moQ_r : Nat → Int32) (moA_r : Nat → Int64) (moB_r : Nat → Int64) (x3 : Int64) (x5 : Int64) (x7 : Int64) (x9 : Int32) (y0 : Int32) (H : Heap) (locs : List Loc) (ls : Array Slot), wp_X8_line_181 post (wp_X8_line_35 post mo_parts moD_r p1 p2 n_35) moP_r moQ_r moA_r moB_r x3 x5 x7 x9 y0 → va_P D vwCl [(a_mo, oX8 a_moR mo_e mo_f mo_codes mo_most mo_minus mo_low mo_function mo_atX mo_atM a_moK a_moH a_moS mo_spanFunction mo_spanRounding mo_spanMany a_moF a_moT mo_parts mo_shift a_moP a_moQ a_moA a_moB a_moD), (a_moP, .inl (cI, 256, .inl moP_r)), (a_moQ, .inl (cI, 256, .inl moQ_r)), (a_moA, .inl (cJ, 256, .inr (.inl moA_r))), (a_moB, .inl (cJ, 256, .inr (.inl moB_r))), (a_moD, .inl (cJ, 256, .inr (.inl moD_r)))] H → va_D A [(a_mo, oX8 a_moR mo_e mo_f mo_codes mo_most mo_minus mo_low mo_function mo_atX mo_atM a_moK a_moH a_moS mo_spanFunction mo_spanRounding mo_spanMany a_moF a_moT mo_parts mo_shift a_moP a_moQ a_moA a_moB a_moD), (a_moP, .inl (cI, 256, .inl moP_r)), (a_moQ, .inl (cI, 256, .inl moQ_r)), (a_moA, .inl (cJ, 256, .inr (.inl moA_r))), (a_moB, .inl (cJ, 256, .inr (.inl moB_r))), (a_moD, .inl (cJ, 256, .inr (.inl moD_r)))] → va_S A s.heap H locs → lv_has ls 18 [(0, .ref a_mo), (1, .int p1), (2, .int p2), (3, .long x3), (5, .long x5), (7, .long x7), (9, .int x9)] → W p l e R s m args below meth c H locs 0 0 Q (F0 m 181 ls [.int y0]) := by
        intro moP_r moQ_r moA_r moB_r x3 x5 x7 x9 y0 H locs ls ho hP hD hS hl
        unfold wp_X8_line_181 at ho
        refine lv_istore (lv' := [(10, .int y0), (0, .ref a_mo), (1, .int p1), (2, .int p2), (3, .long x3), (5, .long x5), (7, .long x7), (9, .int x9)]) hx hb dX8_line_181 hl (by decide) rfl (fun ls hl => ?_)
        refine lv_goto (tgt := 35) hx hb dX8_line_183 (by decide) ?_
        exact ih_35 moP_r moQ_r moA_r moB_r x3 x5 x7 x9 y0 H locs ls ho hP hD hS (lv_sub hl [1, 2, 3, 4, 5, 6, 7, 0] rfl)
      have C_149 : ∀ (moP_r : Nat → Int32) (moQ_r : Nat → Int32) (moA_r : Nat → Int64) (moB_r : Nat → Int64) (x3 : Int64) (x5 : Int64) (x7 : Int64) (x9 : Int32) (x11 : Int64) (x13 : Int64) (y0 : Int32) (H : Heap) (locs : List Loc) (ls : Array Slot), wp_X8_line_149 post (wp_X8_line_35 post mo_parts moD_r p1 p2 n_35) moP_r moQ_r moA_r moB_r p2 x3 x5 x7 x9 x11 x13 y0 → va_P D vwCl [(a_mo, oX8 a_moR mo_e mo_f mo_codes mo_most mo_minus mo_low mo_function mo_atX mo_atM a_moK a_moH a_moS mo_spanFunction mo_spanRounding mo_spanMany a_moF a_moT mo_parts mo_shift a_moP a_moQ a_moA a_moB a_moD), (a_moP, .inl (cI, 256, .inl moP_r)), (a_moQ, .inl (cI, 256, .inl moQ_r)), (a_moA, .inl (cJ, 256, .inr (.inl moA_r))), (a_moB, .inl (cJ, 256, .inr (.inl moB_r))), (a_moD, .inl (cJ, 256, .inr (.inl moD_r)))] H → va_D A [(a_mo, oX8 a_moR mo_e mo_f mo_codes mo_most mo_minus mo_low mo_function mo_atX mo_atM a_moK a_moH a_moS mo_spanFunction mo_spanRounding mo_spanMany a_moF a_moT mo_parts mo_shift a_moP a_moQ a_moA a_moB a_moD), (a_moP, .inl (cI, 256, .inl moP_r)), (a_moQ, .inl (cI, 256, .inl moQ_r)), (a_moA, .inl (cJ, 256, .inr (.inl moA_r))), (a_moB, .inl (cJ, 256, .inr (.inl moB_r))), (a_moD, .inl (cJ, 256, .inr (.inl moD_r)))] → va_S A s.heap H locs → lv_has ls 18 [(0, .ref a_mo), (1, .int p1), (2, .int p2), (3, .long x3), (5, .long x5), (7, .long x7), (9, .int x9), (11, .long x11), (13, .long x13)] → W p l e R s m args below meth c H locs 0 0 Q (F0 m 149 ls [.int y0]) := by
        intro moP_r moQ_r moA_r moB_r x3 x5 x7 x9 x11 x13 y0 H locs ls ho hP hD hS hl
        unfold wp_X8_line_149 at ho
        refine lv_istore (lv' := [(10, .int y0), (0, .ref a_mo), (1, .int p1), (2, .int p2), (3, .long x3), (5, .long x5), (7, .long x7), (9, .int x9), (11, .long x11), (13, .long x13)]) hx hb dX8_line_149 hl (by decide) rfl (fun ls hl => ?_)
        refine lv_iload hx hb dX8_line_151 (lv_at hl 0 rfl) ?_
        refine lv_if_ne (tgt := 159) hx hb dX8_line_153 (by decide) (fun c_153 => ?_) (fun c_153 => ?_)
        · replace ho := ho.1 c_153
          refine lv_lload hx hb dX8_line_159 (lv_at hl 8 rfl) ?_
          refine lv_lstore (lv' := [(5, .long x11), (10, .int y0), (0, .ref a_mo), (1, .int p1), (2, .int p2), (3, .long x3), (7, .long x7), (9, .int x9), (11, .long x11), (13, .long x13)]) hx hb dX8_line_161 hl (by decide) rfl (fun ls hl => ?_)
          refine lv_lload hx hb dX8_line_163 (lv_at hl 9 rfl) ?_
          refine lv_lstore (lv' := [(7, .long x13), (5, .long x11), (10, .int y0), (0, .ref a_mo), (1, .int p1), (2, .int p2), (3, .long x3), (9, .int x9), (11, .long x11), (13, .long x13)]) hx hb dX8_line_165 hl (by decide) rfl (fun ls hl => ?_)
          refine lv_iinc (v := (x9 + (1 : Int32))) (lv' := [(9, .int (x9 + (1 : Int32))), (7, .long x13), (5, .long x11), (10, .int y0), (0, .ref a_mo), (1, .int p1), (2, .int p2), (3, .long x3), (11, .long x11), (13, .long x13)]) hx hb dX8_line_167 hl (k := 7) rfl rfl (by decide) rfl (fun ls hl => ?_)
          refine lv_iload hx hb dX8_line_170 (lv_at hl 0 rfl) ?_
          refine lv_iload_n hx hb dX8_line_172 rfl (lv_at hl 6 rfl) ?_
          refine lv_icmp_ge (tgt := 180) hx hb dX8_line_173 (by decide) (fun c_173 => ?_) (fun c_173 => ?_)
          · replace ho := ho.1 c_173
            refine lv_iconst (v := 0) hx hb dX8_line_180 (by decide) ?_
            exact C_181 moP_r moQ_r moA_r moB_r x3 x11 x13 (x9 + (1 : Int32)) (0 : Int32) H locs ls ho hP hD hS (lv_sub hl [4, 5, 6, 7, 2, 1, 0] rfl)
          · replace ho := ho.2 c_173
            refine lv_iconst (v := 1) hx hb dX8_line_176 (by decide) ?_
            refine lv_goto (tgt := 181) hx hb dX8_line_177 (by decide) ?_
            exact C_181 moP_r moQ_r moA_r moB_r x3 x11 x13 (x9 + (1 : Int32)) (1 : Int32) H locs ls ho hP hD hS (lv_sub hl [4, 5, 6, 7, 2, 1, 0] rfl)
        · replace ho := ho.2 c_153
          refine lv_goto (tgt := 35) hx hb dX8_line_156 (by decide) ?_
          exact ih_35 moP_r moQ_r moA_r moB_r x3 x5 x7 x9 y0 H locs ls ho hP hD hS (lv_sub hl [1, 2, 3, 4, 5, 6, 7, 0] rfl)
      have C_51 : ∀ n : Nat, ∀ (moP_r : Nat → Int32) (moQ_r : Nat → Int32) (moA_r : Nat → Int64) (moB_r : Nat → Int64) (x3 : Int64) (x5 : Int64) (x7 : Int64) (x9 : Int32) (x11 : Int64) (x13 : Int64) (x15 : Int32) (H : Heap) (locs : List Loc) (ls : Array Slot), wp_X8_line_51 post (wp_X8_line_35 post mo_parts moD_r p1 p2 n_35) moD_r p2 n moP_r moQ_r moA_r moB_r x3 x5 x7 x9 x11 x13 x15 → va_P D vwCl [(a_mo, oX8 a_moR mo_e mo_f mo_codes mo_most mo_minus mo_low mo_function mo_atX mo_atM a_moK a_moH a_moS mo_spanFunction mo_spanRounding mo_spanMany a_moF a_moT mo_parts mo_shift a_moP a_moQ a_moA a_moB a_moD), (a_moP, .inl (cI, 256, .inl moP_r)), (a_moQ, .inl (cI, 256, .inl moQ_r)), (a_moA, .inl (cJ, 256, .inr (.inl moA_r))), (a_moB, .inl (cJ, 256, .inr (.inl moB_r))), (a_moD, .inl (cJ, 256, .inr (.inl moD_r)))] H → va_D A [(a_mo, oX8 a_moR mo_e mo_f mo_codes mo_most mo_minus mo_low mo_function mo_atX mo_atM a_moK a_moH a_moS mo_spanFunction mo_spanRounding mo_spanMany a_moF a_moT mo_parts mo_shift a_moP a_moQ a_moA a_moB a_moD), (a_moP, .inl (cI, 256, .inl moP_r)), (a_moQ, .inl (cI, 256, .inl moQ_r)), (a_moA, .inl (cJ, 256, .inr (.inl moA_r))), (a_moB, .inl (cJ, 256, .inr (.inl moB_r))), (a_moD, .inl (cJ, 256, .inr (.inl moD_r)))] → va_S A s.heap H locs → lv_has ls 18 [(0, .ref a_mo), (1, .int p1), (2, .int p2), (3, .long x3), (5, .long x5), (7, .long x7), (9, .int x9), (11, .long x11), (13, .long x13), (15, .int x15)] → W p l e R s m args below meth c H locs 0 0 Q (F0 m 51 ls []) := by
        intro n
        induction n with
        | zero => intro moP_r moQ_r moA_r moB_r x3 x5 x7 x9 x11 x13 x15 H locs ls ho hP hD hS hl; exact ho.elim
        | succ n_51 ih_51 =>
          intro moP_r moQ_r moA_r moB_r x3 x5 x7 x9 x11 x13 x15 H locs ls ho hP hD hS hl
          replace ho : wp_X8_line_51_b post (wp_X8_line_35 post mo_parts moD_r p1 p2 n_35) moD_r p2 (wp_X8_line_51 post (wp_X8_line_35 post mo_parts moD_r p1 p2 n_35) moD_r p2 n_51) moP_r moQ_r moA_r moB_r x3 x5 x7 x9 x11 x13 x15 := ho
          unfold wp_X8_line_51_b at ho
          refine lv_iload hx hb dX8_line_51 (lv_at hl 9 rfl) ?_
          refine lv_iload hx hb dX8_line_53 (lv_at hl 6 rfl) ?_
          refine lv_icmp_ge (tgt := 136) hx hb dX8_line_55 (by decide) (fun c_55 => ?_) (fun c_55 => ?_)
          · replace ho := ho.1 c_55
            refine lv_lload hx hb dX8_line_136 (lv_at hl 7 rfl) ?_
            refine lv_lload hx hb dX8_line_138 (lv_at hl 8 rfl) ?_
            refine W.lcmp hx hb dX8_line_140 ?_
            refine lv_if_gt (tgt := 148) hx hb dX8_line_141 (by decide) (fun c_141 => ?_) (fun c_141 => ?_)
            · replace ho := ho.1 c_141
              refine lv_iconst (v := 0) hx hb dX8_line_148 (by decide) ?_
              exact C_149 moP_r moQ_r moA_r moB_r x3 x5 x7 x9 x11 x13 (0 : Int32) H locs ls ho hP hD hS (lv_sub hl [0, 1, 2, 3, 4, 5, 6, 7, 8] rfl)
            · replace ho := ho.2 c_141
              refine lv_iconst (v := 1) hx hb dX8_line_144 (by decide) ?_
              refine lv_goto (tgt := 149) hx hb dX8_line_145 (by decide) ?_
              exact C_149 moP_r moQ_r moA_r moB_r x3 x5 x7 x9 x11 x13 (1 : Int32) H locs ls ho hP hD hS (lv_sub hl [0, 1, 2, 3, 4, 5, 6, 7, 8] rfl)
          · replace ho := ho.2 c_55
            refine lv_iload hx hb dX8_line_58 (lv_at hl 6 rfl) ?_
            refine lv_iload hx hb dX8_line_60 (lv_at hl 9 rfl) ?_
            refine lv_isub hx hb dX8_line_62 ?_
            refine lv_i2l hx hb dX8_line_63 rfl ?_
            refine lv_lstore (lv' := [(16, .long ((x9 - x15).toInt64)), (0, .ref a_mo), (1, .int p1), (2, .int p2), (3, .long x3), (5, .long x5), (7, .long x7), (9, .int x9), (11, .long x11), (13, .long x13), (15, .int x15)]) hx hb dX8_line_64 hl (by decide) rfl (fun ls hl => ?_)
            refine lv_lload hx hb dX8_line_66 (lv_at hl 9 rfl) ?_
            refine lv_aload_n hx hb dX8_line_68 rfl (lv_at hl 1 rfl) ?_
            refine va_get (D := D) (ci := 7) (v := .ref a_moD) (C := RX8) (T := TX8) (N := 25) hx hb hts in_X8_line_X8 hown hK hP 0 rfl rfl 24 (by decide) (hts (.fieldLink RX8 43 "HardBenchModel" "due" "[J") (List.mem_of_getElem? (i := 4) (by decide +kernel))) (fun _ h9 => h9) rfl dX8_line_69 ?_
            refine lv_iload hx hb dX8_line_72 (lv_at hl 7 rfl) ?_
            have o_74 := ho.1
            replace ho := ho.2
            refine va_lald hx hb hK hP 5 1 rfl rfl o_74 dX8_line_74 ?_
            refine lv_aload_n hx hb dX8_line_75 rfl (lv_at hl 1 rfl) ?_
            refine va_get (D := D) (ci := 7) (v := .ref a_moD) (C := RX8) (T := TX8) (N := 25) hx hb hts in_X8_line_X8 hown hK hP 0 rfl rfl 24 (by decide) (hts (.fieldLink RX8 43 "HardBenchModel" "due" "[J") (List.mem_of_getElem? (i := 4) (by decide +kernel))) (fun _ h9 => h9) rfl dX8_line_76 ?_
            refine lv_iload hx hb dX8_line_79 (lv_at hl 10 rfl) ?_
            have o_81 := ho.1
            replace ho := ho.2
            refine va_lald hx hb hK hP 5 1 rfl rfl o_81 dX8_line_81 ?_
            refine lv_lsub hx hb dX8_line_82 ?_
            refine lv_lload_n hx hb dX8_line_83 rfl (lv_at hl 4 rfl) ?_
            refine lv_ladd hx hb dX8_line_84 ?_
            refine lv_lconst (v := 1) hx hb dX8_line_85 (by decide) ?_
            refine lv_lsub hx hb dX8_line_86 ?_
            refine lv_lload hx hb dX8_line_87 (lv_at hl 0 rfl) ?_
            refine ca_Sl (As := [.long ((((moD_r x9.toNatClampNeg) - (moD_r x15.toNatClampNeg)) + x3) - (1 : Int64)), .long ((x9 - x15).toInt64)]) (rest := [.long x13]) ⟨hx, hb, hml, hown, hts⟩ (c_J9_floorDiv_f86c9 l D cI cJ cZ   ((((moD_r x9.toNatClampNeg) - (moD_r x15.toNatClampNeg)) + x3) - (1 : Int64)) ((x9 - x15).toInt64) _ ho) (va_cwS 2 hts gX8_line_J9_floorDiv_f86c9 rfl rfl rfl (by decide +kernel) ⟨hRf _ (Nat.le_of_ble_eq_true rfl), hRl _ (Nat.le_of_ble_eq_true rfl)⟩) hK hN hP [] rfl rfl hl.1 rfl (Nat.le_of_ble_eq_true rfl) dX8_line_89 ⟨Nat.zero_le _, Nat.zero_le _⟩ (fun r89 ho => ?_)
            refine va_mmin_long hx hb (hml.trans hl.1.symm) hown (hts (.methodLink RX8 217 Lib.MathLoose.min_long.x) (List.mem_of_getElem? (i := 5) (by decide +kernel))) (hts (.static Lib.MathLoose.min_long.x) (List.mem_of_getElem? (i := 6) (by decide +kernel))) (hts (.initialized "java/lang/Math") (List.mem_of_getElem? (i := 7) (by decide +kernel))) (hts (.code Lib.MathLoose.min_long.x Lib.MathLoose.min_long.code 4 (some .long)) (List.mem_of_getElem? (i := 8) (by decide +kernel))) (hRf 1 (Nat.le_of_ble_eq_true rfl)) (hRl _ (Nat.le_of_ble_eq_true rfl)) (Nat.zero_le _) (Nat.zero_le _) dX8_line_92 ?_
            refine lv_lstore (lv' := [(13, .long (if r89 < x13 then r89 else x13)), (16, .long ((x9 - x15).toInt64)), (0, .ref a_mo), (1, .int p1), (2, .int p2), (3, .long x3), (5, .long x5), (7, .long x7), (9, .int x9), (11, .long x11), (15, .int x15)]) hx hb dX8_line_95 hl (by decide) rfl (fun ls hl => ?_)
            refine lv_lload hx hb dX8_line_97 (lv_at hl 9 rfl) ?_
            refine lv_aload_n hx hb dX8_line_99 rfl (lv_at hl 2 rfl) ?_
            refine va_get (D := D) (ci := 7) (v := .ref a_moD) (C := RX8) (T := TX8) (N := 25) hx hb hts in_X8_line_X8 hown hK hP 0 rfl rfl 24 (by decide) (hts (.fieldLink RX8 43 "HardBenchModel" "due" "[J") (List.mem_of_getElem? (i := 4) (by decide +kernel))) (fun _ h9 => h9) rfl dX8_line_100 ?_
            refine lv_iload hx hb dX8_line_103 (lv_at hl 8 rfl) ?_
            have o_105 := ho.1
            replace ho := ho.2
            refine va_lald hx hb hK hP 5 1 rfl rfl o_105 dX8_line_105 ?_
            refine lv_aload_n hx hb dX8_line_106 rfl (lv_at hl 2 rfl) ?_
            refine va_get (D := D) (ci := 7) (v := .ref a_moD) (C := RX8) (T := TX8) (N := 25) hx hb hts in_X8_line_X8 hown hK hP 0 rfl rfl 24 (by decide) (hts (.fieldLink RX8 43 "HardBenchModel" "due" "[J") (List.mem_of_getElem? (i := 4) (by decide +kernel))) (fun _ h9 => h9) rfl dX8_line_107 ?_
            refine lv_iload hx hb dX8_line_110 (lv_at hl 10 rfl) ?_
            have o_112 := ho.1
            replace ho := ho.2
            refine va_lald hx hb hK hP 5 1 rfl rfl o_112 dX8_line_112 ?_
            refine lv_lsub hx hb dX8_line_113 ?_
            refine lv_lload_n hx hb dX8_line_114 rfl (lv_at hl 5 rfl) ?_
            refine lv_lsub hx hb dX8_line_115 ?_
            refine lv_lconst (v := 1) hx hb dX8_line_116 (by decide) ?_
            refine lv_ladd hx hb dX8_line_117 ?_
            refine lv_lneg hx hb dX8_line_118 ?_
            refine lv_lload hx hb dX8_line_119 (lv_at hl 1 rfl) ?_
            refine ca_Sl (As := [.long (-((((moD_r x9.toNatClampNeg) - (moD_r x15.toNatClampNeg)) - x3) + (1 : Int64))), .long ((x9 - x15).toInt64)]) (rest := [.long x11]) ⟨hx, hb, hml, hown, hts⟩ (c_J9_floorDiv_f86c9 l D cI cJ cZ   (-((((moD_r x9.toNatClampNeg) - (moD_r x15.toNatClampNeg)) - x3) + (1 : Int64))) ((x9 - x15).toInt64) _ ho) (va_cwS 2 hts gX8_line_J9_floorDiv_f86c9 rfl rfl rfl (by decide +kernel) ⟨hRf _ (Nat.le_of_ble_eq_true rfl), hRl _ (Nat.le_of_ble_eq_true rfl)⟩) hK hN hP [] rfl rfl hl.1 rfl (Nat.le_of_ble_eq_true rfl) dX8_line_121 ⟨Nat.zero_le _, Nat.zero_le _⟩ (fun r121 ho => ?_)
            refine lv_lneg hx hb dX8_line_124 ?_
            refine va_mmax_long hx hb (hml.trans hl.1.symm) hown (hts (.methodLink RX8 220 Lib.MathLoose.max_long.x) (List.mem_of_getElem? (i := 9) (by decide +kernel))) (hts (.static Lib.MathLoose.max_long.x) (List.mem_of_getElem? (i := 10) (by decide +kernel))) (hts (.initialized "java/lang/Math") (List.mem_of_getElem? (i := 7) (by decide +kernel))) (hts (.code Lib.MathLoose.max_long.x Lib.MathLoose.max_long.code 4 (some .long)) (List.mem_of_getElem? (i := 11) (by decide +kernel))) (hRf 1 (Nat.le_of_ble_eq_true rfl)) (hRl _ (Nat.le_of_ble_eq_true rfl)) (Nat.zero_le _) (Nat.zero_le _) dX8_line_125 ?_
            refine lv_lstore (lv' := [(11, .long (if (-r121) < x11 then x11 else (-r121))), (13, .long (if r89 < x13 then r89 else x13)), (16, .long ((x9 - x15).toInt64)), (0, .ref a_mo), (1, .int p1), (2, .int p2), (3, .long x3), (5, .long x5), (7, .long x7), (9, .int x9), (15, .int x15)]) hx hb dX8_line_128 hl (by decide) rfl (fun ls hl => ?_)
            refine lv_iinc (v := (x15 + (1 : Int32))) (lv' := [(15, .int (x15 + (1 : Int32))), (11, .long (if (-r121) < x11 then x11 else (-r121))), (13, .long (if r89 < x13 then r89 else x13)), (16, .long ((x9 - x15).toInt64)), (0, .ref a_mo), (1, .int p1), (2, .int p2), (3, .long x3), (5, .long x5), (7, .long x7), (9, .int x9)]) hx hb dX8_line_130 hl (k := 10) rfl rfl (by decide) rfl (fun ls hl => ?_)
            refine lv_goto (tgt := 51) hx hb dX8_line_133 (by decide) ?_
            exact ih_51 moP_r moQ_r moA_r moB_r x3 x5 x7 x9 (if (-r121) < x11 then x11 else (-r121)) (if r89 < x13 then r89 else x13) (x15 + (1 : Int32)) H locs ls ho hP hD hS (lv_sub hl [4, 5, 6, 7, 8, 9, 10, 1, 2, 0] rfl)
      intro moP_r moQ_r moA_r moB_r x3 x5 x7 x9 x10 H locs ls ho hP hD hS hl
      replace ho : wp_X8_line_35_b post mo_parts moD_r p1 p2 (wp_X8_line_35 post mo_parts moD_r p1 p2 n_35) moP_r moQ_r moA_r moB_r x3 x5 x7 x9 x10 := ho
      unfold wp_X8_line_35_b at ho
      refine lv_iload hx hb dX8_line_35 (lv_at hl 7 rfl) ?_
      refine lv_if_eq (tgt := 186) hx hb dX8_line_37 (by decide) (fun c_37 => ?_) (fun c_37 => ?_)
      · replace ho := ho.1 c_37
        refine lv_lload hx hb dX8_line_186 (lv_at hl 4 rfl) ?_
        refine lv_lconst (v := 0) hx hb dX8_line_188 (by decide) ?_
        refine W.lcmp hx hb dX8_line_189 ?_
        refine lv_if_le (tgt := 198) hx hb dX8_line_190 (by decide) (fun c_190 => ?_) (fun c_190 => ?_)
        · replace ho := ho.1 c_190
          refine lv_lload hx hb dX8_line_198 (lv_at hl 5 rfl) ?_
          refine lv_lconst (v := 0) hx hb dX8_line_200 (by decide) ?_
          refine W.lcmp hx hb dX8_line_201 ?_
          refine lv_if_ge (tgt := 210) hx hb dX8_line_202 (by decide) (fun c_202 => ?_) (fun c_202 => ?_)
          · replace ho := ho.1 c_202
            refine lv_lconst (v := 0) hx hb dX8_line_210 (by decide) ?_
            exact C_211 moP_r moQ_r moA_r moB_r x9 (0 : Int64) H locs ls ho hP hD hS (lv_sub hl [0, 1, 6] rfl)
          · replace ho := ho.2 c_202
            refine lv_lload hx hb dX8_line_205 (lv_at hl 5 rfl) ?_
            refine lv_goto (tgt := 211) hx hb dX8_line_207 (by decide) ?_
            exact C_211 moP_r moQ_r moA_r moB_r x9 x7 H locs ls ho hP hD hS (lv_sub hl [0, 1, 6] rfl)
        · replace ho := ho.2 c_190
          refine lv_lload hx hb dX8_line_193 (lv_at hl 4 rfl) ?_
          refine lv_goto (tgt := 211) hx hb dX8_line_195 (by decide) ?_
          exact C_211 moP_r moQ_r moA_r moB_r x9 x5 H locs ls ho hP hD hS (lv_sub hl [0, 1, 6] rfl)
      · replace ho := ho.2 c_37
        refine lv_lload hx hb dX8_line_40 (lv_at hl 4 rfl) ?_
        refine lv_lstore (lv' := [(11, .long x5), (0, .ref a_mo), (1, .int p1), (2, .int p2), (3, .long x3), (5, .long x5), (7, .long x7), (9, .int x9), (10, .int x10)]) hx hb dX8_line_42 hl (by decide) rfl (fun ls hl => ?_)
        refine lv_lload hx hb dX8_line_44 (lv_at hl 6 rfl) ?_
        refine lv_lstore (lv' := [(13, .long x7), (11, .long x5), (0, .ref a_mo), (1, .int p1), (2, .int p2), (3, .long x3), (5, .long x5), (7, .long x7), (9, .int x9), (10, .int x10)]) hx hb dX8_line_46 hl (by decide) rfl (fun ls hl => ?_)
        refine lv_iload_n hx hb dX8_line_48 rfl (lv_at hl 3 rfl) ?_
        refine lv_istore (lv' := [(15, .int p1), (13, .long x7), (11, .long x5), (0, .ref a_mo), (1, .int p1), (2, .int p2), (3, .long x3), (5, .long x5), (7, .long x7), (9, .int x9), (10, .int x10)]) hx hb dX8_line_49 hl (by decide) rfl (fun ls hl => ?_)
        obtain ⟨n_51, ho⟩ := ho
        exact C_51 n_51 moP_r moQ_r moA_r moB_r x3 x5 x7 x9 x5 x7 p1 H locs ls ho hP hD hS (lv_sub hl [3, 4, 5, 6, 7, 8, 9, 2, 1, 0] rfl)
  have C_33 : ∀ (moP_r : Nat → Int32) (moQ_r : Nat → Int32) (moA_r : Nat → Int64) (moB_r : Nat → Int64) (x3 : Int64) (x5 : Int64) (x7 : Int64) (x9 : Int32) (y0 : Int32) (H : Heap) (locs : List Loc) (ls : Array Slot), wp_X8_line_33 post  mo_parts moP_r moQ_r moA_r moB_r moD_r p1 p2 x3 x5 x7 x9 y0 → va_P D vwCl [(a_mo, oX8 a_moR mo_e mo_f mo_codes mo_most mo_minus mo_low mo_function mo_atX mo_atM a_moK a_moH a_moS mo_spanFunction mo_spanRounding mo_spanMany a_moF a_moT mo_parts mo_shift a_moP a_moQ a_moA a_moB a_moD), (a_moP, .inl (cI, 256, .inl moP_r)), (a_moQ, .inl (cI, 256, .inl moQ_r)), (a_moA, .inl (cJ, 256, .inr (.inl moA_r))), (a_moB, .inl (cJ, 256, .inr (.inl moB_r))), (a_moD, .inl (cJ, 256, .inr (.inl moD_r)))] H → va_D A [(a_mo, oX8 a_moR mo_e mo_f mo_codes mo_most mo_minus mo_low mo_function mo_atX mo_atM a_moK a_moH a_moS mo_spanFunction mo_spanRounding mo_spanMany a_moF a_moT mo_parts mo_shift a_moP a_moQ a_moA a_moB a_moD), (a_moP, .inl (cI, 256, .inl moP_r)), (a_moQ, .inl (cI, 256, .inl moQ_r)), (a_moA, .inl (cJ, 256, .inr (.inl moA_r))), (a_moB, .inl (cJ, 256, .inr (.inl moB_r))), (a_moD, .inl (cJ, 256, .inr (.inl moD_r)))] → va_S A s.heap H locs → lv_has ls 18 [(0, .ref a_mo), (1, .int p1), (2, .int p2), (3, .long x3), (5, .long x5), (7, .long x7), (9, .int x9)] → W p l e R s m args below meth c H locs 0 0 Q (F0 m 33 ls [.int y0]) := by
    intro moP_r moQ_r moA_r moB_r x3 x5 x7 x9 y0 H locs ls ho hP hD hS hl
    unfold wp_X8_line_33 at ho
    refine lv_istore (lv' := [(10, .int y0), (0, .ref a_mo), (1, .int p1), (2, .int p2), (3, .long x3), (5, .long x5), (7, .long x7), (9, .int x9)]) hx hb dX8_line_33 hl (by decide) rfl (fun ls hl => ?_)
    obtain ⟨n_35, ho⟩ := ho
    exact C_35 n_35 moP_r moQ_r moA_r moB_r x3 x5 x7 x9 y0 H locs ls ho hP hD hS (lv_sub hl [1, 2, 3, 4, 5, 6, 7, 0] rfl)
  unfold wp_X8_line at ho
  refine lv_lconst (v := 1) hx hb dX8_line_0 (by decide) ?_
  refine lv_aload_n hx hb dX8_line_1 rfl (lv_at hl 0 rfl) ?_
  refine va_get (D := D) (ci := 7) (v := .int mo_shift) (C := RX8) (T := TX8) (N := 25) hx hb hts in_X8_line_X8 hown hK hP 0 rfl rfl 19 (by decide) (hts (.fieldLink RX8 196 "HardBenchModel" "shift" "I") (List.mem_of_getElem? (i := 1) (by decide +kernel))) (fun _ h9 => h9) rfl dX8_line_2 ?_
  refine lv_lshl hx hb dX8_line_5 rfl ?_
  refine lv_lstore_n (lv' := [(3, .long ((1 : Int64) <<< (mo_shift.toInt64 &&& 63))), (0, .ref a_mo), (1, .int p1), (2, .int p2)]) hx hb dX8_line_6 rfl hl (by decide) rfl (fun ls hl => ?_)
  refine lv_ldc2 hx hb hown (hts (.constantLong RX8 209 (-1000000000000)) (List.mem_of_getElem? (i := 2) (by decide +kernel))) dX8_line_7 ?_
  refine lv_lstore (lv' := [(5, .long (-1000000000000 : Int64)), (3, .long ((1 : Int64) <<< (mo_shift.toInt64 &&& 63))), (0, .ref a_mo), (1, .int p1), (2, .int p2)]) hx hb dX8_line_10 hl (by decide) rfl (fun ls hl => ?_)
  refine lv_ldc2 hx hb hown (hts (.constantLong RX8 211 (1000000000000)) (List.mem_of_getElem? (i := 3) (by decide +kernel))) dX8_line_12 ?_
  refine lv_lstore (lv' := [(7, .long (1000000000000 : Int64)), (5, .long (-1000000000000 : Int64)), (3, .long ((1 : Int64) <<< (mo_shift.toInt64 &&& 63))), (0, .ref a_mo), (1, .int p1), (2, .int p2)]) hx hb dX8_line_15 hl (by decide) rfl (fun ls hl => ?_)
  refine lv_iload_n hx hb dX8_line_17 rfl (lv_at hl 4 rfl) ?_
  refine lv_iconst (v := 1) hx hb dX8_line_18 (by decide) ?_
  refine lv_iadd hx hb dX8_line_19 ?_
  refine lv_istore (lv' := [(9, .int (p1 + (1 : Int32))), (7, .long (1000000000000 : Int64)), (5, .long (-1000000000000 : Int64)), (3, .long ((1 : Int64) <<< (mo_shift.toInt64 &&& 63))), (0, .ref a_mo), (1, .int p1), (2, .int p2)]) hx hb dX8_line_20 hl (by decide) rfl (fun ls hl => ?_)
  refine lv_iload hx hb dX8_line_22 (lv_at hl 0 rfl) ?_
  refine lv_iload_n hx hb dX8_line_24 rfl (lv_at hl 6 rfl) ?_
  refine lv_icmp_ge (tgt := 32) hx hb dX8_line_25 (by decide) (fun c_25 => ?_) (fun c_25 => ?_)
  · replace ho := ho.1 c_25
    refine lv_iconst (v := 0) hx hb dX8_line_32 (by decide) ?_
    exact C_33 moP_r moQ_r moA_r moB_r ((1 : Int64) <<< (mo_shift.toInt64 &&& 63)) (-1000000000000 : Int64) (1000000000000 : Int64) (p1 + (1 : Int32)) (0 : Int32) H locs ls ho hP hD hS (lv_sub hl [4, 5, 6, 3, 2, 1, 0] rfl)
  · replace ho := ho.2 c_25
    refine lv_iconst (v := 1) hx hb dX8_line_28 (by decide) ?_
    refine lv_goto (tgt := 33) hx hb dX8_line_29 (by decide) ?_
    exact C_33 moP_r moQ_r moA_r moB_r ((1 : Int64) <<< (mo_shift.toInt64 &&& 63)) (-1000000000000 : Int64) (1000000000000 : Int64) (p1 + (1 : Int32)) (1 : Int32) H locs ls ho hP hD hS (lv_sub hl [4, 5, 6, 3, 2, 1, 0] rfl)
