def wp_X8_floor_47 (post : Int32 → Prop) (K_9 : Int32 → Int32 → Prop) (x1 : Int32) (x2 : Int32) : Prop := K_9 x1 x2
def wp_X8_floor_9_b (post : Int32 → Prop)  (mo_f : Int32) (mo_low : Int32) (mo_function : Int32) (mo_atX : Int32) (mo_atM : Int64) (K_9 : Int32 → Int32 → Prop) (x1 : Int32) (x2 : Int32) : Prop := (((x2 - x1) ≤ (1 : Int32)) → (post x1)) ∧ ((¬ ((x2 - x1) ≤ (1 : Int32))) → (wp_X8_figure (fun r25 => (wp_X8_power (fun r31 => (wp_X8_stands (fun r34 => (((r34 < 0) → (wp_X8_floor_47 post K_9 x1 ((x1 + x2) / (2 : Int32)))) ∧ ((¬ (r34 < 0)) → (wp_X8_floor_47 post K_9 ((x1 + x2) / (2 : Int32)) x2)))) mo_function mo_atX mo_atM r25.toInt64 r31)) mo_f mo_low ((x1 + x2) / (2 : Int32)))) mo_f ((x1 + x2) / (2 : Int32))))
noncomputable def wp_X8_floor_9 (post : Int32 → Prop)  (mo_f : Int32) (mo_low : Int32) (mo_function : Int32) (mo_atX : Int32) (mo_atM : Int64) (n : Nat) : Int32 → Int32 → Prop := Nat.rec (motive := fun _ => Int32 → Int32 → Prop) (fun _ _ => False) (fun _ K_9 => wp_X8_floor_9_b post mo_f mo_low mo_function mo_atX mo_atM K_9) n
def wp_X8_floor (post : Int32 → Prop) (mo_f : Int32) (mo_most : Int32) (mo_low : Int32) (mo_function : Int32) (mo_atX : Int32) (mo_atM : Int64) : Prop := ∃ n, wp_X8_floor_9 post mo_f mo_low mo_function mo_atX mo_atM n (0 : Int32) (mo_most + (1 : Int32))
set_option maxRecDepth 20000 in
theorem in_X8_floor_X8 : ∀ w ∈ u_ws RX8 TX8 25, w ∈ wsX8_floor := fun w h => (goodIn_r wsX80 [26, 27, 28, 29, 30, 31, 32, 33, 34, 35, 36, 37, 38, 39, 40, 41, 42, 43, 44, 45, 46, 47, 48, 49, 50] (by decide +kernel) (by decide +kernel) w h).1
set_option maxHeartbeats 4000000 in
set_option maxRecDepth 100000 in
theorem c_X8_floor (l : Launch) (D : va_G) (cI cJ cZ : ClassId) (a_mo : Nat) (a_moR : Nat) (a_moK : Nat) (a_moH : Nat) (a_moS : Nat) (a_moF : Nat) (a_moT : Nat) (a_moP : Nat) (a_moQ : Nat) (a_moA : Nat) (a_moB : Nat) (a_moD : Nat) (mo_e : Int32) (mo_f : Int32) (mo_codes : Int32) (mo_most : Int32) (mo_minus : Int32) (mo_low : Int32) (mo_function : Int32) (mo_atX : Int32) (mo_atM : Int64) (mo_spanFunction : Int32) (mo_spanRounding : Int32) (mo_spanMany : Int32) (mo_parts : Int32) (mo_shift : Int32)  (post : Int32 → Prop) (ho : wp_X8_floor post mo_f mo_most mo_low mo_function mo_atX mo_atM) : Met l yX8_floor wsX8_floor ({ frames := 3, cells := 0, slots := 0, locals := 78 } : Room) (ro_P D [(cI, .int), (cJ, .long), (cZ, .boolean)] [.ref a_mo] [(a_mo, oX8 a_moR mo_e mo_f mo_codes mo_most mo_minus mo_low mo_function mo_atX mo_atM a_moK a_moH a_moS mo_spanFunction mo_spanRounding mo_spanMany a_moF a_moT mo_parts mo_shift a_moP a_moQ a_moA a_moB a_moD)]) (vp_Si post) 0 0 (fun _ => False) := by
  refine Met.ofW (cc := cX8_floor) (maxL := 4) (ret := (some .int)) (by decide) rfl ?_
  intro p e s m args below meth c s₁ B hml hv
  obtain ⟨hargs, hP, hK, hN⟩ := hv
  have hx := B.exec
  have hb := B.bytes
  have hr := B.returns
  have hts := atoms_spec (ws := wsX8_floor) B.pre
  have hown : s.vm.findClass RX8 = some m.cls := findClass_of_methodNamed B.named
  have hlocks := B.notSynchronized
  have hl := lv_entry ([.ref a_mo]) (n := 4) (Nat.le_of_ble_eq_true rfl)
  rw [hargs, lg_entry_eq, ← hargs]
  generalize (lg_sl ([.ref a_mo]) ++ List.replicate (4 - (lg_sl ([.ref a_mo])).length) Slot.unset).toArray = ls at hl ⊢
  replace hl : lv_has ls 4 [(0, .ref a_mo)] := hl
  have hRf : ∀ n, n ≤ 3 → n ≤ (headSpec wsX8_floor ({ frames := 3, cells := 0, slots := 0, locals := 78 } : Room)).room.frames := fun n h => h
  have hRl : ∀ n, n ≤ 78 → n ≤ (headSpec wsX8_floor ({ frames := 3, cells := 0, slots := 0, locals := 78 } : Room)).room.locals := fun n h => h
  generalize (headSpec wsX8_floor ({ frames := 3, cells := 0, slots := 0, locals := 78 } : Room)).room = R at hRf hRl ⊢
  generalize hQ : MQ below _ args s 0 0 _ = Q
  have C_9 : ∀ n : Nat, ∀ (x1 : Int32) (x2 : Int32) (ls : Array Slot), wp_X8_floor_9 post  mo_f mo_low mo_function mo_atX mo_atM n x1 x2 → lv_has ls 4 [(0, .ref a_mo), (1, .int x1), (2, .int x2)] → W p l e R s m args below meth c s.heap [] 0 0 Q (F0 m 9 ls []) := by
    intro n
    induction n with
    | zero => intro x1 x2 ls ho hl; exact ho.elim
    | succ n_9 ih_9 =>
      have C_47 : ∀ (x1 : Int32) (x2 : Int32) (ls : Array Slot), wp_X8_floor_47 post (wp_X8_floor_9 post mo_f mo_low mo_function mo_atX mo_atM n_9) x1 x2 → lv_has ls 4 [(0, .ref a_mo), (1, .int x1), (2, .int x2)] → W p l e R s m args below meth c s.heap [] 0 0 Q (F0 m 47 ls []) := by
        intro x1 x2 ls ho hl
        unfold wp_X8_floor_47 at ho
        refine lv_goto (tgt := 9) hx hb dX8_floor_47 (by decide) ?_
        exact ih_9 x1 x2 ls ho (lv_sub hl [0, 1, 2] rfl)
      intro x1 x2 ls ho hl
      replace ho : wp_X8_floor_9_b post mo_f mo_low mo_function mo_atX mo_atM (wp_X8_floor_9 post mo_f mo_low mo_function mo_atX mo_atM n_9) x1 x2 := ho
      unfold wp_X8_floor_9_b at ho
      refine lv_iload_n hx hb dX8_floor_9 rfl (lv_at hl 2 rfl) ?_
      refine lv_iload_n hx hb dX8_floor_10 rfl (lv_at hl 1 rfl) ?_
      refine lv_isub hx hb dX8_floor_11 ?_
      refine lv_iconst (v := 1) hx hb dX8_floor_12 (by decide) ?_
      refine lv_icmp_le (tgt := 50) hx hb dX8_floor_13 (by decide) (fun c_13 => ?_) (fun c_13 => ?_)
      · replace ho := ho.1 c_13
        refine lv_iload_n hx hb dX8_floor_50 rfl (lv_at hl 1 rfl) ?_
        subst hQ; exact W.iret (v := x1) hx hb hr (fun t ht _ => ⟨x1, rfl, ho, ht⟩) (fun _ h => by cases h) dX8_floor_51
      · replace ho := ho.2 c_13
        refine lv_iload_n hx hb dX8_floor_16 rfl (lv_at hl 1 rfl) ?_
        refine lv_iload_n hx hb dX8_floor_17 rfl (lv_at hl 2 rfl) ?_
        refine lv_iadd hx hb dX8_floor_18 ?_
        refine lv_iconst (v := 2) hx hb dX8_floor_19 (by decide) ?_
        refine lv_idiv hx hb dX8_floor_20 (by decide) ?_
        refine lv_istore_n (lv' := [(3, .int ((x1 + x2) / (2 : Int32))), (0, .ref a_mo), (1, .int x1), (2, .int x2)]) hx hb dX8_floor_21 rfl hl (by decide) rfl (fun ls hl => ?_)
        refine lv_aload_n hx hb dX8_floor_22 rfl (lv_at hl 1 rfl) ?_
        refine lv_aload_n hx hb dX8_floor_23 rfl (lv_at hl 1 rfl) ?_
        refine lv_iload_n hx hb dX8_floor_24 rfl (lv_at hl 0 rfl) ?_
        refine ca_Vi (b := a_mo) (As := [.int ((x1 + x2) / (2 : Int32))]) (rest := [.ref a_mo]) ⟨hx, hb, hml, hown, hts⟩ (c_X8_figure l D cI cJ cZ a_mo a_moR a_moK a_moH a_moS a_moF a_moT a_moP a_moQ a_moA a_moB a_moD mo_e mo_f mo_codes mo_most mo_minus mo_low mo_function mo_atX mo_atM mo_spanFunction mo_spanRounding mo_spanMany mo_parts mo_shift ((x1 + x2) / (2 : Int32)) _ ho) (cwV 1 hts gX8_floor_X8_figure rfl rfl rfl (by decide +kernel) ⟨hRf _ (Nat.le_of_ble_eq_true rfl), hRl _ (Nat.le_of_ble_eq_true rfl)⟩) hK hN hP [0] rfl 0 7 rfl rfl rfl rfl hl.1 rfl (Nat.le_of_ble_eq_true rfl) dX8_floor_25 ⟨Nat.zero_le _, Nat.zero_le _⟩ (fun r25 ho => ?_)
        refine lv_i2l hx hb dX8_floor_28 rfl ?_
        refine lv_aload_n hx hb dX8_floor_29 rfl (lv_at hl 1 rfl) ?_
        refine lv_iload_n hx hb dX8_floor_30 rfl (lv_at hl 0 rfl) ?_
        refine ca_Vi (b := a_mo) (As := [.int ((x1 + x2) / (2 : Int32))]) (rest := [.long r25.toInt64, .ref a_mo]) ⟨hx, hb, hml, hown, hts⟩ (c_X8_power l D cI cJ cZ a_mo a_moR a_moK a_moH a_moS a_moF a_moT a_moP a_moQ a_moA a_moB a_moD mo_e mo_f mo_codes mo_most mo_minus mo_low mo_function mo_atX mo_atM mo_spanFunction mo_spanRounding mo_spanMany mo_parts mo_shift ((x1 + x2) / (2 : Int32)) _ ho) (cwV 1 hts gX8_floor_X8_power rfl rfl rfl (by decide +kernel) ⟨hRf _ (Nat.le_of_ble_eq_true rfl), hRl _ (Nat.le_of_ble_eq_true rfl)⟩) hK hN hP [0] rfl 0 7 rfl rfl rfl rfl hl.1 rfl (Nat.le_of_ble_eq_true rfl) dX8_floor_31 ⟨Nat.zero_le _, Nat.zero_le _⟩ (fun r31 ho => ?_)
        refine ca_Vi (b := a_mo) (As := [.long r25.toInt64, .int r31]) (rest := []) ⟨hx, hb, hml, hown, hts⟩ (c_X8_stands l D cI cJ cZ a_mo a_moR a_moK a_moH a_moS a_moF a_moT a_moP a_moQ a_moA a_moB a_moD mo_e mo_f mo_codes mo_most mo_minus mo_low mo_function mo_atX mo_atM mo_spanFunction mo_spanRounding mo_spanMany mo_parts mo_shift r25.toInt64 r31 _ ho) (cwV 2 hts gX8_floor_X8_stands rfl rfl rfl (by decide +kernel) ⟨hRf _ (Nat.le_of_ble_eq_true rfl), hRl _ (Nat.le_of_ble_eq_true rfl)⟩) hK hN hP [0] rfl 0 7 rfl rfl rfl rfl hl.1 rfl (Nat.le_of_ble_eq_true rfl) dX8_floor_34 ⟨Nat.zero_le _, Nat.zero_le _⟩ (fun r34 ho => ?_)
        refine lv_if_lt (tgt := 45) hx hb dX8_floor_37 (by decide) (fun c_37 => ?_) (fun c_37 => ?_)
        · replace ho := ho.1 c_37
          refine lv_iload_n hx hb dX8_floor_45 rfl (lv_at hl 0 rfl) ?_
          refine lv_istore_n (lv' := [(2, .int ((x1 + x2) / (2 : Int32))), (3, .int ((x1 + x2) / (2 : Int32))), (0, .ref a_mo), (1, .int x1)]) hx hb dX8_floor_46 rfl hl (by decide) rfl (fun ls hl => ?_)
          exact C_47 x1 ((x1 + x2) / (2 : Int32)) ls ho (lv_sub hl [2, 3, 0] rfl)
        · replace ho := ho.2 c_37
          refine lv_iload_n hx hb dX8_floor_40 rfl (lv_at hl 0 rfl) ?_
          refine lv_istore_n (lv' := [(1, .int ((x1 + x2) / (2 : Int32))), (3, .int ((x1 + x2) / (2 : Int32))), (0, .ref a_mo), (2, .int x2)]) hx hb dX8_floor_41 rfl hl (by decide) rfl (fun ls hl => ?_)
          refine lv_goto (tgt := 47) hx hb dX8_floor_42 (by decide) ?_
          exact C_47 ((x1 + x2) / (2 : Int32)) x2 ls ho (lv_sub hl [2, 0, 3] rfl)
  unfold wp_X8_floor at ho
  refine lv_iconst (v := 0) hx hb dX8_floor_0 (by decide) ?_
  refine lv_istore_n (lv' := [(1, .int (0 : Int32)), (0, .ref a_mo)]) hx hb dX8_floor_1 rfl hl (by decide) rfl (fun ls hl => ?_)
  refine lv_aload_n hx hb dX8_floor_2 rfl (lv_at hl 1 rfl) ?_
  refine va_get (D := D) (ci := 7) (v := .int mo_most) (C := RX8) (T := TX8) (N := 25) hx hb hts in_X8_floor_X8 hown hK hP 0 rfl rfl 4 (by decide) (hts (.fieldLink RX8 68 "HardBenchModel" "most" "I") (List.mem_of_getElem? (i := 1) (by decide +kernel))) (fun _ h9 => h9) rfl dX8_floor_3 ?_
  refine lv_iconst (v := 1) hx hb dX8_floor_6 (by decide) ?_
  refine lv_iadd hx hb dX8_floor_7 ?_
  refine lv_istore_n (lv' := [(2, .int (mo_most + (1 : Int32))), (1, .int (0 : Int32)), (0, .ref a_mo)]) hx hb dX8_floor_8 rfl hl (by decide) rfl (fun ls hl => ?_)
  obtain ⟨n_9, ho⟩ := ho
  exact C_9 n_9 (0 : Int32) (mo_most + (1 : Int32)) ls ho (lv_sub hl [2, 1, 0] rfl)

def wp_X8_isFloat (post : Int32 → Prop) (mo_f : Int32) (mo_low : Int32) (mo_function : Int32) (mo_atX : Int32) (mo_atM : Int64) (p1 : Int32) : Prop := ((p1 ≤ 0) → (post (0 : Int32))) ∧ ((¬ (p1 ≤ 0)) → (wp_X8_figure (fun r7 => (wp_X8_power (fun r13 => (wp_X8_stands (fun r16 => (((¬ r16 = 0) → (post (0 : Int32))) ∧ ((¬ (¬ r16 = 0)) → (post (1 : Int32))))) mo_function mo_atX mo_atM r7.toInt64 r13)) mo_f mo_low p1)) mo_f p1))
set_option maxHeartbeats 4000000 in
set_option maxRecDepth 100000 in
theorem c_X8_isFloat (l : Launch) (D : va_G) (cI cJ cZ : ClassId) (a_mo : Nat) (a_moR : Nat) (a_moK : Nat) (a_moH : Nat) (a_moS : Nat) (a_moF : Nat) (a_moT : Nat) (a_moP : Nat) (a_moQ : Nat) (a_moA : Nat) (a_moB : Nat) (a_moD : Nat) (mo_e : Int32) (mo_f : Int32) (mo_codes : Int32) (mo_most : Int32) (mo_minus : Int32) (mo_low : Int32) (mo_function : Int32) (mo_atX : Int32) (mo_atM : Int64) (mo_spanFunction : Int32) (mo_spanRounding : Int32) (mo_spanMany : Int32) (mo_parts : Int32) (mo_shift : Int32) (p1 : Int32) (post : Int32 → Prop) (ho : wp_X8_isFloat post mo_f mo_low mo_function mo_atX mo_atM p1) : Met l yX8_isFloat wsX8_isFloat ({ frames := 3, cells := 0, slots := 0, locals := 78 } : Room) (ro_P D [(cI, .int), (cJ, .long), (cZ, .boolean)] [.ref a_mo, .int p1] [(a_mo, oX8 a_moR mo_e mo_f mo_codes mo_most mo_minus mo_low mo_function mo_atX mo_atM a_moK a_moH a_moS mo_spanFunction mo_spanRounding mo_spanMany a_moF a_moT mo_parts mo_shift a_moP a_moQ a_moA a_moB a_moD)]) (vp_Si post) 0 0 (fun _ => False) := by
  refine Met.ofW (cc := cX8_isFloat) (maxL := 2) (ret := (some .boolean)) (by decide) rfl ?_
  intro p e s m args below meth c s₁ B hml hv
  obtain ⟨hargs, hP, hK, hN⟩ := hv
  have hx := B.exec
  have hb := B.bytes
  have hr := B.returns
  have hts := atoms_spec (ws := wsX8_isFloat) B.pre
  have hown : s.vm.findClass RX8 = some m.cls := findClass_of_methodNamed B.named
  have hlocks := B.notSynchronized
  have hl := lv_entry ([.ref a_mo, .int p1]) (n := 2) (Nat.le_of_ble_eq_true rfl)
  rw [hargs, lg_entry_eq, ← hargs]
  generalize (lg_sl ([.ref a_mo, .int p1]) ++ List.replicate (2 - (lg_sl ([.ref a_mo, .int p1])).length) Slot.unset).toArray = ls at hl ⊢
  replace hl : lv_has ls 2 [(0, .ref a_mo), (1, .int p1)] := hl
  have hRf : ∀ n, n ≤ 3 → n ≤ (headSpec wsX8_isFloat ({ frames := 3, cells := 0, slots := 0, locals := 78 } : Room)).room.frames := fun n h => h
  have hRl : ∀ n, n ≤ 78 → n ≤ (headSpec wsX8_isFloat ({ frames := 3, cells := 0, slots := 0, locals := 78 } : Room)).room.locals := fun n h => h
  generalize (headSpec wsX8_isFloat ({ frames := 3, cells := 0, slots := 0, locals := 78 } : Room)).room = R at hRf hRl ⊢
  generalize hQ : MQ below _ args s 0 0 _ = Q
  unfold wp_X8_isFloat at ho
  refine lv_iload_n hx hb dX8_isFloat_0 rfl (lv_at hl 1 rfl) ?_
  refine lv_if_le (tgt := 26) hx hb dX8_isFloat_1 (by decide) (fun c_1 => ?_) (fun c_1 => ?_)
  · replace ho := ho.1 c_1
    refine lv_iconst (v := 0) hx hb dX8_isFloat_26 (by decide) ?_
    subst hQ; exact W.zret (v := (0 : Int32)) hx hb hr rfl (fun t ht _ => ⟨(0 : Int32), rfl, ho, ht⟩) (fun _ h => by cases h) dX8_isFloat_27
  · replace ho := ho.2 c_1
    refine lv_aload_n hx hb dX8_isFloat_4 rfl (lv_at hl 0 rfl) ?_
    refine lv_aload_n hx hb dX8_isFloat_5 rfl (lv_at hl 0 rfl) ?_
    refine lv_iload_n hx hb dX8_isFloat_6 rfl (lv_at hl 1 rfl) ?_
    refine ca_Vi (b := a_mo) (As := [.int p1]) (rest := [.ref a_mo]) ⟨hx, hb, hml, hown, hts⟩ (c_X8_figure l D cI cJ cZ a_mo a_moR a_moK a_moH a_moS a_moF a_moT a_moP a_moQ a_moA a_moB a_moD mo_e mo_f mo_codes mo_most mo_minus mo_low mo_function mo_atX mo_atM mo_spanFunction mo_spanRounding mo_spanMany mo_parts mo_shift p1 _ ho) (cwV 1 hts gX8_isFloat_X8_figure rfl rfl rfl (by decide +kernel) ⟨hRf _ (Nat.le_of_ble_eq_true rfl), hRl _ (Nat.le_of_ble_eq_true rfl)⟩) hK hN hP [0] rfl 0 7 rfl rfl rfl rfl hl.1 rfl (Nat.le_of_ble_eq_true rfl) dX8_isFloat_7 ⟨Nat.zero_le _, Nat.zero_le _⟩ (fun r7 ho => ?_)
    refine lv_i2l hx hb dX8_isFloat_10 rfl ?_
    refine lv_aload_n hx hb dX8_isFloat_11 rfl (lv_at hl 0 rfl) ?_
    refine lv_iload_n hx hb dX8_isFloat_12 rfl (lv_at hl 1 rfl) ?_
    refine ca_Vi (b := a_mo) (As := [.int p1]) (rest := [.long r7.toInt64, .ref a_mo]) ⟨hx, hb, hml, hown, hts⟩ (c_X8_power l D cI cJ cZ a_mo a_moR a_moK a_moH a_moS a_moF a_moT a_moP a_moQ a_moA a_moB a_moD mo_e mo_f mo_codes mo_most mo_minus mo_low mo_function mo_atX mo_atM mo_spanFunction mo_spanRounding mo_spanMany mo_parts mo_shift p1 _ ho) (cwV 1 hts gX8_isFloat_X8_power rfl rfl rfl (by decide +kernel) ⟨hRf _ (Nat.le_of_ble_eq_true rfl), hRl _ (Nat.le_of_ble_eq_true rfl)⟩) hK hN hP [0] rfl 0 7 rfl rfl rfl rfl hl.1 rfl (Nat.le_of_ble_eq_true rfl) dX8_isFloat_13 ⟨Nat.zero_le _, Nat.zero_le _⟩ (fun r13 ho => ?_)
    refine ca_Vi (b := a_mo) (As := [.long r7.toInt64, .int r13]) (rest := []) ⟨hx, hb, hml, hown, hts⟩ (c_X8_stands l D cI cJ cZ a_mo a_moR a_moK a_moH a_moS a_moF a_moT a_moP a_moQ a_moA a_moB a_moD mo_e mo_f mo_codes mo_most mo_minus mo_low mo_function mo_atX mo_atM mo_spanFunction mo_spanRounding mo_spanMany mo_parts mo_shift r7.toInt64 r13 _ ho) (cwV 2 hts gX8_isFloat_X8_stands rfl rfl rfl (by decide +kernel) ⟨hRf _ (Nat.le_of_ble_eq_true rfl), hRl _ (Nat.le_of_ble_eq_true rfl)⟩) hK hN hP [0] rfl 0 7 rfl rfl rfl rfl hl.1 rfl (Nat.le_of_ble_eq_true rfl) dX8_isFloat_16 ⟨Nat.zero_le _, Nat.zero_le _⟩ (fun r16 ho => ?_)
    refine lv_if_ne (tgt := 26) hx hb dX8_isFloat_19 (by decide) (fun c_19 => ?_) (fun c_19 => ?_)
    · replace ho := ho.1 c_19
      refine lv_iconst (v := 0) hx hb dX8_isFloat_26 (by decide) ?_
      subst hQ; exact W.zret (v := (0 : Int32)) hx hb hr rfl (fun t ht _ => ⟨(0 : Int32), rfl, ho, ht⟩) (fun _ h => by cases h) dX8_isFloat_27
    · replace ho := ho.2 c_19
      refine lv_iconst (v := 1) hx hb dX8_isFloat_22 (by decide) ?_
      refine lv_goto (tgt := 27) hx hb dX8_isFloat_23 (by decide) ?_
      subst hQ; exact W.zret (v := (1 : Int32)) hx hb hr rfl (fun t ht _ => ⟨(1 : Int32), rfl, ho, ht⟩) (fun _ h => by cases h) dX8_isFloat_27

def wp_X8_middle (post : Int32 → Prop) (mo_f : Int32) (mo_low : Int32) (mo_function : Int32) (mo_atX : Int32) (mo_atM : Int64) (p1 : Int32) : Prop := wp_X8_figure (fun r6 => (wp_X8_power (fun r15 => (wp_X8_stands (fun r20 => (post r20)) mo_function mo_atX mo_atM (((2 : Int64) * r6.toInt64) + (1 : Int64)) (r15 - (1 : Int32)))) mo_f mo_low p1)) mo_f p1
set_option maxHeartbeats 4000000 in
set_option maxRecDepth 100000 in
theorem c_X8_middle (l : Launch) (D : va_G) (cI cJ cZ : ClassId) (a_mo : Nat) (a_moR : Nat) (a_moK : Nat) (a_moH : Nat) (a_moS : Nat) (a_moF : Nat) (a_moT : Nat) (a_moP : Nat) (a_moQ : Nat) (a_moA : Nat) (a_moB : Nat) (a_moD : Nat) (mo_e : Int32) (mo_f : Int32) (mo_codes : Int32) (mo_most : Int32) (mo_minus : Int32) (mo_low : Int32) (mo_function : Int32) (mo_atX : Int32) (mo_atM : Int64) (mo_spanFunction : Int32) (mo_spanRounding : Int32) (mo_spanMany : Int32) (mo_parts : Int32) (mo_shift : Int32) (p1 : Int32) (post : Int32 → Prop) (ho : wp_X8_middle post mo_f mo_low mo_function mo_atX mo_atM p1) : Met l yX8_middle wsX8_middle ({ frames := 3, cells := 0, slots := 0, locals := 78 } : Room) (ro_P D [(cI, .int), (cJ, .long), (cZ, .boolean)] [.ref a_mo, .int p1] [(a_mo, oX8 a_moR mo_e mo_f mo_codes mo_most mo_minus mo_low mo_function mo_atX mo_atM a_moK a_moH a_moS mo_spanFunction mo_spanRounding mo_spanMany a_moF a_moT mo_parts mo_shift a_moP a_moQ a_moA a_moB a_moD)]) (vp_Si post) 0 0 (fun _ => False) := by
  refine Met.ofW (cc := cX8_middle) (maxL := 2) (ret := (some .int)) (by decide) rfl ?_
  intro p e s m args below meth c s₁ B hml hv
  obtain ⟨hargs, hP, hK, hN⟩ := hv
  have hx := B.exec
  have hb := B.bytes
  have hr := B.returns
  have hts := atoms_spec (ws := wsX8_middle) B.pre
  have hown : s.vm.findClass RX8 = some m.cls := findClass_of_methodNamed B.named
  have hlocks := B.notSynchronized
  have hl := lv_entry ([.ref a_mo, .int p1]) (n := 2) (Nat.le_of_ble_eq_true rfl)
  rw [hargs, lg_entry_eq, ← hargs]
  generalize (lg_sl ([.ref a_mo, .int p1]) ++ List.replicate (2 - (lg_sl ([.ref a_mo, .int p1])).length) Slot.unset).toArray = ls at hl ⊢
  replace hl : lv_has ls 2 [(0, .ref a_mo), (1, .int p1)] := hl
  have hRf : ∀ n, n ≤ 3 → n ≤ (headSpec wsX8_middle ({ frames := 3, cells := 0, slots := 0, locals := 78 } : Room)).room.frames := fun n h => h
  have hRl : ∀ n, n ≤ 78 → n ≤ (headSpec wsX8_middle ({ frames := 3, cells := 0, slots := 0, locals := 78 } : Room)).room.locals := fun n h => h
  generalize (headSpec wsX8_middle ({ frames := 3, cells := 0, slots := 0, locals := 78 } : Room)).room = R at hRf hRl ⊢
  generalize hQ : MQ below _ args s 0 0 _ = Q
  unfold wp_X8_middle at ho
  refine lv_aload_n hx hb dX8_middle_0 rfl (lv_at hl 0 rfl) ?_
  refine lv_ldc2 hx hb hown (hts (.constantLong RX8 136 (2)) (List.mem_of_getElem? (i := 1) (by decide +kernel))) dX8_middle_1 ?_
  refine lv_aload_n hx hb dX8_middle_4 rfl (lv_at hl 0 rfl) ?_
  refine lv_iload_n hx hb dX8_middle_5 rfl (lv_at hl 1 rfl) ?_
  refine ca_Vi (b := a_mo) (As := [.int p1]) (rest := [.long (2 : Int64), .ref a_mo]) ⟨hx, hb, hml, hown, hts⟩ (c_X8_figure l D cI cJ cZ a_mo a_moR a_moK a_moH a_moS a_moF a_moT a_moP a_moQ a_moA a_moB a_moD mo_e mo_f mo_codes mo_most mo_minus mo_low mo_function mo_atX mo_atM mo_spanFunction mo_spanRounding mo_spanMany mo_parts mo_shift p1 _ ho) (cwV 1 hts gX8_middle_X8_figure rfl rfl rfl (by decide +kernel) ⟨hRf _ (Nat.le_of_ble_eq_true rfl), hRl _ (Nat.le_of_ble_eq_true rfl)⟩) hK hN hP [0] rfl 0 7 rfl rfl rfl rfl hl.1 rfl (Nat.le_of_ble_eq_true rfl) dX8_middle_6 ⟨Nat.zero_le _, Nat.zero_le _⟩ (fun r6 ho => ?_)
  refine lv_i2l hx hb dX8_middle_9 rfl ?_
  refine lv_lmul hx hb dX8_middle_10 ?_
  refine lv_lconst (v := 1) hx hb dX8_middle_11 (by decide) ?_
  refine lv_ladd hx hb dX8_middle_12 ?_
  refine lv_aload_n hx hb dX8_middle_13 rfl (lv_at hl 0 rfl) ?_
  refine lv_iload_n hx hb dX8_middle_14 rfl (lv_at hl 1 rfl) ?_
  refine ca_Vi (b := a_mo) (As := [.int p1]) (rest := [.long (((2 : Int64) * r6.toInt64) + (1 : Int64)), .ref a_mo]) ⟨hx, hb, hml, hown, hts⟩ (c_X8_power l D cI cJ cZ a_mo a_moR a_moK a_moH a_moS a_moF a_moT a_moP a_moQ a_moA a_moB a_moD mo_e mo_f mo_codes mo_most mo_minus mo_low mo_function mo_atX mo_atM mo_spanFunction mo_spanRounding mo_spanMany mo_parts mo_shift p1 _ ho) (cwV 1 hts gX8_middle_X8_power rfl rfl rfl (by decide +kernel) ⟨hRf _ (Nat.le_of_ble_eq_true rfl), hRl _ (Nat.le_of_ble_eq_true rfl)⟩) hK hN hP [0] rfl 0 7 rfl rfl rfl rfl hl.1 rfl (Nat.le_of_ble_eq_true rfl) dX8_middle_15 ⟨Nat.zero_le _, Nat.zero_le _⟩ (fun r15 ho => ?_)
  refine lv_iconst (v := 1) hx hb dX8_middle_18 (by decide) ?_
  refine lv_isub hx hb dX8_middle_19 ?_
  refine ca_Vi (b := a_mo) (As := [.long (((2 : Int64) * r6.toInt64) + (1 : Int64)), .int (r15 - (1 : Int32))]) (rest := []) ⟨hx, hb, hml, hown, hts⟩ (c_X8_stands l D cI cJ cZ a_mo a_moR a_moK a_moH a_moS a_moF a_moT a_moP a_moQ a_moA a_moB a_moD mo_e mo_f mo_codes mo_most mo_minus mo_low mo_function mo_atX mo_atM mo_spanFunction mo_spanRounding mo_spanMany mo_parts mo_shift (((2 : Int64) * r6.toInt64) + (1 : Int64)) (r15 - (1 : Int32)) _ ho) (cwV 2 hts gX8_middle_X8_stands rfl rfl rfl (by decide +kernel) ⟨hRf _ (Nat.le_of_ble_eq_true rfl), hRl _ (Nat.le_of_ble_eq_true rfl)⟩) hK hN hP [0] rfl 0 7 rfl rfl rfl rfl hl.1 rfl (Nat.le_of_ble_eq_true rfl) dX8_middle_20 ⟨Nat.zero_le _, Nat.zero_le _⟩ (fun r20 ho => ?_)
  subst hQ; exact W.iret (v := r20) hx hb hr (fun t ht _ => ⟨r20, rfl, ho, ht⟩) (fun _ h => by cases h) dX8_middle_23

def wp_X8_rounded_118 (post : Int32 → Prop)  (x3 : Int32) (y0 : Int32) : Prop := post (y0 + (x3 + (1 : Int32)))
def wp_X8_rounded_53 (post : Int32 → Prop)  (mo_f : Int32) (mo_most : Int32) (mo_low : Int32) (mo_function : Int32) (mo_atX : Int32) (mo_atM : Int64) (x3 : Int32) (x4 : Int32) (y0 : Int32) : Prop := ((y0 = (0 : Int32)) → (wp_X8_middle (fun r94 => (((0 < r94) → (wp_X8_rounded_118 post x3 x4)) ∧ ((¬ (0 < r94)) → (((¬ r94 = 0) → (post (x4 + x3))) ∧ ((¬ (¬ r94 = 0)) → (((¬ (x3 - x3 / (2 : Int32) * (2 : Int32)) = (1 : Int32)) → (post (x4 + x3))) ∧ ((¬ (¬ (x3 - x3 / (2 : Int32) * (2 : Int32)) = (1 : Int32))) → (wp_X8_rounded_118 post x3 x4)))))))) mo_f mo_low mo_function mo_atX mo_atM x3)) ∧ ((¬ (y0 = (0 : Int32))) → (((y0 = (2 : Int32)) → (post ((x4 + x3) + (1 : Int32)))) ∧ ((¬ (y0 = (2 : Int32))) → (((y0 = (4 : Int32)) → (((¬ (x3 - x3 / (2 : Int32) * (2 : Int32)) = (1 : Int32)) → (((¬ x3 = mo_most) → (post (x4 + (x3 + (1 : Int32))))) ∧ ((¬ (¬ x3 = mo_most)) → (post (x4 + x3))))) ∧ ((¬ (¬ (x3 - x3 / (2 : Int32) * (2 : Int32)) = (1 : Int32))) → (post (x4 + x3))))) ∧ ((¬ (y0 = (4 : Int32))) → (post (x4 + x3)))))))
def wp_X8_rounded_52 (post : Int32 → Prop)  (mo_f : Int32) (mo_most : Int32) (mo_low : Int32) (mo_function : Int32) (mo_atX : Int32) (mo_atM : Int64) (p1 : Int32) (x3 : Int32) (x4 : Int32) : Prop := wp_X8_rounded_53 post mo_f mo_most mo_low mo_function mo_atX mo_atM x3 x4 p1
def wp_X8_rounded_17 (post : Int32 → Prop)  (mo_f : Int32) (mo_most : Int32) (mo_low : Int32) (mo_function : Int32) (mo_atX : Int32) (mo_atM : Int64) (p1 : Int32) (p2 : Int32) (x3 : Int32) (y0 : Int32) : Prop := wp_X8_isFloat (fun r21 => (((r21 = 0) → (((p2 = 0) → (wp_X8_rounded_52 post mo_f mo_most mo_low mo_function mo_atX mo_atM p1 x3 y0)) ∧ ((¬ (p2 = 0)) → (((p1 ≤ (1 : Int32)) → (wp_X8_rounded_52 post mo_f mo_most mo_low mo_function mo_atX mo_atM p1 x3 y0)) ∧ ((¬ (p1 ≤ (1 : Int32))) → ((((4 : Int32) ≤ p1) → (wp_X8_rounded_52 post mo_f mo_most mo_low mo_function mo_atX mo_atM p1 x3 y0)) ∧ ((¬ ((4 : Int32) ≤ p1)) → (wp_X8_rounded_53 post mo_f mo_most mo_low mo_function mo_atX mo_atM x3 y0 ((5 : Int32) - p1))))))))) ∧ ((¬ (r21 = 0)) → (post (y0 + x3))))) mo_f mo_low mo_function mo_atX mo_atM x3
def wp_X8_rounded (post : Int32 → Prop) (mo_f : Int32) (mo_most : Int32) (mo_minus : Int32) (mo_low : Int32) (mo_function : Int32) (mo_atX : Int32) (mo_atM : Int64) (p1 : Int32) (p2 : Int32) : Prop := wp_X8_floor (fun r1 => (((p2 = 0) → (wp_X8_rounded_17 post mo_f mo_most mo_low mo_function mo_atX mo_atM p1 p2 r1 (0 : Int32))) ∧ ((¬ (p2 = 0)) → (wp_X8_rounded_17 post mo_f mo_most mo_low mo_function mo_atX mo_atM p1 p2 r1 mo_minus)))) mo_f mo_most mo_low mo_function mo_atX mo_atM
set_option maxRecDepth 20000 in
theorem in_X8_rounded_X8 : ∀ w ∈ u_ws RX8 TX8 25, w ∈ wsX8_rounded := fun w h => (goodIn_r wsX80 [40, 41, 42, 43, 44, 45, 46, 47, 48, 49, 50, 51, 52, 53, 54, 55, 56, 57, 58, 59, 60, 61, 62, 63, 64] (by decide +kernel) (by decide +kernel) w h).1
set_option maxHeartbeats 4000000 in
set_option maxRecDepth 100000 in
theorem c_X8_rounded (l : Launch) (D : va_G) (cI cJ cZ : ClassId) (a_mo : Nat) (a_moR : Nat) (a_moK : Nat) (a_moH : Nat) (a_moS : Nat) (a_moF : Nat) (a_moT : Nat) (a_moP : Nat) (a_moQ : Nat) (a_moA : Nat) (a_moB : Nat) (a_moD : Nat) (mo_e : Int32) (mo_f : Int32) (mo_codes : Int32) (mo_most : Int32) (mo_minus : Int32) (mo_low : Int32) (mo_function : Int32) (mo_atX : Int32) (mo_atM : Int64) (mo_spanFunction : Int32) (mo_spanRounding : Int32) (mo_spanMany : Int32) (mo_parts : Int32) (mo_shift : Int32) (p1 : Int32) (p2 : Int32) (post : Int32 → Prop) (ho : wp_X8_rounded post mo_f mo_most mo_minus mo_low mo_function mo_atX mo_atM p1 p2) : Met l yX8_rounded wsX8_rounded ({ frames := 4, cells := 0, slots := 0, locals := 101 } : Room) (ro_P D [(cI, .int), (cJ, .long), (cZ, .boolean)] [.ref a_mo, .int p1, .int p2] [(a_mo, oX8 a_moR mo_e mo_f mo_codes mo_most mo_minus mo_low mo_function mo_atX mo_atM a_moK a_moH a_moS mo_spanFunction mo_spanRounding mo_spanMany a_moF a_moT mo_parts mo_shift a_moP a_moQ a_moA a_moB a_moD)]) (vp_Si post) 0 0 (fun _ => False) := by
  refine Met.ofW (cc := cX8_rounded) (maxL := 7) (ret := (some .int)) (by decide) rfl ?_
  intro p e s m args below meth c s₁ B hml hv
  obtain ⟨hargs, hP, hK, hN⟩ := hv
  have hx := B.exec
  have hb := B.bytes
  have hr := B.returns
  have hts := atoms_spec (ws := wsX8_rounded) B.pre
  have hown : s.vm.findClass RX8 = some m.cls := findClass_of_methodNamed B.named
  have hlocks := B.notSynchronized
  have hl := lv_entry ([.ref a_mo, .int p1, .int p2]) (n := 7) (Nat.le_of_ble_eq_true rfl)
  rw [hargs, lg_entry_eq, ← hargs]
  generalize (lg_sl ([.ref a_mo, .int p1, .int p2]) ++ List.replicate (7 - (lg_sl ([.ref a_mo, .int p1, .int p2])).length) Slot.unset).toArray = ls at hl ⊢
  replace hl : lv_has ls 7 [(0, .ref a_mo), (1, .int p1), (2, .int p2)] := hl
  have hRf : ∀ n, n ≤ 4 → n ≤ (headSpec wsX8_rounded ({ frames := 4, cells := 0, slots := 0, locals := 101 } : Room)).room.frames := fun n h => h
  have hRl : ∀ n, n ≤ 101 → n ≤ (headSpec wsX8_rounded ({ frames := 4, cells := 0, slots := 0, locals := 101 } : Room)).room.locals := fun n h => h
  generalize (headSpec wsX8_rounded ({ frames := 4, cells := 0, slots := 0, locals := 101 } : Room)).room = R at hRf hRl ⊢
  generalize hQ : MQ below _ args s 0 0 _ = Q
  have C_118 : ∀ (x3 : Int32) (y0 : Int32) (ls : Array Slot), wp_X8_rounded_118 post  x3 y0 → lv_has ls 7 [(3, .int x3)] → W p l e R s m args below meth c s.heap [] 0 0 Q (F0 m 118 ls [.int y0]) := by
    intro x3 y0 ls ho hl
    unfold wp_X8_rounded_118 at ho
    refine lv_iload_n hx hb dX8_rounded_118 rfl (lv_at hl 0 rfl) ?_
    refine lv_iconst (v := 1) hx hb dX8_rounded_119 (by decide) ?_
    refine lv_iadd hx hb dX8_rounded_120 ?_
    refine lv_goto (tgt := 125) hx hb dX8_rounded_121 (by decide) ?_
    refine lv_iadd hx hb dX8_rounded_125 ?_
    subst hQ; exact W.iret (v := (y0 + (x3 + (1 : Int32)))) hx hb hr (fun t ht _ => ⟨(y0 + (x3 + (1 : Int32))), rfl, ho, ht⟩) (fun _ h => by cases h) dX8_rounded_126
  have C_53 : ∀ (x3 : Int32) (x4 : Int32) (y0 : Int32) (ls : Array Slot), wp_X8_rounded_53 post  mo_f mo_most mo_low mo_function mo_atX mo_atM x3 x4 y0 → lv_has ls 7 [(0, .ref a_mo), (3, .int x3), (4, .int x4)] → W p l e R s m args below meth c s.heap [] 0 0 Q (F0 m 53 ls [.int y0]) := by
    intro x3 x4 y0 ls ho hl
    unfold wp_X8_rounded_53 at ho
    refine lv_istore (lv' := [(5, .int y0), (0, .ref a_mo), (3, .int x3), (4, .int x4)]) hx hb dX8_rounded_53 hl (by decide) rfl (fun ls hl => ?_)
    refine lv_iload hx hb dX8_rounded_55 (lv_at hl 0 rfl) ?_
    refine lv_topi (fun z_57 ez_57 => ?_)
    rw [← ez_57] at ho
    by_cases n_57_0 : z_57 = 0
    · replace ho := ho.1 n_57_0
      subst n_57_0
      refine lv_tableIn (tgt := 92) hx hb dX8_rounded_57 (by decide) (by decide) rfl (by decide) ?_
      refine lv_aload_n hx hb dX8_rounded_92 rfl (lv_at hl 1 rfl) ?_
      refine lv_iload_n hx hb dX8_rounded_93 rfl (lv_at hl 2 rfl) ?_
      refine ca_Vi (b := a_mo) (As := [.int x3]) (rest := []) ⟨hx, hb, hml, hown, hts⟩ (c_X8_middle l D cI cJ cZ a_mo a_moR a_moK a_moH a_moS a_moF a_moT a_moP a_moQ a_moA a_moB a_moD mo_e mo_f mo_codes mo_most mo_minus mo_low mo_function mo_atX mo_atM mo_spanFunction mo_spanRounding mo_spanMany mo_parts mo_shift x3 _ ho) (cwV 1 hts gX8_rounded_X8_middle rfl rfl rfl (by decide +kernel) ⟨hRf _ (Nat.le_of_ble_eq_true rfl), hRl _ (Nat.le_of_ble_eq_true rfl)⟩) hK hN hP [0] rfl 0 7 rfl rfl rfl rfl hl.1 rfl (Nat.le_of_ble_eq_true rfl) dX8_rounded_94 ⟨Nat.zero_le _, Nat.zero_le _⟩ (fun r94 ho => ?_)
      refine lv_istore (lv' := [(6, .int r94), (5, .int y0), (0, .ref a_mo), (3, .int x3), (4, .int x4)]) hx hb dX8_rounded_97 hl (by decide) rfl (fun ls hl => ?_)
      refine lv_iload hx hb dX8_rounded_99 (lv_at hl 4 rfl) ?_
      refine lv_iload hx hb dX8_rounded_101 (lv_at hl 0 rfl) ?_
      refine lv_if_gt (tgt := 118) hx hb dX8_rounded_103 (by decide) (fun c_103 => ?_) (fun c_103 => ?_)
      · replace ho := ho.1 c_103
        exact C_118 x3 x4 ls ho (lv_sub hl [3] rfl)
      · replace ho := ho.2 c_103
        refine lv_iload hx hb dX8_rounded_106 (lv_at hl 0 rfl) ?_
        refine lv_if_ne (tgt := 124) hx hb dX8_rounded_108 (by decide) (fun c_108 => ?_) (fun c_108 => ?_)
        · replace ho := ho.1 c_108
          refine lv_iload_n hx hb dX8_rounded_124 rfl (lv_at hl 3 rfl) ?_
          refine lv_iadd hx hb dX8_rounded_125 ?_
          subst hQ; exact W.iret (v := (x4 + x3)) hx hb hr (fun t ht _ => ⟨(x4 + x3), rfl, ho, ht⟩) (fun _ h => by cases h) dX8_rounded_126
        · replace ho := ho.2 c_108
          refine lv_iload_n hx hb dX8_rounded_111 rfl (lv_at hl 3 rfl) ?_
          refine lv_iconst (v := 2) hx hb dX8_rounded_112 (by decide) ?_
          refine lv_irem hx hb dX8_rounded_113 (by decide) ?_
          refine lv_iconst (v := 1) hx hb dX8_rounded_114 (by decide) ?_
          refine lv_icmp_ne (tgt := 124) hx hb dX8_rounded_115 (by decide) (fun c_115 => ?_) (fun c_115 => ?_)
          · replace ho := ho.1 c_115
            refine lv_iload_n hx hb dX8_rounded_124 rfl (lv_at hl 3 rfl) ?_
            refine lv_iadd hx hb dX8_rounded_125 ?_
            subst hQ; exact W.iret (v := (x4 + x3)) hx hb hr (fun t ht _ => ⟨(x4 + x3), rfl, ho, ht⟩) (fun _ h => by cases h) dX8_rounded_126
          · replace ho := ho.2 c_115
            exact C_118 x3 x4 ls ho (lv_sub hl [3] rfl)
    replace ho := ho.2 n_57_0
    by_cases n_57_2 : z_57 = 2
    · replace ho := ho.1 n_57_2
      subst n_57_2
      refine lv_tableIn (tgt := 127) hx hb dX8_rounded_57 (by decide) (by decide) rfl (by decide) ?_
      refine lv_iload hx hb dX8_rounded_127 (lv_at hl 3 rfl) ?_
      refine lv_iload_n hx hb dX8_rounded_129 rfl (lv_at hl 2 rfl) ?_
      refine lv_iadd hx hb dX8_rounded_130 ?_
      refine lv_iconst (v := 1) hx hb dX8_rounded_131 (by decide) ?_
      refine lv_iadd hx hb dX8_rounded_132 ?_
      subst hQ; exact W.iret (v := ((x4 + x3) + (1 : Int32))) hx hb hr (fun t ht _ => ⟨((x4 + x3) + (1 : Int32)), rfl, ho, ht⟩) (fun _ h => by cases h) dX8_rounded_133
    replace ho := ho.2 n_57_2
    by_cases n_57_4 : z_57 = 4
    · replace ho := ho.1 n_57_4
      subst n_57_4
      refine lv_tableIn (tgt := 134) hx hb dX8_rounded_57 (by decide) (by decide) rfl (by decide) ?_
      refine lv_iload hx hb dX8_rounded_134 (lv_at hl 3 rfl) ?_
      refine lv_iload_n hx hb dX8_rounded_136 rfl (lv_at hl 2 rfl) ?_
      refine lv_iconst (v := 2) hx hb dX8_rounded_137 (by decide) ?_
      refine lv_irem hx hb dX8_rounded_138 (by decide) ?_
      refine lv_iconst (v := 1) hx hb dX8_rounded_139 (by decide) ?_
      refine lv_icmp_ne (tgt := 147) hx hb dX8_rounded_140 (by decide) (fun c_140 => ?_) (fun c_140 => ?_)
      · replace ho := ho.1 c_140
        refine lv_iload_n hx hb dX8_rounded_147 rfl (lv_at hl 2 rfl) ?_
        refine lv_aload_n hx hb dX8_rounded_148 rfl (lv_at hl 1 rfl) ?_
        refine va_get (D := D) (ci := 7) (v := .int mo_most) (C := RX8) (T := TX8) (N := 25) hx hb hts in_X8_rounded_X8 hown hK hP 0 rfl rfl 4 (by decide) (hts (.fieldLink RX8 68 "HardBenchModel" "most" "I") (List.mem_of_getElem? (i := 2) (by decide +kernel))) (fun _ h9 => h9) rfl dX8_rounded_149 ?_
        refine lv_icmp_ne (tgt := 159) hx hb dX8_rounded_152 (by decide) (fun c_152 => ?_) (fun c_152 => ?_)
        · replace ho := ho.1 c_152
          refine lv_iload_n hx hb dX8_rounded_159 rfl (lv_at hl 2 rfl) ?_
          refine lv_iconst (v := 1) hx hb dX8_rounded_160 (by decide) ?_
          refine lv_iadd hx hb dX8_rounded_161 ?_
          refine lv_iadd hx hb dX8_rounded_162 ?_
          subst hQ; exact W.iret (v := (x4 + (x3 + (1 : Int32)))) hx hb hr (fun t ht _ => ⟨(x4 + (x3 + (1 : Int32))), rfl, ho, ht⟩) (fun _ h => by cases h) dX8_rounded_163
        · replace ho := ho.2 c_152
          refine lv_iload_n hx hb dX8_rounded_155 rfl (lv_at hl 2 rfl) ?_
          refine lv_goto (tgt := 162) hx hb dX8_rounded_156 (by decide) ?_
          refine lv_iadd hx hb dX8_rounded_162 ?_
          subst hQ; exact W.iret (v := (x4 + x3)) hx hb hr (fun t ht _ => ⟨(x4 + x3), rfl, ho, ht⟩) (fun _ h => by cases h) dX8_rounded_163
      · replace ho := ho.2 c_140
        refine lv_iload_n hx hb dX8_rounded_143 rfl (lv_at hl 2 rfl) ?_
        refine lv_goto (tgt := 162) hx hb dX8_rounded_144 (by decide) ?_
        refine lv_iadd hx hb dX8_rounded_162 ?_
        subst hQ; exact W.iret (v := (x4 + x3)) hx hb hr (fun t ht _ => ⟨(x4 + x3), rfl, ho, ht⟩) (fun _ h => by cases h) dX8_rounded_163
    replace ho := ho.2 n_57_4
    by_cases n_57_1 : z_57 = 1
    · subst n_57_1
      refine lv_tableIn (tgt := 164) hx hb dX8_rounded_57 (by decide) (by decide) rfl (by decide) ?_
      refine lv_iload hx hb dX8_rounded_164 (lv_at hl 3 rfl) ?_
      refine lv_iload_n hx hb dX8_rounded_166 rfl (lv_at hl 2 rfl) ?_
      refine lv_iadd hx hb dX8_rounded_167 ?_
      subst hQ; exact W.iret (v := (x4 + x3)) hx hb hr (fun t ht _ => ⟨(x4 + x3), rfl, ho, ht⟩) (fun _ h => by cases h) dX8_rounded_168
    by_cases n_57_3 : z_57 = 3
    · subst n_57_3
      refine lv_tableIn (tgt := 164) hx hb dX8_rounded_57 (by decide) (by decide) rfl (by decide) ?_
      refine lv_iload hx hb dX8_rounded_164 (lv_at hl 3 rfl) ?_
      refine lv_iload_n hx hb dX8_rounded_166 rfl (lv_at hl 2 rfl) ?_
      refine lv_iadd hx hb dX8_rounded_167 ?_
      subst hQ; exact W.iret (v := (x4 + x3)) hx hb hr (fun t ht _ => ⟨(x4 + x3), rfl, ho, ht⟩) (fun _ h => by cases h) dX8_rounded_168
    refine lv_tableOut (tgt := 164) hx hb dX8_rounded_57 (by have q_57_0 := lv_neT (a := 0) n_57_0 rfl; have q_57_1 := lv_neT (a := 1) n_57_1 rfl; have q_57_2 := lv_neT (a := 2) n_57_2 rfl; have q_57_3 := lv_neT (a := 3) n_57_3 rfl; have q_57_4 := lv_neT (a := 4) n_57_4 rfl; omega) (by decide) ?_
    refine lv_iload hx hb dX8_rounded_164 (lv_at hl 3 rfl) ?_
    refine lv_iload_n hx hb dX8_rounded_166 rfl (lv_at hl 2 rfl) ?_
    refine lv_iadd hx hb dX8_rounded_167 ?_
    subst hQ; exact W.iret (v := (x4 + x3)) hx hb hr (fun t ht _ => ⟨(x4 + x3), rfl, ho, ht⟩) (fun _ h => by cases h) dX8_rounded_168
  have C_52 : ∀ (x3 : Int32) (x4 : Int32) (ls : Array Slot), wp_X8_rounded_52 post  mo_f mo_most mo_low mo_function mo_atX mo_atM p1 x3 x4 → lv_has ls 7 [(0, .ref a_mo), (1, .int p1), (3, .int x3), (4, .int x4)] → W p l e R s m args below meth c s.heap [] 0 0 Q (F0 m 52 ls []) := by
    intro x3 x4 ls ho hl
    unfold wp_X8_rounded_52 at ho
    refine lv_iload_n hx hb dX8_rounded_52 rfl (lv_at hl 1 rfl) ?_
    exact C_53 x3 x4 p1 ls ho (lv_sub hl [0, 2, 3] rfl)
  have C_17 : ∀ (x3 : Int32) (y0 : Int32) (ls : Array Slot), wp_X8_rounded_17 post  mo_f mo_most mo_low mo_function mo_atX mo_atM p1 p2 x3 y0 → lv_has ls 7 [(0, .ref a_mo), (1, .int p1), (2, .int p2), (3, .int x3)] → W p l e R s m args below meth c s.heap [] 0 0 Q (F0 m 17 ls [.int y0]) := by
    intro x3 y0 ls ho hl
    unfold wp_X8_rounded_17 at ho
    refine lv_istore (lv' := [(4, .int y0), (0, .ref a_mo), (1, .int p1), (2, .int p2), (3, .int x3)]) hx hb dX8_rounded_17 hl (by decide) rfl (fun ls hl => ?_)
    refine lv_aload_n hx hb dX8_rounded_19 rfl (lv_at hl 1 rfl) ?_
    refine lv_iload_n hx hb dX8_rounded_20 rfl (lv_at hl 4 rfl) ?_
    refine ca_Vi (b := a_mo) (As := [.int x3]) (rest := []) ⟨hx, hb, hml, hown, hts⟩ (c_X8_isFloat l D cI cJ cZ a_mo a_moR a_moK a_moH a_moS a_moF a_moT a_moP a_moQ a_moA a_moB a_moD mo_e mo_f mo_codes mo_most mo_minus mo_low mo_function mo_atX mo_atM mo_spanFunction mo_spanRounding mo_spanMany mo_parts mo_shift x3 _ ho) (cwV 1 hts gX8_rounded_X8_isFloat rfl rfl rfl (by decide +kernel) ⟨hRf _ (Nat.le_of_ble_eq_true rfl), hRl _ (Nat.le_of_ble_eq_true rfl)⟩) hK hN hP [0] rfl 0 7 rfl rfl rfl rfl hl.1 rfl (Nat.le_of_ble_eq_true rfl) dX8_rounded_21 ⟨Nat.zero_le _, Nat.zero_le _⟩ (fun r21 ho => ?_)
    refine lv_if_eq (tgt := 32) hx hb dX8_rounded_24 (by decide) (fun c_24 => ?_) (fun c_24 => ?_)
    · replace ho := ho.1 c_24
      refine lv_iload_n hx hb dX8_rounded_32 rfl (lv_at hl 3 rfl) ?_
      refine lv_if_eq (tgt := 52) hx hb dX8_rounded_33 (by decide) (fun c_33 => ?_) (fun c_33 => ?_)
      · replace ho := ho.1 c_33
        exact C_52 x3 y0 ls ho (lv_sub hl [1, 2, 4, 0] rfl)
      · replace ho := ho.2 c_33
        refine lv_iload_n hx hb dX8_rounded_36 rfl (lv_at hl 2 rfl) ?_
        refine lv_iconst (v := 1) hx hb dX8_rounded_37 (by decide) ?_
        refine lv_icmp_le (tgt := 52) hx hb dX8_rounded_38 (by decide) (fun c_38 => ?_) (fun c_38 => ?_)
        · replace ho := ho.1 c_38
          exact C_52 x3 y0 ls ho (lv_sub hl [1, 2, 4, 0] rfl)
        · replace ho := ho.2 c_38
          refine lv_iload_n hx hb dX8_rounded_41 rfl (lv_at hl 2 rfl) ?_
          refine lv_iconst (v := 4) hx hb dX8_rounded_42 (by decide) ?_
          refine lv_icmp_ge (tgt := 52) hx hb dX8_rounded_43 (by decide) (fun c_43 => ?_) (fun c_43 => ?_)
          · replace ho := ho.1 c_43
            exact C_52 x3 y0 ls ho (lv_sub hl [1, 2, 4, 0] rfl)
          · replace ho := ho.2 c_43
            refine lv_iconst (v := 5) hx hb dX8_rounded_46 (by decide) ?_
            refine lv_iload_n hx hb dX8_rounded_47 rfl (lv_at hl 2 rfl) ?_
            refine lv_isub hx hb dX8_rounded_48 ?_
            refine lv_goto (tgt := 53) hx hb dX8_rounded_49 (by decide) ?_
            exact C_53 x3 y0 ((5 : Int32) - p1) ls ho (lv_sub hl [1, 4, 0] rfl)
    · replace ho := ho.2 c_24
      refine lv_iload hx hb dX8_rounded_27 (lv_at hl 0 rfl) ?_
      refine lv_iload_n hx hb dX8_rounded_29 rfl (lv_at hl 4 rfl) ?_
      refine lv_iadd hx hb dX8_rounded_30 ?_
      subst hQ; exact W.iret (v := (y0 + x3)) hx hb hr (fun t ht _ => ⟨(y0 + x3), rfl, ho, ht⟩) (fun _ h => by cases h) dX8_rounded_31
  unfold wp_X8_rounded at ho
  refine lv_aload_n hx hb dX8_rounded_0 rfl (lv_at hl 0 rfl) ?_
  refine ca_Vi (b := a_mo) (As := []) (rest := []) ⟨hx, hb, hml, hown, hts⟩ (c_X8_floor l D cI cJ cZ a_mo a_moR a_moK a_moH a_moS a_moF a_moT a_moP a_moQ a_moA a_moB a_moD mo_e mo_f mo_codes mo_most mo_minus mo_low mo_function mo_atX mo_atM mo_spanFunction mo_spanRounding mo_spanMany mo_parts mo_shift  _ ho) (cwV 0 hts gX8_rounded_X8_floor rfl rfl rfl (by decide +kernel) ⟨hRf _ (Nat.le_of_ble_eq_true rfl), hRl _ (Nat.le_of_ble_eq_true rfl)⟩) hK hN hP [0] rfl 0 7 rfl rfl rfl rfl hl.1 rfl (Nat.le_of_ble_eq_true rfl) dX8_rounded_1 ⟨Nat.zero_le _, Nat.zero_le _⟩ (fun r1 ho => ?_)
  refine lv_istore_n (lv' := [(3, .int r1), (0, .ref a_mo), (1, .int p1), (2, .int p2)]) hx hb dX8_rounded_4 rfl hl (by decide) rfl (fun ls hl => ?_)
  refine lv_iload_n hx hb dX8_rounded_5 rfl (lv_at hl 3 rfl) ?_
  refine lv_if_eq (tgt := 16) hx hb dX8_rounded_6 (by decide) (fun c_6 => ?_) (fun c_6 => ?_)
  · replace ho := ho.1 c_6
    refine lv_iconst (v := 0) hx hb dX8_rounded_16 (by decide) ?_
    exact C_17 r1 (0 : Int32) ls ho (lv_sub hl [1, 2, 3, 0] rfl)
  · replace ho := ho.2 c_6
    refine lv_aload_n hx hb dX8_rounded_9 rfl (lv_at hl 1 rfl) ?_
    refine va_get (D := D) (ci := 7) (v := .int mo_minus) (C := RX8) (T := TX8) (N := 25) hx hb hts in_X8_rounded_X8 hown hK hP 0 rfl rfl 5 (by decide) (hts (.fieldLink RX8 65 "HardBenchModel" "minus" "I") (List.mem_of_getElem? (i := 1) (by decide +kernel))) (fun _ h9 => h9) rfl dX8_rounded_10 ?_
    refine lv_goto (tgt := 17) hx hb dX8_rounded_13 (by decide) ?_
    exact C_17 r1 mo_minus ls ho (lv_sub hl [1, 2, 3, 0] rfl)

def wp_X8_round_88 (post : Int32 → Int32 → Int32 → Int64 → (Nat → Int32) → Prop)  (mo_f : Int32) (mo_most : Int32) (mo_minus : Int32) (mo_low : Int32) (mo_function : Int32) (mo_atX : Int32) (mo_atM : Int64) (moR_r : Nat → Int32) (y0 : Int32) (y1 : Int32) : Prop := wp_X8_rounded (fun r88 => (post r88 mo_function mo_atX mo_atM moR_r)) mo_f mo_most mo_minus mo_low mo_function mo_atX mo_atM y1 y0
def wp_X8_round_45 (post : Int32 → Int32 → Int32 → Int64 → (Nat → Int32) → Prop)  (mo_function : Int32) (mo_atX : Int32) (mo_atM : Int64) (moR_r : Nat → Int32) : Prop := wp_X8_refuse (fun r48 u48 => (post r48 mo_function mo_atX mo_atM u48)) moR_r (-6 : Int32)
def wp_X8_round_26 (post : Int32 → Int32 → Int32 → Int64 → (Nat → Int32) → Prop)  (mo_function : Int32) (mo_atX : Int32) (mo_atM : Int64) (moR_r : Nat → Int32) : Prop := wp_X8_refuse (fun r29 u29 => (post r29 mo_function mo_atX mo_atM u29)) moR_r (-4 : Int32)
def wp_X8_round (post : Int32 → Int32 → Int32 → Int64 → (Nat → Int32) → Prop) (mo_f : Int32) (mo_most : Int32) (mo_minus : Int32) (mo_low : Int32) (mo_function : Int32) (mo_atX : Int32) (mo_atM : Int64) (moR_r : Nat → Int32) (p1 : Int32) (p2 : Int32) (p3 : Int32) : Prop := wp_X8_isIn (fun r2 => (((¬ r2 = 0) → (((p1 < (-100000 : Int32)) → (wp_X8_round_26 post mo_function mo_atX mo_atM moR_r)) ∧ ((¬ (p1 < (-100000 : Int32))) → ((((-60 : Int32) ≤ p2) → ((((100000 : Int32) < p1) → (wp_X8_round_45 post mo_function mo_atX mo_atM moR_r)) ∧ ((¬ ((100000 : Int32) < p1)) → (((p2 ≤ (60 : Int32)) → (((¬ p1 = 0) → (((0 ≤ p1) → (wp_X8_round_88 post mo_f mo_most mo_minus mo_low (-1 : Int32) p2 ((if 0 ≤ p1 then p1 else 0 - p1).toInt64) moR_r (0 : Int32) p3)) ∧ ((¬ (0 ≤ p1)) → (wp_X8_round_88 post mo_f mo_most mo_minus mo_low (-1 : Int32) p2 ((if 0 ≤ p1 then p1 else 0 - p1).toInt64) moR_r (1 : Int32) p3)))) ∧ ((¬ (¬ p1 = 0)) → (post (0 : Int32) mo_function mo_atX mo_atM moR_r)))) ∧ ((¬ (p2 ≤ (60 : Int32))) → (wp_X8_round_45 post mo_function mo_atX mo_atM moR_r)))))) ∧ ((¬ ((-60 : Int32) ≤ p2)) → (wp_X8_round_26 post mo_function mo_atX mo_atM moR_r)))))) ∧ ((¬ (¬ r2 = 0)) → (wp_X8_refuse (fun r10 u10 => (post r10 mo_function mo_atX mo_atM u10)) moR_r (-1 : Int32))))) p3 (5 : Int32)
set_option maxRecDepth 20000 in
theorem in_X8_round_X8 : ∀ w ∈ u_ws RX8 TX8 25, w ∈ wsX8_round := fun w h => (goodIn_r wsX80 [58, 59, 60, 61, 62, 63, 64, 65, 66, 67, 68, 69, 70, 71, 72, 73, 74, 75, 76, 77, 78, 79, 80, 81, 82] (by decide +kernel) (by decide +kernel) w h).1
set_option maxHeartbeats 4000000 in
set_option maxRecDepth 100000 in
theorem c_X8_round (l : Launch) (D : va_G) (cI cJ cZ : ClassId) (a_mo : Nat) (a_moR : Nat) (a_moK : Nat) (a_moH : Nat) (a_moS : Nat) (a_moF : Nat) (a_moT : Nat) (a_moP : Nat) (a_moQ : Nat) (a_moA : Nat) (a_moB : Nat) (a_moD : Nat) (sz : Nat) (mo_e : Int32) (mo_f : Int32) (mo_codes : Int32) (mo_most : Int32) (mo_minus : Int32) (mo_low : Int32) (mo_function : Int32) (mo_atX : Int32) (mo_atM : Int64) (mo_spanFunction : Int32) (mo_spanRounding : Int32) (mo_spanMany : Int32) (mo_parts : Int32) (mo_shift : Int32) (moR_r : Nat → Int32) (p1 : Int32) (p2 : Int32) (p3 : Int32) (post : Int32 → Int32 → Int32 → Int64 → (Nat → Int32) → Prop) (A : Nat → Prop) (hAe : A = va_A [(a_mo, oX8 a_moR mo_e mo_f mo_codes mo_most mo_minus mo_low mo_function mo_atX mo_atM a_moK a_moH a_moS mo_spanFunction mo_spanRounding mo_spanMany a_moF a_moT mo_parts mo_shift a_moP a_moQ a_moA a_moB a_moD), (a_moR, .inl (cI, 7, .inl moR_r))] sz) (ho : wp_X8_round post mo_f mo_most mo_minus mo_low mo_function mo_atX mo_atM moR_r p1 p2 p3) : Met l yX8_round wsX8_round ({ frames := 5, cells := 0, slots := 0, locals := 127 } : Room) (rw_P D [(cI, .int), (cJ, .long), (cZ, .boolean)] [.ref a_mo, .int p1, .int p2, .int p3] sz [(a_mo, oX8 a_moR mo_e mo_f mo_codes mo_most mo_minus mo_low mo_function mo_atX mo_atM a_moK a_moH a_moS mo_spanFunction mo_spanRounding mo_spanMany a_moF a_moT mo_parts mo_shift a_moP a_moQ a_moA a_moB a_moD), (a_moR, .inl (cI, 7, .inl moR_r))]) (va_Qi (fun (r : Int32) (u : (Int32) × (Int32) × (Int64) × (Nat → Int32)) => post r u.1 u.2.1 u.2.2.1 u.2.2.2) (rw_B D A (fun (u : (Int32) × (Int32) × (Int64) × (Nat → Int32)) => [(a_mo, oX8 a_moR mo_e mo_f mo_codes mo_most mo_minus mo_low u.1 u.2.1 u.2.2.1 a_moK a_moH a_moS mo_spanFunction mo_spanRounding mo_spanMany a_moF a_moT mo_parts mo_shift a_moP a_moQ a_moA a_moB a_moD), (a_moR, .inl (cI, 7, .inl u.2.2.2))])) A) 0 0 A := by
  refine Met.ofW (cc := cX8_round) (maxL := 4) (ret := (some .int)) (by decide) rfl ?_
  intro p e s m args below meth c s₁ B hml hv
  obtain ⟨hargs, hsz, hP, hK, hN, hD0⟩ := hv
  have hx := B.exec
  have hb := B.bytes
  have hr := B.returns
  have hts := atoms_spec (ws := wsX8_round) B.pre
  have hown : s.vm.findClass RX8 = some m.cls := findClass_of_methodNamed B.named
  have hlocks := B.notSynchronized
  subst hsz
  have hD : va_D A [(a_mo, oX8 a_moR mo_e mo_f mo_codes mo_most mo_minus mo_low mo_function mo_atX mo_atM a_moK a_moH a_moS mo_spanFunction mo_spanRounding mo_spanMany a_moF a_moT mo_parts mo_shift a_moP a_moQ a_moA a_moB a_moD), (a_moR, .inl (cI, 7, .inl moR_r))] := by rw [hAe]; exact hD0.self
  have hA : ∀ q : Nat, s.heap.size ≤ q → A q := fun q h => by rw [hAe]; exact Or.inr h
  have hS : va_S A s.heap s.heap [] := va_S.rf
  have hl := lv_entry ([.ref a_mo, .int p1, .int p2, .int p3]) (n := 4) (Nat.le_of_ble_eq_true rfl)
  rw [hargs, lg_entry_eq, ← hargs]
  generalize (lg_sl ([.ref a_mo, .int p1, .int p2, .int p3]) ++ List.replicate (4 - (lg_sl ([.ref a_mo, .int p1, .int p2, .int p3])).length) Slot.unset).toArray = ls at hl ⊢
  replace hl : lv_has ls 4 [(0, .ref a_mo), (1, .int p1), (2, .int p2), (3, .int p3)] := hl
  have hRf : ∀ n, n ≤ 5 → n ≤ (headSpec wsX8_round ({ frames := 5, cells := 0, slots := 0, locals := 127 } : Room)).room.frames := fun n h => h
  have hRl : ∀ n, n ≤ 127 → n ≤ (headSpec wsX8_round ({ frames := 5, cells := 0, slots := 0, locals := 127 } : Room)).room.locals := fun n h => h
  generalize (headSpec wsX8_round ({ frames := 5, cells := 0, slots := 0, locals := 127 } : Room)).room = R at hRf hRl ⊢
  generalize hQ : MQ below _ args s 0 0 _ = Q
  have C_88 : ∀ (mo_function : Int32) (mo_atX : Int32) (mo_atM : Int64) (moR_r : Nat → Int32) (y0 : Int32) (y1 : Int32) (H : Heap) (locs : List Loc) (ls : Array Slot), wp_X8_round_88 post  mo_f mo_most mo_minus mo_low mo_function mo_atX mo_atM moR_r y0 y1 → va_P D vwCl [(a_mo, oX8 a_moR mo_e mo_f mo_codes mo_most mo_minus mo_low mo_function mo_atX mo_atM a_moK a_moH a_moS mo_spanFunction mo_spanRounding mo_spanMany a_moF a_moT mo_parts mo_shift a_moP a_moQ a_moA a_moB a_moD), (a_moR, .inl (cI, 7, .inl moR_r))] H → va_D A [(a_mo, oX8 a_moR mo_e mo_f mo_codes mo_most mo_minus mo_low mo_function mo_atX mo_atM a_moK a_moH a_moS mo_spanFunction mo_spanRounding mo_spanMany a_moF a_moT mo_parts mo_shift a_moP a_moQ a_moA a_moB a_moD), (a_moR, .inl (cI, 7, .inl moR_r))] → va_S A s.heap H locs → lv_has ls 4 [] → W p l e R s m args below meth c H locs 0 0 Q (F0 m 88 ls [.int y0, .int y1, .ref a_mo]) := by
    intro mo_function mo_atX mo_atM moR_r y0 y1 H locs ls ho hP hD hS hl
    unfold wp_X8_round_88 at ho
    refine ca_Vi (b := a_mo) (As := [.int y1, .int y0]) (rest := []) ⟨hx, hb, hml, hown, hts⟩ (c_X8_rounded l D cI cJ cZ a_mo a_moR a_moK a_moH a_moS a_moF a_moT a_moP a_moQ a_moA a_moB a_moD mo_e mo_f mo_codes mo_most mo_minus mo_low mo_function mo_atX mo_atM mo_spanFunction mo_spanRounding mo_spanMany mo_parts mo_shift y1 y0 _ ho) (cwV 2 hts gX8_round_X8_rounded rfl rfl rfl (by decide +kernel) ⟨hRf _ (Nat.le_of_ble_eq_true rfl), hRl _ (Nat.le_of_ble_eq_true rfl)⟩) hK hN hP [0] rfl 0 7 rfl rfl rfl rfl hl.1 rfl (Nat.le_of_ble_eq_true rfl) dX8_round_88 ⟨Nat.zero_le _, Nat.zero_le _⟩ (fun r88 ho => ?_)
    subst hQ; exact W.iret (v := r88) hx hb hr (fun t ht hW => ⟨⟨r88, (mo_function, mo_atX, mo_atM, moR_r), rfl, ho, by rw [ht]; exact hP, hD⟩, hS.F ht⟩) (fun q hq => hS.2.2 q hq) dX8_round_91
  have C_45 : ∀ (mo_function : Int32) (mo_atX : Int32) (mo_atM : Int64) (moR_r : Nat → Int32) (H : Heap) (locs : List Loc) (ls : Array Slot), wp_X8_round_45 post  mo_function mo_atX mo_atM moR_r → va_P D vwCl [(a_mo, oX8 a_moR mo_e mo_f mo_codes mo_most mo_minus mo_low mo_function mo_atX mo_atM a_moK a_moH a_moS mo_spanFunction mo_spanRounding mo_spanMany a_moF a_moT mo_parts mo_shift a_moP a_moQ a_moA a_moB a_moD), (a_moR, .inl (cI, 7, .inl moR_r))] H → va_D A [(a_mo, oX8 a_moR mo_e mo_f mo_codes mo_most mo_minus mo_low mo_function mo_atX mo_atM a_moK a_moH a_moS mo_spanFunction mo_spanRounding mo_spanMany a_moF a_moT mo_parts mo_shift a_moP a_moQ a_moA a_moB a_moD), (a_moR, .inl (cI, 7, .inl moR_r))] → va_S A s.heap H locs → lv_has ls 4 [(0, .ref a_mo)] → W p l e R s m args below meth c H locs 0 0 Q (F0 m 45 ls []) := by
    intro mo_function mo_atX mo_atM moR_r H locs ls ho hP hD hS hl
    unfold wp_X8_round_45 at ho
    refine lv_aload_n hx hb dX8_round_45 rfl (lv_at hl 0 rfl) ?_
    refine lv_bipush (v := (-6)) hx hb dX8_round_46 (by decide) ?_
    refine ca_Wi (b := a_mo) (As := [.int (-6 : Int32)]) (rest := []) (wr := []) (wo := fun u => [(a_mo, oX8 a_moR mo_e mo_f mo_codes mo_most mo_minus mo_low mo_function mo_atX mo_atM a_moK a_moH a_moS mo_spanFunction mo_spanRounding mo_spanMany a_moF a_moT mo_parts mo_shift a_moP a_moQ a_moA a_moB a_moD), (a_moR, .inl (cI, 7, .inl u))]) (wn := fun u => [(a_mo, oX8 a_moR mo_e mo_f mo_codes mo_most mo_minus mo_low mo_function mo_atX mo_atM a_moK a_moH a_moS mo_spanFunction mo_spanRounding mo_spanMany a_moF a_moT mo_parts mo_shift a_moP a_moQ a_moA a_moB a_moD), (a_moR, .inl (cI, 7, .inl u))]) ⟨hx, hb, hml, hown, hts⟩ (c_X8_refuse l D cI cJ cZ a_mo a_moR a_moK a_moH a_moS a_moF a_moT a_moP a_moQ a_moA a_moB a_moD H.size mo_e mo_f mo_codes mo_most mo_minus mo_low mo_function mo_atX mo_atM mo_spanFunction mo_spanRounding mo_spanMany mo_parts mo_shift moR_r (-6 : Int32) _ _ rfl ho) (cwV 1 hts gX8_round_X8_refuse rfl rfl rfl (by decide +kernel) ⟨hRf _ (Nat.le_of_ble_eq_true rfl), hRl _ (Nat.le_of_ble_eq_true rfl)⟩) hK hN hP hD hS hA [0, 1] [] [0, 1] rfl rfl (by decide) (by decide) (by decide) (by decide) (fun _ => rfl) 0 7 rfl rfl rfl rfl hl.1 rfl (Nat.le_of_ble_eq_true rfl) dX8_round_48 ⟨Nat.zero_le _, Nat.zero_le _⟩ (fun r48 u48 H locs ho hP hD hS => ?_)
    try dsimp only at ho
    replace hP : va_P D vwCl [(a_mo, oX8 a_moR mo_e mo_f mo_codes mo_most mo_minus mo_low mo_function mo_atX mo_atM a_moK a_moH a_moS mo_spanFunction mo_spanRounding mo_spanMany a_moF a_moT mo_parts mo_shift a_moP a_moQ a_moA a_moB a_moD), (a_moR, .inl (cI, 7, .inl u48))] H := hP
    replace hD : va_D A [(a_mo, oX8 a_moR mo_e mo_f mo_codes mo_most mo_minus mo_low mo_function mo_atX mo_atM a_moK a_moH a_moS mo_spanFunction mo_spanRounding mo_spanMany a_moF a_moT mo_parts mo_shift a_moP a_moQ a_moA a_moB a_moD), (a_moR, .inl (cI, 7, .inl u48))] := hD
    subst hQ; exact W.iret (v := r48) hx hb hr (fun t ht hW => ⟨⟨r48, (mo_function, mo_atX, mo_atM, u48), rfl, ho, by rw [ht]; exact hP, hD⟩, hS.F ht⟩) (fun q hq => hS.2.2 q hq) dX8_round_51
  have C_26 : ∀ (mo_function : Int32) (mo_atX : Int32) (mo_atM : Int64) (moR_r : Nat → Int32) (H : Heap) (locs : List Loc) (ls : Array Slot), wp_X8_round_26 post  mo_function mo_atX mo_atM moR_r → va_P D vwCl [(a_mo, oX8 a_moR mo_e mo_f mo_codes mo_most mo_minus mo_low mo_function mo_atX mo_atM a_moK a_moH a_moS mo_spanFunction mo_spanRounding mo_spanMany a_moF a_moT mo_parts mo_shift a_moP a_moQ a_moA a_moB a_moD), (a_moR, .inl (cI, 7, .inl moR_r))] H → va_D A [(a_mo, oX8 a_moR mo_e mo_f mo_codes mo_most mo_minus mo_low mo_function mo_atX mo_atM a_moK a_moH a_moS mo_spanFunction mo_spanRounding mo_spanMany a_moF a_moT mo_parts mo_shift a_moP a_moQ a_moA a_moB a_moD), (a_moR, .inl (cI, 7, .inl moR_r))] → va_S A s.heap H locs → lv_has ls 4 [(0, .ref a_mo)] → W p l e R s m args below meth c H locs 0 0 Q (F0 m 26 ls []) := by
    intro mo_function mo_atX mo_atM moR_r H locs ls ho hP hD hS hl
    unfold wp_X8_round_26 at ho
    refine lv_aload_n hx hb dX8_round_26 rfl (lv_at hl 0 rfl) ?_
    refine lv_bipush (v := (-4)) hx hb dX8_round_27 (by decide) ?_
    refine ca_Wi (b := a_mo) (As := [.int (-4 : Int32)]) (rest := []) (wr := []) (wo := fun u => [(a_mo, oX8 a_moR mo_e mo_f mo_codes mo_most mo_minus mo_low mo_function mo_atX mo_atM a_moK a_moH a_moS mo_spanFunction mo_spanRounding mo_spanMany a_moF a_moT mo_parts mo_shift a_moP a_moQ a_moA a_moB a_moD), (a_moR, .inl (cI, 7, .inl u))]) (wn := fun u => [(a_mo, oX8 a_moR mo_e mo_f mo_codes mo_most mo_minus mo_low mo_function mo_atX mo_atM a_moK a_moH a_moS mo_spanFunction mo_spanRounding mo_spanMany a_moF a_moT mo_parts mo_shift a_moP a_moQ a_moA a_moB a_moD), (a_moR, .inl (cI, 7, .inl u))]) ⟨hx, hb, hml, hown, hts⟩ (c_X8_refuse l D cI cJ cZ a_mo a_moR a_moK a_moH a_moS a_moF a_moT a_moP a_moQ a_moA a_moB a_moD H.size mo_e mo_f mo_codes mo_most mo_minus mo_low mo_function mo_atX mo_atM mo_spanFunction mo_spanRounding mo_spanMany mo_parts mo_shift moR_r (-4 : Int32) _ _ rfl ho) (cwV 1 hts gX8_round_X8_refuse rfl rfl rfl (by decide +kernel) ⟨hRf _ (Nat.le_of_ble_eq_true rfl), hRl _ (Nat.le_of_ble_eq_true rfl)⟩) hK hN hP hD hS hA [0, 1] [] [0, 1] rfl rfl (by decide) (by decide) (by decide) (by decide) (fun _ => rfl) 0 7 rfl rfl rfl rfl hl.1 rfl (Nat.le_of_ble_eq_true rfl) dX8_round_29 ⟨Nat.zero_le _, Nat.zero_le _⟩ (fun r29 u29 H locs ho hP hD hS => ?_)
    try dsimp only at ho
    replace hP : va_P D vwCl [(a_mo, oX8 a_moR mo_e mo_f mo_codes mo_most mo_minus mo_low mo_function mo_atX mo_atM a_moK a_moH a_moS mo_spanFunction mo_spanRounding mo_spanMany a_moF a_moT mo_parts mo_shift a_moP a_moQ a_moA a_moB a_moD), (a_moR, .inl (cI, 7, .inl u29))] H := hP
    replace hD : va_D A [(a_mo, oX8 a_moR mo_e mo_f mo_codes mo_most mo_minus mo_low mo_function mo_atX mo_atM a_moK a_moH a_moS mo_spanFunction mo_spanRounding mo_spanMany a_moF a_moT mo_parts mo_shift a_moP a_moQ a_moA a_moB a_moD), (a_moR, .inl (cI, 7, .inl u29))] := hD
    subst hQ; exact W.iret (v := r29) hx hb hr (fun t ht hW => ⟨⟨r29, (mo_function, mo_atX, mo_atM, u29), rfl, ho, by rw [ht]; exact hP, hD⟩, hS.F ht⟩) (fun q hq => hS.2.2 q hq) dX8_round_32
  unfold wp_X8_round at ho
  refine lv_iload_n hx hb dX8_round_0 rfl (lv_at hl 3 rfl) ?_
  refine lv_iconst (v := 5) hx hb dX8_round_1 (by decide) ?_
  refine ca_Si (As := [.int p3, .int (5 : Int32)]) (rest := []) ⟨hx, hb, hml, hown, hts⟩ (c_X8_isIn l D cI cJ cZ   p3 (5 : Int32) _ ho) (va_cwS 2 hts gX8_round_X8_isIn rfl rfl rfl (by decide +kernel) ⟨hRf _ (Nat.le_of_ble_eq_true rfl), hRl _ (Nat.le_of_ble_eq_true rfl)⟩) hK hN hP [] rfl rfl hl.1 rfl (Nat.le_of_ble_eq_true rfl) dX8_round_2 ⟨Nat.zero_le _, Nat.zero_le _⟩ (fun r2 ho => ?_)
  refine lv_if_ne (tgt := 14) hx hb dX8_round_5 (by decide) (fun c_5 => ?_) (fun c_5 => ?_)
  · replace ho := ho.1 c_5
    refine lv_iload_n hx hb dX8_round_14 rfl (lv_at hl 1 rfl) ?_
    refine lv_ldc hx hb hown (hts (.constant RX8 148 (-100000)) (List.mem_of_getElem? (i := 1) (by decide +kernel))) dX8_round_15 ?_
    refine lv_icmp_lt (tgt := 26) hx hb dX8_round_17 (by decide) (fun c_17 => ?_) (fun c_17 => ?_)
    · replace ho := ho.1 c_17
      exact C_26 mo_function mo_atX mo_atM moR_r H locs ls ho hP hD hS (lv_sub hl [0] rfl)
    · replace ho := ho.2 c_17
      refine lv_iload_n hx hb dX8_round_20 rfl (lv_at hl 2 rfl) ?_
      refine lv_bipush (v := (-60)) hx hb dX8_round_21 (by decide) ?_
      refine lv_icmp_ge (tgt := 33) hx hb dX8_round_23 (by decide) (fun c_23 => ?_) (fun c_23 => ?_)
      · replace ho := ho.1 c_23
        refine lv_iload_n hx hb dX8_round_33 rfl (lv_at hl 1 rfl) ?_
        refine lv_ldc hx hb hown (hts (.constant RX8 149 (100000)) (List.mem_of_getElem? (i := 2) (by decide +kernel))) dX8_round_34 ?_
        refine lv_icmp_gt (tgt := 45) hx hb dX8_round_36 (by decide) (fun c_36 => ?_) (fun c_36 => ?_)
        · replace ho := ho.1 c_36
          exact C_45 mo_function mo_atX mo_atM moR_r H locs ls ho hP hD hS (lv_sub hl [0] rfl)
        · replace ho := ho.2 c_36
          refine lv_iload_n hx hb dX8_round_39 rfl (lv_at hl 2 rfl) ?_
          refine lv_bipush (v := 60) hx hb dX8_round_40 (by decide) ?_
          refine lv_icmp_le (tgt := 52) hx hb dX8_round_42 (by decide) (fun c_42 => ?_) (fun c_42 => ?_)
          · replace ho := ho.1 c_42
            refine lv_iload_n hx hb dX8_round_52 rfl (lv_at hl 1 rfl) ?_
            refine lv_if_ne (tgt := 58) hx hb dX8_round_53 (by decide) (fun c_53 => ?_) (fun c_53 => ?_)
            · replace ho := ho.1 c_53
              refine lv_aload_n hx hb dX8_round_58 rfl (lv_at hl 0 rfl) ?_
              refine lv_iconst (v := (-1)) hx hb dX8_round_59 (by decide) ?_
              refine va_put (D := D) (ci := 7) (v := .int (-1 : Int32)) (ty := .int) (C := RX8) (T := TX8) (N := 25) hx hb hts in_X8_round_X8 tyX8 tyX8_ok nmX8 hown hK hP hD hS 0 rfl rfl 7 (by decide) (hts (.fieldLink RX8 118 "HardBenchModel" "function" "I") (List.mem_of_getElem? (i := 3) (by decide +kernel))) (fun _ h9 => h9) rfl (by decide +kernel) rfl rfl (Nat.le_of_ble_eq_true rfl) dX8_round_60 (fun H locs hP hD hS => ?_)
              replace hP : va_P D vwCl [(a_mo, oX8 a_moR mo_e mo_f mo_codes mo_most mo_minus mo_low (-1 : Int32) mo_atX mo_atM a_moK a_moH a_moS mo_spanFunction mo_spanRounding mo_spanMany a_moF a_moT mo_parts mo_shift a_moP a_moQ a_moA a_moB a_moD), (a_moR, .inl (cI, 7, .inl moR_r))] H := hP
              replace hD : va_D A [(a_mo, oX8 a_moR mo_e mo_f mo_codes mo_most mo_minus mo_low (-1 : Int32) mo_atX mo_atM a_moK a_moH a_moS mo_spanFunction mo_spanRounding mo_spanMany a_moF a_moT mo_parts mo_shift a_moP a_moQ a_moA a_moB a_moD), (a_moR, .inl (cI, 7, .inl moR_r))] := hD
              refine lv_aload_n hx hb dX8_round_63 rfl (lv_at hl 0 rfl) ?_
              refine lv_iload_n hx hb dX8_round_64 rfl (lv_at hl 1 rfl) ?_
              refine va_mabs hx hb (hml.trans hl.1.symm) hown (hts (.methodLink RX8 109 Lib.Math.abs.name) (List.mem_of_getElem? (i := 4) (by decide +kernel))) (hts (.static Lib.Math.abs.name) (List.mem_of_getElem? (i := 5) (by decide +kernel))) (hts (.initialized "java/lang/Math") (List.mem_of_getElem? (i := 6) (by decide +kernel))) (hts (.code Lib.Math.abs.name Lib.Math.abs.code 1 (some .int)) (List.mem_of_getElem? (i := 7) (by decide +kernel))) (hRf 1 (Nat.le_of_ble_eq_true rfl)) (hRl _ (Nat.le_of_ble_eq_true rfl)) (Nat.zero_le _) (Nat.zero_le _) dX8_round_65 ?_
              refine lv_i2l hx hb dX8_round_68 rfl ?_
              refine va_put (D := D) (ci := 7) (v := .long ((if 0 ≤ p1 then p1 else 0 - p1).toInt64)) (ty := .long) (C := RX8) (T := TX8) (N := 25) hx hb hts in_X8_round_X8 tyX8 tyX8_ok nmX8 hown hK hP hD hS 0 rfl rfl 9 (by decide) (hts (.fieldLink RX8 121 "HardBenchModel" "atM" "J") (List.mem_of_getElem? (i := 8) (by decide +kernel))) (fun _ h9 => h9) rfl (by decide +kernel) rfl rfl (Nat.le_of_ble_eq_true rfl) dX8_round_69 (fun H locs hP hD hS => ?_)
              replace hP : va_P D vwCl [(a_mo, oX8 a_moR mo_e mo_f mo_codes mo_most mo_minus mo_low (-1 : Int32) mo_atX ((if 0 ≤ p1 then p1 else 0 - p1).toInt64) a_moK a_moH a_moS mo_spanFunction mo_spanRounding mo_spanMany a_moF a_moT mo_parts mo_shift a_moP a_moQ a_moA a_moB a_moD), (a_moR, .inl (cI, 7, .inl moR_r))] H := hP
              replace hD : va_D A [(a_mo, oX8 a_moR mo_e mo_f mo_codes mo_most mo_minus mo_low (-1 : Int32) mo_atX ((if 0 ≤ p1 then p1 else 0 - p1).toInt64) a_moK a_moH a_moS mo_spanFunction mo_spanRounding mo_spanMany a_moF a_moT mo_parts mo_shift a_moP a_moQ a_moA a_moB a_moD), (a_moR, .inl (cI, 7, .inl moR_r))] := hD
              refine lv_aload_n hx hb dX8_round_72 rfl (lv_at hl 0 rfl) ?_
              refine lv_iload_n hx hb dX8_round_73 rfl (lv_at hl 2 rfl) ?_
              refine va_put (D := D) (ci := 7) (v := .int p2) (ty := .int) (C := RX8) (T := TX8) (N := 25) hx hb hts in_X8_round_X8 tyX8 tyX8_ok nmX8 hown hK hP hD hS 0 rfl rfl 8 (by decide) (hts (.fieldLink RX8 125 "HardBenchModel" "atX" "I") (List.mem_of_getElem? (i := 9) (by decide +kernel))) (fun _ h9 => h9) rfl (by decide +kernel) rfl rfl (Nat.le_of_ble_eq_true rfl) dX8_round_74 (fun H locs hP hD hS => ?_)
              replace hP : va_P D vwCl [(a_mo, oX8 a_moR mo_e mo_f mo_codes mo_most mo_minus mo_low (-1 : Int32) p2 ((if 0 ≤ p1 then p1 else 0 - p1).toInt64) a_moK a_moH a_moS mo_spanFunction mo_spanRounding mo_spanMany a_moF a_moT mo_parts mo_shift a_moP a_moQ a_moA a_moB a_moD), (a_moR, .inl (cI, 7, .inl moR_r))] H := hP
              replace hD : va_D A [(a_mo, oX8 a_moR mo_e mo_f mo_codes mo_most mo_minus mo_low (-1 : Int32) p2 ((if 0 ≤ p1 then p1 else 0 - p1).toInt64) a_moK a_moH a_moS mo_spanFunction mo_spanRounding mo_spanMany a_moF a_moT mo_parts mo_shift a_moP a_moQ a_moA a_moB a_moD), (a_moR, .inl (cI, 7, .inl moR_r))] := hD
              refine lv_aload_n hx hb dX8_round_77 rfl (lv_at hl 0 rfl) ?_
              refine lv_iload_n hx hb dX8_round_78 rfl (lv_at hl 3 rfl) ?_
              refine lv_iload_n hx hb dX8_round_79 rfl (lv_at hl 1 rfl) ?_
              refine lv_if_ge (tgt := 87) hx hb dX8_round_80 (by decide) (fun c_80 => ?_) (fun c_80 => ?_)
              · replace ho := ho.1 c_80
                refine lv_iconst (v := 0) hx hb dX8_round_87 (by decide) ?_
                exact C_88 (-1 : Int32) p2 ((if 0 ≤ p1 then p1 else 0 - p1).toInt64) moR_r (0 : Int32) p3 H locs ls ho hP hD hS (lv_sub hl [] rfl)
              · replace ho := ho.2 c_80
                refine lv_iconst (v := 1) hx hb dX8_round_83 (by decide) ?_
                refine lv_goto (tgt := 88) hx hb dX8_round_84 (by decide) ?_
                exact C_88 (-1 : Int32) p2 ((if 0 ≤ p1 then p1 else 0 - p1).toInt64) moR_r (1 : Int32) p3 H locs ls ho hP hD hS (lv_sub hl [] rfl)
            · replace ho := ho.2 c_53
              refine lv_iconst (v := 0) hx hb dX8_round_56 (by decide) ?_
              subst hQ; exact W.iret (v := (0 : Int32)) hx hb hr (fun t ht hW => ⟨⟨(0 : Int32), (mo_function, mo_atX, mo_atM, moR_r), rfl, ho, by rw [ht]; exact hP, hD⟩, hS.F ht⟩) (fun q hq => hS.2.2 q hq) dX8_round_57
          · replace ho := ho.2 c_42
            exact C_45 mo_function mo_atX mo_atM moR_r H locs ls ho hP hD hS (lv_sub hl [0] rfl)
      · replace ho := ho.2 c_23
        exact C_26 mo_function mo_atX mo_atM moR_r H locs ls ho hP hD hS (lv_sub hl [0] rfl)
  · replace ho := ho.2 c_5
    refine lv_aload_n hx hb dX8_round_8 rfl (lv_at hl 0 rfl) ?_
    refine lv_iconst (v := (-1)) hx hb dX8_round_9 (by decide) ?_
    refine ca_Wi (b := a_mo) (As := [.int (-1 : Int32)]) (rest := []) (wr := []) (wo := fun u => [(a_mo, oX8 a_moR mo_e mo_f mo_codes mo_most mo_minus mo_low mo_function mo_atX mo_atM a_moK a_moH a_moS mo_spanFunction mo_spanRounding mo_spanMany a_moF a_moT mo_parts mo_shift a_moP a_moQ a_moA a_moB a_moD), (a_moR, .inl (cI, 7, .inl u))]) (wn := fun u => [(a_mo, oX8 a_moR mo_e mo_f mo_codes mo_most mo_minus mo_low mo_function mo_atX mo_atM a_moK a_moH a_moS mo_spanFunction mo_spanRounding mo_spanMany a_moF a_moT mo_parts mo_shift a_moP a_moQ a_moA a_moB a_moD), (a_moR, .inl (cI, 7, .inl u))]) ⟨hx, hb, hml, hown, hts⟩ (c_X8_refuse l D cI cJ cZ a_mo a_moR a_moK a_moH a_moS a_moF a_moT a_moP a_moQ a_moA a_moB a_moD H.size mo_e mo_f mo_codes mo_most mo_minus mo_low mo_function mo_atX mo_atM mo_spanFunction mo_spanRounding mo_spanMany mo_parts mo_shift moR_r (-1 : Int32) _ _ rfl ho) (cwV 1 hts gX8_round_X8_refuse rfl rfl rfl (by decide +kernel) ⟨hRf _ (Nat.le_of_ble_eq_true rfl), hRl _ (Nat.le_of_ble_eq_true rfl)⟩) hK hN hP hD hS hA [0, 1] [] [0, 1] rfl rfl (by decide) (by decide) (by decide) (by decide) (fun _ => rfl) 0 7 rfl rfl rfl rfl hl.1 rfl (Nat.le_of_ble_eq_true rfl) dX8_round_10 ⟨Nat.zero_le _, Nat.zero_le _⟩ (fun r10 u10 H locs ho hP hD hS => ?_)
    try dsimp only at ho
    replace hP : va_P D vwCl [(a_mo, oX8 a_moR mo_e mo_f mo_codes mo_most mo_minus mo_low mo_function mo_atX mo_atM a_moK a_moH a_moS mo_spanFunction mo_spanRounding mo_spanMany a_moF a_moT mo_parts mo_shift a_moP a_moQ a_moA a_moB a_moD), (a_moR, .inl (cI, 7, .inl u10))] H := hP
    replace hD : va_D A [(a_mo, oX8 a_moR mo_e mo_f mo_codes mo_most mo_minus mo_low mo_function mo_atX mo_atM a_moK a_moH a_moS mo_spanFunction mo_spanRounding mo_spanMany a_moF a_moT mo_parts mo_shift a_moP a_moQ a_moA a_moB a_moD), (a_moR, .inl (cI, 7, .inl u10))] := hD
    subst hQ; exact W.iret (v := r10) hx hb hr (fun t ht hW => ⟨⟨r10, (mo_function, mo_atX, mo_atM, u10), rfl, ho, by rw [ht]; exact hP, hD⟩, hS.F ht⟩) (fun q hq => hS.2.2 q hq) dX8_round_13

def wp_X8_plainly_53 (post : Int32 → Prop)  (p1 : Int32) (x3 : Int32) (x4 : Int32) (x5 : Int32) : Prop := ((¬ x4 = (1 : Int32)) → (((¬ x4 = (2 : Int32)) → (post (-1 : Int32))) ∧ ((¬ (¬ x4 = (2 : Int32))) → (((¬ p1 = 0) → (((¬ p1 = (3 : Int32)) → (post (x3 + x5))) ∧ ((¬ (¬ p1 = (3 : Int32))) → (post x5)))) ∧ ((¬ (¬ p1 = 0)) → (post x3)))))) ∧ ((¬ (¬ x4 = (1 : Int32))) → (((¬ p1 = 0) → (((¬ p1 = (3 : Int32)) → (post x3)) ∧ ((¬ (¬ p1 = (3 : Int32))) → (post (0 : Int32))))) ∧ ((¬ (¬ p1 = 0)) → (post (x3 + x5)))))
def wp_X8_plainly (post : Int32 → Prop) (mo_most : Int32) (mo_minus : Int32) (p1 : Int32) (p2 : Int32) : Prop := (¬ mo_minus = 0) ∧ (wp_X8_kind (fun r14 => (((r14 = (3 : Int32)) → (post ((mo_most + (1 : Int32)) + (1 : Int32)))) ∧ ((¬ (r14 = (3 : Int32))) → (((¬ p1 = (1 : Int32)) → (wp_X8_plainly_53 post p1 ((p2 / mo_minus) * mo_minus) r14 (mo_most + (1 : Int32)))) ∧ ((¬ (¬ p1 = (1 : Int32))) → (((((p2 / mo_minus) * mo_minus) ≤ 0) → (wp_X8_plainly_53 post p1 ((p2 / mo_minus) * mo_minus) r14 (mo_most + (1 : Int32)))) ∧ ((¬ (((p2 / mo_minus) * mo_minus) ≤ 0)) → (((r14 = (1 : Int32)) → (wp_X8_plainly_53 post p1 ((p2 / mo_minus) * mo_minus) r14 (mo_most + (1 : Int32)))) ∧ ((¬ (r14 = (1 : Int32))) → (post ((mo_most + (1 : Int32)) + (1 : Int32)))))))))))) mo_most mo_minus p2)
set_option maxRecDepth 20000 in
theorem in_X8_plainly_X8 : ∀ w ∈ u_ws RX8 TX8 25, w ∈ wsX8_plainly := fun w h => (goodIn_r wsX80 [12, 13, 14, 15, 16, 17, 18, 19, 20, 21, 22, 23, 24, 25, 26, 27, 28, 29, 30, 31, 32, 33, 34, 35, 36] (by decide +kernel) (by decide +kernel) w h).1
set_option maxHeartbeats 4000000 in
set_option maxRecDepth 100000 in
theorem c_X8_plainly (l : Launch) (D : va_G) (cI cJ cZ : ClassId) (a_mo : Nat) (a_moR : Nat) (a_moK : Nat) (a_moH : Nat) (a_moS : Nat) (a_moF : Nat) (a_moT : Nat) (a_moP : Nat) (a_moQ : Nat) (a_moA : Nat) (a_moB : Nat) (a_moD : Nat) (mo_e : Int32) (mo_f : Int32) (mo_codes : Int32) (mo_most : Int32) (mo_minus : Int32) (mo_low : Int32) (mo_function : Int32) (mo_atX : Int32) (mo_atM : Int64) (mo_spanFunction : Int32) (mo_spanRounding : Int32) (mo_spanMany : Int32) (mo_parts : Int32) (mo_shift : Int32) (p1 : Int32) (p2 : Int32) (post : Int32 → Prop) (ho : wp_X8_plainly post mo_most mo_minus p1 p2) : Met l yX8_plainly wsX8_plainly ({ frames := 2, cells := 0, slots := 0, locals := 43 } : Room) (ro_P D [(cI, .int), (cJ, .long), (cZ, .boolean)] [.ref a_mo, .int p1, .int p2] [(a_mo, oX8 a_moR mo_e mo_f mo_codes mo_most mo_minus mo_low mo_function mo_atX mo_atM a_moK a_moH a_moS mo_spanFunction mo_spanRounding mo_spanMany a_moF a_moT mo_parts mo_shift a_moP a_moQ a_moA a_moB a_moD)]) (vp_Si post) 0 0 (fun _ => False) := by
  refine Met.ofW (cc := cX8_plainly) (maxL := 6) (ret := (some .int)) (by decide) rfl ?_
  intro p e s m args below meth c s₁ B hml hv
  obtain ⟨hargs, hP, hK, hN⟩ := hv
  have hx := B.exec
  have hb := B.bytes
  have hr := B.returns
  have hts := atoms_spec (ws := wsX8_plainly) B.pre
  have hown : s.vm.findClass RX8 = some m.cls := findClass_of_methodNamed B.named
  have hlocks := B.notSynchronized
  have hl := lv_entry ([.ref a_mo, .int p1, .int p2]) (n := 6) (Nat.le_of_ble_eq_true rfl)
  rw [hargs, lg_entry_eq, ← hargs]
  generalize (lg_sl ([.ref a_mo, .int p1, .int p2]) ++ List.replicate (6 - (lg_sl ([.ref a_mo, .int p1, .int p2])).length) Slot.unset).toArray = ls at hl ⊢
  replace hl : lv_has ls 6 [(0, .ref a_mo), (1, .int p1), (2, .int p2)] := hl
  have hRf : ∀ n, n ≤ 2 → n ≤ (headSpec wsX8_plainly ({ frames := 2, cells := 0, slots := 0, locals := 43 } : Room)).room.frames := fun n h => h
  have hRl : ∀ n, n ≤ 43 → n ≤ (headSpec wsX8_plainly ({ frames := 2, cells := 0, slots := 0, locals := 43 } : Room)).room.locals := fun n h => h
  generalize (headSpec wsX8_plainly ({ frames := 2, cells := 0, slots := 0, locals := 43 } : Room)).room = R at hRf hRl ⊢
  generalize hQ : MQ below _ args s 0 0 _ = Q
  have C_53 : ∀ (x3 : Int32) (x4 : Int32) (x5 : Int32) (ls : Array Slot), wp_X8_plainly_53 post  p1 x3 x4 x5 → lv_has ls 6 [(1, .int p1), (3, .int x3), (4, .int x4), (5, .int x5)] → W p l e R s m args below meth c s.heap [] 0 0 Q (F0 m 53 ls []) := by
    intro x3 x4 x5 ls ho hl
    unfold wp_X8_plainly_53 at ho
    refine lv_iload hx hb dX8_plainly_53 (lv_at hl 2 rfl) ?_
    refine lv_iconst (v := 1) hx hb dX8_plainly_55 (by decide) ?_
    refine lv_icmp_ne (tgt := 81) hx hb dX8_plainly_56 (by decide) (fun c_56 => ?_) (fun c_56 => ?_)
    · replace ho := ho.1 c_56
      refine lv_iload hx hb dX8_plainly_81 (lv_at hl 2 rfl) ?_
      refine lv_iconst (v := 2) hx hb dX8_plainly_83 (by decide) ?_
      refine lv_icmp_ne (tgt := 110) hx hb dX8_plainly_84 (by decide) (fun c_84 => ?_) (fun c_84 => ?_)
      · replace ho := ho.1 c_84
        refine lv_iconst (v := (-1)) hx hb dX8_plainly_110 (by decide) ?_
        subst hQ; exact W.iret (v := (-1 : Int32)) hx hb hr (fun t ht _ => ⟨(-1 : Int32), rfl, ho, ht⟩) (fun _ h => by cases h) dX8_plainly_111
      · replace ho := ho.2 c_84
        refine lv_iload_n hx hb dX8_plainly_87 rfl (lv_at hl 0 rfl) ?_
        refine lv_if_ne (tgt := 95) hx hb dX8_plainly_88 (by decide) (fun c_88 => ?_) (fun c_88 => ?_)
        · replace ho := ho.1 c_88
          refine lv_iload_n hx hb dX8_plainly_95 rfl (lv_at hl 0 rfl) ?_
          refine lv_iconst (v := 3) hx hb dX8_plainly_96 (by decide) ?_
          refine lv_icmp_ne (tgt := 105) hx hb dX8_plainly_97 (by decide) (fun c_97 => ?_) (fun c_97 => ?_)
          · replace ho := ho.1 c_97
            refine lv_iload_n hx hb dX8_plainly_105 rfl (lv_at hl 1 rfl) ?_
            refine lv_iload hx hb dX8_plainly_106 (lv_at hl 3 rfl) ?_
            refine lv_iadd hx hb dX8_plainly_108 ?_
            subst hQ; exact W.iret (v := (x3 + x5)) hx hb hr (fun t ht _ => ⟨(x3 + x5), rfl, ho, ht⟩) (fun _ h => by cases h) dX8_plainly_109
          · replace ho := ho.2 c_97
            refine lv_iload hx hb dX8_plainly_100 (lv_at hl 3 rfl) ?_
            refine lv_goto (tgt := 109) hx hb dX8_plainly_102 (by decide) ?_
            subst hQ; exact W.iret (v := x5) hx hb hr (fun t ht _ => ⟨x5, rfl, ho, ht⟩) (fun _ h => by cases h) dX8_plainly_109
        · replace ho := ho.2 c_88
          refine lv_iload_n hx hb dX8_plainly_91 rfl (lv_at hl 1 rfl) ?_
          refine lv_goto (tgt := 109) hx hb dX8_plainly_92 (by decide) ?_
          subst hQ; exact W.iret (v := x3) hx hb hr (fun t ht _ => ⟨x3, rfl, ho, ht⟩) (fun _ h => by cases h) dX8_plainly_109
    · replace ho := ho.2 c_56
      refine lv_iload_n hx hb dX8_plainly_59 rfl (lv_at hl 0 rfl) ?_
      refine lv_if_ne (tgt := 70) hx hb dX8_plainly_60 (by decide) (fun c_60 => ?_) (fun c_60 => ?_)
      · replace ho := ho.1 c_60
        refine lv_iload_n hx hb dX8_plainly_70 rfl (lv_at hl 0 rfl) ?_
        refine lv_iconst (v := 3) hx hb dX8_plainly_71 (by decide) ?_
        refine lv_icmp_ne (tgt := 79) hx hb dX8_plainly_72 (by decide) (fun c_72 => ?_) (fun c_72 => ?_)
        · replace ho := ho.1 c_72
          refine lv_iload_n hx hb dX8_plainly_79 rfl (lv_at hl 1 rfl) ?_
          subst hQ; exact W.iret (v := x3) hx hb hr (fun t ht _ => ⟨x3, rfl, ho, ht⟩) (fun _ h => by cases h) dX8_plainly_80
        · replace ho := ho.2 c_72
          refine lv_iconst (v := 0) hx hb dX8_plainly_75 (by decide) ?_
          refine lv_goto (tgt := 80) hx hb dX8_plainly_76 (by decide) ?_
          subst hQ; exact W.iret (v := (0 : Int32)) hx hb hr (fun t ht _ => ⟨(0 : Int32), rfl, ho, ht⟩) (fun _ h => by cases h) dX8_plainly_80
      · replace ho := ho.2 c_60
        refine lv_iload_n hx hb dX8_plainly_63 rfl (lv_at hl 1 rfl) ?_
        refine lv_iload hx hb dX8_plainly_64 (lv_at hl 3 rfl) ?_
        refine lv_iadd hx hb dX8_plainly_66 ?_
        refine lv_goto (tgt := 80) hx hb dX8_plainly_67 (by decide) ?_
        subst hQ; exact W.iret (v := (x3 + x5)) hx hb hr (fun t ht _ => ⟨(x3 + x5), rfl, ho, ht⟩) (fun _ h => by cases h) dX8_plainly_80
  unfold wp_X8_plainly at ho
  refine lv_iload_n hx hb dX8_plainly_0 rfl (lv_at hl 2 rfl) ?_
  refine lv_aload_n hx hb dX8_plainly_1 rfl (lv_at hl 0 rfl) ?_
  refine va_get (D := D) (ci := 7) (v := .int mo_minus) (C := RX8) (T := TX8) (N := 25) hx hb hts in_X8_plainly_X8 hown hK hP 0 rfl rfl 5 (by decide) (hts (.fieldLink RX8 65 "HardBenchModel" "minus" "I") (List.mem_of_getElem? (i := 1) (by decide +kernel))) (fun _ h9 => h9) rfl dX8_plainly_2 ?_
  have o_5 := ho.1
  replace ho := ho.2
  refine lv_idiv hx hb dX8_plainly_5 o_5 ?_
  refine lv_aload_n hx hb dX8_plainly_6 rfl (lv_at hl 0 rfl) ?_
  refine va_get (D := D) (ci := 7) (v := .int mo_minus) (C := RX8) (T := TX8) (N := 25) hx hb hts in_X8_plainly_X8 hown hK hP 0 rfl rfl 5 (by decide) (hts (.fieldLink RX8 65 "HardBenchModel" "minus" "I") (List.mem_of_getElem? (i := 1) (by decide +kernel))) (fun _ h9 => h9) rfl dX8_plainly_7 ?_
  refine lv_imul hx hb dX8_plainly_10 ?_
  refine lv_istore_n (lv' := [(3, .int ((p2 / mo_minus) * mo_minus)), (0, .ref a_mo), (1, .int p1), (2, .int p2)]) hx hb dX8_plainly_11 rfl hl (by decide) rfl (fun ls hl => ?_)
  refine lv_aload_n hx hb dX8_plainly_12 rfl (lv_at hl 1 rfl) ?_
  refine lv_iload_n hx hb dX8_plainly_13 rfl (lv_at hl 3 rfl) ?_
  refine ca_Vi (b := a_mo) (As := [.int p2]) (rest := []) ⟨hx, hb, hml, hown, hts⟩ (c_X8_kind l D cI cJ cZ a_mo a_moR a_moK a_moH a_moS a_moF a_moT a_moP a_moQ a_moA a_moB a_moD mo_e mo_f mo_codes mo_most mo_minus mo_low mo_function mo_atX mo_atM mo_spanFunction mo_spanRounding mo_spanMany mo_parts mo_shift p2 _ ho) (cwV 1 hts gX8_plainly_X8_kind rfl rfl rfl (by decide +kernel) ⟨hRf _ (Nat.le_of_ble_eq_true rfl), hRl _ (Nat.le_of_ble_eq_true rfl)⟩) hK hN hP [0] rfl 0 7 rfl rfl rfl rfl hl.1 rfl (Nat.le_of_ble_eq_true rfl) dX8_plainly_14 ⟨Nat.zero_le _, Nat.zero_le _⟩ (fun r14 ho => ?_)
  refine lv_istore (lv' := [(4, .int r14), (3, .int ((p2 / mo_minus) * mo_minus)), (0, .ref a_mo), (1, .int p1), (2, .int p2)]) hx hb dX8_plainly_17 hl (by decide) rfl (fun ls hl => ?_)
  refine lv_aload_n hx hb dX8_plainly_19 rfl (lv_at hl 2 rfl) ?_
  refine va_get (D := D) (ci := 7) (v := .int mo_most) (C := RX8) (T := TX8) (N := 25) hx hb hts in_X8_plainly_X8 hown hK hP 0 rfl rfl 4 (by decide) (hts (.fieldLink RX8 68 "HardBenchModel" "most" "I") (List.mem_of_getElem? (i := 2) (by decide +kernel))) (fun _ h9 => h9) rfl dX8_plainly_20 ?_
  refine lv_iconst (v := 1) hx hb dX8_plainly_23 (by decide) ?_
  refine lv_iadd hx hb dX8_plainly_24 ?_
  refine lv_istore (lv' := [(5, .int (mo_most + (1 : Int32))), (4, .int r14), (3, .int ((p2 / mo_minus) * mo_minus)), (0, .ref a_mo), (1, .int p1), (2, .int p2)]) hx hb dX8_plainly_25 hl (by decide) rfl (fun ls hl => ?_)
  refine lv_iload hx hb dX8_plainly_27 (lv_at hl 1 rfl) ?_
  refine lv_iconst (v := 3) hx hb dX8_plainly_29 (by decide) ?_
  refine lv_icmp_eq (tgt := 48) hx hb dX8_plainly_30 (by decide) (fun c_30 => ?_) (fun c_30 => ?_)
  · replace ho := ho.1 c_30
    refine lv_iload hx hb dX8_plainly_48 (lv_at hl 0 rfl) ?_
    refine lv_iconst (v := 1) hx hb dX8_plainly_50 (by decide) ?_
    refine lv_iadd hx hb dX8_plainly_51 ?_
    subst hQ; exact W.iret (v := ((mo_most + (1 : Int32)) + (1 : Int32))) hx hb hr (fun t ht _ => ⟨((mo_most + (1 : Int32)) + (1 : Int32)), rfl, ho, ht⟩) (fun _ h => by cases h) dX8_plainly_52
  · replace ho := ho.2 c_30
    refine lv_iload_n hx hb dX8_plainly_33 rfl (lv_at hl 4 rfl) ?_
    refine lv_iconst (v := 1) hx hb dX8_plainly_34 (by decide) ?_
    refine lv_icmp_ne (tgt := 53) hx hb dX8_plainly_35 (by decide) (fun c_35 => ?_) (fun c_35 => ?_)
    · replace ho := ho.1 c_35
      exact C_53 ((p2 / mo_minus) * mo_minus) r14 (mo_most + (1 : Int32)) ls ho (lv_sub hl [4, 2, 1, 0] rfl)
    · replace ho := ho.2 c_35
      refine lv_iload_n hx hb dX8_plainly_38 rfl (lv_at hl 2 rfl) ?_
      refine lv_if_le (tgt := 53) hx hb dX8_plainly_39 (by decide) (fun c_39 => ?_) (fun c_39 => ?_)
      · replace ho := ho.1 c_39
        exact C_53 ((p2 / mo_minus) * mo_minus) r14 (mo_most + (1 : Int32)) ls ho (lv_sub hl [4, 2, 1, 0] rfl)
      · replace ho := ho.2 c_39
        refine lv_iload hx hb dX8_plainly_42 (lv_at hl 1 rfl) ?_
        refine lv_iconst (v := 1) hx hb dX8_plainly_44 (by decide) ?_
        refine lv_icmp_eq (tgt := 53) hx hb dX8_plainly_45 (by decide) (fun c_45 => ?_) (fun c_45 => ?_)
        · replace ho := ho.1 c_45
          exact C_53 ((p2 / mo_minus) * mo_minus) r14 (mo_most + (1 : Int32)) ls ho (lv_sub hl [4, 2, 1, 0] rfl)
        · replace ho := ho.2 c_45
          refine lv_iload hx hb dX8_plainly_48 (lv_at hl 0 rfl) ?_
          refine lv_iconst (v := 1) hx hb dX8_plainly_50 (by decide) ?_
          refine lv_iadd hx hb dX8_plainly_51 ?_
          subst hQ; exact W.iret (v := ((mo_most + (1 : Int32)) + (1 : Int32))) hx hb hr (fun t ht _ => ⟨((mo_most + (1 : Int32)) + (1 : Int32)), rfl, ho, ht⟩) (fun _ h => by cases h) dX8_plainly_52

def wp_X8_sets (post : Int32 → Int32 → Int64 → Prop) (mo_f : Int32) (mo_minus : Int32) (mo_low : Int32) (p1 : Int32) (p2 : Int32) : Prop := wp_X8_size (fun r9 => (wp_X8_figure (fun r12 => (wp_X8_size (fun r23 => (wp_X8_power (fun r26 => (post  p1 r26 r12.toInt64)) mo_f mo_low r23)) mo_minus p2)) mo_f r9)) mo_minus p2
set_option maxRecDepth 20000 in
theorem in_X8_sets_X8 : ∀ w ∈ u_ws RX8 TX8 25, w ∈ wsX8_sets := fun w h => (goodIn_r wsX80 [20, 21, 22, 23, 24, 25, 26, 27, 28, 29, 30, 31, 32, 33, 34, 35, 36, 37, 38, 39, 40, 41, 42, 43, 44] (by decide +kernel) (by decide +kernel) w h).1
set_option maxHeartbeats 4000000 in
set_option maxRecDepth 100000 in
theorem c_X8_sets (l : Launch) (D : va_G) (cI cJ cZ : ClassId) (a_mo : Nat) (a_moR : Nat) (a_moK : Nat) (a_moH : Nat) (a_moS : Nat) (a_moF : Nat) (a_moT : Nat) (a_moP : Nat) (a_moQ : Nat) (a_moA : Nat) (a_moB : Nat) (a_moD : Nat) (sz : Nat) (mo_e : Int32) (mo_f : Int32) (mo_codes : Int32) (mo_most : Int32) (mo_minus : Int32) (mo_low : Int32) (mo_function : Int32) (mo_atX : Int32) (mo_atM : Int64) (mo_spanFunction : Int32) (mo_spanRounding : Int32) (mo_spanMany : Int32) (mo_parts : Int32) (mo_shift : Int32) (p1 : Int32) (p2 : Int32) (post : Int32 → Int32 → Int64 → Prop) (A : Nat → Prop) (hAe : A = va_A [(a_mo, oX8 a_moR mo_e mo_f mo_codes mo_most mo_minus mo_low mo_function mo_atX mo_atM a_moK a_moH a_moS mo_spanFunction mo_spanRounding mo_spanMany a_moF a_moT mo_parts mo_shift a_moP a_moQ a_moA a_moB a_moD)] sz) (ho : wp_X8_sets post mo_f mo_minus mo_low p1 p2) : Met l yX8_sets wsX8_sets ({ frames := 1, cells := 0, slots := 0, locals := 21 } : Room) (rw_P D [(cI, .int), (cJ, .long), (cZ, .boolean)] [.ref a_mo, .int p1, .int p2] sz [(a_mo, oX8 a_moR mo_e mo_f mo_codes mo_most mo_minus mo_low mo_function mo_atX mo_atM a_moK a_moH a_moS mo_spanFunction mo_spanRounding mo_spanMany a_moF a_moT mo_parts mo_shift a_moP a_moQ a_moA a_moB a_moD)]) (va_Qv (fun (u : (Int32) × (Int32) × (Int64)) => post u.1 u.2.1 u.2.2) (rw_B D A (fun (u : (Int32) × (Int32) × (Int64)) => [(a_mo, oX8 a_moR mo_e mo_f mo_codes mo_most mo_minus mo_low u.1 u.2.1 u.2.2 a_moK a_moH a_moS mo_spanFunction mo_spanRounding mo_spanMany a_moF a_moT mo_parts mo_shift a_moP a_moQ a_moA a_moB a_moD)])) A) 0 0 A := by
  refine Met.ofW (cc := cX8_sets) (maxL := 3) (ret := none) (by decide) rfl ?_
  intro p e s m args below meth c s₁ B hml hv
  obtain ⟨hargs, hsz, hP, hK, hN, hD0⟩ := hv
  have hx := B.exec
  have hb := B.bytes
  have hr := B.returns
  have hts := atoms_spec (ws := wsX8_sets) B.pre
  have hown : s.vm.findClass RX8 = some m.cls := findClass_of_methodNamed B.named
  have hlocks := B.notSynchronized
  subst hsz
  have hD : va_D A [(a_mo, oX8 a_moR mo_e mo_f mo_codes mo_most mo_minus mo_low mo_function mo_atX mo_atM a_moK a_moH a_moS mo_spanFunction mo_spanRounding mo_spanMany a_moF a_moT mo_parts mo_shift a_moP a_moQ a_moA a_moB a_moD)] := by rw [hAe]; exact hD0.self
  have hA : ∀ q : Nat, s.heap.size ≤ q → A q := fun q h => by rw [hAe]; exact Or.inr h
  have hS : va_S A s.heap s.heap [] := va_S.rf
  have hl := lv_entry ([.ref a_mo, .int p1, .int p2]) (n := 3) (Nat.le_of_ble_eq_true rfl)
  rw [hargs, lg_entry_eq, ← hargs]
  generalize (lg_sl ([.ref a_mo, .int p1, .int p2]) ++ List.replicate (3 - (lg_sl ([.ref a_mo, .int p1, .int p2])).length) Slot.unset).toArray = ls at hl ⊢
  replace hl : lv_has ls 3 [(0, .ref a_mo), (1, .int p1), (2, .int p2)] := hl
  have hRf : ∀ n, n ≤ 1 → n ≤ (headSpec wsX8_sets ({ frames := 1, cells := 0, slots := 0, locals := 21 } : Room)).room.frames := fun n h => h
  have hRl : ∀ n, n ≤ 21 → n ≤ (headSpec wsX8_sets ({ frames := 1, cells := 0, slots := 0, locals := 21 } : Room)).room.locals := fun n h => h
  generalize (headSpec wsX8_sets ({ frames := 1, cells := 0, slots := 0, locals := 21 } : Room)).room = R at hRf hRl ⊢
  generalize hQ : MQ below _ args s 0 0 _ = Q
  unfold wp_X8_sets at ho
  refine lv_aload_n hx hb dX8_sets_0 rfl (lv_at hl 0 rfl) ?_
  refine lv_iload_n hx hb dX8_sets_1 rfl (lv_at hl 1 rfl) ?_
  refine va_put (D := D) (ci := 7) (v := .int p1) (ty := .int) (C := RX8) (T := TX8) (N := 25) hx hb hts in_X8_sets_X8 tyX8 tyX8_ok nmX8 hown hK hP hD hS 0 rfl rfl 7 (by decide) (hts (.fieldLink RX8 118 "HardBenchModel" "function" "I") (List.mem_of_getElem? (i := 1) (by decide +kernel))) (fun _ h9 => h9) rfl (by decide +kernel) rfl rfl (Nat.le_of_ble_eq_true rfl) dX8_sets_2 (fun H locs hP hD hS => ?_)
  replace hP : va_P D vwCl [(a_mo, oX8 a_moR mo_e mo_f mo_codes mo_most mo_minus mo_low p1 mo_atX mo_atM a_moK a_moH a_moS mo_spanFunction mo_spanRounding mo_spanMany a_moF a_moT mo_parts mo_shift a_moP a_moQ a_moA a_moB a_moD)] H := hP
  replace hD : va_D A [(a_mo, oX8 a_moR mo_e mo_f mo_codes mo_most mo_minus mo_low p1 mo_atX mo_atM a_moK a_moH a_moS mo_spanFunction mo_spanRounding mo_spanMany a_moF a_moT mo_parts mo_shift a_moP a_moQ a_moA a_moB a_moD)] := hD
  refine lv_aload_n hx hb dX8_sets_5 rfl (lv_at hl 0 rfl) ?_
  refine lv_aload_n hx hb dX8_sets_6 rfl (lv_at hl 0 rfl) ?_
  refine lv_aload_n hx hb dX8_sets_7 rfl (lv_at hl 0 rfl) ?_
  refine lv_iload_n hx hb dX8_sets_8 rfl (lv_at hl 2 rfl) ?_
  refine ca_Vi (b := a_mo) (As := [.int p2]) (rest := [.ref a_mo, .ref a_mo]) ⟨hx, hb, hml, hown, hts⟩ (c_X8_size l D cI cJ cZ a_mo a_moR a_moK a_moH a_moS a_moF a_moT a_moP a_moQ a_moA a_moB a_moD mo_e mo_f mo_codes mo_most mo_minus mo_low p1 mo_atX mo_atM mo_spanFunction mo_spanRounding mo_spanMany mo_parts mo_shift p2 _ ho) (cwV 1 hts gX8_sets_X8_size rfl rfl rfl (by decide +kernel) ⟨hRf _ (Nat.le_of_ble_eq_true rfl), hRl _ (Nat.le_of_ble_eq_true rfl)⟩) hK hN hP [0] rfl 0 7 rfl rfl rfl rfl hl.1 rfl (Nat.le_of_ble_eq_true rfl) dX8_sets_9 ⟨Nat.zero_le _, Nat.zero_le _⟩ (fun r9 ho => ?_)
  refine ca_Vi (b := a_mo) (As := [.int r9]) (rest := [.ref a_mo]) ⟨hx, hb, hml, hown, hts⟩ (c_X8_figure l D cI cJ cZ a_mo a_moR a_moK a_moH a_moS a_moF a_moT a_moP a_moQ a_moA a_moB a_moD mo_e mo_f mo_codes mo_most mo_minus mo_low p1 mo_atX mo_atM mo_spanFunction mo_spanRounding mo_spanMany mo_parts mo_shift r9 _ ho) (cwV 1 hts gX8_sets_X8_figure rfl rfl rfl (by decide +kernel) ⟨hRf _ (Nat.le_of_ble_eq_true rfl), hRl _ (Nat.le_of_ble_eq_true rfl)⟩) hK hN hP [0] rfl 0 7 rfl rfl rfl rfl hl.1 rfl (Nat.le_of_ble_eq_true rfl) dX8_sets_12 ⟨Nat.zero_le _, Nat.zero_le _⟩ (fun r12 ho => ?_)
  refine lv_i2l hx hb dX8_sets_15 rfl ?_
  refine va_put (D := D) (ci := 7) (v := .long r12.toInt64) (ty := .long) (C := RX8) (T := TX8) (N := 25) hx hb hts in_X8_sets_X8 tyX8 tyX8_ok nmX8 hown hK hP hD hS 0 rfl rfl 9 (by decide) (hts (.fieldLink RX8 121 "HardBenchModel" "atM" "J") (List.mem_of_getElem? (i := 2) (by decide +kernel))) (fun _ h9 => h9) rfl (by decide +kernel) rfl rfl (Nat.le_of_ble_eq_true rfl) dX8_sets_16 (fun H locs hP hD hS => ?_)
  replace hP : va_P D vwCl [(a_mo, oX8 a_moR mo_e mo_f mo_codes mo_most mo_minus mo_low p1 mo_atX r12.toInt64 a_moK a_moH a_moS mo_spanFunction mo_spanRounding mo_spanMany a_moF a_moT mo_parts mo_shift a_moP a_moQ a_moA a_moB a_moD)] H := hP
  replace hD : va_D A [(a_mo, oX8 a_moR mo_e mo_f mo_codes mo_most mo_minus mo_low p1 mo_atX r12.toInt64 a_moK a_moH a_moS mo_spanFunction mo_spanRounding mo_spanMany a_moF a_moT mo_parts mo_shift a_moP a_moQ a_moA a_moB a_moD)] := hD
  refine lv_aload_n hx hb dX8_sets_19 rfl (lv_at hl 0 rfl) ?_
  refine lv_aload_n hx hb dX8_sets_20 rfl (lv_at hl 0 rfl) ?_
  refine lv_aload_n hx hb dX8_sets_21 rfl (lv_at hl 0 rfl) ?_
  refine lv_iload_n hx hb dX8_sets_22 rfl (lv_at hl 2 rfl) ?_
  refine ca_Vi (b := a_mo) (As := [.int p2]) (rest := [.ref a_mo, .ref a_mo]) ⟨hx, hb, hml, hown, hts⟩ (c_X8_size l D cI cJ cZ a_mo a_moR a_moK a_moH a_moS a_moF a_moT a_moP a_moQ a_moA a_moB a_moD mo_e mo_f mo_codes mo_most mo_minus mo_low p1 mo_atX r12.toInt64 mo_spanFunction mo_spanRounding mo_spanMany mo_parts mo_shift p2 _ ho) (cwV 1 hts gX8_sets_X8_size rfl rfl rfl (by decide +kernel) ⟨hRf _ (Nat.le_of_ble_eq_true rfl), hRl _ (Nat.le_of_ble_eq_true rfl)⟩) hK hN hP [0] rfl 0 7 rfl rfl rfl rfl hl.1 rfl (Nat.le_of_ble_eq_true rfl) dX8_sets_23 ⟨Nat.zero_le _, Nat.zero_le _⟩ (fun r23 ho => ?_)
  refine ca_Vi (b := a_mo) (As := [.int r23]) (rest := [.ref a_mo]) ⟨hx, hb, hml, hown, hts⟩ (c_X8_power l D cI cJ cZ a_mo a_moR a_moK a_moH a_moS a_moF a_moT a_moP a_moQ a_moA a_moB a_moD mo_e mo_f mo_codes mo_most mo_minus mo_low p1 mo_atX r12.toInt64 mo_spanFunction mo_spanRounding mo_spanMany mo_parts mo_shift r23 _ ho) (cwV 1 hts gX8_sets_X8_power rfl rfl rfl (by decide +kernel) ⟨hRf _ (Nat.le_of_ble_eq_true rfl), hRl _ (Nat.le_of_ble_eq_true rfl)⟩) hK hN hP [0] rfl 0 7 rfl rfl rfl rfl hl.1 rfl (Nat.le_of_ble_eq_true rfl) dX8_sets_26 ⟨Nat.zero_le _, Nat.zero_le _⟩ (fun r26 ho => ?_)
  refine va_put (D := D) (ci := 7) (v := .int r26) (ty := .int) (C := RX8) (T := TX8) (N := 25) hx hb hts in_X8_sets_X8 tyX8 tyX8_ok nmX8 hown hK hP hD hS 0 rfl rfl 8 (by decide) (hts (.fieldLink RX8 125 "HardBenchModel" "atX" "I") (List.mem_of_getElem? (i := 3) (by decide +kernel))) (fun _ h9 => h9) rfl (by decide +kernel) rfl rfl (Nat.le_of_ble_eq_true rfl) dX8_sets_29 (fun H locs hP hD hS => ?_)
  replace hP : va_P D vwCl [(a_mo, oX8 a_moR mo_e mo_f mo_codes mo_most mo_minus mo_low p1 r26 r12.toInt64 a_moK a_moH a_moS mo_spanFunction mo_spanRounding mo_spanMany a_moF a_moT mo_parts mo_shift a_moP a_moQ a_moA a_moB a_moD)] H := hP
  replace hD : va_D A [(a_mo, oX8 a_moR mo_e mo_f mo_codes mo_most mo_minus mo_low p1 r26 r12.toInt64 a_moK a_moH a_moS mo_spanFunction mo_spanRounding mo_spanMany a_moF a_moT mo_parts mo_shift a_moP a_moQ a_moA a_moB a_moD)] := hD
  subst hQ; exact W.vret hx hb hr (fun t ht hW => ⟨⟨(p1, r26, r12.toInt64), rfl, ho, by rw [ht]; exact hP, hD⟩, hS.F ht⟩) (fun q hq => hS.2.2 q hq) dX8_sets_32

def wp_X8_rightOf_42 (post : Int32 → Int32 → Int32 → Int64 → Prop)  (mo_f : Int32) (mo_most : Int32) (mo_minus : Int32) (mo_low : Int32) (mo_function : Int32) (mo_atX : Int32) (mo_atM : Int64) (y0 : Int32) (y1 : Int32) : Prop := wp_X8_rounded (fun r42 => (post r42 mo_function mo_atX mo_atM)) mo_f mo_most mo_minus mo_low mo_function mo_atX mo_atM y1 y0
def wp_X8_rightOf_41 (post : Int32 → Int32 → Int32 → Int64 → Prop)  (mo_f : Int32) (mo_most : Int32) (mo_minus : Int32) (mo_low : Int32) (mo_function : Int32) (mo_atX : Int32) (mo_atM : Int64) (y0 : Int32) : Prop := wp_X8_rightOf_42 post mo_f mo_most mo_minus mo_low mo_function mo_atX mo_atM (0 : Int32) y0
def wp_X8_rightOf (post : Int32 → Int32 → Int32 → Int64 → Prop) (mo_f : Int32) (mo_most : Int32) (mo_minus : Int32) (mo_low : Int32) (mo_function : Int32) (mo_atX : Int32) (mo_atM : Int64) (p1 : Int32) (p2 : Int32) (p3 : Int32) : Prop := wp_X8_plainly (fun r3 => (((r3 < 0) → (wp_X8_sets (fun u19_1 u19_2 u19_3 => (((p2 < mo_minus) → (wp_X8_rightOf_41 post mo_f mo_most mo_minus mo_low u19_1 u19_2 u19_3 p3)) ∧ ((¬ (p2 < mo_minus)) → (((p1 = (3 : Int32)) → (wp_X8_rightOf_41 post mo_f mo_most mo_minus mo_low u19_1 u19_2 u19_3 p3)) ∧ ((¬ (p1 = (3 : Int32))) → (wp_X8_rightOf_42 post mo_f mo_most mo_minus mo_low u19_1 u19_2 u19_3 (1 : Int32) p3)))))) mo_f mo_minus mo_low p1 p2)) ∧ ((¬ (r3 < 0)) → (post r3 mo_function mo_atX mo_atM)))) mo_most mo_minus p1 p2
set_option maxRecDepth 20000 in
theorem in_X8_rightOf_X8 : ∀ w ∈ u_ws RX8 TX8 25, w ∈ wsX8_rightOf := fun w h => (goodIn_r wsX80 [60, 61, 62, 63, 64, 65, 66, 67, 68, 69, 70, 71, 72, 73, 74, 75, 76, 77, 78, 79, 80, 81, 82, 83, 84] (by decide +kernel) (by decide +kernel) w h).1
set_option maxHeartbeats 4000000 in
set_option maxRecDepth 100000 in
theorem c_X8_rightOf (l : Launch) (D : va_G) (cI cJ cZ : ClassId) (a_mo : Nat) (a_moR : Nat) (a_moK : Nat) (a_moH : Nat) (a_moS : Nat) (a_moF : Nat) (a_moT : Nat) (a_moP : Nat) (a_moQ : Nat) (a_moA : Nat) (a_moB : Nat) (a_moD : Nat) (sz : Nat) (mo_e : Int32) (mo_f : Int32) (mo_codes : Int32) (mo_most : Int32) (mo_minus : Int32) (mo_low : Int32) (mo_function : Int32) (mo_atX : Int32) (mo_atM : Int64) (mo_spanFunction : Int32) (mo_spanRounding : Int32) (mo_spanMany : Int32) (mo_parts : Int32) (mo_shift : Int32) (p1 : Int32) (p2 : Int32) (p3 : Int32) (post : Int32 → Int32 → Int32 → Int64 → Prop) (A : Nat → Prop) (hAe : A = va_A [(a_mo, oX8 a_moR mo_e mo_f mo_codes mo_most mo_minus mo_low mo_function mo_atX mo_atM a_moK a_moH a_moS mo_spanFunction mo_spanRounding mo_spanMany a_moF a_moT mo_parts mo_shift a_moP a_moQ a_moA a_moB a_moD)] sz) (ho : wp_X8_rightOf post mo_f mo_most mo_minus mo_low mo_function mo_atX mo_atM p1 p2 p3) : Met l yX8_rightOf wsX8_rightOf ({ frames := 5, cells := 0, slots := 0, locals := 127 } : Room) (rw_P D [(cI, .int), (cJ, .long), (cZ, .boolean)] [.ref a_mo, .int p1, .int p2, .int p3] sz [(a_mo, oX8 a_moR mo_e mo_f mo_codes mo_most mo_minus mo_low mo_function mo_atX mo_atM a_moK a_moH a_moS mo_spanFunction mo_spanRounding mo_spanMany a_moF a_moT mo_parts mo_shift a_moP a_moQ a_moA a_moB a_moD)]) (va_Qi (fun (r : Int32) (u : (Int32) × (Int32) × (Int64)) => post r u.1 u.2.1 u.2.2) (rw_B D A (fun (u : (Int32) × (Int32) × (Int64)) => [(a_mo, oX8 a_moR mo_e mo_f mo_codes mo_most mo_minus mo_low u.1 u.2.1 u.2.2 a_moK a_moH a_moS mo_spanFunction mo_spanRounding mo_spanMany a_moF a_moT mo_parts mo_shift a_moP a_moQ a_moA a_moB a_moD)])) A) 0 0 A := by
  refine Met.ofW (cc := cX8_rightOf) (maxL := 5) (ret := (some .int)) (by decide) rfl ?_
  intro p e s m args below meth c s₁ B hml hv
  obtain ⟨hargs, hsz, hP, hK, hN, hD0⟩ := hv
  have hx := B.exec
  have hb := B.bytes
  have hr := B.returns
  have hts := atoms_spec (ws := wsX8_rightOf) B.pre
  have hown : s.vm.findClass RX8 = some m.cls := findClass_of_methodNamed B.named
  have hlocks := B.notSynchronized
  subst hsz
  have hD : va_D A [(a_mo, oX8 a_moR mo_e mo_f mo_codes mo_most mo_minus mo_low mo_function mo_atX mo_atM a_moK a_moH a_moS mo_spanFunction mo_spanRounding mo_spanMany a_moF a_moT mo_parts mo_shift a_moP a_moQ a_moA a_moB a_moD)] := by rw [hAe]; exact hD0.self
  have hA : ∀ q : Nat, s.heap.size ≤ q → A q := fun q h => by rw [hAe]; exact Or.inr h
  have hS : va_S A s.heap s.heap [] := va_S.rf
  have hl := lv_entry ([.ref a_mo, .int p1, .int p2, .int p3]) (n := 5) (Nat.le_of_ble_eq_true rfl)
  rw [hargs, lg_entry_eq, ← hargs]
  generalize (lg_sl ([.ref a_mo, .int p1, .int p2, .int p3]) ++ List.replicate (5 - (lg_sl ([.ref a_mo, .int p1, .int p2, .int p3])).length) Slot.unset).toArray = ls at hl ⊢
  replace hl : lv_has ls 5 [(0, .ref a_mo), (1, .int p1), (2, .int p2), (3, .int p3)] := hl
  have hRf : ∀ n, n ≤ 5 → n ≤ (headSpec wsX8_rightOf ({ frames := 5, cells := 0, slots := 0, locals := 127 } : Room)).room.frames := fun n h => h
  have hRl : ∀ n, n ≤ 127 → n ≤ (headSpec wsX8_rightOf ({ frames := 5, cells := 0, slots := 0, locals := 127 } : Room)).room.locals := fun n h => h
  generalize (headSpec wsX8_rightOf ({ frames := 5, cells := 0, slots := 0, locals := 127 } : Room)).room = R at hRf hRl ⊢
  generalize hQ : MQ below _ args s 0 0 _ = Q
  have C_42 : ∀ (mo_function : Int32) (mo_atX : Int32) (mo_atM : Int64) (y0 : Int32) (y1 : Int32) (H : Heap) (locs : List Loc) (ls : Array Slot), wp_X8_rightOf_42 post  mo_f mo_most mo_minus mo_low mo_function mo_atX mo_atM y0 y1 → va_P D vwCl [(a_mo, oX8 a_moR mo_e mo_f mo_codes mo_most mo_minus mo_low mo_function mo_atX mo_atM a_moK a_moH a_moS mo_spanFunction mo_spanRounding mo_spanMany a_moF a_moT mo_parts mo_shift a_moP a_moQ a_moA a_moB a_moD)] H → va_D A [(a_mo, oX8 a_moR mo_e mo_f mo_codes mo_most mo_minus mo_low mo_function mo_atX mo_atM a_moK a_moH a_moS mo_spanFunction mo_spanRounding mo_spanMany a_moF a_moT mo_parts mo_shift a_moP a_moQ a_moA a_moB a_moD)] → va_S A s.heap H locs → lv_has ls 5 [] → W p l e R s m args below meth c H locs 0 0 Q (F0 m 42 ls [.int y0, .int y1, .ref a_mo]) := by
    intro mo_function mo_atX mo_atM y0 y1 H locs ls ho hP hD hS hl
    unfold wp_X8_rightOf_42 at ho
    refine ca_Vi (b := a_mo) (As := [.int y1, .int y0]) (rest := []) ⟨hx, hb, hml, hown, hts⟩ (c_X8_rounded l D cI cJ cZ a_mo a_moR a_moK a_moH a_moS a_moF a_moT a_moP a_moQ a_moA a_moB a_moD mo_e mo_f mo_codes mo_most mo_minus mo_low mo_function mo_atX mo_atM mo_spanFunction mo_spanRounding mo_spanMany mo_parts mo_shift y1 y0 _ ho) (cwV 2 hts gX8_rightOf_X8_rounded rfl rfl rfl (by decide +kernel) ⟨hRf _ (Nat.le_of_ble_eq_true rfl), hRl _ (Nat.le_of_ble_eq_true rfl)⟩) hK hN hP [0] rfl 0 7 rfl rfl rfl rfl hl.1 rfl (Nat.le_of_ble_eq_true rfl) dX8_rightOf_42 ⟨Nat.zero_le _, Nat.zero_le _⟩ (fun r42 ho => ?_)
    subst hQ; exact W.iret (v := r42) hx hb hr (fun t ht hW => ⟨⟨r42, (mo_function, mo_atX, mo_atM), rfl, ho, by rw [ht]; exact hP, hD⟩, hS.F ht⟩) (fun q hq => hS.2.2 q hq) dX8_rightOf_45
  have C_41 : ∀ (mo_function : Int32) (mo_atX : Int32) (mo_atM : Int64) (y0 : Int32) (H : Heap) (locs : List Loc) (ls : Array Slot), wp_X8_rightOf_41 post  mo_f mo_most mo_minus mo_low mo_function mo_atX mo_atM y0 → va_P D vwCl [(a_mo, oX8 a_moR mo_e mo_f mo_codes mo_most mo_minus mo_low mo_function mo_atX mo_atM a_moK a_moH a_moS mo_spanFunction mo_spanRounding mo_spanMany a_moF a_moT mo_parts mo_shift a_moP a_moQ a_moA a_moB a_moD)] H → va_D A [(a_mo, oX8 a_moR mo_e mo_f mo_codes mo_most mo_minus mo_low mo_function mo_atX mo_atM a_moK a_moH a_moS mo_spanFunction mo_spanRounding mo_spanMany a_moF a_moT mo_parts mo_shift a_moP a_moQ a_moA a_moB a_moD)] → va_S A s.heap H locs → lv_has ls 5 [] → W p l e R s m args below meth c H locs 0 0 Q (F0 m 41 ls [.int y0, .ref a_mo]) := by
    intro mo_function mo_atX mo_atM y0 H locs ls ho hP hD hS hl
    unfold wp_X8_rightOf_41 at ho
    refine lv_iconst (v := 0) hx hb dX8_rightOf_41 (by decide) ?_
    exact C_42 mo_function mo_atX mo_atM (0 : Int32) y0 H locs ls ho hP hD hS (lv_sub hl [] rfl)
  unfold wp_X8_rightOf at ho
  refine lv_aload_n hx hb dX8_rightOf_0 rfl (lv_at hl 0 rfl) ?_
  refine lv_iload_n hx hb dX8_rightOf_1 rfl (lv_at hl 1 rfl) ?_
  refine lv_iload_n hx hb dX8_rightOf_2 rfl (lv_at hl 2 rfl) ?_
  refine ca_Vi (b := a_mo) (As := [.int p1, .int p2]) (rest := []) ⟨hx, hb, hml, hown, hts⟩ (c_X8_plainly l D cI cJ cZ a_mo a_moR a_moK a_moH a_moS a_moF a_moT a_moP a_moQ a_moA a_moB a_moD mo_e mo_f mo_codes mo_most mo_minus mo_low mo_function mo_atX mo_atM mo_spanFunction mo_spanRounding mo_spanMany mo_parts mo_shift p1 p2 _ ho) (cwV 2 hts gX8_rightOf_X8_plainly rfl rfl rfl (by decide +kernel) ⟨hRf _ (Nat.le_of_ble_eq_true rfl), hRl _ (Nat.le_of_ble_eq_true rfl)⟩) hK hN hP [0] rfl 0 7 rfl rfl rfl rfl hl.1 rfl (Nat.le_of_ble_eq_true rfl) dX8_rightOf_3 ⟨Nat.zero_le _, Nat.zero_le _⟩ (fun r3 ho => ?_)
  refine lv_istore (lv' := [(4, .int r3), (0, .ref a_mo), (1, .int p1), (2, .int p2), (3, .int p3)]) hx hb dX8_rightOf_6 hl (by decide) rfl (fun ls hl => ?_)
  refine lv_iload hx hb dX8_rightOf_8 (lv_at hl 0 rfl) ?_
  refine lv_if_lt (tgt := 16) hx hb dX8_rightOf_10 (by decide) (fun c_10 => ?_) (fun c_10 => ?_)
  · replace ho := ho.1 c_10
    refine lv_aload_n hx hb dX8_rightOf_16 rfl (lv_at hl 1 rfl) ?_
    refine lv_iload_n hx hb dX8_rightOf_17 rfl (lv_at hl 2 rfl) ?_
    refine lv_iload_n hx hb dX8_rightOf_18 rfl (lv_at hl 3 rfl) ?_
    refine ca_Wv (b := a_mo) (As := [.int p1, .int p2]) (rest := []) (wr := []) (wo := fun u => [(a_mo, oX8 a_moR mo_e mo_f mo_codes mo_most mo_minus mo_low u.1 u.2.1 u.2.2 a_moK a_moH a_moS mo_spanFunction mo_spanRounding mo_spanMany a_moF a_moT mo_parts mo_shift a_moP a_moQ a_moA a_moB a_moD)]) (wn := fun u => [(a_mo, oX8 a_moR mo_e mo_f mo_codes mo_most mo_minus mo_low u.1 u.2.1 u.2.2 a_moK a_moH a_moS mo_spanFunction mo_spanRounding mo_spanMany a_moF a_moT mo_parts mo_shift a_moP a_moQ a_moA a_moB a_moD)]) ⟨hx, hb, hml, hown, hts⟩ (c_X8_sets l D cI cJ cZ a_mo a_moR a_moK a_moH a_moS a_moF a_moT a_moP a_moQ a_moA a_moB a_moD H.size mo_e mo_f mo_codes mo_most mo_minus mo_low mo_function mo_atX mo_atM mo_spanFunction mo_spanRounding mo_spanMany mo_parts mo_shift p1 p2 _ _ rfl ho) (cwV 2 hts gX8_rightOf_X8_sets rfl rfl rfl (by decide +kernel) ⟨hRf _ (Nat.le_of_ble_eq_true rfl), hRl _ (Nat.le_of_ble_eq_true rfl)⟩) hK hN hP hD hS hA [0] [] [0] rfl rfl (by decide) (by decide) (by decide) (by decide) (fun _ => rfl) 0 7 rfl rfl rfl rfl hl.1 rfl (Nat.le_of_ble_eq_true rfl) dX8_rightOf_19 ⟨Nat.zero_le _, Nat.zero_le _⟩ (fun  u19 H locs ho hP hD hS => ?_)
    obtain ⟨u19_1, u19_2, u19_3⟩ := u19
    try dsimp only at ho
    replace hP : va_P D vwCl [(a_mo, oX8 a_moR mo_e mo_f mo_codes mo_most mo_minus mo_low u19_1 u19_2 u19_3 a_moK a_moH a_moS mo_spanFunction mo_spanRounding mo_spanMany a_moF a_moT mo_parts mo_shift a_moP a_moQ a_moA a_moB a_moD)] H := hP
    replace hD : va_D A [(a_mo, oX8 a_moR mo_e mo_f mo_codes mo_most mo_minus mo_low u19_1 u19_2 u19_3 a_moK a_moH a_moS mo_spanFunction mo_spanRounding mo_spanMany a_moF a_moT mo_parts mo_shift a_moP a_moQ a_moA a_moB a_moD)] := hD
    refine lv_aload_n hx hb dX8_rightOf_22 rfl (lv_at hl 1 rfl) ?_
    refine lv_iload_n hx hb dX8_rightOf_23 rfl (lv_at hl 4 rfl) ?_
    refine lv_iload_n hx hb dX8_rightOf_24 rfl (lv_at hl 3 rfl) ?_
    refine lv_aload_n hx hb dX8_rightOf_25 rfl (lv_at hl 1 rfl) ?_
    refine va_get (D := D) (ci := 7) (v := .int mo_minus) (C := RX8) (T := TX8) (N := 25) hx hb hts in_X8_rightOf_X8 hown hK hP 0 rfl rfl 5 (by decide) (hts (.fieldLink RX8 65 "HardBenchModel" "minus" "I") (List.mem_of_getElem? (i := 1) (by decide +kernel))) (fun _ h9 => h9) rfl dX8_rightOf_26 ?_
    refine lv_icmp_lt (tgt := 41) hx hb dX8_rightOf_29 (by decide) (fun c_29 => ?_) (fun c_29 => ?_)
    · replace ho := ho.1 c_29
      exact C_41 u19_1 u19_2 u19_3 p3 H locs ls ho hP hD hS (lv_sub hl [] rfl)
    · replace ho := ho.2 c_29
      refine lv_iload_n hx hb dX8_rightOf_32 rfl (lv_at hl 2 rfl) ?_
      refine lv_iconst (v := 3) hx hb dX8_rightOf_33 (by decide) ?_
      refine lv_icmp_eq (tgt := 41) hx hb dX8_rightOf_34 (by decide) (fun c_34 => ?_) (fun c_34 => ?_)
      · replace ho := ho.1 c_34
        exact C_41 u19_1 u19_2 u19_3 p3 H locs ls ho hP hD hS (lv_sub hl [] rfl)
      · replace ho := ho.2 c_34
        refine lv_iconst (v := 1) hx hb dX8_rightOf_37 (by decide) ?_
        refine lv_goto (tgt := 42) hx hb dX8_rightOf_38 (by decide) ?_
        exact C_42 u19_1 u19_2 u19_3 (1 : Int32) p3 H locs ls ho hP hD hS (lv_sub hl [] rfl)
  · replace ho := ho.2 c_10
    refine lv_iload hx hb dX8_rightOf_13 (lv_at hl 0 rfl) ?_
    subst hQ; exact W.iret (v := r3) hx hb hr (fun t ht hW => ⟨⟨r3, (mo_function, mo_atX, mo_atM), rfl, ho, by rw [ht]; exact hP, hD⟩, hS.F ht⟩) (fun q hq => hS.2.2 q hq) dX8_rightOf_15

def wp_X8_isFunction (post : Int32 → Prop) (p1 : Int32) : Prop := wp_X8_isIn (fun r2 => ((r2 = 0 ∨ r2 = 1) ∧ (post r2))) p1 (5 : Int32)
set_option maxHeartbeats 4000000 in
set_option maxRecDepth 100000 in
theorem c_X8_isFunction (l : Launch) (D : va_G) (cI cJ cZ : ClassId)   (p1 : Int32) (post : Int32 → Prop) (ho : wp_X8_isFunction post p1) : Met l yX8_isFunction wsX8_isFunction ({ frames := 1, cells := 0, slots := 0, locals := 21 } : Room) (ro_P D [(cI, .int), (cJ, .long), (cZ, .boolean)] [.int p1] []) (vp_Si post) 0 0 (fun _ => False) := by
  refine Met.ofW (cc := cX8_isFunction) (maxL := 1) (ret := (some .boolean)) (by decide) rfl ?_
  intro p e s m args below meth c s₁ B hml hv
  obtain ⟨hargs, hP, hK, hN⟩ := hv
  have hx := B.exec
  have hb := B.bytes
  have hr := B.returns
  have hts := atoms_spec (ws := wsX8_isFunction) B.pre
  have hown : s.vm.findClass RX8 = some m.cls := findClass_of_methodNamed B.named
  have hlocks := B.notSynchronized
  have hl := lv_entry ([.int p1]) (n := 1) (Nat.le_of_ble_eq_true rfl)
  rw [hargs, lg_entry_eq, ← hargs]
  generalize (lg_sl ([.int p1]) ++ List.replicate (1 - (lg_sl ([.int p1])).length) Slot.unset).toArray = ls at hl ⊢
  replace hl : lv_has ls 1 [(0, .int p1)] := hl
  have hRf : ∀ n, n ≤ 1 → n ≤ (headSpec wsX8_isFunction ({ frames := 1, cells := 0, slots := 0, locals := 21 } : Room)).room.frames := fun n h => h
  have hRl : ∀ n, n ≤ 21 → n ≤ (headSpec wsX8_isFunction ({ frames := 1, cells := 0, slots := 0, locals := 21 } : Room)).room.locals := fun n h => h
  generalize (headSpec wsX8_isFunction ({ frames := 1, cells := 0, slots := 0, locals := 21 } : Room)).room = R at hRf hRl ⊢
  generalize hQ : MQ below _ args s 0 0 _ = Q
  unfold wp_X8_isFunction at ho
  refine lv_iload_n hx hb dX8_isFunction_0 rfl (lv_at hl 0 rfl) ?_
  refine lv_iconst (v := 5) hx hb dX8_isFunction_1 (by decide) ?_
  refine ca_Si (As := [.int p1, .int (5 : Int32)]) (rest := []) ⟨hx, hb, hml, hown, hts⟩ (c_X8_isIn l D cI cJ cZ   p1 (5 : Int32) _ ho) (va_cwS 2 hts gX8_isFunction_X8_isIn rfl rfl rfl (by decide +kernel) ⟨hRf _ (Nat.le_of_ble_eq_true rfl), hRl _ (Nat.le_of_ble_eq_true rfl)⟩) hK hN hP [] rfl rfl hl.1 rfl (Nat.le_of_ble_eq_true rfl) dX8_isFunction_2 ⟨Nat.zero_le _, Nat.zero_le _⟩ (fun r2 ho => ?_)
  have o_5 := ho.1
  replace ho := ho.2
  subst hQ; exact W.zret (v := r2) hx hb hr (bz_n o_5) (fun t ht _ => ⟨r2, rfl, ho, ht⟩) (fun _ h => by cases h) dX8_isFunction_5
