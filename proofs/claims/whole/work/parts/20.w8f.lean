def wp_X8_table_166 (post : Int32 → Int32 → Int32 → Int64 → Int32 → Int32 → (Nat → Int32) → (Nat → Int32) → (Nat → Int32) → (Nat → Int64) → (Nat → Int64) → (Nat → Int64) → Prop) (K_135 : Int32 → Int32 → Int64 → Int32 → Int32 → (Nat → Int32) → (Nat → Int32) → (Nat → Int32) → (Nat → Int64) → (Nat → Int64) → (Nat → Int64) → Int32 → Int32 → Prop) (mo_function : Int32) (mo_atX : Int32) (mo_atM : Int64) (mo_parts : Int32) (mo_shift : Int32) (moR_r : Nat → Int32) (moP_r : Nat → Int32) (moQ_r : Nat → Int32) (moA_r : Nat → Int64) (moB_r : Nat → Int64) (moD_r : Nat → Int64) (x6 : Int32) (y0 : Int32) : Prop := K_135 mo_function mo_atX mo_atM (mo_parts + (1 : Int32)) mo_shift moR_r moP_r moQ_r moA_r moB_r moD_r x6 y0
def wp_X8_table_135_b (post : Int32 → Int32 → Int32 → Int64 → Int32 → Int32 → (Nat → Int32) → (Nat → Int32) → (Nat → Int32) → (Nat → Int64) → (Nat → Int64) → (Nat → Int64) → Prop)  (p4 : Int32) (K_135 : Int32 → Int32 → Int64 → Int32 → Int32 → (Nat → Int32) → (Nat → Int32) → (Nat → Int32) → (Nat → Int64) → (Nat → Int64) → (Nat → Int64) → Int32 → Int32 → Prop) (mo_function : Int32) (mo_atX : Int32) (mo_atM : Int64) (mo_parts : Int32) (mo_shift : Int32) (moR_r : Nat → Int32) (moP_r : Nat → Int32) (moQ_r : Nat → Int32) (moA_r : Nat → Int64) (moB_r : Nat → Int64) (moD_r : Nat → Int64) (x6 : Int32) (x7 : Int32) : Prop := ((x6 ≤ x7) → (post mo_parts mo_function mo_atX mo_atM mo_parts mo_shift moR_r moP_r moQ_r moA_r moB_r moD_r)) ∧ ((¬ (x6 ≤ x7)) → (((¬ p4 = 0) → (wp_X8_line (fun r163 u163_1 u163_2 u163_3 u163_4 => (wp_X8_table_166 post K_135 mo_function mo_atX mo_atM mo_parts mo_shift moR_r u163_1 u163_2 u163_3 u163_4 moD_r x6 r163)) mo_parts mo_shift moP_r moQ_r moA_r moB_r moD_r x7 x6)) ∧ ((¬ (¬ p4 = 0)) → (wp_X8_flat (fun r152 u152_1 u152_2 u152_3 u152_4 => (wp_X8_table_166 post K_135 mo_function mo_atX mo_atM mo_parts mo_shift moR_r u152_1 u152_2 u152_3 u152_4 moD_r x6 r152)) mo_parts moP_r moQ_r moA_r moB_r moD_r x7 x6))))
noncomputable def wp_X8_table_135 (post : Int32 → Int32 → Int32 → Int64 → Int32 → Int32 → (Nat → Int32) → (Nat → Int32) → (Nat → Int32) → (Nat → Int64) → (Nat → Int64) → (Nat → Int64) → Prop)  (p4 : Int32) (n : Nat) : Int32 → Int32 → Int64 → Int32 → Int32 → (Nat → Int32) → (Nat → Int32) → (Nat → Int32) → (Nat → Int64) → (Nat → Int64) → (Nat → Int64) → Int32 → Int32 → Prop := Nat.rec (motive := fun _ => Int32 → Int32 → Int64 → Int32 → Int32 → (Nat → Int32) → (Nat → Int32) → (Nat → Int32) → (Nat → Int64) → (Nat → Int64) → (Nat → Int64) → Int32 → Int32 → Prop) (fun _ _ _ _ _ _ _ _ _ _ _ _ _ => False) (fun _ K_135 => wp_X8_table_135_b post p4 K_135) n
def wp_X8_table_93_b (post : Int32 → Int32 → Int32 → Int64 → Int32 → Int32 → (Nat → Int32) → (Nat → Int32) → (Nat → Int32) → (Nat → Int64) → (Nat → Int64) → (Nat → Int64) → Prop)  (mo_f : Int32) (mo_most : Int32) (mo_minus : Int32) (mo_low : Int32) (p1 : Int32) (p2 : Int32) (p3 : Int32) (p4 : Int32) (p5 : Int32) (K_93 : Int32 → Int32 → Int64 → Int32 → Int32 → (Nat → Int32) → (Nat → Int32) → (Nat → Int32) → (Nat → Int64) → (Nat → Int64) → (Nat → Int64) → Int32 → Int32 → Prop) (mo_function : Int32) (mo_atX : Int32) (mo_atM : Int64) (mo_parts : Int32) (mo_shift : Int32) (moR_r : Nat → Int32) (moP_r : Nat → Int32) (moQ_r : Nat → Int32) (moA_r : Nat → Int64) (moB_r : Nat → Int64) (moD_r : Nat → Int64) (x6 : Int32) (x7 : Int32) : Prop := ((x6 ≤ x7) → (∃ n, wp_X8_table_135 post p4 n mo_function mo_atX mo_atM mo_parts mo_shift moR_r moP_r moQ_r moA_r moB_r moD_r x6 (0 : Int32))) ∧ ((¬ (x6 ≤ x7)) → (wp_X8_rightOf (fun r118 u118_1 u118_2 u118_3 => ((vp_in x7 256) ∧ (K_93 u118_1 u118_2 u118_3 mo_parts mo_shift moR_r moP_r moQ_r moA_r moB_r (vp_updL moD_r x7.toNatClampNeg (r118.toInt64 <<< (p5.toInt64 &&& 63))) x6 (x7 + (1 : Int32))))) mo_f mo_most mo_minus mo_low mo_function mo_atX mo_atM p1 ((p3 <<< (mo_f &&& 31)) + x7) p2))
noncomputable def wp_X8_table_93 (post : Int32 → Int32 → Int32 → Int64 → Int32 → Int32 → (Nat → Int32) → (Nat → Int32) → (Nat → Int32) → (Nat → Int64) → (Nat → Int64) → (Nat → Int64) → Prop)  (mo_f : Int32) (mo_most : Int32) (mo_minus : Int32) (mo_low : Int32) (p1 : Int32) (p2 : Int32) (p3 : Int32) (p4 : Int32) (p5 : Int32) (n : Nat) : Int32 → Int32 → Int64 → Int32 → Int32 → (Nat → Int32) → (Nat → Int32) → (Nat → Int32) → (Nat → Int64) → (Nat → Int64) → (Nat → Int64) → Int32 → Int32 → Prop := Nat.rec (motive := fun _ => Int32 → Int32 → Int64 → Int32 → Int32 → (Nat → Int32) → (Nat → Int32) → (Nat → Int32) → (Nat → Int64) → (Nat → Int64) → (Nat → Int64) → Int32 → Int32 → Prop) (fun _ _ _ _ _ _ _ _ _ _ _ _ _ => False) (fun _ K_93 => wp_X8_table_93_b post mo_f mo_most mo_minus mo_low p1 p2 p3 p4 p5 K_93) n
def wp_X8_table_23 (post : Int32 → Int32 → Int32 → Int64 → Int32 → Int32 → (Nat → Int32) → (Nat → Int32) → (Nat → Int32) → (Nat → Int64) → (Nat → Int64) → (Nat → Int64) → Prop)  (mo_function : Int32) (mo_atX : Int32) (mo_atM : Int64) (mo_parts : Int32) (mo_shift : Int32) (moR_r : Nat → Int32) (moP_r : Nat → Int32) (moQ_r : Nat → Int32) (moA_r : Nat → Int64) (moB_r : Nat → Int64) (moD_r : Nat → Int64) : Prop := wp_X8_refuse (fun r25 u25 => (post r25 mo_function mo_atX mo_atM mo_parts mo_shift u25 moP_r moQ_r moA_r moB_r moD_r)) moR_r (-1 : Int32)
def wp_X8_table (post : Int32 → Int32 → Int32 → Int64 → Int32 → Int32 → (Nat → Int32) → (Nat → Int32) → (Nat → Int32) → (Nat → Int64) → (Nat → Int64) → (Nat → Int64) → Prop) (mo_e : Int32) (mo_f : Int32) (mo_most : Int32) (mo_minus : Int32) (mo_low : Int32) (mo_function : Int32) (mo_atX : Int32) (mo_atM : Int64) (mo_parts : Int32) (mo_shift : Int32) (moR_r : Nat → Int32) (moP_r : Nat → Int32) (moQ_r : Nat → Int32) (moA_r : Nat → Int64) (moB_r : Nat → Int64) (moD_r : Nat → Int64) (p1 : Int32) (p2 : Int32) (p3 : Int32) (p4 : Int32) (p5 : Int32) : Prop := wp_X8_isFunction (fun r1 => (((r1 = 0) → (wp_X8_table_23 post mo_function mo_atX mo_atM mo_parts mo_shift moR_r moP_r moQ_r moA_r moB_r moD_r)) ∧ ((¬ (r1 = 0)) → (wp_X8_isIn (fun r9 => (((r9 = 0) → (wp_X8_table_23 post mo_function mo_atX mo_atM mo_parts mo_shift moR_r moP_r moQ_r moA_r moB_r moD_r)) ∧ ((¬ (r9 = 0)) → (wp_X8_isPower (fun r17 => (((¬ r17 = 0) → (wp_X8_isIn (fun r32 => (((¬ r32 = 0) → (((0 ≤ p5) → (((p5 ≤ (10 : Int32)) → (∃ n, wp_X8_table_93 post mo_f mo_most mo_minus mo_low p1 p2 p3 p4 p5 n mo_function mo_atX mo_atM (0 : Int32) p5 moR_r moP_r moQ_r moA_r moB_r moD_r ((1 : Int32) <<< (mo_f &&& 31)) (0 : Int32))) ∧ ((¬ (p5 ≤ (10 : Int32))) → (wp_X8_refuse (fun r67 u67 => (post r67 mo_function mo_atX mo_atM mo_parts mo_shift u67 moP_r moQ_r moA_r moB_r moD_r)) moR_r (-6 : Int32))))) ∧ ((¬ (0 ≤ p5)) → (wp_X8_refuse (fun r53 u53 => (post r53 mo_function mo_atX mo_atM mo_parts mo_shift u53 moP_r moQ_r moA_r moB_r moD_r)) moR_r (-4 : Int32))))) ∧ ((¬ (¬ r32 = 0)) → (wp_X8_refuse (fun r41 u41 => (post r41 mo_function mo_atX mo_atM mo_parts mo_shift u41 moP_r moQ_r moA_r moB_r moD_r)) moR_r (-2 : Int32))))) p4 (2 : Int32))) ∧ ((¬ (¬ r17 = 0)) → (wp_X8_table_23 post mo_function mo_atX mo_atM mo_parts mo_shift moR_r moP_r moQ_r moA_r moB_r moD_r)))) mo_e p3)))) p2 (5 : Int32))))) p1
set_option maxRecDepth 20000 in
theorem in_X8_table_X8 : ∀ w ∈ u_ws RX8 TX8 25, w ∈ wsX8_table := fun w h => (goodIn_r wsX80 [112, 113, 114, 115, 116, 117, 118, 119, 120, 121, 122, 123, 124, 125, 126, 127, 128, 129, 130, 131, 132, 133, 134, 135, 136] (by decide +kernel) (by decide +kernel) w h).1
set_option maxHeartbeats 4000000 in
set_option maxRecDepth 100000 in
theorem c_X8_table (l : Launch) (D : va_G) (cI cJ cZ : ClassId) (a_mo : Nat) (a_moR : Nat) (a_moK : Nat) (a_moH : Nat) (a_moS : Nat) (a_moF : Nat) (a_moT : Nat) (a_moP : Nat) (a_moQ : Nat) (a_moA : Nat) (a_moB : Nat) (a_moD : Nat) (sz : Nat) (mo_e : Int32) (mo_f : Int32) (mo_codes : Int32) (mo_most : Int32) (mo_minus : Int32) (mo_low : Int32) (mo_function : Int32) (mo_atX : Int32) (mo_atM : Int64) (mo_spanFunction : Int32) (mo_spanRounding : Int32) (mo_spanMany : Int32) (mo_parts : Int32) (mo_shift : Int32) (moR_r : Nat → Int32) (moP_r : Nat → Int32) (moQ_r : Nat → Int32) (moA_r : Nat → Int64) (moB_r : Nat → Int64) (moD_r : Nat → Int64) (p1 : Int32) (p2 : Int32) (p3 : Int32) (p4 : Int32) (p5 : Int32) (post : Int32 → Int32 → Int32 → Int64 → Int32 → Int32 → (Nat → Int32) → (Nat → Int32) → (Nat → Int32) → (Nat → Int64) → (Nat → Int64) → (Nat → Int64) → Prop) (A : Nat → Prop) (hAe : A = va_A [(a_mo, oX8 a_moR mo_e mo_f mo_codes mo_most mo_minus mo_low mo_function mo_atX mo_atM a_moK a_moH a_moS mo_spanFunction mo_spanRounding mo_spanMany a_moF a_moT mo_parts mo_shift a_moP a_moQ a_moA a_moB a_moD), (a_moR, .inl (cI, 7, .inl moR_r)), (a_moP, .inl (cI, 256, .inl moP_r)), (a_moQ, .inl (cI, 256, .inl moQ_r)), (a_moA, .inl (cJ, 256, .inr (.inl moA_r))), (a_moB, .inl (cJ, 256, .inr (.inl moB_r))), (a_moD, .inl (cJ, 256, .inr (.inl moD_r)))] sz) (ho : wp_X8_table post mo_e mo_f mo_most mo_minus mo_low mo_function mo_atX mo_atM mo_parts mo_shift moR_r moP_r moQ_r moA_r moB_r moD_r p1 p2 p3 p4 p5) : Met l yX8_table wsX8_table ({ frames := 6, cells := 0, slots := 0, locals := 151 } : Room) (rw_P D [(cI, .int), (cJ, .long), (cZ, .boolean)] [.ref a_mo, .int p1, .int p2, .int p3, .int p4, .int p5] sz [(a_mo, oX8 a_moR mo_e mo_f mo_codes mo_most mo_minus mo_low mo_function mo_atX mo_atM a_moK a_moH a_moS mo_spanFunction mo_spanRounding mo_spanMany a_moF a_moT mo_parts mo_shift a_moP a_moQ a_moA a_moB a_moD), (a_moR, .inl (cI, 7, .inl moR_r)), (a_moP, .inl (cI, 256, .inl moP_r)), (a_moQ, .inl (cI, 256, .inl moQ_r)), (a_moA, .inl (cJ, 256, .inr (.inl moA_r))), (a_moB, .inl (cJ, 256, .inr (.inl moB_r))), (a_moD, .inl (cJ, 256, .inr (.inl moD_r)))]) (va_Qi (fun (r : Int32) (u : (Int32) × (Int32) × (Int64) × (Int32) × (Int32) × (Nat → Int32) × (Nat → Int32) × (Nat → Int32) × (Nat → Int64) × (Nat → Int64) × (Nat → Int64)) => post r u.1 u.2.1 u.2.2.1 u.2.2.2.1 u.2.2.2.2.1 u.2.2.2.2.2.1 u.2.2.2.2.2.2.1 u.2.2.2.2.2.2.2.1 u.2.2.2.2.2.2.2.2.1 u.2.2.2.2.2.2.2.2.2.1 u.2.2.2.2.2.2.2.2.2.2) (rw_B D A (fun (u : (Int32) × (Int32) × (Int64) × (Int32) × (Int32) × (Nat → Int32) × (Nat → Int32) × (Nat → Int32) × (Nat → Int64) × (Nat → Int64) × (Nat → Int64)) => [(a_mo, oX8 a_moR mo_e mo_f mo_codes mo_most mo_minus mo_low u.1 u.2.1 u.2.2.1 a_moK a_moH a_moS mo_spanFunction mo_spanRounding mo_spanMany a_moF a_moT u.2.2.2.1 u.2.2.2.2.1 a_moP a_moQ a_moA a_moB a_moD), (a_moR, .inl (cI, 7, .inl u.2.2.2.2.2.1)), (a_moP, .inl (cI, 256, .inl u.2.2.2.2.2.2.1)), (a_moQ, .inl (cI, 256, .inl u.2.2.2.2.2.2.2.1)), (a_moA, .inl (cJ, 256, .inr (.inl u.2.2.2.2.2.2.2.2.1))), (a_moB, .inl (cJ, 256, .inr (.inl u.2.2.2.2.2.2.2.2.2.1))), (a_moD, .inl (cJ, 256, .inr (.inl u.2.2.2.2.2.2.2.2.2.2)))])) A) 0 0 A := by
  refine Met.ofW (cc := cX8_table) (maxL := 8) (ret := (some .int)) (by decide) rfl ?_
  intro p e s m args below meth c s₁ B hml hv
  obtain ⟨hargs, hsz, hP, hK, hN, hD0⟩ := hv
  have hx := B.exec
  have hb := B.bytes
  have hr := B.returns
  have hts := atoms_spec (ws := wsX8_table) B.pre
  have hown : s.vm.findClass RX8 = some m.cls := findClass_of_methodNamed B.named
  have hlocks := B.notSynchronized
  subst hsz
  have hD : va_D A [(a_mo, oX8 a_moR mo_e mo_f mo_codes mo_most mo_minus mo_low mo_function mo_atX mo_atM a_moK a_moH a_moS mo_spanFunction mo_spanRounding mo_spanMany a_moF a_moT mo_parts mo_shift a_moP a_moQ a_moA a_moB a_moD), (a_moR, .inl (cI, 7, .inl moR_r)), (a_moP, .inl (cI, 256, .inl moP_r)), (a_moQ, .inl (cI, 256, .inl moQ_r)), (a_moA, .inl (cJ, 256, .inr (.inl moA_r))), (a_moB, .inl (cJ, 256, .inr (.inl moB_r))), (a_moD, .inl (cJ, 256, .inr (.inl moD_r)))] := by rw [hAe]; exact hD0.self
  have hA : ∀ q : Nat, s.heap.size ≤ q → A q := fun q h => by rw [hAe]; exact Or.inr h
  have hS : va_S A s.heap s.heap [] := va_S.rf
  have hl := lv_entry ([.ref a_mo, .int p1, .int p2, .int p3, .int p4, .int p5]) (n := 8) (Nat.le_of_ble_eq_true rfl)
  rw [hargs, lg_entry_eq, ← hargs]
  generalize (lg_sl ([.ref a_mo, .int p1, .int p2, .int p3, .int p4, .int p5]) ++ List.replicate (8 - (lg_sl ([.ref a_mo, .int p1, .int p2, .int p3, .int p4, .int p5])).length) Slot.unset).toArray = ls at hl ⊢
  replace hl : lv_has ls 8 [(0, .ref a_mo), (1, .int p1), (2, .int p2), (3, .int p3), (4, .int p4), (5, .int p5)] := hl
  have hRf : ∀ n, n ≤ 6 → n ≤ (headSpec wsX8_table ({ frames := 6, cells := 0, slots := 0, locals := 151 } : Room)).room.frames := fun n h => h
  have hRl : ∀ n, n ≤ 151 → n ≤ (headSpec wsX8_table ({ frames := 6, cells := 0, slots := 0, locals := 151 } : Room)).room.locals := fun n h => h
  generalize (headSpec wsX8_table ({ frames := 6, cells := 0, slots := 0, locals := 151 } : Room)).room = R at hRf hRl ⊢
  generalize hQ : MQ below _ args s 0 0 _ = Q
  have C_135 : ∀ n : Nat, ∀ (mo_function : Int32) (mo_atX : Int32) (mo_atM : Int64) (mo_parts : Int32) (mo_shift : Int32) (moR_r : Nat → Int32) (moP_r : Nat → Int32) (moQ_r : Nat → Int32) (moA_r : Nat → Int64) (moB_r : Nat → Int64) (moD_r : Nat → Int64) (x6 : Int32) (x7 : Int32) (H : Heap) (locs : List Loc) (ls : Array Slot), wp_X8_table_135 post  p4 n mo_function mo_atX mo_atM mo_parts mo_shift moR_r moP_r moQ_r moA_r moB_r moD_r x6 x7 → va_P D vwCl [(a_mo, oX8 a_moR mo_e mo_f mo_codes mo_most mo_minus mo_low mo_function mo_atX mo_atM a_moK a_moH a_moS mo_spanFunction mo_spanRounding mo_spanMany a_moF a_moT mo_parts mo_shift a_moP a_moQ a_moA a_moB a_moD), (a_moR, .inl (cI, 7, .inl moR_r)), (a_moP, .inl (cI, 256, .inl moP_r)), (a_moQ, .inl (cI, 256, .inl moQ_r)), (a_moA, .inl (cJ, 256, .inr (.inl moA_r))), (a_moB, .inl (cJ, 256, .inr (.inl moB_r))), (a_moD, .inl (cJ, 256, .inr (.inl moD_r)))] H → va_D A [(a_mo, oX8 a_moR mo_e mo_f mo_codes mo_most mo_minus mo_low mo_function mo_atX mo_atM a_moK a_moH a_moS mo_spanFunction mo_spanRounding mo_spanMany a_moF a_moT mo_parts mo_shift a_moP a_moQ a_moA a_moB a_moD), (a_moR, .inl (cI, 7, .inl moR_r)), (a_moP, .inl (cI, 256, .inl moP_r)), (a_moQ, .inl (cI, 256, .inl moQ_r)), (a_moA, .inl (cJ, 256, .inr (.inl moA_r))), (a_moB, .inl (cJ, 256, .inr (.inl moB_r))), (a_moD, .inl (cJ, 256, .inr (.inl moD_r)))] → va_S A s.heap H locs → lv_has ls 8 [(0, .ref a_mo), (4, .int p4), (6, .int x6), (7, .int x7)] → W p l e R s m args below meth c H locs 0 0 Q (F0 m 135 ls []) := by
    intro n
    induction n with
    | zero => intro mo_function mo_atX mo_atM mo_parts mo_shift moR_r moP_r moQ_r moA_r moB_r moD_r x6 x7 H locs ls ho hP hD hS hl; exact ho.elim
    | succ n_135 ih_135 =>
      have C_166 : ∀ (mo_function : Int32) (mo_atX : Int32) (mo_atM : Int64) (mo_parts : Int32) (mo_shift : Int32) (moR_r : Nat → Int32) (moP_r : Nat → Int32) (moQ_r : Nat → Int32) (moA_r : Nat → Int64) (moB_r : Nat → Int64) (moD_r : Nat → Int64) (x6 : Int32) (y0 : Int32) (H : Heap) (locs : List Loc) (ls : Array Slot), wp_X8_table_166 post (wp_X8_table_135 post p4 n_135) mo_function mo_atX mo_atM mo_parts mo_shift moR_r moP_r moQ_r moA_r moB_r moD_r x6 y0 → va_P D vwCl [(a_mo, oX8 a_moR mo_e mo_f mo_codes mo_most mo_minus mo_low mo_function mo_atX mo_atM a_moK a_moH a_moS mo_spanFunction mo_spanRounding mo_spanMany a_moF a_moT mo_parts mo_shift a_moP a_moQ a_moA a_moB a_moD), (a_moR, .inl (cI, 7, .inl moR_r)), (a_moP, .inl (cI, 256, .inl moP_r)), (a_moQ, .inl (cI, 256, .inl moQ_r)), (a_moA, .inl (cJ, 256, .inr (.inl moA_r))), (a_moB, .inl (cJ, 256, .inr (.inl moB_r))), (a_moD, .inl (cJ, 256, .inr (.inl moD_r)))] H → va_D A [(a_mo, oX8 a_moR mo_e mo_f mo_codes mo_most mo_minus mo_low mo_function mo_atX mo_atM a_moK a_moH a_moS mo_spanFunction mo_spanRounding mo_spanMany a_moF a_moT mo_parts mo_shift a_moP a_moQ a_moA a_moB a_moD), (a_moR, .inl (cI, 7, .inl moR_r)), (a_moP, .inl (cI, 256, .inl moP_r)), (a_moQ, .inl (cI, 256, .inl moQ_r)), (a_moA, .inl (cJ, 256, .inr (.inl moA_r))), (a_moB, .inl (cJ, 256, .inr (.inl moB_r))), (a_moD, .inl (cJ, 256, .inr (.inl moD_r)))] → va_S A s.heap H locs → lv_has ls 8 [(0, .ref a_mo), (4, .int p4), (6, .int x6)] → W p l e R s m args below meth c H locs 0 0 Q (F0 m 166 ls [.int y0]) := by
        intro mo_function mo_atX mo_atM mo_parts mo_shift moR_r moP_r moQ_r moA_r moB_r moD_r x6 y0 H locs ls ho hP hD hS hl
        unfold wp_X8_table_166 at ho
        refine lv_istore (lv' := [(7, .int y0), (0, .ref a_mo), (4, .int p4), (6, .int x6)]) hx hb dX8_table_166 hl (by decide) rfl (fun ls hl => ?_)
        refine lv_aload_n hx hb dX8_table_168 rfl (lv_at hl 1 rfl) ?_
        refine lv_dup hx hb dX8_table_169 rfl ?_
        refine va_get (D := D) (ci := 7) (v := .int mo_parts) (C := RX8) (T := TX8) (N := 25) hx hb hts in_X8_table_X8 hown hK hP 0 rfl rfl 18 (by decide) (hts (.fieldLink RX8 74 "HardBenchModel" "parts" "I") (List.mem_of_getElem? (i := 2) (by decide +kernel))) (fun _ h9 => h9) rfl dX8_table_170 ?_
        refine lv_iconst (v := 1) hx hb dX8_table_173 (by decide) ?_
        refine lv_iadd hx hb dX8_table_174 ?_
        refine va_put (D := D) (ci := 7) (v := .int (mo_parts + (1 : Int32))) (ty := .int) (C := RX8) (T := TX8) (N := 25) hx hb hts in_X8_table_X8 tyX8 tyX8_ok nmX8 hown hK hP hD hS 0 rfl rfl 18 (by decide) (hts (.fieldLink RX8 74 "HardBenchModel" "parts" "I") (List.mem_of_getElem? (i := 2) (by decide +kernel))) (fun _ h9 => h9) rfl (by decide +kernel) rfl rfl (Nat.le_of_ble_eq_true rfl) dX8_table_175 (fun H locs hP hD hS => ?_)
        replace hP : va_P D vwCl [(a_mo, oX8 a_moR mo_e mo_f mo_codes mo_most mo_minus mo_low mo_function mo_atX mo_atM a_moK a_moH a_moS mo_spanFunction mo_spanRounding mo_spanMany a_moF a_moT (mo_parts + (1 : Int32)) mo_shift a_moP a_moQ a_moA a_moB a_moD), (a_moR, .inl (cI, 7, .inl moR_r)), (a_moP, .inl (cI, 256, .inl moP_r)), (a_moQ, .inl (cI, 256, .inl moQ_r)), (a_moA, .inl (cJ, 256, .inr (.inl moA_r))), (a_moB, .inl (cJ, 256, .inr (.inl moB_r))), (a_moD, .inl (cJ, 256, .inr (.inl moD_r)))] H := hP
        replace hD : va_D A [(a_mo, oX8 a_moR mo_e mo_f mo_codes mo_most mo_minus mo_low mo_function mo_atX mo_atM a_moK a_moH a_moS mo_spanFunction mo_spanRounding mo_spanMany a_moF a_moT (mo_parts + (1 : Int32)) mo_shift a_moP a_moQ a_moA a_moB a_moD), (a_moR, .inl (cI, 7, .inl moR_r)), (a_moP, .inl (cI, 256, .inl moP_r)), (a_moQ, .inl (cI, 256, .inl moQ_r)), (a_moA, .inl (cJ, 256, .inr (.inl moA_r))), (a_moB, .inl (cJ, 256, .inr (.inl moB_r))), (a_moD, .inl (cJ, 256, .inr (.inl moD_r)))] := hD
        refine lv_goto (tgt := 135) hx hb dX8_table_178 (by decide) ?_
        exact ih_135 mo_function mo_atX mo_atM (mo_parts + (1 : Int32)) mo_shift moR_r moP_r moQ_r moA_r moB_r moD_r x6 y0 H locs ls ho hP hD hS (lv_sub hl [1, 2, 3, 0] rfl)
      intro mo_function mo_atX mo_atM mo_parts mo_shift moR_r moP_r moQ_r moA_r moB_r moD_r x6 x7 H locs ls ho hP hD hS hl
      replace ho : wp_X8_table_135_b post p4 (wp_X8_table_135 post p4 n_135) mo_function mo_atX mo_atM mo_parts mo_shift moR_r moP_r moQ_r moA_r moB_r moD_r x6 x7 := ho
      unfold wp_X8_table_135_b at ho
      refine lv_iload hx hb dX8_table_135 (lv_at hl 3 rfl) ?_
      refine lv_iload hx hb dX8_table_137 (lv_at hl 2 rfl) ?_
      refine lv_icmp_ge (tgt := 181) hx hb dX8_table_139 (by decide) (fun c_139 => ?_) (fun c_139 => ?_)
      · replace ho := ho.1 c_139
        refine lv_aload_n hx hb dX8_table_181 rfl (lv_at hl 0 rfl) ?_
        refine va_get (D := D) (ci := 7) (v := .int mo_parts) (C := RX8) (T := TX8) (N := 25) hx hb hts in_X8_table_X8 hown hK hP 0 rfl rfl 18 (by decide) (hts (.fieldLink RX8 74 "HardBenchModel" "parts" "I") (List.mem_of_getElem? (i := 2) (by decide +kernel))) (fun _ h9 => h9) rfl dX8_table_182 ?_
        subst hQ; exact W.iret (v := mo_parts) hx hb hr (fun t ht hW => ⟨⟨mo_parts, (mo_function, mo_atX, mo_atM, mo_parts, mo_shift, moR_r, moP_r, moQ_r, moA_r, moB_r, moD_r), rfl, ho, by rw [ht]; exact hP, hD⟩, hS.F ht⟩) (fun q hq => hS.2.2 q hq) dX8_table_185
      · replace ho := ho.2 c_139
        refine lv_iload hx hb dX8_table_142 (lv_at hl 1 rfl) ?_
        refine lv_if_ne (tgt := 158) hx hb dX8_table_144 (by decide) (fun c_144 => ?_) (fun c_144 => ?_)
        · replace ho := ho.1 c_144
          refine lv_aload_n hx hb dX8_table_158 rfl (lv_at hl 0 rfl) ?_
          refine lv_iload hx hb dX8_table_159 (lv_at hl 3 rfl) ?_
          refine lv_iload hx hb dX8_table_161 (lv_at hl 2 rfl) ?_
          refine ca_Wi (b := a_mo) (As := [.int x7, .int x6]) (rest := []) (wr := [(a_moR, .inl (cI, 7, .inl moR_r))]) (wo := fun u => [(a_mo, oX8 a_moR mo_e mo_f mo_codes mo_most mo_minus mo_low mo_function mo_atX mo_atM a_moK a_moH a_moS mo_spanFunction mo_spanRounding mo_spanMany a_moF a_moT mo_parts mo_shift a_moP a_moQ a_moA a_moB a_moD), (a_moP, .inl (cI, 256, .inl u.1)), (a_moQ, .inl (cI, 256, .inl u.2.1)), (a_moA, .inl (cJ, 256, .inr (.inl u.2.2.1))), (a_moB, .inl (cJ, 256, .inr (.inl u.2.2.2))), (a_moD, .inl (cJ, 256, .inr (.inl moD_r)))]) (wn := fun u => [(a_mo, oX8 a_moR mo_e mo_f mo_codes mo_most mo_minus mo_low mo_function mo_atX mo_atM a_moK a_moH a_moS mo_spanFunction mo_spanRounding mo_spanMany a_moF a_moT mo_parts mo_shift a_moP a_moQ a_moA a_moB a_moD), (a_moR, .inl (cI, 7, .inl moR_r)), (a_moP, .inl (cI, 256, .inl u.1)), (a_moQ, .inl (cI, 256, .inl u.2.1)), (a_moA, .inl (cJ, 256, .inr (.inl u.2.2.1))), (a_moB, .inl (cJ, 256, .inr (.inl u.2.2.2))), (a_moD, .inl (cJ, 256, .inr (.inl moD_r)))]) ⟨hx, hb, hml, hown, hts⟩ (c_X8_line l D cI cJ cZ a_mo a_moR a_moK a_moH a_moS a_moF a_moT a_moP a_moQ a_moA a_moB a_moD H.size mo_e mo_f mo_codes mo_most mo_minus mo_low mo_function mo_atX mo_atM mo_spanFunction mo_spanRounding mo_spanMany mo_parts mo_shift moP_r moQ_r moA_r moB_r moD_r x7 x6 _ _ rfl ho) (cwV 2 hts gX8_table_X8_line rfl rfl rfl (by decide +kernel) ⟨hRf _ (Nat.le_of_ble_eq_true rfl), hRl _ (Nat.le_of_ble_eq_true rfl)⟩) hK hN hP hD hS hA [0, 2, 3, 4, 5, 6] [1] [1, 0, 2, 3, 4, 5, 6] rfl rfl (by decide) (by decide) (by decide) (by decide) (fun _ => rfl) 0 7 rfl rfl rfl rfl hl.1 rfl (Nat.le_of_ble_eq_true rfl) dX8_table_163 ⟨Nat.zero_le _, Nat.zero_le _⟩ (fun r163 u163 H locs ho hP hD hS => ?_)
          obtain ⟨u163_1, u163_2, u163_3, u163_4⟩ := u163
          try dsimp only at ho
          replace hP : va_P D vwCl [(a_mo, oX8 a_moR mo_e mo_f mo_codes mo_most mo_minus mo_low mo_function mo_atX mo_atM a_moK a_moH a_moS mo_spanFunction mo_spanRounding mo_spanMany a_moF a_moT mo_parts mo_shift a_moP a_moQ a_moA a_moB a_moD), (a_moR, .inl (cI, 7, .inl moR_r)), (a_moP, .inl (cI, 256, .inl u163_1)), (a_moQ, .inl (cI, 256, .inl u163_2)), (a_moA, .inl (cJ, 256, .inr (.inl u163_3))), (a_moB, .inl (cJ, 256, .inr (.inl u163_4))), (a_moD, .inl (cJ, 256, .inr (.inl moD_r)))] H := hP
          replace hD : va_D A [(a_mo, oX8 a_moR mo_e mo_f mo_codes mo_most mo_minus mo_low mo_function mo_atX mo_atM a_moK a_moH a_moS mo_spanFunction mo_spanRounding mo_spanMany a_moF a_moT mo_parts mo_shift a_moP a_moQ a_moA a_moB a_moD), (a_moR, .inl (cI, 7, .inl moR_r)), (a_moP, .inl (cI, 256, .inl u163_1)), (a_moQ, .inl (cI, 256, .inl u163_2)), (a_moA, .inl (cJ, 256, .inr (.inl u163_3))), (a_moB, .inl (cJ, 256, .inr (.inl u163_4))), (a_moD, .inl (cJ, 256, .inr (.inl moD_r)))] := hD
          exact C_166 mo_function mo_atX mo_atM mo_parts mo_shift moR_r u163_1 u163_2 u163_3 u163_4 moD_r x6 r163 H locs ls ho hP hD hS (lv_sub hl [0, 1, 2] rfl)
        · replace ho := ho.2 c_144
          refine lv_aload_n hx hb dX8_table_147 rfl (lv_at hl 0 rfl) ?_
          refine lv_iload hx hb dX8_table_148 (lv_at hl 3 rfl) ?_
          refine lv_iload hx hb dX8_table_150 (lv_at hl 2 rfl) ?_
          refine ca_Wi (b := a_mo) (As := [.int x7, .int x6]) (rest := []) (wr := [(a_moR, .inl (cI, 7, .inl moR_r))]) (wo := fun u => [(a_mo, oX8 a_moR mo_e mo_f mo_codes mo_most mo_minus mo_low mo_function mo_atX mo_atM a_moK a_moH a_moS mo_spanFunction mo_spanRounding mo_spanMany a_moF a_moT mo_parts mo_shift a_moP a_moQ a_moA a_moB a_moD), (a_moP, .inl (cI, 256, .inl u.1)), (a_moQ, .inl (cI, 256, .inl u.2.1)), (a_moA, .inl (cJ, 256, .inr (.inl u.2.2.1))), (a_moB, .inl (cJ, 256, .inr (.inl u.2.2.2))), (a_moD, .inl (cJ, 256, .inr (.inl moD_r)))]) (wn := fun u => [(a_mo, oX8 a_moR mo_e mo_f mo_codes mo_most mo_minus mo_low mo_function mo_atX mo_atM a_moK a_moH a_moS mo_spanFunction mo_spanRounding mo_spanMany a_moF a_moT mo_parts mo_shift a_moP a_moQ a_moA a_moB a_moD), (a_moR, .inl (cI, 7, .inl moR_r)), (a_moP, .inl (cI, 256, .inl u.1)), (a_moQ, .inl (cI, 256, .inl u.2.1)), (a_moA, .inl (cJ, 256, .inr (.inl u.2.2.1))), (a_moB, .inl (cJ, 256, .inr (.inl u.2.2.2))), (a_moD, .inl (cJ, 256, .inr (.inl moD_r)))]) ⟨hx, hb, hml, hown, hts⟩ (c_X8_flat l D cI cJ cZ a_mo a_moR a_moK a_moH a_moS a_moF a_moT a_moP a_moQ a_moA a_moB a_moD H.size mo_e mo_f mo_codes mo_most mo_minus mo_low mo_function mo_atX mo_atM mo_spanFunction mo_spanRounding mo_spanMany mo_parts mo_shift moP_r moQ_r moA_r moB_r moD_r x7 x6 _ _ rfl ho) (cwV 2 hts gX8_table_X8_flat rfl rfl rfl (by decide +kernel) ⟨hRf _ (Nat.le_of_ble_eq_true rfl), hRl _ (Nat.le_of_ble_eq_true rfl)⟩) hK hN hP hD hS hA [0, 2, 3, 4, 5, 6] [1] [1, 0, 2, 3, 4, 5, 6] rfl rfl (by decide) (by decide) (by decide) (by decide) (fun _ => rfl) 0 7 rfl rfl rfl rfl hl.1 rfl (Nat.le_of_ble_eq_true rfl) dX8_table_152 ⟨Nat.zero_le _, Nat.zero_le _⟩ (fun r152 u152 H locs ho hP hD hS => ?_)
          obtain ⟨u152_1, u152_2, u152_3, u152_4⟩ := u152
          try dsimp only at ho
          replace hP : va_P D vwCl [(a_mo, oX8 a_moR mo_e mo_f mo_codes mo_most mo_minus mo_low mo_function mo_atX mo_atM a_moK a_moH a_moS mo_spanFunction mo_spanRounding mo_spanMany a_moF a_moT mo_parts mo_shift a_moP a_moQ a_moA a_moB a_moD), (a_moR, .inl (cI, 7, .inl moR_r)), (a_moP, .inl (cI, 256, .inl u152_1)), (a_moQ, .inl (cI, 256, .inl u152_2)), (a_moA, .inl (cJ, 256, .inr (.inl u152_3))), (a_moB, .inl (cJ, 256, .inr (.inl u152_4))), (a_moD, .inl (cJ, 256, .inr (.inl moD_r)))] H := hP
          replace hD : va_D A [(a_mo, oX8 a_moR mo_e mo_f mo_codes mo_most mo_minus mo_low mo_function mo_atX mo_atM a_moK a_moH a_moS mo_spanFunction mo_spanRounding mo_spanMany a_moF a_moT mo_parts mo_shift a_moP a_moQ a_moA a_moB a_moD), (a_moR, .inl (cI, 7, .inl moR_r)), (a_moP, .inl (cI, 256, .inl u152_1)), (a_moQ, .inl (cI, 256, .inl u152_2)), (a_moA, .inl (cJ, 256, .inr (.inl u152_3))), (a_moB, .inl (cJ, 256, .inr (.inl u152_4))), (a_moD, .inl (cJ, 256, .inr (.inl moD_r)))] := hD
          refine lv_goto (tgt := 166) hx hb dX8_table_155 (by decide) ?_
          exact C_166 mo_function mo_atX mo_atM mo_parts mo_shift moR_r u152_1 u152_2 u152_3 u152_4 moD_r x6 r152 H locs ls ho hP hD hS (lv_sub hl [0, 1, 2] rfl)
  have C_93 : ∀ n : Nat, ∀ (mo_function : Int32) (mo_atX : Int32) (mo_atM : Int64) (mo_parts : Int32) (mo_shift : Int32) (moR_r : Nat → Int32) (moP_r : Nat → Int32) (moQ_r : Nat → Int32) (moA_r : Nat → Int64) (moB_r : Nat → Int64) (moD_r : Nat → Int64) (x6 : Int32) (x7 : Int32) (H : Heap) (locs : List Loc) (ls : Array Slot), wp_X8_table_93 post  mo_f mo_most mo_minus mo_low p1 p2 p3 p4 p5 n mo_function mo_atX mo_atM mo_parts mo_shift moR_r moP_r moQ_r moA_r moB_r moD_r x6 x7 → va_P D vwCl [(a_mo, oX8 a_moR mo_e mo_f mo_codes mo_most mo_minus mo_low mo_function mo_atX mo_atM a_moK a_moH a_moS mo_spanFunction mo_spanRounding mo_spanMany a_moF a_moT mo_parts mo_shift a_moP a_moQ a_moA a_moB a_moD), (a_moR, .inl (cI, 7, .inl moR_r)), (a_moP, .inl (cI, 256, .inl moP_r)), (a_moQ, .inl (cI, 256, .inl moQ_r)), (a_moA, .inl (cJ, 256, .inr (.inl moA_r))), (a_moB, .inl (cJ, 256, .inr (.inl moB_r))), (a_moD, .inl (cJ, 256, .inr (.inl moD_r)))] H → va_D A [(a_mo, oX8 a_moR mo_e mo_f mo_codes mo_most mo_minus mo_low mo_function mo_atX mo_atM a_moK a_moH a_moS mo_spanFunction mo_spanRounding mo_spanMany a_moF a_moT mo_parts mo_shift a_moP a_moQ a_moA a_moB a_moD), (a_moR, .inl (cI, 7, .inl moR_r)), (a_moP, .inl (cI, 256, .inl moP_r)), (a_moQ, .inl (cI, 256, .inl moQ_r)), (a_moA, .inl (cJ, 256, .inr (.inl moA_r))), (a_moB, .inl (cJ, 256, .inr (.inl moB_r))), (a_moD, .inl (cJ, 256, .inr (.inl moD_r)))] → va_S A s.heap H locs → lv_has ls 8 [(0, .ref a_mo), (1, .int p1), (2, .int p2), (3, .int p3), (4, .int p4), (5, .int p5), (6, .int x6), (7, .int x7)] → W p l e R s m args below meth c H locs 0 0 Q (F0 m 93 ls []) := by
    intro n
    induction n with
    | zero => intro mo_function mo_atX mo_atM mo_parts mo_shift moR_r moP_r moQ_r moA_r moB_r moD_r x6 x7 H locs ls ho hP hD hS hl; exact ho.elim
    | succ n_93 ih_93 =>
      intro mo_function mo_atX mo_atM mo_parts mo_shift moR_r moP_r moQ_r moA_r moB_r moD_r x6 x7 H locs ls ho hP hD hS hl
      replace ho : wp_X8_table_93_b post mo_f mo_most mo_minus mo_low p1 p2 p3 p4 p5 (wp_X8_table_93 post mo_f mo_most mo_minus mo_low p1 p2 p3 p4 p5 n_93) mo_function mo_atX mo_atM mo_parts mo_shift moR_r moP_r moQ_r moA_r moB_r moD_r x6 x7 := ho
      unfold wp_X8_table_93_b at ho
      refine lv_iload hx hb dX8_table_93 (lv_at hl 7 rfl) ?_
      refine lv_iload hx hb dX8_table_95 (lv_at hl 6 rfl) ?_
      refine lv_icmp_ge (tgt := 132) hx hb dX8_table_97 (by decide) (fun c_97 => ?_) (fun c_97 => ?_)
      · replace ho := ho.1 c_97
        refine lv_iconst (v := 0) hx hb dX8_table_132 (by decide) ?_
        refine lv_istore (lv' := [(7, .int (0 : Int32)), (0, .ref a_mo), (1, .int p1), (2, .int p2), (3, .int p3), (4, .int p4), (5, .int p5), (6, .int x6)]) hx hb dX8_table_133 hl (by decide) rfl (fun ls hl => ?_)
        obtain ⟨n_135, ho⟩ := ho
        exact C_135 n_135 mo_function mo_atX mo_atM mo_parts mo_shift moR_r moP_r moQ_r moA_r moB_r moD_r x6 (0 : Int32) H locs ls ho hP hD hS (lv_sub hl [1, 5, 7, 0] rfl)
      · replace ho := ho.2 c_97
        refine lv_aload_n hx hb dX8_table_100 rfl (lv_at hl 0 rfl) ?_
        refine va_get (D := D) (ci := 7) (v := .ref a_moD) (C := RX8) (T := TX8) (N := 25) hx hb hts in_X8_table_X8 hown hK hP 0 rfl rfl 24 (by decide) (hts (.fieldLink RX8 43 "HardBenchModel" "due" "[J") (List.mem_of_getElem? (i := 4) (by decide +kernel))) (fun _ h9 => h9) rfl dX8_table_101 ?_
        refine lv_iload hx hb dX8_table_104 (lv_at hl 7 rfl) ?_
        refine lv_aload_n hx hb dX8_table_106 rfl (lv_at hl 0 rfl) ?_
        refine lv_iload_n hx hb dX8_table_107 rfl (lv_at hl 1 rfl) ?_
        refine lv_iload_n hx hb dX8_table_108 rfl (lv_at hl 3 rfl) ?_
        refine lv_aload_n hx hb dX8_table_109 rfl (lv_at hl 0 rfl) ?_
        refine va_get (D := D) (ci := 7) (v := .int mo_f) (C := RX8) (T := TX8) (N := 25) hx hb hts in_X8_table_X8 hown hK hP 0 rfl rfl 2 (by decide) (hts (.fieldLink RX8 59 "HardBenchModel" "f" "I") (List.mem_of_getElem? (i := 3) (by decide +kernel))) (fun _ h9 => h9) rfl dX8_table_110 ?_
        refine lv_ishl hx hb dX8_table_113 ?_
        refine lv_iload hx hb dX8_table_114 (lv_at hl 7 rfl) ?_
        refine lv_iadd hx hb dX8_table_116 ?_
        refine lv_iload_n hx hb dX8_table_117 rfl (lv_at hl 2 rfl) ?_
        refine ca_Wi (b := a_mo) (As := [.int p1, .int ((p3 <<< (mo_f &&& 31)) + x7), .int p2]) (rest := [.int x7, .ref a_moD]) (wr := [(a_moR, .inl (cI, 7, .inl moR_r)), (a_moP, .inl (cI, 256, .inl moP_r)), (a_moQ, .inl (cI, 256, .inl moQ_r)), (a_moA, .inl (cJ, 256, .inr (.inl moA_r))), (a_moB, .inl (cJ, 256, .inr (.inl moB_r))), (a_moD, .inl (cJ, 256, .inr (.inl moD_r)))]) (wo := fun u => [(a_mo, oX8 a_moR mo_e mo_f mo_codes mo_most mo_minus mo_low u.1 u.2.1 u.2.2 a_moK a_moH a_moS mo_spanFunction mo_spanRounding mo_spanMany a_moF a_moT mo_parts mo_shift a_moP a_moQ a_moA a_moB a_moD)]) (wn := fun u => [(a_mo, oX8 a_moR mo_e mo_f mo_codes mo_most mo_minus mo_low u.1 u.2.1 u.2.2 a_moK a_moH a_moS mo_spanFunction mo_spanRounding mo_spanMany a_moF a_moT mo_parts mo_shift a_moP a_moQ a_moA a_moB a_moD), (a_moR, .inl (cI, 7, .inl moR_r)), (a_moP, .inl (cI, 256, .inl moP_r)), (a_moQ, .inl (cI, 256, .inl moQ_r)), (a_moA, .inl (cJ, 256, .inr (.inl moA_r))), (a_moB, .inl (cJ, 256, .inr (.inl moB_r))), (a_moD, .inl (cJ, 256, .inr (.inl moD_r)))]) ⟨hx, hb, hml, hown, hts⟩ (c_X8_rightOf l D cI cJ cZ a_mo a_moR a_moK a_moH a_moS a_moF a_moT a_moP a_moQ a_moA a_moB a_moD H.size mo_e mo_f mo_codes mo_most mo_minus mo_low mo_function mo_atX mo_atM mo_spanFunction mo_spanRounding mo_spanMany mo_parts mo_shift p1 ((p3 <<< (mo_f &&& 31)) + x7) p2 _ _ rfl ho) (cwV 3 hts gX8_table_X8_rightOf rfl rfl rfl (by decide +kernel) ⟨hRf _ (Nat.le_of_ble_eq_true rfl), hRl _ (Nat.le_of_ble_eq_true rfl)⟩) hK hN hP hD hS hA [0] [1, 2, 3, 4, 5, 6] [6, 0, 1, 2, 3, 4, 5] rfl rfl (by decide) (by decide) (by decide) (by decide) (fun _ => rfl) 0 7 rfl rfl rfl rfl hl.1 rfl (Nat.le_of_ble_eq_true rfl) dX8_table_118 ⟨Nat.zero_le _, Nat.zero_le _⟩ (fun r118 u118 H locs ho hP hD hS => ?_)
        obtain ⟨u118_1, u118_2, u118_3⟩ := u118
        try dsimp only at ho
        replace hP : va_P D vwCl [(a_mo, oX8 a_moR mo_e mo_f mo_codes mo_most mo_minus mo_low u118_1 u118_2 u118_3 a_moK a_moH a_moS mo_spanFunction mo_spanRounding mo_spanMany a_moF a_moT mo_parts mo_shift a_moP a_moQ a_moA a_moB a_moD), (a_moR, .inl (cI, 7, .inl moR_r)), (a_moP, .inl (cI, 256, .inl moP_r)), (a_moQ, .inl (cI, 256, .inl moQ_r)), (a_moA, .inl (cJ, 256, .inr (.inl moA_r))), (a_moB, .inl (cJ, 256, .inr (.inl moB_r))), (a_moD, .inl (cJ, 256, .inr (.inl moD_r)))] H := hP
        replace hD : va_D A [(a_mo, oX8 a_moR mo_e mo_f mo_codes mo_most mo_minus mo_low u118_1 u118_2 u118_3 a_moK a_moH a_moS mo_spanFunction mo_spanRounding mo_spanMany a_moF a_moT mo_parts mo_shift a_moP a_moQ a_moA a_moB a_moD), (a_moR, .inl (cI, 7, .inl moR_r)), (a_moP, .inl (cI, 256, .inl moP_r)), (a_moQ, .inl (cI, 256, .inl moQ_r)), (a_moA, .inl (cJ, 256, .inr (.inl moA_r))), (a_moB, .inl (cJ, 256, .inr (.inl moB_r))), (a_moD, .inl (cJ, 256, .inr (.inl moD_r)))] := hD
        refine lv_i2l hx hb dX8_table_121 rfl ?_
        refine lv_iload hx hb dX8_table_122 (lv_at hl 5 rfl) ?_
        refine lv_lshl hx hb dX8_table_124 rfl ?_
        have o_125 := ho.1
        replace ho := ho.2
        refine va_last hx hb hK hP hD hS 6 1 rfl rfl o_125 dX8_table_125 (fun H locs hP hD hS => ?_)
        replace hP : va_P D vwCl [(a_mo, oX8 a_moR mo_e mo_f mo_codes mo_most mo_minus mo_low u118_1 u118_2 u118_3 a_moK a_moH a_moS mo_spanFunction mo_spanRounding mo_spanMany a_moF a_moT mo_parts mo_shift a_moP a_moQ a_moA a_moB a_moD), (a_moR, .inl (cI, 7, .inl moR_r)), (a_moP, .inl (cI, 256, .inl moP_r)), (a_moQ, .inl (cI, 256, .inl moQ_r)), (a_moA, .inl (cJ, 256, .inr (.inl moA_r))), (a_moB, .inl (cJ, 256, .inr (.inl moB_r))), (a_moD, .inl (cJ, 256, .inr (.inl (vp_updL moD_r x7.toNatClampNeg (r118.toInt64 <<< (p5.toInt64 &&& 63))))))] H := hP
        replace hD : va_D A [(a_mo, oX8 a_moR mo_e mo_f mo_codes mo_most mo_minus mo_low u118_1 u118_2 u118_3 a_moK a_moH a_moS mo_spanFunction mo_spanRounding mo_spanMany a_moF a_moT mo_parts mo_shift a_moP a_moQ a_moA a_moB a_moD), (a_moR, .inl (cI, 7, .inl moR_r)), (a_moP, .inl (cI, 256, .inl moP_r)), (a_moQ, .inl (cI, 256, .inl moQ_r)), (a_moA, .inl (cJ, 256, .inr (.inl moA_r))), (a_moB, .inl (cJ, 256, .inr (.inl moB_r))), (a_moD, .inl (cJ, 256, .inr (.inl (vp_updL moD_r x7.toNatClampNeg (r118.toInt64 <<< (p5.toInt64 &&& 63))))))] := hD
        refine lv_iinc (v := (x7 + (1 : Int32))) (lv' := [(7, .int (x7 + (1 : Int32))), (0, .ref a_mo), (1, .int p1), (2, .int p2), (3, .int p3), (4, .int p4), (5, .int p5), (6, .int x6)]) hx hb dX8_table_126 hl (k := 7) rfl rfl (by decide) rfl (fun ls hl => ?_)
        refine lv_goto (tgt := 93) hx hb dX8_table_129 (by decide) ?_
        exact ih_93 u118_1 u118_2 u118_3 mo_parts mo_shift moR_r moP_r moQ_r moA_r moB_r (vp_updL moD_r x7.toNatClampNeg (r118.toInt64 <<< (p5.toInt64 &&& 63))) x6 (x7 + (1 : Int32)) H locs ls ho hP hD hS (lv_sub hl [1, 2, 3, 4, 5, 6, 7, 0] rfl)
  have C_23 : ∀ (mo_function : Int32) (mo_atX : Int32) (mo_atM : Int64) (mo_parts : Int32) (mo_shift : Int32) (moR_r : Nat → Int32) (moP_r : Nat → Int32) (moQ_r : Nat → Int32) (moA_r : Nat → Int64) (moB_r : Nat → Int64) (moD_r : Nat → Int64) (H : Heap) (locs : List Loc) (ls : Array Slot), wp_X8_table_23 post  mo_function mo_atX mo_atM mo_parts mo_shift moR_r moP_r moQ_r moA_r moB_r moD_r → va_P D vwCl [(a_mo, oX8 a_moR mo_e mo_f mo_codes mo_most mo_minus mo_low mo_function mo_atX mo_atM a_moK a_moH a_moS mo_spanFunction mo_spanRounding mo_spanMany a_moF a_moT mo_parts mo_shift a_moP a_moQ a_moA a_moB a_moD), (a_moR, .inl (cI, 7, .inl moR_r)), (a_moP, .inl (cI, 256, .inl moP_r)), (a_moQ, .inl (cI, 256, .inl moQ_r)), (a_moA, .inl (cJ, 256, .inr (.inl moA_r))), (a_moB, .inl (cJ, 256, .inr (.inl moB_r))), (a_moD, .inl (cJ, 256, .inr (.inl moD_r)))] H → va_D A [(a_mo, oX8 a_moR mo_e mo_f mo_codes mo_most mo_minus mo_low mo_function mo_atX mo_atM a_moK a_moH a_moS mo_spanFunction mo_spanRounding mo_spanMany a_moF a_moT mo_parts mo_shift a_moP a_moQ a_moA a_moB a_moD), (a_moR, .inl (cI, 7, .inl moR_r)), (a_moP, .inl (cI, 256, .inl moP_r)), (a_moQ, .inl (cI, 256, .inl moQ_r)), (a_moA, .inl (cJ, 256, .inr (.inl moA_r))), (a_moB, .inl (cJ, 256, .inr (.inl moB_r))), (a_moD, .inl (cJ, 256, .inr (.inl moD_r)))] → va_S A s.heap H locs → lv_has ls 8 [(0, .ref a_mo)] → W p l e R s m args below meth c H locs 0 0 Q (F0 m 23 ls []) := by
    intro mo_function mo_atX mo_atM mo_parts mo_shift moR_r moP_r moQ_r moA_r moB_r moD_r H locs ls ho hP hD hS hl
    unfold wp_X8_table_23 at ho
    refine lv_aload_n hx hb dX8_table_23 rfl (lv_at hl 0 rfl) ?_
    refine lv_iconst (v := (-1)) hx hb dX8_table_24 (by decide) ?_
    refine ca_Wi (b := a_mo) (As := [.int (-1 : Int32)]) (rest := []) (wr := [(a_moP, .inl (cI, 256, .inl moP_r)), (a_moQ, .inl (cI, 256, .inl moQ_r)), (a_moA, .inl (cJ, 256, .inr (.inl moA_r))), (a_moB, .inl (cJ, 256, .inr (.inl moB_r))), (a_moD, .inl (cJ, 256, .inr (.inl moD_r)))]) (wo := fun u => [(a_mo, oX8 a_moR mo_e mo_f mo_codes mo_most mo_minus mo_low mo_function mo_atX mo_atM a_moK a_moH a_moS mo_spanFunction mo_spanRounding mo_spanMany a_moF a_moT mo_parts mo_shift a_moP a_moQ a_moA a_moB a_moD), (a_moR, .inl (cI, 7, .inl u))]) (wn := fun u => [(a_mo, oX8 a_moR mo_e mo_f mo_codes mo_most mo_minus mo_low mo_function mo_atX mo_atM a_moK a_moH a_moS mo_spanFunction mo_spanRounding mo_spanMany a_moF a_moT mo_parts mo_shift a_moP a_moQ a_moA a_moB a_moD), (a_moR, .inl (cI, 7, .inl u)), (a_moP, .inl (cI, 256, .inl moP_r)), (a_moQ, .inl (cI, 256, .inl moQ_r)), (a_moA, .inl (cJ, 256, .inr (.inl moA_r))), (a_moB, .inl (cJ, 256, .inr (.inl moB_r))), (a_moD, .inl (cJ, 256, .inr (.inl moD_r)))]) ⟨hx, hb, hml, hown, hts⟩ (c_X8_refuse l D cI cJ cZ a_mo a_moR a_moK a_moH a_moS a_moF a_moT a_moP a_moQ a_moA a_moB a_moD H.size mo_e mo_f mo_codes mo_most mo_minus mo_low mo_function mo_atX mo_atM mo_spanFunction mo_spanRounding mo_spanMany mo_parts mo_shift moR_r (-1 : Int32) _ _ rfl ho) (cwV 1 hts gX8_table_X8_refuse rfl rfl rfl (by decide +kernel) ⟨hRf _ (Nat.le_of_ble_eq_true rfl), hRl _ (Nat.le_of_ble_eq_true rfl)⟩) hK hN hP hD hS hA [0, 1] [2, 3, 4, 5, 6] [5, 6, 0, 1, 2, 3, 4] rfl rfl (by decide) (by decide) (by decide) (by decide) (fun _ => rfl) 0 7 rfl rfl rfl rfl hl.1 rfl (Nat.le_of_ble_eq_true rfl) dX8_table_25 ⟨Nat.zero_le _, Nat.zero_le _⟩ (fun r25 u25 H locs ho hP hD hS => ?_)
    try dsimp only at ho
    replace hP : va_P D vwCl [(a_mo, oX8 a_moR mo_e mo_f mo_codes mo_most mo_minus mo_low mo_function mo_atX mo_atM a_moK a_moH a_moS mo_spanFunction mo_spanRounding mo_spanMany a_moF a_moT mo_parts mo_shift a_moP a_moQ a_moA a_moB a_moD), (a_moR, .inl (cI, 7, .inl u25)), (a_moP, .inl (cI, 256, .inl moP_r)), (a_moQ, .inl (cI, 256, .inl moQ_r)), (a_moA, .inl (cJ, 256, .inr (.inl moA_r))), (a_moB, .inl (cJ, 256, .inr (.inl moB_r))), (a_moD, .inl (cJ, 256, .inr (.inl moD_r)))] H := hP
    replace hD : va_D A [(a_mo, oX8 a_moR mo_e mo_f mo_codes mo_most mo_minus mo_low mo_function mo_atX mo_atM a_moK a_moH a_moS mo_spanFunction mo_spanRounding mo_spanMany a_moF a_moT mo_parts mo_shift a_moP a_moQ a_moA a_moB a_moD), (a_moR, .inl (cI, 7, .inl u25)), (a_moP, .inl (cI, 256, .inl moP_r)), (a_moQ, .inl (cI, 256, .inl moQ_r)), (a_moA, .inl (cJ, 256, .inr (.inl moA_r))), (a_moB, .inl (cJ, 256, .inr (.inl moB_r))), (a_moD, .inl (cJ, 256, .inr (.inl moD_r)))] := hD
    subst hQ; exact W.iret (v := r25) hx hb hr (fun t ht hW => ⟨⟨r25, (mo_function, mo_atX, mo_atM, mo_parts, mo_shift, u25, moP_r, moQ_r, moA_r, moB_r, moD_r), rfl, ho, by rw [ht]; exact hP, hD⟩, hS.F ht⟩) (fun q hq => hS.2.2 q hq) dX8_table_28
  unfold wp_X8_table at ho
  refine lv_iload_n hx hb dX8_table_0 rfl (lv_at hl 1 rfl) ?_
  refine ca_Si (As := [.int p1]) (rest := []) ⟨hx, hb, hml, hown, hts⟩ (c_X8_isFunction l D cI cJ cZ   p1 _ ho) (va_cwS 1 hts gX8_table_X8_isFunction rfl rfl rfl (by decide +kernel) ⟨hRf _ (Nat.le_of_ble_eq_true rfl), hRl _ (Nat.le_of_ble_eq_true rfl)⟩) hK hN hP [] rfl rfl hl.1 rfl (Nat.le_of_ble_eq_true rfl) dX8_table_1 ⟨Nat.zero_le _, Nat.zero_le _⟩ (fun r1 ho => ?_)
  refine lv_if_eq (tgt := 23) hx hb dX8_table_4 (by decide) (fun c_4 => ?_) (fun c_4 => ?_)
  · replace ho := ho.1 c_4
    exact C_23 mo_function mo_atX mo_atM mo_parts mo_shift moR_r moP_r moQ_r moA_r moB_r moD_r H locs ls ho hP hD hS (lv_sub hl [0] rfl)
  · replace ho := ho.2 c_4
    refine lv_iload_n hx hb dX8_table_7 rfl (lv_at hl 2 rfl) ?_
    refine lv_iconst (v := 5) hx hb dX8_table_8 (by decide) ?_
    refine ca_Si (As := [.int p2, .int (5 : Int32)]) (rest := []) ⟨hx, hb, hml, hown, hts⟩ (c_X8_isIn l D cI cJ cZ   p2 (5 : Int32) _ ho) (va_cwS 2 hts gX8_table_X8_isIn rfl rfl rfl (by decide +kernel) ⟨hRf _ (Nat.le_of_ble_eq_true rfl), hRl _ (Nat.le_of_ble_eq_true rfl)⟩) hK hN hP [] rfl rfl hl.1 rfl (Nat.le_of_ble_eq_true rfl) dX8_table_9 ⟨Nat.zero_le _, Nat.zero_le _⟩ (fun r9 ho => ?_)
    refine lv_if_eq (tgt := 23) hx hb dX8_table_12 (by decide) (fun c_12 => ?_) (fun c_12 => ?_)
    · replace ho := ho.1 c_12
      exact C_23 mo_function mo_atX mo_atM mo_parts mo_shift moR_r moP_r moQ_r moA_r moB_r moD_r H locs ls ho hP hD hS (lv_sub hl [0] rfl)
    · replace ho := ho.2 c_12
      refine lv_aload_n hx hb dX8_table_15 rfl (lv_at hl 0 rfl) ?_
      refine lv_iload_n hx hb dX8_table_16 rfl (lv_at hl 3 rfl) ?_
      refine ca_Vi (b := a_mo) (As := [.int p3]) (rest := []) ⟨hx, hb, hml, hown, hts⟩ (c_X8_isPower l D cI cJ cZ a_mo a_moR a_moK a_moH a_moS a_moF a_moT a_moP a_moQ a_moA a_moB a_moD mo_e mo_f mo_codes mo_most mo_minus mo_low mo_function mo_atX mo_atM mo_spanFunction mo_spanRounding mo_spanMany mo_parts mo_shift p3 _ ho) (cwV 1 hts gX8_table_X8_isPower rfl rfl rfl (by decide +kernel) ⟨hRf _ (Nat.le_of_ble_eq_true rfl), hRl _ (Nat.le_of_ble_eq_true rfl)⟩) hK hN hP [0] rfl 0 7 rfl rfl rfl rfl hl.1 rfl (Nat.le_of_ble_eq_true rfl) dX8_table_17 ⟨Nat.zero_le _, Nat.zero_le _⟩ (fun r17 ho => ?_)
      refine lv_if_ne (tgt := 29) hx hb dX8_table_20 (by decide) (fun c_20 => ?_) (fun c_20 => ?_)
      · replace ho := ho.1 c_20
        refine lv_iload hx hb dX8_table_29 (lv_at hl 4 rfl) ?_
        refine lv_iconst (v := 2) hx hb dX8_table_31 (by decide) ?_
        refine ca_Si (As := [.int p4, .int (2 : Int32)]) (rest := []) ⟨hx, hb, hml, hown, hts⟩ (c_X8_isIn l D cI cJ cZ   p4 (2 : Int32) _ ho) (va_cwS 2 hts gX8_table_X8_isIn rfl rfl rfl (by decide +kernel) ⟨hRf _ (Nat.le_of_ble_eq_true rfl), hRl _ (Nat.le_of_ble_eq_true rfl)⟩) hK hN hP [] rfl rfl hl.1 rfl (Nat.le_of_ble_eq_true rfl) dX8_table_32 ⟨Nat.zero_le _, Nat.zero_le _⟩ (fun r32 ho => ?_)
        refine lv_if_ne (tgt := 45) hx hb dX8_table_35 (by decide) (fun c_35 => ?_) (fun c_35 => ?_)
        · replace ho := ho.1 c_35
          refine lv_iload hx hb dX8_table_45 (lv_at hl 5 rfl) ?_
          refine lv_if_ge (tgt := 57) hx hb dX8_table_47 (by decide) (fun c_47 => ?_) (fun c_47 => ?_)
          · replace ho := ho.1 c_47
            refine lv_iload hx hb dX8_table_57 (lv_at hl 5 rfl) ?_
            refine lv_bipush (v := 10) hx hb dX8_table_59 (by decide) ?_
            refine lv_icmp_le (tgt := 71) hx hb dX8_table_61 (by decide) (fun c_61 => ?_) (fun c_61 => ?_)
            · replace ho := ho.1 c_61
              refine lv_aload_n hx hb dX8_table_71 rfl (lv_at hl 0 rfl) ?_
              refine lv_iload hx hb dX8_table_72 (lv_at hl 5 rfl) ?_
              refine va_put (D := D) (ci := 7) (v := .int p5) (ty := .int) (C := RX8) (T := TX8) (N := 25) hx hb hts in_X8_table_X8 tyX8 tyX8_ok nmX8 hown hK hP hD hS 0 rfl rfl 19 (by decide) (hts (.fieldLink RX8 196 "HardBenchModel" "shift" "I") (List.mem_of_getElem? (i := 1) (by decide +kernel))) (fun _ h9 => h9) rfl (by decide +kernel) rfl rfl (Nat.le_of_ble_eq_true rfl) dX8_table_74 (fun H locs hP hD hS => ?_)
              replace hP : va_P D vwCl [(a_mo, oX8 a_moR mo_e mo_f mo_codes mo_most mo_minus mo_low mo_function mo_atX mo_atM a_moK a_moH a_moS mo_spanFunction mo_spanRounding mo_spanMany a_moF a_moT mo_parts p5 a_moP a_moQ a_moA a_moB a_moD), (a_moR, .inl (cI, 7, .inl moR_r)), (a_moP, .inl (cI, 256, .inl moP_r)), (a_moQ, .inl (cI, 256, .inl moQ_r)), (a_moA, .inl (cJ, 256, .inr (.inl moA_r))), (a_moB, .inl (cJ, 256, .inr (.inl moB_r))), (a_moD, .inl (cJ, 256, .inr (.inl moD_r)))] H := hP
              replace hD : va_D A [(a_mo, oX8 a_moR mo_e mo_f mo_codes mo_most mo_minus mo_low mo_function mo_atX mo_atM a_moK a_moH a_moS mo_spanFunction mo_spanRounding mo_spanMany a_moF a_moT mo_parts p5 a_moP a_moQ a_moA a_moB a_moD), (a_moR, .inl (cI, 7, .inl moR_r)), (a_moP, .inl (cI, 256, .inl moP_r)), (a_moQ, .inl (cI, 256, .inl moQ_r)), (a_moA, .inl (cJ, 256, .inr (.inl moA_r))), (a_moB, .inl (cJ, 256, .inr (.inl moB_r))), (a_moD, .inl (cJ, 256, .inr (.inl moD_r)))] := hD
              refine lv_aload_n hx hb dX8_table_77 rfl (lv_at hl 0 rfl) ?_
              refine lv_iconst (v := 0) hx hb dX8_table_78 (by decide) ?_
              refine va_put (D := D) (ci := 7) (v := .int (0 : Int32)) (ty := .int) (C := RX8) (T := TX8) (N := 25) hx hb hts in_X8_table_X8 tyX8 tyX8_ok nmX8 hown hK hP hD hS 0 rfl rfl 18 (by decide) (hts (.fieldLink RX8 74 "HardBenchModel" "parts" "I") (List.mem_of_getElem? (i := 2) (by decide +kernel))) (fun _ h9 => h9) rfl (by decide +kernel) rfl rfl (Nat.le_of_ble_eq_true rfl) dX8_table_79 (fun H locs hP hD hS => ?_)
              replace hP : va_P D vwCl [(a_mo, oX8 a_moR mo_e mo_f mo_codes mo_most mo_minus mo_low mo_function mo_atX mo_atM a_moK a_moH a_moS mo_spanFunction mo_spanRounding mo_spanMany a_moF a_moT (0 : Int32) p5 a_moP a_moQ a_moA a_moB a_moD), (a_moR, .inl (cI, 7, .inl moR_r)), (a_moP, .inl (cI, 256, .inl moP_r)), (a_moQ, .inl (cI, 256, .inl moQ_r)), (a_moA, .inl (cJ, 256, .inr (.inl moA_r))), (a_moB, .inl (cJ, 256, .inr (.inl moB_r))), (a_moD, .inl (cJ, 256, .inr (.inl moD_r)))] H := hP
              replace hD : va_D A [(a_mo, oX8 a_moR mo_e mo_f mo_codes mo_most mo_minus mo_low mo_function mo_atX mo_atM a_moK a_moH a_moS mo_spanFunction mo_spanRounding mo_spanMany a_moF a_moT (0 : Int32) p5 a_moP a_moQ a_moA a_moB a_moD), (a_moR, .inl (cI, 7, .inl moR_r)), (a_moP, .inl (cI, 256, .inl moP_r)), (a_moQ, .inl (cI, 256, .inl moQ_r)), (a_moA, .inl (cJ, 256, .inr (.inl moA_r))), (a_moB, .inl (cJ, 256, .inr (.inl moB_r))), (a_moD, .inl (cJ, 256, .inr (.inl moD_r)))] := hD
              refine lv_iconst (v := 1) hx hb dX8_table_82 (by decide) ?_
              refine lv_aload_n hx hb dX8_table_83 rfl (lv_at hl 0 rfl) ?_
              refine va_get (D := D) (ci := 7) (v := .int mo_f) (C := RX8) (T := TX8) (N := 25) hx hb hts in_X8_table_X8 hown hK hP 0 rfl rfl 2 (by decide) (hts (.fieldLink RX8 59 "HardBenchModel" "f" "I") (List.mem_of_getElem? (i := 3) (by decide +kernel))) (fun _ h9 => h9) rfl dX8_table_84 ?_
              refine lv_ishl hx hb dX8_table_87 ?_
              refine lv_istore (lv' := [(6, .int ((1 : Int32) <<< (mo_f &&& 31))), (0, .ref a_mo), (1, .int p1), (2, .int p2), (3, .int p3), (4, .int p4), (5, .int p5)]) hx hb dX8_table_88 hl (by decide) rfl (fun ls hl => ?_)
              refine lv_iconst (v := 0) hx hb dX8_table_90 (by decide) ?_
              refine lv_istore (lv' := [(7, .int (0 : Int32)), (6, .int ((1 : Int32) <<< (mo_f &&& 31))), (0, .ref a_mo), (1, .int p1), (2, .int p2), (3, .int p3), (4, .int p4), (5, .int p5)]) hx hb dX8_table_91 hl (by decide) rfl (fun ls hl => ?_)
              obtain ⟨n_93, ho⟩ := ho
              exact C_93 n_93 mo_function mo_atX mo_atM (0 : Int32) p5 moR_r moP_r moQ_r moA_r moB_r moD_r ((1 : Int32) <<< (mo_f &&& 31)) (0 : Int32) H locs ls ho hP hD hS (lv_sub hl [2, 3, 4, 5, 6, 7, 1, 0] rfl)
            · replace ho := ho.2 c_61
              refine lv_aload_n hx hb dX8_table_64 rfl (lv_at hl 0 rfl) ?_
              refine lv_bipush (v := (-6)) hx hb dX8_table_65 (by decide) ?_
              refine ca_Wi (b := a_mo) (As := [.int (-6 : Int32)]) (rest := []) (wr := [(a_moP, .inl (cI, 256, .inl moP_r)), (a_moQ, .inl (cI, 256, .inl moQ_r)), (a_moA, .inl (cJ, 256, .inr (.inl moA_r))), (a_moB, .inl (cJ, 256, .inr (.inl moB_r))), (a_moD, .inl (cJ, 256, .inr (.inl moD_r)))]) (wo := fun u => [(a_mo, oX8 a_moR mo_e mo_f mo_codes mo_most mo_minus mo_low mo_function mo_atX mo_atM a_moK a_moH a_moS mo_spanFunction mo_spanRounding mo_spanMany a_moF a_moT mo_parts mo_shift a_moP a_moQ a_moA a_moB a_moD), (a_moR, .inl (cI, 7, .inl u))]) (wn := fun u => [(a_mo, oX8 a_moR mo_e mo_f mo_codes mo_most mo_minus mo_low mo_function mo_atX mo_atM a_moK a_moH a_moS mo_spanFunction mo_spanRounding mo_spanMany a_moF a_moT mo_parts mo_shift a_moP a_moQ a_moA a_moB a_moD), (a_moR, .inl (cI, 7, .inl u)), (a_moP, .inl (cI, 256, .inl moP_r)), (a_moQ, .inl (cI, 256, .inl moQ_r)), (a_moA, .inl (cJ, 256, .inr (.inl moA_r))), (a_moB, .inl (cJ, 256, .inr (.inl moB_r))), (a_moD, .inl (cJ, 256, .inr (.inl moD_r)))]) ⟨hx, hb, hml, hown, hts⟩ (c_X8_refuse l D cI cJ cZ a_mo a_moR a_moK a_moH a_moS a_moF a_moT a_moP a_moQ a_moA a_moB a_moD H.size mo_e mo_f mo_codes mo_most mo_minus mo_low mo_function mo_atX mo_atM mo_spanFunction mo_spanRounding mo_spanMany mo_parts mo_shift moR_r (-6 : Int32) _ _ rfl ho) (cwV 1 hts gX8_table_X8_refuse rfl rfl rfl (by decide +kernel) ⟨hRf _ (Nat.le_of_ble_eq_true rfl), hRl _ (Nat.le_of_ble_eq_true rfl)⟩) hK hN hP hD hS hA [0, 1] [2, 3, 4, 5, 6] [5, 6, 0, 1, 2, 3, 4] rfl rfl (by decide) (by decide) (by decide) (by decide) (fun _ => rfl) 0 7 rfl rfl rfl rfl hl.1 rfl (Nat.le_of_ble_eq_true rfl) dX8_table_67 ⟨Nat.zero_le _, Nat.zero_le _⟩ (fun r67 u67 H locs ho hP hD hS => ?_)
              try dsimp only at ho
              replace hP : va_P D vwCl [(a_mo, oX8 a_moR mo_e mo_f mo_codes mo_most mo_minus mo_low mo_function mo_atX mo_atM a_moK a_moH a_moS mo_spanFunction mo_spanRounding mo_spanMany a_moF a_moT mo_parts mo_shift a_moP a_moQ a_moA a_moB a_moD), (a_moR, .inl (cI, 7, .inl u67)), (a_moP, .inl (cI, 256, .inl moP_r)), (a_moQ, .inl (cI, 256, .inl moQ_r)), (a_moA, .inl (cJ, 256, .inr (.inl moA_r))), (a_moB, .inl (cJ, 256, .inr (.inl moB_r))), (a_moD, .inl (cJ, 256, .inr (.inl moD_r)))] H := hP
              replace hD : va_D A [(a_mo, oX8 a_moR mo_e mo_f mo_codes mo_most mo_minus mo_low mo_function mo_atX mo_atM a_moK a_moH a_moS mo_spanFunction mo_spanRounding mo_spanMany a_moF a_moT mo_parts mo_shift a_moP a_moQ a_moA a_moB a_moD), (a_moR, .inl (cI, 7, .inl u67)), (a_moP, .inl (cI, 256, .inl moP_r)), (a_moQ, .inl (cI, 256, .inl moQ_r)), (a_moA, .inl (cJ, 256, .inr (.inl moA_r))), (a_moB, .inl (cJ, 256, .inr (.inl moB_r))), (a_moD, .inl (cJ, 256, .inr (.inl moD_r)))] := hD
              subst hQ; exact W.iret (v := r67) hx hb hr (fun t ht hW => ⟨⟨r67, (mo_function, mo_atX, mo_atM, mo_parts, mo_shift, u67, moP_r, moQ_r, moA_r, moB_r, moD_r), rfl, ho, by rw [ht]; exact hP, hD⟩, hS.F ht⟩) (fun q hq => hS.2.2 q hq) dX8_table_70
          · replace ho := ho.2 c_47
            refine lv_aload_n hx hb dX8_table_50 rfl (lv_at hl 0 rfl) ?_
            refine lv_bipush (v := (-4)) hx hb dX8_table_51 (by decide) ?_
            refine ca_Wi (b := a_mo) (As := [.int (-4 : Int32)]) (rest := []) (wr := [(a_moP, .inl (cI, 256, .inl moP_r)), (a_moQ, .inl (cI, 256, .inl moQ_r)), (a_moA, .inl (cJ, 256, .inr (.inl moA_r))), (a_moB, .inl (cJ, 256, .inr (.inl moB_r))), (a_moD, .inl (cJ, 256, .inr (.inl moD_r)))]) (wo := fun u => [(a_mo, oX8 a_moR mo_e mo_f mo_codes mo_most mo_minus mo_low mo_function mo_atX mo_atM a_moK a_moH a_moS mo_spanFunction mo_spanRounding mo_spanMany a_moF a_moT mo_parts mo_shift a_moP a_moQ a_moA a_moB a_moD), (a_moR, .inl (cI, 7, .inl u))]) (wn := fun u => [(a_mo, oX8 a_moR mo_e mo_f mo_codes mo_most mo_minus mo_low mo_function mo_atX mo_atM a_moK a_moH a_moS mo_spanFunction mo_spanRounding mo_spanMany a_moF a_moT mo_parts mo_shift a_moP a_moQ a_moA a_moB a_moD), (a_moR, .inl (cI, 7, .inl u)), (a_moP, .inl (cI, 256, .inl moP_r)), (a_moQ, .inl (cI, 256, .inl moQ_r)), (a_moA, .inl (cJ, 256, .inr (.inl moA_r))), (a_moB, .inl (cJ, 256, .inr (.inl moB_r))), (a_moD, .inl (cJ, 256, .inr (.inl moD_r)))]) ⟨hx, hb, hml, hown, hts⟩ (c_X8_refuse l D cI cJ cZ a_mo a_moR a_moK a_moH a_moS a_moF a_moT a_moP a_moQ a_moA a_moB a_moD H.size mo_e mo_f mo_codes mo_most mo_minus mo_low mo_function mo_atX mo_atM mo_spanFunction mo_spanRounding mo_spanMany mo_parts mo_shift moR_r (-4 : Int32) _ _ rfl ho) (cwV 1 hts gX8_table_X8_refuse rfl rfl rfl (by decide +kernel) ⟨hRf _ (Nat.le_of_ble_eq_true rfl), hRl _ (Nat.le_of_ble_eq_true rfl)⟩) hK hN hP hD hS hA [0, 1] [2, 3, 4, 5, 6] [5, 6, 0, 1, 2, 3, 4] rfl rfl (by decide) (by decide) (by decide) (by decide) (fun _ => rfl) 0 7 rfl rfl rfl rfl hl.1 rfl (Nat.le_of_ble_eq_true rfl) dX8_table_53 ⟨Nat.zero_le _, Nat.zero_le _⟩ (fun r53 u53 H locs ho hP hD hS => ?_)
            try dsimp only at ho
            replace hP : va_P D vwCl [(a_mo, oX8 a_moR mo_e mo_f mo_codes mo_most mo_minus mo_low mo_function mo_atX mo_atM a_moK a_moH a_moS mo_spanFunction mo_spanRounding mo_spanMany a_moF a_moT mo_parts mo_shift a_moP a_moQ a_moA a_moB a_moD), (a_moR, .inl (cI, 7, .inl u53)), (a_moP, .inl (cI, 256, .inl moP_r)), (a_moQ, .inl (cI, 256, .inl moQ_r)), (a_moA, .inl (cJ, 256, .inr (.inl moA_r))), (a_moB, .inl (cJ, 256, .inr (.inl moB_r))), (a_moD, .inl (cJ, 256, .inr (.inl moD_r)))] H := hP
            replace hD : va_D A [(a_mo, oX8 a_moR mo_e mo_f mo_codes mo_most mo_minus mo_low mo_function mo_atX mo_atM a_moK a_moH a_moS mo_spanFunction mo_spanRounding mo_spanMany a_moF a_moT mo_parts mo_shift a_moP a_moQ a_moA a_moB a_moD), (a_moR, .inl (cI, 7, .inl u53)), (a_moP, .inl (cI, 256, .inl moP_r)), (a_moQ, .inl (cI, 256, .inl moQ_r)), (a_moA, .inl (cJ, 256, .inr (.inl moA_r))), (a_moB, .inl (cJ, 256, .inr (.inl moB_r))), (a_moD, .inl (cJ, 256, .inr (.inl moD_r)))] := hD
            subst hQ; exact W.iret (v := r53) hx hb hr (fun t ht hW => ⟨⟨r53, (mo_function, mo_atX, mo_atM, mo_parts, mo_shift, u53, moP_r, moQ_r, moA_r, moB_r, moD_r), rfl, ho, by rw [ht]; exact hP, hD⟩, hS.F ht⟩) (fun q hq => hS.2.2 q hq) dX8_table_56
        · replace ho := ho.2 c_35
          refine lv_aload_n hx hb dX8_table_38 rfl (lv_at hl 0 rfl) ?_
          refine lv_bipush (v := (-2)) hx hb dX8_table_39 (by decide) ?_
          refine ca_Wi (b := a_mo) (As := [.int (-2 : Int32)]) (rest := []) (wr := [(a_moP, .inl (cI, 256, .inl moP_r)), (a_moQ, .inl (cI, 256, .inl moQ_r)), (a_moA, .inl (cJ, 256, .inr (.inl moA_r))), (a_moB, .inl (cJ, 256, .inr (.inl moB_r))), (a_moD, .inl (cJ, 256, .inr (.inl moD_r)))]) (wo := fun u => [(a_mo, oX8 a_moR mo_e mo_f mo_codes mo_most mo_minus mo_low mo_function mo_atX mo_atM a_moK a_moH a_moS mo_spanFunction mo_spanRounding mo_spanMany a_moF a_moT mo_parts mo_shift a_moP a_moQ a_moA a_moB a_moD), (a_moR, .inl (cI, 7, .inl u))]) (wn := fun u => [(a_mo, oX8 a_moR mo_e mo_f mo_codes mo_most mo_minus mo_low mo_function mo_atX mo_atM a_moK a_moH a_moS mo_spanFunction mo_spanRounding mo_spanMany a_moF a_moT mo_parts mo_shift a_moP a_moQ a_moA a_moB a_moD), (a_moR, .inl (cI, 7, .inl u)), (a_moP, .inl (cI, 256, .inl moP_r)), (a_moQ, .inl (cI, 256, .inl moQ_r)), (a_moA, .inl (cJ, 256, .inr (.inl moA_r))), (a_moB, .inl (cJ, 256, .inr (.inl moB_r))), (a_moD, .inl (cJ, 256, .inr (.inl moD_r)))]) ⟨hx, hb, hml, hown, hts⟩ (c_X8_refuse l D cI cJ cZ a_mo a_moR a_moK a_moH a_moS a_moF a_moT a_moP a_moQ a_moA a_moB a_moD H.size mo_e mo_f mo_codes mo_most mo_minus mo_low mo_function mo_atX mo_atM mo_spanFunction mo_spanRounding mo_spanMany mo_parts mo_shift moR_r (-2 : Int32) _ _ rfl ho) (cwV 1 hts gX8_table_X8_refuse rfl rfl rfl (by decide +kernel) ⟨hRf _ (Nat.le_of_ble_eq_true rfl), hRl _ (Nat.le_of_ble_eq_true rfl)⟩) hK hN hP hD hS hA [0, 1] [2, 3, 4, 5, 6] [5, 6, 0, 1, 2, 3, 4] rfl rfl (by decide) (by decide) (by decide) (by decide) (fun _ => rfl) 0 7 rfl rfl rfl rfl hl.1 rfl (Nat.le_of_ble_eq_true rfl) dX8_table_41 ⟨Nat.zero_le _, Nat.zero_le _⟩ (fun r41 u41 H locs ho hP hD hS => ?_)
          try dsimp only at ho
          replace hP : va_P D vwCl [(a_mo, oX8 a_moR mo_e mo_f mo_codes mo_most mo_minus mo_low mo_function mo_atX mo_atM a_moK a_moH a_moS mo_spanFunction mo_spanRounding mo_spanMany a_moF a_moT mo_parts mo_shift a_moP a_moQ a_moA a_moB a_moD), (a_moR, .inl (cI, 7, .inl u41)), (a_moP, .inl (cI, 256, .inl moP_r)), (a_moQ, .inl (cI, 256, .inl moQ_r)), (a_moA, .inl (cJ, 256, .inr (.inl moA_r))), (a_moB, .inl (cJ, 256, .inr (.inl moB_r))), (a_moD, .inl (cJ, 256, .inr (.inl moD_r)))] H := hP
          replace hD : va_D A [(a_mo, oX8 a_moR mo_e mo_f mo_codes mo_most mo_minus mo_low mo_function mo_atX mo_atM a_moK a_moH a_moS mo_spanFunction mo_spanRounding mo_spanMany a_moF a_moT mo_parts mo_shift a_moP a_moQ a_moA a_moB a_moD), (a_moR, .inl (cI, 7, .inl u41)), (a_moP, .inl (cI, 256, .inl moP_r)), (a_moQ, .inl (cI, 256, .inl moQ_r)), (a_moA, .inl (cJ, 256, .inr (.inl moA_r))), (a_moB, .inl (cJ, 256, .inr (.inl moB_r))), (a_moD, .inl (cJ, 256, .inr (.inl moD_r)))] := hD
          subst hQ; exact W.iret (v := r41) hx hb hr (fun t ht hW => ⟨⟨r41, (mo_function, mo_atX, mo_atM, mo_parts, mo_shift, u41, moP_r, moQ_r, moA_r, moB_r, moD_r), rfl, ho, by rw [ht]; exact hP, hD⟩, hS.F ht⟩) (fun q hq => hS.2.2 q hq) dX8_table_44
      · replace ho := ho.2 c_20
        exact C_23 mo_function mo_atX mo_atM mo_parts mo_shift moR_r moP_r moQ_r moA_r moB_r moD_r H locs ls ho hP hD hS (lv_sub hl [0] rfl)

def wp_X8_part (post : Int32 → (Nat → Int32) → Prop) (mo_parts : Int32) (moR_r : Nat → Int32) (moP_r : Nat → Int32) (moQ_r : Nat → Int32) (moA_r : Nat → Int64) (moB_r : Nat → Int64) (p1 : Int32) (p2 : Int32) : Prop := ((0 ≤ mo_parts) → (wp_X8_isIn (fun r19 => (((¬ r19 = 0) → (((p2 = (0 : Int32)) → ((vp_in p1 256) ∧ (post (moP_r p1.toNatClampNeg) moR_r))) ∧ ((¬ (p2 = (0 : Int32))) → (((p2 = (1 : Int32)) → ((vp_in p1 256) ∧ (post (moQ_r p1.toNatClampNeg) moR_r))) ∧ ((¬ (p2 = (1 : Int32))) → (((p2 = (2 : Int32)) → ((vp_in p1 256) ∧ (post ((moA_r p1.toNatClampNeg).toInt32) moR_r))) ∧ ((¬ (p2 = (2 : Int32))) → (((p2 = (3 : Int32)) → ((vp_in p1 256) ∧ (post ((moB_r p1.toNatClampNeg).toInt32) moR_r))) ∧ ((¬ (p2 = (3 : Int32))) → (wp_X8_refuseFar (fun r97 u97 => (post r97 u97)) moR_r (-2 : Int32))))))))))) ∧ ((¬ (¬ r19 = 0)) → (wp_X8_refuseFar (fun r27 u27 => (post r27 u27)) moR_r (-1 : Int32))))) p1 mo_parts)) ∧ ((¬ (0 ≤ mo_parts)) → (wp_X8_refuseFar (fun r10 u10 => (post r10 u10)) moR_r (-3 : Int32)))
set_option maxRecDepth 20000 in
theorem in_X8_part_X8 : ∀ w ∈ u_ws RX8 TX8 25, w ∈ wsX8_part := fun w h => (goodIn_r wsX80 [20, 21, 22, 23, 24, 25, 26, 27, 28, 29, 30, 31, 32, 33, 34, 35, 36, 37, 38, 39, 40, 41, 42, 43, 44] (by decide +kernel) (by decide +kernel) w h).1
set_option maxHeartbeats 4000000 in
set_option maxRecDepth 100000 in
theorem c_X8_part (l : Launch) (D : va_G) (cI cJ cZ : ClassId) (a_mo : Nat) (a_moR : Nat) (a_moK : Nat) (a_moH : Nat) (a_moS : Nat) (a_moF : Nat) (a_moT : Nat) (a_moP : Nat) (a_moQ : Nat) (a_moA : Nat) (a_moB : Nat) (a_moD : Nat) (sz : Nat) (mo_e : Int32) (mo_f : Int32) (mo_codes : Int32) (mo_most : Int32) (mo_minus : Int32) (mo_low : Int32) (mo_function : Int32) (mo_atX : Int32) (mo_atM : Int64) (mo_spanFunction : Int32) (mo_spanRounding : Int32) (mo_spanMany : Int32) (mo_parts : Int32) (mo_shift : Int32) (moR_r : Nat → Int32) (moP_r : Nat → Int32) (moQ_r : Nat → Int32) (moA_r : Nat → Int64) (moB_r : Nat → Int64) (p1 : Int32) (p2 : Int32) (post : Int32 → (Nat → Int32) → Prop) (A : Nat → Prop) (hAe : A = va_A [(a_mo, oX8 a_moR mo_e mo_f mo_codes mo_most mo_minus mo_low mo_function mo_atX mo_atM a_moK a_moH a_moS mo_spanFunction mo_spanRounding mo_spanMany a_moF a_moT mo_parts mo_shift a_moP a_moQ a_moA a_moB a_moD), (a_moR, .inl (cI, 7, .inl moR_r)), (a_moP, .inl (cI, 256, .inl moP_r)), (a_moQ, .inl (cI, 256, .inl moQ_r)), (a_moA, .inl (cJ, 256, .inr (.inl moA_r))), (a_moB, .inl (cJ, 256, .inr (.inl moB_r)))] sz) (ho : wp_X8_part post mo_parts moR_r moP_r moQ_r moA_r moB_r p1 p2) : Met l yX8_part wsX8_part ({ frames := 2, cells := 0, slots := 0, locals := 42 } : Room) (rw_P D [(cI, .int), (cJ, .long), (cZ, .boolean)] [.ref a_mo, .int p1, .int p2] sz [(a_mo, oX8 a_moR mo_e mo_f mo_codes mo_most mo_minus mo_low mo_function mo_atX mo_atM a_moK a_moH a_moS mo_spanFunction mo_spanRounding mo_spanMany a_moF a_moT mo_parts mo_shift a_moP a_moQ a_moA a_moB a_moD), (a_moR, .inl (cI, 7, .inl moR_r)), (a_moP, .inl (cI, 256, .inl moP_r)), (a_moQ, .inl (cI, 256, .inl moQ_r)), (a_moA, .inl (cJ, 256, .inr (.inl moA_r))), (a_moB, .inl (cJ, 256, .inr (.inl moB_r)))]) (va_Qi (fun (r : Int32) (u : (Nat → Int32)) => post r u) (rw_B D A (fun (u : (Nat → Int32)) => [(a_mo, oX8 a_moR mo_e mo_f mo_codes mo_most mo_minus mo_low mo_function mo_atX mo_atM a_moK a_moH a_moS mo_spanFunction mo_spanRounding mo_spanMany a_moF a_moT mo_parts mo_shift a_moP a_moQ a_moA a_moB a_moD), (a_moR, .inl (cI, 7, .inl u)), (a_moP, .inl (cI, 256, .inl moP_r)), (a_moQ, .inl (cI, 256, .inl moQ_r)), (a_moA, .inl (cJ, 256, .inr (.inl moA_r))), (a_moB, .inl (cJ, 256, .inr (.inl moB_r)))])) A) 0 0 A := by
  refine Met.ofW (cc := cX8_part) (maxL := 3) (ret := (some .int)) (by decide) rfl ?_
  intro p e s m args below meth c s₁ B hml hv
  obtain ⟨hargs, hsz, hP, hK, hN, hD0⟩ := hv
  have hx := B.exec
  have hb := B.bytes
  have hr := B.returns
  have hts := atoms_spec (ws := wsX8_part) B.pre
  have hown : s.vm.findClass RX8 = some m.cls := findClass_of_methodNamed B.named
  have hlocks := B.notSynchronized
  subst hsz
  have hD : va_D A [(a_mo, oX8 a_moR mo_e mo_f mo_codes mo_most mo_minus mo_low mo_function mo_atX mo_atM a_moK a_moH a_moS mo_spanFunction mo_spanRounding mo_spanMany a_moF a_moT mo_parts mo_shift a_moP a_moQ a_moA a_moB a_moD), (a_moR, .inl (cI, 7, .inl moR_r)), (a_moP, .inl (cI, 256, .inl moP_r)), (a_moQ, .inl (cI, 256, .inl moQ_r)), (a_moA, .inl (cJ, 256, .inr (.inl moA_r))), (a_moB, .inl (cJ, 256, .inr (.inl moB_r)))] := by rw [hAe]; exact hD0.self
  have hA : ∀ q : Nat, s.heap.size ≤ q → A q := fun q h => by rw [hAe]; exact Or.inr h
  have hS : va_S A s.heap s.heap [] := va_S.rf
  have hl := lv_entry ([.ref a_mo, .int p1, .int p2]) (n := 3) (Nat.le_of_ble_eq_true rfl)
  rw [hargs, lg_entry_eq, ← hargs]
  generalize (lg_sl ([.ref a_mo, .int p1, .int p2]) ++ List.replicate (3 - (lg_sl ([.ref a_mo, .int p1, .int p2])).length) Slot.unset).toArray = ls at hl ⊢
  replace hl : lv_has ls 3 [(0, .ref a_mo), (1, .int p1), (2, .int p2)] := hl
  have hRf : ∀ n, n ≤ 2 → n ≤ (headSpec wsX8_part ({ frames := 2, cells := 0, slots := 0, locals := 42 } : Room)).room.frames := fun n h => h
  have hRl : ∀ n, n ≤ 42 → n ≤ (headSpec wsX8_part ({ frames := 2, cells := 0, slots := 0, locals := 42 } : Room)).room.locals := fun n h => h
  generalize (headSpec wsX8_part ({ frames := 2, cells := 0, slots := 0, locals := 42 } : Room)).room = R at hRf hRl ⊢
  generalize hQ : MQ below _ args s 0 0 _ = Q
  unfold wp_X8_part at ho
  refine lv_aload_n hx hb dX8_part_0 rfl (lv_at hl 0 rfl) ?_
  refine va_get (D := D) (ci := 7) (v := .int mo_parts) (C := RX8) (T := TX8) (N := 25) hx hb hts in_X8_part_X8 hown hK hP 0 rfl rfl 18 (by decide) (hts (.fieldLink RX8 74 "HardBenchModel" "parts" "I") (List.mem_of_getElem? (i := 1) (by decide +kernel))) (fun _ h9 => h9) rfl dX8_part_1 ?_
  refine lv_if_ge (tgt := 14) hx hb dX8_part_4 (by decide) (fun c_4 => ?_) (fun c_4 => ?_)
  · replace ho := ho.1 c_4
    refine lv_iload_n hx hb dX8_part_14 rfl (lv_at hl 1 rfl) ?_
    refine lv_aload_n hx hb dX8_part_15 rfl (lv_at hl 0 rfl) ?_
    refine va_get (D := D) (ci := 7) (v := .int mo_parts) (C := RX8) (T := TX8) (N := 25) hx hb hts in_X8_part_X8 hown hK hP 0 rfl rfl 18 (by decide) (hts (.fieldLink RX8 74 "HardBenchModel" "parts" "I") (List.mem_of_getElem? (i := 1) (by decide +kernel))) (fun _ h9 => h9) rfl dX8_part_16 ?_
    refine ca_Si (As := [.int p1, .int mo_parts]) (rest := []) ⟨hx, hb, hml, hown, hts⟩ (c_X8_isIn l D cI cJ cZ   p1 mo_parts _ ho) (va_cwS 2 hts gX8_part_X8_isIn rfl rfl rfl (by decide +kernel) ⟨hRf _ (Nat.le_of_ble_eq_true rfl), hRl _ (Nat.le_of_ble_eq_true rfl)⟩) hK hN hP [] rfl rfl hl.1 rfl (Nat.le_of_ble_eq_true rfl) dX8_part_19 ⟨Nat.zero_le _, Nat.zero_le _⟩ (fun r19 ho => ?_)
    refine lv_if_ne (tgt := 31) hx hb dX8_part_22 (by decide) (fun c_22 => ?_) (fun c_22 => ?_)
    · replace ho := ho.1 c_22
      refine lv_iload_n hx hb dX8_part_31 rfl (lv_at hl 2 rfl) ?_
      refine lv_topi (fun z_32 ez_32 => ?_)
      rw [← ez_32] at ho
      by_cases n_32_0 : z_32 = 0
      · replace ho := ho.1 n_32_0
        subst n_32_0
        refine lv_tableIn (tgt := 64) hx hb dX8_part_32 (by decide) (by decide) rfl (by decide) ?_
        refine lv_aload_n hx hb dX8_part_64 rfl (lv_at hl 0 rfl) ?_
        refine va_get (D := D) (ci := 7) (v := .ref a_moP) (C := RX8) (T := TX8) (N := 25) hx hb hts in_X8_part_X8 hown hK hP 0 rfl rfl 20 (by decide) (hts (.fieldLink RX8 30 "HardBenchModel" "partFrom" "[I") (List.mem_of_getElem? (i := 2) (by decide +kernel))) (fun _ h9 => h9) rfl dX8_part_65 ?_
        refine lv_iload_n hx hb dX8_part_68 rfl (lv_at hl 1 rfl) ?_
        have o_69 := ho.1
        replace ho := ho.2
        refine va_iald hx hb hK hP 2 0 rfl rfl o_69 dX8_part_69 ?_
        subst hQ; exact W.iret (v := (moP_r p1.toNatClampNeg)) hx hb hr (fun t ht hW => ⟨⟨(moP_r p1.toNatClampNeg), moR_r, rfl, ho, by rw [ht]; exact hP, hD⟩, hS.F ht⟩) (fun q hq => hS.2.2 q hq) dX8_part_70
      replace ho := ho.2 n_32_0
      by_cases n_32_1 : z_32 = 1
      · replace ho := ho.1 n_32_1
        subst n_32_1
        refine lv_tableIn (tgt := 71) hx hb dX8_part_32 (by decide) (by decide) rfl (by decide) ?_
        refine lv_aload_n hx hb dX8_part_71 rfl (lv_at hl 0 rfl) ?_
        refine va_get (D := D) (ci := 7) (v := .ref a_moQ) (C := RX8) (T := TX8) (N := 25) hx hb hts in_X8_part_X8 hown hK hP 0 rfl rfl 21 (by decide) (hts (.fieldLink RX8 33 "HardBenchModel" "partTo" "[I") (List.mem_of_getElem? (i := 3) (by decide +kernel))) (fun _ h9 => h9) rfl dX8_part_72 ?_
        refine lv_iload_n hx hb dX8_part_75 rfl (lv_at hl 1 rfl) ?_
        have o_76 := ho.1
        replace ho := ho.2
        refine va_iald hx hb hK hP 3 0 rfl rfl o_76 dX8_part_76 ?_
        subst hQ; exact W.iret (v := (moQ_r p1.toNatClampNeg)) hx hb hr (fun t ht hW => ⟨⟨(moQ_r p1.toNatClampNeg), moR_r, rfl, ho, by rw [ht]; exact hP, hD⟩, hS.F ht⟩) (fun q hq => hS.2.2 q hq) dX8_part_77
      replace ho := ho.2 n_32_1
      by_cases n_32_2 : z_32 = 2
      · replace ho := ho.1 n_32_2
        subst n_32_2
        refine lv_tableIn (tgt := 78) hx hb dX8_part_32 (by decide) (by decide) rfl (by decide) ?_
        refine lv_aload_n hx hb dX8_part_78 rfl (lv_at hl 0 rfl) ?_
        refine va_get (D := D) (ci := 7) (v := .ref a_moA) (C := RX8) (T := TX8) (N := 25) hx hb hts in_X8_part_X8 hown hK hP 0 rfl rfl 22 (by decide) (hts (.fieldLink RX8 36 "HardBenchModel" "partA" "[J") (List.mem_of_getElem? (i := 4) (by decide +kernel))) (fun _ h9 => h9) rfl dX8_part_79 ?_
        refine lv_iload_n hx hb dX8_part_82 rfl (lv_at hl 1 rfl) ?_
        have o_83 := ho.1
        replace ho := ho.2
        refine va_lald hx hb hK hP 4 1 rfl rfl o_83 dX8_part_83 ?_
        refine lv_l2i hx hb dX8_part_84 rfl ?_
        subst hQ; exact W.iret (v := (moA_r p1.toNatClampNeg).toInt32) hx hb hr (fun t ht hW => ⟨⟨(moA_r p1.toNatClampNeg).toInt32, moR_r, rfl, ho, by rw [ht]; exact hP, hD⟩, hS.F ht⟩) (fun q hq => hS.2.2 q hq) dX8_part_85
      replace ho := ho.2 n_32_2
      by_cases n_32_3 : z_32 = 3
      · replace ho := ho.1 n_32_3
        subst n_32_3
        refine lv_tableIn (tgt := 86) hx hb dX8_part_32 (by decide) (by decide) rfl (by decide) ?_
        refine lv_aload_n hx hb dX8_part_86 rfl (lv_at hl 0 rfl) ?_
        refine va_get (D := D) (ci := 7) (v := .ref a_moB) (C := RX8) (T := TX8) (N := 25) hx hb hts in_X8_part_X8 hown hK hP 0 rfl rfl 23 (by decide) (hts (.fieldLink RX8 40 "HardBenchModel" "partB" "[J") (List.mem_of_getElem? (i := 5) (by decide +kernel))) (fun _ h9 => h9) rfl dX8_part_87 ?_
        refine lv_iload_n hx hb dX8_part_90 rfl (lv_at hl 1 rfl) ?_
        have o_91 := ho.1
        replace ho := ho.2
        refine va_lald hx hb hK hP 5 1 rfl rfl o_91 dX8_part_91 ?_
        refine lv_l2i hx hb dX8_part_92 rfl ?_
        subst hQ; exact W.iret (v := (moB_r p1.toNatClampNeg).toInt32) hx hb hr (fun t ht hW => ⟨⟨(moB_r p1.toNatClampNeg).toInt32, moR_r, rfl, ho, by rw [ht]; exact hP, hD⟩, hS.F ht⟩) (fun q hq => hS.2.2 q hq) dX8_part_93
      replace ho := ho.2 n_32_3
      refine lv_tableOut (tgt := 94) hx hb dX8_part_32 (by have q_32_0 := lv_neT (a := 0) n_32_0 rfl; have q_32_1 := lv_neT (a := 1) n_32_1 rfl; have q_32_2 := lv_neT (a := 2) n_32_2 rfl; have q_32_3 := lv_neT (a := 3) n_32_3 rfl; omega) (by decide) ?_
      refine lv_aload_n hx hb dX8_part_94 rfl (lv_at hl 0 rfl) ?_
      refine lv_bipush (v := (-2)) hx hb dX8_part_95 (by decide) ?_
      refine ca_Wi (b := a_mo) (As := [.int (-2 : Int32)]) (rest := []) (wr := [(a_moP, .inl (cI, 256, .inl moP_r)), (a_moQ, .inl (cI, 256, .inl moQ_r)), (a_moA, .inl (cJ, 256, .inr (.inl moA_r))), (a_moB, .inl (cJ, 256, .inr (.inl moB_r)))]) (wo := fun u => [(a_mo, oX8 a_moR mo_e mo_f mo_codes mo_most mo_minus mo_low mo_function mo_atX mo_atM a_moK a_moH a_moS mo_spanFunction mo_spanRounding mo_spanMany a_moF a_moT mo_parts mo_shift a_moP a_moQ a_moA a_moB a_moD), (a_moR, .inl (cI, 7, .inl u))]) (wn := fun u => [(a_mo, oX8 a_moR mo_e mo_f mo_codes mo_most mo_minus mo_low mo_function mo_atX mo_atM a_moK a_moH a_moS mo_spanFunction mo_spanRounding mo_spanMany a_moF a_moT mo_parts mo_shift a_moP a_moQ a_moA a_moB a_moD), (a_moR, .inl (cI, 7, .inl u)), (a_moP, .inl (cI, 256, .inl moP_r)), (a_moQ, .inl (cI, 256, .inl moQ_r)), (a_moA, .inl (cJ, 256, .inr (.inl moA_r))), (a_moB, .inl (cJ, 256, .inr (.inl moB_r)))]) ⟨hx, hb, hml, hown, hts⟩ (c_X8_refuseFar l D cI cJ cZ a_mo a_moR a_moK a_moH a_moS a_moF a_moT a_moP a_moQ a_moA a_moB a_moD H.size mo_e mo_f mo_codes mo_most mo_minus mo_low mo_function mo_atX mo_atM mo_spanFunction mo_spanRounding mo_spanMany mo_parts mo_shift moR_r (-2 : Int32) _ _ rfl ho) (cwV 1 hts gX8_part_X8_refuseFar rfl rfl rfl (by decide +kernel) ⟨hRf _ (Nat.le_of_ble_eq_true rfl), hRl _ (Nat.le_of_ble_eq_true rfl)⟩) hK hN hP hD hS hA [0, 1] [2, 3, 4, 5] [4, 5, 0, 1, 2, 3] rfl rfl (by decide) (by decide) (by decide) (by decide) (fun _ => rfl) 0 7 rfl rfl rfl rfl hl.1 rfl (Nat.le_of_ble_eq_true rfl) dX8_part_97 ⟨Nat.zero_le _, Nat.zero_le _⟩ (fun r97 u97 H locs ho hP hD hS => ?_)
      try dsimp only at ho
      replace hP : va_P D vwCl [(a_mo, oX8 a_moR mo_e mo_f mo_codes mo_most mo_minus mo_low mo_function mo_atX mo_atM a_moK a_moH a_moS mo_spanFunction mo_spanRounding mo_spanMany a_moF a_moT mo_parts mo_shift a_moP a_moQ a_moA a_moB a_moD), (a_moR, .inl (cI, 7, .inl u97)), (a_moP, .inl (cI, 256, .inl moP_r)), (a_moQ, .inl (cI, 256, .inl moQ_r)), (a_moA, .inl (cJ, 256, .inr (.inl moA_r))), (a_moB, .inl (cJ, 256, .inr (.inl moB_r)))] H := hP
      replace hD : va_D A [(a_mo, oX8 a_moR mo_e mo_f mo_codes mo_most mo_minus mo_low mo_function mo_atX mo_atM a_moK a_moH a_moS mo_spanFunction mo_spanRounding mo_spanMany a_moF a_moT mo_parts mo_shift a_moP a_moQ a_moA a_moB a_moD), (a_moR, .inl (cI, 7, .inl u97)), (a_moP, .inl (cI, 256, .inl moP_r)), (a_moQ, .inl (cI, 256, .inl moQ_r)), (a_moA, .inl (cJ, 256, .inr (.inl moA_r))), (a_moB, .inl (cJ, 256, .inr (.inl moB_r)))] := hD
      subst hQ; exact W.iret (v := r97) hx hb hr (fun t ht hW => ⟨⟨r97, u97, rfl, ho, by rw [ht]; exact hP, hD⟩, hS.F ht⟩) (fun q hq => hS.2.2 q hq) dX8_part_100
    · replace ho := ho.2 c_22
      refine lv_aload_n hx hb dX8_part_25 rfl (lv_at hl 0 rfl) ?_
      refine lv_iconst (v := (-1)) hx hb dX8_part_26 (by decide) ?_
      refine ca_Wi (b := a_mo) (As := [.int (-1 : Int32)]) (rest := []) (wr := [(a_moP, .inl (cI, 256, .inl moP_r)), (a_moQ, .inl (cI, 256, .inl moQ_r)), (a_moA, .inl (cJ, 256, .inr (.inl moA_r))), (a_moB, .inl (cJ, 256, .inr (.inl moB_r)))]) (wo := fun u => [(a_mo, oX8 a_moR mo_e mo_f mo_codes mo_most mo_minus mo_low mo_function mo_atX mo_atM a_moK a_moH a_moS mo_spanFunction mo_spanRounding mo_spanMany a_moF a_moT mo_parts mo_shift a_moP a_moQ a_moA a_moB a_moD), (a_moR, .inl (cI, 7, .inl u))]) (wn := fun u => [(a_mo, oX8 a_moR mo_e mo_f mo_codes mo_most mo_minus mo_low mo_function mo_atX mo_atM a_moK a_moH a_moS mo_spanFunction mo_spanRounding mo_spanMany a_moF a_moT mo_parts mo_shift a_moP a_moQ a_moA a_moB a_moD), (a_moR, .inl (cI, 7, .inl u)), (a_moP, .inl (cI, 256, .inl moP_r)), (a_moQ, .inl (cI, 256, .inl moQ_r)), (a_moA, .inl (cJ, 256, .inr (.inl moA_r))), (a_moB, .inl (cJ, 256, .inr (.inl moB_r)))]) ⟨hx, hb, hml, hown, hts⟩ (c_X8_refuseFar l D cI cJ cZ a_mo a_moR a_moK a_moH a_moS a_moF a_moT a_moP a_moQ a_moA a_moB a_moD H.size mo_e mo_f mo_codes mo_most mo_minus mo_low mo_function mo_atX mo_atM mo_spanFunction mo_spanRounding mo_spanMany mo_parts mo_shift moR_r (-1 : Int32) _ _ rfl ho) (cwV 1 hts gX8_part_X8_refuseFar rfl rfl rfl (by decide +kernel) ⟨hRf _ (Nat.le_of_ble_eq_true rfl), hRl _ (Nat.le_of_ble_eq_true rfl)⟩) hK hN hP hD hS hA [0, 1] [2, 3, 4, 5] [4, 5, 0, 1, 2, 3] rfl rfl (by decide) (by decide) (by decide) (by decide) (fun _ => rfl) 0 7 rfl rfl rfl rfl hl.1 rfl (Nat.le_of_ble_eq_true rfl) dX8_part_27 ⟨Nat.zero_le _, Nat.zero_le _⟩ (fun r27 u27 H locs ho hP hD hS => ?_)
      try dsimp only at ho
      replace hP : va_P D vwCl [(a_mo, oX8 a_moR mo_e mo_f mo_codes mo_most mo_minus mo_low mo_function mo_atX mo_atM a_moK a_moH a_moS mo_spanFunction mo_spanRounding mo_spanMany a_moF a_moT mo_parts mo_shift a_moP a_moQ a_moA a_moB a_moD), (a_moR, .inl (cI, 7, .inl u27)), (a_moP, .inl (cI, 256, .inl moP_r)), (a_moQ, .inl (cI, 256, .inl moQ_r)), (a_moA, .inl (cJ, 256, .inr (.inl moA_r))), (a_moB, .inl (cJ, 256, .inr (.inl moB_r)))] H := hP
      replace hD : va_D A [(a_mo, oX8 a_moR mo_e mo_f mo_codes mo_most mo_minus mo_low mo_function mo_atX mo_atM a_moK a_moH a_moS mo_spanFunction mo_spanRounding mo_spanMany a_moF a_moT mo_parts mo_shift a_moP a_moQ a_moA a_moB a_moD), (a_moR, .inl (cI, 7, .inl u27)), (a_moP, .inl (cI, 256, .inl moP_r)), (a_moQ, .inl (cI, 256, .inl moQ_r)), (a_moA, .inl (cJ, 256, .inr (.inl moA_r))), (a_moB, .inl (cJ, 256, .inr (.inl moB_r)))] := hD
      subst hQ; exact W.iret (v := r27) hx hb hr (fun t ht hW => ⟨⟨r27, u27, rfl, ho, by rw [ht]; exact hP, hD⟩, hS.F ht⟩) (fun q hq => hS.2.2 q hq) dX8_part_30
  · replace ho := ho.2 c_4
    refine lv_aload_n hx hb dX8_part_7 rfl (lv_at hl 0 rfl) ?_
    refine lv_bipush (v := (-3)) hx hb dX8_part_8 (by decide) ?_
    refine ca_Wi (b := a_mo) (As := [.int (-3 : Int32)]) (rest := []) (wr := [(a_moP, .inl (cI, 256, .inl moP_r)), (a_moQ, .inl (cI, 256, .inl moQ_r)), (a_moA, .inl (cJ, 256, .inr (.inl moA_r))), (a_moB, .inl (cJ, 256, .inr (.inl moB_r)))]) (wo := fun u => [(a_mo, oX8 a_moR mo_e mo_f mo_codes mo_most mo_minus mo_low mo_function mo_atX mo_atM a_moK a_moH a_moS mo_spanFunction mo_spanRounding mo_spanMany a_moF a_moT mo_parts mo_shift a_moP a_moQ a_moA a_moB a_moD), (a_moR, .inl (cI, 7, .inl u))]) (wn := fun u => [(a_mo, oX8 a_moR mo_e mo_f mo_codes mo_most mo_minus mo_low mo_function mo_atX mo_atM a_moK a_moH a_moS mo_spanFunction mo_spanRounding mo_spanMany a_moF a_moT mo_parts mo_shift a_moP a_moQ a_moA a_moB a_moD), (a_moR, .inl (cI, 7, .inl u)), (a_moP, .inl (cI, 256, .inl moP_r)), (a_moQ, .inl (cI, 256, .inl moQ_r)), (a_moA, .inl (cJ, 256, .inr (.inl moA_r))), (a_moB, .inl (cJ, 256, .inr (.inl moB_r)))]) ⟨hx, hb, hml, hown, hts⟩ (c_X8_refuseFar l D cI cJ cZ a_mo a_moR a_moK a_moH a_moS a_moF a_moT a_moP a_moQ a_moA a_moB a_moD H.size mo_e mo_f mo_codes mo_most mo_minus mo_low mo_function mo_atX mo_atM mo_spanFunction mo_spanRounding mo_spanMany mo_parts mo_shift moR_r (-3 : Int32) _ _ rfl ho) (cwV 1 hts gX8_part_X8_refuseFar rfl rfl rfl (by decide +kernel) ⟨hRf _ (Nat.le_of_ble_eq_true rfl), hRl _ (Nat.le_of_ble_eq_true rfl)⟩) hK hN hP hD hS hA [0, 1] [2, 3, 4, 5] [4, 5, 0, 1, 2, 3] rfl rfl (by decide) (by decide) (by decide) (by decide) (fun _ => rfl) 0 7 rfl rfl rfl rfl hl.1 rfl (Nat.le_of_ble_eq_true rfl) dX8_part_10 ⟨Nat.zero_le _, Nat.zero_le _⟩ (fun r10 u10 H locs ho hP hD hS => ?_)
    try dsimp only at ho
    replace hP : va_P D vwCl [(a_mo, oX8 a_moR mo_e mo_f mo_codes mo_most mo_minus mo_low mo_function mo_atX mo_atM a_moK a_moH a_moS mo_spanFunction mo_spanRounding mo_spanMany a_moF a_moT mo_parts mo_shift a_moP a_moQ a_moA a_moB a_moD), (a_moR, .inl (cI, 7, .inl u10)), (a_moP, .inl (cI, 256, .inl moP_r)), (a_moQ, .inl (cI, 256, .inl moQ_r)), (a_moA, .inl (cJ, 256, .inr (.inl moA_r))), (a_moB, .inl (cJ, 256, .inr (.inl moB_r)))] H := hP
    replace hD : va_D A [(a_mo, oX8 a_moR mo_e mo_f mo_codes mo_most mo_minus mo_low mo_function mo_atX mo_atM a_moK a_moH a_moS mo_spanFunction mo_spanRounding mo_spanMany a_moF a_moT mo_parts mo_shift a_moP a_moQ a_moA a_moB a_moD), (a_moR, .inl (cI, 7, .inl u10)), (a_moP, .inl (cI, 256, .inl moP_r)), (a_moQ, .inl (cI, 256, .inl moQ_r)), (a_moA, .inl (cJ, 256, .inr (.inl moA_r))), (a_moB, .inl (cJ, 256, .inr (.inl moB_r)))] := hD
    subst hQ; exact W.iret (v := r10) hx hb hr (fun t ht hW => ⟨⟨r10, u10, rfl, ho, by rw [ht]; exact hP, hD⟩, hS.F ht⟩) (fun q hq => hS.2.2 q hq) dX8_part_13

def wp_X8_look_35_b (post : Int32 → (Nat → Int32) → Prop)  (mo_shift : Int32) (moQ_r : Nat → Int32) (moA_r : Nat → Int64) (moB_r : Nat → Int64) (p1 : Int32) (K_35 : (Nat → Int32) → Int32 → Prop) (moR_r : Nat → Int32) (x2 : Int32) : Prop := (vp_in x2 256) ∧ (((p1 ≤ (moQ_r x2.toNatClampNeg)) → ((vp_in x2 256) ∧ ((vp_in x2 256) ∧ (post ((((moA_r x2.toNatClampNeg) + ((moB_r x2.toNatClampNeg) * p1.toInt64)) >>> (mo_shift.toInt64 &&& 63)).toInt32) moR_r)))) ∧ ((¬ (p1 ≤ (moQ_r x2.toNatClampNeg))) → (K_35 moR_r (x2 + (1 : Int32)))))
noncomputable def wp_X8_look_35 (post : Int32 → (Nat → Int32) → Prop)  (mo_shift : Int32) (moQ_r : Nat → Int32) (moA_r : Nat → Int64) (moB_r : Nat → Int64) (p1 : Int32) (n : Nat) : (Nat → Int32) → Int32 → Prop := Nat.rec (motive := fun _ => (Nat → Int32) → Int32 → Prop) (fun _ _ => False) (fun _ K_35 => wp_X8_look_35_b post mo_shift moQ_r moA_r moB_r p1 K_35) n
def wp_X8_look (post : Int32 → (Nat → Int32) → Prop) (mo_f : Int32) (mo_parts : Int32) (mo_shift : Int32) (moR_r : Nat → Int32) (moQ_r : Nat → Int32) (moA_r : Nat → Int64) (moB_r : Nat → Int64) (p1 : Int32) : Prop := ((0 ≤ mo_parts) → (wp_X8_isIn (fun r21 => (((¬ r21 = 0) → (∃ n, wp_X8_look_35 post mo_shift moQ_r moA_r moB_r p1 n moR_r (0 : Int32))) ∧ ((¬ (¬ r21 = 0)) → (wp_X8_refuse (fun r29 u29 => (post r29 u29)) moR_r (-1 : Int32))))) p1 ((1 : Int32) <<< (mo_f &&& 31)))) ∧ ((¬ (0 ≤ mo_parts)) → (wp_X8_refuse (fun r10 u10 => (post r10 u10)) moR_r (-3 : Int32)))
set_option maxRecDepth 20000 in
theorem in_X8_look_X8 : ∀ w ∈ u_ws RX8 TX8 25, w ∈ wsX8_look := fun w h => (goodIn_r wsX80 [16, 17, 18, 19, 20, 21, 22, 23, 24, 25, 26, 27, 28, 29, 30, 31, 32, 33, 34, 35, 36, 37, 38, 39, 40] (by decide +kernel) (by decide +kernel) w h).1
set_option maxHeartbeats 4000000 in
set_option maxRecDepth 100000 in
theorem c_X8_look (l : Launch) (D : va_G) (cI cJ cZ : ClassId) (a_mo : Nat) (a_moR : Nat) (a_moK : Nat) (a_moH : Nat) (a_moS : Nat) (a_moF : Nat) (a_moT : Nat) (a_moP : Nat) (a_moQ : Nat) (a_moA : Nat) (a_moB : Nat) (a_moD : Nat) (sz : Nat) (mo_e : Int32) (mo_f : Int32) (mo_codes : Int32) (mo_most : Int32) (mo_minus : Int32) (mo_low : Int32) (mo_function : Int32) (mo_atX : Int32) (mo_atM : Int64) (mo_spanFunction : Int32) (mo_spanRounding : Int32) (mo_spanMany : Int32) (mo_parts : Int32) (mo_shift : Int32) (moR_r : Nat → Int32) (moQ_r : Nat → Int32) (moA_r : Nat → Int64) (moB_r : Nat → Int64) (p1 : Int32) (post : Int32 → (Nat → Int32) → Prop) (A : Nat → Prop) (hAe : A = va_A [(a_mo, oX8 a_moR mo_e mo_f mo_codes mo_most mo_minus mo_low mo_function mo_atX mo_atM a_moK a_moH a_moS mo_spanFunction mo_spanRounding mo_spanMany a_moF a_moT mo_parts mo_shift a_moP a_moQ a_moA a_moB a_moD), (a_moR, .inl (cI, 7, .inl moR_r)), (a_moQ, .inl (cI, 256, .inl moQ_r)), (a_moA, .inl (cJ, 256, .inr (.inl moA_r))), (a_moB, .inl (cJ, 256, .inr (.inl moB_r)))] sz) (ho : wp_X8_look post mo_f mo_parts mo_shift moR_r moQ_r moA_r moB_r p1) : Met l yX8_look wsX8_look ({ frames := 1, cells := 0, slots := 0, locals := 21 } : Room) (rw_P D [(cI, .int), (cJ, .long), (cZ, .boolean)] [.ref a_mo, .int p1] sz [(a_mo, oX8 a_moR mo_e mo_f mo_codes mo_most mo_minus mo_low mo_function mo_atX mo_atM a_moK a_moH a_moS mo_spanFunction mo_spanRounding mo_spanMany a_moF a_moT mo_parts mo_shift a_moP a_moQ a_moA a_moB a_moD), (a_moR, .inl (cI, 7, .inl moR_r)), (a_moQ, .inl (cI, 256, .inl moQ_r)), (a_moA, .inl (cJ, 256, .inr (.inl moA_r))), (a_moB, .inl (cJ, 256, .inr (.inl moB_r)))]) (va_Qi (fun (r : Int32) (u : (Nat → Int32)) => post r u) (rw_B D A (fun (u : (Nat → Int32)) => [(a_mo, oX8 a_moR mo_e mo_f mo_codes mo_most mo_minus mo_low mo_function mo_atX mo_atM a_moK a_moH a_moS mo_spanFunction mo_spanRounding mo_spanMany a_moF a_moT mo_parts mo_shift a_moP a_moQ a_moA a_moB a_moD), (a_moR, .inl (cI, 7, .inl u)), (a_moQ, .inl (cI, 256, .inl moQ_r)), (a_moA, .inl (cJ, 256, .inr (.inl moA_r))), (a_moB, .inl (cJ, 256, .inr (.inl moB_r)))])) A) 0 0 A := by
  refine Met.ofW (cc := cX8_look) (maxL := 3) (ret := (some .int)) (by decide) rfl ?_
  intro p e s m args below meth c s₁ B hml hv
  obtain ⟨hargs, hsz, hP, hK, hN, hD0⟩ := hv
  have hx := B.exec
  have hb := B.bytes
  have hr := B.returns
  have hts := atoms_spec (ws := wsX8_look) B.pre
  have hown : s.vm.findClass RX8 = some m.cls := findClass_of_methodNamed B.named
  have hlocks := B.notSynchronized
  subst hsz
  have hD : va_D A [(a_mo, oX8 a_moR mo_e mo_f mo_codes mo_most mo_minus mo_low mo_function mo_atX mo_atM a_moK a_moH a_moS mo_spanFunction mo_spanRounding mo_spanMany a_moF a_moT mo_parts mo_shift a_moP a_moQ a_moA a_moB a_moD), (a_moR, .inl (cI, 7, .inl moR_r)), (a_moQ, .inl (cI, 256, .inl moQ_r)), (a_moA, .inl (cJ, 256, .inr (.inl moA_r))), (a_moB, .inl (cJ, 256, .inr (.inl moB_r)))] := by rw [hAe]; exact hD0.self
  have hA : ∀ q : Nat, s.heap.size ≤ q → A q := fun q h => by rw [hAe]; exact Or.inr h
  have hS : va_S A s.heap s.heap [] := va_S.rf
  have hl := lv_entry ([.ref a_mo, .int p1]) (n := 3) (Nat.le_of_ble_eq_true rfl)
  rw [hargs, lg_entry_eq, ← hargs]
  generalize (lg_sl ([.ref a_mo, .int p1]) ++ List.replicate (3 - (lg_sl ([.ref a_mo, .int p1])).length) Slot.unset).toArray = ls at hl ⊢
  replace hl : lv_has ls 3 [(0, .ref a_mo), (1, .int p1)] := hl
  have hRf : ∀ n, n ≤ 1 → n ≤ (headSpec wsX8_look ({ frames := 1, cells := 0, slots := 0, locals := 21 } : Room)).room.frames := fun n h => h
  have hRl : ∀ n, n ≤ 21 → n ≤ (headSpec wsX8_look ({ frames := 1, cells := 0, slots := 0, locals := 21 } : Room)).room.locals := fun n h => h
  generalize (headSpec wsX8_look ({ frames := 1, cells := 0, slots := 0, locals := 21 } : Room)).room = R at hRf hRl ⊢
  generalize hQ : MQ below _ args s 0 0 _ = Q
  have C_35 : ∀ n : Nat, ∀ (moR_r : Nat → Int32) (x2 : Int32) (H : Heap) (locs : List Loc) (ls : Array Slot), wp_X8_look_35 post  mo_shift moQ_r moA_r moB_r p1 n moR_r x2 → va_P D vwCl [(a_mo, oX8 a_moR mo_e mo_f mo_codes mo_most mo_minus mo_low mo_function mo_atX mo_atM a_moK a_moH a_moS mo_spanFunction mo_spanRounding mo_spanMany a_moF a_moT mo_parts mo_shift a_moP a_moQ a_moA a_moB a_moD), (a_moR, .inl (cI, 7, .inl moR_r)), (a_moQ, .inl (cI, 256, .inl moQ_r)), (a_moA, .inl (cJ, 256, .inr (.inl moA_r))), (a_moB, .inl (cJ, 256, .inr (.inl moB_r)))] H → va_D A [(a_mo, oX8 a_moR mo_e mo_f mo_codes mo_most mo_minus mo_low mo_function mo_atX mo_atM a_moK a_moH a_moS mo_spanFunction mo_spanRounding mo_spanMany a_moF a_moT mo_parts mo_shift a_moP a_moQ a_moA a_moB a_moD), (a_moR, .inl (cI, 7, .inl moR_r)), (a_moQ, .inl (cI, 256, .inl moQ_r)), (a_moA, .inl (cJ, 256, .inr (.inl moA_r))), (a_moB, .inl (cJ, 256, .inr (.inl moB_r)))] → va_S A s.heap H locs → lv_has ls 3 [(0, .ref a_mo), (1, .int p1), (2, .int x2)] → W p l e R s m args below meth c H locs 0 0 Q (F0 m 35 ls []) := by
    intro n
    induction n with
    | zero => intro moR_r x2 H locs ls ho hP hD hS hl; exact ho.elim
    | succ n_35 ih_35 =>
      intro moR_r x2 H locs ls ho hP hD hS hl
      replace ho : wp_X8_look_35_b post mo_shift moQ_r moA_r moB_r p1 (wp_X8_look_35 post mo_shift moQ_r moA_r moB_r p1 n_35) moR_r x2 := ho
      unfold wp_X8_look_35_b at ho
      refine lv_aload_n hx hb dX8_look_35 rfl (lv_at hl 0 rfl) ?_
      refine va_get (D := D) (ci := 7) (v := .ref a_moQ) (C := RX8) (T := TX8) (N := 25) hx hb hts in_X8_look_X8 hown hK hP 0 rfl rfl 21 (by decide) (hts (.fieldLink RX8 33 "HardBenchModel" "partTo" "[I") (List.mem_of_getElem? (i := 3) (by decide +kernel))) (fun _ h9 => h9) rfl dX8_look_36 ?_
      refine lv_iload_n hx hb dX8_look_39 rfl (lv_at hl 2 rfl) ?_
      have o_40 := ho.1
      replace ho := ho.2
      refine va_iald hx hb hK hP 2 0 rfl rfl o_40 dX8_look_40 ?_
      refine lv_iload_n hx hb dX8_look_41 rfl (lv_at hl 1 rfl) ?_
      refine lv_icmp_ge (tgt := 51) hx hb dX8_look_42 (by decide) (fun c_42 => ?_) (fun c_42 => ?_)
      · replace ho := ho.1 c_42
        refine lv_aload_n hx hb dX8_look_51 rfl (lv_at hl 0 rfl) ?_
        refine va_get (D := D) (ci := 7) (v := .ref a_moA) (C := RX8) (T := TX8) (N := 25) hx hb hts in_X8_look_X8 hown hK hP 0 rfl rfl 22 (by decide) (hts (.fieldLink RX8 36 "HardBenchModel" "partA" "[J") (List.mem_of_getElem? (i := 4) (by decide +kernel))) (fun _ h9 => h9) rfl dX8_look_52 ?_
        refine lv_iload_n hx hb dX8_look_55 rfl (lv_at hl 2 rfl) ?_
        have o_56 := ho.1
        replace ho := ho.2
        refine va_lald hx hb hK hP 3 1 rfl rfl o_56 dX8_look_56 ?_
        refine lv_aload_n hx hb dX8_look_57 rfl (lv_at hl 0 rfl) ?_
        refine va_get (D := D) (ci := 7) (v := .ref a_moB) (C := RX8) (T := TX8) (N := 25) hx hb hts in_X8_look_X8 hown hK hP 0 rfl rfl 23 (by decide) (hts (.fieldLink RX8 40 "HardBenchModel" "partB" "[J") (List.mem_of_getElem? (i := 5) (by decide +kernel))) (fun _ h9 => h9) rfl dX8_look_58 ?_
        refine lv_iload_n hx hb dX8_look_61 rfl (lv_at hl 2 rfl) ?_
        have o_62 := ho.1
        replace ho := ho.2
        refine va_lald hx hb hK hP 4 1 rfl rfl o_62 dX8_look_62 ?_
        refine lv_iload_n hx hb dX8_look_63 rfl (lv_at hl 1 rfl) ?_
        refine lv_i2l hx hb dX8_look_64 rfl ?_
        refine lv_lmul hx hb dX8_look_65 ?_
        refine lv_ladd hx hb dX8_look_66 ?_
        refine lv_aload_n hx hb dX8_look_67 rfl (lv_at hl 0 rfl) ?_
        refine va_get (D := D) (ci := 7) (v := .int mo_shift) (C := RX8) (T := TX8) (N := 25) hx hb hts in_X8_look_X8 hown hK hP 0 rfl rfl 19 (by decide) (hts (.fieldLink RX8 196 "HardBenchModel" "shift" "I") (List.mem_of_getElem? (i := 6) (by decide +kernel))) (fun _ h9 => h9) rfl dX8_look_68 ?_
        refine lv_lshr hx hb dX8_look_71 rfl ?_
        refine lv_l2i hx hb dX8_look_72 rfl ?_
        subst hQ; exact W.iret (v := (((moA_r x2.toNatClampNeg) + ((moB_r x2.toNatClampNeg) * p1.toInt64)) >>> (mo_shift.toInt64 &&& 63)).toInt32) hx hb hr (fun t ht hW => ⟨⟨(((moA_r x2.toNatClampNeg) + ((moB_r x2.toNatClampNeg) * p1.toInt64)) >>> (mo_shift.toInt64 &&& 63)).toInt32, moR_r, rfl, ho, by rw [ht]; exact hP, hD⟩, hS.F ht⟩) (fun q hq => hS.2.2 q hq) dX8_look_73
      · replace ho := ho.2 c_42
        refine lv_iinc (v := (x2 + (1 : Int32))) (lv' := [(2, .int (x2 + (1 : Int32))), (0, .ref a_mo), (1, .int p1)]) hx hb dX8_look_45 hl (k := 2) rfl rfl (by decide) rfl (fun ls hl => ?_)
        refine lv_goto (tgt := 35) hx hb dX8_look_48 (by decide) ?_
        exact ih_35 moR_r (x2 + (1 : Int32)) H locs ls ho hP hD hS (lv_sub hl [1, 2, 0] rfl)
  unfold wp_X8_look at ho
  refine lv_aload_n hx hb dX8_look_0 rfl (lv_at hl 0 rfl) ?_
  refine va_get (D := D) (ci := 7) (v := .int mo_parts) (C := RX8) (T := TX8) (N := 25) hx hb hts in_X8_look_X8 hown hK hP 0 rfl rfl 18 (by decide) (hts (.fieldLink RX8 74 "HardBenchModel" "parts" "I") (List.mem_of_getElem? (i := 1) (by decide +kernel))) (fun _ h9 => h9) rfl dX8_look_1 ?_
  refine lv_if_ge (tgt := 14) hx hb dX8_look_4 (by decide) (fun c_4 => ?_) (fun c_4 => ?_)
  · replace ho := ho.1 c_4
    refine lv_iload_n hx hb dX8_look_14 rfl (lv_at hl 1 rfl) ?_
    refine lv_iconst (v := 1) hx hb dX8_look_15 (by decide) ?_
    refine lv_aload_n hx hb dX8_look_16 rfl (lv_at hl 0 rfl) ?_
    refine va_get (D := D) (ci := 7) (v := .int mo_f) (C := RX8) (T := TX8) (N := 25) hx hb hts in_X8_look_X8 hown hK hP 0 rfl rfl 2 (by decide) (hts (.fieldLink RX8 59 "HardBenchModel" "f" "I") (List.mem_of_getElem? (i := 2) (by decide +kernel))) (fun _ h9 => h9) rfl dX8_look_17 ?_
    refine lv_ishl hx hb dX8_look_20 ?_
    refine ca_Si (As := [.int p1, .int ((1 : Int32) <<< (mo_f &&& 31))]) (rest := []) ⟨hx, hb, hml, hown, hts⟩ (c_X8_isIn l D cI cJ cZ   p1 ((1 : Int32) <<< (mo_f &&& 31)) _ ho) (va_cwS 2 hts gX8_look_X8_isIn rfl rfl rfl (by decide +kernel) ⟨hRf _ (Nat.le_of_ble_eq_true rfl), hRl _ (Nat.le_of_ble_eq_true rfl)⟩) hK hN hP [] rfl rfl hl.1 rfl (Nat.le_of_ble_eq_true rfl) dX8_look_21 ⟨Nat.zero_le _, Nat.zero_le _⟩ (fun r21 ho => ?_)
    refine lv_if_ne (tgt := 33) hx hb dX8_look_24 (by decide) (fun c_24 => ?_) (fun c_24 => ?_)
    · replace ho := ho.1 c_24
      refine lv_iconst (v := 0) hx hb dX8_look_33 (by decide) ?_
      refine lv_istore_n (lv' := [(2, .int (0 : Int32)), (0, .ref a_mo), (1, .int p1)]) hx hb dX8_look_34 rfl hl (by decide) rfl (fun ls hl => ?_)
      obtain ⟨n_35, ho⟩ := ho
      exact C_35 n_35 moR_r (0 : Int32) H locs ls ho hP hD hS (lv_sub hl [1, 2, 0] rfl)
    · replace ho := ho.2 c_24
      refine lv_aload_n hx hb dX8_look_27 rfl (lv_at hl 0 rfl) ?_
      refine lv_iconst (v := (-1)) hx hb dX8_look_28 (by decide) ?_
      refine ca_Wi (b := a_mo) (As := [.int (-1 : Int32)]) (rest := []) (wr := [(a_moQ, .inl (cI, 256, .inl moQ_r)), (a_moA, .inl (cJ, 256, .inr (.inl moA_r))), (a_moB, .inl (cJ, 256, .inr (.inl moB_r)))]) (wo := fun u => [(a_mo, oX8 a_moR mo_e mo_f mo_codes mo_most mo_minus mo_low mo_function mo_atX mo_atM a_moK a_moH a_moS mo_spanFunction mo_spanRounding mo_spanMany a_moF a_moT mo_parts mo_shift a_moP a_moQ a_moA a_moB a_moD), (a_moR, .inl (cI, 7, .inl u))]) (wn := fun u => [(a_mo, oX8 a_moR mo_e mo_f mo_codes mo_most mo_minus mo_low mo_function mo_atX mo_atM a_moK a_moH a_moS mo_spanFunction mo_spanRounding mo_spanMany a_moF a_moT mo_parts mo_shift a_moP a_moQ a_moA a_moB a_moD), (a_moR, .inl (cI, 7, .inl u)), (a_moQ, .inl (cI, 256, .inl moQ_r)), (a_moA, .inl (cJ, 256, .inr (.inl moA_r))), (a_moB, .inl (cJ, 256, .inr (.inl moB_r)))]) ⟨hx, hb, hml, hown, hts⟩ (c_X8_refuse l D cI cJ cZ a_mo a_moR a_moK a_moH a_moS a_moF a_moT a_moP a_moQ a_moA a_moB a_moD H.size mo_e mo_f mo_codes mo_most mo_minus mo_low mo_function mo_atX mo_atM mo_spanFunction mo_spanRounding mo_spanMany mo_parts mo_shift moR_r (-1 : Int32) _ _ rfl ho) (cwV 1 hts gX8_look_X8_refuse rfl rfl rfl (by decide +kernel) ⟨hRf _ (Nat.le_of_ble_eq_true rfl), hRl _ (Nat.le_of_ble_eq_true rfl)⟩) hK hN hP hD hS hA [0, 1] [2, 3, 4] [3, 4, 0, 1, 2] rfl rfl (by decide) (by decide) (by decide) (by decide) (fun _ => rfl) 0 7 rfl rfl rfl rfl hl.1 rfl (Nat.le_of_ble_eq_true rfl) dX8_look_29 ⟨Nat.zero_le _, Nat.zero_le _⟩ (fun r29 u29 H locs ho hP hD hS => ?_)
      try dsimp only at ho
      replace hP : va_P D vwCl [(a_mo, oX8 a_moR mo_e mo_f mo_codes mo_most mo_minus mo_low mo_function mo_atX mo_atM a_moK a_moH a_moS mo_spanFunction mo_spanRounding mo_spanMany a_moF a_moT mo_parts mo_shift a_moP a_moQ a_moA a_moB a_moD), (a_moR, .inl (cI, 7, .inl u29)), (a_moQ, .inl (cI, 256, .inl moQ_r)), (a_moA, .inl (cJ, 256, .inr (.inl moA_r))), (a_moB, .inl (cJ, 256, .inr (.inl moB_r)))] H := hP
      replace hD : va_D A [(a_mo, oX8 a_moR mo_e mo_f mo_codes mo_most mo_minus mo_low mo_function mo_atX mo_atM a_moK a_moH a_moS mo_spanFunction mo_spanRounding mo_spanMany a_moF a_moT mo_parts mo_shift a_moP a_moQ a_moA a_moB a_moD), (a_moR, .inl (cI, 7, .inl u29)), (a_moQ, .inl (cI, 256, .inl moQ_r)), (a_moA, .inl (cJ, 256, .inr (.inl moA_r))), (a_moB, .inl (cJ, 256, .inr (.inl moB_r)))] := hD
      subst hQ; exact W.iret (v := r29) hx hb hr (fun t ht hW => ⟨⟨r29, u29, rfl, ho, by rw [ht]; exact hP, hD⟩, hS.F ht⟩) (fun q hq => hS.2.2 q hq) dX8_look_32
  · replace ho := ho.2 c_4
    refine lv_aload_n hx hb dX8_look_7 rfl (lv_at hl 0 rfl) ?_
    refine lv_bipush (v := (-3)) hx hb dX8_look_8 (by decide) ?_
    refine ca_Wi (b := a_mo) (As := [.int (-3 : Int32)]) (rest := []) (wr := [(a_moQ, .inl (cI, 256, .inl moQ_r)), (a_moA, .inl (cJ, 256, .inr (.inl moA_r))), (a_moB, .inl (cJ, 256, .inr (.inl moB_r)))]) (wo := fun u => [(a_mo, oX8 a_moR mo_e mo_f mo_codes mo_most mo_minus mo_low mo_function mo_atX mo_atM a_moK a_moH a_moS mo_spanFunction mo_spanRounding mo_spanMany a_moF a_moT mo_parts mo_shift a_moP a_moQ a_moA a_moB a_moD), (a_moR, .inl (cI, 7, .inl u))]) (wn := fun u => [(a_mo, oX8 a_moR mo_e mo_f mo_codes mo_most mo_minus mo_low mo_function mo_atX mo_atM a_moK a_moH a_moS mo_spanFunction mo_spanRounding mo_spanMany a_moF a_moT mo_parts mo_shift a_moP a_moQ a_moA a_moB a_moD), (a_moR, .inl (cI, 7, .inl u)), (a_moQ, .inl (cI, 256, .inl moQ_r)), (a_moA, .inl (cJ, 256, .inr (.inl moA_r))), (a_moB, .inl (cJ, 256, .inr (.inl moB_r)))]) ⟨hx, hb, hml, hown, hts⟩ (c_X8_refuse l D cI cJ cZ a_mo a_moR a_moK a_moH a_moS a_moF a_moT a_moP a_moQ a_moA a_moB a_moD H.size mo_e mo_f mo_codes mo_most mo_minus mo_low mo_function mo_atX mo_atM mo_spanFunction mo_spanRounding mo_spanMany mo_parts mo_shift moR_r (-3 : Int32) _ _ rfl ho) (cwV 1 hts gX8_look_X8_refuse rfl rfl rfl (by decide +kernel) ⟨hRf _ (Nat.le_of_ble_eq_true rfl), hRl _ (Nat.le_of_ble_eq_true rfl)⟩) hK hN hP hD hS hA [0, 1] [2, 3, 4] [3, 4, 0, 1, 2] rfl rfl (by decide) (by decide) (by decide) (by decide) (fun _ => rfl) 0 7 rfl rfl rfl rfl hl.1 rfl (Nat.le_of_ble_eq_true rfl) dX8_look_10 ⟨Nat.zero_le _, Nat.zero_le _⟩ (fun r10 u10 H locs ho hP hD hS => ?_)
    try dsimp only at ho
    replace hP : va_P D vwCl [(a_mo, oX8 a_moR mo_e mo_f mo_codes mo_most mo_minus mo_low mo_function mo_atX mo_atM a_moK a_moH a_moS mo_spanFunction mo_spanRounding mo_spanMany a_moF a_moT mo_parts mo_shift a_moP a_moQ a_moA a_moB a_moD), (a_moR, .inl (cI, 7, .inl u10)), (a_moQ, .inl (cI, 256, .inl moQ_r)), (a_moA, .inl (cJ, 256, .inr (.inl moA_r))), (a_moB, .inl (cJ, 256, .inr (.inl moB_r)))] H := hP
    replace hD : va_D A [(a_mo, oX8 a_moR mo_e mo_f mo_codes mo_most mo_minus mo_low mo_function mo_atX mo_atM a_moK a_moH a_moS mo_spanFunction mo_spanRounding mo_spanMany a_moF a_moT mo_parts mo_shift a_moP a_moQ a_moA a_moB a_moD), (a_moR, .inl (cI, 7, .inl u10)), (a_moQ, .inl (cI, 256, .inl moQ_r)), (a_moA, .inl (cJ, 256, .inr (.inl moA_r))), (a_moB, .inl (cJ, 256, .inr (.inl moB_r)))] := hD
    subst hQ; exact W.iret (v := r10) hx hb hr (fun t ht hW => ⟨⟨r10, u10, rfl, ho, by rw [ht]; exact hP, hD⟩, hS.F ht⟩) (fun q hq => hS.2.2 q hq) dX8_look_13

def wp_X8_fits_122_b (post : Int32 → Int32 → Int32 → Int64 → (Nat → Int32) → Prop)  (mo_f : Int32) (mo_most : Int32) (mo_minus : Int32) (mo_low : Int32) (p1 : Int32) (p2 : Int32) (p3 : Int32) (p5 : Int32) (p6 : Int32) (p7 : Int32) (p8 : Int32) (K_122 : Int32 → Int32 → Int64 → (Nat → Int32) → Int32 → Prop) (mo_function : Int32) (mo_atX : Int32) (mo_atM : Int64) (moR_r : Nat → Int32) (x9 : Int32) : Prop := ((p5 < x9) → (post (-9 : Int32) mo_function mo_atX mo_atM moR_r)) ∧ ((¬ (p5 < x9)) → (wp_X8_rightOf (fun r155 u155_1 u155_2 u155_3 => ((((lg_cmp ((p6.toInt64 + (p7.toInt64 * x9.toInt64)) >>> (p8.toInt64 &&& 63)) r155.toInt64) = 0) → (K_122 u155_1 u155_2 u155_3 moR_r (x9 + (1 : Int32)))) ∧ ((¬ ((lg_cmp ((p6.toInt64 + (p7.toInt64 * x9.toInt64)) >>> (p8.toInt64 &&& 63)) r155.toInt64) = 0)) → (post x9 u155_1 u155_2 u155_3 moR_r)))) mo_f mo_most mo_minus mo_low mo_function mo_atX mo_atM p1 ((p3 <<< (mo_f &&& 31)) + x9) p2))
noncomputable def wp_X8_fits_122 (post : Int32 → Int32 → Int32 → Int64 → (Nat → Int32) → Prop)  (mo_f : Int32) (mo_most : Int32) (mo_minus : Int32) (mo_low : Int32) (p1 : Int32) (p2 : Int32) (p3 : Int32) (p5 : Int32) (p6 : Int32) (p7 : Int32) (p8 : Int32) (n : Nat) : Int32 → Int32 → Int64 → (Nat → Int32) → Int32 → Prop := Nat.rec (motive := fun _ => Int32 → Int32 → Int64 → (Nat → Int32) → Int32 → Prop) (fun _ _ _ _ _ => False) (fun _ K_122 => wp_X8_fits_122_b post mo_f mo_most mo_minus mo_low p1 p2 p3 p5 p6 p7 p8 K_122) n
def wp_X8_fits_111 (post : Int32 → Int32 → Int32 → Int64 → (Nat → Int32) → Prop)  (mo_function : Int32) (mo_atX : Int32) (mo_atM : Int64) (moR_r : Nat → Int32) : Prop := wp_X8_refuse (fun r114 u114 => (post r114 mo_function mo_atX mo_atM u114)) moR_r (-6 : Int32)
def wp_X8_fits_83 (post : Int32 → Int32 → Int32 → Int64 → (Nat → Int32) → Prop)  (mo_function : Int32) (mo_atX : Int32) (mo_atM : Int64) (moR_r : Nat → Int32) : Prop := wp_X8_refuse (fun r86 u86 => (post r86 mo_function mo_atX mo_atM u86)) moR_r (-4 : Int32)
def wp_X8_fits_58 (post : Int32 → Int32 → Int32 → Int64 → (Nat → Int32) → Prop)  (mo_function : Int32) (mo_atX : Int32) (mo_atM : Int64) (moR_r : Nat → Int32) : Prop := wp_X8_refuse (fun r60 u60 => (post r60 mo_function mo_atX mo_atM u60)) moR_r (-1 : Int32)
def wp_X8_fits (post : Int32 → Int32 → Int32 → Int64 → (Nat → Int32) → Prop) (mo_e : Int32) (mo_f : Int32) (mo_most : Int32) (mo_minus : Int32) (mo_low : Int32) (mo_function : Int32) (mo_atX : Int32) (mo_atM : Int64) (moR_r : Nat → Int32) (p1 : Int32) (p2 : Int32) (p3 : Int32) (p4 : Int32) (p5 : Int32) (p6 : Int32) (p7 : Int32) (p8 : Int32) : Prop := wp_X8_isFunction (fun r1 => (((r1 = 0) → (wp_X8_fits_58 post mo_function mo_atX mo_atM moR_r)) ∧ ((¬ (r1 = 0)) → (wp_X8_isIn (fun r9 => (((r9 = 0) → (wp_X8_fits_58 post mo_function mo_atX mo_atM moR_r)) ∧ ((¬ (r9 = 0)) → (wp_X8_isPower (fun r17 => (((r17 = 0) → (wp_X8_fits_58 post mo_function mo_atX mo_atM moR_r)) ∧ ((¬ (r17 = 0)) → (wp_X8_isIn (fun r31 => (((r31 = 0) → (wp_X8_fits_58 post mo_function mo_atX mo_atM moR_r)) ∧ ((¬ (r31 = 0)) → (wp_X8_isIn (fun r45 => (((r45 = 0) → (wp_X8_fits_58 post mo_function mo_atX mo_atM moR_r)) ∧ ((¬ (r45 = 0)) → (((p4 ≤ p5) → (((p6 < (-1000000000 : Int32)) → (wp_X8_fits_83 post mo_function mo_atX mo_atM moR_r)) ∧ ((¬ (p6 < (-1000000000 : Int32))) → (((p7 < (-1000000000 : Int32)) → (wp_X8_fits_83 post mo_function mo_atX mo_atM moR_r)) ∧ ((¬ (p7 < (-1000000000 : Int32))) → (((0 ≤ p8) → ((((1000000000 : Int32) < p6) → (wp_X8_fits_111 post mo_function mo_atX mo_atM moR_r)) ∧ ((¬ ((1000000000 : Int32) < p6)) → ((((1000000000 : Int32) < p7) → (wp_X8_fits_111 post mo_function mo_atX mo_atM moR_r)) ∧ ((¬ ((1000000000 : Int32) < p7)) → (((p8 ≤ (10 : Int32)) → (∃ n, wp_X8_fits_122 post mo_f mo_most mo_minus mo_low p1 p2 p3 p5 p6 p7 p8 n mo_function mo_atX mo_atM moR_r p4)) ∧ ((¬ (p8 ≤ (10 : Int32))) → (wp_X8_fits_111 post mo_function mo_atX mo_atM moR_r)))))))) ∧ ((¬ (0 ≤ p8)) → (wp_X8_fits_83 post mo_function mo_atX mo_atM moR_r)))))))) ∧ ((¬ (p4 ≤ p5)) → (wp_X8_fits_58 post mo_function mo_atX mo_atM moR_r)))))) p5 ((1 : Int32) <<< (mo_f &&& 31)))))) p4 ((1 : Int32) <<< (mo_f &&& 31)))))) mo_e p3)))) p2 (5 : Int32))))) p1
set_option maxRecDepth 20000 in
theorem in_X8_fits_X8 : ∀ w ∈ u_ws RX8 TX8 25, w ∈ wsX8_fits := fun w h => (goodIn_r wsX80 [82, 83, 84, 85, 86, 87, 88, 89, 90, 91, 92, 93, 94, 95, 96, 97, 98, 99, 100, 101, 102, 103, 104, 105, 106] (by decide +kernel) (by decide +kernel) w h).1
set_option maxHeartbeats 4000000 in
set_option maxRecDepth 100000 in
theorem c_X8_fits (l : Launch) (D : va_G) (cI cJ cZ : ClassId) (a_mo : Nat) (a_moR : Nat) (a_moK : Nat) (a_moH : Nat) (a_moS : Nat) (a_moF : Nat) (a_moT : Nat) (a_moP : Nat) (a_moQ : Nat) (a_moA : Nat) (a_moB : Nat) (a_moD : Nat) (sz : Nat) (mo_e : Int32) (mo_f : Int32) (mo_codes : Int32) (mo_most : Int32) (mo_minus : Int32) (mo_low : Int32) (mo_function : Int32) (mo_atX : Int32) (mo_atM : Int64) (mo_spanFunction : Int32) (mo_spanRounding : Int32) (mo_spanMany : Int32) (mo_parts : Int32) (mo_shift : Int32) (moR_r : Nat → Int32) (p1 : Int32) (p2 : Int32) (p3 : Int32) (p4 : Int32) (p5 : Int32) (p6 : Int32) (p7 : Int32) (p8 : Int32) (post : Int32 → Int32 → Int32 → Int64 → (Nat → Int32) → Prop) (A : Nat → Prop) (hAe : A = va_A [(a_mo, oX8 a_moR mo_e mo_f mo_codes mo_most mo_minus mo_low mo_function mo_atX mo_atM a_moK a_moH a_moS mo_spanFunction mo_spanRounding mo_spanMany a_moF a_moT mo_parts mo_shift a_moP a_moQ a_moA a_moB a_moD), (a_moR, .inl (cI, 7, .inl moR_r))] sz) (ho : wp_X8_fits post mo_e mo_f mo_most mo_minus mo_low mo_function mo_atX mo_atM moR_r p1 p2 p3 p4 p5 p6 p7 p8) : Met l yX8_fits wsX8_fits ({ frames := 6, cells := 0, slots := 0, locals := 151 } : Room) (rw_P D [(cI, .int), (cJ, .long), (cZ, .boolean)] [.ref a_mo, .int p1, .int p2, .int p3, .int p4, .int p5, .int p6, .int p7, .int p8] sz [(a_mo, oX8 a_moR mo_e mo_f mo_codes mo_most mo_minus mo_low mo_function mo_atX mo_atM a_moK a_moH a_moS mo_spanFunction mo_spanRounding mo_spanMany a_moF a_moT mo_parts mo_shift a_moP a_moQ a_moA a_moB a_moD), (a_moR, .inl (cI, 7, .inl moR_r))]) (va_Qi (fun (r : Int32) (u : (Int32) × (Int32) × (Int64) × (Nat → Int32)) => post r u.1 u.2.1 u.2.2.1 u.2.2.2) (rw_B D A (fun (u : (Int32) × (Int32) × (Int64) × (Nat → Int32)) => [(a_mo, oX8 a_moR mo_e mo_f mo_codes mo_most mo_minus mo_low u.1 u.2.1 u.2.2.1 a_moK a_moH a_moS mo_spanFunction mo_spanRounding mo_spanMany a_moF a_moT mo_parts mo_shift a_moP a_moQ a_moA a_moB a_moD), (a_moR, .inl (cI, 7, .inl u.2.2.2))])) A) 0 0 A := by
  refine Met.ofW (cc := cX8_fits) (maxL := 10) (ret := (some .int)) (by decide) rfl ?_
  intro p e s m args below meth c s₁ B hml hv
  obtain ⟨hargs, hsz, hP, hK, hN, hD0⟩ := hv
  have hx := B.exec
  have hb := B.bytes
  have hr := B.returns
  have hts := atoms_spec (ws := wsX8_fits) B.pre
  have hown : s.vm.findClass RX8 = some m.cls := findClass_of_methodNamed B.named
  have hlocks := B.notSynchronized
  subst hsz
  have hD : va_D A [(a_mo, oX8 a_moR mo_e mo_f mo_codes mo_most mo_minus mo_low mo_function mo_atX mo_atM a_moK a_moH a_moS mo_spanFunction mo_spanRounding mo_spanMany a_moF a_moT mo_parts mo_shift a_moP a_moQ a_moA a_moB a_moD), (a_moR, .inl (cI, 7, .inl moR_r))] := by rw [hAe]; exact hD0.self
  have hA : ∀ q : Nat, s.heap.size ≤ q → A q := fun q h => by rw [hAe]; exact Or.inr h
  have hS : va_S A s.heap s.heap [] := va_S.rf
  have hl := lv_entry ([.ref a_mo, .int p1, .int p2, .int p3, .int p4, .int p5, .int p6, .int p7, .int p8]) (n := 10) (Nat.le_of_ble_eq_true rfl)
  rw [hargs, lg_entry_eq, ← hargs]
  generalize (lg_sl ([.ref a_mo, .int p1, .int p2, .int p3, .int p4, .int p5, .int p6, .int p7, .int p8]) ++ List.replicate (10 - (lg_sl ([.ref a_mo, .int p1, .int p2, .int p3, .int p4, .int p5, .int p6, .int p7, .int p8])).length) Slot.unset).toArray = ls at hl ⊢
  replace hl : lv_has ls 10 [(0, .ref a_mo), (1, .int p1), (2, .int p2), (3, .int p3), (4, .int p4), (5, .int p5), (6, .int p6), (7, .int p7), (8, .int p8)] := hl
  have hRf : ∀ n, n ≤ 6 → n ≤ (headSpec wsX8_fits ({ frames := 6, cells := 0, slots := 0, locals := 151 } : Room)).room.frames := fun n h => h
  have hRl : ∀ n, n ≤ 151 → n ≤ (headSpec wsX8_fits ({ frames := 6, cells := 0, slots := 0, locals := 151 } : Room)).room.locals := fun n h => h
  generalize (headSpec wsX8_fits ({ frames := 6, cells := 0, slots := 0, locals := 151 } : Room)).room = R at hRf hRl ⊢
  generalize hQ : MQ below _ args s 0 0 _ = Q
  have C_122 : ∀ n : Nat, ∀ (mo_function : Int32) (mo_atX : Int32) (mo_atM : Int64) (moR_r : Nat → Int32) (x9 : Int32) (H : Heap) (locs : List Loc) (ls : Array Slot), wp_X8_fits_122 post  mo_f mo_most mo_minus mo_low p1 p2 p3 p5 p6 p7 p8 n mo_function mo_atX mo_atM moR_r x9 → va_P D vwCl [(a_mo, oX8 a_moR mo_e mo_f mo_codes mo_most mo_minus mo_low mo_function mo_atX mo_atM a_moK a_moH a_moS mo_spanFunction mo_spanRounding mo_spanMany a_moF a_moT mo_parts mo_shift a_moP a_moQ a_moA a_moB a_moD), (a_moR, .inl (cI, 7, .inl moR_r))] H → va_D A [(a_mo, oX8 a_moR mo_e mo_f mo_codes mo_most mo_minus mo_low mo_function mo_atX mo_atM a_moK a_moH a_moS mo_spanFunction mo_spanRounding mo_spanMany a_moF a_moT mo_parts mo_shift a_moP a_moQ a_moA a_moB a_moD), (a_moR, .inl (cI, 7, .inl moR_r))] → va_S A s.heap H locs → lv_has ls 10 [(0, .ref a_mo), (1, .int p1), (2, .int p2), (3, .int p3), (5, .int p5), (6, .int p6), (7, .int p7), (8, .int p8), (9, .int x9)] → W p l e R s m args below meth c H locs 0 0 Q (F0 m 122 ls []) := by
    intro n
    induction n with
    | zero => intro mo_function mo_atX mo_atM moR_r x9 H locs ls ho hP hD hS hl; exact ho.elim
    | succ n_122 ih_122 =>
      intro mo_function mo_atX mo_atM moR_r x9 H locs ls ho hP hD hS hl
      replace ho : wp_X8_fits_122_b post mo_f mo_most mo_minus mo_low p1 p2 p3 p5 p6 p7 p8 (wp_X8_fits_122 post mo_f mo_most mo_minus mo_low p1 p2 p3 p5 p6 p7 p8 n_122) mo_function mo_atX mo_atM moR_r x9 := ho
      unfold wp_X8_fits_122_b at ho
      refine lv_iload hx hb dX8_fits_122 (lv_at hl 8 rfl) ?_
      refine lv_iload hx hb dX8_fits_124 (lv_at hl 4 rfl) ?_
      refine lv_icmp_gt (tgt := 172) hx hb dX8_fits_126 (by decide) (fun c_126 => ?_) (fun c_126 => ?_)
      · replace ho := ho.1 c_126
        refine lv_bipush (v := (-9)) hx hb dX8_fits_172 (by decide) ?_
        subst hQ; exact W.iret (v := (-9 : Int32)) hx hb hr (fun t ht hW => ⟨⟨(-9 : Int32), (mo_function, mo_atX, mo_atM, moR_r), rfl, ho, by rw [ht]; exact hP, hD⟩, hS.F ht⟩) (fun q hq => hS.2.2 q hq) dX8_fits_174
      · replace ho := ho.2 c_126
        refine lv_iload hx hb dX8_fits_129 (lv_at hl 5 rfl) ?_
        refine lv_i2l hx hb dX8_fits_131 rfl ?_
        refine lv_iload hx hb dX8_fits_132 (lv_at hl 6 rfl) ?_
        refine lv_i2l hx hb dX8_fits_134 rfl ?_
        refine lv_iload hx hb dX8_fits_135 (lv_at hl 8 rfl) ?_
        refine lv_i2l hx hb dX8_fits_137 rfl ?_
        refine lv_lmul hx hb dX8_fits_138 ?_
        refine lv_ladd hx hb dX8_fits_139 ?_
        refine lv_iload hx hb dX8_fits_140 (lv_at hl 7 rfl) ?_
        refine lv_lshr hx hb dX8_fits_142 rfl ?_
        refine lv_aload_n hx hb dX8_fits_143 rfl (lv_at hl 0 rfl) ?_
        refine lv_iload_n hx hb dX8_fits_144 rfl (lv_at hl 1 rfl) ?_
        refine lv_iload_n hx hb dX8_fits_145 rfl (lv_at hl 3 rfl) ?_
        refine lv_aload_n hx hb dX8_fits_146 rfl (lv_at hl 0 rfl) ?_
        refine va_get (D := D) (ci := 7) (v := .int mo_f) (C := RX8) (T := TX8) (N := 25) hx hb hts in_X8_fits_X8 hown hK hP 0 rfl rfl 2 (by decide) (hts (.fieldLink RX8 59 "HardBenchModel" "f" "I") (List.mem_of_getElem? (i := 1) (by decide +kernel))) (fun _ h9 => h9) rfl dX8_fits_147 ?_
        refine lv_ishl hx hb dX8_fits_150 ?_
        refine lv_iload hx hb dX8_fits_151 (lv_at hl 8 rfl) ?_
        refine lv_iadd hx hb dX8_fits_153 ?_
        refine lv_iload_n hx hb dX8_fits_154 rfl (lv_at hl 2 rfl) ?_
        refine ca_Wi (b := a_mo) (As := [.int p1, .int ((p3 <<< (mo_f &&& 31)) + x9), .int p2]) (rest := [.long ((p6.toInt64 + (p7.toInt64 * x9.toInt64)) >>> (p8.toInt64 &&& 63))]) (wr := [(a_moR, .inl (cI, 7, .inl moR_r))]) (wo := fun u => [(a_mo, oX8 a_moR mo_e mo_f mo_codes mo_most mo_minus mo_low u.1 u.2.1 u.2.2 a_moK a_moH a_moS mo_spanFunction mo_spanRounding mo_spanMany a_moF a_moT mo_parts mo_shift a_moP a_moQ a_moA a_moB a_moD)]) (wn := fun u => [(a_mo, oX8 a_moR mo_e mo_f mo_codes mo_most mo_minus mo_low u.1 u.2.1 u.2.2 a_moK a_moH a_moS mo_spanFunction mo_spanRounding mo_spanMany a_moF a_moT mo_parts mo_shift a_moP a_moQ a_moA a_moB a_moD), (a_moR, .inl (cI, 7, .inl moR_r))]) ⟨hx, hb, hml, hown, hts⟩ (c_X8_rightOf l D cI cJ cZ a_mo a_moR a_moK a_moH a_moS a_moF a_moT a_moP a_moQ a_moA a_moB a_moD H.size mo_e mo_f mo_codes mo_most mo_minus mo_low mo_function mo_atX mo_atM mo_spanFunction mo_spanRounding mo_spanMany mo_parts mo_shift p1 ((p3 <<< (mo_f &&& 31)) + x9) p2 _ _ rfl ho) (cwV 3 hts gX8_fits_X8_rightOf rfl rfl rfl (by decide +kernel) ⟨hRf _ (Nat.le_of_ble_eq_true rfl), hRl _ (Nat.le_of_ble_eq_true rfl)⟩) hK hN hP hD hS hA [0] [1] [1, 0] rfl rfl (by decide) (by decide) (by decide) (by decide) (fun _ => rfl) 0 7 rfl rfl rfl rfl hl.1 rfl (Nat.le_of_ble_eq_true rfl) dX8_fits_155 ⟨Nat.zero_le _, Nat.zero_le _⟩ (fun r155 u155 H locs ho hP hD hS => ?_)
        obtain ⟨u155_1, u155_2, u155_3⟩ := u155
        try dsimp only at ho
        replace hP : va_P D vwCl [(a_mo, oX8 a_moR mo_e mo_f mo_codes mo_most mo_minus mo_low u155_1 u155_2 u155_3 a_moK a_moH a_moS mo_spanFunction mo_spanRounding mo_spanMany a_moF a_moT mo_parts mo_shift a_moP a_moQ a_moA a_moB a_moD), (a_moR, .inl (cI, 7, .inl moR_r))] H := hP
        replace hD : va_D A [(a_mo, oX8 a_moR mo_e mo_f mo_codes mo_most mo_minus mo_low u155_1 u155_2 u155_3 a_moK a_moH a_moS mo_spanFunction mo_spanRounding mo_spanMany a_moF a_moT mo_parts mo_shift a_moP a_moQ a_moA a_moB a_moD), (a_moR, .inl (cI, 7, .inl moR_r))] := hD
        refine lv_i2l hx hb dX8_fits_158 rfl ?_
        refine W.lcmp hx hb dX8_fits_159 ?_
        refine lv_if_eq (tgt := 166) hx hb dX8_fits_160 (by decide) (fun c_160 => ?_) (fun c_160 => ?_)
        · replace ho := ho.1 c_160
          refine lv_iinc (v := (x9 + (1 : Int32))) (lv' := [(9, .int (x9 + (1 : Int32))), (0, .ref a_mo), (1, .int p1), (2, .int p2), (3, .int p3), (5, .int p5), (6, .int p6), (7, .int p7), (8, .int p8)]) hx hb dX8_fits_166 hl (k := 8) rfl rfl (by decide) rfl (fun ls hl => ?_)
          refine lv_goto (tgt := 122) hx hb dX8_fits_169 (by decide) ?_
          exact ih_122 u155_1 u155_2 u155_3 moR_r (x9 + (1 : Int32)) H locs ls ho hP hD hS (lv_sub hl [1, 2, 3, 4, 5, 6, 7, 8, 0] rfl)
        · replace ho := ho.2 c_160
          refine lv_iload hx hb dX8_fits_163 (lv_at hl 8 rfl) ?_
          subst hQ; exact W.iret (v := x9) hx hb hr (fun t ht hW => ⟨⟨x9, (u155_1, u155_2, u155_3, moR_r), rfl, ho, by rw [ht]; exact hP, hD⟩, hS.F ht⟩) (fun q hq => hS.2.2 q hq) dX8_fits_165
  have C_111 : ∀ (mo_function : Int32) (mo_atX : Int32) (mo_atM : Int64) (moR_r : Nat → Int32) (H : Heap) (locs : List Loc) (ls : Array Slot), wp_X8_fits_111 post  mo_function mo_atX mo_atM moR_r → va_P D vwCl [(a_mo, oX8 a_moR mo_e mo_f mo_codes mo_most mo_minus mo_low mo_function mo_atX mo_atM a_moK a_moH a_moS mo_spanFunction mo_spanRounding mo_spanMany a_moF a_moT mo_parts mo_shift a_moP a_moQ a_moA a_moB a_moD), (a_moR, .inl (cI, 7, .inl moR_r))] H → va_D A [(a_mo, oX8 a_moR mo_e mo_f mo_codes mo_most mo_minus mo_low mo_function mo_atX mo_atM a_moK a_moH a_moS mo_spanFunction mo_spanRounding mo_spanMany a_moF a_moT mo_parts mo_shift a_moP a_moQ a_moA a_moB a_moD), (a_moR, .inl (cI, 7, .inl moR_r))] → va_S A s.heap H locs → lv_has ls 10 [(0, .ref a_mo)] → W p l e R s m args below meth c H locs 0 0 Q (F0 m 111 ls []) := by
    intro mo_function mo_atX mo_atM moR_r H locs ls ho hP hD hS hl
    unfold wp_X8_fits_111 at ho
    refine lv_aload_n hx hb dX8_fits_111 rfl (lv_at hl 0 rfl) ?_
    refine lv_bipush (v := (-6)) hx hb dX8_fits_112 (by decide) ?_
    refine ca_Wi (b := a_mo) (As := [.int (-6 : Int32)]) (rest := []) (wr := []) (wo := fun u => [(a_mo, oX8 a_moR mo_e mo_f mo_codes mo_most mo_minus mo_low mo_function mo_atX mo_atM a_moK a_moH a_moS mo_spanFunction mo_spanRounding mo_spanMany a_moF a_moT mo_parts mo_shift a_moP a_moQ a_moA a_moB a_moD), (a_moR, .inl (cI, 7, .inl u))]) (wn := fun u => [(a_mo, oX8 a_moR mo_e mo_f mo_codes mo_most mo_minus mo_low mo_function mo_atX mo_atM a_moK a_moH a_moS mo_spanFunction mo_spanRounding mo_spanMany a_moF a_moT mo_parts mo_shift a_moP a_moQ a_moA a_moB a_moD), (a_moR, .inl (cI, 7, .inl u))]) ⟨hx, hb, hml, hown, hts⟩ (c_X8_refuse l D cI cJ cZ a_mo a_moR a_moK a_moH a_moS a_moF a_moT a_moP a_moQ a_moA a_moB a_moD H.size mo_e mo_f mo_codes mo_most mo_minus mo_low mo_function mo_atX mo_atM mo_spanFunction mo_spanRounding mo_spanMany mo_parts mo_shift moR_r (-6 : Int32) _ _ rfl ho) (cwV 1 hts gX8_fits_X8_refuse rfl rfl rfl (by decide +kernel) ⟨hRf _ (Nat.le_of_ble_eq_true rfl), hRl _ (Nat.le_of_ble_eq_true rfl)⟩) hK hN hP hD hS hA [0, 1] [] [0, 1] rfl rfl (by decide) (by decide) (by decide) (by decide) (fun _ => rfl) 0 7 rfl rfl rfl rfl hl.1 rfl (Nat.le_of_ble_eq_true rfl) dX8_fits_114 ⟨Nat.zero_le _, Nat.zero_le _⟩ (fun r114 u114 H locs ho hP hD hS => ?_)
    try dsimp only at ho
    replace hP : va_P D vwCl [(a_mo, oX8 a_moR mo_e mo_f mo_codes mo_most mo_minus mo_low mo_function mo_atX mo_atM a_moK a_moH a_moS mo_spanFunction mo_spanRounding mo_spanMany a_moF a_moT mo_parts mo_shift a_moP a_moQ a_moA a_moB a_moD), (a_moR, .inl (cI, 7, .inl u114))] H := hP
    replace hD : va_D A [(a_mo, oX8 a_moR mo_e mo_f mo_codes mo_most mo_minus mo_low mo_function mo_atX mo_atM a_moK a_moH a_moS mo_spanFunction mo_spanRounding mo_spanMany a_moF a_moT mo_parts mo_shift a_moP a_moQ a_moA a_moB a_moD), (a_moR, .inl (cI, 7, .inl u114))] := hD
    subst hQ; exact W.iret (v := r114) hx hb hr (fun t ht hW => ⟨⟨r114, (mo_function, mo_atX, mo_atM, u114), rfl, ho, by rw [ht]; exact hP, hD⟩, hS.F ht⟩) (fun q hq => hS.2.2 q hq) dX8_fits_117
  have C_83 : ∀ (mo_function : Int32) (mo_atX : Int32) (mo_atM : Int64) (moR_r : Nat → Int32) (H : Heap) (locs : List Loc) (ls : Array Slot), wp_X8_fits_83 post  mo_function mo_atX mo_atM moR_r → va_P D vwCl [(a_mo, oX8 a_moR mo_e mo_f mo_codes mo_most mo_minus mo_low mo_function mo_atX mo_atM a_moK a_moH a_moS mo_spanFunction mo_spanRounding mo_spanMany a_moF a_moT mo_parts mo_shift a_moP a_moQ a_moA a_moB a_moD), (a_moR, .inl (cI, 7, .inl moR_r))] H → va_D A [(a_mo, oX8 a_moR mo_e mo_f mo_codes mo_most mo_minus mo_low mo_function mo_atX mo_atM a_moK a_moH a_moS mo_spanFunction mo_spanRounding mo_spanMany a_moF a_moT mo_parts mo_shift a_moP a_moQ a_moA a_moB a_moD), (a_moR, .inl (cI, 7, .inl moR_r))] → va_S A s.heap H locs → lv_has ls 10 [(0, .ref a_mo)] → W p l e R s m args below meth c H locs 0 0 Q (F0 m 83 ls []) := by
    intro mo_function mo_atX mo_atM moR_r H locs ls ho hP hD hS hl
    unfold wp_X8_fits_83 at ho
    refine lv_aload_n hx hb dX8_fits_83 rfl (lv_at hl 0 rfl) ?_
    refine lv_bipush (v := (-4)) hx hb dX8_fits_84 (by decide) ?_
    refine ca_Wi (b := a_mo) (As := [.int (-4 : Int32)]) (rest := []) (wr := []) (wo := fun u => [(a_mo, oX8 a_moR mo_e mo_f mo_codes mo_most mo_minus mo_low mo_function mo_atX mo_atM a_moK a_moH a_moS mo_spanFunction mo_spanRounding mo_spanMany a_moF a_moT mo_parts mo_shift a_moP a_moQ a_moA a_moB a_moD), (a_moR, .inl (cI, 7, .inl u))]) (wn := fun u => [(a_mo, oX8 a_moR mo_e mo_f mo_codes mo_most mo_minus mo_low mo_function mo_atX mo_atM a_moK a_moH a_moS mo_spanFunction mo_spanRounding mo_spanMany a_moF a_moT mo_parts mo_shift a_moP a_moQ a_moA a_moB a_moD), (a_moR, .inl (cI, 7, .inl u))]) ⟨hx, hb, hml, hown, hts⟩ (c_X8_refuse l D cI cJ cZ a_mo a_moR a_moK a_moH a_moS a_moF a_moT a_moP a_moQ a_moA a_moB a_moD H.size mo_e mo_f mo_codes mo_most mo_minus mo_low mo_function mo_atX mo_atM mo_spanFunction mo_spanRounding mo_spanMany mo_parts mo_shift moR_r (-4 : Int32) _ _ rfl ho) (cwV 1 hts gX8_fits_X8_refuse rfl rfl rfl (by decide +kernel) ⟨hRf _ (Nat.le_of_ble_eq_true rfl), hRl _ (Nat.le_of_ble_eq_true rfl)⟩) hK hN hP hD hS hA [0, 1] [] [0, 1] rfl rfl (by decide) (by decide) (by decide) (by decide) (fun _ => rfl) 0 7 rfl rfl rfl rfl hl.1 rfl (Nat.le_of_ble_eq_true rfl) dX8_fits_86 ⟨Nat.zero_le _, Nat.zero_le _⟩ (fun r86 u86 H locs ho hP hD hS => ?_)
    try dsimp only at ho
    replace hP : va_P D vwCl [(a_mo, oX8 a_moR mo_e mo_f mo_codes mo_most mo_minus mo_low mo_function mo_atX mo_atM a_moK a_moH a_moS mo_spanFunction mo_spanRounding mo_spanMany a_moF a_moT mo_parts mo_shift a_moP a_moQ a_moA a_moB a_moD), (a_moR, .inl (cI, 7, .inl u86))] H := hP
    replace hD : va_D A [(a_mo, oX8 a_moR mo_e mo_f mo_codes mo_most mo_minus mo_low mo_function mo_atX mo_atM a_moK a_moH a_moS mo_spanFunction mo_spanRounding mo_spanMany a_moF a_moT mo_parts mo_shift a_moP a_moQ a_moA a_moB a_moD), (a_moR, .inl (cI, 7, .inl u86))] := hD
    subst hQ; exact W.iret (v := r86) hx hb hr (fun t ht hW => ⟨⟨r86, (mo_function, mo_atX, mo_atM, u86), rfl, ho, by rw [ht]; exact hP, hD⟩, hS.F ht⟩) (fun q hq => hS.2.2 q hq) dX8_fits_89
  have C_58 : ∀ (mo_function : Int32) (mo_atX : Int32) (mo_atM : Int64) (moR_r : Nat → Int32) (H : Heap) (locs : List Loc) (ls : Array Slot), wp_X8_fits_58 post  mo_function mo_atX mo_atM moR_r → va_P D vwCl [(a_mo, oX8 a_moR mo_e mo_f mo_codes mo_most mo_minus mo_low mo_function mo_atX mo_atM a_moK a_moH a_moS mo_spanFunction mo_spanRounding mo_spanMany a_moF a_moT mo_parts mo_shift a_moP a_moQ a_moA a_moB a_moD), (a_moR, .inl (cI, 7, .inl moR_r))] H → va_D A [(a_mo, oX8 a_moR mo_e mo_f mo_codes mo_most mo_minus mo_low mo_function mo_atX mo_atM a_moK a_moH a_moS mo_spanFunction mo_spanRounding mo_spanMany a_moF a_moT mo_parts mo_shift a_moP a_moQ a_moA a_moB a_moD), (a_moR, .inl (cI, 7, .inl moR_r))] → va_S A s.heap H locs → lv_has ls 10 [(0, .ref a_mo)] → W p l e R s m args below meth c H locs 0 0 Q (F0 m 58 ls []) := by
    intro mo_function mo_atX mo_atM moR_r H locs ls ho hP hD hS hl
    unfold wp_X8_fits_58 at ho
    refine lv_aload_n hx hb dX8_fits_58 rfl (lv_at hl 0 rfl) ?_
    refine lv_iconst (v := (-1)) hx hb dX8_fits_59 (by decide) ?_
    refine ca_Wi (b := a_mo) (As := [.int (-1 : Int32)]) (rest := []) (wr := []) (wo := fun u => [(a_mo, oX8 a_moR mo_e mo_f mo_codes mo_most mo_minus mo_low mo_function mo_atX mo_atM a_moK a_moH a_moS mo_spanFunction mo_spanRounding mo_spanMany a_moF a_moT mo_parts mo_shift a_moP a_moQ a_moA a_moB a_moD), (a_moR, .inl (cI, 7, .inl u))]) (wn := fun u => [(a_mo, oX8 a_moR mo_e mo_f mo_codes mo_most mo_minus mo_low mo_function mo_atX mo_atM a_moK a_moH a_moS mo_spanFunction mo_spanRounding mo_spanMany a_moF a_moT mo_parts mo_shift a_moP a_moQ a_moA a_moB a_moD), (a_moR, .inl (cI, 7, .inl u))]) ⟨hx, hb, hml, hown, hts⟩ (c_X8_refuse l D cI cJ cZ a_mo a_moR a_moK a_moH a_moS a_moF a_moT a_moP a_moQ a_moA a_moB a_moD H.size mo_e mo_f mo_codes mo_most mo_minus mo_low mo_function mo_atX mo_atM mo_spanFunction mo_spanRounding mo_spanMany mo_parts mo_shift moR_r (-1 : Int32) _ _ rfl ho) (cwV 1 hts gX8_fits_X8_refuse rfl rfl rfl (by decide +kernel) ⟨hRf _ (Nat.le_of_ble_eq_true rfl), hRl _ (Nat.le_of_ble_eq_true rfl)⟩) hK hN hP hD hS hA [0, 1] [] [0, 1] rfl rfl (by decide) (by decide) (by decide) (by decide) (fun _ => rfl) 0 7 rfl rfl rfl rfl hl.1 rfl (Nat.le_of_ble_eq_true rfl) dX8_fits_60 ⟨Nat.zero_le _, Nat.zero_le _⟩ (fun r60 u60 H locs ho hP hD hS => ?_)
    try dsimp only at ho
    replace hP : va_P D vwCl [(a_mo, oX8 a_moR mo_e mo_f mo_codes mo_most mo_minus mo_low mo_function mo_atX mo_atM a_moK a_moH a_moS mo_spanFunction mo_spanRounding mo_spanMany a_moF a_moT mo_parts mo_shift a_moP a_moQ a_moA a_moB a_moD), (a_moR, .inl (cI, 7, .inl u60))] H := hP
    replace hD : va_D A [(a_mo, oX8 a_moR mo_e mo_f mo_codes mo_most mo_minus mo_low mo_function mo_atX mo_atM a_moK a_moH a_moS mo_spanFunction mo_spanRounding mo_spanMany a_moF a_moT mo_parts mo_shift a_moP a_moQ a_moA a_moB a_moD), (a_moR, .inl (cI, 7, .inl u60))] := hD
    subst hQ; exact W.iret (v := r60) hx hb hr (fun t ht hW => ⟨⟨r60, (mo_function, mo_atX, mo_atM, u60), rfl, ho, by rw [ht]; exact hP, hD⟩, hS.F ht⟩) (fun q hq => hS.2.2 q hq) dX8_fits_63
  unfold wp_X8_fits at ho
  refine lv_iload_n hx hb dX8_fits_0 rfl (lv_at hl 1 rfl) ?_
  refine ca_Si (As := [.int p1]) (rest := []) ⟨hx, hb, hml, hown, hts⟩ (c_X8_isFunction l D cI cJ cZ   p1 _ ho) (va_cwS 1 hts gX8_fits_X8_isFunction rfl rfl rfl (by decide +kernel) ⟨hRf _ (Nat.le_of_ble_eq_true rfl), hRl _ (Nat.le_of_ble_eq_true rfl)⟩) hK hN hP [] rfl rfl hl.1 rfl (Nat.le_of_ble_eq_true rfl) dX8_fits_1 ⟨Nat.zero_le _, Nat.zero_le _⟩ (fun r1 ho => ?_)
  refine lv_if_eq (tgt := 58) hx hb dX8_fits_4 (by decide) (fun c_4 => ?_) (fun c_4 => ?_)
  · replace ho := ho.1 c_4
    exact C_58 mo_function mo_atX mo_atM moR_r H locs ls ho hP hD hS (lv_sub hl [0] rfl)
  · replace ho := ho.2 c_4
    refine lv_iload_n hx hb dX8_fits_7 rfl (lv_at hl 2 rfl) ?_
    refine lv_iconst (v := 5) hx hb dX8_fits_8 (by decide) ?_
    refine ca_Si (As := [.int p2, .int (5 : Int32)]) (rest := []) ⟨hx, hb, hml, hown, hts⟩ (c_X8_isIn l D cI cJ cZ   p2 (5 : Int32) _ ho) (va_cwS 2 hts gX8_fits_X8_isIn rfl rfl rfl (by decide +kernel) ⟨hRf _ (Nat.le_of_ble_eq_true rfl), hRl _ (Nat.le_of_ble_eq_true rfl)⟩) hK hN hP [] rfl rfl hl.1 rfl (Nat.le_of_ble_eq_true rfl) dX8_fits_9 ⟨Nat.zero_le _, Nat.zero_le _⟩ (fun r9 ho => ?_)
    refine lv_if_eq (tgt := 58) hx hb dX8_fits_12 (by decide) (fun c_12 => ?_) (fun c_12 => ?_)
    · replace ho := ho.1 c_12
      exact C_58 mo_function mo_atX mo_atM moR_r H locs ls ho hP hD hS (lv_sub hl [0] rfl)
    · replace ho := ho.2 c_12
      refine lv_aload_n hx hb dX8_fits_15 rfl (lv_at hl 0 rfl) ?_
      refine lv_iload_n hx hb dX8_fits_16 rfl (lv_at hl 3 rfl) ?_
      refine ca_Vi (b := a_mo) (As := [.int p3]) (rest := []) ⟨hx, hb, hml, hown, hts⟩ (c_X8_isPower l D cI cJ cZ a_mo a_moR a_moK a_moH a_moS a_moF a_moT a_moP a_moQ a_moA a_moB a_moD mo_e mo_f mo_codes mo_most mo_minus mo_low mo_function mo_atX mo_atM mo_spanFunction mo_spanRounding mo_spanMany mo_parts mo_shift p3 _ ho) (cwV 1 hts gX8_fits_X8_isPower rfl rfl rfl (by decide +kernel) ⟨hRf _ (Nat.le_of_ble_eq_true rfl), hRl _ (Nat.le_of_ble_eq_true rfl)⟩) hK hN hP [0] rfl 0 7 rfl rfl rfl rfl hl.1 rfl (Nat.le_of_ble_eq_true rfl) dX8_fits_17 ⟨Nat.zero_le _, Nat.zero_le _⟩ (fun r17 ho => ?_)
      refine lv_if_eq (tgt := 58) hx hb dX8_fits_20 (by decide) (fun c_20 => ?_) (fun c_20 => ?_)
      · replace ho := ho.1 c_20
        exact C_58 mo_function mo_atX mo_atM moR_r H locs ls ho hP hD hS (lv_sub hl [0] rfl)
      · replace ho := ho.2 c_20
        refine lv_iload hx hb dX8_fits_23 (lv_at hl 4 rfl) ?_
        refine lv_iconst (v := 1) hx hb dX8_fits_25 (by decide) ?_
        refine lv_aload_n hx hb dX8_fits_26 rfl (lv_at hl 0 rfl) ?_
        refine va_get (D := D) (ci := 7) (v := .int mo_f) (C := RX8) (T := TX8) (N := 25) hx hb hts in_X8_fits_X8 hown hK hP 0 rfl rfl 2 (by decide) (hts (.fieldLink RX8 59 "HardBenchModel" "f" "I") (List.mem_of_getElem? (i := 1) (by decide +kernel))) (fun _ h9 => h9) rfl dX8_fits_27 ?_
        refine lv_ishl hx hb dX8_fits_30 ?_
        refine ca_Si (As := [.int p4, .int ((1 : Int32) <<< (mo_f &&& 31))]) (rest := []) ⟨hx, hb, hml, hown, hts⟩ (c_X8_isIn l D cI cJ cZ   p4 ((1 : Int32) <<< (mo_f &&& 31)) _ ho) (va_cwS 2 hts gX8_fits_X8_isIn rfl rfl rfl (by decide +kernel) ⟨hRf _ (Nat.le_of_ble_eq_true rfl), hRl _ (Nat.le_of_ble_eq_true rfl)⟩) hK hN hP [] rfl rfl hl.1 rfl (Nat.le_of_ble_eq_true rfl) dX8_fits_31 ⟨Nat.zero_le _, Nat.zero_le _⟩ (fun r31 ho => ?_)
        refine lv_if_eq (tgt := 58) hx hb dX8_fits_34 (by decide) (fun c_34 => ?_) (fun c_34 => ?_)
        · replace ho := ho.1 c_34
          exact C_58 mo_function mo_atX mo_atM moR_r H locs ls ho hP hD hS (lv_sub hl [0] rfl)
        · replace ho := ho.2 c_34
          refine lv_iload hx hb dX8_fits_37 (lv_at hl 5 rfl) ?_
          refine lv_iconst (v := 1) hx hb dX8_fits_39 (by decide) ?_
          refine lv_aload_n hx hb dX8_fits_40 rfl (lv_at hl 0 rfl) ?_
          refine va_get (D := D) (ci := 7) (v := .int mo_f) (C := RX8) (T := TX8) (N := 25) hx hb hts in_X8_fits_X8 hown hK hP 0 rfl rfl 2 (by decide) (hts (.fieldLink RX8 59 "HardBenchModel" "f" "I") (List.mem_of_getElem? (i := 1) (by decide +kernel))) (fun _ h9 => h9) rfl dX8_fits_41 ?_
          refine lv_ishl hx hb dX8_fits_44 ?_
          refine ca_Si (As := [.int p5, .int ((1 : Int32) <<< (mo_f &&& 31))]) (rest := []) ⟨hx, hb, hml, hown, hts⟩ (c_X8_isIn l D cI cJ cZ   p5 ((1 : Int32) <<< (mo_f &&& 31)) _ ho) (va_cwS 2 hts gX8_fits_X8_isIn rfl rfl rfl (by decide +kernel) ⟨hRf _ (Nat.le_of_ble_eq_true rfl), hRl _ (Nat.le_of_ble_eq_true rfl)⟩) hK hN hP [] rfl rfl hl.1 rfl (Nat.le_of_ble_eq_true rfl) dX8_fits_45 ⟨Nat.zero_le _, Nat.zero_le _⟩ (fun r45 ho => ?_)
          refine lv_if_eq (tgt := 58) hx hb dX8_fits_48 (by decide) (fun c_48 => ?_) (fun c_48 => ?_)
          · replace ho := ho.1 c_48
            exact C_58 mo_function mo_atX mo_atM moR_r H locs ls ho hP hD hS (lv_sub hl [0] rfl)
          · replace ho := ho.2 c_48
            refine lv_iload hx hb dX8_fits_51 (lv_at hl 4 rfl) ?_
            refine lv_iload hx hb dX8_fits_53 (lv_at hl 5 rfl) ?_
            refine lv_icmp_le (tgt := 64) hx hb dX8_fits_55 (by decide) (fun c_55 => ?_) (fun c_55 => ?_)
            · replace ho := ho.1 c_55
              refine lv_iload hx hb dX8_fits_64 (lv_at hl 6 rfl) ?_
              refine lv_ldc hx hb hown (hts (.constant RX8 222 (-1000000000)) (List.mem_of_getElem? (i := 2) (by decide +kernel))) dX8_fits_66 ?_
              refine lv_icmp_lt (tgt := 83) hx hb dX8_fits_68 (by decide) (fun c_68 => ?_) (fun c_68 => ?_)
              · replace ho := ho.1 c_68
                exact C_83 mo_function mo_atX mo_atM moR_r H locs ls ho hP hD hS (lv_sub hl [0] rfl)
              · replace ho := ho.2 c_68
                refine lv_iload hx hb dX8_fits_71 (lv_at hl 7 rfl) ?_
                refine lv_ldc hx hb hown (hts (.constant RX8 222 (-1000000000)) (List.mem_of_getElem? (i := 2) (by decide +kernel))) dX8_fits_73 ?_
                refine lv_icmp_lt (tgt := 83) hx hb dX8_fits_75 (by decide) (fun c_75 => ?_) (fun c_75 => ?_)
                · replace ho := ho.1 c_75
                  exact C_83 mo_function mo_atX mo_atM moR_r H locs ls ho hP hD hS (lv_sub hl [0] rfl)
                · replace ho := ho.2 c_75
                  refine lv_iload hx hb dX8_fits_78 (lv_at hl 8 rfl) ?_
                  refine lv_if_ge (tgt := 90) hx hb dX8_fits_80 (by decide) (fun c_80 => ?_) (fun c_80 => ?_)
                  · replace ho := ho.1 c_80
                    refine lv_iload hx hb dX8_fits_90 (lv_at hl 6 rfl) ?_
                    refine lv_ldc hx hb hown (hts (.constant RX8 50 (1000000000)) (List.mem_of_getElem? (i := 3) (by decide +kernel))) dX8_fits_92 ?_
                    refine lv_icmp_gt (tgt := 111) hx hb dX8_fits_94 (by decide) (fun c_94 => ?_) (fun c_94 => ?_)
                    · replace ho := ho.1 c_94
                      exact C_111 mo_function mo_atX mo_atM moR_r H locs ls ho hP hD hS (lv_sub hl [0] rfl)
                    · replace ho := ho.2 c_94
                      refine lv_iload hx hb dX8_fits_97 (lv_at hl 7 rfl) ?_
                      refine lv_ldc hx hb hown (hts (.constant RX8 50 (1000000000)) (List.mem_of_getElem? (i := 3) (by decide +kernel))) dX8_fits_99 ?_
                      refine lv_icmp_gt (tgt := 111) hx hb dX8_fits_101 (by decide) (fun c_101 => ?_) (fun c_101 => ?_)
                      · replace ho := ho.1 c_101
                        exact C_111 mo_function mo_atX mo_atM moR_r H locs ls ho hP hD hS (lv_sub hl [0] rfl)
                      · replace ho := ho.2 c_101
                        refine lv_iload hx hb dX8_fits_104 (lv_at hl 8 rfl) ?_
                        refine lv_bipush (v := 10) hx hb dX8_fits_106 (by decide) ?_
                        refine lv_icmp_le (tgt := 118) hx hb dX8_fits_108 (by decide) (fun c_108 => ?_) (fun c_108 => ?_)
                        · replace ho := ho.1 c_108
                          refine lv_iload hx hb dX8_fits_118 (lv_at hl 4 rfl) ?_
                          refine lv_istore (lv' := [(9, .int p4), (0, .ref a_mo), (1, .int p1), (2, .int p2), (3, .int p3), (4, .int p4), (5, .int p5), (6, .int p6), (7, .int p7), (8, .int p8)]) hx hb dX8_fits_120 hl (by decide) rfl (fun ls hl => ?_)
                          obtain ⟨n_122, ho⟩ := ho
                          exact C_122 n_122 mo_function mo_atX mo_atM moR_r p4 H locs ls ho hP hD hS (lv_sub hl [1, 2, 3, 4, 6, 7, 8, 9, 0] rfl)
                        · replace ho := ho.2 c_108
                          exact C_111 mo_function mo_atX mo_atM moR_r H locs ls ho hP hD hS (lv_sub hl [0] rfl)
                  · replace ho := ho.2 c_80
                    exact C_83 mo_function mo_atX mo_atM moR_r H locs ls ho hP hD hS (lv_sub hl [0] rfl)
            · replace ho := ho.2 c_55
              exact C_58 mo_function mo_atX mo_atM moR_r H locs ls ho hP hD hS (lv_sub hl [0] rfl)

def wp_X8_status_22 (post : Int32 → Prop)  (mo_e : Int32) (mo_f : Int32) (mo_codes : Int32) (mo_parts : Int32) (p1 : Int32) : Prop := ((p1 = (0 : Int32)) → (post mo_e)) ∧ ((¬ (p1 = (0 : Int32))) → (((p1 = (1 : Int32)) → (post mo_f)) ∧ ((¬ (p1 = (1 : Int32))) → (((p1 = (2 : Int32)) → (post mo_codes)) ∧ ((¬ (p1 = (2 : Int32))) → (((p1 = (3 : Int32)) → (((0 ≤ mo_parts) → (post (1 : Int32))) ∧ ((¬ (0 ≤ mo_parts)) → (post (0 : Int32))))) ∧ ((¬ (p1 = (3 : Int32))) → (((p1 = (4 : Int32)) → (post (if (0 : Int32) < mo_parts then mo_parts else (0 : Int32)))) ∧ ((¬ (p1 = (4 : Int32))) → (post (-9 : Int32)))))))))))
def wp_X8_status (post : Int32 → Prop) (mo_e : Int32) (mo_f : Int32) (mo_codes : Int32) (mo_parts : Int32) (moR_r : Nat → Int32) (p1 : Int32) : Prop := ((p1 ≤ (10 : Int32)) → (wp_X8_status_22 post mo_e mo_f mo_codes mo_parts p1)) ∧ ((¬ (p1 ≤ (10 : Int32))) → ((((17 : Int32) ≤ p1) → (wp_X8_status_22 post mo_e mo_f mo_codes mo_parts p1)) ∧ ((¬ ((17 : Int32) ≤ p1)) → ((vp_in (p1 - (10 : Int32)) 7) ∧ (post (moR_r (p1 - (10 : Int32)).toNatClampNeg))))))
set_option maxRecDepth 20000 in
theorem in_X8_status_X8 : ∀ w ∈ u_ws RX8 TX8 25, w ∈ wsX8_status := fun w h => (goodIn_r wsX80 [10, 11, 12, 13, 14, 15, 16, 17, 18, 19, 20, 21, 22, 23, 24, 25, 26, 27, 28, 29, 30, 31, 32, 33, 34] (by decide +kernel) (by decide +kernel) w h).1
set_option maxHeartbeats 4000000 in
set_option maxRecDepth 100000 in
theorem c_X8_status (l : Launch) (D : va_G) (cI cJ cZ : ClassId) (a_mo : Nat) (a_moR : Nat) (a_moK : Nat) (a_moH : Nat) (a_moS : Nat) (a_moF : Nat) (a_moT : Nat) (a_moP : Nat) (a_moQ : Nat) (a_moA : Nat) (a_moB : Nat) (a_moD : Nat) (mo_e : Int32) (mo_f : Int32) (mo_codes : Int32) (mo_most : Int32) (mo_minus : Int32) (mo_low : Int32) (mo_function : Int32) (mo_atX : Int32) (mo_atM : Int64) (mo_spanFunction : Int32) (mo_spanRounding : Int32) (mo_spanMany : Int32) (mo_parts : Int32) (mo_shift : Int32) (moR_r : Nat → Int32) (p1 : Int32) (post : Int32 → Prop) (ho : wp_X8_status post mo_e mo_f mo_codes mo_parts moR_r p1) : Met l yX8_status wsX8_status ({ frames := 1, cells := 0, slots := 0, locals := 21 } : Room) (ro_P D [(cI, .int), (cJ, .long), (cZ, .boolean)] [.ref a_mo, .int p1] [(a_mo, oX8 a_moR mo_e mo_f mo_codes mo_most mo_minus mo_low mo_function mo_atX mo_atM a_moK a_moH a_moS mo_spanFunction mo_spanRounding mo_spanMany a_moF a_moT mo_parts mo_shift a_moP a_moQ a_moA a_moB a_moD), (a_moR, .inl (cI, 7, .inl moR_r))]) (vp_Si post) 0 0 (fun _ => False) := by
  refine Met.ofW (cc := cX8_status) (maxL := 2) (ret := (some .int)) (by decide) rfl ?_
  intro p e s m args below meth c s₁ B hml hv
  obtain ⟨hargs, hP, hK, hN⟩ := hv
  have hx := B.exec
  have hb := B.bytes
  have hr := B.returns
  have hts := atoms_spec (ws := wsX8_status) B.pre
  have hown : s.vm.findClass RX8 = some m.cls := findClass_of_methodNamed B.named
  have hlocks := B.notSynchronized
  have hl := lv_entry ([.ref a_mo, .int p1]) (n := 2) (Nat.le_of_ble_eq_true rfl)
  rw [hargs, lg_entry_eq, ← hargs]
  generalize (lg_sl ([.ref a_mo, .int p1]) ++ List.replicate (2 - (lg_sl ([.ref a_mo, .int p1])).length) Slot.unset).toArray = ls at hl ⊢
  replace hl : lv_has ls 2 [(0, .ref a_mo), (1, .int p1)] := hl
  have hRf : ∀ n, n ≤ 1 → n ≤ (headSpec wsX8_status ({ frames := 1, cells := 0, slots := 0, locals := 21 } : Room)).room.frames := fun n h => h
  have hRl : ∀ n, n ≤ 21 → n ≤ (headSpec wsX8_status ({ frames := 1, cells := 0, slots := 0, locals := 21 } : Room)).room.locals := fun n h => h
  generalize (headSpec wsX8_status ({ frames := 1, cells := 0, slots := 0, locals := 21 } : Room)).room = R at hRf hRl ⊢
  generalize hQ : MQ below _ args s 0 0 _ = Q
  have C_22 : ∀  (ls : Array Slot), wp_X8_status_22 post  mo_e mo_f mo_codes mo_parts p1 → lv_has ls 2 [(0, .ref a_mo), (1, .int p1)] → W p l e R s m args below meth c s.heap [] 0 0 Q (F0 m 22 ls []) := by
    intro  ls ho hl
    unfold wp_X8_status_22 at ho
    refine lv_iload_n hx hb dX8_status_22 rfl (lv_at hl 1 rfl) ?_
    refine lv_topi (fun z_23 ez_23 => ?_)
    rw [← ez_23] at ho
    by_cases n_23_0 : z_23 = 0
    · replace ho := ho.1 n_23_0
      subst n_23_0
      refine lv_tableIn (tgt := 56) hx hb dX8_status_23 (by decide) (by decide) rfl (by decide) ?_
      refine lv_aload_n hx hb dX8_status_56 rfl (lv_at hl 0 rfl) ?_
      refine va_get (D := D) (ci := 7) (v := .int mo_e) (C := RX8) (T := TX8) (N := 25) hx hb hts in_X8_status_X8 hown hK hP 0 rfl rfl 1 (by decide) (hts (.fieldLink RX8 55 "HardBenchModel" "e" "I") (List.mem_of_getElem? (i := 2) (by decide +kernel))) (fun _ h9 => h9) rfl dX8_status_57 ?_
      subst hQ; exact W.iret (v := mo_e) hx hb hr (fun t ht _ => ⟨mo_e, rfl, ho, ht⟩) (fun _ h => by cases h) dX8_status_60
    replace ho := ho.2 n_23_0
    by_cases n_23_1 : z_23 = 1
    · replace ho := ho.1 n_23_1
      subst n_23_1
      refine lv_tableIn (tgt := 61) hx hb dX8_status_23 (by decide) (by decide) rfl (by decide) ?_
      refine lv_aload_n hx hb dX8_status_61 rfl (lv_at hl 0 rfl) ?_
      refine va_get (D := D) (ci := 7) (v := .int mo_f) (C := RX8) (T := TX8) (N := 25) hx hb hts in_X8_status_X8 hown hK hP 0 rfl rfl 2 (by decide) (hts (.fieldLink RX8 59 "HardBenchModel" "f" "I") (List.mem_of_getElem? (i := 3) (by decide +kernel))) (fun _ h9 => h9) rfl dX8_status_62 ?_
      subst hQ; exact W.iret (v := mo_f) hx hb hr (fun t ht _ => ⟨mo_f, rfl, ho, ht⟩) (fun _ h => by cases h) dX8_status_65
    replace ho := ho.2 n_23_1
    by_cases n_23_2 : z_23 = 2
    · replace ho := ho.1 n_23_2
      subst n_23_2
      refine lv_tableIn (tgt := 66) hx hb dX8_status_23 (by decide) (by decide) rfl (by decide) ?_
      refine lv_aload_n hx hb dX8_status_66 rfl (lv_at hl 0 rfl) ?_
      refine va_get (D := D) (ci := 7) (v := .int mo_codes) (C := RX8) (T := TX8) (N := 25) hx hb hts in_X8_status_X8 hown hK hP 0 rfl rfl 3 (by decide) (hts (.fieldLink RX8 62 "HardBenchModel" "codes" "I") (List.mem_of_getElem? (i := 4) (by decide +kernel))) (fun _ h9 => h9) rfl dX8_status_67 ?_
      subst hQ; exact W.iret (v := mo_codes) hx hb hr (fun t ht _ => ⟨mo_codes, rfl, ho, ht⟩) (fun _ h => by cases h) dX8_status_70
    replace ho := ho.2 n_23_2
    by_cases n_23_3 : z_23 = 3
    · replace ho := ho.1 n_23_3
      subst n_23_3
      refine lv_tableIn (tgt := 71) hx hb dX8_status_23 (by decide) (by decide) rfl (by decide) ?_
      refine lv_aload_n hx hb dX8_status_71 rfl (lv_at hl 0 rfl) ?_
      refine va_get (D := D) (ci := 7) (v := .int mo_parts) (C := RX8) (T := TX8) (N := 25) hx hb hts in_X8_status_X8 hown hK hP 0 rfl rfl 18 (by decide) (hts (.fieldLink RX8 74 "HardBenchModel" "parts" "I") (List.mem_of_getElem? (i := 5) (by decide +kernel))) (fun _ h9 => h9) rfl dX8_status_72 ?_
      refine lv_if_ge (tgt := 82) hx hb dX8_status_75 (by decide) (fun c_75 => ?_) (fun c_75 => ?_)
      · replace ho := ho.1 c_75
        refine lv_iconst (v := 1) hx hb dX8_status_82 (by decide) ?_
        subst hQ; exact W.iret (v := (1 : Int32)) hx hb hr (fun t ht _ => ⟨(1 : Int32), rfl, ho, ht⟩) (fun _ h => by cases h) dX8_status_83
      · replace ho := ho.2 c_75
        refine lv_iconst (v := 0) hx hb dX8_status_78 (by decide) ?_
        refine lv_goto (tgt := 83) hx hb dX8_status_79 (by decide) ?_
        subst hQ; exact W.iret (v := (0 : Int32)) hx hb hr (fun t ht _ => ⟨(0 : Int32), rfl, ho, ht⟩) (fun _ h => by cases h) dX8_status_83
    replace ho := ho.2 n_23_3
    by_cases n_23_4 : z_23 = 4
    · replace ho := ho.1 n_23_4
      subst n_23_4
      refine lv_tableIn (tgt := 84) hx hb dX8_status_23 (by decide) (by decide) rfl (by decide) ?_
      refine lv_iconst (v := 0) hx hb dX8_status_84 (by decide) ?_
      refine lv_aload_n hx hb dX8_status_85 rfl (lv_at hl 0 rfl) ?_
      refine va_get (D := D) (ci := 7) (v := .int mo_parts) (C := RX8) (T := TX8) (N := 25) hx hb hts in_X8_status_X8 hown hK hP 0 rfl rfl 18 (by decide) (hts (.fieldLink RX8 74 "HardBenchModel" "parts" "I") (List.mem_of_getElem? (i := 5) (by decide +kernel))) (fun _ h9 => h9) rfl dX8_status_86 ?_
      refine va_mmax hx hb (hml.trans hl.1.symm) hown (hts (.methodLink RX8 181 Lib.Math.max.name) (List.mem_of_getElem? (i := 6) (by decide +kernel))) (hts (.static Lib.Math.max.name) (List.mem_of_getElem? (i := 7) (by decide +kernel))) (hts (.initialized "java/lang/Math") (List.mem_of_getElem? (i := 8) (by decide +kernel))) (hts (.code Lib.Math.max.name Lib.Math.max.code 2 (some .int)) (List.mem_of_getElem? (i := 9) (by decide +kernel))) (hRf 1 (Nat.le_of_ble_eq_true rfl)) (hRl _ (Nat.le_of_ble_eq_true rfl)) (Nat.zero_le _) (Nat.zero_le _) dX8_status_89 ?_
      subst hQ; exact W.iret (v := (if (0 : Int32) < mo_parts then mo_parts else (0 : Int32))) hx hb hr (fun t ht _ => ⟨(if (0 : Int32) < mo_parts then mo_parts else (0 : Int32)), rfl, ho, ht⟩) (fun _ h => by cases h) dX8_status_92
    replace ho := ho.2 n_23_4
    refine lv_tableOut (tgt := 93) hx hb dX8_status_23 (by have q_23_0 := lv_neT (a := 0) n_23_0 rfl; have q_23_1 := lv_neT (a := 1) n_23_1 rfl; have q_23_2 := lv_neT (a := 2) n_23_2 rfl; have q_23_3 := lv_neT (a := 3) n_23_3 rfl; have q_23_4 := lv_neT (a := 4) n_23_4 rfl; omega) (by decide) ?_
    refine lv_bipush (v := (-9)) hx hb dX8_status_93 (by decide) ?_
    subst hQ; exact W.iret (v := (-9 : Int32)) hx hb hr (fun t ht _ => ⟨(-9 : Int32), rfl, ho, ht⟩) (fun _ h => by cases h) dX8_status_95
  unfold wp_X8_status at ho
  refine lv_iload_n hx hb dX8_status_0 rfl (lv_at hl 1 rfl) ?_
  refine lv_bipush (v := 10) hx hb dX8_status_1 (by decide) ?_
  refine lv_icmp_le (tgt := 22) hx hb dX8_status_3 (by decide) (fun c_3 => ?_) (fun c_3 => ?_)
  · replace ho := ho.1 c_3
    exact C_22  ls ho (lv_sub hl [0, 1] rfl)
  · replace ho := ho.2 c_3
    refine lv_iload_n hx hb dX8_status_6 rfl (lv_at hl 1 rfl) ?_
    refine lv_bipush (v := 17) hx hb dX8_status_7 (by decide) ?_
    refine lv_icmp_ge (tgt := 22) hx hb dX8_status_9 (by decide) (fun c_9 => ?_) (fun c_9 => ?_)
    · replace ho := ho.1 c_9
      exact C_22  ls ho (lv_sub hl [0, 1] rfl)
    · replace ho := ho.2 c_9
      refine lv_aload_n hx hb dX8_status_12 rfl (lv_at hl 0 rfl) ?_
      refine va_get (D := D) (ci := 7) (v := .ref a_moR) (C := RX8) (T := TX8) (N := 25) hx hb hts in_X8_status_X8 hown hK hP 0 rfl rfl 0 (by decide) (hts (.fieldLink RX8 7 "HardBenchModel" "refusals" "[I") (List.mem_of_getElem? (i := 1) (by decide +kernel))) (fun _ h9 => h9) rfl dX8_status_13 ?_
      refine lv_iload_n hx hb dX8_status_16 rfl (lv_at hl 1 rfl) ?_
      refine lv_bipush (v := 10) hx hb dX8_status_17 (by decide) ?_
      refine lv_isub hx hb dX8_status_19 ?_
      have o_20 := ho.1
      replace ho := ho.2
      refine va_iald hx hb hK hP 1 0 rfl rfl o_20 dX8_status_20 ?_
      subst hQ; exact W.iret (v := (moR_r (p1 - (10 : Int32)).toNatClampNeg)) hx hb hr (fun t ht _ => ⟨(moR_r (p1 - (10 : Int32)).toNatClampNeg), rfl, ho, ht⟩) (fun _ h => by cases h) dX8_status_21
