def w_X5_init : List Cond := .code yX5_init cX5_init 3 none :: wsL_law
set_option maxHeartbeats 4000000 in
set_option maxRecDepth 100000 in
theorem i_X5_init (l : Launch) (D : va_G) (cI cJ cZ : ClassId) (a_st : Nat) (a_fl : Nat) (a_va : Nat) (sz : Nat) (A : Nat → Prop) (hAe : A = va_A [(a_st, .inr (4, [.null, .null, .null, .null]))] sz) : Met l yX5_init w_X5_init ({ frames := 1, cells := 2, slots := 825, locals := 20 } : Room) (rw_P D [(cI, .int), (cJ, .long), (cZ, .boolean)] [.ref a_st, .ref a_fl, .ref a_va] sz [(a_st, .inr (4, [.null, .null, .null, .null]))]) (va_Qv (fun (_ : Nat × Nat) => True) (rw_B D A (fun (u : Nat × Nat) => [(a_st, .inr (4, [.ref a_fl, .ref a_va, .ref u.1, .ref u.2])), (u.1, .inl (cI, 25, .inl (fun _ => 0))), (u.2, .inl (cI, 800, .inl (fun _ => 0)))])) A) 2 825 A := by
  refine Met.ofW (cc := cX5_init) (maxL := 3) (ret := none) (by decide) rfl ?_
  intro p e s m args below meth c s₁ B hml hv
  obtain ⟨hargs, hsz, hP, hK, hN, hD0⟩ := hv
  have hx := B.exec
  have hb := B.bytes
  have hr := B.returns
  have hts : ∀ w ∈ wsL_law, w.before args s = true := fun w h => atoms_spec (ws := w_X5_init) B.pre w (List.mem_cons_of_mem _ h)
  have hown : s.vm.findClass RX5 = some m.cls := findClass_of_methodNamed B.named
  have hlocks := B.notSynchronized
  have hin : meth.name = "<init>" := (name_of_methodNamed B.named B.method).1
  subst hsz
  have hD : va_D A [(a_st, .inr (4, [.null, .null, .null, .null]))] := by rw [hAe]; exact hD0.self
  have hA : ∀ q : Nat, s.heap.size ≤ q → A q := fun q h => by rw [hAe]; exact Or.inr h
  have hS : va_S A s.heap s.heap [] := va_S.rf
  have hl := lv_entry ([.ref a_st, .ref a_fl, .ref a_va]) (n := 3) (Nat.le_of_ble_eq_true rfl)
  rw [hargs, lg_entry_eq, ← hargs]
  generalize (lg_sl ([.ref a_st, .ref a_fl, .ref a_va]) ++ List.replicate (3 - (lg_sl ([.ref a_st, .ref a_fl, .ref a_va])).length) Slot.unset).toArray = ls at hl ⊢
  replace hl : lv_has ls 3 [(0, .ref a_st), (1, .ref a_fl), (2, .ref a_va)] := hl
  have hRf : ∀ n, n ≤ 1 → n ≤ (headSpec w_X5_init ({ frames := 1, cells := 2, slots := 825, locals := 20 } : Room)).room.frames := fun n h => h
  have hRl : ∀ n, n ≤ 20 → n ≤ (headSpec w_X5_init ({ frames := 1, cells := 2, slots := 825, locals := 20 } : Room)).room.locals := fun n h => h
  have hRc : ∀ n, n ≤ 2 → n ≤ (headSpec w_X5_init ({ frames := 1, cells := 2, slots := 825, locals := 20 } : Room)).room.cells := fun n h => h
  have hRs : ∀ n, n ≤ 825 → n ≤ (headSpec w_X5_init ({ frames := 1, cells := 2, slots := 825, locals := 20 } : Room)).room.slots := fun n h => h
  generalize (headSpec w_X5_init ({ frames := 1, cells := 2, slots := 825, locals := 20 } : Room)).room = R at hRf hRl hRc hRs ⊢
  generalize hQ : MQ below _ args s 2 825 _ = Q
  suffices main : ∀ (H : Heap) (locs : List Loc), va_P D vwCl [(a_st, .inr (4, [.null, .null, .null, .null]))] H → va_S A s.heap H locs → W p l e R s m args below meth c H locs 0 0 Q (F0 m 0 ls []) from main _ _ hP hS
  intro H locs hP hS
  refine lv_aload_n hx hb dX5_init_0 rfl (lv_at hl 0 rfl) ?_
  refine W.objInit hx hb hown (hts _ wl_79) (hts _ wl_10) (hts _ wl_11) rfl (hl.1.trans hml.symm) rfl dX5_init_1 (hRf _ (Nat.le_of_ble_eq_true rfl)) (hRl _ (Nat.le_of_ble_eq_true rfl)) ?_
  refine W.eq (g2 := F0 m 4 ls []) rfl ?_
  refine lv_aload_n hx hb dX5_init_4 rfl (lv_at hl 0 rfl) ?_
  refine lv_aload_n hx hb dX5_init_5 rfl (lv_at hl 1 rfl) ?_
  refine va_putF (D := D) (ci := 4) (v := .ref a_fl) (ty := .object "HardBench$Floats") (C := RX5) (T := TX5) (N := 4) hx hb hts inlX5 tyX5 tyX5_ok nmX5 hown hK hP hD hS 0 rfl rfl 0 (by decide) (hts _ wl_80) (fun _ h9 => h9) rfl hin rfl (by decide +kernel) rfl rfl (Nat.le_of_ble_eq_true rfl) dX5_init_6 (fun H locs hP hD hS => ?_)
  replace hP : va_P D vwCl [(a_st, .inr (4, [.ref a_fl, .null, .null, .null]))] H := hP
  replace hD : va_D A [(a_st, .inr (4, [.ref a_fl, .null, .null, .null]))] := hD
  refine lv_aload_n hx hb dX5_init_9 rfl (lv_at hl 0 rfl) ?_
  refine lv_aload_n hx hb dX5_init_10 rfl (lv_at hl 2 rfl) ?_
  refine va_putF (D := D) (ci := 4) (v := .ref a_va) (ty := .object "HardBench$Value") (C := RX5) (T := TX5) (N := 4) hx hb hts inlX5 tyX5 tyX5_ok nmX5 hown hK hP hD hS 0 rfl rfl 1 (by decide) (hts _ wl_81) (fun _ h9 => h9) rfl hin rfl (by decide +kernel) rfl rfl (Nat.le_of_ble_eq_true rfl) dX5_init_11 (fun H locs hP hD hS => ?_)
  replace hP : va_P D vwCl [(a_st, .inr (4, [.ref a_fl, .ref a_va, .null, .null]))] H := hP
  replace hD : va_D A [(a_st, .inr (4, [.ref a_fl, .ref a_va, .null, .null]))] := hD
  refine lv_aload_n hx hb dX5_init_14 rfl (lv_at hl 0 rfl) ?_
  refine lv_bipush (v := 25) hx hb dX5_init_15 (by decide +kernel) ?_
  refine va_newa (atype := .int) hx hb (hts _ wl_36) rfl hK hP hD hS hA (n := 25) (N' := 25) (a0 := (25, .inl (fun _ => 0))) (fun _ => rfl) (by decide +kernel) (by decide +kernel) (by decide +kernel) (hRc (0 + 1) (by decide)) (hRs (0 + 25) (by decide)) dX5_init_17 (fun a_stT cA H hK2 hP hD hS => ?_)
  rw [cls_i hK2] at hP hD
  replace hP : va_P D vwCl [(a_st, .inr (4, [.ref a_fl, .ref a_va, .null, .null])), (a_stT, .inl (cI, 25, .inl (fun _ => 0)))] H := hP
  replace hD : va_D A [(a_st, .inr (4, [.ref a_fl, .ref a_va, .null, .null])), (a_stT, .inl (cI, 25, .inl (fun _ => 0)))] := hD
  refine W.widen (k := 1) (n := 25) (by decide) (by decide) ?_
  refine va_putF (D := D) (ci := 4) (v := .ref a_stT) (ty := .array .int) (C := RX5) (T := TX5) (N := 4) hx hb hts inlX5 tyX5 tyX5_ok nmX5 hown hK hP hD hS 0 rfl rfl 2 (by decide) (hts _ wl_82) (fun _ h9 => h9) rfl hin rfl (by decide +kernel) rfl rfl (Nat.le_of_ble_eq_true rfl) dX5_init_19 (fun H locs hP hD hS => ?_)
  replace hP : va_P D vwCl [(a_st, .inr (4, [.ref a_fl, .ref a_va, .ref a_stT, .null])), (a_stT, .inl (cI, 25, .inl (fun _ => 0)))] H := hP
  replace hD : va_D A [(a_st, .inr (4, [.ref a_fl, .ref a_va, .ref a_stT, .null])), (a_stT, .inl (cI, 25, .inl (fun _ => 0)))] := hD
  refine lv_aload_n hx hb dX5_init_22 rfl (lv_at hl 0 rfl) ?_
  refine lv_sipush (v := 800) hx hb dX5_init_23 (by decide +kernel) ?_
  refine va_newa (atype := .int) hx hb (hts _ wl_36) rfl hK hP hD hS hA (n := 800) (N' := 800) (a0 := (800, .inl (fun _ => 0))) (fun _ => rfl) (by decide +kernel) (by decide +kernel) (by decide +kernel) (hRc (1 + 1) (by decide)) (hRs (25 + 800) (by decide)) dX5_init_26 (fun a_stB cA H hK2 hP hD hS => ?_)
  rw [cls_i hK2] at hP hD
  replace hP : va_P D vwCl [(a_st, .inr (4, [.ref a_fl, .ref a_va, .ref a_stT, .null])), (a_stT, .inl (cI, 25, .inl (fun _ => 0))), (a_stB, .inl (cI, 800, .inl (fun _ => 0)))] H := hP
  replace hD : va_D A [(a_st, .inr (4, [.ref a_fl, .ref a_va, .ref a_stT, .null])), (a_stT, .inl (cI, 25, .inl (fun _ => 0))), (a_stB, .inl (cI, 800, .inl (fun _ => 0)))] := hD
  refine W.widen (k := 2) (n := 825) (by decide) (by decide) ?_
  refine va_putF (D := D) (ci := 4) (v := .ref a_stB) (ty := .array .int) (C := RX5) (T := TX5) (N := 4) hx hb hts inlX5 tyX5 tyX5_ok nmX5 hown hK hP hD hS 0 rfl rfl 3 (by decide) (hts _ wl_83) (fun _ h9 => h9) rfl hin rfl (by decide +kernel) rfl rfl (Nat.le_of_ble_eq_true rfl) dX5_init_28 (fun H locs hP hD hS => ?_)
  replace hP : va_P D vwCl [(a_st, .inr (4, [.ref a_fl, .ref a_va, .ref a_stT, .ref a_stB])), (a_stT, .inl (cI, 25, .inl (fun _ => 0))), (a_stB, .inl (cI, 800, .inl (fun _ => 0)))] H := hP
  replace hD : va_D A [(a_st, .inr (4, [.ref a_fl, .ref a_va, .ref a_stT, .ref a_stB])), (a_stT, .inl (cI, 25, .inl (fun _ => 0))), (a_stB, .inl (cI, 800, .inl (fun _ => 0)))] := hD
  subst hQ
  refine W.vret hx hb hr (fun t ht hW => ⟨⟨(a_stT, a_stB), rfl, ?_, ?_, ?_⟩, hS.F ht⟩) (fun q hq => hS.2.2 q hq) dX5_init_31
  · exact trivial
  · rw [ht]; exact hP
  · exact hD

