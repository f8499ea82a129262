def w_X0_init : List Cond := .code yX0_init cX0_init 3 none :: wsL_law
set_option maxHeartbeats 4000000 in
set_option maxRecDepth 100000 in
theorem i_X0_init (l : Launch) (D : va_G) (cI cJ cZ : ClassId) (a_ce : Nat) (a_fl : Nat) (a_va : Nat) (sz : Nat) (A : Nat → Prop) (hAe : A = va_A [(a_ce, .inr (0, [.null, .null, .null, .null, .null, .null, .null]))] sz) : Met l yX0_init w_X0_init ({ frames := 1, cells := 5, slots := 715, locals := 20 } : Room) (rw_P D [(cI, .int), (cJ, .long), (cZ, .boolean)] [.ref a_ce, .ref a_fl, .ref a_va] sz [(a_ce, .inr (0, [.null, .null, .null, .null, .null, .null, .null]))]) (va_Qv (fun (_ : Nat × Nat × Nat × Nat × Nat) => True) (rw_B D A (fun (u : Nat × Nat × Nat × Nat × Nat) => [(a_ce, .inr (0, [.ref a_fl, .ref a_va, .ref u.1, .ref u.2.1, .ref u.2.2.1, .ref u.2.2.2.1, .ref u.2.2.2.2])), (u.1, .inl (cI, 5, .inl (fun _ => 0))), (u.2.1, .inl (cI, 20, .inl (fun _ => 0))), (u.2.2.1, .inl (cI, 50, .inl (fun _ => 0))), (u.2.2.2.1, .inl (cI, 320, .inl (fun _ => 0))), (u.2.2.2.2, .inl (cI, 320, .inl (fun _ => 0)))])) A) 5 715 A := by
  refine Met.ofW (cc := cX0_init) (maxL := 3) (ret := none) (by decide) rfl ?_
  intro p e s m args below meth c s₁ B hml hv
  obtain ⟨hargs, hsz, hP, hK, hN, hD0⟩ := hv
  have hx := B.exec
  have hb := B.bytes
  have hr := B.returns
  have hts : ∀ w ∈ wsL_law, w.before args s = true := fun w h => atoms_spec (ws := w_X0_init) B.pre w (List.mem_cons_of_mem _ h)
  have hown : s.vm.findClass RX0 = some m.cls := findClass_of_methodNamed B.named
  have hlocks := B.notSynchronized
  have hin : meth.name = "<init>" := (name_of_methodNamed B.named B.method).1
  subst hsz
  have hD : va_D A [(a_ce, .inr (0, [.null, .null, .null, .null, .null, .null, .null]))] := by rw [hAe]; exact hD0.self
  have hA : ∀ q : Nat, s.heap.size ≤ q → A q := fun q h => by rw [hAe]; exact Or.inr h
  have hS : va_S A s.heap s.heap [] := va_S.rf
  have hl := lv_entry ([.ref a_ce, .ref a_fl, .ref a_va]) (n := 3) (Nat.le_of_ble_eq_true rfl)
  rw [hargs, lg_entry_eq, ← hargs]
  generalize (lg_sl ([.ref a_ce, .ref a_fl, .ref a_va]) ++ List.replicate (3 - (lg_sl ([.ref a_ce, .ref a_fl, .ref a_va])).length) Slot.unset).toArray = ls at hl ⊢
  replace hl : lv_has ls 3 [(0, .ref a_ce), (1, .ref a_fl), (2, .ref a_va)] := hl
  have hRf : ∀ n, n ≤ 1 → n ≤ (headSpec w_X0_init ({ frames := 1, cells := 5, slots := 715, locals := 20 } : Room)).room.frames := fun n h => h
  have hRl : ∀ n, n ≤ 20 → n ≤ (headSpec w_X0_init ({ frames := 1, cells := 5, slots := 715, locals := 20 } : Room)).room.locals := fun n h => h
  have hRc : ∀ n, n ≤ 5 → n ≤ (headSpec w_X0_init ({ frames := 1, cells := 5, slots := 715, locals := 20 } : Room)).room.cells := fun n h => h
  have hRs : ∀ n, n ≤ 715 → n ≤ (headSpec w_X0_init ({ frames := 1, cells := 5, slots := 715, locals := 20 } : Room)).room.slots := fun n h => h
  generalize (headSpec w_X0_init ({ frames := 1, cells := 5, slots := 715, locals := 20 } : Room)).room = R at hRf hRl hRc hRs ⊢
  generalize hQ : MQ below _ args s 5 715 _ = Q
  suffices main : ∀ (H : Heap) (locs : List Loc), va_P D vwCl [(a_ce, .inr (0, [.null, .null, .null, .null, .null, .null, .null]))] H → va_S A s.heap H locs → W p l e R s m args below meth c H locs 0 0 Q (F0 m 0 ls []) from main _ _ hP hS
  intro H locs hP hS
  refine lv_aload_n hx hb dX0_init_0 rfl (lv_at hl 0 rfl) ?_
  refine W.objInit hx hb hown (hts _ wl_68) (hts _ wl_10) (hts _ wl_11) rfl (hl.1.trans hml.symm) rfl dX0_init_1 (hRf _ (Nat.le_of_ble_eq_true rfl)) (hRl _ (Nat.le_of_ble_eq_true rfl)) ?_
  refine W.eq (g2 := F0 m 4 ls []) rfl ?_
  refine lv_aload_n hx hb dX0_init_4 rfl (lv_at hl 0 rfl) ?_
  refine lv_aload_n hx hb dX0_init_5 rfl (lv_at hl 1 rfl) ?_
  refine va_putF (D := D) (ci := 0) (v := .ref a_fl) (ty := .object "HardBench$Floats") (C := RX0) (T := TX0) (N := 7) hx hb hts inlX0 tyX0 tyX0_ok nmX0 hown hK hP hD hS 0 rfl rfl 0 (by decide) (hts _ wl_69) (fun _ h9 => h9) rfl hin rfl (by decide +kernel) rfl rfl (Nat.le_of_ble_eq_true rfl) dX0_init_6 (fun H locs hP hD hS => ?_)
  replace hP : va_P D vwCl [(a_ce, .inr (0, [.ref a_fl, .null, .null, .null, .null, .null, .null]))] H := hP
  replace hD : va_D A [(a_ce, .inr (0, [.ref a_fl, .null, .null, .null, .null, .null, .null]))] := hD
  refine lv_aload_n hx hb dX0_init_9 rfl (lv_at hl 0 rfl) ?_
  refine lv_aload_n hx hb dX0_init_10 rfl (lv_at hl 2 rfl) ?_
  refine va_putF (D := D) (ci := 0) (v := .ref a_va) (ty := .object "HardBench$Value") (C := RX0) (T := TX0) (N := 7) hx hb hts inlX0 tyX0 tyX0_ok nmX0 hown hK hP hD hS 0 rfl rfl 1 (by decide) (hts _ wl_70) (fun _ h9 => h9) rfl hin rfl (by decide +kernel) rfl rfl (Nat.le_of_ble_eq_true rfl) dX0_init_11 (fun H locs hP hD hS => ?_)
  replace hP : va_P D vwCl [(a_ce, .inr (0, [.ref a_fl, .ref a_va, .null, .null, .null, .null, .null]))] H := hP
  replace hD : va_D A [(a_ce, .inr (0, [.ref a_fl, .ref a_va, .null, .null, .null, .null, .null]))] := hD
  refine lv_aload_n hx hb dX0_init_14 rfl (lv_at hl 0 rfl) ?_
  refine lv_iconst (v := 5) hx hb dX0_init_15 (by decide +kernel) ?_
  refine va_newa (atype := .int) hx hb (hts _ wl_36) rfl hK hP hD hS hA (n := 5) (N' := 5) (a0 := (5, .inl (fun _ => 0))) (fun _ => rfl) (by decide +kernel) (by decide +kernel) (by decide +kernel) (hRc (0 + 1) (by decide)) (hRs (0 + 5) (by decide)) dX0_init_16 (fun a_ceT cA H hK2 hP hD hS => ?_)
  rw [cls_i hK2] at hP hD
  replace hP : va_P D vwCl [(a_ce, .inr (0, [.ref a_fl, .ref a_va, .null, .null, .null, .null, .null])), (a_ceT, .inl (cI, 5, .inl (fun _ => 0)))] H := hP
  replace hD : va_D A [(a_ce, .inr (0, [.ref a_fl, .ref a_va, .null, .null, .null, .null, .null])), (a_ceT, .inl (cI, 5, .inl (fun _ => 0)))] := hD
  refine W.widen (k := 1) (n := 5) (by decide) (by decide) ?_
  refine va_putF (D := D) (ci := 0) (v := .ref a_ceT) (ty := .array .int) (C := RX0) (T := TX0) (N := 7) hx hb hts inlX0 tyX0 tyX0_ok nmX0 hown hK hP hD hS 0 rfl rfl 2 (by decide) (hts _ wl_71) (fun _ h9 => h9) rfl hin rfl (by decide +kernel) rfl rfl (Nat.le_of_ble_eq_true rfl) dX0_init_18 (fun H locs hP hD hS => ?_)
  replace hP : va_P D vwCl [(a_ce, .inr (0, [.ref a_fl, .ref a_va, .ref a_ceT, .null, .null, .null, .null])), (a_ceT, .inl (cI, 5, .inl (fun _ => 0)))] H := hP
  replace hD : va_D A [(a_ce, .inr (0, [.ref a_fl, .ref a_va, .ref a_ceT, .null, .null, .null, .null])), (a_ceT, .inl (cI, 5, .inl (fun _ => 0)))] := hD
  refine lv_aload_n hx hb dX0_init_21 rfl (lv_at hl 0 rfl) ?_
  refine lv_bipush (v := 20) hx hb dX0_init_22 (by decide +kernel) ?_
  refine va_newa (atype := .int) hx hb (hts _ wl_36) rfl hK hP hD hS hA (n := 20) (N' := 20) (a0 := (20, .inl (fun _ => 0))) (fun _ => rfl) (by decide +kernel) (by decide +kernel) (by decide +kernel) (hRc (1 + 1) (by decide)) (hRs (5 + 20) (by decide)) dX0_init_24 (fun a_ceS cA H hK2 hP hD hS => ?_)
  rw [cls_i hK2] at hP hD
  replace hP : va_P D vwCl [(a_ce, .inr (0, [.ref a_fl, .ref a_va, .ref a_ceT, .null, .null, .null, .null])), (a_ceT, .inl (cI, 5, .inl (fun _ => 0))), (a_ceS, .inl (cI, 20, .inl (fun _ => 0)))] H := hP
  replace hD : va_D A [(a_ce, .inr (0, [.ref a_fl, .ref a_va, .ref a_ceT, .null, .null, .null, .null])), (a_ceT, .inl (cI, 5, .inl (fun _ => 0))), (a_ceS, .inl (cI, 20, .inl (fun _ => 0)))] := hD
  refine W.widen (k := 2) (n := 25) (by decide) (by decide) ?_
  refine va_putF (D := D) (ci := 0) (v := .ref a_ceS) (ty := .array .int) (C := RX0) (T := TX0) (N := 7) hx hb hts inlX0 tyX0 tyX0_ok nmX0 hown hK hP hD hS 0 rfl rfl 3 (by decide) (hts _ wl_72) (fun _ h9 => h9) rfl hin rfl (by decide +kernel) rfl rfl (Nat.le_of_ble_eq_true rfl) dX0_init_26 (fun H locs hP hD hS => ?_)
  replace hP : va_P D vwCl [(a_ce, .inr (0, [.ref a_fl, .ref a_va, .ref a_ceT, .ref a_ceS, .null, .null, .null])), (a_ceT, .inl (cI, 5, .inl (fun _ => 0))), (a_ceS, .inl (cI, 20, .inl (fun _ => 0)))] H := hP
  replace hD : va_D A [(a_ce, .inr (0, [.ref a_fl, .ref a_va, .ref a_ceT, .ref a_ceS, .null, .null, .null])), (a_ceT, .inl (cI, 5, .inl (fun _ => 0))), (a_ceS, .inl (cI, 20, .inl (fun _ => 0)))] := hD
  refine lv_aload_n hx hb dX0_init_29 rfl (lv_at hl 0 rfl) ?_
  refine lv_bipush (v := 50) hx hb dX0_init_30 (by decide +kernel) ?_
  refine va_newa (atype := .int) hx hb (hts _ wl_36) rfl hK hP hD hS hA (n := 50) (N' := 50) (a0 := (50, .inl (fun _ => 0))) (fun _ => rfl) (by decide +kernel) (by decide +kernel) (by decide +kernel) (hRc (2 + 1) (by decide)) (hRs (25 + 50) (by decide)) dX0_init_32 (fun a_ceH cA H hK2 hP hD hS => ?_)
  rw [cls_i hK2] at hP hD
  replace hP : va_P D vwCl [(a_ce, .inr (0, [.ref a_fl, .ref a_va, .ref a_ceT, .ref a_ceS, .null, .null, .null])), (a_ceT, .inl (cI, 5, .inl (fun _ => 0))), (a_ceS, .inl (cI, 20, .inl (fun _ => 0))), (a_ceH, .inl (cI, 50, .inl (fun _ => 0)))] H := hP
  replace hD : va_D A [(a_ce, .inr (0, [.ref a_fl, .ref a_va, .ref a_ceT, .ref a_ceS, .null, .null, .null])), (a_ceT, .inl (cI, 5, .inl (fun _ => 0))), (a_ceS, .inl (cI, 20, .inl (fun _ => 0))), (a_ceH, .inl (cI, 50, .inl (fun _ => 0)))] := hD
  refine W.widen (k := 3) (n := 75) (by decide) (by decide) ?_
  refine va_putF (D := D) (ci := 0) (v := .ref a_ceH) (ty := .array .int) (C := RX0) (T := TX0) (N := 7) hx hb hts inlX0 tyX0 tyX0_ok nmX0 hown hK hP hD hS 0 rfl rfl 4 (by decide) (hts _ wl_73) (fun _ h9 => h9) rfl hin rfl (by decide +kernel) rfl rfl (Nat.le_of_ble_eq_true rfl) dX0_init_34 (fun H locs hP hD hS => ?_)
  replace hP : va_P D vwCl [(a_ce, .inr (0, [.ref a_fl, .ref a_va, .ref a_ceT, .ref a_ceS, .ref a_ceH, .null, .null])), (a_ceT, .inl (cI, 5, .inl (fun _ => 0))), (a_ceS, .inl (cI, 20, .inl (fun _ => 0))), (a_ceH, .inl (cI, 50, .inl (fun _ => 0)))] H := hP
  replace hD : va_D A [(a_ce, .inr (0, [.ref a_fl, .ref a_va, .ref a_ceT, .ref a_ceS, .ref a_ceH, .null, .null])), (a_ceT, .inl (cI, 5, .inl (fun _ => 0))), (a_ceS, .inl (cI, 20, .inl (fun _ => 0))), (a_ceH, .inl (cI, 50, .inl (fun _ => 0)))] := hD
  refine lv_aload_n hx hb dX0_init_37 rfl (lv_at hl 0 rfl) ?_
  refine lv_sipush (v := 320) hx hb dX0_init_38 (by decide +kernel) ?_
  refine va_newa (atype := .int) hx hb (hts _ wl_36) rfl hK hP hD hS hA (n := 320) (N' := 320) (a0 := (320, .inl (fun _ => 0))) (fun _ => rfl) (by decide +kernel) (by decide +kernel) (by decide +kernel) (hRc (3 + 1) (by decide)) (hRs (75 + 320) (by decide)) dX0_init_41 (fun a_ceG cA H hK2 hP hD hS => ?_)
  rw [cls_i hK2] at hP hD
  replace hP : va_P D vwCl [(a_ce, .inr (0, [.ref a_fl, .ref a_va, .ref a_ceT, .ref a_ceS, .ref a_ceH, .null, .null])), (a_ceT, .inl (cI, 5, .inl (fun _ => 0))), (a_ceS, .inl (cI, 20, .inl (fun _ => 0))), (a_ceH, .inl (cI, 50, .inl (fun _ => 0))), (a_ceG, .inl (cI, 320, .inl (fun _ => 0)))] H := hP
  replace hD : va_D A [(a_ce, .inr (0, [.ref a_fl, .ref a_va, .ref a_ceT, .ref a_ceS, .ref a_ceH, .null, .null])), (a_ceT, .inl (cI, 5, .inl (fun _ => 0))), (a_ceS, .inl (cI, 20, .inl (fun _ => 0))), (a_ceH, .inl (cI, 50, .inl (fun _ => 0))), (a_ceG, .inl (cI, 320, .inl (fun _ => 0)))] := hD
  refine W.widen (k := 4) (n := 395) (by decide) (by decide) ?_
  refine va_putF (D := D) (ci := 0) (v := .ref a_ceG) (ty := .array .int) (C := RX0) (T := TX0) (N := 7) hx hb hts inlX0 tyX0 tyX0_ok nmX0 hown hK hP hD hS 0 rfl rfl 5 (by decide) (hts _ wl_74) (fun _ h9 => h9) rfl hin rfl (by decide +kernel) rfl rfl (Nat.le_of_ble_eq_true rfl) dX0_init_43 (fun H locs hP hD hS => ?_)
  replace hP : va_P D vwCl [(a_ce, .inr (0, [.ref a_fl, .ref a_va, .ref a_ceT, .ref a_ceS, .ref a_ceH, .ref a_ceG, .null])), (a_ceT, .inl (cI, 5, .inl (fun _ => 0))), (a_ceS, .inl (cI, 20, .inl (fun _ => 0))), (a_ceH, .inl (cI, 50, .inl (fun _ => 0))), (a_ceG, .inl (cI, 320, .inl (fun _ => 0)))] H := hP
  replace hD : va_D A [(a_ce, .inr (0, [.ref a_fl, .ref a_va, .ref a_ceT, .ref a_ceS, .ref a_ceH, .ref a_ceG, .null])), (a_ceT, .inl (cI, 5, .inl (fun _ => 0))), (a_ceS, .inl (cI, 20, .inl (fun _ => 0))), (a_ceH, .inl (cI, 50, .inl (fun _ => 0))), (a_ceG, .inl (cI, 320, .inl (fun _ => 0)))] := hD
  refine lv_aload_n hx hb dX0_init_46 rfl (lv_at hl 0 rfl) ?_
  refine lv_sipush (v := 320) hx hb dX0_init_47 (by decide +kernel) ?_
  refine va_newa (atype := .int) hx hb (hts _ wl_36) rfl hK hP hD hS hA (n := 320) (N' := 320) (a0 := (320, .inl (fun _ => 0))) (fun _ => rfl) (by decide +kernel) (by decide +kernel) (by decide +kernel) (hRc (4 + 1) (by decide)) (hRs (395 + 320) (by decide)) dX0_init_50 (fun a_ceV cA H hK2 hP hD hS => ?_)
  rw [cls_i hK2] at hP hD
  replace hP : va_P D vwCl [(a_ce, .inr (0, [.ref a_fl, .ref a_va, .ref a_ceT, .ref a_ceS, .ref a_ceH, .ref a_ceG, .null])), (a_ceT, .inl (cI, 5, .inl (fun _ => 0))), (a_ceS, .inl (cI, 20, .inl (fun _ => 0))), (a_ceH, .inl (cI, 50, .inl (fun _ => 0))), (a_ceG, .inl (cI, 320, .inl (fun _ => 0))), (a_ceV, .inl (cI, 320, .inl (fun _ => 0)))] H := hP
  replace hD : va_D A [(a_ce, .inr (0, [.ref a_fl, .ref a_va, .ref a_ceT, .ref a_ceS, .ref a_ceH, .ref a_ceG, .null])), (a_ceT, .inl (cI, 5, .inl (fun _ => 0))), (a_ceS, .inl (cI, 20, .inl (fun _ => 0))), (a_ceH, .inl (cI, 50, .inl (fun _ => 0))), (a_ceG, .inl (cI, 320, .inl (fun _ => 0))), (a_ceV, .inl (cI, 320, .inl (fun _ => 0)))] := hD
  refine W.widen (k := 5) (n := 715) (by decide) (by decide) ?_
  refine va_putF (D := D) (ci := 0) (v := .ref a_ceV) (ty := .array .int) (C := RX0) (T := TX0) (N := 7) hx hb hts inlX0 tyX0 tyX0_ok nmX0 hown hK hP hD hS 0 rfl rfl 6 (by decide) (hts _ wl_75) (fun _ h9 => h9) rfl hin rfl (by decide +kernel) rfl rfl (Nat.le_of_ble_eq_true rfl) dX0_init_52 (fun H locs hP hD hS => ?_)
  replace hP : va_P D vwCl [(a_ce, .inr (0, [.ref a_fl, .ref a_va, .ref a_ceT, .ref a_ceS, .ref a_ceH, .ref a_ceG, .ref a_ceV])), (a_ceT, .inl (cI, 5, .inl (fun _ => 0))), (a_ceS, .inl (cI, 20, .inl (fun _ => 0))), (a_ceH, .inl (cI, 50, .inl (fun _ => 0))), (a_ceG, .inl (cI, 320, .inl (fun _ => 0))), (a_ceV, .inl (cI, 320, .inl (fun _ => 0)))] H := hP
  replace hD : va_D A [(a_ce, .inr (0, [.ref a_fl, .ref a_va, .ref a_ceT, .ref a_ceS, .ref a_ceH, .ref a_ceG, .ref a_ceV])), (a_ceT, .inl (cI, 5, .inl (fun _ => 0))), (a_ceS, .inl (cI, 20, .inl (fun _ => 0))), (a_ceH, .inl (cI, 50, .inl (fun _ => 0))), (a_ceG, .inl (cI, 320, .inl (fun _ => 0))), (a_ceV, .inl (cI, 320, .inl (fun _ => 0)))] := hD
  subst hQ
  refine W.vret hx hb hr (fun t ht hW => ⟨⟨(a_ceT, a_ceS, a_ceH, a_ceG, a_ceV), rfl, ?_, ?_, ?_⟩, hS.F ht⟩) (fun q hq => hS.2.2 q hq) dX0_init_55
  · exact trivial
  · rw [ht]; exact hP
  · exact hD

