def w_X2_init : List Cond := .code yX2_init cX2_init 3 none :: wsL_law
set_option maxHeartbeats 4000000 in
set_option maxRecDepth 100000 in
theorem i_X2_init (l : Launch) (D : va_G) (cI cJ cZ : ClassId) (a_li : Nat) (a_fl : Nat) (a_va : Nat) (sz : Nat) (A : Nat → Prop) (hAe : A = va_A [(a_li, .inr (2, [.null, .null, .null, .null, .null, .null, .int 0, .int 0, .long 0, .long 0]))] sz) : Met l yX2_init w_X2_init ({ frames := 1, cells := 4, slots := 1024, locals := 20 } : Room) (rw_P D [(cI, .int), (cJ, .long), (cZ, .boolean)] [.ref a_li, .ref a_fl, .ref a_va] sz [(a_li, .inr (2, [.null, .null, .null, .null, .null, .null, .int 0, .int 0, .long 0, .long 0]))]) (va_Qv (fun (_ : Nat × Nat × Nat × Nat) => True) (rw_B D A (fun (u : Nat × Nat × Nat × Nat) => [(a_li, .inr (2, [.ref a_fl, .ref a_va, .ref u.1, .ref u.2.1, .ref u.2.2.1, .ref u.2.2.2, .int 0, .int 0, .long 0, .long 0])), (u.1, .inl (cI, 256, .inl (fun _ => 0))), (u.2.1, .inl (cI, 256, .inl (fun _ => 0))), (u.2.2.1, .inl (cI, 256, .inl (fun _ => 0))), (u.2.2.2, .inl (cI, 256, .inl (fun _ => 0)))])) A) 4 1024 A := by
  refine Met.ofW (cc := cX2_init) (maxL := 3) (ret := none) (by decide) rfl ?_
  intro p e s m args below meth c s₁ B hml hv
  obtain ⟨hargs, hsz, hP, hK, hN, hD0⟩ := hv
  have hx := B.exec
  have hb := B.bytes
  have hr := B.returns
  have hts : ∀ w ∈ wsL_law, w.before args s = true := fun w h => atoms_spec (ws := w_X2_init) B.pre w (List.mem_cons_of_mem _ h)
  have hown : s.vm.findClass RX2 = some m.cls := findClass_of_methodNamed B.named
  have hlocks := B.notSynchronized
  have hin : meth.name = "<init>" := (name_of_methodNamed B.named B.method).1
  subst hsz
  have hD : va_D A [(a_li, .inr (2, [.null, .null, .null, .null, .null, .null, .int 0, .int 0, .long 0, .long 0]))] := by rw [hAe]; exact hD0.self
  have hA : ∀ q : Nat, s.heap.size ≤ q → A q := fun q h => by rw [hAe]; exact Or.inr h
  have hS : va_S A s.heap s.heap [] := va_S.rf
  have hl := lv_entry ([.ref a_li, .ref a_fl, .ref a_va]) (n := 3) (Nat.le_of_ble_eq_true rfl)
  rw [hargs, lg_entry_eq, ← hargs]
  generalize (lg_sl ([.ref a_li, .ref a_fl, .ref a_va]) ++ List.replicate (3 - (lg_sl ([.ref a_li, .ref a_fl, .ref a_va])).length) Slot.unset).toArray = ls at hl ⊢
  replace hl : lv_has ls 3 [(0, .ref a_li), (1, .ref a_fl), (2, .ref a_va)] := hl
  have hRf : ∀ n, n ≤ 1 → n ≤ (headSpec w_X2_init ({ frames := 1, cells := 4, slots := 1024, locals := 20 } : Room)).room.frames := fun n h => h
  have hRl : ∀ n, n ≤ 20 → n ≤ (headSpec w_X2_init ({ frames := 1, cells := 4, slots := 1024, locals := 20 } : Room)).room.locals := fun n h => h
  have hRc : ∀ n, n ≤ 4 → n ≤ (headSpec w_X2_init ({ frames := 1, cells := 4, slots := 1024, locals := 20 } : Room)).room.cells := fun n h => h
  have hRs : ∀ n, n ≤ 1024 → n ≤ (headSpec w_X2_init ({ frames := 1, cells := 4, slots := 1024, locals := 20 } : Room)).room.slots := fun n h => h
  generalize (headSpec w_X2_init ({ frames := 1, cells := 4, slots := 1024, locals := 20 } : Room)).room = R at hRf hRl hRc hRs ⊢
  generalize hQ : MQ below _ args s 4 1024 _ = Q
  suffices main : ∀ (H : Heap) (locs : List Loc), va_P D vwCl [(a_li, .inr (2, [.null, .null, .null, .null, .null, .null, .int 0, .int 0, .long 0, .long 0]))] H → va_S A s.heap H locs → W p l e R s m args below meth c H locs 0 0 Q (F0 m 0 ls []) from main _ _ hP hS
  intro H locs hP hS
  refine lv_aload_n hx hb dX2_init_0 rfl (lv_at hl 0 rfl) ?_
  refine W.objInit hx hb hown (hts _ wl_87) (hts _ wl_10) (hts _ wl_11) rfl (hl.1.trans hml.symm) rfl dX2_init_1 (hRf _ (Nat.le_of_ble_eq_true rfl)) (hRl _ (Nat.le_of_ble_eq_true rfl)) ?_
  refine W.eq (g2 := F0 m 4 ls []) rfl ?_
  refine lv_aload_n hx hb dX2_init_4 rfl (lv_at hl 0 rfl) ?_
  refine lv_aload_n hx hb dX2_init_5 rfl (lv_at hl 1 rfl) ?_
  refine va_putF (D := D) (ci := 2) (v := .ref a_fl) (ty := .object "HardBench$Floats") (C := RX2) (T := TX2) (N := 10) hx hb hts inlX2 tyX2 tyX2_ok nmX2 hown hK hP hD hS 0 rfl rfl 0 (by decide) (hts _ wl_88) (fun _ h9 => h9) rfl hin rfl (by decide +kernel) rfl rfl (Nat.le_of_ble_eq_true rfl) dX2_init_6 (fun H locs hP hD hS => ?_)
  replace hP : va_P D vwCl [(a_li, .inr (2, [.ref a_fl, .null, .null, .null, .null, .null, .int 0, .int 0, .long 0, .long 0]))] H := hP
  replace hD : va_D A [(a_li, .inr (2, [.ref a_fl, .null, .null, .null, .null, .null, .int 0, .int 0, .long 0, .long 0]))] := hD
  refine lv_aload_n hx hb dX2_init_9 rfl (lv_at hl 0 rfl) ?_
  refine lv_aload_n hx hb dX2_init_10 rfl (lv_at hl 2 rfl) ?_
  refine va_putF (D := D) (ci := 2) (v := .ref a_va) (ty := .object "HardBench$Value") (C := RX2) (T := TX2) (N := 10) hx hb hts inlX2 tyX2 tyX2_ok nmX2 hown hK hP hD hS 0 rfl rfl 1 (by decide) (hts _ wl_89) (fun _ h9 => h9) rfl hin rfl (by decide +kernel) rfl rfl (Nat.le_of_ble_eq_true rfl) dX2_init_11 (fun H locs hP hD hS => ?_)
  replace hP : va_P D vwCl [(a_li, .inr (2, [.ref a_fl, .ref a_va, .null, .null, .null, .null, .int 0, .int 0, .long 0, .long 0]))] H := hP
  replace hD : va_D A [(a_li, .inr (2, [.ref a_fl, .ref a_va, .null, .null, .null, .null, .int 0, .int 0, .long 0, .long 0]))] := hD
  refine lv_aload_n hx hb dX2_init_14 rfl (lv_at hl 0 rfl) ?_
  refine lv_sipush (v := 256) hx hb dX2_init_15 (by decide +kernel) ?_
  refine va_newa (atype := .int) hx hb (hts _ wl_36) rfl hK hP hD hS hA (n := 256) (N' := 256) (a0 := (256, .inl (fun _ => 0))) (fun _ => rfl) (by decide +kernel) (by decide +kernel) (by decide +kernel) (hRc (0 + 1) (by decide)) (hRs (0 + 256) (by decide)) dX2_init_18 (fun a_liD cA H hK2 hP hD hS => ?_)
  rw [cls_i hK2] at hP hD
  replace hP : va_P D vwCl [(a_li, .inr (2, [.ref a_fl, .ref a_va, .null, .null, .null, .null, .int 0, .int 0, .long 0, .long 0])), (a_liD, .inl (cI, 256, .inl (fun _ => 0)))] H := hP
  replace hD : va_D A [(a_li, .inr (2, [.ref a_fl, .ref a_va, .null, .null, .null, .null, .int 0, .int 0, .long 0, .long 0])), (a_liD, .inl (cI, 256, .inl (fun _ => 0)))] := hD
  refine W.widen (k := 1) (n := 256) (by decide) (by decide) ?_
  refine va_putF (D := D) (ci := 2) (v := .ref a_liD) (ty := .array .int) (C := RX2) (T := TX2) (N := 10) hx hb hts inlX2 tyX2 tyX2_ok nmX2 hown hK hP hD hS 0 rfl rfl 2 (by decide) (hts _ wl_90) (fun _ h9 => h9) rfl hin rfl (by decide +kernel) rfl rfl (Nat.le_of_ble_eq_true rfl) dX2_init_20 (fun H locs hP hD hS => ?_)
  replace hP : va_P D vwCl [(a_li, .inr (2, [.ref a_fl, .ref a_va, .ref a_liD, .null, .null, .null, .int 0, .int 0, .long 0, .long 0])), (a_liD, .inl (cI, 256, .inl (fun _ => 0)))] H := hP
  replace hD : va_D A [(a_li, .inr (2, [.ref a_fl, .ref a_va, .ref a_liD, .null, .null, .null, .int 0, .int 0, .long 0, .long 0])), (a_liD, .inl (cI, 256, .inl (fun _ => 0)))] := hD
  refine lv_aload_n hx hb dX2_init_23 rfl (lv_at hl 0 rfl) ?_
  refine lv_sipush (v := 256) hx hb dX2_init_24 (by decide +kernel) ?_
  refine va_newa (atype := .int) hx hb (hts _ wl_36) rfl hK hP hD hS hA (n := 256) (N' := 256) (a0 := (256, .inl (fun _ => 0))) (fun _ => rfl) (by decide +kernel) (by decide +kernel) (by decide +kernel) (hRc (1 + 1) (by decide)) (hRs (256 + 256) (by decide)) dX2_init_27 (fun a_liF cA H hK2 hP hD hS => ?_)
  rw [cls_i hK2] at hP hD
  replace hP : va_P D vwCl [(a_li, .inr (2, [.ref a_fl, .ref a_va, .ref a_liD, .null, .null, .null, .int 0, .int 0, .long 0, .long 0])), (a_liD, .inl (cI, 256, .inl (fun _ => 0))), (a_liF, .inl (cI, 256, .inl (fun _ => 0)))] H := hP
  replace hD : va_D A [(a_li, .inr (2, [.ref a_fl, .ref a_va, .ref a_liD, .null, .null, .null, .int 0, .int 0, .long 0, .long 0])), (a_liD, .inl (cI, 256, .inl (fun _ => 0))), (a_liF, .inl (cI, 256, .inl (fun _ => 0)))] := hD
  refine W.widen (k := 2) (n := 512) (by decide) (by decide) ?_
  refine va_putF (D := D) (ci := 2) (v := .ref a_liF) (ty := .array .int) (C := RX2) (T := TX2) (N := 10) hx hb hts inlX2 tyX2 tyX2_ok nmX2 hown hK hP hD hS 0 rfl rfl 3 (by decide) (hts _ wl_91) (fun _ h9 => h9) rfl hin rfl (by decide +kernel) rfl rfl (Nat.le_of_ble_eq_true rfl) dX2_init_29 (fun H locs hP hD hS => ?_)
  replace hP : va_P D vwCl [(a_li, .inr (2, [.ref a_fl, .ref a_va, .ref a_liD, .ref a_liF, .null, .null, .int 0, .int 0, .long 0, .long 0])), (a_liD, .inl (cI, 256, .inl (fun _ => 0))), (a_liF, .inl (cI, 256, .inl (fun _ => 0)))] H := hP
  replace hD : va_D A [(a_li, .inr (2, [.ref a_fl, .ref a_va, .ref a_liD, .ref a_liF, .null, .null, .int 0, .int 0, .long 0, .long 0])), (a_liD, .inl (cI, 256, .inl (fun _ => 0))), (a_liF, .inl (cI, 256, .inl (fun _ => 0)))] := hD
  refine lv_aload_n hx hb dX2_init_32 rfl (lv_at hl 0 rfl) ?_
  refine lv_sipush (v := 256) hx hb dX2_init_33 (by decide +kernel) ?_
  refine va_newa (atype := .int) hx hb (hts _ wl_36) rfl hK hP hD hS hA (n := 256) (N' := 256) (a0 := (256, .inl (fun _ => 0))) (fun _ => rfl) (by decide +kernel) (by decide +kernel) (by decide +kernel) (hRc (2 + 1) (by decide)) (hRs (512 + 256) (by decide)) dX2_init_36 (fun a_liA cA H hK2 hP hD hS => ?_)
  rw [cls_i hK2] at hP hD
  replace hP : va_P D vwCl [(a_li, .inr (2, [.ref a_fl, .ref a_va, .ref a_liD, .ref a_liF, .null, .null, .int 0, .int 0, .long 0, .long 0])), (a_liD, .inl (cI, 256, .inl (fun _ => 0))), (a_liF, .inl (cI, 256, .inl (fun _ => 0))), (a_liA, .inl (cI, 256, .inl (fun _ => 0)))] H := hP
  replace hD : va_D A [(a_li, .inr (2, [.ref a_fl, .ref a_va, .ref a_liD, .ref a_liF, .null, .null, .int 0, .int 0, .long 0, .long 0])), (a_liD, .inl (cI, 256, .inl (fun _ => 0))), (a_liF, .inl (cI, 256, .inl (fun _ => 0))), (a_liA, .inl (cI, 256, .inl (fun _ => 0)))] := hD
  refine W.widen (k := 3) (n := 768) (by decide) (by decide) ?_
  refine va_putF (D := D) (ci := 2) (v := .ref a_liA) (ty := .array .int) (C := RX2) (T := TX2) (N := 10) hx hb hts inlX2 tyX2 tyX2_ok nmX2 hown hK hP hD hS 0 rfl rfl 4 (by decide) (hts _ wl_92) (fun _ h9 => h9) rfl hin rfl (by decide +kernel) rfl rfl (Nat.le_of_ble_eq_true rfl) dX2_init_38 (fun H locs hP hD hS => ?_)
  replace hP : va_P D vwCl [(a_li, .inr (2, [.ref a_fl, .ref a_va, .ref a_liD, .ref a_liF, .ref a_liA, .null, .int 0, .int 0, .long 0, .long 0])), (a_liD, .inl (cI, 256, .inl (fun _ => 0))), (a_liF, .inl (cI, 256, .inl (fun _ => 0))), (a_liA, .inl (cI, 256, .inl (fun _ => 0)))] H := hP
  replace hD : va_D A [(a_li, .inr (2, [.ref a_fl, .ref a_va, .ref a_liD, .ref a_liF, .ref a_liA, .null, .int 0, .int 0, .long 0, .long 0])), (a_liD, .inl (cI, 256, .inl (fun _ => 0))), (a_liF, .inl (cI, 256, .inl (fun _ => 0))), (a_liA, .inl (cI, 256, .inl (fun _ => 0)))] := hD
  refine lv_aload_n hx hb dX2_init_41 rfl (lv_at hl 0 rfl) ?_
  refine lv_sipush (v := 256) hx hb dX2_init_42 (by decide +kernel) ?_
  refine va_newa (atype := .int) hx hb (hts _ wl_36) rfl hK hP hD hS hA (n := 256) (N' := 256) (a0 := (256, .inl (fun _ => 0))) (fun _ => rfl) (by decide +kernel) (by decide +kernel) (by decide +kernel) (hRc (3 + 1) (by decide)) (hRs (768 + 256) (by decide)) dX2_init_45 (fun a_liB cA H hK2 hP hD hS => ?_)
  rw [cls_i hK2] at hP hD
  replace hP : va_P D vwCl [(a_li, .inr (2, [.ref a_fl, .ref a_va, .ref a_liD, .ref a_liF, .ref a_liA, .null, .int 0, .int 0, .long 0, .long 0])), (a_liD, .inl (cI, 256, .inl (fun _ => 0))), (a_liF, .inl (cI, 256, .inl (fun _ => 0))), (a_liA, .inl (cI, 256, .inl (fun _ => 0))), (a_liB, .inl (cI, 256, .inl (fun _ => 0)))] H := hP
  replace hD : va_D A [(a_li, .inr (2, [.ref a_fl, .ref a_va, .ref a_liD, .ref a_liF, .ref a_liA, .null, .int 0, .int 0, .long 0, .long 0])), (a_liD, .inl (cI, 256, .inl (fun _ => 0))), (a_liF, .inl (cI, 256, .inl (fun _ => 0))), (a_liA, .inl (cI, 256, .inl (fun _ => 0))), (a_liB, .inl (cI, 256, .inl (fun _ => 0)))] := hD
  refine W.widen (k := 4) (n := 1024) (by decide) (by decide) ?_
  refine va_putF (D := D) (ci := 2) (v := .ref a_liB) (ty := .array .int) (C := RX2) (T := TX2) (N := 10) hx hb hts inlX2 tyX2 tyX2_ok nmX2 hown hK hP hD hS 0 rfl rfl 5 (by decide) (hts _ wl_93) (fun _ h9 => h9) rfl hin rfl (by decide +kernel) rfl rfl (Nat.le_of_ble_eq_true rfl) dX2_init_47 (fun H locs hP hD hS => ?_)
  replace hP : va_P D vwCl [(a_li, .inr (2, [.ref a_fl, .ref a_va, .ref a_liD, .ref a_liF, .ref a_liA, .ref a_liB, .int 0, .int 0, .long 0, .long 0])), (a_liD, .inl (cI, 256, .inl (fun _ => 0))), (a_liF, .inl (cI, 256, .inl (fun _ => 0))), (a_liA, .inl (cI, 256, .inl (fun _ => 0))), (a_liB, .inl (cI, 256, .inl (fun _ => 0)))] H := hP
  replace hD : va_D A [(a_li, .inr (2, [.ref a_fl, .ref a_va, .ref a_liD, .ref a_liF, .ref a_liA, .ref a_liB, .int 0, .int 0, .long 0, .long 0])), (a_liD, .inl (cI, 256, .inl (fun _ => 0))), (a_liF, .inl (cI, 256, .inl (fun _ => 0))), (a_liA, .inl (cI, 256, .inl (fun _ => 0))), (a_liB, .inl (cI, 256, .inl (fun _ => 0)))] := hD
  subst hQ
  refine W.vret hx hb hr (fun t ht hW => ⟨⟨(a_liD, a_liF, a_liA, a_liB), rfl, ?_, ?_, ?_⟩, hS.F ht⟩) (fun q hq => hS.2.2 q hq) dX2_init_50
  · exact trivial
  · rw [ht]; exact hP
  · exact hD

