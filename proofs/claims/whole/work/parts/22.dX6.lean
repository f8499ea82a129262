def w_X6_init : List Cond := .code yX6_init cX6_init 2 none :: wsL_law
set_option maxHeartbeats 4000000 in
set_option maxRecDepth 100000 in
theorem i_X6_init (l : Launch) (D : va_G) (cI cJ cZ : ClassId) (a_va : Nat) (a_fl : Nat) (sz : Nat) (A : Nat → Prop) (hAe : A = va_A [(a_va, .inr (5, [.null, .null, .long 0, .int 0, .int 0, .int 0, .int 0, .int 0, .int 0]))] sz) : Met l yX6_init w_X6_init ({ frames := 2, cells := 1, slots := 5, locals := 41 } : Room) (rw_P D [(cI, .int), (cJ, .long), (cZ, .boolean)] [.ref a_va, .ref a_fl] sz [(a_va, .inr (5, [.null, .null, .long 0, .int 0, .int 0, .int 0, .int 0, .int 0, .int 0]))]) (va_Qv (fun (_ : Nat) => True) (rw_B D A (fun (u : Nat) => [(a_va, .inr (5, [.ref a_fl, .ref u, .long 0, .int 0, .int 0, .int 0, .int 0, .int 0, .int 0])), (u, .inr (3, [.ref a_fl, .int 0, .int 0, .int 0, .int 0]))])) A) 1 5 A := by
  refine Met.ofW (cc := cX6_init) (maxL := 2) (ret := none) (by decide) rfl ?_
  intro p e s m args below meth c s₁ B hml hv
  obtain ⟨hargs, hsz, hP, hK, hN, hD0⟩ := hv
  have hx := B.exec
  have hb := B.bytes
  have hr := B.returns
  have hts : ∀ w ∈ wsL_law, w.before args s = true := fun w h => atoms_spec (ws := w_X6_init) B.pre w (List.mem_cons_of_mem _ h)
  have hown : s.vm.findClass RX6 = some m.cls := findClass_of_methodNamed B.named
  have hlocks := B.notSynchronized
  have hin : meth.name = "<init>" := (name_of_methodNamed B.named B.method).1
  subst hsz
  have hD : va_D A [(a_va, .inr (5, [.null, .null, .long 0, .int 0, .int 0, .int 0, .int 0, .int 0, .int 0]))] := by rw [hAe]; exact hD0.self
  have hA : ∀ q : Nat, s.heap.size ≤ q → A q := fun q h => by rw [hAe]; exact Or.inr h
  have hS : va_S A s.heap s.heap [] := va_S.rf
  have hl := lv_entry ([.ref a_va, .ref a_fl]) (n := 2) (Nat.le_of_ble_eq_true rfl)
  rw [hargs, lg_entry_eq, ← hargs]
  generalize (lg_sl ([.ref a_va, .ref a_fl]) ++ List.replicate (2 - (lg_sl ([.ref a_va, .ref a_fl])).length) Slot.unset).toArray = ls at hl ⊢
  replace hl : lv_has ls 2 [(0, .ref a_va), (1, .ref a_fl)] := hl
  have hRf : ∀ n, n ≤ 2 → n ≤ (headSpec w_X6_init ({ frames := 2, cells := 1, slots := 5, locals := 41 } : Room)).room.frames := fun n h => h
  have hRl : ∀ n, n ≤ 41 → n ≤ (headSpec w_X6_init ({ frames := 2, cells := 1, slots := 5, locals := 41 } : Room)).room.locals := fun n h => h
  have hRc : ∀ n, n ≤ 1 → n ≤ (headSpec w_X6_init ({ frames := 2, cells := 1, slots := 5, locals := 41 } : Room)).room.cells := fun n h => h
  have hRs : ∀ n, n ≤ 5 → n ≤ (headSpec w_X6_init ({ frames := 2, cells := 1, slots := 5, locals := 41 } : Room)).room.slots := fun n h => h
  generalize (headSpec w_X6_init ({ frames := 2, cells := 1, slots := 5, locals := 41 } : Room)).room = R at hRf hRl hRc hRs ⊢
  generalize hQ : MQ below _ args s 1 5 _ = Q
  suffices main : ∀ (H : Heap) (locs : List Loc), va_P D vwCl [(a_va, .inr (5, [.null, .null, .long 0, .int 0, .int 0, .int 0, .int 0, .int 0, .int 0]))] H → va_S A s.heap H locs → W p l e R s m args below meth c H locs 0 0 Q (F0 m 0 ls []) from main _ _ hP hS
  intro H locs hP hS
  refine lv_aload_n hx hb dX6_init_0 rfl (lv_at hl 0 rfl) ?_
  refine W.objInit hx hb hown (hts _ wl_60) (hts _ wl_10) (hts _ wl_11) rfl (hl.1.trans hml.symm) rfl dX6_init_1 (hRf _ (Nat.le_of_ble_eq_true rfl)) (hRl _ (Nat.le_of_ble_eq_true rfl)) ?_
  refine W.eq (g2 := F0 m 4 ls []) rfl ?_
  refine lv_aload_n hx hb dX6_init_4 rfl (lv_at hl 0 rfl) ?_
  refine lv_aload_n hx hb dX6_init_5 rfl (lv_at hl 1 rfl) ?_
  refine va_putF (D := D) (ci := 5) (v := .ref a_fl) (ty := .object "HardBench$Floats") (C := RX6) (T := TX6) (N := 9) hx hb hts inlX6 tyX6 tyX6_ok nmX6 hown hK hP hD hS 0 rfl rfl 0 (by decide) (hts _ wl_61) (fun _ h9 => h9) rfl hin rfl (by decide +kernel) rfl rfl (Nat.le_of_ble_eq_true rfl) dX6_init_6 (fun H locs hP hD hS => ?_)
  replace hP : va_P D vwCl [(a_va, .inr (5, [.ref a_fl, .null, .long 0, .int 0, .int 0, .int 0, .int 0, .int 0, .int 0]))] H := hP
  replace hD : va_D A [(a_va, .inr (5, [.ref a_fl, .null, .long 0, .int 0, .int 0, .int 0, .int 0, .int 0, .int 0]))] := hD
  refine lv_aload_n hx hb dX6_init_9 rfl (lv_at hl 0 rfl) ?_
  refine va_new (ci := 3) (fs := [.null, .int 0, .int 0, .int 0, .int 0]) (C := RX3) (T := TX3) (N := 5) hx hb hts inlX3 tyX3 tyX3_ok hown (hts _ wl_62) (hts _ wl_17) (hts _ wl_18) hK hP hD hS hA rfl (fun j hj => by rcases (show j = 0 ∨ j = 1 ∨ j = 2 ∨ j = 3 ∨ j = 4 by omega) with rfl | rfl | rfl | rfl | rfl <;> rfl) (hRc (0 + 1) (by decide)) (hRs (0 + 5) (by decide)) dX6_init_10 (fun a_p2 H hP hD hS => ?_)
  replace hP : va_P D vwCl [(a_va, .inr (5, [.ref a_fl, .null, .long 0, .int 0, .int 0, .int 0, .int 0, .int 0, .int 0])), (a_p2, .inr (3, [.null, .int 0, .int 0, .int 0, .int 0]))] H := hP
  replace hD : va_D A [(a_va, .inr (5, [.ref a_fl, .null, .long 0, .int 0, .int 0, .int 0, .int 0, .int 0, .int 0])), (a_p2, .inr (3, [.null, .int 0, .int 0, .int 0, .int 0]))] := hD
  refine W.widen (k := 1) (n := 5) (by decide) (by decide) ?_
  refine lv_dup hx hb dX6_init_13 rfl ?_
  refine lv_aload_n hx hb dX6_init_14 rfl (lv_at hl 1 rfl) ?_
  have hcw15 : CallB R s args RX6 17 yX3_init cX3_init 2 none w_X3_init ({ frames := 1, cells := 0, slots := 0, locals := 20 } : Room) 0 0 1 ∧ yX3_init.name = "<init>" ∧ (Cond.instanceMethod yX3_init).before args s = true := cwI 1 hts (gdI wl_54) rfl rfl rfl (hts _ wl_18) (hts _ wl_64) (hts _ wl_53) rfl (by decide +kernel) ⟨hRf _ (Nat.le_of_ble_eq_true rfl), hRl _ (Nat.le_of_ble_eq_true rfl)⟩
  have hM15 := i_X3_init l D cI cJ cZ a_p2 a_fl H.size _ rfl
  have hF15 : CallFix p m c cX6_init 2 s args wsL_law RX6 := ⟨hx, hb, hml, hown, hts⟩
  refine ca_I (b := a_p2) (As := [.ref a_fl]) (rest := [.ref a_p2, .ref a_va]) (wr := [(a_va, .inr (5, [.ref a_fl, .null, .long 0, .int 0, .int 0, .int 0, .int 0, .int 0, .int 0]))]) hF15 hM15 hcw15 hK hN hP hD hS hA [1] [0] rfl rfl (by decide) (by decide) (by decide) rfl hl.1 rfl (Nat.le_of_ble_eq_true rfl) dX6_init_15 ⟨hRc (1 + 0) (by decide), hRs (5 + 0) (by decide)⟩ (fun u15 H locs _ hP hD hS => ?_)
  replace hP : va_P D vwCl [(a_va, .inr (5, [.ref a_fl, .null, .long 0, .int 0, .int 0, .int 0, .int 0, .int 0, .int 0])), (a_p2, .inr (3, [.ref a_fl, .int 0, .int 0, .int 0, .int 0]))] H := hP
  replace hD : va_D A [(a_va, .inr (5, [.ref a_fl, .null, .long 0, .int 0, .int 0, .int 0, .int 0, .int 0, .int 0])), (a_p2, .inr (3, [.ref a_fl, .int 0, .int 0, .int 0, .int 0]))] := hD
  refine W.widen (k := 1) (n := 5) (by decide) (by decide) ?_
  refine va_putF (D := D) (ci := 5) (v := .ref a_p2) (ty := .object "HardBench$Place") (C := RX6) (T := TX6) (N := 9) hx hb hts inlX6 tyX6 tyX6_ok nmX6 hown hK hP hD hS 0 rfl rfl 1 (by decide) (hts _ wl_63) (fun _ h9 => h9) rfl hin rfl (by decide +kernel) rfl rfl (Nat.le_of_ble_eq_true rfl) dX6_init_18 (fun H locs hP hD hS => ?_)
  replace hP : va_P D vwCl [(a_va, .inr (5, [.ref a_fl, .ref a_p2, .long 0, .int 0, .int 0, .int 0, .int 0, .int 0, .int 0])), (a_p2, .inr (3, [.ref a_fl, .int 0, .int 0, .int 0, .int 0]))] H := hP
  replace hD : va_D A [(a_va, .inr (5, [.ref a_fl, .ref a_p2, .long 0, .int 0, .int 0, .int 0, .int 0, .int 0, .int 0])), (a_p2, .inr (3, [.ref a_fl, .int 0, .int 0, .int 0, .int 0]))] := hD
  subst hQ
  refine W.vret hx hb hr (fun t ht hW => ⟨⟨a_p2, rfl, ?_, ?_, ?_⟩, hS.F ht⟩) (fun q hq => hS.2.2 q hq) dX6_init_21
  · exact trivial
  · rw [ht]; exact hP
  · exact hD

