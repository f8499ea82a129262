def w_X3_init : List Cond := .code yX3_init cX3_init 2 none :: wsL_law
set_option maxHeartbeats 4000000 in
set_option maxRecDepth 100000 in
theorem i_X3_init (l : Launch) (D : va_G) (cI cJ cZ : ClassId) (a_pl : Nat) (a_fl : Nat) (sz : Nat) (A : Nat → Prop) (hAe : A = va_A [(a_pl, .inr (3, [.null, .int 0, .int 0, .int 0, .int 0]))] sz) : Met l yX3_init w_X3_init ({ frames := 1, cells := 0, slots := 0, locals := 20 } : Room) (rw_P D [(cI, .int), (cJ, .long), (cZ, .boolean)] [.ref a_pl, .ref a_fl] sz [(a_pl, .inr (3, [.null, .int 0, .int 0, .int 0, .int 0]))]) (va_Qv (fun (_ : Unit) => True) (rw_B D A (fun (u : Unit) => [(a_pl, .inr (3, [.ref a_fl, .int 0, .int 0, .int 0, .int 0]))])) A) 0 0 A := by
  refine Met.ofW (cc := cX3_init) (maxL := 2) (ret := none) (by decide) rfl ?_
  intro p e s m args below meth c s₁ B hml hv
  obtain ⟨hargs, hsz, hP, hK, hN, hD0⟩ := hv
  have hx := B.exec
  have hb := B.bytes
  have hr := B.returns
  have hts : ∀ w ∈ wsL_law, w.before args s = true := fun w h => atoms_spec (ws := w_X3_init) B.pre w (List.mem_cons_of_mem _ h)
  have hown : s.vm.findClass RX3 = some m.cls := findClass_of_methodNamed B.named
  have hlocks := B.notSynchronized
  have hin : meth.name = "<init>" := (name_of_methodNamed B.named B.method).1
  subst hsz
  have hD : va_D A [(a_pl, .inr (3, [.null, .int 0, .int 0, .int 0, .int 0]))] := by rw [hAe]; exact hD0.self
  have hA : ∀ q : Nat, s.heap.size ≤ q → A q := fun q h => by rw [hAe]; exact Or.inr h
  have hS : va_S A s.heap s.heap [] := va_S.rf
  have hl := lv_entry ([.ref a_pl, .ref a_fl]) (n := 2) (Nat.le_of_ble_eq_true rfl)
  rw [hargs, lg_entry_eq, ← hargs]
  generalize (lg_sl ([.ref a_pl, .ref a_fl]) ++ List.replicate (2 - (lg_sl ([.ref a_pl, .ref a_fl])).length) Slot.unset).toArray = ls at hl ⊢
  replace hl : lv_has ls 2 [(0, .ref a_pl), (1, .ref a_fl)] := hl
  have hRf : ∀ n, n ≤ 1 → n ≤ (headSpec w_X3_init ({ frames := 1, cells := 0, slots := 0, locals := 20 } : Room)).room.frames := fun n h => h
  have hRl : ∀ n, n ≤ 20 → n ≤ (headSpec w_X3_init ({ frames := 1, cells := 0, slots := 0, locals := 20 } : Room)).room.locals := fun n h => h
  have hRc : ∀ n, n ≤ 0 → n ≤ (headSpec w_X3_init ({ frames := 1, cells := 0, slots := 0, locals := 20 } : Room)).room.cells := fun n h => h
  have hRs : ∀ n, n ≤ 0 → n ≤ (headSpec w_X3_init ({ frames := 1, cells := 0, slots := 0, locals := 20 } : Room)).room.slots := fun n h => h
  generalize (headSpec w_X3_init ({ frames := 1, cells := 0, slots := 0, locals := 20 } : Room)).room = R at hRf hRl hRc hRs ⊢
  generalize hQ : MQ below _ args s 0 0 _ = Q
  suffices main : ∀ (H : Heap) (locs : List Loc), va_P D vwCl [(a_pl, .inr (3, [.null, .int 0, .int 0, .int 0, .int 0]))] H → va_S A s.heap H locs → W p l e R s m args below meth c H locs 0 0 Q (F0 m 0 ls []) from main _ _ hP hS
  intro H locs hP hS
  refine lv_aload_n hx hb dX3_init_0 rfl (lv_at hl 0 rfl) ?_
  refine W.objInit hx hb hown (hts _ wl_55) (hts _ wl_10) (hts _ wl_11) rfl (hl.1.trans hml.symm) rfl dX3_init_1 (hRf _ (Nat.le_of_ble_eq_true rfl)) (hRl _ (Nat.le_of_ble_eq_true rfl)) ?_
  refine W.eq (g2 := F0 m 4 ls []) rfl ?_
  refine lv_aload_n hx hb dX3_init_4 rfl (lv_at hl 0 rfl) ?_
  refine lv_aload_n hx hb dX3_init_5 rfl (lv_at hl 1 rfl) ?_
  refine va_putF (D := D) (ci := 3) (v := .ref a_fl) (ty := .object "HardBench$Floats") (C := RX3) (T := TX3) (N := 5) hx hb hts inlX3 tyX3 tyX3_ok nmX3 hown hK hP hD hS 0 rfl rfl 0 (by decide) (hts _ wl_56) (fun _ h9 => h9) rfl hin rfl (by decide +kernel) rfl rfl (Nat.le_of_ble_eq_true rfl) dX3_init_6 (fun H locs hP hD hS => ?_)
  replace hP : va_P D vwCl [(a_pl, .inr (3, [.ref a_fl, .int 0, .int 0, .int 0, .int 0]))] H := hP
  replace hD : va_D A [(a_pl, .inr (3, [.ref a_fl, .int 0, .int 0, .int 0, .int 0]))] := hD
  subst hQ
  refine W.vret hx hb hr (fun t ht hW => ⟨⟨(), rfl, ?_, ?_, ?_⟩, hS.F ht⟩) (fun q hq => hS.2.2 q hq) dX3_init_9
  · exact trivial
  · rw [ht]; exact hP
  · exact hD

