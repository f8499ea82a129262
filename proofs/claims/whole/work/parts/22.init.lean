/-- array classes are known by their names -/
theorem cls_i {D : va_G} {cI cJ cZ cA : ClassId} {s : State} (hK : va_K D vwCl ([(cI, .int), (cJ, .long), (cZ, .boolean)] ++ [(cA, .int)]) s) : cA = cI := by
  have h1 : s.vm.findClass ("[" ++ (FieldType.int).toString) = some cI := (hK.2 0 (cI, .int) rfl).2
  have h2 : s.vm.findClass ("[" ++ (FieldType.int).toString) = some cA := (hK.2 3 (cA, .int) rfl).2
  exact Option.some.inj (h2.symm.trans h1)
theorem cls_j {D : va_G} {cI cJ cZ cA : ClassId} {s : State} (hK : va_K D vwCl ([(cI, .int), (cJ, .long), (cZ, .boolean)] ++ [(cA, .long)]) s) : cA = cJ := by
  have h1 : s.vm.findClass ("[" ++ (FieldType.long).toString) = some cJ := (hK.2 1 (cJ, .long) rfl).2
  have h2 : s.vm.findClass ("[" ++ (FieldType.long).toString) = some cA := (hK.2 3 (cA, .long) rfl).2
  exact Option.some.inj (h2.symm.trans h1)
theorem cls_z {D : va_G} {cI cJ cZ cA : ClassId} {s : State} (hK : va_K D vwCl ([(cI, .int), (cJ, .long), (cZ, .boolean)] ++ [(cA, .boolean)]) s) : cA = cZ := by
  have h1 : s.vm.findClass ("[" ++ (FieldType.boolean).toString) = some cZ := (hK.2 2 (cZ, .boolean) rfl).2
  have h2 : s.vm.findClass ("[" ++ (FieldType.boolean).toString) = some cA := (hK.2 3 (cA, .boolean) rfl).2
  exact Option.some.inj (h2.symm.trans h1)
section CAI
variable {p : Program} {l : Launch} {e : Env} {R : Room} {s : State} {m : MethodId} {args : Array Value} {below : List Frame} {meth : Method} {c : Code} {H H0 : Heap} {locs : List Loc} {cells slots mc ms : Nat} {Q : State → Prop} {y : MethodName} {bytes cc : ByteArray} {maxL nL n index pc : Nat} {ws : List Cond} {rm : Room} {Ts : List Cond} {own : String} {b : Addr} {As rest st0 : List Value} {ls : Array Slot} {D : va_G} {tys : List (ClassId × FieldType)} {wv wc wr : va_W} {A0 : Nat → Prop}
/-- a constructor -/
theorem ca_I {T : Type} {post : T → Prop} {wo : T → va_W} (S : CallFix p m c cc nL s args Ts own) (hM : Met l y ws rm (rw_P D tys (.ref b :: As) H.size wc) (va_Qv post (rw_B D (va_A wc H.size) wo) (va_A wc H.size)) mc ms (va_A wc H.size)) (cw : CallB R s args own index y bytes maxL none ws rm mc ms n ∧ y.name = "<init>" ∧ (Cond.instanceMethod y).before args s = true) (hK : va_K D vwCl tys s) (hN : NN s) (hP : va_P D vwCl wv H) (hD : va_D A0 wv) (hS : va_S A0 H0 H locs) (hA : ∀ q, H0.size ≤ q → A0 q) (isC isR : List Nat) (hC : isC.map (fun i => wv[i]?) = wc.map some) (hR : isR.map (fun i => wv[i]?) = wr.map some) (hcn : va_nd isC = true) (hnr : va_nd isR = true) (hdis : ∀ i ∈ isR, i ∉ isC) (hn : As.length = n) (hsize : ls.size = nL) (hst : st0 = As.reverse ++ .ref b :: rest) (hW : (rest.map fun v => v.category).sum ≤ 8) (hdg : decode cc pc = .ok (.invokespecial index, 3)) (hf : cells + mc ≤ R.cells ∧ slots + ms ≤ R.slots)
    (kk : ∀ (u : T) (H1 : Heap) (locs1 : List Loc), post u → va_P D vwCl (wr ++ wo u) H1 → va_D A0 (wr ++ wo u) → va_S A0 H0 H1 locs1 → W p l e R s m args below meth c H1 locs1 (cells + mc) (slots + ms) Q (F0 m (pc + 3) ls rest)) : W p l e R s m args below meth c H locs cells slots Q (F0 m pc ls st0) := by
  have hPc := hP.sub (ws' := wc) isC (by
    have h2 : (isC.map (fun i => wv[i]?)).filterMap id = (wc.map some).filterMap id := by rw [hC]
    simpa [List.filterMap_map, Function.comp_def] using h2)
  have hDc := hD.sub (ws' := wc) isC hcn hC
  have hFc := va_free (wc := wc) hD hS hA isC hC
  refine va_callv (va_runI (As := As) (rest := rest) S hM cw ⟨fb_rw, fun U hU hW => ⟨rfl, by rw [hU], by rw [hU]; exact hPc, va_K.moved hW.alike hK, hN.warm hW, hDc.weaken (fun _ _ _ _ => trivial)⟩⟩ rfl hn hsize hst (lv_room hW) hdg hf) hS (fun q _ h => hFc q h) hFc (fun u t H1 locs1 ht hvm hw hB hz1 hk1 hS1 => ?_)
  obtain ⟨hP1, hD1⟩ := hB
  rw [ht] at hP1
  obtain ⟨a, b⟩ := va_join hP hD isC isR hC hR hnr hdis hk1 hFc hP1 hD1
  exact kk u H1 locs1 hw a b hS1
end CAI
theorem become33 : wp_X1_become (fun u1 u2 u3 u4 u5 u6 => u1 = 3 ∧ u2 = 3 ∧ u3 = 3 ∧ u4 = 128 ∧ u5 = 64 ∧ u6 = 56) 3 3 := by
  unfold wp_X1_become
  decide
theorem makes33 (r : Nat → Int32) : wp_X8_makes (fun u1 u2 u3 u4 u5 u6 u7 u8 u9 => u1 = 3 ∧ u2 = 3 ∧ u3 = 128 ∧ u4 = 55 ∧ u5 = 64 ∧ u6 = (-5) ∧ u7 = (-1) ∧ u8 = (-1) ∧ ∀ k, k < 5 → u9 k = 0) r 3 3 := by
  refine ⟨6, ?_⟩
  rw [wp_X8_makes_87_s]
  refine ⟨fun h => absurd h (by decide), fun _ => ⟨by unfold vp_in; decide, ?_⟩⟩
  rw [wp_X8_makes_87_s]
  refine ⟨fun h => absurd h (by decide), fun _ => ⟨by unfold vp_in; decide, ?_⟩⟩
  rw [wp_X8_makes_87_s]
  refine ⟨fun h => absurd h (by decide), fun _ => ⟨by unfold vp_in; decide, ?_⟩⟩
  rw [wp_X8_makes_87_s]
  refine ⟨fun h => absurd h (by decide), fun _ => ⟨by unfold vp_in; decide, ?_⟩⟩
  rw [wp_X8_makes_87_s]
  refine ⟨fun h => absurd h (by decide), fun _ => ⟨by unfold vp_in; decide, ?_⟩⟩
  rw [wp_X8_makes_87_s]
  refine ⟨fun _ => ⟨by decide, by decide, by decide, by decide, by decide, by decide, by decide, by decide, fun k hk => ?_⟩, fun h => absurd (by decide) h⟩
  rcases (show k = 0 ∨ k = 1 ∨ k = 2 ∨ k = 3 ∨ k = 4 by omega) with rfl | rfl | rfl | rfl | rfl <;> rfl
def w_X1_init : List Cond := .code yX1_init cX1_init 1 none :: wsL_law
set_option maxHeartbeats 4000000 in
set_option maxRecDepth 100000 in
theorem i_X1_init (l : Launch) (D : va_G) (cI cJ cZ : ClassId) (a_fl : Nat) (sz : Nat) (A : Nat → Prop) (hAe : A = va_A [(a_fl, .inr (1, [.int 0, .int 0, .int 0, .int 0, .int 0, .int 0]))] sz) : Met l yX1_init w_X1_init ({ frames := 1, cells := 0, slots := 0, locals := 22 } : Room) (rw_P D [(cI, .int), (cJ, .long), (cZ, .boolean)] [.ref a_fl] sz [(a_fl, .inr (1, [.int 0, .int 0, .int 0, .int 0, .int 0, .int 0]))]) (va_Qv (fun (_ : Unit) => True) (rw_B D A (fun (u : Unit) => [(a_fl, .inr (1, [.int 3, .int 3, .int 3, .int 128, .int 64, .int 56]))])) A) 0 0 A := by
  refine Met.ofW (cc := cX1_init) (maxL := 1) (ret := none) (by decide) rfl ?_
  intro p e s m args below meth c s₁ B hml hv
  obtain ⟨hargs, hsz, hP, hK, hN, hD0⟩ := hv
  have hx := B.exec
  have hb := B.bytes
  have hr := B.returns
  have hts : ∀ w ∈ wsL_law, w.before args s = true := fun w h => atoms_spec (ws := w_X1_init) B.pre w (List.mem_cons_of_mem _ h)
  have hown : s.vm.findClass RX1 = some m.cls := findClass_of_methodNamed B.named
  have hlocks := B.notSynchronized
  have hin : meth.name = "<init>" := (name_of_methodNamed B.named B.method).1
  subst hsz
  have hD : va_D A [(a_fl, .inr (1, [.int 0, .int 0, .int 0, .int 0, .int 0, .int 0]))] := by rw [hAe]; exact hD0.self
  have hA : ∀ q : Nat, s.heap.size ≤ q → A q := fun q h => by rw [hAe]; exact Or.inr h
  have hS : va_S A s.heap s.heap [] := va_S.rf
  have hl := lv_entry ([.ref a_fl]) (n := 1) (Nat.le_of_ble_eq_true rfl)
  rw [hargs, lg_entry_eq, ← hargs]
  generalize (lg_sl ([.ref a_fl]) ++ List.replicate (1 - (lg_sl ([.ref a_fl])).length) Slot.unset).toArray = ls at hl ⊢
  replace hl : lv_has ls 1 [(0, .ref a_fl)] := hl
  have hRf : ∀ n, n ≤ 1 → n ≤ (headSpec w_X1_init ({ frames := 1, cells := 0, slots := 0, locals := 22 } : Room)).room.frames := fun n h => h
  have hRl : ∀ n, n ≤ 22 → n ≤ (headSpec w_X1_init ({ frames := 1, cells := 0, slots := 0, locals := 22 } : Room)).room.locals := fun n h => h
  have hRc : ∀ n, n ≤ 0 → n ≤ (headSpec w_X1_init ({ frames := 1, cells := 0, slots := 0, locals := 22 } : Room)).room.cells := fun n h => h
  have hRs : ∀ n, n ≤ 0 → n ≤ (headSpec w_X1_init ({ frames := 1, cells := 0, slots := 0, locals := 22 } : Room)).room.slots := fun n h => h
  generalize (headSpec w_X1_init ({ frames := 1, cells := 0, slots := 0, locals := 22 } : Room)).room = R at hRf hRl hRc hRs ⊢
  generalize hQ : MQ below _ args s 0 0 _ = Q
  suffices main : ∀ (H : Heap) (locs : List Loc), va_P D vwCl [(a_fl, .inr (1, [.int 0, .int 0, .int 0, .int 0, .int 0, .int 0]))] H → va_S A s.heap H locs → W p l e R s m args below meth c H locs 0 0 Q (F0 m 0 ls []) from main _ _ hP hS
  intro H locs hP hS
  refine lv_aload_n hx hb dX1_init_0 rfl (lv_at hl 0 rfl) ?_
  refine W.objInit hx hb hown (hts _ wl_41) (hts _ wl_10) (hts _ wl_11) rfl (hl.1.trans hml.symm) rfl dX1_init_1 (hRf _ (Nat.le_of_ble_eq_true rfl)) (hRl _ (Nat.le_of_ble_eq_true rfl)) ?_
  refine W.eq (g2 := F0 m 4 ls []) rfl ?_
  refine lv_aload_n hx hb dX1_init_4 rfl (lv_at hl 0 rfl) ?_
  refine lv_iconst (v := 3) hx hb dX1_init_5 (by decide) ?_
  refine lv_iconst (v := 3) hx hb dX1_init_6 (by decide) ?_
  refine ca_Wv (b := a_fl) (As := [.int 3, .int 3]) (rest := []) (wr := []) (wo := fun (u : Int32 × Int32 × Int32 × Int32 × Int32 × Int32) => [(a_fl, oX1 u.1 u.2.1 u.2.2.1 u.2.2.2.1 u.2.2.2.2.1 u.2.2.2.2.2)]) (wn := fun (u : Int32 × Int32 × Int32 × Int32 × Int32 × Int32) => [(a_fl, oX1 u.1 u.2.1 u.2.2.1 u.2.2.2.1 u.2.2.2.2.1 u.2.2.2.2.2)]) ⟨hx, hb, hml, hown, hts⟩ (c_X1_become l D cI cJ cZ a_fl H.size 0 0 0 0 0 0 3 3 _ _ rfl become33) (cwV 2 hts (gdV wl_42 wl_43 wl_44 wl_14 wl_45) rfl rfl rfl (by decide +kernel) ⟨hRf _ (Nat.le_of_ble_eq_true rfl), hRl _ (Nat.le_of_ble_eq_true rfl)⟩) hK hN hP hD hS hA [0] [] [0] rfl rfl (by decide) (by decide) (by decide) (by decide) (fun _ => rfl) 0 1 rfl rfl rfl rfl hl.1 rfl (Nat.le_of_ble_eq_true rfl) dX1_init_7 ⟨hRc _ (Nat.le_of_ble_eq_true rfl), hRs _ (Nat.le_of_ble_eq_true rfl)⟩ (fun u H locs ho hP hD hS => ?_)
  obtain ⟨u1, u2, u3, u4, u5, u6⟩ := u
  obtain ⟨rfl, rfl, rfl, rfl, rfl, rfl⟩ := ho
  replace hP : va_P D vwCl [(a_fl, .inr (1, [.int 3, .int 3, .int 3, .int 128, .int 64, .int 56]))] H := hP
  replace hD : va_D A [(a_fl, .inr (1, [.int 3, .int 3, .int 3, .int 128, .int 64, .int 56]))] := hD
  subst hQ; exact W.vret hx hb hr (fun t ht hW => ⟨⟨(), rfl, trivial, by rw [ht]; exact hP, hD⟩, hS.F ht⟩) (fun q hq => hS.2.2 q hq) dX1_init_10

def w_X3_init : List Cond := .code yX3_init cX3_init 2 none :: wsL_law
set_option maxHeartbeats 4000000 in
set_option maxRecDepth 100000 in
theorem i_X3_init (l : Launch) (D : va_G) (cI cJ cZ : ClassId) (a_pl : Nat) (a_fl : Nat) (sz : Nat) (A : Nat → Prop) (hAe : A = va_A [(a_pl, .inr (3, [.null, .int 0, .int 0, .int 0, .int 0]))] sz) : Met l yX3_init w_X3_init ({ frames := 1, cells := 0, slots := 0, locals := 20 } : Room) (rw_P D [(cI, .int), (cJ, .long), (cZ, .boolean)] [.ref a_pl, .ref a_fl] sz [(a_pl, .inr (3, [.null, .int 0, .int 0, .int 0, .int 0]))]) (va_Qv (fun (_ : Unit) => True) (rw_B D A (fun (u : Unit) => [(a_pl, .inr (3, [.ref a_fl, .int 0, .int 0, .int 0, .int 0]))])) A) 0 0 A := by
  refine Met.ofW (cc := cX3_init) (maxL := 2) (ret := none) (by decide) rfl ?_
  intro p e s m args below meth c s₁ B hml hv
  obtain ⟨hargs, hsz, hP, hK, hN, hD0⟩ := hv
  have hx := B.exec
  have hb := B.bytes
  have hr := B.returns
  have hts : ∀ w ∈ wsL_law, w.before args s = true := fun w h => atoms_spec (ws := w_X3_init) B.pre w (List.mem_cons_of_mem _ h)
  have hown : s.vm.findClass RX3 = some m.cls := findClass_of_methodNamed B.named
  have hlocks := B.notSynchronized
  have hin : meth.name = "<init>" := (name_of_methodNamed B.named B.method).1
  subst hsz
  have hD : va_D A [(a_pl, .inr (3, [.null, .int 0, .int 0, .int 0, .int 0]))] := by rw [hAe]; exact hD0.self
  have hA : ∀ q : Nat, s.heap.size ≤ q → A q := fun q h => by rw [hAe]; exact Or.inr h
  have hS : va_S A s.heap s.heap [] := va_S.rf
  have hl := lv_entry ([.ref a_pl, .ref a_fl]) (n := 2) (Nat.le_of_ble_eq_true rfl)
  rw [hargs, lg_entry_eq, ← hargs]
  generalize (lg_sl ([.ref a_pl, .ref a_fl]) ++ List.replicate (2 - (lg_sl ([.ref a_pl, .ref a_fl])).length) Slot.unset).toArray = ls at hl ⊢
  replace hl : lv_has ls 2 [(0, .ref a_pl), (1, .ref a_fl)] := hl
  have hRf : ∀ n, n ≤ 1 → n ≤ (headSpec w_X3_init ({ frames := 1, cells := 0, slots := 0, locals := 20 } : Room)).room.frames := fun n h => h
  have hRl : ∀ n, n ≤ 20 → n ≤ (headSpec w_X3_init ({ frames := 1, cells := 0, slots := 0, locals := 20 } : Room)).room.locals := fun n h => h
  have hRc : ∀ n, n ≤ 0 → n ≤ (headSpec w_X3_init ({ frames := 1, cells := 0, slots := 0, locals := 20 } : Room)).room.cells := fun n h => h
  have hRs : ∀ n, n ≤ 0 → n ≤ (headSpec w_X3_init ({ frames := 1, cells := 0, slots := 0, locals := 20 } : Room)).room.slots := fun n h => h
  generalize (headSpec w_X3_init ({ frames := 1, cells := 0, slots := 0, locals := 20 } : Room)).room = R at hRf hRl hRc hRs ⊢
  generalize hQ : MQ below _ args s 0 0 _ = Q
  suffices main : ∀ (H : Heap) (locs : List Loc), va_P D vwCl [(a_pl, .inr (3, [.null, .int 0, .int 0, .int 0, .int 0]))] H → va_S A s.heap H locs → W p l e R s m args below meth c H locs 0 0 Q (F0 m 0 ls []) from main _ _ hP hS
  intro H locs hP hS
  refine lv_aload_n hx hb dX3_init_0 rfl (lv_at hl 0 rfl) ?_
  refine W.objInit hx hb hown (hts _ wl_55) (hts _ wl_10) (hts _ wl_11) rfl (hl.1.trans hml.symm) rfl dX3_init_1 (hRf _ (Nat.le_of_ble_eq_true rfl)) (hRl _ (Nat.le_of_ble_eq_true rfl)) ?_
  refine W.eq (g2 := F0 m 4 ls []) rfl ?_
  refine lv_aload_n hx hb dX3_init_4 rfl (lv_at hl 0 rfl) ?_
  refine lv_aload_n hx hb dX3_init_5 rfl (lv_at hl 1 rfl) ?_
  refine va_putF (D := D) (ci := 3) (v := .ref a_fl) (ty := .object "HardBench$Floats") (C := RX3) (T := TX3) (N := 5) hx hb hts inlX3 tyX3 tyX3_ok nmX3 hown hK hP hD hS 0 rfl rfl 0 (by decide) (hts _ wl_56) (fun _ h9 => h9) rfl hin rfl (by decide +kernel) rfl rfl (Nat.le_of_ble_eq_true rfl) dX3_init_6 (fun H locs hP hD hS => ?_)
  replace hP : va_P D vwCl [(a_pl, .inr (3, [.ref a_fl, .int 0, .int 0, .int 0, .int 0]))] H := hP
  replace hD : va_D A [(a_pl, .inr (3, [.ref a_fl, .int 0, .int 0, .int 0, .int 0]))] := hD
  subst hQ; exact W.vret hx hb hr (fun t ht hW => ⟨⟨(), rfl, trivial, by rw [ht]; exact hP, hD⟩, hS.F ht⟩) (fun q hq => hS.2.2 q hq) dX3_init_9

def w_X6_init : List Cond := .code yX6_init cX6_init 2 none :: wsL_law
set_option maxHeartbeats 4000000 in
set_option maxRecDepth 100000 in
theorem i_X6_init (l : Launch) (D : va_G) (cI cJ cZ : ClassId) (a_va : Nat) (a_fl : Nat) (sz : Nat) (A : Nat → Prop) (hAe : A = va_A [(a_va, .inr (5, [.null, .null, .long 0, .int 0, .int 0, .int 0, .int 0, .int 0, .int 0]))] sz) : Met l yX6_init w_X6_init ({ frames := 2, cells := 1, slots := 5, locals := 41 } : Room) (rw_P D [(cI, .int), (cJ, .long), (cZ, .boolean)] [.ref a_va, .ref a_fl] sz [(a_va, .inr (5, [.null, .null, .long 0, .int 0, .int 0, .int 0, .int 0, .int 0, .int 0]))]) (va_Qv (fun (_ : Nat) => True) (rw_B D A (fun (u : Nat) => [(a_va, .inr (5, [.ref a_fl, .ref u, .long 0, .int 0, .int 0, .int 0, .int 0, .int 0, .int 0])), (u, .inr (3, [.ref a_fl, .int 0, .int 0, .int 0, .int 0]))])) A) 1 5 A := by
  refine Met.ofW (cc := cX6_init) (maxL := 2) (ret := none) (by decide) rfl ?_
  intro p e s m args below meth c s₁ B hml hv
  obtain ⟨hargs, hsz, hP, hK, hN, hD0⟩ := hv
  have hx := B.exec
  have hb := B.bytes
  have hr := B.returns
  have hts : ∀ w ∈ wsL_law, w.before args s = true := fun w h => atoms_spec (ws := w_X6_init) B.pre w (List.mem_cons_of_mem _ h)
  have hown : s.vm.findClass RX6 = some m.cls := findClass_of_methodNamed B.named
  have hlocks := B.notSynchronized
  have hin : meth.name = "<init>" := (name_of_methodNamed B.named B.method).1
  subst hsz
  have hD : va_D A [(a_va, .inr (5, [.null, .null, .long 0, .int 0, .int 0, .int 0, .int 0, .int 0, .int 0]))] := by rw [hAe]; exact hD0.self
  have hA : ∀ q : Nat, s.heap.size ≤ q → A q := fun q h => by rw [hAe]; exact Or.inr h
  have hS : va_S A s.heap s.heap [] := va_S.rf
  have hl := lv_entry ([.ref a_va, .ref a_fl]) (n := 2) (Nat.le_of_ble_eq_true rfl)
  rw [hargs, lg_entry_eq, ← hargs]
  generalize (lg_sl ([.ref a_va, .ref a_fl]) ++ List.replicate (2 - (lg_sl ([.ref a_va, .ref a_fl])).length) Slot.unset).toArray = ls at hl ⊢
  replace hl : lv_has ls 2 [(0, .ref a_va), (1, .ref a_fl)] := hl
  have hRf : ∀ n, n ≤ 2 → n ≤ (headSpec w_X6_init ({ frames := 2, cells := 1, slots := 5, locals := 41 } : Room)).room.frames := fun n h => h
  have hRl : ∀ n, n ≤ 41 → n ≤ (headSpec w_X6_init ({ frames := 2, cells := 1, slots := 5, locals := 41 } : Room)).room.locals := fun n h => h
  have hRc : ∀ n, n ≤ 1 → n ≤ (headSpec w_X6_init ({ frames := 2, cells := 1, slots := 5, locals := 41 } : Room)).room.cells := fun n h => h
  have hRs : ∀ n, n ≤ 5 → n ≤ (headSpec w_X6_init ({ frames := 2, cells := 1, slots := 5, locals := 41 } : Room)).room.slots := fun n h => h
  generalize (headSpec w_X6_init ({ frames := 2, cells := 1, slots := 5, locals := 41 } : Room)).room = R at hRf hRl hRc hRs ⊢
  generalize hQ : MQ below _ args s 1 5 _ = Q
  suffices main : ∀ (H : Heap) (locs : List Loc), va_P D vwCl [(a_va, .inr (5, [.null, .null, .long 0, .int 0, .int 0, .int 0, .int 0, .int 0, .int 0]))] H → va_S A s.heap H locs → W p l e R s m args below meth c H locs 0 0 Q (F0 m 0 ls []) from main _ _ hP hS
  intro H locs hP hS
  refine lv_aload_n hx hb dX6_init_0 rfl (lv_at hl 0 rfl) ?_
  refine W.objInit hx hb hown (hts _ wl_60) (hts _ wl_10) (hts _ wl_11) rfl (hl.1.trans hml.symm) rfl dX6_init_1 (hRf _ (Nat.le_of_ble_eq_true rfl)) (hRl _ (Nat.le_of_ble_eq_true rfl)) ?_
  refine W.eq (g2 := F0 m 4 ls []) rfl ?_
  refine lv_aload_n hx hb dX6_init_4 rfl (lv_at hl 0 rfl) ?_
  refine lv_aload_n hx hb dX6_init_5 rfl (lv_at hl 1 rfl) ?_
  refine va_putF (D := D) (ci := 5) (v := .ref a_fl) (ty := .object "HardBench$Floats") (C := RX6) (T := TX6) (N := 9) hx hb hts inlX6 tyX6 tyX6_ok nmX6 hown hK hP hD hS 0 rfl rfl 0 (by decide) (hts _ wl_61) (fun _ h9 => h9) rfl hin rfl (by decide +kernel) rfl rfl (Nat.le_of_ble_eq_true rfl) dX6_init_6 (fun H locs hP hD hS => ?_)
  replace hP : va_P D vwCl [(a_va, .inr (5, [.ref a_fl, .null, .long 0, .int 0, .int 0, .int 0, .int 0, .int 0, .int 0]))] H := hP
  replace hD : va_D A [(a_va, .inr (5, [.ref a_fl, .null, .long 0, .int 0, .int 0, .int 0, .int 0, .int 0, .int 0]))] := hD
  refine lv_aload_n hx hb dX6_init_9 rfl (lv_at hl 0 rfl) ?_
  refine va_new (ci := 3) (fs := [.null, .int 0, .int 0, .int 0, .int 0]) (C := RX3) (T := TX3) (N := 5) hx hb hts inlX3 tyX3 tyX3_ok hown (hts _ wl_62) (hts _ wl_17) (hts _ wl_18) hK hP hD hS hA rfl (fun j hj => by rcases (show j = 0 ∨ j = 1 ∨ j = 2 ∨ j = 3 ∨ j = 4 by omega) with rfl | rfl | rfl | rfl | rfl <;> rfl) (hRc _ (Nat.le_of_ble_eq_true rfl)) (hRs _ (Nat.le_of_ble_eq_true rfl)) dX6_init_10 (fun a_p2 H hP hD hS => ?_)
  replace hP : va_P D vwCl [(a_va, .inr (5, [.ref a_fl, .null, .long 0, .int 0, .int 0, .int 0, .int 0, .int 0, .int 0])), (a_p2, .inr (3, [.null, .int 0, .int 0, .int 0, .int 0]))] H := hP
  replace hD : va_D A [(a_va, .inr (5, [.ref a_fl, .null, .long 0, .int 0, .int 0, .int 0, .int 0, .int 0, .int 0])), (a_p2, .inr (3, [.null, .int 0, .int 0, .int 0, .int 0]))] := hD
  refine W.widen (k := 1) (n := 5) (Nat.le_of_ble_eq_true rfl) (Nat.le_of_ble_eq_true rfl) ?_
  refine lv_dup hx hb dX6_init_13 rfl ?_
  refine lv_aload_n hx hb dX6_init_14 rfl (lv_at hl 1 rfl) ?_
  refine ca_I (b := a_p2) (As := [.ref a_fl]) (rest := [.ref a_p2, .ref a_va]) (wr := [(a_va, .inr (5, [.ref a_fl, .null, .long 0, .int 0, .int 0, .int 0, .int 0, .int 0, .int 0]))]) ⟨hx, hb, hml, hown, hts⟩ (i_X3_init l D cI cJ cZ a_p2 a_fl H.size _ rfl) (cwI 1 hts (gdI wl_54) rfl rfl rfl (hts _ wl_18) (hts _ wl_64) (hts _ wl_53) rfl (by decide +kernel) ⟨hRf _ (Nat.le_of_ble_eq_true rfl), hRl _ (Nat.le_of_ble_eq_true rfl)⟩) hK hN hP hD hS hA [1] [0] rfl rfl (by decide) (by decide) (by decide) rfl hl.1 rfl (Nat.le_of_ble_eq_true rfl) dX6_init_15 ⟨hRc _ (Nat.le_of_ble_eq_true rfl), hRs _ (Nat.le_of_ble_eq_true rfl)⟩ (fun u15 H locs _ hP hD hS => ?_)
  replace hP : va_P D vwCl [(a_va, .inr (5, [.ref a_fl, .null, .long 0, .int 0, .int 0, .int 0, .int 0, .int 0, .int 0])), (a_p2, .inr (3, [.ref a_fl, .int 0, .int 0, .int 0, .int 0]))] H := hP
  replace hD : va_D A [(a_va, .inr (5, [.ref a_fl, .null, .long 0, .int 0, .int 0, .int 0, .int 0, .int 0, .int 0])), (a_p2, .inr (3, [.ref a_fl, .int 0, .int 0, .int 0, .int 0]))] := hD
  refine W.widen (k := 1) (n := 5) (Nat.le_of_ble_eq_true rfl) (Nat.le_of_ble_eq_true rfl) ?_
  refine va_putF (D := D) (ci := 5) (v := .ref a_p2) (ty := .object "HardBench$Place") (C := RX6) (T := TX6) (N := 9) hx hb hts inlX6 tyX6 tyX6_ok nmX6 hown hK hP hD hS 0 rfl rfl 1 (by decide) (hts _ wl_63) (fun _ h9 => h9) rfl hin rfl (by decide +kernel) rfl rfl (Nat.le_of_ble_eq_true rfl) dX6_init_18 (fun H locs hP hD hS => ?_)
  replace hP : va_P D vwCl [(a_va, .inr (5, [.ref a_fl, .ref a_p2, .long 0, .int 0, .int 0, .int 0, .int 0, .int 0, .int 0])), (a_p2, .inr (3, [.ref a_fl, .int 0, .int 0, .int 0, .int 0]))] H := hP
  replace hD : va_D A [(a_va, .inr (5, [.ref a_fl, .ref a_p2, .long 0, .int 0, .int 0, .int 0, .int 0, .int 0, .int 0])), (a_p2, .inr (3, [.ref a_fl, .int 0, .int 0, .int 0, .int 0]))] := hD
  subst hQ; exact W.vret hx hb hr (fun t ht hW => ⟨⟨a_p2, rfl, trivial, by rw [ht]; exact hP, hD⟩, hS.F ht⟩) (fun q hq => hS.2.2 q hq) dX6_init_21

def w_X0_init : List Cond := .code yX0_init cX0_init 3 none :: wsL_law
set_option maxHeartbeats 4000000 in
set_option maxRecDepth 100000 in
theorem i_X0_init (l : Launch) (D : va_G) (cI cJ cZ : ClassId) (a_ce : Nat) (a_fl : Nat) (a_va : Nat) (sz : Nat) (A : Nat → Prop) (hAe : A = va_A [(a_ce, .inr (0, [.null, .null, .null, .null, .null, .null, .null]))] sz) : Met l yX0_init w_X0_init ({ frames := 1, cells := 5, slots := 715, locals := 20 } : Room) (rw_P D [(cI, .int), (cJ, .long), (cZ, .boolean)] [.ref a_ce, .ref a_fl, .ref a_va] sz [(a_ce, .inr (0, [.null, .null, .null, .null, .null, .null, .null]))]) (va_Qv (fun (_ : Nat × Nat × Nat × Nat × Nat) => True) (rw_B D A (fun (u : Nat × Nat × Nat × Nat × Nat) => [(a_ce, .inr (0, [.ref a_fl, .ref a_va, .ref u.1, .ref u.2.1, .ref u.2.2.1, .ref u.2.2.2.1, .ref u.2.2.2.2])), (u.1, .inl (cI, 5, .inl (fun _ => 0))), (u.2.1, .inl (cI, 20, .inl (fun _ => 0))), (u.2.2.1, .inl (cI, 50, .inl (fun _ => 0))), (u.2.2.2.1, .inl (cI, 320, .inl (fun _ => 0))), (u.2.2.2.2, .inl (cI, 320, .inl (fun _ => 0)))])) A) 5 715 A := by
  refine Met.ofW (cc := cX0_init) (maxL := 3) (ret := none) (by decide) rfl ?_
  intro p e s m args below meth c s₁ B hml hv
  obtain ⟨hargs, hsz, hP, hK, hN, hD0⟩ := hv
  have hx := B.exec
  have hb := B.bytes
  have hr := B.returns
  have hts : ∀ w ∈ wsL_law, w.before args s = true := fun w h => atoms_spec (ws := w_X0_init) B.pre w (List.mem_cons_of_mem _ h)
  have hown : s.vm.findClass RX0 = some m.cls := findClass_of_methodNamed B.named
  have hlocks := B.notSynchronized
  have hin : meth.name = "<init>" := (name_of_methodNamed B.named B.method).1
  subst hsz
  have hD : va_D A [(a_ce, .inr (0, [.null, .null, .null, .null, .null, .null, .null]))] := by rw [hAe]; exact hD0.self
  have hA : ∀ q : Nat, s.heap.size ≤ q → A q := fun q h => by rw [hAe]; exact Or.inr h
  have hS : va_S A s.heap s.heap [] := va_S.rf
  have hl := lv_entry ([.ref a_ce, .ref a_fl, .ref a_va]) (n := 3) (Nat.le_of_ble_eq_true rfl)
  rw [hargs, lg_entry_eq, ← hargs]
  generalize (lg_sl ([.ref a_ce, .ref a_fl, .ref a_va]) ++ List.replicate (3 - (lg_sl ([.ref a_ce, .ref a_fl, .ref a_va])).length) Slot.unset).toArray = ls at hl ⊢
  replace hl : lv_has ls 3 [(0, .ref a_ce), (1, .ref a_fl), (2, .ref a_va)] := hl
  have hRf : ∀ n, n ≤ 1 → n ≤ (headSpec w_X0_init ({ frames := 1, cells := 5, slots := 715, locals := 20 } : Room)).room.frames := fun n h => h
  have hRl : ∀ n, n ≤ 20 → n ≤ (headSpec w_X0_init ({ frames := 1, cells := 5, slots := 715, locals := 20 } : Room)).room.locals := fun n h => h
  have hRc : ∀ n, n ≤ 5 → n ≤ (headSpec w_X0_init ({ frames := 1, cells := 5, slots := 715, locals := 20 } : Room)).room.cells := fun n h => h
  have hRs : ∀ n, n ≤ 715 → n ≤ (headSpec w_X0_init ({ frames := 1, cells := 5, slots := 715, locals := 20 } : Room)).room.slots := fun n h => h
  generalize (headSpec w_X0_init ({ frames := 1, cells := 5, slots := 715, locals := 20 } : Room)).room = R at hRf hRl hRc hRs ⊢
  generalize hQ : MQ below _ args s 5 715 _ = Q
  suffices main : ∀ (H : Heap) (locs : List Loc), va_P D vwCl [(a_ce, .inr (0, [.null, .null, .null, .null, .null, .null, .null]))] H → va_S A s.heap H locs → W p l e R s m args below meth c H locs 0 0 Q (F0 m 0 ls []) from main _ _ hP hS
  intro H locs hP hS
  refine lv_aload_n hx hb dX0_init_0 rfl (lv_at hl 0 rfl) ?_
  refine W.objInit hx hb hown (hts _ wl_68) (hts _ wl_10) (hts _ wl_11) rfl (hl.1.trans hml.symm) rfl dX0_init_1 (hRf _ (Nat.le_of_ble_eq_true rfl)) (hRl _ (Nat.le_of_ble_eq_true rfl)) ?_
  refine W.eq (g2 := F0 m 4 ls []) rfl ?_
  refine lv_aload_n hx hb dX0_init_4 rfl (lv_at hl 0 rfl) ?_
  refine lv_aload_n hx hb dX0_init_5 rfl (lv_at hl 1 rfl) ?_
  refine va_putF (D := D) (ci := 0) (v := .ref a_fl) (ty := .object "HardBench$Floats") (C := RX0) (T := TX0) (N := 7) hx hb hts inlX0 tyX0 tyX0_ok nmX0 hown hK hP hD hS 0 rfl rfl 0 (by decide) (hts _ wl_69) (fun _ h9 => h9) rfl hin rfl (by decide +kernel) rfl rfl (Nat.le_of_ble_eq_true rfl) dX0_init_6 (fun H locs hP hD hS => ?_)
  replace hP : va_P D vwCl [(a_ce, .inr (0, [.ref a_fl, .null, .null, .null, .null, .null, .null]))] H := hP
  replace hD : va_D A [(a_ce, .inr (0, [.ref a_fl, .null, .null, .null, .null, .null, .null]))] := hD
  refine lv_aload_n hx hb dX0_init_9 rfl (lv_at hl 0 rfl) ?_
  refine lv_aload_n hx hb dX0_init_10 rfl (lv_at hl 2 rfl) ?_
  refine va_putF (D := D) (ci := 0) (v := .ref a_va) (ty := .object "HardBench$Value") (C := RX0) (T := TX0) (N := 7) hx hb hts inlX0 tyX0 tyX0_ok nmX0 hown hK hP hD hS 0 rfl rfl 1 (by decide) (hts _ wl_70) (fun _ h9 => h9) rfl hin rfl (by decide +kernel) rfl rfl (Nat.le_of_ble_eq_true rfl) dX0_init_11 (fun H locs hP hD hS => ?_)
  replace hP : va_P D vwCl [(a_ce, .inr (0, [.ref a_fl, .ref a_va, .null, .null, .null, .null, .null]))] H := hP
  replace hD : va_D A [(a_ce, .inr (0, [.ref a_fl, .ref a_va, .null, .null, .null, .null, .null]))] := hD
  refine lv_aload_n hx hb dX0_init_14 rfl (lv_at hl 0 rfl) ?_
  refine lv_iconst (v := 5) hx hb dX0_init_15 (by decide) ?_
  refine va_newa hx hb (hts _ wl_36) rfl hK hP hD hS hA (n := 5) (N' := 5) (a0 := (5, .inl (fun _ => 0))) (fun _ => rfl) (by decide) (by decide) (by decide) (hRc _ (Nat.le_of_ble_eq_true rfl)) (hRs _ (Nat.le_of_ble_eq_true rfl)) dX0_init_16 (fun a_ceT cA H hK2 hP hD hS => ?_)
  obtain rfl := cls_i hK2
  replace hP : va_P D vwCl [(a_ce, .inr (0, [.ref a_fl, .ref a_va, .null, .null, .null, .null, .null])), (a_ceT, .inl (cI, 5, .inl (fun _ => 0)))] H := hP
  replace hD : va_D A [(a_ce, .inr (0, [.ref a_fl, .ref a_va, .null, .null, .null, .null, .null])), (a_ceT, .inl (cI, 5, .inl (fun _ => 0)))] := hD
  refine W.widen (k := 1) (n := 5) (Nat.le_of_ble_eq_true rfl) (Nat.le_of_ble_eq_true rfl) ?_
  refine va_putF (D := D) (ci := 0) (v := .ref a_ceT) (ty := .array .int) (C := RX0) (T := TX0) (N := 7) hx hb hts inlX0 tyX0 tyX0_ok nmX0 hown hK hP hD hS 0 rfl rfl 2 (by decide) (hts _ wl_71) (fun _ h9 => h9) rfl hin rfl (by decide +kernel) rfl rfl (Nat.le_of_ble_eq_true rfl) dX0_init_18 (fun H locs hP hD hS => ?_)
  replace hP : va_P D vwCl [(a_ce, .inr (0, [.ref a_fl, .ref a_va, .ref a_ceT, .null, .null, .null, .null])), (a_ceT, .inl (cI, 5, .inl (fun _ => 0)))] H := hP
  replace hD : va_D A [(a_ce, .inr (0, [.ref a_fl, .ref a_va, .ref a_ceT, .null, .null, .null, .null])), (a_ceT, .inl (cI, 5, .inl (fun _ => 0)))] := hD
  refine lv_aload_n hx hb dX0_init_21 rfl (lv_at hl 0 rfl) ?_
  refine lv_bipush (v := 20) hx hb dX0_init_22 (by decide) ?_
  refine va_newa hx hb (hts _ wl_36) rfl hK hP hD hS hA (n := 20) (N' := 20) (a0 := (20, .inl (fun _ => 0))) (fun _ => rfl) (by decide) (by decide) (by decide) (hRc _ (Nat.le_of_ble_eq_true rfl)) (hRs _ (Nat.le_of_ble_eq_true rfl)) dX0_init_24 (fun a_ceS cA H hK2 hP hD hS => ?_)
  obtain rfl := cls_i hK2
  replace hP : va_P D vwCl [(a_ce, .inr (0, [.ref a_fl, .ref a_va, .ref a_ceT, .null, .null, .null, .null])), (a_ceT, .inl (cI, 5, .inl (fun _ => 0))), (a_ceS, .inl (cI, 20, .inl (fun _ => 0)))] H := hP
  replace hD : va_D A [(a_ce, .inr (0, [.ref a_fl, .ref a_va, .ref a_ceT, .null, .null, .null, .null])), (a_ceT, .inl (cI, 5, .inl (fun _ => 0))), (a_ceS, .inl (cI, 20, .inl (fun _ => 0)))] := hD
  refine W.widen (k := 2) (n := 25) (Nat.le_of_ble_eq_true rfl) (Nat.le_of_ble_eq_true rfl) ?_
  refine va_putF (D := D) (ci := 0) (v := .ref a_ceS) (ty := .array .int) (C := RX0) (T := TX0) (N := 7) hx hb hts inlX0 tyX0 tyX0_ok nmX0 hown hK hP hD hS 0 rfl rfl 3 (by decide) (hts _ wl_72) (fun _ h9 => h9) rfl hin rfl (by decide +kernel) rfl rfl (Nat.le_of_ble_eq_true rfl) dX0_init_26 (fun H locs hP hD hS => ?_)
  replace hP : va_P D vwCl [(a_ce, .inr (0, [.ref a_fl, .ref a_va, .ref a_ceT, .ref a_ceS, .null, .null, .null])), (a_ceT, .inl (cI, 5, .inl (fun _ => 0))), (a_ceS, .inl (cI, 20, .inl (fun _ => 0)))] H := hP
  replace hD : va_D A [(a_ce, .inr (0, [.ref a_fl, .ref a_va, .ref a_ceT, .ref a_ceS, .null, .null, .null])), (a_ceT, .inl (cI, 5, .inl (fun _ => 0))), (a_ceS, .inl (cI, 20, .inl (fun _ => 0)))] := hD
  refine lv_aload_n hx hb dX0_init_29 rfl (lv_at hl 0 rfl) ?_
  refine lv_bipush (v := 50) hx hb dX0_init_30 (by decide) ?_
  refine va_newa hx hb (hts _ wl_36) rfl hK hP hD hS hA (n := 50) (N' := 50) (a0 := (50, .inl (fun _ => 0))) (fun _ => rfl) (by decide) (by decide) (by decide) (hRc _ (Nat.le_of_ble_eq_true rfl)) (hRs _ (Nat.le_of_ble_eq_true rfl)) dX0_init_32 (fun a_ceH cA H hK2 hP hD hS => ?_)
  obtain rfl := cls_i hK2
  replace hP : va_P D vwCl [(a_ce, .inr (0, [.ref a_fl, .ref a_va, .ref a_ceT, .ref a_ceS, .null, .null, .null])), (a_ceT, .inl (cI, 5, .inl (fun _ => 0))), (a_ceS, .inl (cI, 20, .inl (fun _ => 0))), (a_ceH, .inl (cI, 50, .inl (fun _ => 0)))] H := hP
  replace hD : va_D A [(a_ce, .inr (0, [.ref a_fl, .ref a_va, .ref a_ceT, .ref a_ceS, .null, .null, .null])), (a_ceT, .inl (cI, 5, .inl (fun _ => 0))), (a_ceS, .inl (cI, 20, .inl (fun _ => 0))), (a_ceH, .inl (cI, 50, .inl (fun _ => 0)))] := hD
  refine W.widen (k := 3) (n := 75) (Nat.le_of_ble_eq_true rfl) (Nat.le_of_ble_eq_true rfl) ?_
  refine va_putF (D := D) (ci := 0) (v := .ref a_ceH) (ty := .array .int) (C := RX0) (T := TX0) (N := 7) hx hb hts inlX0 tyX0 tyX0_ok nmX0 hown hK hP hD hS 0 rfl rfl 4 (by decide) (hts _ wl_73) (fun _ h9 => h9) rfl hin rfl (by decide +kernel) rfl rfl (Nat.le_of_ble_eq_true rfl) dX0_init_34 (fun H locs hP hD hS => ?_)
  replace hP : va_P D vwCl [(a_ce, .inr (0, [.ref a_fl, .ref a_va, .ref a_ceT, .ref a_ceS, .ref a_ceH, .null, .null])), (a_ceT, .inl (cI, 5, .inl (fun _ => 0))), (a_ceS, .inl (cI, 20, .inl (fun _ => 0))), (a_ceH, .inl (cI, 50, .inl (fun _ => 0)))] H := hP
  replace hD : va_D A [(a_ce, .inr (0, [.ref a_fl, .ref a_va, .ref a_ceT, .ref a_ceS, .ref a_ceH, .null, .null])), (a_ceT, .inl (cI, 5, .inl (fun _ => 0))), (a_ceS, .inl (cI, 20, .inl (fun _ => 0))), (a_ceH, .inl (cI, 50, .inl (fun _ => 0)))] := hD
  refine lv_aload_n hx hb dX0_init_37 rfl (lv_at hl 0 rfl) ?_
  refine lv_sipush (v := 320) hx hb dX0_init_38 (by decide) ?_
  refine va_newa hx hb (hts _ wl_36) rfl hK hP hD hS hA (n := 320) (N' := 320) (a0 := (320, .inl (fun _ => 0))) (fun _ => rfl) (by decide) (by decide) (by decide) (hRc _ (Nat.le_of_ble_eq_true rfl)) (hRs _ (Nat.le_of_ble_eq_true rfl)) dX0_init_41 (fun a_ceG cA H hK2 hP hD hS => ?_)
  obtain rfl := cls_i hK2
  replace hP : va_P D vwCl [(a_ce, .inr (0, [.ref a_fl, .ref a_va, .ref a_ceT, .ref a_ceS, .ref a_ceH, .null, .null])), (a_ceT, .inl (cI, 5, .inl (fun _ => 0))), (a_ceS, .inl (cI, 20, .inl (fun _ => 0))), (a_ceH, .inl (cI, 50, .inl (fun _ => 0))), (a_ceG, .inl (cI, 320, .inl (fun _ => 0)))] H := hP
  replace hD : va_D A [(a_ce, .inr (0, [.ref a_fl, .ref a_va, .ref a_ceT, .ref a_ceS, .ref a_ceH, .null, .null])), (a_ceT, .inl (cI, 5, .inl (fun _ => 0))), (a_ceS, .inl (cI, 20, .inl (fun _ => 0))), (a_ceH, .inl (cI, 50, .inl (fun _ => 0))), (a_ceG, .inl (cI, 320, .inl (fun _ => 0)))] := hD
  refine W.widen (k := 4) (n := 395) (Nat.le_of_ble_eq_true rfl) (Nat.le_of_ble_eq_true rfl) ?_
  refine va_putF (D := D) (ci := 0) (v := .ref a_ceG) (ty := .array .int) (C := RX0) (T := TX0) (N := 7) hx hb hts inlX0 tyX0 tyX0_ok nmX0 hown hK hP hD hS 0 rfl rfl 5 (by decide) (hts _ wl_74) (fun _ h9 => h9) rfl hin rfl (by decide +kernel) rfl rfl (Nat.le_of_ble_eq_true rfl) dX0_init_43 (fun H locs hP hD hS => ?_)
  replace hP : va_P D vwCl [(a_ce, .inr (0, [.ref a_fl, .ref a_va, .ref a_ceT, .ref a_ceS, .ref a_ceH, .ref a_ceG, .null])), (a_ceT, .inl (cI, 5, .inl (fun _ => 0))), (a_ceS, .inl (cI, 20, .inl (fun _ => 0))), (a_ceH, .inl (cI, 50, .inl (fun _ => 0))), (a_ceG, .inl (cI, 320, .inl (fun _ => 0)))] H := hP
  replace hD : va_D A [(a_ce, .inr (0, [.ref a_fl, .ref a_va, .ref a_ceT, .ref a_ceS, .ref a_ceH, .ref a_ceG, .null])), (a_ceT, .inl (cI, 5, .inl (fun _ => 0))), (a_ceS, .inl (cI, 20, .inl (fun _ => 0))), (a_ceH, .inl (cI, 50, .inl (fun _ => 0))), (a_ceG, .inl (cI, 320, .inl (fun _ => 0)))] := hD
  refine lv_aload_n hx hb dX0_init_46 rfl (lv_at hl 0 rfl) ?_
  refine lv_sipush (v := 320) hx hb dX0_init_47 (by decide) ?_
  refine va_newa hx hb (hts _ wl_36) rfl hK hP hD hS hA (n := 320) (N' := 320) (a0 := (320, .inl (fun _ => 0))) (fun _ => rfl) (by decide) (by decide) (by decide) (hRc _ (Nat.le_of_ble_eq_true rfl)) (hRs _ (Nat.le_of_ble_eq_true rfl)) dX0_init_50 (fun a_ceV cA H hK2 hP hD hS => ?_)
  obtain rfl := cls_i hK2
  replace hP : va_P D vwCl [(a_ce, .inr (0, [.ref a_fl, .ref a_va, .ref a_ceT, .ref a_ceS, .ref a_ceH, .ref a_ceG, .null])), (a_ceT, .inl (cI, 5, .inl (fun _ => 0))), (a_ceS, .inl (cI, 20, .inl (fun _ => 0))), (a_ceH, .inl (cI, 50, .inl (fun _ => 0))), (a_ceG, .inl (cI, 320, .inl (fun _ => 0))), (a_ceV, .inl (cI, 320, .inl (fun _ => 0)))] H := hP
  replace hD : va_D A [(a_ce, .inr (0, [.ref a_fl, .ref a_va, .ref a_ceT, .ref a_ceS, .ref a_ceH, .ref a_ceG, .null])), (a_ceT, .inl (cI, 5, .inl (fun _ => 0))), (a_ceS, .inl (cI, 20, .inl (fun _ => 0))), (a_ceH, .inl (cI, 50, .inl (fun _ => 0))), (a_ceG, .inl (cI, 320, .inl (fun _ => 0))), (a_ceV, .inl (cI, 320, .inl (fun _ => 0)))] := hD
  refine W.widen (k := 5) (n := 715) (Nat.le_of_ble_eq_true rfl) (Nat.le_of_ble_eq_true rfl) ?_
  refine va_putF (D := D) (ci := 0) (v := .ref a_ceV) (ty := .array .int) (C := RX0) (T := TX0) (N := 7) hx hb hts inlX0 tyX0 tyX0_ok nmX0 hown hK hP hD hS 0 rfl rfl 6 (by decide) (hts _ wl_75) (fun _ h9 => h9) rfl hin rfl (by decide +kernel) rfl rfl (Nat.le_of_ble_eq_true rfl) dX0_init_52 (fun H locs hP hD hS => ?_)
  replace hP : va_P D vwCl [(a_ce, .inr (0, [.ref a_fl, .ref a_va, .ref a_ceT, .ref a_ceS, .ref a_ceH, .ref a_ceG, .ref a_ceV])), (a_ceT, .inl (cI, 5, .inl (fun _ => 0))), (a_ceS, .inl (cI, 20, .inl (fun _ => 0))), (a_ceH, .inl (cI, 50, .inl (fun _ => 0))), (a_ceG, .inl (cI, 320, .inl (fun _ => 0))), (a_ceV, .inl (cI, 320, .inl (fun _ => 0)))] H := hP
  replace hD : va_D A [(a_ce, .inr (0, [.ref a_fl, .ref a_va, .ref a_ceT, .ref a_ceS, .ref a_ceH, .ref a_ceG, .ref a_ceV])), (a_ceT, .inl (cI, 5, .inl (fun _ => 0))), (a_ceS, .inl (cI, 20, .inl (fun _ => 0))), (a_ceH, .inl (cI, 50, .inl (fun _ => 0))), (a_ceG, .inl (cI, 320, .inl (fun _ => 0))), (a_ceV, .inl (cI, 320, .inl (fun _ => 0)))] := hD
  subst hQ; exact W.vret hx hb hr (fun t ht hW => ⟨⟨(a_ceT, a_ceS, a_ceH, a_ceG, a_ceV), rfl, trivial, by rw [ht]; exact hP, hD⟩, hS.F ht⟩) (fun q hq => hS.2.2 q hq) dX0_init_55

def w_X5_init : List Cond := .code yX5_init cX5_init 3 none :: wsL_law
set_option maxHeartbeats 4000000 in
set_option maxRecDepth 100000 in
theorem i_X5_init (l : Launch) (D : va_G) (cI cJ cZ : ClassId) (a_st : Nat) (a_fl : Nat) (a_va : Nat) (sz : Nat) (A : Nat → Prop) (hAe : A = va_A [(a_st, .inr (4, [.null, .null, .null, .null]))] sz) : Met l yX5_init w_X5_init ({ frames := 1, cells := 2, slots := 825, locals := 20 } : Room) (rw_P D [(cI, .int), (cJ, .long), (cZ, .boolean)] [.ref a_st, .ref a_fl, .ref a_va] sz [(a_st, .inr (4, [.null, .null, .null, .null]))]) (va_Qv (fun (_ : Nat × Nat) => True) (rw_B D A (fun (u : Nat × Nat) => [(a_st, .inr (4, [.ref a_fl, .ref a_va, .ref u.1, .ref u.2])), (u.1, .inl (cI, 25, .inl (fun _ => 0))), (u.2, .inl (cI, 800, .inl (fun _ => 0)))])) A) 2 825 A := by
  refine Met.ofW (cc := cX5_init) (maxL := 3) (ret := none) (by decide) rfl ?_
  intro p e s m args below meth c s₁ B hml hv
  obtain ⟨hargs, hsz, hP, hK, hN, hD0⟩ := hv
  have hx := B.exec
  have hb := B.bytes
  have hr := B.returns
  have hts : ∀ w ∈ wsL_law, w.before args s = true := fun w h => atoms_spec (ws := w_X5_init) B.pre w (List.mem_cons_of_mem _ h)
  have hown : s.vm.findClass RX5 = some m.cls := findClass_of_methodNamed B.named
  have hlocks := B.notSynchronized
  have hin : meth.name = "<init>" := (name_of_methodNamed B.named B.method).1
  subst hsz
  have hD : va_D A [(a_st, .inr (4, [.null, .null, .null, .null]))] := by rw [hAe]; exact hD0.self
  have hA : ∀ q : Nat, s.heap.size ≤ q → A q := fun q h => by rw [hAe]; exact Or.inr h
  have hS : va_S A s.heap s.heap [] := va_S.rf
  have hl := lv_entry ([.ref a_st, .ref a_fl, .ref a_va]) (n := 3) (Nat.le_of_ble_eq_true rfl)
  rw [hargs, lg_entry_eq, ← hargs]
  generalize (lg_sl ([.ref a_st, .ref a_fl, .ref a_va]) ++ List.replicate (3 - (lg_sl ([.ref a_st, .ref a_fl, .ref a_va])).length) Slot.unset).toArray = ls at hl ⊢
  replace hl : lv_has ls 3 [(0, .ref a_st), (1, .ref a_fl), (2, .ref a_va)] := hl
  have hRf : ∀ n, n ≤ 1 → n ≤ (headSpec w_X5_init ({ frames := 1, cells := 2, slots := 825, locals := 20 } : Room)).room.frames := fun n h => h
  have hRl : ∀ n, n ≤ 20 → n ≤ (headSpec w_X5_init ({ frames := 1, cells := 2, slots := 825, locals := 20 } : Room)).room.locals := fun n h => h
  have hRc : ∀ n, n ≤ 2 → n ≤ (headSpec w_X5_init ({ frames := 1, cells := 2, slots := 825, locals := 20 } : Room)).room.cells := fun n h => h
  have hRs : ∀ n, n ≤ 825 → n ≤ (headSpec w_X5_init ({ frames := 1, cells := 2, slots := 825, locals := 20 } : Room)).room.slots := fun n h => h
  generalize (headSpec w_X5_init ({ frames := 1, cells := 2, slots := 825, locals := 20 } : Room)).room = R at hRf hRl hRc hRs ⊢
  generalize hQ : MQ below _ args s 2 825 _ = Q
  suffices main : ∀ (H : Heap) (locs : List Loc), va_P D vwCl [(a_st, .inr (4, [.null, .null, .null, .null]))] H → va_S A s.heap H locs → W p l e R s m args below meth c H locs 0 0 Q (F0 m 0 ls []) from main _ _ hP hS
  intro H locs hP hS
  refine lv_aload_n hx hb dX5_init_0 rfl (lv_at hl 0 rfl) ?_
  refine W.objInit hx hb hown (hts _ wl_79) (hts _ wl_10) (hts _ wl_11) rfl (hl.1.trans hml.symm) rfl dX5_init_1 (hRf _ (Nat.le_of_ble_eq_true rfl)) (hRl _ (Nat.le_of_ble_eq_true rfl)) ?_
  refine W.eq (g2 := F0 m 4 ls []) rfl ?_
  refine lv_aload_n hx hb dX5_init_4 rfl (lv_at hl 0 rfl) ?_
  refine lv_aload_n hx hb dX5_init_5 rfl (lv_at hl 1 rfl) ?_
  refine va_putF (D := D) (ci := 4) (v := .ref a_fl) (ty := .object "HardBench$Floats") (C := RX5) (T := TX5) (N := 4) hx hb hts inlX5 tyX5 tyX5_ok nmX5 hown hK hP hD hS 0 rfl rfl 0 (by decide) (hts _ wl_80) (fun _ h9 => h9) rfl hin rfl (by decide +kernel) rfl rfl (Nat.le_of_ble_eq_true rfl) dX5_init_6 (fun H locs hP hD hS => ?_)
  replace hP : va_P D vwCl [(a_st, .inr (4, [.ref a_fl, .null, .null, .null]))] H := hP
  replace hD : va_D A [(a_st, .inr (4, [.ref a_fl, .null, .null, .null]))] := hD
  refine lv_aload_n hx hb dX5_init_9 rfl (lv_at hl 0 rfl) ?_
  refine lv_aload_n hx hb dX5_init_10 rfl (lv_at hl 2 rfl) ?_
  refine va_putF (D := D) (ci := 4) (v := .ref a_va) (ty := .object "HardBench$Value") (C := RX5) (T := TX5) (N := 4) hx hb hts inlX5 tyX5 tyX5_ok nmX5 hown hK hP hD hS 0 rfl rfl 1 (by decide) (hts _ wl_81) (fun _ h9 => h9) rfl hin rfl (by decide +kernel) rfl rfl (Nat.le_of_ble_eq_true rfl) dX5_init_11 (fun H locs hP hD hS => ?_)
  replace hP : va_P D vwCl [(a_st, .inr (4, [.ref a_fl, .ref a_va, .null, .null]))] H := hP
  replace hD : va_D A [(a_st, .inr (4, [.ref a_fl, .ref a_va, .null, .null]))] := hD
  refine lv_aload_n hx hb dX5_init_14 rfl (lv_at hl 0 rfl) ?_
  refine lv_bipush (v := 25) hx hb dX5_init_15 (by decide) ?_
  refine va_newa hx hb (hts _ wl_36) rfl hK hP hD hS hA (n := 25) (N' := 25) (a0 := (25, .inl (fun _ => 0))) (fun _ => rfl) (by decide) (by decide) (by decide) (hRc _ (Nat.le_of_ble_eq_true rfl)) (hRs _ (Nat.le_of_ble_eq_true rfl)) dX5_init_17 (fun a_stT cA H hK2 hP hD hS => ?_)
  obtain rfl := cls_i hK2
  replace hP : va_P D vwCl [(a_st, .inr (4, [.ref a_fl, .ref a_va, .null, .null])), (a_stT, .inl (cI, 25, .inl (fun _ => 0)))] H := hP
  replace hD : va_D A [(a_st, .inr (4, [.ref a_fl, .ref a_va, .null, .null])), (a_stT, .inl (cI, 25, .inl (fun _ => 0)))] := hD
  refine W.widen (k := 1) (n := 25) (Nat.le_of_ble_eq_true rfl) (Nat.le_of_ble_eq_true rfl) ?_
  refine va_putF (D := D) (ci := 4) (v := .ref a_stT) (ty := .array .int) (C := RX5) (T := TX5) (N := 4) hx hb hts inlX5 tyX5 tyX5_ok nmX5 hown hK hP hD hS 0 rfl rfl 2 (by decide) (hts _ wl_82) (fun _ h9 => h9) rfl hin rfl (by decide +kernel) rfl rfl (Nat.le_of_ble_eq_true rfl) dX5_init_19 (fun H locs hP hD hS => ?_)
  replace hP : va_P D vwCl [(a_st, .inr (4, [.ref a_fl, .ref a_va, .ref a_stT, .null])), (a_stT, .inl (cI, 25, .inl (fun _ => 0)))] H := hP
  replace hD : va_D A [(a_st, .inr (4, [.ref a_fl, .ref a_va, .ref a_stT, .null])), (a_stT, .inl (cI, 25, .inl (fun _ => 0)))] := hD
  refine lv_aload_n hx hb dX5_init_22 rfl (lv_at hl 0 rfl) ?_
  refine lv_sipush (v := 800) hx hb dX5_init_23 (by decide) ?_
  refine va_newa hx hb (hts _ wl_36) rfl hK hP hD hS hA (n := 800) (N' := 800) (a0 := (800, .inl (fun _ => 0))) (fun _ => rfl) (by decide) (by decide) (by decide) (hRc _ (Nat.le_of_ble_eq_true rfl)) (hRs _ (Nat.le_of_ble_eq_true rfl)) dX5_init_26 (fun a_stB cA H hK2 hP hD hS => ?_)
  obtain rfl := cls_i hK2
  replace hP : va_P D vwCl [(a_st, .inr (4, [.ref a_fl, .ref a_va, .ref a_stT, .null])), (a_stT, .inl (cI, 25, .inl (fun _ => 0))), (a_stB, .inl (cI, 800, .inl (fun _ => 0)))] H := hP
  replace hD : va_D A [(a_st, .inr (4, [.ref a_fl, .ref a_va, .ref a_stT, .null])), (a_stT, .inl (cI, 25, .inl (fun _ => 0))), (a_stB, .inl (cI, 800, .inl (fun _ => 0)))] := hD
  refine W.widen (k := 2) (n := 825) (Nat.le_of_ble_eq_true rfl) (Nat.le_of_ble_eq_true rfl) ?_
  refine va_putF (D := D) (ci := 4) (v := .ref a_stB) (ty := .array .int) (C := RX5) (T := TX5) (N := 4) hx hb hts inlX5 tyX5 tyX5_ok nmX5 hown hK hP hD hS 0 rfl rfl 3 (by decide) (hts _ wl_83) (fun _ h9 => h9) rfl hin rfl (by decide +kernel) rfl rfl (Nat.le_of_ble_eq_true rfl) dX5_init_28 (fun H locs hP hD hS => ?_)
  replace hP : va_P D vwCl [(a_st, .inr (4, [.ref a_fl, .ref a_va, .ref a_stT, .ref a_stB])), (a_stT, .inl (cI, 25, .inl (fun _ => 0))), (a_stB, .inl (cI, 800, .inl (fun _ => 0)))] H := hP
  replace hD : va_D A [(a_st, .inr (4, [.ref a_fl, .ref a_va, .ref a_stT, .ref a_stB])), (a_stT, .inl (cI, 25, .inl (fun _ => 0))), (a_stB, .inl (cI, 800, .inl (fun _ => 0)))] := hD
  subst hQ; exact W.vret hx hb hr (fun t ht hW => ⟨⟨(a_stT, a_stB), rfl, trivial, by rw [ht]; exact hP, hD⟩, hS.F ht⟩) (fun q hq => hS.2.2 q hq) dX5_init_31

def w_X2_init : List Cond := .code yX2_init cX2_init 3 none :: wsL_law
set_option maxHeartbeats 4000000 in
set_option maxRecDepth 100000 in
theorem i_X2_init (l : Launch) (D : va_G) (cI cJ cZ : ClassId) (a_li : Nat) (a_fl : Nat) (a_va : Nat) (sz : Nat) (A : Nat → Prop) (hAe : A = va_A [(a_li, .inr (2, [.null, .null, .null, .null, .null, .null, .int 0, .int 0, .long 0, .long 0]))] sz) : Met l yX2_init w_X2_init ({ frames := 1, cells := 4, slots := 1024, locals := 20 } : Room) (rw_P D [(cI, .int), (cJ, .long), (cZ, .boolean)] [.ref a_li, .ref a_fl, .ref a_va] sz [(a_li, .inr (2, [.null, .null, .null, .null, .null, .null, .int 0, .int 0, .long 0, .long 0]))]) (va_Qv (fun (_ : Nat × Nat × Nat × Nat) => True) (rw_B D A (fun (u : Nat × Nat × Nat × Nat) => [(a_li, .inr (2, [.ref a_fl, .ref a_va, .ref u.1, .ref u.2.1, .ref u.2.2.1, .ref u.2.2.2, .int 0, .int 0, .long 0, .long 0])), (u.1, .inl (cI, 256, .inl (fun _ => 0))), (u.2.1, .inl (cI, 256, .inl (fun _ => 0))), (u.2.2.1, .inl (cI, 256, .inl (fun _ => 0))), (u.2.2.2, .inl (cI, 256, .inl (fun _ => 0)))])) A) 4 1024 A := by
  refine Met.ofW (cc := cX2_init) (maxL := 3) (ret := none) (by decide) rfl ?_
  intro p e s m args below meth c s₁ B hml hv
  obtain ⟨hargs, hsz, hP, hK, hN, hD0⟩ := hv
  have hx := B.exec
  have hb := B.bytes
  have hr := B.returns
  have hts : ∀ w ∈ wsL_law, w.before args s = true := fun w h => atoms_spec (ws := w_X2_init) B.pre w (List.mem_cons_of_mem _ h)
  have hown : s.vm.findClass RX2 = some m.cls := findClass_of_methodNamed B.named
  have hlocks := B.notSynchronized
  have hin : meth.name = "<init>" := (name_of_methodNamed B.named B.method).1
  subst hsz
  have hD : va_D A [(a_li, .inr (2, [.null, .null, .null, .null, .null, .null, .int 0, .int 0, .long 0, .long 0]))] := by rw [hAe]; exact hD0.self
  have hA : ∀ q : Nat, s.heap.size ≤ q → A q := fun q h => by rw [hAe]; exact Or.inr h
  have hS : va_S A s.heap s.heap [] := va_S.rf
  have hl := lv_entry ([.ref a_li, .ref a_fl, .ref a_va]) (n := 3) (Nat.le_of_ble_eq_true rfl)
  rw [hargs, lg_entry_eq, ← hargs]
  generalize (lg_sl ([.ref a_li, .ref a_fl, .ref a_va]) ++ List.replicate (3 - (lg_sl ([.ref a_li, .ref a_fl, .ref a_va])).length) Slot.unset).toArray = ls at hl ⊢
  replace hl : lv_has ls 3 [(0, .ref a_li), (1, .ref a_fl), (2, .ref a_va)] := hl
  have hRf : ∀ n, n ≤ 1 → n ≤ (headSpec w_X2_init ({ frames := 1, cells := 4, slots := 1024, locals := 20 } : Room)).room.frames := fun n h => h
  have hRl : ∀ n, n ≤ 20 → n ≤ (headSpec w_X2_init ({ frames := 1, cells := 4, slots := 1024, locals := 20 } : Room)).room.locals := fun n h => h
  have hRc : ∀ n, n ≤ 4 → n ≤ (headSpec w_X2_init ({ frames := 1, cells := 4, slots := 1024, locals := 20 } : Room)).room.cells := fun n h => h
  have hRs : ∀ n, n ≤ 1024 → n ≤ (headSpec w_X2_init ({ frames := 1, cells := 4, slots := 1024, locals := 20 } : Room)).room.slots := fun n h => h
  generalize (headSpec w_X2_init ({ frames := 1, cells := 4, slots := 1024, locals := 20 } : Room)).room = R at hRf hRl hRc hRs ⊢
  generalize hQ : MQ below _ args s 4 1024 _ = Q
  suffices main : ∀ (H : Heap) (locs : List Loc), va_P D vwCl [(a_li, .inr (2, [.null, .null, .null, .null, .null, .null, .int 0, .int 0, .long 0, .long 0]))] H → va_S A s.heap H locs → W p l e R s m args below meth c H locs 0 0 Q (F0 m 0 ls []) from main _ _ hP hS
  intro H locs hP hS
  refine lv_aload_n hx hb dX2_init_0 rfl (lv_at hl 0 rfl) ?_
  refine W.objInit hx hb hown (hts _ wl_87) (hts _ wl_10) (hts _ wl_11) rfl (hl.1.trans hml.symm) rfl dX2_init_1 (hRf _ (Nat.le_of_ble_eq_true rfl)) (hRl _ (Nat.le_of_ble_eq_true rfl)) ?_
  refine W.eq (g2 := F0 m 4 ls []) rfl ?_
  refine lv_aload_n hx hb dX2_init_4 rfl (lv_at hl 0 rfl) ?_
  refine lv_aload_n hx hb dX2_init_5 rfl (lv_at hl 1 rfl) ?_
  refine va_putF (D := D) (ci := 2) (v := .ref a_fl) (ty := .object "HardBench$Floats") (C := RX2) (T := TX2) (N := 10) hx hb hts inlX2 tyX2 tyX2_ok nmX2 hown hK hP hD hS 0 rfl rfl 0 (by decide) (hts _ wl_88) (fun _ h9 => h9) rfl hin rfl (by decide +kernel) rfl rfl (Nat.le_of_ble_eq_true rfl) dX2_init_6 (fun H locs hP hD hS => ?_)
  replace hP : va_P D vwCl [(a_li, .inr (2, [.ref a_fl, .null, .null, .null, .null, .null, .int 0, .int 0, .long 0, .long 0]))] H := hP
  replace hD : va_D A [(a_li, .inr (2, [.ref a_fl, .null, .null, .null, .null, .null, .int 0, .int 0, .long 0, .long 0]))] := hD
  refine lv_aload_n hx hb dX2_init_9 rfl (lv_at hl 0 rfl) ?_
  refine lv_aload_n hx hb dX2_init_10 rfl (lv_at hl 2 rfl) ?_
  refine va_putF (D := D) (ci := 2) (v := .ref a_va) (ty := .object "HardBench$Value") (C := RX2) (T := TX2) (N := 10) hx hb hts inlX2 tyX2 tyX2_ok nmX2 hown hK hP hD hS 0 rfl rfl 1 (by decide) (hts _ wl_89) (fun _ h9 => h9) rfl hin rfl (by decide +kernel) rfl rfl (Nat.le_of_ble_eq_true rfl) dX2_init_11 (fun H locs hP hD hS => ?_)
  replace hP : va_P D vwCl [(a_li, .inr (2, [.ref a_fl, .ref a_va, .null, .null, .null, .null, .int 0, .int 0, .long 0, .long 0]))] H := hP
  replace hD : va_D A [(a_li, .inr (2, [.ref a_fl, .ref a_va, .null, .null, .null, .null, .int 0, .int 0, .long 0, .long 0]))] := hD
  refine lv_aload_n hx hb dX2_init_14 rfl (lv_at hl 0 rfl) ?_
  refine lv_sipush (v := 256) hx hb dX2_init_15 (by decide) ?_
  refine va_newa hx hb (hts _ wl_36) rfl hK hP hD hS hA (n := 256) (N' := 256) (a0 := (256, .inl (fun _ => 0))) (fun _ => rfl) (by decide) (by decide) (by decide) (hRc _ (Nat.le_of_ble_eq_true rfl)) (hRs _ (Nat.le_of_ble_eq_true rfl)) dX2_init_18 (fun a_liD cA H hK2 hP hD hS => ?_)
  obtain rfl := cls_i hK2
  replace hP : va_P D vwCl [(a_li, .inr (2, [.ref a_fl, .ref a_va, .null, .null, .null, .null, .int 0, .int 0, .long 0, .long 0])), (a_liD, .inl (cI, 256, .inl (fun _ => 0)))] H := hP
  replace hD : va_D A [(a_li, .inr (2, [.ref a_fl, .ref a_va, .null, .null, .null, .null, .int 0, .int 0, .long 0, .long 0])), (a_liD, .inl (cI, 256, .inl (fun _ => 0)))] := hD
  refine W.widen (k := 1) (n := 256) (Nat.le_of_ble_eq_true rfl) (Nat.le_of_ble_eq_true rfl) ?_
  refine va_putF (D := D) (ci := 2) (v := .ref a_liD) (ty := .array .int) (C := RX2) (T := TX2) (N := 10) hx hb hts inlX2 tyX2 tyX2_ok nmX2 hown hK hP hD hS 0 rfl rfl 2 (by decide) (hts _ wl_90) (fun _ h9 => h9) rfl hin rfl (by decide +kernel) rfl rfl (Nat.le_of_ble_eq_true rfl) dX2_init_20 (fun H locs hP hD hS => ?_)
  replace hP : va_P D vwCl [(a_li, .inr (2, [.ref a_fl, .ref a_va, .ref a_liD, .null, .null, .null, .int 0, .int 0, .long 0, .long 0])), (a_liD, .inl (cI, 256, .inl (fun _ => 0)))] H := hP
  replace hD : va_D A [(a_li, .inr (2, [.ref a_fl, .ref a_va, .ref a_liD, .null, .null, .null, .int 0, .int 0, .long 0, .long 0])), (a_liD, .inl (cI, 256, .inl (fun _ => 0)))] := hD
  refine lv_aload_n hx hb dX2_init_23 rfl (lv_at hl 0 rfl) ?_
  refine lv_sipush (v := 256) hx hb dX2_init_24 (by decide) ?_
  refine va_newa hx hb (hts _ wl_36) rfl hK hP hD hS hA (n := 256) (N' := 256) (a0 := (256, .inl (fun _ => 0))) (fun _ => rfl) (by decide) (by decide) (by decide) (hRc _ (Nat.le_of_ble_eq_true rfl)) (hRs _ (Nat.le_of_ble_eq_true rfl)) dX2_init_27 (fun a_liF cA H hK2 hP hD hS => ?_)
  obtain rfl := cls_i hK2
  replace hP : va_P D vwCl [(a_li, .inr (2, [.ref a_fl, .ref a_va, .ref a_liD, .null, .null, .null, .int 0, .int 0, .long 0, .long 0])), (a_liD, .inl (cI, 256, .inl (fun _ => 0))), (a_liF, .inl (cI, 256, .inl (fun _ => 0)))] H := hP
  replace hD : va_D A [(a_li, .inr (2, [.ref a_fl, .ref a_va, .ref a_liD, .null, .null, .null, .int 0, .int 0, .long 0, .long 0])), (a_liD, .inl (cI, 256, .inl (fun _ => 0))), (a_liF, .inl (cI, 256, .inl (fun _ => 0)))] := hD
  refine W.widen (k := 2) (n := 512) (Nat.le_of_ble_eq_true rfl) (Nat.le_of_ble_eq_true rfl) ?_
  refine va_putF (D := D) (ci := 2) (v := .ref a_liF) (ty := .array .int) (C := RX2) (T := TX2) (N := 10) hx hb hts inlX2 tyX2 tyX2_ok nmX2 hown hK hP hD hS 0 rfl rfl 3 (by decide) (hts _ wl_91) (fun _ h9 => h9) rfl hin rfl (by decide +kernel) rfl rfl (Nat.le_of_ble_eq_true rfl) dX2_init_29 (fun H locs hP hD hS => ?_)
  replace hP : va_P D vwCl [(a_li, .inr (2, [.ref a_fl, .ref a_va, .ref a_liD, .ref a_liF, .null, .null, .int 0, .int 0, .long 0, .long 0])), (a_liD, .inl (cI, 256, .inl (fun _ => 0))), (a_liF, .inl (cI, 256, .inl (fun _ => 0)))] H := hP
  replace hD : va_D A [(a_li, .inr (2, [.ref a_fl, .ref a_va, .ref a_liD, .ref a_liF, .null, .null, .int 0, .int 0, .long 0, .long 0])), (a_liD, .inl (cI, 256, .inl (fun _ => 0))), (a_liF, .inl (cI, 256, .inl (fun _ => 0)))] := hD
  refine lv_aload_n hx hb dX2_init_32 rfl (lv_at hl 0 rfl) ?_
  refine lv_sipush (v := 256) hx hb dX2_init_33 (by decide) ?_
  refine va_newa hx hb (hts _ wl_36) rfl hK hP hD hS hA (n := 256) (N' := 256) (a0 := (256, .inl (fun _ => 0))) (fun _ => rfl) (by decide) (by decide) (by decide) (hRc _ (Nat.le_of_ble_eq_true rfl)) (hRs _ (Nat.le_of_ble_eq_true rfl)) dX2_init_36 (fun a_liA cA H hK2 hP hD hS => ?_)
  obtain rfl := cls_i hK2
  replace hP : va_P D vwCl [(a_li, .inr (2, [.ref a_fl, .ref a_va, .ref a_liD, .ref a_liF, .null, .null, .int 0, .int 0, .long 0, .long 0])), (a_liD, .inl (cI, 256, .inl (fun _ => 0))), (a_liF, .inl (cI, 256, .inl (fun _ => 0))), (a_liA, .inl (cI, 256, .inl (fun _ => 0)))] H := hP
  replace hD : va_D A [(a_li, .inr (2, [.ref a_fl, .ref a_va, .ref a_liD, .ref a_liF, .null, .null, .int 0, .int 0, .long 0, .long 0])), (a_liD, .inl (cI, 256, .inl (fun _ => 0))), (a_liF, .inl (cI, 256, .inl (fun _ => 0))), (a_liA, .inl (cI, 256, .inl (fun _ => 0)))] := hD
  refine W.widen (k := 3) (n := 768) (Nat.le_of_ble_eq_true rfl) (Nat.le_of_ble_eq_true rfl) ?_
  refine va_putF (D := D) (ci := 2) (v := .ref a_liA) (ty := .array .int) (C := RX2) (T := TX2) (N := 10) hx hb hts inlX2 tyX2 tyX2_ok nmX2 hown hK hP hD hS 0 rfl rfl 4 (by decide) (hts _ wl_92) (fun _ h9 => h9) rfl hin rfl (by decide +kernel) rfl rfl (Nat.le_of_ble_eq_true rfl) dX2_init_38 (fun H locs hP hD hS => ?_)
  replace hP : va_P D vwCl [(a_li, .inr (2, [.ref a_fl, .ref a_va, .ref a_liD, .ref a_liF, .ref a_liA, .null, .int 0, .int 0, .long 0, .long 0])), (a_liD, .inl (cI, 256, .inl (fun _ => 0))), (a_liF, .inl (cI, 256, .inl (fun _ => 0))), (a_liA, .inl (cI, 256, .inl (fun _ => 0)))] H := hP
  replace hD : va_D A [(a_li, .inr (2, [.ref a_fl, .ref a_va, .ref a_liD, .ref a_liF, .ref a_liA, .null, .int 0, .int 0, .long 0, .long 0])), (a_liD, .inl (cI, 256, .inl (fun _ => 0))), (a_liF, .inl (cI, 256, .inl (fun _ => 0))), (a_liA, .inl (cI, 256, .inl (fun _ => 0)))] := hD
  refine lv_aload_n hx hb dX2_init_41 rfl (lv_at hl 0 rfl) ?_
  refine lv_sipush (v := 256) hx hb dX2_init_42 (by decide) ?_
  refine va_newa hx hb (hts _ wl_36) rfl hK hP hD hS hA (n := 256) (N' := 256) (a0 := (256, .inl (fun _ => 0))) (fun _ => rfl) (by decide) (by decide) (by decide) (hRc _ (Nat.le_of_ble_eq_true rfl)) (hRs _ (Nat.le_of_ble_eq_true rfl)) dX2_init_45 (fun a_liB cA H hK2 hP hD hS => ?_)
  obtain rfl := cls_i hK2
  replace hP : va_P D vwCl [(a_li, .inr (2, [.ref a_fl, .ref a_va, .ref a_liD, .ref a_liF, .ref a_liA, .null, .int 0, .int 0, .long 0, .long 0])), (a_liD, .inl (cI, 256, .inl (fun _ => 0))), (a_liF, .inl (cI, 256, .inl (fun _ => 0))), (a_liA, .inl (cI, 256, .inl (fun _ => 0))), (a_liB, .inl (cI, 256, .inl (fun _ => 0)))] H := hP
  replace hD : va_D A [(a_li, .inr (2, [.ref a_fl, .ref a_va, .ref a_liD, .ref a_liF, .ref a_liA, .null, .int 0, .int 0, .long 0, .long 0])), (a_liD, .inl (cI, 256, .inl (fun _ => 0))), (a_liF, .inl (cI, 256, .inl (fun _ => 0))), (a_liA, .inl (cI, 256, .inl (fun _ => 0))), (a_liB, .inl (cI, 256, .inl (fun _ => 0)))] := hD
  refine W.widen (k := 4) (n := 1024) (Nat.le_of_ble_eq_true rfl) (Nat.le_of_ble_eq_true rfl) ?_
  refine va_putF (D := D) (ci := 2) (v := .ref a_liB) (ty := .array .int) (C := RX2) (T := TX2) (N := 10) hx hb hts inlX2 tyX2 tyX2_ok nmX2 hown hK hP hD hS 0 rfl rfl 5 (by decide) (hts _ wl_93) (fun _ h9 => h9) rfl hin rfl (by decide +kernel) rfl rfl (Nat.le_of_ble_eq_true rfl) dX2_init_47 (fun H locs hP hD hS => ?_)
  replace hP : va_P D vwCl [(a_li, .inr (2, [.ref a_fl, .ref a_va, .ref a_liD, .ref a_liF, .ref a_liA, .ref a_liB, .int 0, .int 0, .long 0, .long 0])), (a_liD, .inl (cI, 256, .inl (fun _ => 0))), (a_liF, .inl (cI, 256, .inl (fun _ => 0))), (a_liA, .inl (cI, 256, .inl (fun _ => 0))), (a_liB, .inl (cI, 256, .inl (fun _ => 0)))] H := hP
  replace hD : va_D A [(a_li, .inr (2, [.ref a_fl, .ref a_va, .ref a_liD, .ref a_liF, .ref a_liA, .ref a_liB, .int 0, .int 0, .long 0, .long 0])), (a_liD, .inl (cI, 256, .inl (fun _ => 0))), (a_liF, .inl (cI, 256, .inl (fun _ => 0))), (a_liA, .inl (cI, 256, .inl (fun _ => 0))), (a_liB, .inl (cI, 256, .inl (fun _ => 0)))] := hD
  subst hQ; exact W.vret hx hb hr (fun t ht hW => ⟨⟨(a_liD, a_liF, a_liA, a_liB), rfl, trivial, by rw [ht]; exact hP, hD⟩, hS.F ht⟩) (fun q hq => hS.2.2 q hq) dX2_init_50

def w_X7_init : List Cond := .code yX7_init cX7_init 1 none :: wsL_law
set_option maxHeartbeats 4000000 in
set_option maxRecDepth 100000 in
theorem i_X7_init (l : Launch) (D : va_G) (cI cJ cZ : ClassId) (a_hb : Nat) (sz : Nat) (A : Nat → Prop) (hAe : A = va_A [(a_hb, .inr (6, [.null, .null, .null, .null, .null, .null, .null]))] sz) : Met l yX7_init w_X7_init ({ frames := 3, cells := 19, slots := 2617, locals := 62 } : Room) (rw_P D [(cI, .int), (cJ, .long), (cZ, .boolean)] [.ref a_hb] sz [(a_hb, .inr (6, [.null, .null, .null, .null, .null, .null, .null]))]) (va_Qv (fun (_ : Nat × Nat × Nat × Nat × Nat × Nat × Nat × Nat × Nat × Nat × Nat × Nat × Nat × Nat × Nat × Nat × Nat × Nat × Nat) => True) (rw_B D A (fun (u : Nat × Nat × Nat × Nat × Nat × Nat × Nat × Nat × Nat × Nat × Nat × Nat × Nat × Nat × Nat × Nat × Nat × Nat × Nat) => [(a_hb, .inr (6, [.ref u.1, .ref u.2.1, .ref u.2.2.1, .ref u.2.2.2.2.1, .ref u.2.2.2.2.2.2.2.2.2.2.1, .ref u.2.2.2.2.2.2.2.2.2.2.2.2.2.1, .ref u.2.2.2.2.2.2.2.2.2.2.2.2.2.2.2.2.2.2])), (u.1, .inr (1, [.int 3, .int 3, .int 3, .int 128, .int 64, .int 56])), (u.2.1, .inr (3, [.ref u.1, .int 0, .int 0, .int 0, .int 0])), (u.2.2.1, .inr (5, [.ref u.1, .ref u.2.2.2.1, .long 0, .int 0, .int 0, .int 0, .int 0, .int 0, .int 0])), (u.2.2.2.1, .inr (3, [.ref u.1, .int 0, .int 0, .int 0, .int 0])), (u.2.2.2.2.1, .inr (0, [.ref u.1, .ref u.2.2.1, .ref u.2.2.2.2.2.1, .ref u.2.2.2.2.2.2.1, .ref u.2.2.2.2.2.2.2.1, .ref u.2.2.2.2.2.2.2.2.1, .ref u.2.2.2.2.2.2.2.2.2.1])), (u.2.2.2.2.2.1, .inl (cI, 5, .inl (fun _ => 0))), (u.2.2.2.2.2.2.1, .inl (cI, 20, .inl (fun _ => 0))), (u.2.2.2.2.2.2.2.1, .inl (cI, 50, .inl (fun _ => 0))), (u.2.2.2.2.2.2.2.2.1, .inl (cI, 320, .inl (fun _ => 0))), (u.2.2.2.2.2.2.2.2.2.1, .inl (cI, 320, .inl (fun _ => 0))), (u.2.2.2.2.2.2.2.2.2.2.1, .inr (4, [.ref u.1, .ref u.2.2.1, .ref u.2.2.2.2.2.2.2.2.2.2.2.1, .ref u.2.2.2.2.2.2.2.2.2.2.2.2.1])), (u.2.2.2.2.2.2.2.2.2.2.2.1, .inl (cI, 25, .inl (fun _ => 0))), (u.2.2.2.2.2.2.2.2.2.2.2.2.1, .inl (cI, 800, .inl (fun _ => 0))), (u.2.2.2.2.2.2.2.2.2.2.2.2.2.1, .inr (2, [.ref u.1, .ref u.2.2.1, .ref u.2.2.2.2.2.2.2.2.2.2.2.2.2.2.1, .ref u.2.2.2.2.2.2.2.2.2.2.2.2.2.2.2.1, .ref u.2.2.2.2.2.2.2.2.2.2.2.2.2.2.2.2.1, .ref u.2.2.2.2.2.2.2.2.2.2.2.2.2.2.2.2.2.1, .int 0, .int 0, .long 0, .long 0])), (u.2.2.2.2.2.2.2.2.2.2.2.2.2.2.1, .inl (cI, 256, .inl (fun _ => 0))), (u.2.2.2.2.2.2.2.2.2.2.2.2.2.2.2.1, .inl (cI, 256, .inl (fun _ => 0))), (u.2.2.2.2.2.2.2.2.2.2.2.2.2.2.2.2.1, .inl (cI, 256, .inl (fun _ => 0))), (u.2.2.2.2.2.2.2.2.2.2.2.2.2.2.2.2.2.1, .inl (cI, 256, .inl (fun _ => 0))), (u.2.2.2.2.2.2.2.2.2.2.2.2.2.2.2.2.2.2, .inl (cI, 7, .inl (fun _ => 0)))])) A) 19 2617 A := by
  refine Met.ofW (cc := cX7_init) (maxL := 1) (ret := none) (by decide) rfl ?_
  intro p e s m args below meth c s₁ B hml hv
  obtain ⟨hargs, hsz, hP, hK, hN, hD0⟩ := hv
  have hx := B.exec
  have hb := B.bytes
  have hr := B.returns
  have hts : ∀ w ∈ wsL_law, w.before args s = true := fun w h => atoms_spec (ws := w_X7_init) B.pre w (List.mem_cons_of_mem _ h)
  have hown : s.vm.findClass RX7 = some m.cls := findClass_of_methodNamed B.named
  have hlocks := B.notSynchronized
  have hin : meth.name = "<init>" := (name_of_methodNamed B.named B.method).1
  subst hsz
  have hD : va_D A [(a_hb, .inr (6, [.null, .null, .null, .null, .null, .null, .null]))] := by rw [hAe]; exact hD0.self
  have hA : ∀ q : Nat, s.heap.size ≤ q → A q := fun q h => by rw [hAe]; exact Or.inr h
  have hS : va_S A s.heap s.heap [] := va_S.rf
  have hl := lv_entry ([.ref a_hb]) (n := 1) (Nat.le_of_ble_eq_true rfl)
  rw [hargs, lg_entry_eq, ← hargs]
  generalize (lg_sl ([.ref a_hb]) ++ List.replicate (1 - (lg_sl ([.ref a_hb])).length) Slot.unset).toArray = ls at hl ⊢
  replace hl : lv_has ls 1 [(0, .ref a_hb)] := hl
  have hRf : ∀ n, n ≤ 3 → n ≤ (headSpec w_X7_init ({ frames := 3, cells := 19, slots := 2617, locals := 62 } : Room)).room.frames := fun n h => h
  have hRl : ∀ n, n ≤ 62 → n ≤ (headSpec w_X7_init ({ frames := 3, cells := 19, slots := 2617, locals := 62 } : Room)).room.locals := fun n h => h
  have hRc : ∀ n, n ≤ 19 → n ≤ (headSpec w_X7_init ({ frames := 3, cells := 19, slots := 2617, locals := 62 } : Room)).room.cells := fun n h => h
  have hRs : ∀ n, n ≤ 2617 → n ≤ (headSpec w_X7_init ({ frames := 3, cells := 19, slots := 2617, locals := 62 } : Room)).room.slots := fun n h => h
  generalize (headSpec w_X7_init ({ frames := 3, cells := 19, slots := 2617, locals := 62 } : Room)).room = R at hRf hRl hRc hRs ⊢
  generalize hQ : MQ below _ args s 19 2617 _ = Q
  suffices main : ∀ (H : Heap) (locs : List Loc), va_P D vwCl [(a_hb, .inr (6, [.null, .null, .null, .null, .null, .null, .null]))] H → va_S A s.heap H locs → W p l e R s m args below meth c H locs 0 0 Q (F0 m 0 ls []) from main _ _ hP hS
  intro H locs hP hS
  refine lv_aload_n hx hb dX7_init_0 rfl (lv_at hl 0 rfl) ?_
  refine W.objInit hx hb hown (hts _ wl_9) (hts _ wl_10) (hts _ wl_11) rfl (hl.1.trans hml.symm) rfl dX7_init_1 (hRf _ (Nat.le_of_ble_eq_true rfl)) (hRl _ (Nat.le_of_ble_eq_true rfl)) ?_
  refine W.eq (g2 := F0 m 4 ls []) rfl ?_
  refine lv_aload_n hx hb dX7_init_4 rfl (lv_at hl 0 rfl) ?_
  refine va_new (ci := 1) (fs := [.int 0, .int 0, .int 0, .int 0, .int 0, .int 0]) (C := RX1) (T := TX1) (N := 6) hx hb hts inlX1 tyX1 tyX1_ok hown (hts _ wl_12) (hts _ wl_13) (hts _ wl_14) hK hP hD hS hA rfl (fun j hj => by rcases (show j = 0 ∨ j = 1 ∨ j = 2 ∨ j = 3 ∨ j = 4 ∨ j = 5 by omega) with rfl | rfl | rfl | rfl | rfl | rfl <;> rfl) (hRc _ (Nat.le_of_ble_eq_true rfl)) (hRs _ (Nat.le_of_ble_eq_true rfl)) dX7_init_5 (fun a_fl H hP hD hS => ?_)
  replace hP : va_P D vwCl [(a_hb, .inr (6, [.null, .null, .null, .null, .null, .null, .null])), (a_fl, .inr (1, [.int 0, .int 0, .int 0, .int 0, .int 0, .int 0]))] H := hP
  replace hD : va_D A [(a_hb, .inr (6, [.null, .null, .null, .null, .null, .null, .null])), (a_fl, .inr (1, [.int 0, .int 0, .int 0, .int 0, .int 0, .int 0]))] := hD
  refine W.widen (k := 1) (n := 6) (Nat.le_of_ble_eq_true rfl) (Nat.le_of_ble_eq_true rfl) ?_
  refine lv_dup hx hb dX7_init_8 rfl ?_
  refine ca_I (b := a_fl) (As := []) (rest := [.ref a_fl, .ref a_hb]) (wr := [(a_hb, .inr (6, [.null, .null, .null, .null, .null, .null, .null]))]) ⟨hx, hb, hml, hown, hts⟩ (i_X1_init l D cI cJ cZ a_fl H.size _ rfl) (cwI 0 hts (gdI wl_40) rfl rfl rfl (hts _ wl_14) (hts _ wl_38) (hts _ wl_39) rfl (by decide +kernel) ⟨hRf _ (Nat.le_of_ble_eq_true rfl), hRl _ (Nat.le_of_ble_eq_true rfl)⟩) hK hN hP hD hS hA [1] [0] rfl rfl (by decide) (by decide) (by decide) rfl hl.1 rfl (Nat.le_of_ble_eq_true rfl) dX7_init_9 ⟨hRc _ (Nat.le_of_ble_eq_true rfl), hRs _ (Nat.le_of_ble_eq_true rfl)⟩ (fun u9 H locs _ hP hD hS => ?_)
  replace hP : va_P D vwCl [(a_hb, .inr (6, [.null, .null, .null, .null, .null, .null, .null])), (a_fl, .inr (1, [.int 3, .int 3, .int 3, .int 128, .int 64, .int 56]))] H := hP
  replace hD : va_D A [(a_hb, .inr (6, [.null, .null, .null, .null, .null, .null, .null])), (a_fl, .inr (1, [.int 3, .int 3, .int 3, .int 128, .int 64, .int 56]))] := hD
  refine W.widen (k := 1) (n := 6) (Nat.le_of_ble_eq_true rfl) (Nat.le_of_ble_eq_true rfl) ?_
  refine va_putF (D := D) (ci := 6) (v := .ref a_fl) (ty := .object "HardBench$Floats") (C := RX7) (T := TX7) (N := 7) hx hb hts inlX7 tyX7 tyX7_ok nmX7 hown hK hP hD hS 0 rfl rfl 0 (by decide) (hts _ wl_15) (fun _ h9 => h9) rfl hin rfl (by decide +kernel) rfl rfl (Nat.le_of_ble_eq_true rfl) dX7_init_12 (fun H locs hP hD hS => ?_)
  replace hP : va_P D vwCl [(a_hb, .inr (6, [.ref a_fl, .null, .null, .null, .null, .null, .null])), (a_fl, .inr (1, [.int 3, .int 3, .int 3, .int 128, .int 64, .int 56]))] H := hP
  replace hD : va_D A [(a_hb, .inr (6, [.ref a_fl, .null, .null, .null, .null, .null, .null])), (a_fl, .inr (1, [.int 3, .int 3, .int 3, .int 128, .int 64, .int 56]))] := hD
  refine lv_aload_n hx hb dX7_init_15 rfl (lv_at hl 0 rfl) ?_
  refine va_new (ci := 3) (fs := [.null, .int 0, .int 0, .int 0, .int 0]) (C := RX3) (T := TX3) (N := 5) hx hb hts inlX3 tyX3 tyX3_ok hown (hts _ wl_16) (hts _ wl_17) (hts _ wl_18) hK hP hD hS hA rfl (fun j hj => by rcases (show j = 0 ∨ j = 1 ∨ j = 2 ∨ j = 3 ∨ j = 4 by omega) with rfl | rfl | rfl | rfl | rfl <;> rfl) (hRc _ (Nat.le_of_ble_eq_true rfl)) (hRs _ (Nat.le_of_ble_eq_true rfl)) dX7_init_16 (fun a_pl H hP hD hS => ?_)
  replace hP : va_P D vwCl [(a_hb, .inr (6, [.ref a_fl, .null, .null, .null, .null, .null, .null])), (a_fl, .inr (1, [.int 3, .int 3, .int 3, .int 128, .int 64, .int 56])), (a_pl, .inr (3, [.null, .int 0, .int 0, .int 0, .int 0]))] H := hP
  replace hD : va_D A [(a_hb, .inr (6, [.ref a_fl, .null, .null, .null, .null, .null, .null])), (a_fl, .inr (1, [.int 3, .int 3, .int 3, .int 128, .int 64, .int 56])), (a_pl, .inr (3, [.null, .int 0, .int 0, .int 0, .int 0]))] := hD
  refine W.widen (k := 2) (n := 11) (Nat.le_of_ble_eq_true rfl) (Nat.le_of_ble_eq_true rfl) ?_
  refine lv_dup hx hb dX7_init_19 rfl ?_
  refine lv_aload_n hx hb dX7_init_20 rfl (lv_at hl 0 rfl) ?_
  refine va_get (D := D) (ci := 6) (v := .ref a_fl) (C := RX7) (T := TX7) (N := 7) hx hb hts inlX7 hown hK hP 0 rfl rfl 0 (by decide) (hts _ wl_15) (fun _ h9 => h9) rfl dX7_init_21 ?_
  refine ca_I (b := a_pl) (As := [.ref a_fl]) (rest := [.ref a_pl, .ref a_hb]) (wr := [(a_hb, .inr (6, [.ref a_fl, .null, .null, .null, .null, .null, .null])), (a_fl, .inr (1, [.int 3, .int 3, .int 3, .int 128, .int 64, .int 56]))]) ⟨hx, hb, hml, hown, hts⟩ (i_X3_init l D cI cJ cZ a_pl a_fl H.size _ rfl) (cwI 1 hts (gdI wl_54) rfl rfl rfl (hts _ wl_18) (hts _ wl_52) (hts _ wl_53) rfl (by decide +kernel) ⟨hRf _ (Nat.le_of_ble_eq_true rfl), hRl _ (Nat.le_of_ble_eq_true rfl)⟩) hK hN hP hD hS hA [2] [0, 1] rfl rfl (by decide) (by decide) (by decide) rfl hl.1 rfl (Nat.le_of_ble_eq_true rfl) dX7_init_24 ⟨hRc _ (Nat.le_of_ble_eq_true rfl), hRs _ (Nat.le_of_ble_eq_true rfl)⟩ (fun u24 H locs _ hP hD hS => ?_)
  replace hP : va_P D vwCl [(a_hb, .inr (6, [.ref a_fl, .null, .null, .null, .null, .null, .null])), (a_fl, .inr (1, [.int 3, .int 3, .int 3, .int 128, .int 64, .int 56])), (a_pl, .inr (3, [.ref a_fl, .int 0, .int 0, .int 0, .int 0]))] H := hP
  replace hD : va_D A [(a_hb, .inr (6, [.ref a_fl, .null, .null, .null, .null, .null, .null])), (a_fl, .inr (1, [.int 3, .int 3, .int 3, .int 128, .int 64, .int 56])), (a_pl, .inr (3, [.ref a_fl, .int 0, .int 0, .int 0, .int 0]))] := hD
  refine W.widen (k := 2) (n := 11) (Nat.le_of_ble_eq_true rfl) (Nat.le_of_ble_eq_true rfl) ?_
  refine va_putF (D := D) (ci := 6) (v := .ref a_pl) (ty := .object "HardBench$Place") (C := RX7) (T := TX7) (N := 7) hx hb hts inlX7 tyX7 tyX7_ok nmX7 hown hK hP hD hS 0 rfl rfl 1 (by decide) (hts _ wl_19) (fun _ h9 => h9) rfl hin rfl (by decide +kernel) rfl rfl (Nat.le_of_ble_eq_true rfl) dX7_init_27 (fun H locs hP hD hS => ?_)
  replace hP : va_P D vwCl [(a_hb, .inr (6, [.ref a_fl, .ref a_pl, .null, .null, .null, .null, .null])), (a_fl, .inr (1, [.int 3, .int 3, .int 3, .int 128, .int 64, .int 56])), (a_pl, .inr (3, [.ref a_fl, .int 0, .int 0, .int 0, .int 0]))] H := hP
  replace hD : va_D A [(a_hb, .inr (6, [.ref a_fl, .ref a_pl, .null, .null, .null, .null, .null])), (a_fl, .inr (1, [.int 3, .int 3, .int 3, .int 128, .int 64, .int 56])), (a_pl, .inr (3, [.ref a_fl, .int 0, .int 0, .int 0, .int 0]))] := hD
  refine lv_aload_n hx hb dX7_init_30 rfl (lv_at hl 0 rfl) ?_
  refine va_new (ci := 5) (fs := [.null, .null, .long 0, .int 0, .int 0, .int 0, .int 0, .int 0, .int 0]) (C := RX6) (T := TX6) (N := 9) hx hb hts inlX6 tyX6 tyX6_ok hown (hts _ wl_20) (hts _ wl_21) (hts _ wl_22) hK hP hD hS hA rfl (fun j hj => by rcases (show j = 0 ∨ j = 1 ∨ j = 2 ∨ j = 3 ∨ j = 4 ∨ j = 5 ∨ j = 6 ∨ j = 7 ∨ j = 8 by omega) with rfl | rfl | rfl | rfl | rfl | rfl | rfl | rfl | rfl <;> rfl) (hRc _ (Nat.le_of_ble_eq_true rfl)) (hRs _ (Nat.le_of_ble_eq_true rfl)) dX7_init_31 (fun a_va H hP hD hS => ?_)
  replace hP : va_P D vwCl [(a_hb, .inr (6, [.ref a_fl, .ref a_pl, .null, .null, .null, .null, .null])), (a_fl, .inr (1, [.int 3, .int 3, .int 3, .int 128, .int 64, .int 56])), (a_pl, .inr (3, [.ref a_fl, .int 0, .int 0, .int 0, .int 0])), (a_va, .inr (5, [.null, .null, .long 0, .int 0, .int 0, .int 0, .int 0, .int 0, .int 0]))] H := hP
  replace hD : va_D A [(a_hb, .inr (6, [.ref a_fl, .ref a_pl, .null, .null, .null, .null, .null])), (a_fl, .inr (1, [.int 3, .int 3, .int 3, .int 128, .int 64, .int 56])), (a_pl, .inr (3, [.ref a_fl, .int 0, .int 0, .int 0, .int 0])), (a_va, .inr (5, [.null, .null, .long 0, .int 0, .int 0, .int 0, .int 0, .int 0, .int 0]))] := hD
  refine W.widen (k := 3) (n := 20) (Nat.le_of_ble_eq_true rfl) (Nat.le_of_ble_eq_true rfl) ?_
  refine lv_dup hx hb dX7_init_34 rfl ?_
  refine lv_aload_n hx hb dX7_init_35 rfl (lv_at hl 0 rfl) ?_
  refine va_get (D := D) (ci := 6) (v := .ref a_fl) (C := RX7) (T := TX7) (N := 7) hx hb hts inlX7 hown hK hP 0 rfl rfl 0 (by decide) (hts _ wl_15) (fun _ h9 => h9) rfl dX7_init_36 ?_
  refine ca_I (b := a_va) (As := [.ref a_fl]) (rest := [.ref a_va, .ref a_hb]) (wr := [(a_hb, .inr (6, [.ref a_fl, .ref a_pl, .null, .null, .null, .null, .null])), (a_fl, .inr (1, [.int 3, .int 3, .int 3, .int 128, .int 64, .int 56])), (a_pl, .inr (3, [.ref a_fl, .int 0, .int 0, .int 0, .int 0]))]) ⟨hx, hb, hml, hown, hts⟩ (i_X6_init l D cI cJ cZ a_va a_fl H.size _ rfl) (cwI 1 hts (gdI wl_59) rfl rfl rfl (hts _ wl_22) (hts _ wl_57) (hts _ wl_58) rfl (by decide +kernel) ⟨hRf _ (Nat.le_of_ble_eq_true rfl), hRl _ (Nat.le_of_ble_eq_true rfl)⟩) hK hN hP hD hS hA [3] [0, 1, 2] rfl rfl (by decide) (by decide) (by decide) rfl hl.1 rfl (Nat.le_of_ble_eq_true rfl) dX7_init_39 ⟨hRc _ (Nat.le_of_ble_eq_true rfl), hRs _ (Nat.le_of_ble_eq_true rfl)⟩ (fun u39 H locs _ hP hD hS => ?_)
  obtain ⟨a_p2, rfl⟩ : ∃ z, z = u39 := ⟨_, rfl⟩
  replace hP : va_P D vwCl [(a_hb, .inr (6, [.ref a_fl, .ref a_pl, .null, .null, .null, .null, .null])), (a_fl, .inr (1, [.int 3, .int 3, .int 3, .int 128, .int 64, .int 56])), (a_pl, .inr (3, [.ref a_fl, .int 0, .int 0, .int 0, .int 0])), (a_va, .inr (5, [.ref a_fl, .ref a_p2, .long 0, .int 0, .int 0, .int 0, .int 0, .int 0, .int 0])), (a_p2, .inr (3, [.ref a_fl, .int 0, .int 0, .int 0, .int 0]))] H := hP
  replace hD : va_D A [(a_hb, .inr (6, [.ref a_fl, .ref a_pl, .null, .null, .null, .null, .null])), (a_fl, .inr (1, [.int 3, .int 3, .int 3, .int 128, .int 64, .int 56])), (a_pl, .inr (3, [.ref a_fl, .int 0, .int 0, .int 0, .int 0])), (a_va, .inr (5, [.ref a_fl, .ref a_p2, .long 0, .int 0, .int 0, .int 0, .int 0, .int 0, .int 0])), (a_p2, .inr (3, [.ref a_fl, .int 0, .int 0, .int 0, .int 0]))] := hD
  refine W.widen (k := 4) (n := 25) (Nat.le_of_ble_eq_true rfl) (Nat.le_of_ble_eq_true rfl) ?_
  refine va_putF (D := D) (ci := 6) (v := .ref a_va) (ty := .object "HardBench$Value") (C := RX7) (T := TX7) (N := 7) hx hb hts inlX7 tyX7 tyX7_ok nmX7 hown hK hP hD hS 0 rfl rfl 2 (by decide) (hts _ wl_23) (fun _ h9 => h9) rfl hin rfl (by decide +kernel) rfl rfl (Nat.le_of_ble_eq_true rfl) dX7_init_42 (fun H locs hP hD hS => ?_)
  replace hP : va_P D vwCl [(a_hb, .inr (6, [.ref a_fl, .ref a_pl, .ref a_va, .null, .null, .null, .null])), (a_fl, .inr (1, [.int 3, .int 3, .int 3, .int 128, .int 64, .int 56])), (a_pl, .inr (3, [.ref a_fl, .int 0, .int 0, .int 0, .int 0])), (a_va, .inr (5, [.ref a_fl, .ref a_p2, .long 0, .int 0, .int 0, .int 0, .int 0, .int 0, .int 0])), (a_p2, .inr (3, [.ref a_fl, .int 0, .int 0, .int 0, .int 0]))] H := hP
  replace hD : va_D A [(a_hb, .inr (6, [.ref a_fl, .ref a_pl, .ref a_va, .null, .null, .null, .null])), (a_fl, .inr (1, [.int 3, .int 3, .int 3, .int 128, .int 64, .int 56])), (a_pl, .inr (3, [.ref a_fl, .int 0, .int 0, .int 0, .int 0])), (a_va, .inr (5, [.ref a_fl, .ref a_p2, .long 0, .int 0, .int 0, .int 0, .int 0, .int 0, .int 0])), (a_p2, .inr (3, [.ref a_fl, .int 0, .int 0, .int 0, .int 0]))] := hD
  refine lv_aload_n hx hb dX7_init_45 rfl (lv_at hl 0 rfl) ?_
  refine va_new (ci := 0) (fs := [.null, .null, .null, .null, .null, .null, .null]) (C := RX0) (T := TX0) (N := 7) hx hb hts inlX0 tyX0 tyX0_ok hown (hts _ wl_24) (hts _ wl_25) (hts _ wl_26) hK hP hD hS hA rfl (fun j hj => by rcases (show j = 0 ∨ j = 1 ∨ j = 2 ∨ j = 3 ∨ j = 4 ∨ j = 5 ∨ j = 6 by omega) with rfl | rfl | rfl | rfl | rfl | rfl | rfl <;> rfl) (hRc _ (Nat.le_of_ble_eq_true rfl)) (hRs _ (Nat.le_of_ble_eq_true rfl)) dX7_init_46 (fun a_ce H hP hD hS => ?_)
  replace hP : va_P D vwCl [(a_hb, .inr (6, [.ref a_fl, .ref a_pl, .ref a_va, .null, .null, .null, .null])), (a_fl, .inr (1, [.int 3, .int 3, .int 3, .int 128, .int 64, .int 56])), (a_pl, .inr (3, [.ref a_fl, .int 0, .int 0, .int 0, .int 0])), (a_va, .inr (5, [.ref a_fl, .ref a_p2, .long 0, .int 0, .int 0, .int 0, .int 0, .int 0, .int 0])), (a_p2, .inr (3, [.ref a_fl, .int 0, .int 0, .int 0, .int 0])), (a_ce, .inr (0, [.null, .null, .null, .null, .null, .null, .null]))] H := hP
  replace hD : va_D A [(a_hb, .inr (6, [.ref a_fl, .ref a_pl, .ref a_va, .null, .null, .null, .null])), (a_fl, .inr (1, [.int 3, .int 3, .int 3, .int 128, .int 64, .int 56])), (a_pl, .inr (3, [.ref a_fl, .int 0, .int 0, .int 0, .int 0])), (a_va, .inr (5, [.ref a_fl, .ref a_p2, .long 0, .int 0, .int 0, .int 0, .int 0, .int 0, .int 0])), (a_p2, .inr (3, [.ref a_fl, .int 0, .int 0, .int 0, .int 0])), (a_ce, .inr (0, [.null, .null, .null, .null, .null, .null, .null]))] := hD
  refine W.widen (k := 5) (n := 32) (Nat.le_of_ble_eq_true rfl) (Nat.le_of_ble_eq_true rfl) ?_
  refine lv_dup hx hb dX7_init_49 rfl ?_
  refine lv_aload_n hx hb dX7_init_50 rfl (lv_at hl 0 rfl) ?_
  refine va_get (D := D) (ci := 6) (v := .ref a_fl) (C := RX7) (T := TX7) (N := 7) hx hb hts inlX7 hown hK hP 0 rfl rfl 0 (by decide) (hts _ wl_15) (fun _ h9 => h9) rfl dX7_init_51 ?_
  refine lv_aload_n hx hb dX7_init_54 rfl (lv_at hl 0 rfl) ?_
  refine va_get (D := D) (ci := 6) (v := .ref a_va) (C := RX7) (T := TX7) (N := 7) hx hb hts inlX7 hown hK hP 0 rfl rfl 2 (by decide) (hts _ wl_23) (fun _ h9 => h9) rfl dX7_init_55 ?_
  refine ca_I (b := a_ce) (As := [.ref a_fl, .ref a_va]) (rest := [.ref a_ce, .ref a_hb]) (wr := [(a_hb, .inr (6, [.ref a_fl, .ref a_pl, .ref a_va, .null, .null, .null, .null])), (a_fl, .inr (1, [.int 3, .int 3, .int 3, .int 128, .int 64, .int 56])), (a_pl, .inr (3, [.ref a_fl, .int 0, .int 0, .int 0, .int 0])), (a_va, .inr (5, [.ref a_fl, .ref a_p2, .long 0, .int 0, .int 0, .int 0, .int 0, .int 0, .int 0])), (a_p2, .inr (3, [.ref a_fl, .int 0, .int 0, .int 0, .int 0]))]) ⟨hx, hb, hml, hown, hts⟩ (i_X0_init l D cI cJ cZ a_ce a_fl a_va H.size _ rfl) (cwI 2 hts (gdI wl_67) rfl rfl rfl (hts _ wl_26) (hts _ wl_65) (hts _ wl_66) rfl (by decide +kernel) ⟨hRf _ (Nat.le_of_ble_eq_true rfl), hRl _ (Nat.le_of_ble_eq_true rfl)⟩) hK hN hP hD hS hA [5] [0, 1, 2, 3, 4] rfl rfl (by decide) (by decide) (by decide) rfl hl.1 rfl (Nat.le_of_ble_eq_true rfl) dX7_init_58 ⟨hRc _ (Nat.le_of_ble_eq_true rfl), hRs _ (Nat.le_of_ble_eq_true rfl)⟩ (fun u58 H locs _ hP hD hS => ?_)
  obtain ⟨a_ceT, a_ceS, a_ceH, a_ceG, a_ceV⟩ := u58
  replace hP : va_P D vwCl [(a_hb, .inr (6, [.ref a_fl, .ref a_pl, .ref a_va, .null, .null, .null, .null])), (a_fl, .inr (1, [.int 3, .int 3, .int 3, .int 128, .int 64, .int 56])), (a_pl, .inr (3, [.ref a_fl, .int 0, .int 0, .int 0, .int 0])), (a_va, .inr (5, [.ref a_fl, .ref a_p2, .long 0, .int 0, .int 0, .int 0, .int 0, .int 0, .int 0])), (a_p2, .inr (3, [.ref a_fl, .int 0, .int 0, .int 0, .int 0])), (a_ce, .inr (0, [.ref a_fl, .ref a_va, .ref a_ceT, .ref a_ceS, .ref a_ceH, .ref a_ceG, .ref a_ceV])), (a_ceT, .inl (cI, 5, .inl (fun _ => 0))), (a_ceS, .inl (cI, 20, .inl (fun _ => 0))), (a_ceH, .inl (cI, 50, .inl (fun _ => 0))), (a_ceG, .inl (cI, 320, .inl (fun _ => 0))), (a_ceV, .inl (cI, 320, .inl (fun _ => 0)))] H := hP
  replace hD : va_D A [(a_hb, .inr (6, [.ref a_fl, .ref a_pl, .ref a_va, .null, .null, .null, .null])), (a_fl, .inr (1, [.int 3, .int 3, .int 3, .int 128, .int 64, .int 56])), (a_pl, .inr (3, [.ref a_fl, .int 0, .int 0, .int 0, .int 0])), (a_va, .inr (5, [.ref a_fl, .ref a_p2, .long 0, .int 0, .int 0, .int 0, .int 0, .int 0, .int 0])), (a_p2, .inr (3, [.ref a_fl, .int 0, .int 0, .int 0, .int 0])), (a_ce, .inr (0, [.ref a_fl, .ref a_va, .ref a_ceT, .ref a_ceS, .ref a_ceH, .ref a_ceG, .ref a_ceV])), (a_ceT, .inl (cI, 5, .inl (fun _ => 0))), (a_ceS, .inl (cI, 20, .inl (fun _ => 0))), (a_ceH, .inl (cI, 50, .inl (fun _ => 0))), (a_ceG, .inl (cI, 320, .inl (fun _ => 0))), (a_ceV, .inl (cI, 320, .inl (fun _ => 0)))] := hD
  refine W.widen (k := 10) (n := 747) (Nat.le_of_ble_eq_true rfl) (Nat.le_of_ble_eq_true rfl) ?_
  refine va_putF (D := D) (ci := 6) (v := .ref a_ce) (ty := .object "HardBench$Census") (C := RX7) (T := TX7) (N := 7) hx hb hts inlX7 tyX7 tyX7_ok nmX7 hown hK hP hD hS 0 rfl rfl 3 (by decide) (hts _ wl_27) (fun _ h9 => h9) rfl hin rfl (by decide +kernel) rfl rfl (Nat.le_of_ble_eq_true rfl) dX7_init_61 (fun H locs hP hD hS => ?_)
  replace hP : va_P D vwCl [(a_hb, .inr (6, [.ref a_fl, .ref a_pl, .ref a_va, .ref a_ce, .null, .null, .null])), (a_fl, .inr (1, [.int 3, .int 3, .int 3, .int 128, .int 64, .int 56])), (a_pl, .inr (3, [.ref a_fl, .int 0, .int 0, .int 0, .int 0])), (a_va, .inr (5, [.ref a_fl, .ref a_p2, .long 0, .int 0, .int 0, .int 0, .int 0, .int 0, .int 0])), (a_p2, .inr (3, [.ref a_fl, .int 0, .int 0, .int 0, .int 0])), (a_ce, .inr (0, [.ref a_fl, .ref a_va, .ref a_ceT, .ref a_ceS, .ref a_ceH, .ref a_ceG, .ref a_ceV])), (a_ceT, .inl (cI, 5, .inl (fun _ => 0))), (a_ceS, .inl (cI, 20, .inl (fun _ => 0))), (a_ceH, .inl (cI, 50, .inl (fun _ => 0))), (a_ceG, .inl (cI, 320, .inl (fun _ => 0))), (a_ceV, .inl (cI, 320, .inl (fun _ => 0)))] H := hP
  replace hD : va_D A [(a_hb, .inr (6, [.ref a_fl, .ref a_pl, .ref a_va, .ref a_ce, .null, .null, .null])), (a_fl, .inr (1, [.int 3, .int 3, .int 3, .int 128, .int 64, .int 56])), (a_pl, .inr (3, [.ref a_fl, .int 0, .int 0, .int 0, .int 0])), (a_va, .inr (5, [.ref a_fl, .ref a_p2, .long 0, .int 0, .int 0, .int 0, .int 0, .int 0, .int 0])), (a_p2, .inr (3, [.ref a_fl, .int 0, .int 0, .int 0, .int 0])), (a_ce, .inr (0, [.ref a_fl, .ref a_va, .ref a_ceT, .ref a_ceS, .ref a_ceH, .ref a_ceG, .ref a_ceV])), (a_ceT, .inl (cI, 5, .inl (fun _ => 0))), (a_ceS, .inl (cI, 20, .inl (fun _ => 0))), (a_ceH, .inl (cI, 50, .inl (fun _ => 0))), (a_ceG, .inl (cI, 320, .inl (fun _ => 0))), (a_ceV, .inl (cI, 320, .inl (fun _ => 0)))] := hD
  refine lv_aload_n hx hb dX7_init_64 rfl (lv_at hl 0 rfl) ?_
  refine va_new (ci := 4) (fs := [.null, .null, .null, .null]) (C := RX5) (T := TX5) (N := 4) hx hb hts inlX5 tyX5 tyX5_ok hown (hts _ wl_28) (hts _ wl_29) (hts _ wl_30) hK hP hD hS hA rfl (fun j hj => by rcases (show j = 0 ∨ j = 1 ∨ j = 2 ∨ j = 3 by omega) with rfl | rfl | rfl | rfl <;> rfl) (hRc _ (Nat.le_of_ble_eq_true rfl)) (hRs _ (Nat.le_of_ble_eq_true rfl)) dX7_init_65 (fun a_st H hP hD hS => ?_)
  replace hP : va_P D vwCl [(a_hb, .inr (6, [.ref a_fl, .ref a_pl, .ref a_va, .ref a_ce, .null, .null, .null])), (a_fl, .inr (1, [.int 3, .int 3, .int 3, .int 128, .int 64, .int 56])), (a_pl, .inr (3, [.ref a_fl, .int 0, .int 0, .int 0, .int 0])), (a_va, .inr (5, [.ref a_fl, .ref a_p2, .long 0, .int 0, .int 0, .int 0, .int 0, .int 0, .int 0])), (a_p2, .inr (3, [.ref a_fl, .int 0, .int 0, .int 0, .int 0])), (a_ce, .inr (0, [.ref a_fl, .ref a_va, .ref a_ceT, .ref a_ceS, .ref a_ceH, .ref a_ceG, .ref a_ceV])), (a_ceT, .inl (cI, 5, .inl (fun _ => 0))), (a_ceS, .inl (cI, 20, .inl (fun _ => 0))), (a_ceH, .inl (cI, 50, .inl (fun _ => 0))), (a_ceG, .inl (cI, 320, .inl (fun _ => 0))), (a_ceV, .inl (cI, 320, .inl (fun _ => 0))), (a_st, .inr (4, [.null, .null, .null, .null]))] H := hP
  replace hD : va_D A [(a_hb, .inr (6, [.ref a_fl, .ref a_pl, .ref a_va, .ref a_ce, .null, .null, .null])), (a_fl, .inr (1, [.int 3, .int 3, .int 3, .int 128, .int 64, .int 56])), (a_pl, .inr (3, [.ref a_fl, .int 0, .int 0, .int 0, .int 0])), (a_va, .inr (5, [.ref a_fl, .ref a_p2, .long 0, .int 0, .int 0, .int 0, .int 0, .int 0, .int 0])), (a_p2, .inr (3, [.ref a_fl, .int 0, .int 0, .int 0, .int 0])), (a_ce, .inr (0, [.ref a_fl, .ref a_va, .ref a_ceT, .ref a_ceS, .ref a_ceH, .ref a_ceG, .ref a_ceV])), (a_ceT, .inl (cI, 5, .inl (fun _ => 0))), (a_ceS, .inl (cI, 20, .inl (fun _ => 0))), (a_ceH, .inl (cI, 50, .inl (fun _ => 0))), (a_ceG, .inl (cI, 320, .inl (fun _ => 0))), (a_ceV, .inl (cI, 320, .inl (fun _ => 0))), (a_st, .inr (4, [.null, .null, .null, .null]))] := hD
  refine W.widen (k := 11) (n := 751) (Nat.le_of_ble_eq_true rfl) (Nat.le_of_ble_eq_true rfl) ?_
  refine lv_dup hx hb dX7_init_68 rfl ?_
  refine lv_aload_n hx hb dX7_init_69 rfl (lv_at hl 0 rfl) ?_
  refine va_get (D := D) (ci := 6) (v := .ref a_fl) (C := RX7) (T := TX7) (N := 7) hx hb hts inlX7 hown hK hP 0 rfl rfl 0 (by decide) (hts _ wl_15) (fun _ h9 => h9) rfl dX7_init_70 ?_
  refine lv_aload_n hx hb dX7_init_73 rfl (lv_at hl 0 rfl) ?_
  refine va_get (D := D) (ci := 6) (v := .ref a_va) (C := RX7) (T := TX7) (N := 7) hx hb hts inlX7 hown hK hP 0 rfl rfl 2 (by decide) (hts _ wl_23) (fun _ h9 => h9) rfl dX7_init_74 ?_
  refine ca_I (b := a_st) (As := [.ref a_fl, .ref a_va]) (rest := [.ref a_st, .ref a_hb]) (wr := [(a_hb, .inr (6, [.ref a_fl, .ref a_pl, .ref a_va, .ref a_ce, .null, .null, .null])), (a_fl, .inr (1, [.int 3, .int 3, .int 3, .int 128, .int 64, .int 56])), (a_pl, .inr (3, [.ref a_fl, .int 0, .int 0, .int 0, .int 0])), (a_va, .inr (5, [.ref a_fl, .ref a_p2, .long 0, .int 0, .int 0, .int 0, .int 0, .int 0, .int 0])), (a_p2, .inr (3, [.ref a_fl, .int 0, .int 0, .int 0, .int 0])), (a_ce, .inr (0, [.ref a_fl, .ref a_va, .ref a_ceT, .ref a_ceS, .ref a_ceH, .ref a_ceG, .ref a_ceV])), (a_ceT, .inl (cI, 5, .inl (fun _ => 0))), (a_ceS, .inl (cI, 20, .inl (fun _ => 0))), (a_ceH, .inl (cI, 50, .inl (fun _ => 0))), (a_ceG, .inl (cI, 320, .inl (fun _ => 0))), (a_ceV, .inl (cI, 320, .inl (fun _ => 0)))]) ⟨hx, hb, hml, hown, hts⟩ (i_X5_init l D cI cJ cZ a_st a_fl a_va H.size _ rfl) (cwI 2 hts (gdI wl_78) rfl rfl rfl (hts _ wl_30) (hts _ wl_76) (hts _ wl_77) rfl (by decide +kernel) ⟨hRf _ (Nat.le_of_ble_eq_true rfl), hRl _ (Nat.le_of_ble_eq_true rfl)⟩) hK hN hP hD hS hA [11] [0, 1, 2, 3, 4, 5, 6, 7, 8, 9, 10] rfl rfl (by decide) (by decide) (by decide) rfl hl.1 rfl (Nat.le_of_ble_eq_true rfl) dX7_init_77 ⟨hRc _ (Nat.le_of_ble_eq_true rfl), hRs _ (Nat.le_of_ble_eq_true rfl)⟩ (fun u77 H locs _ hP hD hS => ?_)
  obtain ⟨a_stT, a_stB⟩ := u77
  replace hP : va_P D vwCl [(a_hb, .inr (6, [.ref a_fl, .ref a_pl, .ref a_va, .ref a_ce, .null, .null, .null])), (a_fl, .inr (1, [.int 3, .int 3, .int 3, .int 128, .int 64, .int 56])), (a_pl, .inr (3, [.ref a_fl, .int 0, .int 0, .int 0, .int 0])), (a_va, .inr (5, [.ref a_fl, .ref a_p2, .long 0, .int 0, .int 0, .int 0, .int 0, .int 0, .int 0])), (a_p2, .inr (3, [.ref a_fl, .int 0, .int 0, .int 0, .int 0])), (a_ce, .inr (0, [.ref a_fl, .ref a_va, .ref a_ceT, .ref a_ceS, .ref a_ceH, .ref a_ceG, .ref a_ceV])), (a_ceT, .inl (cI, 5, .inl (fun _ => 0))), (a_ceS, .inl (cI, 20, .inl (fun _ => 0))), (a_ceH, .inl (cI, 50, .inl (fun _ => 0))), (a_ceG, .inl (cI, 320, .inl (fun _ => 0))), (a_ceV, .inl (cI, 320, .inl (fun _ => 0))), (a_st, .inr (4, [.ref a_fl, .ref a_va, .ref a_stT, .ref a_stB])), (a_stT, .inl (cI, 25, .inl (fun _ => 0))), (a_stB, .inl (cI, 800, .inl (fun _ => 0)))] H := hP
  replace hD : va_D A [(a_hb, .inr (6, [.ref a_fl, .ref a_pl, .ref a_va, .ref a_ce, .null, .null, .null])), (a_fl, .inr (1, [.int 3, .int 3, .int 3, .int 128, .int 64, .int 56])), (a_pl, .inr (3, [.ref a_fl, .int 0, .int 0, .int 0, .int 0])), (a_va, .inr (5, [.ref a_fl, .ref a_p2, .long 0, .int 0, .int 0, .int 0, .int 0, .int 0, .int 0])), (a_p2, .inr (3, [.ref a_fl, .int 0, .int 0, .int 0, .int 0])), (a_ce, .inr (0, [.ref a_fl, .ref a_va, .ref a_ceT, .ref a_ceS, .ref a_ceH, .ref a_ceG, .ref a_ceV])), (a_ceT, .inl (cI, 5, .inl (fun _ => 0))), (a_ceS, .inl (cI, 20, .inl (fun _ => 0))), (a_ceH, .inl (cI, 50, .inl (fun _ => 0))), (a_ceG, .inl (cI, 320, .inl (fun _ => 0))), (a_ceV, .inl (cI, 320, .inl (fun _ => 0))), (a_st, .inr (4, [.ref a_fl, .ref a_va, .ref a_stT, .ref a_stB])), (a_stT, .inl (cI, 25, .inl (fun _ => 0))), (a_stB, .inl (cI, 800, .inl (fun _ => 0)))] := hD
  refine W.widen (k := 13) (n := 1576) (Nat.le_of_ble_eq_true rfl) (Nat.le_of_ble_eq_true rfl) ?_
  refine va_putF (D := D) (ci := 6) (v := .ref a_st) (ty := .object "HardBench$Stretches") (C := RX7) (T := TX7) (N := 7) hx hb hts inlX7 tyX7 tyX7_ok nmX7 hown hK hP hD hS 0 rfl rfl 4 (by decide) (hts _ wl_31) (fun _ h9 => h9) rfl hin rfl (by decide +kernel) rfl rfl (Nat.le_of_ble_eq_true rfl) dX7_init_80 (fun H locs hP hD hS => ?_)
  replace hP : va_P D vwCl [(a_hb, .inr (6, [.ref a_fl, .ref a_pl, .ref a_va, .ref a_ce, .ref a_st, .null, .null])), (a_fl, .inr (1, [.int 3, .int 3, .int 3, .int 128, .int 64, .int 56])), (a_pl, .inr (3, [.ref a_fl, .int 0, .int 0, .int 0, .int 0])), (a_va, .inr (5, [.ref a_fl, .ref a_p2, .long 0, .int 0, .int 0, .int 0, .int 0, .int 0, .int 0])), (a_p2, .inr (3, [.ref a_fl, .int 0, .int 0, .int 0, .int 0])), (a_ce, .inr (0, [.ref a_fl, .ref a_va, .ref a_ceT, .ref a_ceS, .ref a_ceH, .ref a_ceG, .ref a_ceV])), (a_ceT, .inl (cI, 5, .inl (fun _ => 0))), (a_ceS, .inl (cI, 20, .inl (fun _ => 0))), (a_ceH, .inl (cI, 50, .inl (fun _ => 0))), (a_ceG, .inl (cI, 320, .inl (fun _ => 0))), (a_ceV, .inl (cI, 320, .inl (fun _ => 0))), (a_st, .inr (4, [.ref a_fl, .ref a_va, .ref a_stT, .ref a_stB])), (a_stT, .inl (cI, 25, .inl (fun _ => 0))), (a_stB, .inl (cI, 800, .inl (fun _ => 0)))] H := hP
  replace hD : va_D A [(a_hb, .inr (6, [.ref a_fl, .ref a_pl, .ref a_va, .ref a_ce, .ref a_st, .null, .null])), (a_fl, .inr (1, [.int 3, .int 3, .int 3, .int 128, .int 64, .int 56])), (a_pl, .inr (3, [.ref a_fl, .int 0, .int 0, .int 0, .int 0])), (a_va, .inr (5, [.ref a_fl, .ref a_p2, .long 0, .int 0, .int 0, .int 0, .int 0, .int 0, .int 0])), (a_p2, .inr (3, [.ref a_fl, .int 0, .int 0, .int 0, .int 0])), (a_ce, .inr (0, [.ref a_fl, .ref a_va, .ref a_ceT, .ref a_ceS, .ref a_ceH, .ref a_ceG, .ref a_ceV])), (a_ceT, .inl (cI, 5, .inl (fun _ => 0))), (a_ceS, .inl (cI, 20, .inl (fun _ => 0))), (a_ceH, .inl (cI, 50, .inl (fun _ => 0))), (a_ceG, .inl (cI, 320, .inl (fun _ => 0))), (a_ceV, .inl (cI, 320, .inl (fun _ => 0))), (a_st, .inr (4, [.ref a_fl, .ref a_va, .ref a_stT, .ref a_stB])), (a_stT, .inl (cI, 25, .inl (fun _ => 0))), (a_stB, .inl (cI, 800, .inl (fun _ => 0)))] := hD
  refine lv_aload_n hx hb dX7_init_83 rfl (lv_at hl 0 rfl) ?_
  refine va_new (ci := 2) (fs := [.null, .null, .null, .null, .null, .null, .int 0, .int 0, .long 0, .long 0]) (C := RX2) (T := TX2) (N := 10) hx hb hts inlX2 tyX2 tyX2_ok hown (hts _ wl_32) (hts _ wl_33) (hts _ wl_34) hK hP hD hS hA rfl (fun j hj => by rcases (show j = 0 ∨ j = 1 ∨ j = 2 ∨ j = 3 ∨ j = 4 ∨ j = 5 ∨ j = 6 ∨ j = 7 ∨ j = 8 ∨ j = 9 by omega) with rfl | rfl | rfl | rfl | rfl | rfl | rfl | rfl | rfl | rfl <;> rfl) (hRc _ (Nat.le_of_ble_eq_true rfl)) (hRs _ (Nat.le_of_ble_eq_true rfl)) dX7_init_84 (fun a_li H hP hD hS => ?_)
  replace hP : va_P D vwCl [(a_hb, .inr (6, [.ref a_fl, .ref a_pl, .ref a_va, .ref a_ce, .ref a_st, .null, .null])), (a_fl, .inr (1, [.int 3, .int 3, .int 3, .int 128, .int 64, .int 56])), (a_pl, .inr (3, [.ref a_fl, .int 0, .int 0, .int 0, .int 0])), (a_va, .inr (5, [.ref a_fl, .ref a_p2, .long 0, .int 0, .int 0, .int 0, .int 0, .int 0, .int 0])), (a_p2, .inr (3, [.ref a_fl, .int 0, .int 0, .int 0, .int 0])), (a_ce, .inr (0, [.ref a_fl, .ref a_va, .ref a_ceT, .ref a_ceS, .ref a_ceH, .ref a_ceG, .ref a_ceV])), (a_ceT, .inl (cI, 5, .inl (fun _ => 0))), (a_ceS, .inl (cI, 20, .inl (fun _ => 0))), (a_ceH, .inl (cI, 50, .inl (fun _ => 0))), (a_ceG, .inl (cI, 320, .inl (fun _ => 0))), (a_ceV, .inl (cI, 320, .inl (fun _ => 0))), (a_st, .inr (4, [.ref a_fl, .ref a_va, .ref a_stT, .ref a_stB])), (a_stT, .inl (cI, 25, .inl (fun _ => 0))), (a_stB, .inl (cI, 800, .inl (fun _ => 0))), (a_li, .inr (2, [.null, .null, .null, .null, .null, .null, .int 0, .int 0, .long 0, .long 0]))] H := hP
  replace hD : va_D A [(a_hb, .inr (6, [.ref a_fl, .ref a_pl, .ref a_va, .ref a_ce, .ref a_st, .null, .null])), (a_fl, .inr (1, [.int 3, .int 3, .int 3, .int 128, .int 64, .int 56])), (a_pl, .inr (3, [.ref a_fl, .int 0, .int 0, .int 0, .int 0])), (a_va, .inr (5, [.ref a_fl, .ref a_p2, .long 0, .int 0, .int 0, .int 0, .int 0, .int 0, .int 0])), (a_p2, .inr (3, [.ref a_fl, .int 0, .int 0, .int 0, .int 0])), (a_ce, .inr (0, [.ref a_fl, .ref a_va, .ref a_ceT, .ref a_ceS, .ref a_ceH, .ref a_ceG, .ref a_ceV])), (a_ceT, .inl (cI, 5, .inl (fun _ => 0))), (a_ceS, .inl (cI, 20, .inl (fun _ => 0))), (a_ceH, .inl (cI, 50, .inl (fun _ => 0))), (a_ceG, .inl (cI, 320, .inl (fun _ => 0))), (a_ceV, .inl (cI, 320, .inl (fun _ => 0))), (a_st, .inr (4, [.ref a_fl, .ref a_va, .ref a_stT, .ref a_stB])), (a_stT, .inl (cI, 25, .inl (fun _ => 0))), (a_stB, .inl (cI, 800, .inl (fun _ => 0))), (a_li, .inr (2, [.null, .null, .null, .null, .null, .null, .int 0, .int 0, .long 0, .long 0]))] := hD
  refine W.widen (k := 14) (n := 1586) (Nat.le_of_ble_eq_true rfl) (Nat.le_of_ble_eq_true rfl) ?_
  refine lv_dup hx hb dX7_init_87 rfl ?_
  refine lv_aload_n hx hb dX7_init_88 rfl (lv_at hl 0 rfl) ?_
  refine va_get (D := D) (ci := 6) (v := .ref a_fl) (C := RX7) (T := TX7) (N := 7) hx hb hts inlX7 hown hK hP 0 rfl rfl 0 (by decide) (hts _ wl_15) (fun _ h9 => h9) rfl dX7_init_89 ?_
  refine lv_aload_n hx hb dX7_init_92 rfl (lv_at hl 0 rfl) ?_
  refine va_get (D := D) (ci := 6) (v := .ref a_va) (C := RX7) (T := TX7) (N := 7) hx hb hts inlX7 hown hK hP 0 rfl rfl 2 (by decide) (hts _ wl_23) (fun _ h9 => h9) rfl dX7_init_93 ?_
  refine ca_I (b := a_li) (As := [.ref a_fl, .ref a_va]) (rest := [.ref a_li, .ref a_hb]) (wr := [(a_hb, .inr (6, [.ref a_fl, .ref a_pl, .ref a_va, .ref a_ce, .ref a_st, .null, .null])), (a_fl, .inr (1, [.int 3, .int 3, .int 3, .int 128, .int 64, .int 56])), (a_pl, .inr (3, [.ref a_fl, .int 0, .int 0, .int 0, .int 0])), (a_va, .inr (5, [.ref a_fl, .ref a_p2, .long 0, .int 0, .int 0, .int 0, .int 0, .int 0, .int 0])), (a_p2, .inr (3, [.ref a_fl, .int 0, .int 0, .int 0, .int 0])), (a_ce, .inr (0, [.ref a_fl, .ref a_va, .ref a_ceT, .ref a_ceS, .ref a_ceH, .ref a_ceG, .ref a_ceV])), (a_ceT, .inl (cI, 5, .inl (fun _ => 0))), (a_ceS, .inl (cI, 20, .inl (fun _ => 0))), (a_ceH, .inl (cI, 50, .inl (fun _ => 0))), (a_ceG, .inl (cI, 320, .inl (fun _ => 0))), (a_ceV, .inl (cI, 320, .inl (fun _ => 0))), (a_st, .inr (4, [.ref a_fl, .ref a_va, .ref a_stT, .ref a_stB])), (a_stT, .inl (cI, 25, .inl (fun _ => 0))), (a_stB, .inl (cI, 800, .inl (fun _ => 0)))]) ⟨hx, hb, hml, hown, hts⟩ (i_X2_init l D cI cJ cZ a_li a_fl a_va H.size _ rfl) (cwI 2 hts (gdI wl_86) rfl rfl rfl (hts _ wl_34) (hts _ wl_84) (hts _ wl_85) rfl (by decide +kernel) ⟨hRf _ (Nat.le_of_ble_eq_true rfl), hRl _ (Nat.le_of_ble_eq_true rfl)⟩) hK hN hP hD hS hA [14] [0, 1, 2, 3, 4, 5, 6, 7, 8, 9, 10, 11, 12, 13] rfl rfl (by decide) (by decide) (by decide) rfl hl.1 rfl (Nat.le_of_ble_eq_true rfl) dX7_init_96 ⟨hRc _ (Nat.le_of_ble_eq_true rfl), hRs _ (Nat.le_of_ble_eq_true rfl)⟩ (fun u96 H locs _ hP hD hS => ?_)
  obtain ⟨a_liD, a_liF, a_liA, a_liB⟩ := u96
  replace hP : va_P D vwCl [(a_hb, .inr (6, [.ref a_fl, .ref a_pl, .ref a_va, .ref a_ce, .ref a_st, .null, .null])), (a_fl, .inr (1, [.int 3, .int 3, .int 3, .int 128, .int 64, .int 56])), (a_pl, .inr (3, [.ref a_fl, .int 0, .int 0, .int 0, .int 0])), (a_va, .inr (5, [.ref a_fl, .ref a_p2, .long 0, .int 0, .int 0, .int 0, .int 0, .int 0, .int 0])), (a_p2, .inr (3, [.ref a_fl, .int 0, .int 0, .int 0, .int 0])), (a_ce, .inr (0, [.ref a_fl, .ref a_va, .ref a_ceT, .ref a_ceS, .ref a_ceH, .ref a_ceG, .ref a_ceV])), (a_ceT, .inl (cI, 5, .inl (fun _ => 0))), (a_ceS, .inl (cI, 20, .inl (fun _ => 0))), (a_ceH, .inl (cI, 50, .inl (fun _ => 0))), (a_ceG, .inl (cI, 320, .inl (fun _ => 0))), (a_ceV, .inl (cI, 320, .inl (fun _ => 0))), (a_st, .inr (4, [.ref a_fl, .ref a_va, .ref a_stT, .ref a_stB])), (a_stT, .inl (cI, 25, .inl (fun _ => 0))), (a_stB, .inl (cI, 800, .inl (fun _ => 0))), (a_li, .inr (2, [.ref a_fl, .ref a_va, .ref a_liD, .ref a_liF, .ref a_liA, .ref a_liB, .int 0, .int 0, .long 0, .long 0])), (a_liD, .inl (cI, 256, .inl (fun _ => 0))), (a_liF, .inl (cI, 256, .inl (fun _ => 0))), (a_liA, .inl (cI, 256, .inl (fun _ => 0))), (a_liB, .inl (cI, 256, .inl (fun _ => 0)))] H := hP
  replace hD : va_D A [(a_hb, .inr (6, [.ref a_fl, .ref a_pl, .ref a_va, .ref a_ce, .ref a_st, .null, .null])), (a_fl, .inr (1, [.int 3, .int 3, .int 3, .int 128, .int 64, .int 56])), (a_pl, .inr (3, [.ref a_fl, .int 0, .int 0, .int 0, .int 0])), (a_va, .inr (5, [.ref a_fl, .ref a_p2, .long 0, .int 0, .int 0, .int 0, .int 0, .int 0, .int 0])), (a_p2, .inr (3, [.ref a_fl, .int 0, .int 0, .int 0, .int 0])), (a_ce, .inr (0, [.ref a_fl, .ref a_va, .ref a_ceT, .ref a_ceS, .ref a_ceH, .ref a_ceG, .ref a_ceV])), (a_ceT, .inl (cI, 5, .inl (fun _ => 0))), (a_ceS, .inl (cI, 20, .inl (fun _ => 0))), (a_ceH, .inl (cI, 50, .inl (fun _ => 0))), (a_ceG, .inl (cI, 320, .inl (fun _ => 0))), (a_ceV, .inl (cI, 320, .inl (fun _ => 0))), (a_st, .inr (4, [.ref a_fl, .ref a_va, .ref a_stT, .ref a_stB])), (a_stT, .inl (cI, 25, .inl (fun _ => 0))), (a_stB, .inl (cI, 800, .inl (fun _ => 0))), (a_li, .inr (2, [.ref a_fl, .ref a_va, .ref a_liD, .ref a_liF, .ref a_liA, .ref a_liB, .int 0, .int 0, .long 0, .long 0])), (a_liD, .inl (cI, 256, .inl (fun _ => 0))), (a_liF, .inl (cI, 256, .inl (fun _ => 0))), (a_liA, .inl (cI, 256, .inl (fun _ => 0))), (a_liB, .inl (cI, 256, .inl (fun _ => 0)))] := hD
  refine W.widen (k := 18) (n := 2610) (Nat.le_of_ble_eq_true rfl) (Nat.le_of_ble_eq_true rfl) ?_
  refine va_putF (D := D) (ci := 6) (v := .ref a_li) (ty := .object "HardBench$Lines") (C := RX7) (T := TX7) (N := 7) hx hb hts inlX7 tyX7 tyX7_ok nmX7 hown hK hP hD hS 0 rfl rfl 5 (by decide) (hts _ wl_35) (fun _ h9 => h9) rfl hin rfl (by decide +kernel) rfl rfl (Nat.le_of_ble_eq_true rfl) dX7_init_99 (fun H locs hP hD hS => ?_)
  replace hP : va_P D vwCl [(a_hb, .inr (6, [.ref a_fl, .ref a_pl, .ref a_va, .ref a_ce, .ref a_st, .ref a_li, .null])), (a_fl, .inr (1, [.int 3, .int 3, .int 3, .int 128, .int 64, .int 56])), (a_pl, .inr (3, [.ref a_fl, .int 0, .int 0, .int 0, .int 0])), (a_va, .inr (5, [.ref a_fl, .ref a_p2, .long 0, .int 0, .int 0, .int 0, .int 0, .int 0, .int 0])), (a_p2, .inr (3, [.ref a_fl, .int 0, .int 0, .int 0, .int 0])), (a_ce, .inr (0, [.ref a_fl, .ref a_va, .ref a_ceT, .ref a_ceS, .ref a_ceH, .ref a_ceG, .ref a_ceV])), (a_ceT, .inl (cI, 5, .inl (fun _ => 0))), (a_ceS, .inl (cI, 20, .inl (fun _ => 0))), (a_ceH, .inl (cI, 50, .inl (fun _ => 0))), (a_ceG, .inl (cI, 320, .inl (fun _ => 0))), (a_ceV, .inl (cI, 320, .inl (fun _ => 0))), (a_st, .inr (4, [.ref a_fl, .ref a_va, .ref a_stT, .ref a_stB])), (a_stT, .inl (cI, 25, .inl (fun _ => 0))), (a_stB, .inl (cI, 800, .inl (fun _ => 0))), (a_li, .inr (2, [.ref a_fl, .ref a_va, .ref a_liD, .ref a_liF, .ref a_liA, .ref a_liB, .int 0, .int 0, .long 0, .long 0])), (a_liD, .inl (cI, 256, .inl (fun _ => 0))), (a_liF, .inl (cI, 256, .inl (fun _ => 0))), (a_liA, .inl (cI, 256, .inl (fun _ => 0))), (a_liB, .inl (cI, 256, .inl (fun _ => 0)))] H := hP
  replace hD : va_D A [(a_hb, .inr (6, [.ref a_fl, .ref a_pl, .ref a_va, .ref a_ce, .ref a_st, .ref a_li, .null])), (a_fl, .inr (1, [.int 3, .int 3, .int 3, .int 128, .int 64, .int 56])), (a_pl, .inr (3, [.ref a_fl, .int 0, .int 0, .int 0, .int 0])), (a_va, .inr (5, [.ref a_fl, .ref a_p2, .long 0, .int 0, .int 0, .int 0, .int 0, .int 0, .int 0])), (a_p2, .inr (3, [.ref a_fl, .int 0, .int 0, .int 0, .int 0])), (a_ce, .inr (0, [.ref a_fl, .ref a_va, .ref a_ceT, .ref a_ceS, .ref a_ceH, .ref a_ceG, .ref a_ceV])), (a_ceT, .inl (cI, 5, .inl (fun _ => 0))), (a_ceS, .inl (cI, 20, .inl (fun _ => 0))), (a_ceH, .inl (cI, 50, .inl (fun _ => 0))), (a_ceG, .inl (cI, 320, .inl (fun _ => 0))), (a_ceV, .inl (cI, 320, .inl (fun _ => 0))), (a_st, .inr (4, [.ref a_fl, .ref a_va, .ref a_stT, .ref a_stB])), (a_stT, .inl (cI, 25, .inl (fun _ => 0))), (a_stB, .inl (cI, 800, .inl (fun _ => 0))), (a_li, .inr (2, [.ref a_fl, .ref a_va, .ref a_liD, .ref a_liF, .ref a_liA, .ref a_liB, .int 0, .int 0, .long 0, .long 0])), (a_liD, .inl (cI, 256, .inl (fun _ => 0))), (a_liF, .inl (cI, 256, .inl (fun _ => 0))), (a_liA, .inl (cI, 256, .inl (fun _ => 0))), (a_liB, .inl (cI, 256, .inl (fun _ => 0)))] := hD
  refine lv_aload_n hx hb dX7_init_102 rfl (lv_at hl 0 rfl) ?_
  refine lv_bipush (v := 7) hx hb dX7_init_103 (by decide) ?_
  refine va_newa hx hb (hts _ wl_36) rfl hK hP hD hS hA (n := 7) (N' := 7) (a0 := (7, .inl (fun _ => 0))) (fun _ => rfl) (by decide) (by decide) (by decide) (hRc _ (Nat.le_of_ble_eq_true rfl)) (hRs _ (Nat.le_of_ble_eq_true rfl)) dX7_init_105 (fun a_hbR cA H hK2 hP hD hS => ?_)
  obtain rfl := cls_i hK2
  replace hP : va_P D vwCl [(a_hb, .inr (6, [.ref a_fl, .ref a_pl, .ref a_va, .ref a_ce, .ref a_st, .ref a_li, .null])), (a_fl, .inr (1, [.int 3, .int 3, .int 3, .int 128, .int 64, .int 56])), (a_pl, .inr (3, [.ref a_fl, .int 0, .int 0, .int 0, .int 0])), (a_va, .inr (5, [.ref a_fl, .ref a_p2, .long 0, .int 0, .int 0, .int 0, .int 0, .int 0, .int 0])), (a_p2, .inr (3, [.ref a_fl, .int 0, .int 0, .int 0, .int 0])), (a_ce, .inr (0, [.ref a_fl, .ref a_va, .ref a_ceT, .ref a_ceS, .ref a_ceH, .ref a_ceG, .ref a_ceV])), (a_ceT, .inl (cI, 5, .inl (fun _ => 0))), (a_ceS, .inl (cI, 20, .inl (fun _ => 0))), (a_ceH, .inl (cI, 50, .inl (fun _ => 0))), (a_ceG, .inl (cI, 320, .inl (fun _ => 0))), (a_ceV, .inl (cI, 320, .inl (fun _ => 0))), (a_st, .inr (4, [.ref a_fl, .ref a_va, .ref a_stT, .ref a_stB])), (a_stT, .inl (cI, 25, .inl (fun _ => 0))), (a_stB, .inl (cI, 800, .inl (fun _ => 0))), (a_li, .inr (2, [.ref a_fl, .ref a_va, .ref a_liD, .ref a_liF, .ref a_liA, .ref a_liB, .int 0, .int 0, .long 0, .long 0])), (a_liD, .inl (cI, 256, .inl (fun _ => 0))), (a_liF, .inl (cI, 256, .inl (fun _ => 0))), (a_liA, .inl (cI, 256, .inl (fun _ => 0))), (a_liB, .inl (cI, 256, .inl (fun _ => 0))), (a_hbR, .inl (cI, 7, .inl (fun _ => 0)))] H := hP
  replace hD : va_D A [(a_hb, .inr (6, [.ref a_fl, .ref a_pl, .ref a_va, .ref a_ce, .ref a_st, .ref a_li, .null])), (a_fl, .inr (1, [.int 3, .int 3, .int 3, .int 128, .int 64, .int 56])), (a_pl, .inr (3, [.ref a_fl, .int 0, .int 0, .int 0, .int 0])), (a_va, .inr (5, [.ref a_fl, .ref a_p2, .long 0, .int 0, .int 0, .int 0, .int 0, .int 0, .int 0])), (a_p2, .inr (3, [.ref a_fl, .int 0, .int 0, .int 0, .int 0])), (a_ce, .inr (0, [.ref a_fl, .ref a_va, .ref a_ceT, .ref a_ceS, .ref a_ceH, .ref a_ceG, .ref a_ceV])), (a_ceT, .inl (cI, 5, .inl (fun _ => 0))), (a_ceS, .inl (cI, 20, .inl (fun _ => 0))), (a_ceH, .inl (cI, 50, .inl (fun _ => 0))), (a_ceG, .inl (cI, 320, .inl (fun _ => 0))), (a_ceV, .inl (cI, 320, .inl (fun _ => 0))), (a_st, .inr (4, [.ref a_fl, .ref a_va, .ref a_stT, .ref a_stB])), (a_stT, .inl (cI, 25, .inl (fun _ => 0))), (a_stB, .inl (cI, 800, .inl (fun _ => 0))), (a_li, .inr (2, [.ref a_fl, .ref a_va, .ref a_liD, .ref a_liF, .ref a_liA, .ref a_liB, .int 0, .int 0, .long 0, .long 0])), (a_liD, .inl (cI, 256, .inl (fun _ => 0))), (a_liF, .inl (cI, 256, .inl (fun _ => 0))), (a_liA, .inl (cI, 256, .inl (fun _ => 0))), (a_liB, .inl (cI, 256, .inl (fun _ => 0))), (a_hbR, .inl (cI, 7, .inl (fun _ => 0)))] := hD
  refine W.widen (k := 19) (n := 2617) (Nat.le_of_ble_eq_true rfl) (Nat.le_of_ble_eq_true rfl) ?_
  refine va_putF (D := D) (ci := 6) (v := .ref a_hbR) (ty := .array .int) (C := RX7) (T := TX7) (N := 7) hx hb hts inlX7 tyX7 tyX7_ok nmX7 hown hK hP hD hS 0 rfl rfl 6 (by decide) (hts _ wl_37) (fun _ h9 => h9) rfl hin rfl (by decide +kernel) rfl rfl (Nat.le_of_ble_eq_true rfl) dX7_init_107 (fun H locs hP hD hS => ?_)
  replace hP : va_P D vwCl [(a_hb, .inr (6, [.ref a_fl, .ref a_pl, .ref a_va, .ref a_ce, .ref a_st, .ref a_li, .ref a_hbR])), (a_fl, .inr (1, [.int 3, .int 3, .int 3, .int 128, .int 64, .int 56])), (a_pl, .inr (3, [.ref a_fl, .int 0, .int 0, .int 0, .int 0])), (a_va, .inr (5, [.ref a_fl, .ref a_p2, .long 0, .int 0, .int 0, .int 0, .int 0, .int 0, .int 0])), (a_p2, .inr (3, [.ref a_fl, .int 0, .int 0, .int 0, .int 0])), (a_ce, .inr (0, [.ref a_fl, .ref a_va, .ref a_ceT, .ref a_ceS, .ref a_ceH, .ref a_ceG, .ref a_ceV])), (a_ceT, .inl (cI, 5, .inl (fun _ => 0))), (a_ceS, .inl (cI, 20, .inl (fun _ => 0))), (a_ceH, .inl (cI, 50, .inl (fun _ => 0))), (a_ceG, .inl (cI, 320, .inl (fun _ => 0))), (a_ceV, .inl (cI, 320, .inl (fun _ => 0))), (a_st, .inr (4, [.ref a_fl, .ref a_va, .ref a_stT, .ref a_stB])), (a_stT, .inl (cI, 25, .inl (fun _ => 0))), (a_stB, .inl (cI, 800, .inl (fun _ => 0))), (a_li, .inr (2, [.ref a_fl, .ref a_va, .ref a_liD, .ref a_liF, .ref a_liA, .ref a_liB, .int 0, .int 0, .long 0, .long 0])), (a_liD, .inl (cI, 256, .inl (fun _ => 0))), (a_liF, .inl (cI, 256, .inl (fun _ => 0))), (a_liA, .inl (cI, 256, .inl (fun _ => 0))), (a_liB, .inl (cI, 256, .inl (fun _ => 0))), (a_hbR, .inl (cI, 7, .inl (fun _ => 0)))] H := hP
  replace hD : va_D A [(a_hb, .inr (6, [.ref a_fl, .ref a_pl, .ref a_va, .ref a_ce, .ref a_st, .ref a_li, .ref a_hbR])), (a_fl, .inr (1, [.int 3, .int 3, .int 3, .int 128, .int 64, .int 56])), (a_pl, .inr (3, [.ref a_fl, .int 0, .int 0, .int 0, .int 0])), (a_va, .inr (5, [.ref a_fl, .ref a_p2, .long 0, .int 0, .int 0, .int 0, .int 0, .int 0, .int 0])), (a_p2, .inr (3, [.ref a_fl, .int 0, .int 0, .int 0, .int 0])), (a_ce, .inr (0, [.ref a_fl, .ref a_va, .ref a_ceT, .ref a_ceS, .ref a_ceH, .ref a_ceG, .ref a_ceV])), (a_ceT, .inl (cI, 5, .inl (fun _ => 0))), (a_ceS, .inl (cI, 20, .inl (fun _ => 0))), (a_ceH, .inl (cI, 50, .inl (fun _ => 0))), (a_ceG, .inl (cI, 320, .inl (fun _ => 0))), (a_ceV, .inl (cI, 320, .inl (fun _ => 0))), (a_st, .inr (4, [.ref a_fl, .ref a_va, .ref a_stT, .ref a_stB])), (a_stT, .inl (cI, 25, .inl (fun _ => 0))), (a_stB, .inl (cI, 800, .inl (fun _ => 0))), (a_li, .inr (2, [.ref a_fl, .ref a_va, .ref a_liD, .ref a_liF, .ref a_liA, .ref a_liB, .int 0, .int 0, .long 0, .long 0])), (a_liD, .inl (cI, 256, .inl (fun _ => 0))), (a_liF, .inl (cI, 256, .inl (fun _ => 0))), (a_liA, .inl (cI, 256, .inl (fun _ => 0))), (a_liB, .inl (cI, 256, .inl (fun _ => 0))), (a_hbR, .inl (cI, 7, .inl (fun _ => 0)))] := hD
  subst hQ; exact W.vret hx hb hr (fun t ht hW => ⟨⟨(a_fl, a_pl, a_va, a_p2, a_ce, a_ceT, a_ceS, a_ceH, a_ceG, a_ceV, a_st, a_stT, a_stB, a_li, a_liD, a_liF, a_liA, a_liB, a_hbR), rfl, trivial, by rw [ht]; exact hP, hD⟩, hS.F ht⟩) (fun q hq => hS.2.2 q hq) dX7_init_110

def w_X8_init : List Cond := .code yX8_init cX8_init 1 none :: wsL_law
set_option maxHeartbeats 4000000 in
set_option maxRecDepth 100000 in
theorem i_X8_init (l : Launch) (D : va_G) (cI cJ cZ : ClassId) (a_mo : Nat) (sz : Nat) (A : Nat → Prop) (hAe : A = va_A [(a_mo, .inr (7, [.null, .int 0, .int 0, .int 0, .int 0, .int 0, .int 0, .int 0, .int 0, .long 0, .null, .null, .null, .int 0, .int 0, .int 0, .null, .null, .int 0, .int 0, .null, .null, .null, .null, .null]))] sz) : Met l yX8_init w_X8_init ({ frames := 1, cells := 11, slots := 197900, locals := 23 } : Room) (rw_P D [(cI, .int), (cJ, .long), (cZ, .boolean)] [.ref a_mo] sz [(a_mo, .inr (7, [.null, .int 0, .int 0, .int 0, .int 0, .int 0, .int 0, .int 0, .int 0, .long 0, .null, .null, .null, .int 0, .int 0, .int 0, .null, .null, .int 0, .int 0, .null, .null, .null, .null, .null]))]) (va_Qv (fun (u : Nat × Nat × Nat × Nat × Nat × Nat × Nat × Nat × Nat × Nat × Nat × (Nat → Int32)) => ∀ k, k < 5 → u.2.2.2.2.2.2.2.2.2.2.2 k = 0) (rw_B D A (fun (u : Nat × Nat × Nat × Nat × Nat × Nat × Nat × Nat × Nat × Nat × Nat × (Nat → Int32)) => [(a_mo, .inr (7, [.ref u.1, .int 3, .int 3, .int 128, .int 55, .int 64, .int (-5), .int 0, .int 0, .long 0, .ref u.2.1, .ref u.2.2.1, .ref u.2.2.2.1, .int (-1), .int 0, .int 0, .ref u.2.2.2.2.1, .ref u.2.2.2.2.2.1, .int (-1), .int 0, .ref u.2.2.2.2.2.2.1, .ref u.2.2.2.2.2.2.2.1, .ref u.2.2.2.2.2.2.2.2.1, .ref u.2.2.2.2.2.2.2.2.2.1, .ref u.2.2.2.2.2.2.2.2.2.2.1])), (u.1, .inl (cI, 7, .inl (fun _ => 0))), (u.2.1, .inl (cZ, 5, .inl u.2.2.2.2.2.2.2.2.2.2.2)), (u.2.2.1, .inl (cI, 81920, .inl (fun _ => 0))), (u.2.2.2.1, .inl (cI, 81920, .inl (fun _ => 0))), (u.2.2.2.2.1, .inl (cI, 16384, .inl (fun _ => 0))), (u.2.2.2.2.2.1, .inl (cI, 16384, .inl (fun _ => 0))), (u.2.2.2.2.2.2.1, .inl (cI, 256, .inl (fun _ => 0))), (u.2.2.2.2.2.2.2.1, .inl (cI, 256, .inl (fun _ => 0))), (u.2.2.2.2.2.2.2.2.1, .inl (cJ, 256, .inr (.inl (fun _ => 0)))), (u.2.2.2.2.2.2.2.2.2.1, .inl (cJ, 256, .inr (.inl (fun _ => 0)))), (u.2.2.2.2.2.2.2.2.2.2.1, .inl (cJ, 256, .inr (.inl (fun _ => 0))))])) A) 11 197900 A := by
  refine Met.ofW (cc := cX8_init) (maxL := 1) (ret := none) (by decide) rfl ?_
  intro p e s m args below meth c s₁ B hml hv
  obtain ⟨hargs, hsz, hP, hK, hN, hD0⟩ := hv
  have hx := B.exec
  have hb := B.bytes
  have hr := B.returns
  have hts : ∀ w ∈ wsL_law, w.before args s = true := fun w h => atoms_spec (ws := w_X8_init) B.pre w (List.mem_cons_of_mem _ h)
  have hown : s.vm.findClass RX8 = some m.cls := findClass_of_methodNamed B.named
  have hlocks := B.notSynchronized
  have hin : meth.name = "<init>" := (name_of_methodNamed B.named B.method).1
  subst hsz
  have hD : va_D A [(a_mo, .inr (7, [.null, .int 0, .int 0, .int 0, .int 0, .int 0, .int 0, .int 0, .int 0, .long 0, .null, .null, .null, .int 0, .int 0, .int 0, .null, .null, .int 0, .int 0, .null, .null, .null, .null, .null]))] := by rw [hAe]; exact hD0.self
  have hA : ∀ q : Nat, s.heap.size ≤ q → A q := fun q h => by rw [hAe]; exact Or.inr h
  have hS : va_S A s.heap s.heap [] := va_S.rf
  have hl := lv_entry ([.ref a_mo]) (n := 1) (Nat.le_of_ble_eq_true rfl)
  rw [hargs, lg_entry_eq, ← hargs]
  generalize (lg_sl ([.ref a_mo]) ++ List.replicate (1 - (lg_sl ([.ref a_mo])).length) Slot.unset).toArray = ls at hl ⊢
  replace hl : lv_has ls 1 [(0, .ref a_mo)] := hl
  have hRf : ∀ n, n ≤ 1 → n ≤ (headSpec w_X8_init ({ frames := 1, cells := 11, slots := 197900, locals := 23 } : Room)).room.frames := fun n h => h
  have hRl : ∀ n, n ≤ 23 → n ≤ (headSpec w_X8_init ({ frames := 1, cells := 11, slots := 197900, locals := 23 } : Room)).room.locals := fun n h => h
  have hRc : ∀ n, n ≤ 11 → n ≤ (headSpec w_X8_init ({ frames := 1, cells := 11, slots := 197900, locals := 23 } : Room)).room.cells := fun n h => h
  have hRs : ∀ n, n ≤ 197900 → n ≤ (headSpec w_X8_init ({ frames := 1, cells := 11, slots := 197900, locals := 23 } : Room)).room.slots := fun n h => h
  generalize (headSpec w_X8_init ({ frames := 1, cells := 11, slots := 197900, locals := 23 } : Room)).room = R at hRf hRl hRc hRs ⊢
  generalize hQ : MQ below _ args s 11 197900 _ = Q
  suffices main : ∀ (H : Heap) (locs : List Loc), va_P D vwCl [(a_mo, .inr (7, [.null, .int 0, .int 0, .int 0, .int 0, .int 0, .int 0, .int 0, .int 0, .long 0, .null, .null, .null, .int 0, .int 0, .int 0, .null, .null, .int 0, .int 0, .null, .null, .null, .null, .null]))] H → va_S A s.heap H locs → W p l e R s m args below meth c H locs 0 0 Q (F0 m 0 ls []) from main _ _ hP hS
  intro H locs hP hS
  refine lv_aload_n hx hb dX8_init_0 rfl (lv_at hl 0 rfl) ?_
  refine W.objInit hx hb hown (hts _ wl_97) (hts _ wl_10) (hts _ wl_11) rfl (hl.1.trans hml.symm) rfl dX8_init_1 (hRf _ (Nat.le_of_ble_eq_true rfl)) (hRl _ (Nat.le_of_ble_eq_true rfl)) ?_
  refine W.eq (g2 := F0 m 4 ls []) rfl ?_
  refine lv_aload_n hx hb dX8_init_4 rfl (lv_at hl 0 rfl) ?_
  refine lv_bipush (v := 7) hx hb dX8_init_5 (by decide) ?_
  refine va_newa hx hb (hts _ wl_36) rfl hK hP hD hS hA (n := 7) (N' := 7) (a0 := (7, .inl (fun _ => 0))) (fun _ => rfl) (by decide) (by decide) (by decide) (hRc _ (Nat.le_of_ble_eq_true rfl)) (hRs _ (Nat.le_of_ble_eq_true rfl)) dX8_init_7 (fun a_moR cA H hK2 hP hD hS => ?_)
  obtain rfl := cls_i hK2
  replace hP : va_P D vwCl [(a_mo, .inr (7, [.null, .int 0, .int 0, .int 0, .int 0, .int 0, .int 0, .int 0, .int 0, .long 0, .null, .null, .null, .int 0, .int 0, .int 0, .null, .null, .int 0, .int 0, .null, .null, .null, .null, .null])), (a_moR, .inl (cI, 7, .inl (fun _ => 0)))] H := hP
  replace hD : va_D A [(a_mo, .inr (7, [.null, .int 0, .int 0, .int 0, .int 0, .int 0, .int 0, .int 0, .int 0, .long 0, .null, .null, .null, .int 0, .int 0, .int 0, .null, .null, .int 0, .int 0, .null, .null, .null, .null, .null])), (a_moR, .inl (cI, 7, .inl (fun _ => 0)))] := hD
  refine W.widen (k := 1) (n := 7) (Nat.le_of_ble_eq_true rfl) (Nat.le_of_ble_eq_true rfl) ?_
  refine va_putF (D := D) (ci := 7) (v := .ref a_moR) (ty := .array .int) (C := RX8) (T := TX8) (N := 25) hx hb hts inlX8 tyX8 tyX8_ok nmX8 hown hK hP hD hS 0 rfl rfl 0 (by decide) (hts _ wl_98) (fun _ h9 => h9) rfl hin rfl (by decide +kernel) rfl rfl (Nat.le_of_ble_eq_true rfl) dX8_init_9 (fun H locs hP hD hS => ?_)
  replace hP : va_P D vwCl [(a_mo, .inr (7, [.ref a_moR, .int 0, .int 0, .int 0, .int 0, .int 0, .int 0, .int 0, .int 0, .long 0, .null, .null, .null, .int 0, .int 0, .int 0, .null, .null, .int 0, .int 0, .null, .null, .null, .null, .null])), (a_moR, .inl (cI, 7, .inl (fun _ => 0)))] H := hP
  replace hD : va_D A [(a_mo, .inr (7, [.ref a_moR, .int 0, .int 0, .int 0, .int 0, .int 0, .int 0, .int 0, .int 0, .long 0, .null, .null, .null, .int 0, .int 0, .int 0, .null, .null, .int 0, .int 0, .null, .null, .null, .null, .null])), (a_moR, .inl (cI, 7, .inl (fun _ => 0)))] := hD
  refine lv_aload_n hx hb dX8_init_12 rfl (lv_at hl 0 rfl) ?_
  refine lv_iconst (v := 5) hx hb dX8_init_13 (by decide) ?_
  refine va_newa hx hb (hts _ wl_99) rfl hK hP hD hS hA (n := 5) (N' := 5) (a0 := (5, .inl (fun _ => 0))) (fun _ => rfl) (by decide) (by decide) (by decide) (hRc _ (Nat.le_of_ble_eq_true rfl)) (hRs _ (Nat.le_of_ble_eq_true rfl)) dX8_init_14 (fun a_moK cA H hK2 hP hD hS => ?_)
  obtain rfl := cls_z hK2
  replace hP : va_P D vwCl [(a_mo, .inr (7, [.ref a_moR, .int 0, .int 0, .int 0, .int 0, .int 0, .int 0, .int 0, .int 0, .long 0, .null, .null, .null, .int 0, .int 0, .int 0, .null, .null, .int 0, .int 0, .null, .null, .null, .null, .null])), (a_moR, .inl (cI, 7, .inl (fun _ => 0))), (a_moK, .inl (cZ, 5, .inl (fun _ => 0)))] H := hP
  replace hD : va_D A [(a_mo, .inr (7, [.ref a_moR, .int 0, .int 0, .int 0, .int 0, .int 0, .int 0, .int 0, .int 0, .long 0, .null, .null, .null, .int 0, .int 0, .int 0, .null, .null, .int 0, .int 0, .null, .null, .null, .null, .null])), (a_moR, .inl (cI, 7, .inl (fun _ => 0))), (a_moK, .inl (cZ, 5, .inl (fun _ => 0)))] := hD
  refine W.widen (k := 2) (n := 12) (Nat.le_of_ble_eq_true rfl) (Nat.le_of_ble_eq_true rfl) ?_
  refine va_putF (D := D) (ci := 7) (v := .ref a_moK) (ty := .array .boolean) (C := RX8) (T := TX8) (N := 25) hx hb hts inlX8 tyX8 tyX8_ok nmX8 hown hK hP hD hS 0 rfl rfl 10 (by decide) (hts _ wl_100) (fun _ h9 => h9) rfl hin rfl (by decide +kernel) rfl rfl (Nat.le_of_ble_eq_true rfl) dX8_init_16 (fun H locs hP hD hS => ?_)
  replace hP : va_P D vwCl [(a_mo, .inr (7, [.ref a_moR, .int 0, .int 0, .int 0, .int 0, .int 0, .int 0, .int 0, .int 0, .long 0, .ref a_moK, .null, .null, .int 0, .int 0, .int 0, .null, .null, .int 0, .int 0, .null, .null, .null, .null, .null])), (a_moR, .inl (cI, 7, .inl (fun _ => 0))), (a_moK, .inl (cZ, 5, .inl (fun _ => 0)))] H := hP
  replace hD : va_D A [(a_mo, .inr (7, [.ref a_moR, .int 0, .int 0, .int 0, .int 0, .int 0, .int 0, .int 0, .int 0, .long 0, .ref a_moK, .null, .null, .int 0, .int 0, .int 0, .null, .null, .int 0, .int 0, .null, .null, .null, .null, .null])), (a_moR, .inl (cI, 7, .inl (fun _ => 0))), (a_moK, .inl (cZ, 5, .inl (fun _ => 0)))] := hD
  refine lv_aload_n hx hb dX8_init_19 rfl (lv_at hl 0 rfl) ?_
  refine lv_ldc (v := 81920) hx hb hown (hts _ wl_101) dX8_init_20 ?_
  refine va_newa hx hb (hts _ wl_36) rfl hK hP hD hS hA (n := 81920) (N' := 81920) (a0 := (81920, .inl (fun _ => 0))) (fun _ => rfl) (by decide) (by decide) (by decide) (hRc _ (Nat.le_of_ble_eq_true rfl)) (hRs _ (Nat.le_of_ble_eq_true rfl)) dX8_init_22 (fun a_moH cA H hK2 hP hD hS => ?_)
  obtain rfl := cls_i hK2
  replace hP : va_P D vwCl [(a_mo, .inr (7, [.ref a_moR, .int 0, .int 0, .int 0, .int 0, .int 0, .int 0, .int 0, .int 0, .long 0, .ref a_moK, .null, .null, .int 0, .int 0, .int 0, .null, .null, .int 0, .int 0, .null, .null, .null, .null, .null])), (a_moR, .inl (cI, 7, .inl (fun _ => 0))), (a_moK, .inl (cZ, 5, .inl (fun _ => 0))), (a_moH, .inl (cI, 81920, .inl (fun _ => 0)))] H := hP
  replace hD : va_D A [(a_mo, .inr (7, [.ref a_moR, .int 0, .int 0, .int 0, .int 0, .int 0, .int 0, .int 0, .int 0, .long 0, .ref a_moK, .null, .null, .int 0, .int 0, .int 0, .null, .null, .int 0, .int 0, .null, .null, .null, .null, .null])), (a_moR, .inl (cI, 7, .inl (fun _ => 0))), (a_moK, .inl (cZ, 5, .inl (fun _ => 0))), (a_moH, .inl (cI, 81920, .inl (fun _ => 0)))] := hD
  refine W.widen (k := 3) (n := 81932) (Nat.le_of_ble_eq_true rfl) (Nat.le_of_ble_eq_true rfl) ?_
  refine va_putF (D := D) (ci := 7) (v := .ref a_moH) (ty := .array .int) (C := RX8) (T := TX8) (N := 25) hx hb hts inlX8 tyX8 tyX8_ok nmX8 hown hK hP hD hS 0 rfl rfl 11 (by decide) (hts _ wl_102) (fun _ h9 => h9) rfl hin rfl (by decide +kernel) rfl rfl (Nat.le_of_ble_eq_true rfl) dX8_init_24 (fun H locs hP hD hS => ?_)
  replace hP : va_P D vwCl [(a_mo, .inr (7, [.ref a_moR, .int 0, .int 0, .int 0, .int 0, .int 0, .int 0, .int 0, .int 0, .long 0, .ref a_moK, .ref a_moH, .null, .int 0, .int 0, .int 0, .null, .null, .int 0, .int 0, .null, .null, .null, .null, .null])), (a_moR, .inl (cI, 7, .inl (fun _ => 0))), (a_moK, .inl (cZ, 5, .inl (fun _ => 0))), (a_moH, .inl (cI, 81920, .inl (fun _ => 0)))] H := hP
  replace hD : va_D A [(a_mo, .inr (7, [.ref a_moR, .int 0, .int 0, .int 0, .int 0, .int 0, .int 0, .int 0, .int 0, .long 0, .ref a_moK, .ref a_moH, .null, .int 0, .int 0, .int 0, .null, .null, .int 0, .int 0, .null, .null, .null, .null, .null])), (a_moR, .inl (cI, 7, .inl (fun _ => 0))), (a_moK, .inl (cZ, 5, .inl (fun _ => 0))), (a_moH, .inl (cI, 81920, .inl (fun _ => 0)))] := hD
  refine lv_aload_n hx hb dX8_init_27 rfl (lv_at hl 0 rfl) ?_
  refine lv_ldc (v := 81920) hx hb hown (hts _ wl_101) dX8_init_28 ?_
  refine va_newa hx hb (hts _ wl_36) rfl hK hP hD hS hA (n := 81920) (N' := 81920) (a0 := (81920, .inl (fun _ => 0))) (fun _ => rfl) (by decide) (by decide) (by decide) (hRc _ (Nat.le_of_ble_eq_true rfl)) (hRs _ (Nat.le_of_ble_eq_true rfl)) dX8_init_30 (fun a_moS cA H hK2 hP hD hS => ?_)
  obtain rfl := cls_i hK2
  replace hP : va_P D vwCl [(a_mo, .inr (7, [.ref a_moR, .int 0, .int 0, .int 0, .int 0, .int 0, .int 0, .int 0, .int 0, .long 0, .ref a_moK, .ref a_moH, .null, .int 0, .int 0, .int 0, .null, .null, .int 0, .int 0, .null, .null, .null, .null, .null])), (a_moR, .inl (cI, 7, .inl (fun _ => 0))), (a_moK, .inl (cZ, 5, .inl (fun _ => 0))), (a_moH, .inl (cI, 81920, .inl (fun _ => 0))), (a_moS, .inl (cI, 81920, .inl (fun _ => 0)))] H := hP
  replace hD : va_D A [(a_mo, .inr (7, [.ref a_moR, .int 0, .int 0, .int 0, .int 0, .int 0, .int 0, .int 0, .int 0, .long 0, .ref a_moK, .ref a_moH, .null, .int 0, .int 0, .int 0, .null, .null, .int 0, .int 0, .null, .null, .null, .null, .null])), (a_moR, .inl (cI, 7, .inl (fun _ => 0))), (a_moK, .inl (cZ, 5, .inl (fun _ => 0))), (a_moH, .inl (cI, 81920, .inl (fun _ => 0))), (a_moS, .inl (cI, 81920, .inl (fun _ => 0)))] := hD
  refine W.widen (k := 4) (n := 163852) (Nat.le_of_ble_eq_true rfl) (Nat.le_of_ble_eq_true rfl) ?_
  refine va_putF (D := D) (ci := 7) (v := .ref a_moS) (ty := .array .int) (C := RX8) (T := TX8) (N := 25) hx hb hts inlX8 tyX8 tyX8_ok nmX8 hown hK hP hD hS 0 rfl rfl 12 (by decide) (hts _ wl_103) (fun _ h9 => h9) rfl hin rfl (by decide +kernel) rfl rfl (Nat.le_of_ble_eq_true rfl) dX8_init_32 (fun H locs hP hD hS => ?_)
  replace hP : va_P D vwCl [(a_mo, .inr (7, [.ref a_moR, .int 0, .int 0, .int 0, .int 0, .int 0, .int 0, .int 0, .int 0, .long 0, .ref a_moK, .ref a_moH, .ref a_moS, .int 0, .int 0, .int 0, .null, .null, .int 0, .int 0, .null, .null, .null, .null, .null])), (a_moR, .inl (cI, 7, .inl (fun _ => 0))), (a_moK, .inl (cZ, 5, .inl (fun _ => 0))), (a_moH, .inl (cI, 81920, .inl (fun _ => 0))), (a_moS, .inl (cI, 81920, .inl (fun _ => 0)))] H := hP
  replace hD : va_D A [(a_mo, .inr (7, [.ref a_moR, .int 0, .int 0, .int 0, .int 0, .int 0, .int 0, .int 0, .int 0, .long 0, .ref a_moK, .ref a_moH, .ref a_moS, .int 0, .int 0, .int 0, .null, .null, .int 0, .int 0, .null, .null, .null, .null, .null])), (a_moR, .inl (cI, 7, .inl (fun _ => 0))), (a_moK, .inl (cZ, 5, .inl (fun _ => 0))), (a_moH, .inl (cI, 81920, .inl (fun _ => 0))), (a_moS, .inl (cI, 81920, .inl (fun _ => 0)))] := hD
  refine lv_aload_n hx hb dX8_init_35 rfl (lv_at hl 0 rfl) ?_
  refine lv_sipush (v := 16384) hx hb dX8_init_36 (by decide) ?_
  refine va_newa hx hb (hts _ wl_36) rfl hK hP hD hS hA (n := 16384) (N' := 16384) (a0 := (16384, .inl (fun _ => 0))) (fun _ => rfl) (by decide) (by decide) (by decide) (hRc _ (Nat.le_of_ble_eq_true rfl)) (hRs _ (Nat.le_of_ble_eq_true rfl)) dX8_init_39 (fun a_moF cA H hK2 hP hD hS => ?_)
  obtain rfl := cls_i hK2
  replace hP : va_P D vwCl [(a_mo, .inr (7, [.ref a_moR, .int 0, .int 0, .int 0, .int 0, .int 0, .int 0, .int 0, .int 0, .long 0, .ref a_moK, .ref a_moH, .ref a_moS, .int 0, .int 0, .int 0, .null, .null, .int 0, .int 0, .null, .null, .null, .null, .null])), (a_moR, .inl (cI, 7, .inl (fun _ => 0))), (a_moK, .inl (cZ, 5, .inl (fun _ => 0))), (a_moH, .inl (cI, 81920, .inl (fun _ => 0))), (a_moS, .inl (cI, 81920, .inl (fun _ => 0))), (a_moF, .inl (cI, 16384, .inl (fun _ => 0)))] H := hP
  replace hD : va_D A [(a_mo, .inr (7, [.ref a_moR, .int 0, .int 0, .int 0, .int 0, .int 0, .int 0, .int 0, .int 0, .long 0, .ref a_moK, .ref a_moH, .ref a_moS, .int 0, .int 0, .int 0, .null, .null, .int 0, .int 0, .null, .null, .null, .null, .null])), (a_moR, .inl (cI, 7, .inl (fun _ => 0))), (a_moK, .inl (cZ, 5, .inl (fun _ => 0))), (a_moH, .inl (cI, 81920, .inl (fun _ => 0))), (a_moS, .inl (cI, 81920, .inl (fun _ => 0))), (a_moF, .inl (cI, 16384, .inl (fun _ => 0)))] := hD
  refine W.widen (k := 5) (n := 180236) (Nat.le_of_ble_eq_true rfl) (Nat.le_of_ble_eq_true rfl) ?_
  refine va_putF (D := D) (ci := 7) (v := .ref a_moF) (ty := .array .int) (C := RX8) (T := TX8) (N := 25) hx hb hts inlX8 tyX8 tyX8_ok nmX8 hown hK hP hD hS 0 rfl rfl 16 (by decide) (hts _ wl_104) (fun _ h9 => h9) rfl hin rfl (by decide +kernel) rfl rfl (Nat.le_of_ble_eq_true rfl) dX8_init_41 (fun H locs hP hD hS => ?_)
  replace hP : va_P D vwCl [(a_mo, .inr (7, [.ref a_moR, .int 0, .int 0, .int 0, .int 0, .int 0, .int 0, .int 0, .int 0, .long 0, .ref a_moK, .ref a_moH, .ref a_moS, .int 0, .int 0, .int 0, .ref a_moF, .null, .int 0, .int 0, .null, .null, .null, .null, .null])), (a_moR, .inl (cI, 7, .inl (fun _ => 0))), (a_moK, .inl (cZ, 5, .inl (fun _ => 0))), (a_moH, .inl (cI, 81920, .inl (fun _ => 0))), (a_moS, .inl (cI, 81920, .inl (fun _ => 0))), (a_moF, .inl (cI, 16384, .inl (fun _ => 0)))] H := hP
  replace hD : va_D A [(a_mo, .inr (7, [.ref a_moR, .int 0, .int 0, .int 0, .int 0, .int 0, .int 0, .int 0, .int 0, .long 0, .ref a_moK, .ref a_moH, .ref a_moS, .int 0, .int 0, .int 0, .ref a_moF, .null, .int 0, .int 0, .null, .null, .null, .null, .null])), (a_moR, .inl (cI, 7, .inl (fun _ => 0))), (a_moK, .inl (cZ, 5, .inl (fun _ => 0))), (a_moH, .inl (cI, 81920, .inl (fun _ => 0))), (a_moS, .inl (cI, 81920, .inl (fun _ => 0))), (a_moF, .inl (cI, 16384, .inl (fun _ => 0)))] := hD
  refine lv_aload_n hx hb dX8_init_44 rfl (lv_at hl 0 rfl) ?_
  refine lv_sipush (v := 16384) hx hb dX8_init_45 (by decide) ?_
  refine va_newa hx hb (hts _ wl_36) rfl hK hP hD hS hA (n := 16384) (N' := 16384) (a0 := (16384, .inl (fun _ => 0))) (fun _ => rfl) (by decide) (by decide) (by decide) (hRc _ (Nat.le_of_ble_eq_true rfl)) (hRs _ (Nat.le_of_ble_eq_true rfl)) dX8_init_48 (fun a_moT cA H hK2 hP hD hS => ?_)
  obtain rfl := cls_i hK2
  replace hP : va_P D vwCl [(a_mo, .inr (7, [.ref a_moR, .int 0, .int 0, .int 0, .int 0, .int 0, .int 0, .int 0, .int 0, .long 0, .ref a_moK, .ref a_moH, .ref a_moS, .int 0, .int 0, .int 0, .ref a_moF, .null, .int 0, .int 0, .null, .null, .null, .null, .null])), (a_moR, .inl (cI, 7, .inl (fun _ => 0))), (a_moK, .inl (cZ, 5, .inl (fun _ => 0))), (a_moH, .inl (cI, 81920, .inl (fun _ => 0))), (a_moS, .inl (cI, 81920, .inl (fun _ => 0))), (a_moF, .inl (cI, 16384, .inl (fun _ => 0))), (a_moT, .inl (cI, 16384, .inl (fun _ => 0)))] H := hP
  replace hD : va_D A [(a_mo, .inr (7, [.ref a_moR, .int 0, .int 0, .int 0, .int 0, .int 0, .int 0, .int 0, .int 0, .long 0, .ref a_moK, .ref a_moH, .ref a_moS, .int 0, .int 0, .int 0, .ref a_moF, .null, .int 0, .int 0, .null, .null, .null, .null, .null])), (a_moR, .inl (cI, 7, .inl (fun _ => 0))), (a_moK, .inl (cZ, 5, .inl (fun _ => 0))), (a_moH, .inl (cI, 81920, .inl (fun _ => 0))), (a_moS, .inl (cI, 81920, .inl (fun _ => 0))), (a_moF, .inl (cI, 16384, .inl (fun _ => 0))), (a_moT, .inl (cI, 16384, .inl (fun _ => 0)))] := hD
  refine W.widen (k := 6) (n := 196620) (Nat.le_of_ble_eq_true rfl) (Nat.le_of_ble_eq_true rfl) ?_
  refine va_putF (D := D) (ci := 7) (v := .ref a_moT) (ty := .array .int) (C := RX8) (T := TX8) (N := 25) hx hb hts inlX8 tyX8 tyX8_ok nmX8 hown hK hP hD hS 0 rfl rfl 17 (by decide) (hts _ wl_105) (fun _ h9 => h9) rfl hin rfl (by decide +kernel) rfl rfl (Nat.le_of_ble_eq_true rfl) dX8_init_50 (fun H locs hP hD hS => ?_)
  replace hP : va_P D vwCl [(a_mo, .inr (7, [.ref a_moR, .int 0, .int 0, .int 0, .int 0, .int 0, .int 0, .int 0, .int 0, .long 0, .ref a_moK, .ref a_moH, .ref a_moS, .int 0, .int 0, .int 0, .ref a_moF, .ref a_moT, .int 0, .int 0, .null, .null, .null, .null, .null])), (a_moR, .inl (cI, 7, .inl (fun _ => 0))), (a_moK, .inl (cZ, 5, .inl (fun _ => 0))), (a_moH, .inl (cI, 81920, .inl (fun _ => 0))), (a_moS, .inl (cI, 81920, .inl (fun _ => 0))), (a_moF, .inl (cI, 16384, .inl (fun _ => 0))), (a_moT, .inl (cI, 16384, .inl (fun _ => 0)))] H := hP
  replace hD : va_D A [(a_mo, .inr (7, [.ref a_moR, .int 0, .int 0, .int 0, .int 0, .int 0, .int 0, .int 0, .int 0, .long 0, .ref a_moK, .ref a_moH, .ref a_moS, .int 0, .int 0, .int 0, .ref a_moF, .ref a_moT, .int 0, .int 0, .null, .null, .null, .null, .null])), (a_moR, .inl (cI, 7, .inl (fun _ => 0))), (a_moK, .inl (cZ, 5, .inl (fun _ => 0))), (a_moH, .inl (cI, 81920, .inl (fun _ => 0))), (a_moS, .inl (cI, 81920, .inl (fun _ => 0))), (a_moF, .inl (cI, 16384, .inl (fun _ => 0))), (a_moT, .inl (cI, 16384, .inl (fun _ => 0)))] := hD
  refine lv_aload_n hx hb dX8_init_53 rfl (lv_at hl 0 rfl) ?_
  refine lv_sipush (v := 256) hx hb dX8_init_54 (by decide) ?_
  refine va_newa hx hb (hts _ wl_36) rfl hK hP hD hS hA (n := 256) (N' := 256) (a0 := (256, .inl (fun _ => 0))) (fun _ => rfl) (by decide) (by decide) (by decide) (hRc _ (Nat.le_of_ble_eq_true rfl)) (hRs _ (Nat.le_of_ble_eq_true rfl)) dX8_init_57 (fun a_moP cA H hK2 hP hD hS => ?_)
  obtain rfl := cls_i hK2
  replace hP : va_P D vwCl [(a_mo, .inr (7, [.ref a_moR, .int 0, .int 0, .int 0, .int 0, .int 0, .int 0, .int 0, .int 0, .long 0, .ref a_moK, .ref a_moH, .ref a_moS, .int 0, .int 0, .int 0, .ref a_moF, .ref a_moT, .int 0, .int 0, .null, .null, .null, .null, .null])), (a_moR, .inl (cI, 7, .inl (fun _ => 0))), (a_moK, .inl (cZ, 5, .inl (fun _ => 0))), (a_moH, .inl (cI, 81920, .inl (fun _ => 0))), (a_moS, .inl (cI, 81920, .inl (fun _ => 0))), (a_moF, .inl (cI, 16384, .inl (fun _ => 0))), (a_moT, .inl (cI, 16384, .inl (fun _ => 0))), (a_moP, .inl (cI, 256, .inl (fun _ => 0)))] H := hP
  replace hD : va_D A [(a_mo, .inr (7, [.ref a_moR, .int 0, .int 0, .int 0, .int 0, .int 0, .int 0, .int 0, .int 0, .long 0, .ref a_moK, .ref a_moH, .ref a_moS, .int 0, .int 0, .int 0, .ref a_moF, .ref a_moT, .int 0, .int 0, .null, .null, .null, .null, .null])), (a_moR, .inl (cI, 7, .inl (fun _ => 0))), (a_moK, .inl (cZ, 5, .inl (fun _ => 0))), (a_moH, .inl (cI, 81920, .inl (fun _ => 0))), (a_moS, .inl (cI, 81920, .inl (fun _ => 0))), (a_moF, .inl (cI, 16384, .inl (fun _ => 0))), (a_moT, .inl (cI, 16384, .inl (fun _ => 0))), (a_moP, .inl (cI, 256, .inl (fun _ => 0)))] := hD
  refine W.widen (k := 7) (n := 196876) (Nat.le_of_ble_eq_true rfl) (Nat.le_of_ble_eq_true rfl) ?_
  refine va_putF (D := D) (ci := 7) (v := .ref a_moP) (ty := .array .int) (C := RX8) (T := TX8) (N := 25) hx hb hts inlX8 tyX8 tyX8_ok nmX8 hown hK hP hD hS 0 rfl rfl 20 (by decide) (hts _ wl_106) (fun _ h9 => h9) rfl hin rfl (by decide +kernel) rfl rfl (Nat.le_of_ble_eq_true rfl) dX8_init_59 (fun H locs hP hD hS => ?_)
  replace hP : va_P D vwCl [(a_mo, .inr (7, [.ref a_moR, .int 0, .int 0, .int 0, .int 0, .int 0, .int 0, .int 0, .int 0, .long 0, .ref a_moK, .ref a_moH, .ref a_moS, .int 0, .int 0, .int 0, .ref a_moF, .ref a_moT, .int 0, .int 0, .ref a_moP, .null, .null, .null, .null])), (a_moR, .inl (cI, 7, .inl (fun _ => 0))), (a_moK, .inl (cZ, 5, .inl (fun _ => 0))), (a_moH, .inl (cI, 81920, .inl (fun _ => 0))), (a_moS, .inl (cI, 81920, .inl (fun _ => 0))), (a_moF, .inl (cI, 16384, .inl (fun _ => 0))), (a_moT, .inl (cI, 16384, .inl (fun _ => 0))), (a_moP, .inl (cI, 256, .inl (fun _ => 0)))] H := hP
  replace hD : va_D A [(a_mo, .inr (7, [.ref a_moR, .int 0, .int 0, .int 0, .int 0, .int 0, .int 0, .int 0, .int 0, .long 0, .ref a_moK, .ref a_moH, .ref a_moS, .int 0, .int 0, .int 0, .ref a_moF, .ref a_moT, .int 0, .int 0, .ref a_moP, .null, .null, .null, .null])), (a_moR, .inl (cI, 7, .inl (fun _ => 0))), (a_moK, .inl (cZ, 5, .inl (fun _ => 0))), (a_moH, .inl (cI, 81920, .inl (fun _ => 0))), (a_moS, .inl (cI, 81920, .inl (fun _ => 0))), (a_moF, .inl (cI, 16384, .inl (fun _ => 0))), (a_moT, .inl (cI, 16384, .inl (fun _ => 0))), (a_moP, .inl (cI, 256, .inl (fun _ => 0)))] := hD
  refine lv_aload_n hx hb dX8_init_62 rfl (lv_at hl 0 rfl) ?_
  refine lv_sipush (v := 256) hx hb dX8_init_63 (by decide) ?_
  refine va_newa hx hb (hts _ wl_36) rfl hK hP hD hS hA (n := 256) (N' := 256) (a0 := (256, .inl (fun _ => 0))) (fun _ => rfl) (by decide) (by decide) (by decide) (hRc _ (Nat.le_of_ble_eq_true rfl)) (hRs _ (Nat.le_of_ble_eq_true rfl)) dX8_init_66 (fun a_moQ cA H hK2 hP hD hS => ?_)
  obtain rfl := cls_i hK2
  replace hP : va_P D vwCl [(a_mo, .inr (7, [.ref a_moR, .int 0, .int 0, .int 0, .int 0, .int 0, .int 0, .int 0, .int 0, .long 0, .ref a_moK, .ref a_moH, .ref a_moS, .int 0, .int 0, .int 0, .ref a_moF, .ref a_moT, .int 0, .int 0, .ref a_moP, .null, .null, .null, .null])), (a_moR, .inl (cI, 7, .inl (fun _ => 0))), (a_moK, .inl (cZ, 5, .inl (fun _ => 0))), (a_moH, .inl (cI, 81920, .inl (fun _ => 0))), (a_moS, .inl (cI, 81920, .inl (fun _ => 0))), (a_moF, .inl (cI, 16384, .inl (fun _ => 0))), (a_moT, .inl (cI, 16384, .inl (fun _ => 0))), (a_moP, .inl (cI, 256, .inl (fun _ => 0))), (a_moQ, .inl (cI, 256, .inl (fun _ => 0)))] H := hP
  replace hD : va_D A [(a_mo, .inr (7, [.ref a_moR, .int 0, .int 0, .int 0, .int 0, .int 0, .int 0, .int 0, .int 0, .long 0, .ref a_moK, .ref a_moH, .ref a_moS, .int 0, .int 0, .int 0, .ref a_moF, .ref a_moT, .int 0, .int 0, .ref a_moP, .null, .null, .null, .null])), (a_moR, .inl (cI, 7, .inl (fun _ => 0))), (a_moK, .inl (cZ, 5, .inl (fun _ => 0))), (a_moH, .inl (cI, 81920, .inl (fun _ => 0))), (a_moS, .inl (cI, 81920, .inl (fun _ => 0))), (a_moF, .inl (cI, 16384, .inl (fun _ => 0))), (a_moT, .inl (cI, 16384, .inl (fun _ => 0))), (a_moP, .inl (cI, 256, .inl (fun _ => 0))), (a_moQ, .inl (cI, 256, .inl (fun _ => 0)))] := hD
  refine W.widen (k := 8) (n := 197132) (Nat.le_of_ble_eq_true rfl) (Nat.le_of_ble_eq_true rfl) ?_
  refine va_putF (D := D) (ci := 7) (v := .ref a_moQ) (ty := .array .int) (C := RX8) (T := TX8) (N := 25) hx hb hts inlX8 tyX8 tyX8_ok nmX8 hown hK hP hD hS 0 rfl rfl 21 (by decide) (hts _ wl_107) (fun _ h9 => h9) rfl hin rfl (by decide +kernel) rfl rfl (Nat.le_of_ble_eq_true rfl) dX8_init_68 (fun H locs hP hD hS => ?_)
  replace hP : va_P D vwCl [(a_mo, .inr (7, [.ref a_moR, .int 0, .int 0, .int 0, .int 0, .int 0, .int 0, .int 0, .int 0, .long 0, .ref a_moK, .ref a_moH, .ref a_moS, .int 0, .int 0, .int 0, .ref a_moF, .ref a_moT, .int 0, .int 0, .ref a_moP, .ref a_moQ, .null, .null, .null])), (a_moR, .inl (cI, 7, .inl (fun _ => 0))), (a_moK, .inl (cZ, 5, .inl (fun _ => 0))), (a_moH, .inl (cI, 81920, .inl (fun _ => 0))), (a_moS, .inl (cI, 81920, .inl (fun _ => 0))), (a_moF, .inl (cI, 16384, .inl (fun _ => 0))), (a_moT, .inl (cI, 16384, .inl (fun _ => 0))), (a_moP, .inl (cI, 256, .inl (fun _ => 0))), (a_moQ, .inl (cI, 256, .inl (fun _ => 0)))] H := hP
  replace hD : va_D A [(a_mo, .inr (7, [.ref a_moR, .int 0, .int 0, .int 0, .int 0, .int 0, .int 0, .int 0, .int 0, .long 0, .ref a_moK, .ref a_moH, .ref a_moS, .int 0, .int 0, .int 0, .ref a_moF, .ref a_moT, .int 0, .int 0, .ref a_moP, .ref a_moQ, .null, .null, .null])), (a_moR, .inl (cI, 7, .inl (fun _ => 0))), (a_moK, .inl (cZ, 5, .inl (fun _ => 0))), (a_moH, .inl (cI, 81920, .inl (fun _ => 0))), (a_moS, .inl (cI, 81920, .inl (fun _ => 0))), (a_moF, .inl (cI, 16384, .inl (fun _ => 0))), (a_moT, .inl (cI, 16384, .inl (fun _ => 0))), (a_moP, .inl (cI, 256, .inl (fun _ => 0))), (a_moQ, .inl (cI, 256, .inl (fun _ => 0)))] := hD
  refine lv_aload_n hx hb dX8_init_71 rfl (lv_at hl 0 rfl) ?_
  refine lv_sipush (v := 256) hx hb dX8_init_72 (by decide) ?_
  refine va_newa hx hb (hts _ wl_108) rfl hK hP hD hS hA (n := 256) (N' := 256) (a0 := (256, .inr (.inl (fun _ => 0)))) (fun _ => rfl) (by decide) (by decide) (by decide) (hRc _ (Nat.le_of_ble_eq_true rfl)) (hRs _ (Nat.le_of_ble_eq_true rfl)) dX8_init_75 (fun a_moA cA H hK2 hP hD hS => ?_)
  obtain rfl := cls_j hK2
  replace hP : va_P D vwCl [(a_mo, .inr (7, [.ref a_moR, .int 0, .int 0, .int 0, .int 0, .int 0, .int 0, .int 0, .int 0, .long 0, .ref a_moK, .ref a_moH, .ref a_moS, .int 0, .int 0, .int 0, .ref a_moF, .ref a_moT, .int 0, .int 0, .ref a_moP, .ref a_moQ, .null, .null, .null])), (a_moR, .inl (cI, 7, .inl (fun _ => 0))), (a_moK, .inl (cZ, 5, .inl (fun _ => 0))), (a_moH, .inl (cI, 81920, .inl (fun _ => 0))), (a_moS, .inl (cI, 81920, .inl (fun _ => 0))), (a_moF, .inl (cI, 16384, .inl (fun _ => 0))), (a_moT, .inl (cI, 16384, .inl (fun _ => 0))), (a_moP, .inl (cI, 256, .inl (fun _ => 0))), (a_moQ, .inl (cI, 256, .inl (fun _ => 0))), (a_moA, .inl (cJ, 256, .inr (.inl (fun _ => 0))))] H := hP
  replace hD : va_D A [(a_mo, .inr (7, [.ref a_moR, .int 0, .int 0, .int 0, .int 0, .int 0, .int 0, .int 0, .int 0, .long 0, .ref a_moK, .ref a_moH, .ref a_moS, .int 0, .int 0, .int 0, .ref a_moF, .ref a_moT, .int 0, .int 0, .ref a_moP, .ref a_moQ, .null, .null, .null])), (a_moR, .inl (cI, 7, .inl (fun _ => 0))), (a_moK, .inl (cZ, 5, .inl (fun _ => 0))), (a_moH, .inl (cI, 81920, .inl (fun _ => 0))), (a_moS, .inl (cI, 81920, .inl (fun _ => 0))), (a_moF, .inl (cI, 16384, .inl (fun _ => 0))), (a_moT, .inl (cI, 16384, .inl (fun _ => 0))), (a_moP, .inl (cI, 256, .inl (fun _ => 0))), (a_moQ, .inl (cI, 256, .inl (fun _ => 0))), (a_moA, .inl (cJ, 256, .inr (.inl (fun _ => 0))))] := hD
  refine W.widen (k := 9) (n := 197388) (Nat.le_of_ble_eq_true rfl) (Nat.le_of_ble_eq_true rfl) ?_
  refine va_putF (D := D) (ci := 7) (v := .ref a_moA) (ty := .array .long) (C := RX8) (T := TX8) (N := 25) hx hb hts inlX8 tyX8 tyX8_ok nmX8 hown hK hP hD hS 0 rfl rfl 22 (by decide) (hts _ wl_109) (fun _ h9 => h9) rfl hin rfl (by decide +kernel) rfl rfl (Nat.le_of_ble_eq_true rfl) dX8_init_77 (fun H locs hP hD hS => ?_)
  replace hP : va_P D vwCl [(a_mo, .inr (7, [.ref a_moR, .int 0, .int 0, .int 0, .int 0, .int 0, .int 0, .int 0, .int 0, .long 0, .ref a_moK, .ref a_moH, .ref a_moS, .int 0, .int 0, .int 0, .ref a_moF, .ref a_moT, .int 0, .int 0, .ref a_moP, .ref a_moQ, .ref a_moA, .null, .null])), (a_moR, .inl (cI, 7, .inl (fun _ => 0))), (a_moK, .inl (cZ, 5, .inl (fun _ => 0))), (a_moH, .inl (cI, 81920, .inl (fun _ => 0))), (a_moS, .inl (cI, 81920, .inl (fun _ => 0))), (a_moF, .inl (cI, 16384, .inl (fun _ => 0))), (a_moT, .inl (cI, 16384, .inl (fun _ => 0))), (a_moP, .inl (cI, 256, .inl (fun _ => 0))), (a_moQ, .inl (cI, 256, .inl (fun _ => 0))), (a_moA, .inl (cJ, 256, .inr (.inl (fun _ => 0))))] H := hP
  replace hD : va_D A [(a_mo, .inr (7, [.ref a_moR, .int 0, .int 0, .int 0, .int 0, .int 0, .int 0, .int 0, .int 0, .long 0, .ref a_moK, .ref a_moH, .ref a_moS, .int 0, .int 0, .int 0, .ref a_moF, .ref a_moT, .int 0, .int 0, .ref a_moP, .ref a_moQ, .ref a_moA, .null, .null])), (a_moR, .inl (cI, 7, .inl (fun _ => 0))), (a_moK, .inl (cZ, 5, .inl (fun _ => 0))), (a_moH, .inl (cI, 81920, .inl (fun _ => 0))), (a_moS, .inl (cI, 81920, .inl (fun _ => 0))), (a_moF, .inl (cI, 16384, .inl (fun _ => 0))), (a_moT, .inl (cI, 16384, .inl (fun _ => 0))), (a_moP, .inl (cI, 256, .inl (fun _ => 0))), (a_moQ, .inl (cI, 256, .inl (fun _ => 0))), (a_moA, .inl (cJ, 256, .inr (.inl (fun _ => 0))))] := hD
  refine lv_aload_n hx hb dX8_init_80 rfl (lv_at hl 0 rfl) ?_
  refine lv_sipush (v := 256) hx hb dX8_init_81 (by decide) ?_
  refine va_newa hx hb (hts _ wl_108) rfl hK hP hD hS hA (n := 256) (N' := 256) (a0 := (256, .inr (.inl (fun _ => 0)))) (fun _ => rfl) (by decide) (by decide) (by decide) (hRc _ (Nat.le_of_ble_eq_true rfl)) (hRs _ (Nat.le_of_ble_eq_true rfl)) dX8_init_84 (fun a_moB cA H hK2 hP hD hS => ?_)
  obtain rfl := cls_j hK2
  replace hP : va_P D vwCl [(a_mo, .inr (7, [.ref a_moR, .int 0, .int 0, .int 0, .int 0, .int 0, .int 0, .int 0, .int 0, .long 0, .ref a_moK, .ref a_moH, .ref a_moS, .int 0, .int 0, .int 0, .ref a_moF, .ref a_moT, .int 0, .int 0, .ref a_moP, .ref a_moQ, .ref a_moA, .null, .null])), (a_moR, .inl (cI, 7, .inl (fun _ => 0))), (a_moK, .inl (cZ, 5, .inl (fun _ => 0))), (a_moH, .inl (cI, 81920, .inl (fun _ => 0))), (a_moS, .inl (cI, 81920, .inl (fun _ => 0))), (a_moF, .inl (cI, 16384, .inl (fun _ => 0))), (a_moT, .inl (cI, 16384, .inl (fun _ => 0))), (a_moP, .inl (cI, 256, .inl (fun _ => 0))), (a_moQ, .inl (cI, 256, .inl (fun _ => 0))), (a_moA, .inl (cJ, 256, .inr (.inl (fun _ => 0)))), (a_moB, .inl (cJ, 256, .inr (.inl (fun _ => 0))))] H := hP
  replace hD : va_D A [(a_mo, .inr (7, [.ref a_moR, .int 0, .int 0, .int 0, .int 0, .int 0, .int 0, .int 0, .int 0, .long 0, .ref a_moK, .ref a_moH, .ref a_moS, .int 0, .int 0, .int 0, .ref a_moF, .ref a_moT, .int 0, .int 0, .ref a_moP, .ref a_moQ, .ref a_moA, .null, .null])), (a_moR, .inl (cI, 7, .inl (fun _ => 0))), (a_moK, .inl (cZ, 5, .inl (fun _ => 0))), (a_moH, .inl (cI, 81920, .inl (fun _ => 0))), (a_moS, .inl (cI, 81920, .inl (fun _ => 0))), (a_moF, .inl (cI, 16384, .inl (fun _ => 0))), (a_moT, .inl (cI, 16384, .inl (fun _ => 0))), (a_moP, .inl (cI, 256, .inl (fun _ => 0))), (a_moQ, .inl (cI, 256, .inl (fun _ => 0))), (a_moA, .inl (cJ, 256, .inr (.inl (fun _ => 0)))), (a_moB, .inl (cJ, 256, .inr (.inl (fun _ => 0))))] := hD
  refine W.widen (k := 10) (n := 197644) (Nat.le_of_ble_eq_true rfl) (Nat.le_of_ble_eq_true rfl) ?_
  refine va_putF (D := D) (ci := 7) (v := .ref a_moB) (ty := .array .long) (C := RX8) (T := TX8) (N := 25) hx hb hts inlX8 tyX8 tyX8_ok nmX8 hown hK hP hD hS 0 rfl rfl 23 (by decide) (hts _ wl_110) (fun _ h9 => h9) rfl hin rfl (by decide +kernel) rfl rfl (Nat.le_of_ble_eq_true rfl) dX8_init_86 (fun H locs hP hD hS => ?_)
  replace hP : va_P D vwCl [(a_mo, .inr (7, [.ref a_moR, .int 0, .int 0, .int 0, .int 0, .int 0, .int 0, .int 0, .int 0, .long 0, .ref a_moK, .ref a_moH, .ref a_moS, .int 0, .int 0, .int 0, .ref a_moF, .ref a_moT, .int 0, .int 0, .ref a_moP, .ref a_moQ, .ref a_moA, .ref a_moB, .null])), (a_moR, .inl (cI, 7, .inl (fun _ => 0))), (a_moK, .inl (cZ, 5, .inl (fun _ => 0))), (a_moH, .inl (cI, 81920, .inl (fun _ => 0))), (a_moS, .inl (cI, 81920, .inl (fun _ => 0))), (a_moF, .inl (cI, 16384, .inl (fun _ => 0))), (a_moT, .inl (cI, 16384, .inl (fun _ => 0))), (a_moP, .inl (cI, 256, .inl (fun _ => 0))), (a_moQ, .inl (cI, 256, .inl (fun _ => 0))), (a_moA, .inl (cJ, 256, .inr (.inl (fun _ => 0)))), (a_moB, .inl (cJ, 256, .inr (.inl (fun _ => 0))))] H := hP
  replace hD : va_D A [(a_mo, .inr (7, [.ref a_moR, .int 0, .int 0, .int 0, .int 0, .int 0, .int 0, .int 0, .int 0, .long 0, .ref a_moK, .ref a_moH, .ref a_moS, .int 0, .int 0, .int 0, .ref a_moF, .ref a_moT, .int 0, .int 0, .ref a_moP, .ref a_moQ, .ref a_moA, .ref a_moB, .null])), (a_moR, .inl (cI, 7, .inl (fun _ => 0))), (a_moK, .inl (cZ, 5, .inl (fun _ => 0))), (a_moH, .inl (cI, 81920, .inl (fun _ => 0))), (a_moS, .inl (cI, 81920, .inl (fun _ => 0))), (a_moF, .inl (cI, 16384, .inl (fun _ => 0))), (a_moT, .inl (cI, 16384, .inl (fun _ => 0))), (a_moP, .inl (cI, 256, .inl (fun _ => 0))), (a_moQ, .inl (cI, 256, .inl (fun _ => 0))), (a_moA, .inl (cJ, 256, .inr (.inl (fun _ => 0)))), (a_moB, .inl (cJ, 256, .inr (.inl (fun _ => 0))))] := hD
  refine lv_aload_n hx hb dX8_init_89 rfl (lv_at hl 0 rfl) ?_
  refine lv_sipush (v := 256) hx hb dX8_init_90 (by decide) ?_
  refine va_newa hx hb (hts _ wl_108) rfl hK hP hD hS hA (n := 256) (N' := 256) (a0 := (256, .inr (.inl (fun _ => 0)))) (fun _ => rfl) (by decide) (by decide) (by decide) (hRc _ (Nat.le_of_ble_eq_true rfl)) (hRs _ (Nat.le_of_ble_eq_true rfl)) dX8_init_93 (fun a_moD cA H hK2 hP hD hS => ?_)
  obtain rfl := cls_j hK2
  replace hP : va_P D vwCl [(a_mo, .inr (7, [.ref a_moR, .int 0, .int 0, .int 0, .int 0, .int 0, .int 0, .int 0, .int 0, .long 0, .ref a_moK, .ref a_moH, .ref a_moS, .int 0, .int 0, .int 0, .ref a_moF, .ref a_moT, .int 0, .int 0, .ref a_moP, .ref a_moQ, .ref a_moA, .ref a_moB, .null])), (a_moR, .inl (cI, 7, .inl (fun _ => 0))), (a_moK, .inl (cZ, 5, .inl (fun _ => 0))), (a_moH, .inl (cI, 81920, .inl (fun _ => 0))), (a_moS, .inl (cI, 81920, .inl (fun _ => 0))), (a_moF, .inl (cI, 16384, .inl (fun _ => 0))), (a_moT, .inl (cI, 16384, .inl (fun _ => 0))), (a_moP, .inl (cI, 256, .inl (fun _ => 0))), (a_moQ, .inl (cI, 256, .inl (fun _ => 0))), (a_moA, .inl (cJ, 256, .inr (.inl (fun _ => 0)))), (a_moB, .inl (cJ, 256, .inr (.inl (fun _ => 0)))), (a_moD, .inl (cJ, 256, .inr (.inl (fun _ => 0))))] H := hP
  replace hD : va_D A [(a_mo, .inr (7, [.ref a_moR, .int 0, .int 0, .int 0, .int 0, .int 0, .int 0, .int 0, .int 0, .long 0, .ref a_moK, .ref a_moH, .ref a_moS, .int 0, .int 0, .int 0, .ref a_moF, .ref a_moT, .int 0, .int 0, .ref a_moP, .ref a_moQ, .ref a_moA, .ref a_moB, .null])), (a_moR, .inl (cI, 7, .inl (fun _ => 0))), (a_moK, .inl (cZ, 5, .inl (fun _ => 0))), (a_moH, .inl (cI, 81920, .inl (fun _ => 0))), (a_moS, .inl (cI, 81920, .inl (fun _ => 0))), (a_moF, .inl (cI, 16384, .inl (fun _ => 0))), (a_moT, .inl (cI, 16384, .inl (fun _ => 0))), (a_moP, .inl (cI, 256, .inl (fun _ => 0))), (a_moQ, .inl (cI, 256, .inl (fun _ => 0))), (a_moA, .inl (cJ, 256, .inr (.inl (fun _ => 0)))), (a_moB, .inl (cJ, 256, .inr (.inl (fun _ => 0)))), (a_moD, .inl (cJ, 256, .inr (.inl (fun _ => 0))))] := hD
  refine W.widen (k := 11) (n := 197900) (Nat.le_of_ble_eq_true rfl) (Nat.le_of_ble_eq_true rfl) ?_
  refine va_putF (D := D) (ci := 7) (v := .ref a_moD) (ty := .array .long) (C := RX8) (T := TX8) (N := 25) hx hb hts inlX8 tyX8 tyX8_ok nmX8 hown hK hP hD hS 0 rfl rfl 24 (by decide) (hts _ wl_111) (fun _ h9 => h9) rfl hin rfl (by decide +kernel) rfl rfl (Nat.le_of_ble_eq_true rfl) dX8_init_95 (fun H locs hP hD hS => ?_)
  replace hP : va_P D vwCl [(a_mo, .inr (7, [.ref a_moR, .int 0, .int 0, .int 0, .int 0, .int 0, .int 0, .int 0, .int 0, .long 0, .ref a_moK, .ref a_moH, .ref a_moS, .int 0, .int 0, .int 0, .ref a_moF, .ref a_moT, .int 0, .int 0, .ref a_moP, .ref a_moQ, .ref a_moA, .ref a_moB, .ref a_moD])), (a_moR, .inl (cI, 7, .inl (fun _ => 0))), (a_moK, .inl (cZ, 5, .inl (fun _ => 0))), (a_moH, .inl (cI, 81920, .inl (fun _ => 0))), (a_moS, .inl (cI, 81920, .inl (fun _ => 0))), (a_moF, .inl (cI, 16384, .inl (fun _ => 0))), (a_moT, .inl (cI, 16384, .inl (fun _ => 0))), (a_moP, .inl (cI, 256, .inl (fun _ => 0))), (a_moQ, .inl (cI, 256, .inl (fun _ => 0))), (a_moA, .inl (cJ, 256, .inr (.inl (fun _ => 0)))), (a_moB, .inl (cJ, 256, .inr (.inl (fun _ => 0)))), (a_moD, .inl (cJ, 256, .inr (.inl (fun _ => 0))))] H := hP
  replace hD : va_D A [(a_mo, .inr (7, [.ref a_moR, .int 0, .int 0, .int 0, .int 0, .int 0, .int 0, .int 0, .int 0, .long 0, .ref a_moK, .ref a_moH, .ref a_moS, .int 0, .int 0, .int 0, .ref a_moF, .ref a_moT, .int 0, .int 0, .ref a_moP, .ref a_moQ, .ref a_moA, .ref a_moB, .ref a_moD])), (a_moR, .inl (cI, 7, .inl (fun _ => 0))), (a_moK, .inl (cZ, 5, .inl (fun _ => 0))), (a_moH, .inl (cI, 81920, .inl (fun _ => 0))), (a_moS, .inl (cI, 81920, .inl (fun _ => 0))), (a_moF, .inl (cI, 16384, .inl (fun _ => 0))), (a_moT, .inl (cI, 16384, .inl (fun _ => 0))), (a_moP, .inl (cI, 256, .inl (fun _ => 0))), (a_moQ, .inl (cI, 256, .inl (fun _ => 0))), (a_moA, .inl (cJ, 256, .inr (.inl (fun _ => 0)))), (a_moB, .inl (cJ, 256, .inr (.inl (fun _ => 0)))), (a_moD, .inl (cJ, 256, .inr (.inl (fun _ => 0))))] := hD
  refine lv_aload_n hx hb dX8_init_98 rfl (lv_at hl 0 rfl) ?_
  refine lv_iconst (v := 3) hx hb dX8_init_99 (by decide) ?_
  refine lv_iconst (v := 3) hx hb dX8_init_100 (by decide) ?_
  refine ca_Wv (b := a_mo) (As := [.int 3, .int 3]) (rest := []) (wr := [(a_moR, .inl (cI, 7, .inl (fun _ => 0))), (a_moH, .inl (cI, 81920, .inl (fun _ => 0))), (a_moS, .inl (cI, 81920, .inl (fun _ => 0))), (a_moF, .inl (cI, 16384, .inl (fun _ => 0))), (a_moT, .inl (cI, 16384, .inl (fun _ => 0))), (a_moP, .inl (cI, 256, .inl (fun _ => 0))), (a_moQ, .inl (cI, 256, .inl (fun _ => 0))), (a_moA, .inl (cJ, 256, .inr (.inl (fun _ => 0)))), (a_moB, .inl (cJ, 256, .inr (.inl (fun _ => 0)))), (a_moD, .inl (cJ, 256, .inr (.inl (fun _ => 0))))]) (wo := fun (u : (Int32) × (Int32) × (Int32) × (Int32) × (Int32) × (Int32) × (Int32) × (Int32) × (Nat → Int32)) => [(a_mo, .inr (7, [.ref a_moR, .int u.1, .int u.2.1, .int u.2.2.1, .int u.2.2.2.1, .int u.2.2.2.2.1, .int u.2.2.2.2.2.1, .int 0, .int 0, .long 0, .ref a_moK, .ref a_moH, .ref a_moS, .int u.2.2.2.2.2.2.1, .int 0, .int 0, .ref a_moF, .ref a_moT, .int u.2.2.2.2.2.2.2.1, .int 0, .ref a_moP, .ref a_moQ, .ref a_moA, .ref a_moB, .ref a_moD])), (a_moK, .inl (cZ, 5, .inl u.2.2.2.2.2.2.2.2))]) (wn := fun (u : (Int32) × (Int32) × (Int32) × (Int32) × (Int32) × (Int32) × (Int32) × (Int32) × (Nat → Int32)) => [(a_mo, .inr (7, [.ref a_moR, .int u.1, .int u.2.1, .int u.2.2.1, .int u.2.2.2.1, .int u.2.2.2.2.1, .int u.2.2.2.2.2.1, .int 0, .int 0, .long 0, .ref a_moK, .ref a_moH, .ref a_moS, .int u.2.2.2.2.2.2.1, .int 0, .int 0, .ref a_moF, .ref a_moT, .int u.2.2.2.2.2.2.2.1, .int 0, .ref a_moP, .ref a_moQ, .ref a_moA, .ref a_moB, .ref a_moD])), (a_moR, .inl (cI, 7, .inl (fun _ => 0))), (a_moK, .inl (cZ, 5, .inl u.2.2.2.2.2.2.2.2)), (a_moH, .inl (cI, 81920, .inl (fun _ => 0))), (a_moS, .inl (cI, 81920, .inl (fun _ => 0))), (a_moF, .inl (cI, 16384, .inl (fun _ => 0))), (a_moT, .inl (cI, 16384, .inl (fun _ => 0))), (a_moP, .inl (cI, 256, .inl (fun _ => 0))), (a_moQ, .inl (cI, 256, .inl (fun _ => 0))), (a_moA, .inl (cJ, 256, .inr (.inl (fun _ => 0)))), (a_moB, .inl (cJ, 256, .inr (.inl (fun _ => 0)))), (a_moD, .inl (cJ, 256, .inr (.inl (fun _ => 0))))]) ⟨hx, hb, hml, hown, hts⟩ (c_X8_makes l D cI cJ cZ a_mo a_moR a_moK a_moH a_moS a_moF a_moT a_moP a_moQ a_moA a_moB a_moD H.size 0 0 0 0 0 0 0 0 0 0 0 0 0 0 (fun _ => 0) 3 3 _ _ rfl (makes33 _)) (cwV 2 hts (gdV wl_112 wl_113 wl_114 wl_5 wl_115) rfl rfl rfl (by decide +kernel) ⟨hRf _ (Nat.le_of_ble_eq_true rfl), hRl _ (Nat.le_of_ble_eq_true rfl)⟩) hK hN hP hD hS hA [0, 2] [1, 3, 4, 5, 6, 7, 8, 9, 10, 11] [10, 0, 11, 1, 2, 3, 4, 5, 6, 7, 8, 9] rfl rfl (by decide) (by decide) (by decide) (by decide) (fun _ => rfl) 0 7 rfl rfl rfl rfl hl.1 rfl (Nat.le_of_ble_eq_true rfl) dX8_init_101 ⟨hRc _ (Nat.le_of_ble_eq_true rfl), hRs _ (Nat.le_of_ble_eq_true rfl)⟩ (fun u H locs ho hP hD hS => ?_)
  obtain ⟨u1, u2, u3, u4, u5, u6, u7, u8, u9⟩ := u
  obtain ⟨rfl, rfl, rfl, rfl, rfl, rfl, rfl, rfl, hk⟩ := ho
  replace hP : va_P D vwCl [(a_mo, .inr (7, [.ref a_moR, .int 3, .int 3, .int 128, .int 55, .int 64, .int (-5), .int 0, .int 0, .long 0, .ref a_moK, .ref a_moH, .ref a_moS, .int (-1), .int 0, .int 0, .ref a_moF, .ref a_moT, .int (-1), .int 0, .ref a_moP, .ref a_moQ, .ref a_moA, .ref a_moB, .ref a_moD])), (a_moR, .inl (cI, 7, .inl (fun _ => 0))), (a_moK, .inl (cZ, 5, .inl u9)), (a_moH, .inl (cI, 81920, .inl (fun _ => 0))), (a_moS, .inl (cI, 81920, .inl (fun _ => 0))), (a_moF, .inl (cI, 16384, .inl (fun _ => 0))), (a_moT, .inl (cI, 16384, .inl (fun _ => 0))), (a_moP, .inl (cI, 256, .inl (fun _ => 0))), (a_moQ, .inl (cI, 256, .inl (fun _ => 0))), (a_moA, .inl (cJ, 256, .inr (.inl (fun _ => 0)))), (a_moB, .inl (cJ, 256, .inr (.inl (fun _ => 0)))), (a_moD, .inl (cJ, 256, .inr (.inl (fun _ => 0))))] H := hP
  replace hD : va_D A [(a_mo, .inr (7, [.ref a_moR, .int 3, .int 3, .int 128, .int 55, .int 64, .int (-5), .int 0, .int 0, .long 0, .ref a_moK, .ref a_moH, .ref a_moS, .int (-1), .int 0, .int 0, .ref a_moF, .ref a_moT, .int (-1), .int 0, .ref a_moP, .ref a_moQ, .ref a_moA, .ref a_moB, .ref a_moD])), (a_moR, .inl (cI, 7, .inl (fun _ => 0))), (a_moK, .inl (cZ, 5, .inl u9)), (a_moH, .inl (cI, 81920, .inl (fun _ => 0))), (a_moS, .inl (cI, 81920, .inl (fun _ => 0))), (a_moF, .inl (cI, 16384, .inl (fun _ => 0))), (a_moT, .inl (cI, 16384, .inl (fun _ => 0))), (a_moP, .inl (cI, 256, .inl (fun _ => 0))), (a_moQ, .inl (cI, 256, .inl (fun _ => 0))), (a_moA, .inl (cJ, 256, .inr (.inl (fun _ => 0)))), (a_moB, .inl (cJ, 256, .inr (.inl (fun _ => 0)))), (a_moD, .inl (cJ, 256, .inr (.inl (fun _ => 0))))] := hD
  subst hQ; exact W.vret hx hb hr (fun t ht hW => ⟨⟨(a_moR, a_moK, a_moH, a_moS, a_moF, a_moT, a_moP, a_moQ, a_moA, a_moB, a_moD, u9), rfl, hk, by rw [ht]; exact hP, hD⟩, hS.F ht⟩) (fun q hq => hS.2.2 q hq) dX8_init_104

