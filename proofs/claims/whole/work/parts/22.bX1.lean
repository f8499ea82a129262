def w_X1_init : List Cond := .code yX1_init cX1_init 1 none :: wsL_law
set_option maxHeartbeats 4000000 in
set_option maxRecDepth 100000 in
theorem i_X1_init (l : Launch) (D : va_G) (cI cJ cZ : ClassId) (a_fl : Nat) (sz : Nat) (A : Nat → Prop) (hAe : A = va_A [(a_fl, .inr (1, [.int 0, .int 0, .int 0, .int 0, .int 0, .int 0]))] sz) : Met l yX1_init w_X1_init ({ frames := 1, cells := 0, slots := 0, locals := 22 } : Room) (rw_P D [(cI, .int), (cJ, .long), (cZ, .boolean)] [.ref a_fl] sz [(a_fl, .inr (1, [.int 0, .int 0, .int 0, .int 0, .int 0, .int 0]))]) (va_Qv (fun (_ : Unit) => True) (rw_B D A (fun (u : Unit) => [(a_fl, .inr (1, [.int 3, .int 3, .int 3, .int 128, .int 64, .int 56]))])) A) 0 0 A := by
  refine Met.ofW (cc := cX1_init) (maxL := 1) (ret := none) (by decide) rfl ?_
  intro p e s m args below meth c s₁ B hml hv
  obtain ⟨hargs, hsz, hP, hK, hN, hD0⟩ := hv
  have hx := B.exec
  have hb := B.bytes
  have hr := B.returns
  have hts : ∀ w ∈ wsL_law, w.before args s = true := fun w h => atoms_spec (ws := w_X1_init) B.pre w (List.mem_cons_of_mem _ h)
  have hown : s.vm.findClass RX1 = some m.cls := findClass_of_methodNamed B.named
  have hlocks := B.notSynchronized
  have hin : meth.name = "<init>" := (name_of_methodNamed B.named B.method).1
  subst hsz
  have hD : va_D A [(a_fl, .inr (1, [.int 0, .int 0, .int 0, .int 0, .int 0, .int 0]))] := by rw [hAe]; exact hD0.self
  have hA : ∀ q : Nat, s.heap.size ≤ q → A q := fun q h => by rw [hAe]; exact Or.inr h
  have hS : va_S A s.heap s.heap [] := va_S.rf
  have hl := lv_entry ([.ref a_fl]) (n := 1) (Nat.le_of_ble_eq_true rfl)
  rw [hargs, lg_entry_eq, ← hargs]
  generalize (lg_sl ([.ref a_fl]) ++ List.replicate (1 - (lg_sl ([.ref a_fl])).length) Slot.unset).toArray = ls at hl ⊢
  replace hl : lv_has ls 1 [(0, .ref a_fl)] := hl
  have hRf : ∀ n, n ≤ 1 → n ≤ (headSpec w_X1_init ({ frames := 1, cells := 0, slots := 0, locals := 22 } : Room)).room.frames := fun n h => h
  have hRl : ∀ n, n ≤ 22 → n ≤ (headSpec w_X1_init ({ frames := 1, cells := 0, slots := 0, locals := 22 } : Room)).room.locals := fun n h => h
  have hRc : ∀ n, n ≤ 0 → n ≤ (headSpec w_X1_init ({ frames := 1, cells := 0, slots := 0, locals := 22 } : Room)).room.cells := fun n h => h
  have hRs : ∀ n, n ≤ 0 → n ≤ (headSpec w_X1_init ({ frames := 1, cells := 0, slots := 0, locals := 22 } : Room)).room.slots := fun n h => h
  generalize (headSpec w_X1_init ({ frames := 1, cells := 0, slots := 0, locals := 22 } : Room)).room = R at hRf hRl hRc hRs ⊢
  generalize hQ : MQ below _ args s 0 0 _ = Q
  suffices main : ∀ (H : Heap) (locs : List Loc), va_P D vwCl [(a_fl, .inr (1, [.int 0, .int 0, .int 0, .int 0, .int 0, .int 0]))] H → va_S A s.heap H locs → W p l e R s m args below meth c H locs 0 0 Q (F0 m 0 ls []) from main _ _ hP hS
  intro H locs hP hS
  refine lv_aload_n hx hb dX1_init_0 rfl (lv_at hl 0 rfl) ?_
  refine W.objInit hx hb hown (hts _ wl_41) (hts _ wl_10) (hts _ wl_11) rfl (hl.1.trans hml.symm) rfl dX1_init_1 (hRf _ (Nat.le_of_ble_eq_true rfl)) (hRl _ (Nat.le_of_ble_eq_true rfl)) ?_
  refine W.eq (g2 := F0 m 4 ls []) rfl ?_
  refine lv_aload_n hx hb dX1_init_4 rfl (lv_at hl 0 rfl) ?_
  refine lv_iconst (v := 3) hx hb dX1_init_5 (by decide +kernel) ?_
  refine lv_iconst (v := 3) hx hb dX1_init_6 (by decide +kernel) ?_
  refine ca_Wv (b := a_fl) (As := [.int 3, .int 3]) (rest := []) (wr := []) (wo := fun (u : Int32 × Int32 × Int32 × Int32 × Int32 × Int32) => [(a_fl, oX1 u.1 u.2.1 u.2.2.1 u.2.2.2.1 u.2.2.2.2.1 u.2.2.2.2.2)]) (wn := fun (u : Int32 × Int32 × Int32 × Int32 × Int32 × Int32) => [(a_fl, oX1 u.1 u.2.1 u.2.2.1 u.2.2.2.1 u.2.2.2.2.1 u.2.2.2.2.2)]) ⟨hx, hb, hml, hown, hts⟩ (c_X1_become l D cI cJ cZ a_fl H.size 0 0 0 0 0 0 3 3 _ _ rfl become33) (cwV 2 hts (gdV wl_42 wl_43 wl_44 wl_14 wl_45) rfl rfl rfl (by decide +kernel) ⟨hRf _ (Nat.le_of_ble_eq_true rfl), hRl _ (Nat.le_of_ble_eq_true rfl)⟩) hK hN hP hD hS hA [0] [] [0] rfl rfl (by decide) (by decide) (by decide) (by decide) (fun _ => rfl) 0 1 rfl rfl rfl rfl hl.1 rfl (Nat.le_of_ble_eq_true rfl) dX1_init_7 ⟨hRc (0 + 0) (by decide), hRs (0 + 0) (by decide)⟩ (fun u H locs ho hP hD hS => ?_)
  obtain ⟨u1, u2, u3, u4, u5, u6⟩ := u
  obtain ⟨rfl, rfl, rfl, rfl, rfl, rfl⟩ := ho
  replace hP : va_P D vwCl [(a_fl, .inr (1, [.int 3, .int 3, .int 3, .int 128, .int 64, .int 56]))] H := hP
  replace hD : va_D A [(a_fl, .inr (1, [.int 3, .int 3, .int 3, .int 128, .int 64, .int 56]))] := hD
  subst hQ
  refine W.vret hx hb hr (fun t ht hW => ⟨⟨(), rfl, ?_, ?_, ?_⟩, hS.F ht⟩) (fun q hq => hS.2.2 q hq) dX1_init_10
  · exact trivial
  · rw [ht]; exact hP
  · exact hD

