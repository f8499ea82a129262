/-- array classes are known by their names -/
theorem cls_i {D : va_G} {cI cJ cZ cA : ClassId} {s : State} (hK : va_K D vwCl ([(cI, .int), (cJ, .long), (cZ, .boolean)] ++ [(cA, .int)]) s) : cA = cI := by
  have h1 : s.vm.findClass ("[" ++ (FieldType.int).toString) = some cI := (hK.2 0 (cI, .int) rfl).2
  have h2 : s.vm.findClass ("[" ++ (FieldType.int).toString) = some cA := (hK.2 3 (cA, .int) rfl).2
  exact Option.some.inj (h2.symm.trans h1)
theorem cls_j {D : va_G} {cI cJ cZ cA : ClassId} {s : State} (hK : va_K D vwCl ([(cI, .int), (cJ, .long), (cZ, .boolean)] ++ [(cA, .long)]) s) : cA = cJ := by
  have h1 : s.vm.findClass ("[" ++ (FieldType.long).toString) = some cJ := (hK.2 1 (cJ, .long) rfl).2
  have h2 : s.vm.findClass ("[" ++ (FieldType.long).toString) = some cA := (hK.2 3 (cA, .long) rfl).2
  exact Option.some.inj (h2.symm.trans h1)
theorem cls_z {D : va_G} {cI cJ cZ cA : ClassId} {s : State} (hK : va_K D vwCl ([(cI, .int), (cJ, .long), (cZ, .boolean)] ++ [(cA, .boolean)]) s) : cA = cZ := by
  have h1 : s.vm.findClass ("[" ++ (FieldType.boolean).toString) = some cZ := (hK.2 2 (cZ, .boolean) rfl).2
  have h2 : s.vm.findClass ("[" ++ (FieldType.boolean).toString) = some cA := (hK.2 3 (cA, .boolean) rfl).2
  exact Option.some.inj (h2.symm.trans h1)
section CAI
variable {p : Program} {l : Launch} {e : Env} {R : Room} {s : State} {m : MethodId} {args : Array Value} {below : List Frame} {meth : Method} {c : Code} {H H0 : Heap} {locs : List Loc} {cells slots mc ms : Nat} {Q : State → Prop} {y : MethodName} {bytes cc : ByteArray} {maxL nL n index pc : Nat} {ws : List Cond} {rm : Room} {Ts : List Cond} {own : String} {b : Addr} {As rest st0 : List Value} {ls : Array Slot} {D : va_G} {tys : List (ClassId × FieldType)} {wv wc wr : va_W} {A0 : Nat → Prop}
/-- a constructor -/
theorem ca_I {T : Type} {post : T → Prop} {wo : T → va_W} (S : CallFix p m c cc nL s args Ts own) (hM : Met l y ws rm (rw_P D tys (.ref b :: As) H.size wc) (va_Qv post (rw_B D (va_A wc H.size) wo) (va_A wc H.size)) mc ms (va_A wc H.size)) (cw : CallB R s args own index y bytes maxL none ws rm mc ms n ∧ y.name = "<init>" ∧ (Cond.instanceMethod y).before args s = true) (hK : va_K D vwCl tys s) (hN : NN s) (hP : va_P D vwCl wv H) (hD : va_D A0 wv) (hS : va_S A0 H0 H locs) (hA : ∀ q, H0.size ≤ q → A0 q) (isC isR : List Nat) (hC : isC.map (fun i => wv[i]?) = wc.map some) (hR : isR.map (fun i => wv[i]?) = wr.map some) (hcn : va_nd isC = true) (hnr : va_nd isR = true) (hdis : ∀ i ∈ isR, i ∉ isC) (hn : As.length = n) (hsize : ls.size = nL) (hst : st0 = As.reverse ++ .ref b :: rest) (hW : (rest.map fun v => v.category).sum ≤ 8) (hdg : decode cc pc = .ok (.invokespecial index, 3)) (hf : cells + mc ≤ R.cells ∧ slots + ms ≤ R.slots)
    (kk : ∀ (u : T) (H1 : Heap) (locs1 : List Loc), post u → va_P D vwCl (wr ++ wo u) H1 → va_D A0 (wr ++ wo u) → va_S A0 H0 H1 locs1 → W p l e R s m args below meth c H1 locs1 (cells + mc) (slots + ms) Q (F0 m (pc + 3) ls rest)) : W p l e R s m args below meth c H locs cells slots Q (F0 m pc ls st0) := by
  have hPc := hP.sub (ws' := wc) isC (by
    have h2 : (isC.map (fun i => wv[i]?)).filterMap id = (wc.map some).filterMap id := by rw [hC]
    simpa [List.filterMap_map, Function.comp_def] using h2)
  have hDc := hD.sub (ws' := wc) isC hcn hC
  have hFc := va_free (wc := wc) hD hS hA isC hC
  refine va_callv (va_runI (As := As) (rest := rest) S hM cw ⟨fb_rw, fun U hU hW => ⟨rfl, by rw [hU], by rw [hU]; exact hPc, va_K.moved hW.alike hK, hN.warm hW, hDc.weaken (fun _ _ _ _ => trivial)⟩⟩ rfl hn hsize hst (lv_room hW) hdg hf) hS (fun q _ h => hFc q h) hFc (fun u t H1 locs1 ht hvm hw hB hz1 hk1 hS1 => ?_)
  obtain ⟨hP1, hD1⟩ := hB
  rw [ht] at hP1
  obtain ⟨a, b⟩ := va_join hP hD isC isR hC hR hnr hdis hk1 hFc hP1 hD1
  exact kk u H1 locs1 hw a b hS1
end CAI
theorem become33 : wp_X1_become (fun u1 u2 u3 u4 u5 u6 => u1 = 3 ∧ u2 = 3 ∧ u3 = 3 ∧ u4 = 128 ∧ u5 = 64 ∧ u6 = 56) 3 3 := by
  unfold wp_X1_become
  decide +kernel
theorem makes33 (r : Nat → Int32) : wp_X8_makes (fun u1 u2 u3 u4 u5 u6 u7 u8 u9 => u1 = 3 ∧ u2 = 3 ∧ u3 = 128 ∧ u4 = 55 ∧ u5 = 64 ∧ u6 = (-5) ∧ u7 = (-1) ∧ u8 = (-1) ∧ ∀ k, k < 5 → u9 k = 0) r 3 3 := by
  refine ⟨6, ?_⟩
  rw [wp_X8_makes_87_s]
  refine ⟨fun h => absurd h (by decide +kernel), fun _ => ⟨by unfold vp_in; decide +kernel, ?_⟩⟩
  rw [wp_X8_makes_87_s]
  refine ⟨fun h => absurd h (by decide +kernel), fun _ => ⟨by unfold vp_in; decide +kernel, ?_⟩⟩
  rw [wp_X8_makes_87_s]
  refine ⟨fun h => absurd h (by decide +kernel), fun _ => ⟨by unfold vp_in; decide +kernel, ?_⟩⟩
  rw [wp_X8_makes_87_s]
  refine ⟨fun h => absurd h (by decide +kernel), fun _ => ⟨by unfold vp_in; decide +kernel, ?_⟩⟩
  rw [wp_X8_makes_87_s]
  refine ⟨fun h => absurd h (by decide +kernel), fun _ => ⟨by unfold vp_in; decide +kernel, ?_⟩⟩
  rw [wp_X8_makes_87_s]
  refine ⟨fun _ => ⟨by decide +kernel, by decide +kernel, by decide +kernel, by decide +kernel, by decide +kernel, by decide +kernel, by decide +kernel, by decide +kernel, fun k hk => ?_⟩, fun h => absurd (by decide +kernel) h⟩
  rcases (show k = 0 ∨ k = 1 ∨ k = 2 ∨ k = 3 ∨ k = 4 by omega) with rfl | rfl | rfl | rfl | rfl <;> simp only [upd, show ((0 : Int32)).toNatClampNeg = 0 from by decide +kernel, show ((0 : Int32) + 1).toNatClampNeg = 1 from by decide +kernel, show ((0 : Int32) + 1 + 1).toNatClampNeg = 2 from by decide +kernel, show ((0 : Int32) + 1 + 1 + 1).toNatClampNeg = 3 from by decide +kernel, show ((0 : Int32) + 1 + 1 + 1 + 1).toNatClampNeg = 4 from by decide +kernel] <;> rfl
