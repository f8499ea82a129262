/-- the callee's words among the law's: an instance method, a static one -/
theorem gd_of {w : Cond} (h : w ∈ wsL_law) : w ∈ wsL_law ∧ ((w.onTables && w.keeps) = true ∨ ∃ ty, w = .arrayClass ty) := ⟨h, good_of_word (wsL_law_good w h)⟩
theorem gdV {own : String} {idx : Nat} {C : String} {y : MethodName} {cc : ByteArray} {n : Nat} {r : Option FieldType} (h1 : Cond.methodLink own idx y ∈ wsL_law) (h2 : Cond.instanceMethod y ∈ wsL_law) (h3 : Cond.selects C y y ∈ wsL_law) (h4 : Cond.initialized C ∈ wsL_law) (h5 : Cond.code y cc n r ∈ wsL_law) : GoodIn wsL_law (wsV own idx C y (.code y cc n r :: wsL_law)) := by
  intro w hw
  rcases List.mem_append.mp hw with h | h
  · simp only [List.mem_cons, List.not_mem_nil, or_false] at h
    rcases h with rfl | rfl | rfl | rfl
    · exact gd_of h1
    · exact gd_of h2
    · exact gd_of h3
    · exact gd_of h4
  · rcases List.mem_cons.mp h with rfl | h
    · exact gd_of h5
    · exact gd_of h
theorem gdS {own : String} {idx : Nat} {y : MethodName} {cc : ByteArray} {n : Nat} {r : Option FieldType} (h1 : Cond.methodLink own idx y ∈ wsL_law) (h2 : Cond.static y ∈ wsL_law) (h4 : Cond.initialized y.cls ∈ wsL_law) (h5 : Cond.code y cc n r ∈ wsL_law) : GoodIn wsL_law (va_wsS own idx y (.code y cc n r :: wsL_law)) := by
  intro w hw
  rcases List.mem_append.mp hw with h | h
  · simp only [List.mem_cons, List.not_mem_nil, or_false] at h
    rcases h with rfl | rfl | rfl
    · exact gd_of h1
    · exact gd_of h2
    · exact gd_of h4
  · rcases List.mem_cons.mp h with rfl | h
    · exact gd_of h5
    · exact gd_of h
theorem gdI {y : MethodName} {cc : ByteArray} {n : Nat} {r : Option FieldType} (h5 : Cond.code y cc n r ∈ wsL_law) : GoodIn wsL_law (.code y cc n r :: wsL_law) := by
  intro w h
  rcases List.mem_cons.mp h with rfl | h
  · exact gd_of h5
  · exact gd_of h
/-! ===== rows of our own for calls: read-only and writing contracts ===== -/
theorem bz_n {v : Int32} (h : v = 0 ∨ v = 1) : narrow .boolean (.int v) = .int v := by rcases h with rfl | rfl <;> rfl
theorem bz_f {v : Int32} (h : v = 0 ∨ v = 1) : fits .boolean (.int v) = true := by rcases h with rfl | rfl <;> rfl
/-- the links into private fields of nest mates -/
def NN (U : State) : Prop := va_Nw (.fieldLinkNest RX7 63 "HardBench$Floats" "e" "I" "HardBench") U ∧ va_Nw (.fieldLinkNest RX3 33 "HardBench$Floats" "f" "I" "HardBench") U ∧ va_Nw (.fieldLinkNest RX7 67 "HardBench$Floats" "f" "I" "HardBench") U ∧ va_Nw (.fieldLinkNest RX3 21 "HardBench$Floats" "bias" "I" "HardBench") U ∧ va_Nw (.fieldLinkNest RX7 79 "HardBench$Floats" "codes" "I" "HardBench") U ∧ va_Nw (.fieldLinkNest RX0 51 "HardBench$Floats" "codes" "I" "HardBench") U ∧ va_Nw (.fieldLinkNest RX3 64 "HardBench$Floats" "signBit" "I" "HardBench") U ∧ va_Nw (.fieldLinkNest RX6 103 "HardBench$Floats" "signBit" "I" "HardBench") U ∧ va_Nw (.fieldLinkNest RX5 42 "HardBench$Floats" "endless" "I" "HardBench") U ∧ va_Nw (.fieldLinkNest RX6 106 "HardBench$Floats" "endless" "I" "HardBench") U
theorem NN.warm {s U : State} (hW : s.WarmedH U.vm) (h : NN s) : NN U := ⟨va_Nw.warmF hW h.1, va_Nw.warmF hW h.2.1, va_Nw.warmF hW h.2.2.1, va_Nw.warmF hW h.2.2.2.1, va_Nw.warmF hW h.2.2.2.2.1, va_Nw.warmF hW h.2.2.2.2.2.1, va_Nw.warmF hW h.2.2.2.2.2.2.1, va_Nw.warmF hW h.2.2.2.2.2.2.2.1, va_Nw.warmF hW h.2.2.2.2.2.2.2.2.1, va_Nw.warmF hW h.2.2.2.2.2.2.2.2.2⟩
theorem NN.same {s U : State} (e : s.vm = U.vm) (h : NN s) : NN U := ⟨va_Nw.same rfl e h.1, va_Nw.same rfl e h.2.1, va_Nw.same rfl e h.2.2.1, va_Nw.same rfl e h.2.2.2.1, va_Nw.same rfl e h.2.2.2.2.1, va_Nw.same rfl e h.2.2.2.2.2.1, va_Nw.same rfl e h.2.2.2.2.2.2.1, va_Nw.same rfl e h.2.2.2.2.2.2.2.1, va_Nw.same rfl e h.2.2.2.2.2.2.2.2.1, va_Nw.same rfl e h.2.2.2.2.2.2.2.2.2⟩
theorem NN.fRX7_63 {A : Array Value} {U : State} (h : NN U) : (Cond.fieldLinkNest RX7 63 "HardBench$Floats" "e" "I" "HardBench").before A U = true := va_Nw.use rfl h.1
theorem NN.fRX3_33 {A : Array Value} {U : State} (h : NN U) : (Cond.fieldLinkNest RX3 33 "HardBench$Floats" "f" "I" "HardBench").before A U = true := va_Nw.use rfl h.2.1
theorem NN.fRX7_67 {A : Array Value} {U : State} (h : NN U) : (Cond.fieldLinkNest RX7 67 "HardBench$Floats" "f" "I" "HardBench").before A U = true := va_Nw.use rfl h.2.2.1
theorem NN.fRX3_21 {A : Array Value} {U : State} (h : NN U) : (Cond.fieldLinkNest RX3 21 "HardBench$Floats" "bias" "I" "HardBench").before A U = true := va_Nw.use rfl h.2.2.2.1
theorem NN.fRX7_79 {A : Array Value} {U : State} (h : NN U) : (Cond.fieldLinkNest RX7 79 "HardBench$Floats" "codes" "I" "HardBench").before A U = true := va_Nw.use rfl h.2.2.2.2.1
theorem NN.fRX0_51 {A : Array Value} {U : State} (h : NN U) : (Cond.fieldLinkNest RX0 51 "HardBench$Floats" "codes" "I" "HardBench").before A U = true := va_Nw.use rfl h.2.2.2.2.2.1
theorem NN.fRX3_64 {A : Array Value} {U : State} (h : NN U) : (Cond.fieldLinkNest RX3 64 "HardBench$Floats" "signBit" "I" "HardBench").before A U = true := va_Nw.use rfl h.2.2.2.2.2.2.1
theorem NN.fRX6_103 {A : Array Value} {U : State} (h : NN U) : (Cond.fieldLinkNest RX6 103 "HardBench$Floats" "signBit" "I" "HardBench").before A U = true := va_Nw.use rfl h.2.2.2.2.2.2.2.1
theorem NN.fRX5_42 {A : Array Value} {U : State} (h : NN U) : (Cond.fieldLinkNest RX5 42 "HardBench$Floats" "endless" "I" "HardBench").before A U = true := va_Nw.use rfl h.2.2.2.2.2.2.2.2.1
theorem NN.fRX6_106 {A : Array Value} {U : State} (h : NN U) : (Cond.fieldLinkNest RX6 106 "HardBench$Floats" "endless" "I" "HardBench").before A U = true := va_Nw.use rfl h.2.2.2.2.2.2.2.2.2
abbrev ro_P (D : va_G) (tys : List (ClassId × FieldType)) (av : List Value) (w0 : va_W) : Array Value → State → Prop := va_Pc av (fun U => va_P D vwCl w0 U.heap ∧ va_K D vwCl tys U ∧ NN U)
abbrev rw_P (D : va_G) (tys : List (ClassId × FieldType)) (av : List Value) (sz : Nat) (w0 : va_W) : Array Value → State → Prop := va_Pc av (fun U => U.heap.size = sz ∧ va_P D vwCl w0 U.heap ∧ va_K D vwCl tys U ∧ NN U ∧ va_D (fun _ => True) w0)
abbrev rw_B (D : va_G) (A : Nat → Prop) {S : Type} (wo : S → va_W) : S → State → Prop := fun u t => va_P D vwCl (wo u) t.heap ∧ va_D A (wo u)
theorem fb_ro {D : va_G} {tys : List (ClassId × FieldType)} {av : List Value} {w0 : va_W} : FrameBlind (ro_P D tys av w0) := fun a U g mk q => ⟨q.1, q.2.1, va_K.moved (u := U) (U := U.calling g mk a) (Vm.Alike.refl U.vm) q.2.2.1, NN.same (s := U) (U := U.calling g mk a) rfl q.2.2.2⟩
theorem fb_rw {D : va_G} {tys : List (ClassId × FieldType)} {av : List Value} {sz : Nat} {w0 : va_W} : FrameBlind (rw_P D tys av sz w0) := fun a U g mk q => ⟨q.1, q.2.1, q.2.2.1, va_K.moved (u := U) (U := U.calling g mk a) (Vm.Alike.refl U.vm) q.2.2.2.1, NN.same (s := U) (U := U.calling g mk a) rfl q.2.2.2.2.1, q.2.2.2.2.2⟩
section CA
variable {p : Program} {l : Launch} {e : Env} {R : Room} {s : State} {m : MethodId} {args : Array Value} {below : List Frame} {meth : Method} {c : Code} {H H0 : Heap} {locs : List Loc} {cells slots : Nat} {Q : State → Prop} {y : MethodName} {bytes cc : ByteArray} {maxL nL n index pc : Nat} {ret : Option FieldType} {ws : List Cond} {rm : Room} {Ts : List Cond} {own C : String} {b : Addr} {As rest st0 : List Value} {ls : Array Slot} {D : va_G} {tys : List (ClassId × FieldType)} {wv wc wr : va_W} {A0 : Nat → Prop}
/-- an instance method that only reads, answers an int -/
theorem ca_Vi {post : Int32 → Prop} (S : CallFix p m c cc nL s args Ts own) (hM : Met l y ws rm (ro_P D tys (.ref b :: As) wc) (vp_Si post) 0 0 (fun _ => False)) (cw : CallW R s args own C index y bytes maxL ret ws rm 0 0 n) (hK : va_K D vwCl tys s) (hN : NN s) (hP : va_P D vwCl wv H) (is : List Nat) (hs : is.filterMap (fun i => wv[i]?) = wc) (q0 ci : Nat) {q : vw_C} {fs : List Value} (hc : vwCl[ci]? = some q) (hC : q.1 = C) (he : wc[q0]? = some (b, .inr (ci, fs))) (hn : As.length = n) (hsize : ls.size = nL) (hst : st0 = As.reverse ++ .ref b :: rest) (hW : (rest.map fun v => v.category).sum ≤ 8) (hdg : decode cc pc = .ok (.invokevirtual index, 3)) (hf : cells + 0 ≤ R.cells ∧ slots + 0 ≤ R.slots)
    (kk : ∀ r : Int32, post r → W p l e R s m args below meth c H locs cells slots Q (F0 m (pc + 3) ls (.int r :: rest))) : W p l e R s m args below meth c H locs cells slots Q (F0 m pc ls st0) := by
  subst hC
  have hPc := hP.sub (ws' := wc) is hs
  exact vp_callSi (va_runV (As := As) (rest := rest) S hM cw ⟨fb_ro, va_recv hK hPc hc he, fun U hU hW => ⟨rfl, by rw [hU]; exact hPc, va_K.moved hW.alike hK, hN.warm hW⟩⟩ rfl hn hsize hst (lv_room hW) hdg hf).run kk
/-- a static method that only reads, answers an int -/
theorem ca_Si {post : Int32 → Prop} (S : CallFix p m c cc nL s args Ts own) (hM : Met l y ws rm (ro_P D tys As wc) (vp_Si post) 0 0 (fun _ => False)) (cw : CallB R s args own index y bytes maxL ret ws rm 0 0 n ∧ (Cond.static y).before args s = true) (hK : va_K D vwCl tys s) (hN : NN s) (hP : va_P D vwCl wv H) (is : List Nat) (hs : is.filterMap (fun i => wv[i]?) = wc) (hn : As.length = n) (hsize : ls.size = nL) (hst : st0 = As.reverse ++ rest) (hW : (rest.map fun v => v.category).sum ≤ 8) (hdg : decode cc pc = .ok (.invokestatic index, 3)) (hf : cells + 0 ≤ R.cells ∧ slots + 0 ≤ R.slots)
    (kk : ∀ r : Int32, post r → W p l e R s m args below meth c H locs cells slots Q (F0 m (pc + 3) ls (.int r :: rest))) : W p l e R s m args below meth c H locs cells slots Q (F0 m pc ls st0) := by
  have hPc := hP.sub (ws' := wc) is hs
  exact vp_callSi (va_runS (As := As) (rest := rest) S hM cw ⟨fb_ro, fun U hU hW => ⟨rfl, by rw [hU]; exact hPc, va_K.moved hW.alike hK, hN.warm hW⟩⟩ rfl hn hsize hst (lv_room hW) hdg hf).run kk
/-- a static method that only reads, answers a long -/
theorem ca_Sl {post : Int64 → Prop} (S : CallFix p m c cc nL s args Ts own) (hM : Met l y ws rm (ro_P D tys As wc) (vp_Sl post) 0 0 (fun _ => False)) (cw : CallB R s args own index y bytes maxL ret ws rm 0 0 n ∧ (Cond.static y).before args s = true) (hK : va_K D vwCl tys s) (hN : NN s) (hP : va_P D vwCl wv H) (is : List Nat) (hs : is.filterMap (fun i => wv[i]?) = wc) (hn : As.length = n) (hsize : ls.size = nL) (hst : st0 = As.reverse ++ rest) (hW : (rest.map fun v => v.category).sum ≤ 8) (hdg : decode cc pc = .ok (.invokestatic index, 3)) (hf : cells + 0 ≤ R.cells ∧ slots + 0 ≤ R.slots)
    (kk : ∀ r : Int64, post r → W p l e R s m args below meth c H locs cells slots Q (F0 m (pc + 3) ls (.long r :: rest))) : W p l e R s m args below meth c H locs cells slots Q (F0 m pc ls st0) := by
  have hPc := hP.sub (ws' := wc) is hs
  exact vp_callSl (va_runS (As := As) (rest := rest) S hM cw ⟨fb_ro, fun U hU hW => ⟨rfl, by rw [hU]; exact hPc, va_K.moved hW.alike hK, hN.warm hW⟩⟩ rfl hn hsize hst (lv_room hW) hdg hf).run kk
/-- the world behind a call that writes, in the old order of its cells -/
theorem ca_back {T : Type} {wo wn : T → va_W} {H1 : Heap} {u : T} (hP : va_P D vwCl wv H) (hD : va_D A0 wv) (isC isR ip : List Nat) (hC : isC.map (fun i => wv[i]?) = wc.map some) (hR : isR.map (fun i => wv[i]?) = wr.map some) (hn : va_nd isR = true) (hdis : ∀ i ∈ isR, i ∉ isC) (hq : va_nd ip = true) (hip : ∀ u, ip.map (fun i => (wr ++ wo u)[i]?) = (wn u).map some) (hk : ∀ q : Nat, q < H.size → ¬ va_A wc H.size q → H1[q]? = H[q]?) (hF : ∀ q, va_A wc H.size q → A0 q) (hP1 : va_P D vwCl (wo u) H1) (hD1 : va_D (va_A wc H.size) (wo u)) : va_P D vwCl (wn u) H1 ∧ va_D A0 (wn u) := by
  obtain ⟨a, b⟩ := va_join hP hD isC isR hC hR hn hdis hk hF hP1 hD1
  refine ⟨a.sub ip ?_, b.sub ip hq (hip u)⟩
  have h := hip u
  have h2 : (ip.map (fun i => (wr ++ wo u)[i]?)).filterMap id = ((wn u).map some).filterMap id := by rw [h]
  simpa [List.filterMap_map, Function.comp_def] using h2
/-- an instance method that writes, answers an int -/
theorem ca_Wi {T : Type} {post : Int32 → T → Prop} {wo wn : T → va_W} (S : CallFix p m c cc nL s args Ts own) (hM : Met l y ws rm (rw_P D tys (.ref b :: As) H.size wc) (va_Qi post (rw_B D (va_A wc H.size) wo) (va_A wc H.size)) 0 0 (va_A wc H.size)) (cw : CallW R s args own C index y bytes maxL ret ws rm 0 0 n) (hK : va_K D vwCl tys s) (hN : NN s) (hP : va_P D vwCl wv H) (hD : va_D A0 wv) (hS : va_S A0 H0 H locs) (hA : ∀ q, H0.size ≤ q → A0 q) (isC isR ip : List Nat) (hC : isC.map (fun i => wv[i]?) = wc.map some) (hR : isR.map (fun i => wv[i]?) = wr.map some) (hcn : va_nd isC = true) (hnr : va_nd isR = true) (hdis : ∀ i ∈ isR, i ∉ isC) (hq : va_nd ip = true) (hip : ∀ u, ip.map (fun i => (wr ++ wo u)[i]?) = (wn u).map some) (q0 ci : Nat) {q : vw_C} {fs : List Value} (hc : vwCl[ci]? = some q) (hCn : q.1 = C) (he : wc[q0]? = some (b, .inr (ci, fs))) (hn : As.length = n) (hsize : ls.size = nL) (hst : st0 = As.reverse ++ .ref b :: rest) (hW : (rest.map fun v => v.category).sum ≤ 8) (hdg : decode cc pc = .ok (.invokevirtual index, 3)) (hf : cells + 0 ≤ R.cells ∧ slots + 0 ≤ R.slots)
    (kk : ∀ (r : Int32) (u : T) (H1 : Heap) (locs1 : List Loc), post r u → va_P D vwCl (wn u) H1 → va_D A0 (wn u) → va_S A0 H0 H1 locs1 → W p l e R s m args below meth c H1 locs1 cells slots Q (F0 m (pc + 3) ls (.int r :: rest))) : W p l e R s m args below meth c H locs cells slots Q (F0 m pc ls st0) := by
  subst hCn
  have hPc := hP.sub (ws' := wc) isC (by
    have h2 : (isC.map (fun i => wv[i]?)).filterMap id = (wc.map some).filterMap id := by rw [hC]
    simpa [List.filterMap_map, Function.comp_def] using h2)
  have hDc := hD.sub (ws' := wc) isC hcn hC
  have hFc := va_free (wc := wc) hD hS hA isC hC
  refine va_calli (va_runV (As := As) (rest := rest) S hM cw ⟨fb_rw, va_recv hK hPc hc he, fun U hU hW => ⟨rfl, by rw [hU], by rw [hU]; exact hPc, va_K.moved hW.alike hK, hN.warm hW, hDc.weaken (fun _ _ _ _ => trivial)⟩⟩ rfl hn hsize hst (lv_room hW) hdg hf) hS (fun q _ h => hFc q h) hFc (fun r u t H1 locs1 ht hvm hw hB hz1 hk1 hS1 => ?_)
  obtain ⟨hP1, hD1⟩ := hB
  rw [ht] at hP1
  obtain ⟨a, b⟩ := ca_back (wo := wo) (wn := wn) (u := u) hP hD isC isR ip hC hR hnr hdis hq hip hk1 hFc hP1 hD1
  exact kk r u H1 locs1 hw a b hS1
/-- an instance method that writes, answers nothing -/
theorem ca_Wv {T : Type} {post : T → Prop} {wo wn : T → va_W} (S : CallFix p m c cc nL s args Ts own) (hM : Met l y ws rm (rw_P D tys (.ref b :: As) H.size wc) (va_Qv post (rw_B D (va_A wc H.size) wo) (va_A wc H.size)) 0 0 (va_A wc H.size)) (cw : CallW R s args own C index y bytes maxL ret ws rm 0 0 n) (hK : va_K D vwCl tys s) (hN : NN s) (hP : va_P D vwCl wv H) (hD : va_D A0 wv) (hS : va_S A0 H0 H locs) (hA : ∀ q, H0.size ≤ q → A0 q) (isC isR ip : List Nat) (hC : isC.map (fun i => wv[i]?) = wc.map some) (hR : isR.map (fun i => wv[i]?) = wr.map some) (hcn : va_nd isC = true) (hnr : va_nd isR = true) (hdis : ∀ i ∈ isR, i ∉ isC) (hq : va_nd ip = true) (hip : ∀ u, ip.map (fun i => (wr ++ wo u)[i]?) = (wn u).map some) (q0 ci : Nat) {q : vw_C} {fs : List Value} (hc : vwCl[ci]? = some q) (hCn : q.1 = C) (he : wc[q0]? = some (b, .inr (ci, fs))) (hn : As.length = n) (hsize : ls.size = nL) (hst : st0 = As.reverse ++ .ref b :: rest) (hW : (rest.map fun v => v.category).sum ≤ 8) (hdg : decode cc pc = .ok (.invokevirtual index, 3)) (hf : cells + 0 ≤ R.cells ∧ slots + 0 ≤ R.slots)
    (kk : ∀ (u : T) (H1 : Heap) (locs1 : List Loc), post u → va_P D vwCl (wn u) H1 → va_D A0 (wn u) → va_S A0 H0 H1 locs1 → W p l e R s m args below meth c H1 locs1 cells slots Q (F0 m (pc + 3) ls rest)) : W p l e R s m args below meth c H locs cells slots Q (F0 m pc ls st0) := by
  subst hCn
  have hPc := hP.sub (ws' := wc) isC (by
    have h2 : (isC.map (fun i => wv[i]?)).filterMap id = (wc.map some).filterMap id := by rw [hC]
    simpa [List.filterMap_map, Function.comp_def] using h2)
  have hDc := hD.sub (ws' := wc) isC hcn hC
  have hFc := va_free (wc := wc) hD hS hA isC hC
  refine va_callv (va_runV (As := As) (rest := rest) S hM cw ⟨fb_rw, va_recv hK hPc hc he, fun U hU hW => ⟨rfl, by rw [hU], by rw [hU]; exact hPc, va_K.moved hW.alike hK, hN.warm hW, hDc.weaken (fun _ _ _ _ => trivial)⟩⟩ rfl hn hsize hst (lv_room hW) hdg hf) hS (fun q _ h => hFc q h) hFc (fun u t H1 locs1 ht hvm hw hB hz1 hk1 hS1 => ?_)
  obtain ⟨hP1, hD1⟩ := hB
  rw [ht] at hP1
  obtain ⟨a, b⟩ := ca_back (wo := wo) (wn := wn) (u := u) hP hD isC isR ip hC hR hnr hdis hq hip hk1 hFc hP1 hD1
  exact kk u H1 locs1 hw a b hS1
/-- a static method that writes, answers nothing -/
theorem ca_Tv {T : Type} {post : T → Prop} {wo wn : T → va_W} (S : CallFix p m c cc nL s args Ts own) (hM : Met l y ws rm (rw_P D tys As H.size wc) (va_Qv post (rw_B D (va_A wc H.size) wo) (va_A wc H.size)) 0 0 (va_A wc H.size)) (cw : CallB R s args own index y bytes maxL ret ws rm 0 0 n ∧ (Cond.static y).before args s = true) (hK : va_K D vwCl tys s) (hN : NN s) (hP : va_P D vwCl wv H) (hD : va_D A0 wv) (hS : va_S A0 H0 H locs) (hA : ∀ q, H0.size ≤ q → A0 q) (isC isR ip : List Nat) (hC : isC.map (fun i => wv[i]?) = wc.map some) (hR : isR.map (fun i => wv[i]?) = wr.map some) (hcn : va_nd isC = true) (hnr : va_nd isR = true) (hdis : ∀ i ∈ isR, i ∉ isC) (hq : va_nd ip = true) (hip : ∀ u, ip.map (fun i => (wr ++ wo u)[i]?) = (wn u).map some) (hn : As.length = n) (hsize : ls.size = nL) (hst : st0 = As.reverse ++ rest) (hW : (rest.map fun v => v.category).sum ≤ 8) (hdg : decode cc pc = .ok (.invokestatic index, 3)) (hf : cells + 0 ≤ R.cells ∧ slots + 0 ≤ R.slots)
    (kk : ∀ (u : T) (H1 : Heap) (locs1 : List Loc), post u → va_P D vwCl (wn u) H1 → va_D A0 (wn u) → va_S A0 H0 H1 locs1 → W p l e R s m args below meth c H1 locs1 cells slots Q (F0 m (pc + 3) ls rest)) : W p l e R s m args below meth c H locs cells slots Q (F0 m pc ls st0) := by
  have hPc := hP.sub (ws' := wc) isC (by
    have h2 : (isC.map (fun i => wv[i]?)).filterMap id = (wc.map some).filterMap id := by rw [hC]
    simpa [List.filterMap_map, Function.comp_def] using h2)
  have hDc := hD.sub (ws' := wc) isC hcn hC
  have hFc := va_free (wc := wc) hD hS hA isC hC
  refine va_callv (va_runS (As := As) (rest := rest) S hM cw ⟨fb_rw, fun U hU hW => ⟨rfl, by rw [hU], by rw [hU]; exact hPc, va_K.moved hW.alike hK, hN.warm hW, hDc.weaken (fun _ _ _ _ => trivial)⟩⟩ rfl hn hsize hst (lv_room hW) hdg hf) hS (fun q _ h => hFc q h) hFc (fun u t H1 locs1 ht hvm hw hB hz1 hk1 hS1 => ?_)
  obtain ⟨hP1, hD1⟩ := hB
  rw [ht] at hP1
  obtain ⟨a, b⟩ := ca_back (wo := wo) (wn := wn) (u := u) hP hD isC isR ip hC hR hnr hdis hq hip hk1 hFc hP1 hD1
  exact kk u H1 locs1 hw a b hS1
end CA
