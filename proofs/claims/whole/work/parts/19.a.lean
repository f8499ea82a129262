section
variable {p : Program} {l : Launch} {e : Env} {R : Room} {s : State} {m : MethodId} {args : Array Value} {below : List Frame} {meth : Method} {c : Code} {H H0 : Heap} {locs : List Loc} {cells slots : Nat} {Q : State → Prop} {y : MethodName} {bytes cc : ByteArray} {maxL nL n index pc : Nat} {ret : Option FieldType} {ws : List Cond} {rm : Room} {Ts : List Cond} {own C : String} {b : Addr} {As rest st0 : List Value} {ls : Array Slot} {D : va_G} {tys : List (ClassId × FieldType)} {wv wc wr : va_W} {A0 : Nat → Prop}
/-- an instance method that only reads, answers a long -/
theorem ca_Vl {post : Int64 → Prop} (S : CallFix p m c cc nL s args Ts own) (hM : Met l y ws rm (ro_P D tys (.ref b :: As) wc) (vp_Sl post) 0 0 (fun _ => False)) (cw : CallW R s args own C index y bytes maxL ret ws rm 0 0 n) (hK : va_K D vwCl tys s) (hN : NN s) (hP : va_P D vwCl wv H) (is : List Nat) (hs : is.filterMap (fun i => wv[i]?) = wc) (q0 ci : Nat) {q : vw_C} {fs : List Value} (hc : vwCl[ci]? = some q) (hC : q.1 = C) (he : wc[q0]? = some (b, .inr (ci, fs))) (hn : As.length = n) (hsize : ls.size = nL) (hst : st0 = As.reverse ++ .ref b :: rest) (hW : (rest.map fun v => v.category).sum ≤ 8) (hdg : decode cc pc = .ok (.invokevirtual index, 3)) (hf : cells + 0 ≤ R.cells ∧ slots + 0 ≤ R.slots)
    (kk : ∀ r : Int64, post r → W p l e R s m args below meth c H locs cells slots Q (F0 m (pc + 3) ls (.long r :: rest))) : W p l e R s m args below meth c H locs cells slots Q (F0 m pc ls st0) := by
  subst hC
  have hPc := hP.sub (ws' := wc) is hs
  exact vp_callSl (va_runV (As := As) (rest := rest) S hM cw ⟨fb_ro, va_recv hK hPc hc he, fun U hU hW => ⟨rfl, by rw [hU]; exact hPc, va_K.moved hW.alike hK, hN.warm hW⟩⟩ rfl hn hsize hst (lv_room hW) hdg hf).run kk
end
