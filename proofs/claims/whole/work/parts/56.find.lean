/-! ===== the reference's spans ===== -/
def FT (g : Nat → Nat) (n : Nat) (X Y : Nat → Int32) : Prop := (∀ k, k < n → ST g k = true → X (cnt (ST g) k) = nI k) ∧ (∀ k, 1 ≤ k → k < n → (k + 1 = n ∨ ST g (k + 1) = true) → Y (cnt (ST g) (k + 1) - 1) = nI k)
def FI (E F n : Nat) (low : Int) (sf sr sm : Int32) (X Y : Nat → Int32) : Prop := ∀ fn r, fn < 5 → r < 5 → sf = nI fn → sr = nI r → sm = nI (cnt (ST (fun c => RES E F n low fn c r)) n) ∧ FT (fun c => RES E F n low fn c r) n X Y
theorem find_loop {post : Int32 → Int32 → Int64 → Int32 → Int32 → Int32 → (Nat → Int32) → (Nat → Int32) → Prop} {E F b n fn r : Nat} {low : Int} {sf sr : Int32} (h : MK E F b n low) (hf : fn < 5) (hr : r < 5)
    (hp : ∀ (a1 a2 : Int32) (a3 : Int64) (X Y : Nat → Int32), FT (fun c => RES E F n low fn c r) n X Y → post a1 a2 a3 sf sr (nI (cnt (ST (fun c => RES E F n low fn c r)) n)) X Y) :
    ∀ (d c : Nat) (a1 a2 : Int32) (a3 : Int64) (X Y : Nat → Int32) (l : Int32), c + d = n → 1 ≤ c → (2 ≤ c → l = nI (RES E F n low fn (c - 1) r)) → FT (fun c => RES E F n low fn c r) c X Y →
      wp_X8_findSpans_37 post (nI F) (nI (n - 1)) (nI (2 ^ (E + F))) (iI low) (nI fn) (nI r) (d + 1) a1 a2 a3 sf sr (nI (cnt (ST (fun c => RES E F n low fn c r)) c)) X Y l (nI c) := by
  obtain ⟨m1, m2, m3, m4, m5, m6⟩ := MK_N h
  intro d
  induction d with
  | zero =>
    intro c a1 a2 a3 X Y l hc h1 hl hF
    rw [wp_X8_findSpans_37_s]
    unfold wp_X8_findSpans_37_b
    rw [nI_ltI (by omega) (by omega)]
    have e : c = n := by omega
    refine ⟨fun _ => ?_, fun q => absurd (by omega) q⟩
    rw [e] at hF ⊢
    exact hp _ _ _ _ _ hF
  | succ d ih =>
    intro c a1 a2 a3 X Y l hc h1 hl hF
    obtain ⟨f1, f2⟩ := hF
    have cb := cnt_le (ST (fun c => RES E F n low fn c r)) c
    have r1 := RES_le h fn c r
    have r2 := RES_le h fn (c - 1) r
    have kY : ∀ (Y' : Nat → Int32), Y' = upd Y (cnt (ST (fun c => RES E F n low fn c r)) (c + 1) - 1) (nI c) → ∀ k, 1 ≤ k → k < c + 1 → (k + 1 = c + 1 ∨ ST (fun c => RES E F n low fn c r) (k + 1) = true) → Y' (cnt (ST (fun c => RES E F n low fn c r)) (k + 1) - 1) = nI k := by
      intro Y' hY k k1 k2 k3
      rw [hY]
      by_cases e : k = c
      · rw [e]; exact upd_s _ _ _
      · have k3 : ST (fun c => RES E F n low fn c r) (k + 1) = true := by
          rcases k3 with k3 | k3
          · omega
          · exact k3
        have p1 := cnt_s1 k3
        have p2 := cnt_mono (ST (fun c => RES E F n low fn c r)) (show k + 1 + 1 ≤ c + 1 by omega)
        have p3 := cnt_ST1 (fun c => RES E F n low fn c r) (m := k + 1) (by omega)
        rw [upd_n (by omega)]
        exact f2 k k1 (by omega) (Or.inr k3)
    have K69 : ∀ (b1 b2 : Int32) (b3 : Int64), ST (fun c => RES E F n low fn c r) c = true → wp_X8_findSpans_69 post (wp_X8_findSpans_37 post (nI F) (nI (n - 1)) (nI (2 ^ (E + F))) (iI low) (nI fn) (nI r) (d + 1)) b1 b2 b3 sf sr (nI (cnt (ST (fun c => RES E F n low fn c r)) c)) X Y (nI c) (nI (RES E F n low fn c r)) := by
      intro b1 b2 b3 q
      have e1 := cnt_s1 q
      unfold wp_X8_findSpans_69 wp_X8_findSpans_90
      rw [nI_1, nI_pred, cl_nI (by omega), nI_1]
      refine ⟨vp_in_nI (by omega) (by omega), vp_in_nI (by omega) (by omega), ?_⟩
      rw [← e1]
      refine ih (c + 1) _ _ _ _ _ _ (by omega) (by omega) (fun _ => rfl) ⟨?_, kY _ (by rw [e1, Nat.add_sub_cancel])⟩
      intro k k1 k2
      by_cases e : k = c
      · rw [e]; exact upd_s _ _ _
      · have := cnt_lt (P := ST (fun c => RES E F n low fn c r)) (show k < c by omega) k2
        rw [upd_n (by omega)]
        exact f1 k (by omega) k2
    have K90 : ∀ (b1 b2 : Int32) (b3 : Int64), ¬ ST (fun c => RES E F n low fn c r) c = true → wp_X8_findSpans_90 post (wp_X8_findSpans_37 post (nI F) (nI (n - 1)) (nI (2 ^ (E + F))) (iI low) (nI fn) (nI r) (d + 1)) b1 b2 b3 sf sr (nI (cnt (ST (fun c => RES E F n low fn c r)) c)) X Y (nI c) (nI (RES E F n low fn c r)) := by
      intro b1 b2 b3 q
      have e1 := cnt_s0 q
      have hc2 : 2 ≤ c := by
        by_cases e : c = 1
        · subst e; exact absurd (ST_1 _) q
        · omega
      have p3 := cnt_ST1 (fun c => RES E F n low fn c r) (m := c) hc2
      unfold wp_X8_findSpans_90
      rw [show (1 : Int32) = nI 1 from rfl, pk_sub (by omega), cl_nI (by omega), nI_add]
      refine ⟨vp_in_nI (by omega) (by omega), ?_⟩
      rw [← e1]
      refine ih (c + 1) _ _ _ _ _ _ (by omega) (by omega) (fun _ => rfl) ⟨?_, kY _ rfl⟩
      intro k k1 k2
      by_cases e : k = c
      · rw [e] at k2; exact absurd k2 q
      · exact f1 k (by omega) k2
    rw [wp_X8_findSpans_37_s]
    unfold wp_X8_findSpans_37_b
    rw [nI_ltI (by omega) (by omega)]
    refine ⟨fun q => by omega, fun _ => X8_rightOf h hf (by omega) hr (fun b1 b2 b3 => ?_)⟩
    try dsimp only
    rw [eqL (y := 0) (b := 0) (by omega) (by omega) rfl]
    by_cases e : c = 1
    · have q : ST (fun c => RES E F n low fn c r) c = true := by rw [e]; exact ST_1 _
      have z : cnt (ST (fun c => RES E F n low fn c r)) c = 0 := by rw [e]; exact cnt_s0 (P := ST (fun c => RES E F n low fn c r)) (c := 0) (by rw [ST_0]; decide)
      exact ⟨fun _ => K69 _ _ _ q, fun w => absurd z w⟩
    · have z := cnt_ST1 (fun c => RES E F n low fn c r) (m := c) (by omega)
      have sc := ST_c (g := fun c => RES E F n low fn c r) (c := c) (by omega)
      rw [hl (by omega), nI_eq (by omega) (by omega)]
      exact ⟨fun w => by omega, fun _ => ⟨fun w => K90 _ _ _ (fun v => sc.mp v w), fun w => K69 _ _ _ (sc.mpr w)⟩⟩
theorem X8_findSpans {post : Int32 → Int32 → Int64 → Int32 → Int32 → Int32 → (Nat → Int32) → (Nat → Int32) → Prop} {E F b n fn r : Nat} {low : Int} {sf sr sm a1 a2 : Int32} {a3 : Int64} {X Y : Nat → Int32} (h : MK E F b n low) (hf : fn < 5) (hr : r < 5) (hI : FI E F n low sf sr sm X Y)
    (hp : ∀ (a1 a2 : Int32) (a3 : Int64) (X Y : Nat → Int32), FI E F n low (nI fn) (nI r) (nI (cnt (ST (fun c => RES E F n low fn c r)) n)) X Y → FT (fun c => RES E F n low fn c r) n X Y → post a1 a2 a3 (nI fn) (nI r) (nI (cnt (ST (fun c => RES E F n low fn c r)) n)) X Y) :
    wp_X8_findSpans post (nI F) (nI (n - 1)) (nI (2 ^ (E + F))) (iI low) a1 a2 a3 sf sr sm X Y (nI fn) (nI r) := by
  obtain ⟨m1, m2, m3, m4, m5, m6⟩ := MK_N h
  have hq : ∀ X Y, FT (fun c => RES E F n low fn c r) n X Y → FI E F n low (nI fn) (nI r) (nI (cnt (ST (fun c => RES E F n low fn c r)) n)) X Y := by
    intro X Y hF fn' r' hf' hr' e1 e2
    have e1 := (nI_eq (by omega) (by omega)).mp e1
    have e2 := (nI_eq (by omega) (by omega)).mp e2
    subst e1; subst e2
    exact ⟨rfl, hF⟩
  have K : wp_X8_findSpans_17 post (nI F) (nI (n - 1)) (nI (2 ^ (E + F))) (iI low) a1 a2 a3 X Y (nI fn) (nI r) := by
    refine ⟨n - 1 + 1, ?_⟩
    exact find_loop (post := post) h hf hr (fun b1 b2 b3 X Y hF => hp b1 b2 b3 X Y (hq X Y hF) hF) (n - 1) 1 a1 a2 a3 X Y (-1) (by omega) (by omega) (fun w => by omega) ⟨fun k k1 k2 => by rw [show k = 0 by omega, ST_0] at k2; exact absurd k2 (by decide), fun k k1 k2 => by omega⟩
  unfold wp_X8_findSpans
  refine ⟨fun _ => K, fun e1 => ⟨fun _ => K, fun e2 => ?_⟩⟩
  obtain ⟨k1, k2⟩ := hI fn r hf hr e1 e2
  rw [e1, e2, k1]
  exact hp _ _ _ _ _ (hq X Y k2) k2
