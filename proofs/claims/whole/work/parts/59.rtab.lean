/-! ===== the reference's tables ===== -/
theorem fe_wide {D : Nat → Nat} {U w w' : Int} (hD : ∀ z, D z ≤ 7936) (h1 : 1 ≤ U) (h2 : U ≤ 1024) (hw : 8127487 ≤ w) (hw' : 8127487 ≤ w') (f k : Nat) : fe D U w f k ↔ fe D U w' f k := by
  cases k with
  | zero => exact ⟨fun _ => by show -w' ≤ w'; omega, fun _ => by show -w ≤ w; omega⟩
  | succ k => unfold fe; rw [(g_wide hD h1 h2 hw hw' f k).1, (g_wide hD h1 h2 hw hw' f k).2]
theorem SL_w {w : Int} (h : 0 ≤ w) : SL (-w) w = 0 := by
  unfold SL; (repeat' split) <;> omega
theorem bb_wide {D : Nat → Nat} {U w w' : Int} (hD : ∀ z, D z ≤ 7936) (h1 : 1 ≤ U) (h2 : U ≤ 1024) (hw : 8127487 ≤ w) (hw' : 8127487 ≤ w') (f e : Nat) : bb D U w f e = bb D U w' f e := by
  unfold bb
  generalize e - f - 1 = k
  cases k with
  | zero => show SL (-w) w = SL (-w') w'; rw [SL_w (by omega), SL_w (by omega)]
  | succ k => rw [(g_wide hD h1 h2 hw hw' f k).1, (g_wide hD h1 h2 hw hw' f k).2]
def MR (D : Nat → Nat) (U w : Int) (P : Nat) (fr : Nat → Nat) (Pr Qr : Nat → Int32) (Ar Br : Nat → Int64) : Prop := ∀ i, i < P → Pr i = nI (fr i) ∧ Qr i = nI (fr (i + 1) - 1) ∧ Ar i = lI (aa D U w (fr i) (fr (i + 1))) ∧ Br i = lI (bb D U w (fr i) (fr (i + 1)))
theorem MR_add {D : Nat → Nat} {U w : Int} {P e : Nat} {fr : Nat → Nat} {Pr Qr : Nat → Int32} {Ar Br : Nat → Int64} (h : MR D U w P fr Pr Qr Ar Br) : MR D U w (P + 1) (fun k => if k = P + 1 then e else fr k) (upd Pr P (nI (fr P))) (upd Qr P (nI (e - 1))) (vp_updL Ar P (lI (aa D U w (fr P) e))) (vp_updL Br P (lI (bb D U w (fr P) e))) := by
  intro i hi
  by_cases q : i = P
  · subst q
    rw [upd_s, upd_s, pk_uLs, pk_uLs]
    simp
  · obtain ⟨a, b, c, d⟩ := h i (by omega)
    have e1 : ¬ i = P + 1 := by omega
    have e2 : ¬ i + 1 = P + 1 := by omega
    rw [upd_n q, upd_n q, pk_uLn q, pk_uLn q]
    simp only [e1, e2, if_false]
    exact ⟨a, b, c, d⟩
theorem X8_lays {post : (Nat → Int32) → (Nat → Int32) → (Nat → Int64) → (Nat → Int64) → Prop} {P : Nat} {Pr Qr : Nat → Int32} {Ar Br : Nat → Int64} {x y : Int32} {a b : Int64} (hP : P < 256) (hp : post (upd Pr P x) (upd Qr P y) (vp_updL Ar P a) (vp_updL Br P b)) : wp_X8_lays post (nI P) Pr Qr Ar Br x y a b := by
  unfold wp_X8_lays
  rw [cl_nI (by omega)]
  have v := vp_in_nI hP (by omega)
  exact ⟨v, v, v, v, hp⟩
section
variable {D : Nat → Nat} {Dr : Nat → Int64} {s f Z P : Nat} {Pr Qr : Nat → Int32} {Ar Br : Nat → Int64}
theorem l230 {post : Int32 → (Nat → Int32) → (Nat → Int32) → (Nat → Int64) → (Nat → Int64) → Prop} {e : Nat} {b : Int} (hs : s ≤ 10) (he : e ≤ 256) (hP : P < 256) (hfe : f < e) (hD : ∀ z, D z ≤ 7936) (hr : ∀ y, y < e → Dr y = lI ((D y : Int) * uI s)) (b1 : -8127487 ≤ b) (b2 : b ≤ 8127487)
    (hp : post (nI e) (upd Pr P (nI f)) (upd Qr P (nI (e - 1))) (vp_updL Ar P (lI (am D (uI s) b f (vv D (uI s) b f) (e - f)))) (vp_updL Br P (lI b))) :
    ∀ (d k : Nat), f + k + d = e → wp_X8_line_230 post (nI P) Dr (nI f) (d + 1) Pr Qr Ar Br (nI e) (lI b) (lI (am D (uI s) b f (vv D (uI s) b f) k)) (nI (f + k)) := by
  obtain ⟨u1, u2⟩ := uI_b hs
  have vf := vv_b hD u1 u2 b1 b2 (z := f) (by omega)
  intro d
  induction d with
  | zero =>
    intro k hk
    rw [wp_X8_line_230_s]
    unfold wp_X8_line_230_b
    rw [nI_leI (by omega) (by omega), show (1 : Int32) = nI 1 from rfl, pk_sub (by omega)]
    rw [show e - f = k by omega] at hp
    exact ⟨fun _ => X8_lays hP hp, fun q => absurd (by omega) q⟩
  | succ d ih =>
    intro k hk
    have vb := vv_b hD u1 u2 b1 b2 (z := f + k) (by omega)
    have ab : sL (am D (uI s) b f (vv D (uI s) b f) k) := by
      cases k with
      | zero => exact ⟨by show _ ≤ vv D (uI s) b f; omega, by show vv D (uI s) b f < _; omega⟩
      | succ k =>
        have := am_b hD u1 u2 b1 b2 (a0 := MIN) (by decide) f k (by omega)
        rw [am_0 (a0 := MIN) (by show (-9223372036854775808 : Int) ≤ _; omega)] at this
        exact ⟨by omega, by omega⟩
    rw [wp_X8_line_230_s]
    unfold wp_X8_line_230_b
    rw [nI_leI (by omega) (by omega), cl_nI (by omega), hr (f + k) (by omega), nl_l (by omega), lI_mul, lI_sub, nI_1]
    refine ⟨fun q => by omega, fun _ => ⟨vp_in_nI (by omega) (by omega), ?_⟩⟩
    show wp_X8_line_230 post (nI P) Dr (nI f) (d + 1) Pr Qr Ar Br (nI e) (lI b) (if lI (vv D (uI s) b (f + k)) < lI (am D (uI s) b f (vv D (uI s) b f) k) then lI (am D (uI s) b f (vv D (uI s) b f) k) else lI (vv D (uI s) b (f + k))) (nI (f + k + 1))
    rw [ifl ⟨by omega, by omega⟩ ab]
    exact ih (k + 1) (by omega)
/-- a line ends at e -/
theorem l35_0 {post : Int32 → (Nat → Int32) → (Nat → Int32) → (Nat → Int64) → (Nat → Int64) → Prop} {e m : Nat} {w : Int} {x3 : Int64} {x10 : Int32} (hx : x10 = 0) (hs : s ≤ 10) (he : e ≤ 256) (hP : P < 256) (hfe : f < e) (hD : ∀ z, D z ≤ 7936) (hr : ∀ y, y < e → Dr y = lI ((D y : Int) * uI s)) (w1 : 0 ≤ w) (w2 : w ≤ 1099511627776) (hF : fe D (uI s) w f (e - f - 1))
    (hp : post (nI e) (upd Pr P (nI f)) (upd Qr P (nI (e - 1))) (vp_updL Ar P (lI (aa D (uI s) w f e))) (vp_updL Br P (lI (bb D (uI s) w f e)))) :
    wp_X8_line_35 post (nI P) Dr (nI f) (nI Z) (m + 1) Pr Qr Ar Br x3 (lI (gL D (uI s) w f (e - f - 1))) (lI (gG D (uI s) w f (e - f - 1))) (nI e) x10 := by
  obtain ⟨u1, u2⟩ := uI_b hs
  have a := gL_b hD u1 u2 w1 f (e - f - 1)
  have c := gG_b hD u1 u2 w1 f (e - f - 1)
  have b := bb_b hD u1 u2 w1 hF
  have vf := vv_b hD u1 u2 b.1 b.2 (z := f) (by omega)
  obtain ⟨s1, s2, s3⟩ := SL_1 hF
  have K : wp_X8_line_211 post (nI P) Pr Qr Ar Br Dr (nI f) (nI e) (lI (bb D (uI s) w f e)) := by
    unfold wp_X8_line_211
    rw [cl_nI (by omega), hr f hfe, nl_l (by omega), lI_mul, lI_sub]
    refine ⟨vp_in_nI (by omega) (by omega), ⟨e - f + 1, ?_⟩⟩
    refine l230 hs he hP hfe hD hr b.1 b.2 ?_ (e - f) 0 (by omega)
    have e1 : aa D (uI s) w f e = am D (uI s) (bb D (uI s) w f e) f (vv D (uI s) (bb D (uI s) w f e) f) (e - f) := by
      unfold aa
      have := am_0 (D := D) (U := uI s) (b := bb D (uI s) w f e) (a0 := MIN) (f := f) (by show (-9223372036854775808 : Int) ≤ _; omega) (e - f - 1)
      rw [show e - f - 1 + 1 = e - f by omega] at this
      exact this
    rw [e1] at hp
    exact hp
  rw [wp_X8_line_35_s]
  unfold wp_X8_line_35_b
  rw [lc_le, lc_ge, show (0 : Int64) = lI 0 from rfl, lI_le ⟨by omega, by omega⟩ ⟨by omega, by omega⟩, lI_le ⟨by omega, by omega⟩ ⟨by omega, by omega⟩]
  refine ⟨fun _ => ⟨fun q1 => ⟨fun q2 => ?_, fun q2 => ?_⟩, fun q1 => ?_⟩, fun q => absurd hx q⟩
  · have := s1 q1 q2; unfold bb at K; rw [this] at K; exact K
  · have := s2 q1 q2; unfold bb at K; rw [this] at K; exact K
  · have := s3 q1; unfold bb at K; rw [this] at K; exact K
theorem l51 {post : Int32 → (Nat → Int32) → (Nat → Int32) → (Nat → Int64) → (Nat → Int64) → Prop} {K35 : (Nat → Int32) → (Nat → Int32) → (Nat → Int64) → (Nat → Int64) → Int64 → Int64 → Int64 → Int32 → Int32 → Prop} {z : Nat} {l g : Int} (hs : s ≤ 10) (hz : z < Z) (hZ : Z ≤ 256) (hD : ∀ z, D z ≤ 7936) (hr : ∀ y, y < Z → Dr y = lI ((D y : Int) * uI s)) (l1 : -1099511627776 ≤ l) (l2 : l ≤ 8127487) (g1 : g ≤ 1099511627776) (g2 : -8127487 ≤ g)
    (hy : nl D (uI s) z f l (z - f) ≤ ng D (uI s) z f g (z - f) → (Z ≤ z + 1 → K35 Pr Qr Ar Br (lI (uI s)) (lI (nl D (uI s) z f l (z - f))) (lI (ng D (uI s) z f g (z - f))) (nI (z + 1)) 0) ∧ (¬ Z ≤ z + 1 → K35 Pr Qr Ar Br (lI (uI s)) (lI (nl D (uI s) z f l (z - f))) (lI (ng D (uI s) z f g (z - f))) (nI (z + 1)) 1))
    (hn : ¬ nl D (uI s) z f l (z - f) ≤ ng D (uI s) z f g (z - f) → K35 Pr Qr Ar Br (lI (uI s)) (lI l) (lI g) (nI z) 0) :
    ∀ (d k : Nat), f + k + d = z → wp_X8_line_51 post K35 Dr (nI Z) (d + 1) Pr Qr Ar Br (lI (uI s)) (lI l) (lI g) (nI z) (lI (nl D (uI s) z f l k)) (lI (ng D (uI s) z f g k)) (nI (f + k)) := by
  obtain ⟨u1, u2⟩ := uI_b hs
  intro d
  induction d with
  | zero =>
    intro k hk
    have a := nl_ge D (uI s) z f l k
    have a' := nl_le (D := D) (U := uI s) (z := z) (f := f) (l := l) (M := 8127487) l2 (k := k) (fun j hj => (lo_b hD u1 u2 (by omega)).2)
    have c := ng_le D (uI s) z f g k
    have c' := ng_ge (D := D) (U := uI s) (z := z) (f := f) (g := g) (M := -8127487) g2 (k := k) (fun j hj => (up_b hD u1 u2 (by omega)).1)
    rw [wp_X8_line_51_s]
    unfold wp_X8_line_51_b wp_X8_line_149 wp_X8_line_181
    rw [nI_leI (by omega) (by omega), lc_gt, lI_lt ⟨by omega, by omega⟩ ⟨by omega, by omega⟩, nI_1, nI_leI (by omega) (by omega)]
    rw [show z - f = k by omega] at hy hn
    refine ⟨fun _ => ⟨fun q => ⟨fun w => absurd rfl w, fun _ => hn (by omega)⟩, fun q => ⟨fun _ => ⟨fun w => (hy (by omega)).1 w, fun w => (hy (by omega)).2 w⟩, fun w => absurd w (by decide)⟩⟩, fun q => absurd (by omega) q⟩
  | succ d ih =>
    intro k hk
    have a := nl_ge D (uI s) z f l k
    have a' := nl_le (D := D) (U := uI s) (z := z) (f := f) (l := l) (M := 8127487) l2 (k := k) (fun j hj => (lo_b hD u1 u2 (by omega)).2)
    have c := ng_le D (uI s) z f g k
    have c' := ng_ge (D := D) (U := uI s) (z := z) (f := f) (g := g) (M := -8127487) g2 (k := k) (fun j hj => (up_b hD u1 u2 (by omega)).1)
    have e := du_b hD u1 u2 (f + k) z
    have lb := lo_b hD u1 u2 (show f + k < z by omega)
    have ub := up_b hD u1 u2 (show f + k < z by omega)
    rw [wp_X8_line_51_s]
    unfold wp_X8_line_51_b
    have v1 := vp_in_nI (n := z) (N := 256) (by omega) (by omega)
    have v2 := vp_in_nI (n := f + k) (N := 256) (by omega) (by omega)
    have x1 : ((D z : Int) * uI s - (D (f + k) : Int) * uI s + uI s - 1) = uI s - 1 + ((D z : Int) - D (f + k)) * uI s := by rw [Int.sub_mul]; omega
    have x2 : -((D z : Int) * uI s - (D (f + k) : Int) * uI s - uI s + 1) = uI s - 1 - ((D z : Int) - D (f + k)) * uI s := by rw [Int.sub_mul]; omega
    rw [nI_leI (by omega) (by omega), cl_nI (by omega), cl_nI (by omega), hr z (by omega), hr (f + k) (by omega), dfl (by omega) (by omega), show (1 : Int64) = lI 1 from rfl, lI_sub, lI_add, lI_sub, lI_sub, lI_add, lI_neg, x1, x2]
    refine ⟨fun q => by omega, fun _ => ⟨v1, v2, J9_fl (by omega) (by omega) (by omega) (by omega) ⟨v1, v2, J9_fl (by omega) (by omega) (by omega) (by omega) ?_⟩⟩⟩
    rw [lI_neg]
    show wp_X8_line_51 post K35 Dr (nI Z) (d + 1) Pr Qr Ar Br (lI (uI s)) (lI l) (lI g) (nI z) (if lI (lo D (uI s) (f + k) z) < lI (nl D (uI s) z f l k) then lI (nl D (uI s) z f l k) else lI (lo D (uI s) (f + k) z)) (if lI (up D (uI s) (f + k) z) < lI (ng D (uI s) z f g k) then lI (up D (uI s) (f + k) z) else lI (ng D (uI s) z f g k)) (nI (f + k) + 1)
    rw [ifl ⟨by omega, by omega⟩ ⟨by omega, by omega⟩, ifg ⟨by omega, by omega⟩ ⟨by omega, by omega⟩, nI_1]
    exact ih (k + 1) (by omega)
theorem l35 {post : Int32 → (Nat → Int32) → (Nat → Int32) → (Nat → Int64) → (Nat → Int64) → Prop} {w : Int} (hs : s ≤ 10) (hZ : Z ≤ 256) (hP : P < 256) (hD : ∀ z, D z ≤ 7936) (hr : ∀ y, y < Z → Dr y = lI ((D y : Int) * uI s)) (w1 : 0 ≤ w) (w2 : w ≤ 1099511627776)
    (hp : ∀ e, f < e → e ≤ Z → (∀ j, f + j < e → fe D (uI s) w f j) → (e = Z ∨ ¬ fe D (uI s) w f (e - f)) → post (nI e) (upd Pr P (nI f)) (upd Qr P (nI (e - 1))) (vp_updL Ar P (lI (aa D (uI s) w f e))) (vp_updL Br P (lI (bb D (uI s) w f e)))) :
    ∀ (d k : Nat) (x10 : Int32), f + (k + 1) + d = Z → (∀ j, j ≤ k → fe D (uI s) w f j) → (d = 0 → x10 = 0) → (0 < d → x10 = 1) → wp_X8_line_35 post (nI P) Dr (nI f) (nI Z) (d + 1) Pr Qr Ar Br (lI (uI s)) (lI (gL D (uI s) w f k)) (lI (gG D (uI s) w f k)) (nI (f + (k + 1))) x10 := by
  obtain ⟨u1, u2⟩ := uI_b hs
  intro d
  induction d with
  | zero =>
    intro k x10 hk hj h0 h1
    have ek : f + (k + 1) - f - 1 = k := by omega
    have := l35_0 (post := post) (Z := Z) (m := 0) (e := f + (k + 1)) (x3 := lI (uI s)) (w := w) (Pr := Pr) (Qr := Qr) (Ar := Ar) (Br := Br) (h0 rfl) hs (by omega) hP (by omega) hD (fun y hy => hr y (by omega)) w1 w2 (by rw [ek]; exact hj k (Nat.le_refl _)) (hp (f + (k + 1)) (by omega) (by omega) (fun j hjj => hj j (by omega)) (Or.inl (by omega)))
    rw [ek] at this
    exact this
  | succ d ih =>
    intro k x10 hk hj h0 h1
    have ek : f + (k + 1) - f - 1 = k := by omega
    have a := gL_b hD u1 u2 w1 f k
    have c := gG_b hD u1 u2 w1 f k
    rw [wp_X8_line_35_s]
    unfold wp_X8_line_35_b
    have x1 := h1 (by omega)
    refine ⟨fun q => by rw [x1] at q; exact absurd q (by decide), fun _ => ⟨f + (k + 1) - f + 1, ?_⟩⟩
    refine l51 (post := post) (z := f + (k + 1)) hs (by omega) hZ hD hr (by omega) (by omega) (by omega) (by omega) (fun q => ?_) (fun q => ?_) (f + (k + 1) - f) 0 (by omega)
    · rw [show f + (k + 1) - f = k + 1 by omega] at q ⊢
      have hj' : ∀ j, j ≤ k + 1 → fe D (uI s) w f j := by
        intro j hjj
        by_cases e : j = k + 1
        · rw [e]; exact q
        · exact hj j (by omega)
      refine ⟨fun v => ih (k + 1) 0 (by omega) hj' (fun _ => rfl) (fun v' => by omega), fun v => ih (k + 1) 1 (by omega) hj' (fun v' => by omega) (fun _ => rfl)⟩
    · have := l35_0 (post := post) (Z := Z) (m := d) (e := f + (k + 1)) (x3 := lI (uI s)) (x10 := 0) (w := w) (Pr := Pr) (Qr := Qr) (Ar := Ar) (Br := Br) rfl hs (by omega) hP (by omega) hD (fun y hy => hr y (by omega)) w1 w2 (by rw [ek]; exact hj k (Nat.le_refl _)) (hp (f + (k + 1)) (by omega) (by omega) (fun j hjj => hj j (by omega)) (Or.inr (by
        rw [show f + (k + 1) - f = k + 1 by omega] at q ⊢; exact q)))
      rw [ek] at this
      exact this
theorem X8_line {post : Int32 → (Nat → Int32) → (Nat → Int32) → (Nat → Int64) → (Nat → Int64) → Prop} (hs : s ≤ 10) (hZ : Z ≤ 256) (hP : P < 256) (hf : f < Z) (hD : ∀ z, D z ≤ 7936) (hr : ∀ y, y < Z → Dr y = lI ((D y : Int) * uI s))
    (hp : ∀ e, f < e → e ≤ Z → (∀ j, f + j < e → fe D (uI s) (wid 1) f j) → (e = Z ∨ ¬ fe D (uI s) (wid 1) f (e - f)) → post (nI e) (upd Pr P (nI f)) (upd Qr P (nI (e - 1))) (vp_updL Ar P (lI (aa D (uI s) (wid 1) f e))) (vp_updL Br P (lI (bb D (uI s) (wid 1) f e)))) :
    wp_X8_line post (nI P) (nI s) Pr Qr Ar Br Dr (nI f) (nI Z) := by
  obtain ⟨u1, u2⟩ := uI_b hs
  have e1 : (-1000000000000 : Int64) = lI (gL D (uI s) 1000000000000 f 0) := rfl
  have e2 : (1000000000000 : Int64) = lI (gG D (uI s) 1000000000000 f 0) := rfl
  have hq : ∀ e, f < e → e ≤ Z → (∀ j, f + j < e → fe D (uI s) 1000000000000 f j) → (e = Z ∨ ¬ fe D (uI s) 1000000000000 f (e - f)) → post (nI e) (upd Pr P (nI f)) (upd Qr P (nI (e - 1))) (vp_updL Ar P (lI (aa D (uI s) 1000000000000 f e))) (vp_updL Br P (lI (bb D (uI s) 1000000000000 f e))) := by
    intro e a1 a2 a3 a4
    have fw := fun k => fe_wide (w := 1000000000000) (w' := wid 1) hD u1 u2 (by omega) (by show (8127487 : Int) ≤ 1099511627776; omega) f k
    have bw := bb_wide (w := 1000000000000) (w' := wid 1) hD u1 u2 (by omega) (by show (8127487 : Int) ≤ 1099511627776; omega) f e
    have aw : aa D (uI s) 1000000000000 f e = aa D (uI s) (wid 1) f e := by unfold aa; rw [bw]
    rw [aw, bw]
    refine hp e a1 a2 (fun j hj => (fw j).mp (a3 j hj)) ?_
    rcases a4 with a4 | a4
    · exact Or.inl a4
    · exact Or.inr (fun v => a4 ((fw _).mpr v))
  unfold wp_X8_line wp_X8_line_33
  rw [us (by omega), nI_1, nI_leI (by omega) (by omega), e1, e2]
  have j0 : ∀ j, j ≤ 0 → fe D (uI s) 1000000000000 f j := by
    intro j hj
    rw [show j = 0 by omega]
    show (-1000000000000 : Int) ≤ 1000000000000
    omega
  refine ⟨fun q => ⟨Z - (f + 1) + 1, ?_⟩, fun q => ⟨Z - (f + 1) + 1, ?_⟩⟩
  · exact l35 hs hZ hP hD hr (by omega) (by omega) hq (Z - (f + 1)) 0 0 (by omega) j0 (fun _ => rfl) (fun v => by omega)
  · exact l35 hs hZ hP hD hr (by omega) (by omega) hq (Z - (f + 1)) 0 1 (by omega) j0 (fun v => by omega) (fun _ => rfl)
theorem am_flat {U : Int} {k : Nat} (hM : MIN ≤ (D f : Int) * U) (h : ∀ j, j < k + 1 → D (f + j) = D f) : am D U 0 f MIN (k + 1) = (D f : Int) * U := by
  have v : ∀ j, j < k + 1 → vv D U 0 (f + j) = (D f : Int) * U := by
    intro j hj; unfold vv; rw [h j hj]; omega
  induction k with
  | zero =>
    show (if vv D U 0 (f + 0) < MIN then MIN else vv D U 0 (f + 0)) = _
    rw [v 0 (by omega), if_neg (by omega)]
  | succ k ih =>
    have i := ih (fun j hj => h j (by omega)) (fun j hj => v j (by omega))
    show (if vv D U 0 (f + (k + 1)) < am D U 0 f MIN (k + 1) then am D U 0 f MIN (k + 1) else vv D U 0 (f + (k + 1))) = _
    rw [i, v (k + 1) (by omega), if_neg (by omega)]
theorem flat_loop {post : Int32 → (Nat → Int32) → (Nat → Int32) → (Nat → Int64) → (Nat → Int64) → Prop} (hs : s ≤ 10) (hZ : Z ≤ 256) (hP : P < 256) (hf : f < Z) (hD : ∀ z, D z ≤ 7936) (hr : ∀ y, y < Z → Dr y = lI ((D y : Int) * uI s))
    (hp : ∀ e, f < e → e ≤ Z → (∀ j, f + j < e → fe D (uI s) (wid 0) f j) → (e = Z ∨ ¬ fe D (uI s) (wid 0) f (e - f)) → post (nI e) (upd Pr P (nI f)) (upd Qr P (nI (e - 1))) (vp_updL Ar P (lI (aa D (uI s) (wid 0) f e))) (vp_updL Br P (lI (bb D (uI s) (wid 0) f e)))) :
    ∀ (d k : Nat), f + k + d = Z → (∀ j, j < k → D (f + j) = D f) → wp_X8_flat_2 post (nI P) Dr (nI f) (nI Z) (d + 1) Pr Qr Ar Br (nI (f + k)) := by
  obtain ⟨u1, u2⟩ := uI_b hs
  have K29 : ∀ k, f + (k + 1) ≤ Z → (∀ j, j < k + 1 → D (f + j) = D f) → (f + (k + 1) = Z ∨ ¬ D (f + (k + 1)) = D f) → wp_X8_flat_29 post (nI P) Pr Qr Ar Br Dr (nI f) (nI (f + (k + 1))) := by
    intro k hk hj he
    have fy : ∀ i, i ≤ k → gL D (uI s) 0 f i = 0 ∧ gG D (uI s) 0 f i = 0 := fun i hi => flat_y u1 (fun j hjj => hj j (by omega))
    have eb : bb D (uI s) (wid 0) f (f + (k + 1)) = 0 := by
      show SL (gL D (uI s) 0 f (f + (k + 1) - f - 1)) (gG D (uI s) 0 f (f + (k + 1) - f - 1)) = 0
      rw [show f + (k + 1) - f - 1 = k by omega, (fy k (Nat.le_refl _)).1, (fy k (Nat.le_refl _)).2]; rfl
    have n0 : 0 ≤ (D f : Int) * uI s := Int.mul_nonneg (by omega) (by omega)
    have ea : aa D (uI s) (wid 0) f (f + (k + 1)) = (D f : Int) * uI s := by
      unfold aa
      rw [eb, show f + (k + 1) - f = k + 1 by omega]
      exact am_flat (by show (-9223372036854775808 : Int) ≤ _; omega) hj
    unfold wp_X8_flat_29
    rw [cl_nI (by omega), hr f hf, show (1 : Int32) = nI 1 from rfl, pk_sub (by omega)]
    refine ⟨vp_in_nI (by omega) (by omega), X8_lays hP ?_⟩
    have := hp (f + (k + 1)) (by omega) hk (fun j hjj => by show gL D (uI s) 0 f j ≤ gG D (uI s) 0 f j; rw [(fy j (by omega)).1, (fy j (by omega)).2]; exact Int.le_refl _) (by
      rcases he with he | he
      · exact Or.inl he
      · refine Or.inr ?_
        rw [show f + (k + 1) - f = k + 1 by omega]
        exact flat_n u1 (fun j hjj => hj j (by omega)) he)
    rw [ea, eb] at this
    exact this
  intro d
  induction d with
  | zero =>
    intro k hk hj
    rw [wp_X8_flat_2_s]
    unfold wp_X8_flat_2_b
    rw [nI_leI (by omega) (by omega)]
    refine ⟨fun _ => ?_, fun q => absurd (by omega) q⟩
    have := K29 (k - 1) (by omega) (fun j hjj => hj j (by omega)) (Or.inl (by omega))
    rw [show k - 1 + 1 = k by omega] at this
    exact this
  | succ d ih =>
    intro k hk hj
    have a1 : 0 ≤ (D (f + k) : Int) * uI s ∧ (D (f + k) : Int) * uI s ≤ 7936 * uI s := ⟨Int.mul_nonneg (by omega) (by omega), Int.mul_le_mul_of_nonneg_right (by have := hD (f + k); omega) (by omega)⟩
    have a2 : 0 ≤ (D f : Int) * uI s ∧ (D f : Int) * uI s ≤ 7936 * uI s := ⟨Int.mul_nonneg (by omega) (by omega), Int.mul_le_mul_of_nonneg_right (by have := hD f; omega) (by omega)⟩
    rw [wp_X8_flat_2_s]
    unfold wp_X8_flat_2_b
    rw [nI_leI (by omega) (by omega), cl_nI (by omega), cl_nI (by omega), hr (f + k) (by omega), hr f hf, lc_eq, lI_eq ⟨by omega, by omega⟩ ⟨by omega, by omega⟩, nI_1]
    refine ⟨fun q => by omega, fun _ => ⟨vp_in_nI (by omega) (by omega), vp_in_nI (by omega) (by omega), fun q => ?_, fun q => ?_⟩⟩
    · by_cases k0 : k = 0
      · subst k0; exact absurd rfl q
      · have := K29 (k - 1) (by omega) (fun j hjj => hj j (by omega)) (Or.inr (by
          rw [show k - 1 + 1 = k by omega]
          intro v; rw [v] at q; exact q rfl))
        rw [show k - 1 + 1 = k by omega] at this
        exact this
    · have q2 : (D (f + k) : Int) = D f := Int.eq_of_mul_eq_mul_right (by omega) q
      refine ih (k + 1) (by omega) (fun j hjj => ?_)
      by_cases e : j = k
      · rw [e]; omega
      · exact hj j (by omega)
end
theorem t135 {post : Int32 → Int32 → Int32 → Int64 → Int32 → Int32 → (Nat → Int32) → (Nat → Int32) → (Nat → Int32) → (Nat → Int64) → (Nat → Int64) → (Nat → Int64) → Prop} {D : Nat → Nat} {Dr : Nat → Int64} {s Z deg : Nat} {R : Nat → Int32} {a1 a2 : Int32} {a3 : Int64} (hs : s ≤ 10) (hZ : Z ≤ 256) (hd : deg < 2) (hD : ∀ z, D z ≤ 7936) (hr : ∀ y, y < Z → Dr y = lI ((D y : Int) * uI s))
    (hp : ∀ (P : Nat) (fr : Nat → Nat) (Pr Qr : Nat → Int32) (Ar Br : Nat → Int64), CH (fe D (uI s) (wid deg)) Z P fr → fr P = Z → MR D (uI s) (wid deg) P fr Pr Qr Ar Br → post (nI P) a1 a2 a3 (nI P) (nI s) R Pr Qr Ar Br Dr) :
    ∀ (d P f : Nat) (fr : Nat → Nat) (Pr Qr : Nat → Int32) (Ar Br : Nat → Int64), Z ≤ f + d → f ≤ Z → CH (fe D (uI s) (wid deg)) Z P fr → fr P = f → MR D (uI s) (wid deg) P fr Pr Qr Ar Br →
      wp_X8_table_135 post (nI deg) (d + 1) a1 a2 a3 (nI P) (nI s) R Pr Qr Ar Br Dr (nI Z) (nI f) := by
  intro d
  induction d with
  | zero =>
    intro P f fr Pr Qr Ar Br hf hfz hC he hM
    rw [wp_X8_table_135_s]
    unfold wp_X8_table_135_b
    rw [nI_leI (by omega) (by omega)]
    exact ⟨fun _ => hp P fr Pr Qr Ar Br hC (by omega) hM, fun q => absurd (by omega) q⟩
  | succ d ih =>
    intro P f fr Pr Qr Ar Br hf hfz hC he hM
    have hPf := CH_ge hC P (Nat.le_refl _)
    rw [wp_X8_table_135_s]
    unfold wp_X8_table_135_b
    rw [nI_leI (by omega) (by omega), eqL (y := 0) (b := 0) (by omega) (by omega) rfl]
    have nx : ∀ e, f < e → e ≤ Z → (∀ j, f + j < e → fe D (uI s) (wid deg) f j) → (e = Z ∨ ¬ fe D (uI s) (wid deg) f (e - f)) → wp_X8_table_166 post (wp_X8_table_135 post (nI deg) (d + 1)) a1 a2 a3 (nI P) (nI s) R (upd Pr P (nI f)) (upd Qr P (nI (e - 1))) (vp_updL Ar P (lI (aa D (uI s) (wid deg) f e))) (vp_updL Br P (lI (bb D (uI s) (wid deg) f e))) Dr (nI Z) (nI e) := by
      intro e b1 b2 b3 b4
      unfold wp_X8_table_166
      rw [nI_1]
      subst he
      exact ih (P + 1) e (fun k => if k = P + 1 then e else fr k) _ _ _ _ (by omega) b2 (CH_add hC b1 b2 b3 b4) (by simp) (MR_add hM)
    refine ⟨fun q => hp P fr Pr Qr Ar Br hC (by omega) hM, fun q => ⟨fun v => ?_, fun v => ?_⟩⟩
    · have e1 : deg = 1 := by omega
      subst e1
      exact X8_line hs hZ (by omega) (by omega) hD hr nx
    · subst v
      exact ⟨Z - f + 1, flat_loop hs hZ (by omega) (by omega) hD hr nx (Z - f) 0 (by omega) (fun j hj => by omega)⟩
theorem t93 {post : Int32 → Int32 → Int32 → Int64 → Int32 → Int32 → (Nat → Int32) → (Nat → Int32) → (Nat → Int32) → (Nat → Int64) → (Nat → Int64) → (Nat → Int64) → Prop} {E F b n fn r p : Nat} {low : Int} {D : Nat → Nat} {s deg : Nat} {R Pr Qr : Nat → Int32} {Ar Br : Nat → Int64} (h : MK E F b n low) (hf : fn < 5) (hr : r < 5) (hpp : p * 2 ^ F + 2 ^ F ≤ n) (hs : s ≤ 10) (hd : deg < 2) (hD : ∀ z, D z ≤ 7936) (hDr : ∀ z, z < 2 ^ F → D z = RES E F n low fn (p * 2 ^ F + z) r)
    (hp : ∀ (a1 a2 : Int32) (a3 : Int64) (P : Nat) (fr : Nat → Nat) (Pr Qr : Nat → Int32) (Ar Br Dr : Nat → Int64), CH (fe D (uI s) (wid deg)) (2 ^ F) P fr → fr P = 2 ^ F → MR D (uI s) (wid deg) P fr Pr Qr Ar Br → post (nI P) a1 a2 a3 (nI P) (nI s) R Pr Qr Ar Br Dr) :
    ∀ (d z : Nat) (a1 a2 : Int32) (a3 : Int64) (Dr : Nat → Int64), z + d = 2 ^ F → (∀ y, y < z → Dr y = lI ((D y : Int) * uI s)) →
      wp_X8_table_93 post (nI F) (nI (n - 1)) (nI (2 ^ (E + F))) (iI low) (nI fn) (nI r) (nI p) (nI deg) (nI s) (d + 1) a1 a2 a3 0 (nI s) R Pr Qr Ar Br Dr (nI (2 ^ F)) (nI z) := by
  obtain ⟨m1, m2, m3, m4, m5, m6⟩ := MK_N h
  have hF := h.2.1
  have hZ : 2 ^ F ≤ 2 ^ 8 := Nat.pow_le_pow_right (by omega) hF
  intro d
  induction d with
  | zero =>
    intro z a1 a2 a3 Dr hz hdr
    rw [wp_X8_table_93_s]
    unfold wp_X8_table_93_b
    rw [nI_leI (by omega) (by omega)]
    refine ⟨fun _ => ⟨2 ^ F + 1, ?_⟩, fun q => absurd (by omega) q⟩
    exact t135 hs (by omega) hd hD (fun y hy => hdr y (by omega)) (fun P fr Pr Qr Ar Br c1 c2 c3 => hp a1 a2 a3 P fr Pr Qr Ar Br Dr c1 c2 c3) (2 ^ F) 0 0 (fun _ => 0) Pr Qr Ar Br (by omega) (by omega) ⟨rfl, fun i hi => by omega⟩ rfl (fun i hi => by omega)
  | succ d ih =>
    intro z a1 a2 a3 Dr hz hdr
    rw [wp_X8_table_93_s]
    unfold wp_X8_table_93_b
    rw [nI_leI (by omega) (by omega), sh_l (by omega) (by omega), nI_add, cl_nI (by omega), nI_1]
    refine ⟨fun q => by omega, fun _ => X8_rightOf h hf (by omega) hr (fun b1 b2 b3 => ⟨vp_in_nI (by omega) (by omega), ?_⟩)⟩
    have rl := RES_le h fn (p * 2 ^ F + z) r
    rw [ds (by omega) (by omega), ← hDr z (by omega)]
    refine ih (z + 1) _ _ _ _ (by omega) (fun y hy => ?_)
    by_cases e : y = z
    · rw [e, pk_uLs]
    · rw [pk_uLn e]; exact hdr y (by omega)
