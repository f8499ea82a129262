/-! ===== HardBench$Lines ===== -/
abbrev uI (s : Nat) : Int := ((2 ^ s : Nat) : Int)
theorem uI_b {s : Nat} (hs : s ≤ 10) : 1 ≤ uI s ∧ uI s ≤ 1024 := by
  have a := p2p s
  have b : 2 ^ s ≤ 2 ^ 10 := Nat.pow_le_pow_right (by omega) hs
  exact ⟨by show (1 : Int) ≤ ((2 ^ s : Nat) : Int); omega, by show ((2 ^ s : Nat) : Int) ≤ 1024; omega⟩
theorem us {s : Nat} (hs : s < 64) : (1 : Int64) <<< ((nI s).toInt64 &&& 63) = lI (uI s) := by
  have h := wb_shl 1 hs
  rw [Nat.one_mul, lI_N (2 ^ s)] at h
  exact h
theorem ds {d s : Nat} (hd : d < 2147483648) (hs : s < 64) : (nI d).toInt64 <<< ((nI s).toInt64 &&& 63) = lI ((d : Int) * uI s) := by
  rw [nI_l (by omega), wb_shl d hs, lI_N, Int.natCast_mul]
theorem dfl {a b : Nat} (ha : a < 2147483648) (hb : b < 2147483648) : (nI a - nI b).toInt64 = lI ((a : Int) - b) := by
  rw [iI_N, iI_N, iI_sub, iI_l ⟨by omega, by omega⟩]
theorem nl_l {a : Nat} (ha : a < 2147483648) : (nI a).toInt64 = lI (a : Int) := by rw [nI_l (by omega), lI_N]
theorem ifl {a b : Int} (ha : sL a) (hb : sL b) : (if lI a < lI b then lI b else lI a) = lI (if a < b then b else a) := by
  by_cases q : a < b
  · rw [if_pos q, if_pos ((lI_lt ha hb).mpr q)]
  · rw [if_neg q, if_neg (fun w => q ((lI_lt ha hb).mp w))]
theorem ifg {a b : Int} (ha : sL a) (hb : sL b) : (if lI a < lI b then lI a else lI b) = lI (if a < b then a else b) := by
  by_cases q : a < b
  · rw [if_pos q, if_pos ((lI_lt ha hb).mpr q)]
  · rw [if_neg q, if_neg (fun w => q ((lI_lt ha hb).mp w))]
theorem slq {l g : Int} (hl : sL l) (hg : sL g) : (if (if (0 : Int64) < lI g then (0 : Int64) else lI g) < lI l then lI l else (if (0 : Int64) < lI g then (0 : Int64) else lI g)) = lI (SL l g) := by
  have e : (if (0 : Int64) < lI g then (0 : Int64) else lI g) = lI (if 0 < g then 0 else g) := ifg (a := 0) ⟨by omega, by omega⟩ hg
  rw [e, ifl (by split; exact ⟨by omega, by omega⟩; exact hg) hl]
  rfl
theorem X2_floorBy {post : Int64 → Prop} {x d : Int} (hx : -4611686018427387904 < x) (hx2 : x < 4611686018427387904) (hd : 0 < d) (hd2 : d < 4611686018427387904) (hp : post (lI (x / d))) : wp_X2_floorBy post (lI x) (lI d) := by
  unfold wp_X2_floorBy
  rw [lc_le, show (0 : Int64) = lI 0 from rfl, lI_le ⟨by omega, by omega⟩ ⟨by omega, by omega⟩]
  exact ⟨fun q => by omega, fun _ => J9_fl hx hx2 hd hd2 hp⟩
theorem narrow_loop {post : Int32 → Int64 → Int64 → Prop} {D : Nat → Nat} {dr : Nat → Int32} {s f z : Nat} {l g : Int} (hs : s ≤ 10) (hz : z < 256) (hD : ∀ z, D z ≤ 7936) (hr : ∀ y, y ≤ z → dr y = nI (D y)) (l1 : -1099511627776 ≤ l) (l2 : l ≤ 8127487) (g1 : g ≤ 1099511627776) (g2 : -8127487 ≤ g)
    (hy : nl D (uI s) z f l (z - f) ≤ ng D (uI s) z f g (z - f) → post 1 (lI (nl D (uI s) z f l (z - f))) (lI (ng D (uI s) z f g (z - f)))) (hn : ¬ nl D (uI s) z f l (z - f) ≤ ng D (uI s) z f g (z - f) → post 0 (lI l) (lI g)) :
    ∀ (d k : Nat), f + k + d = z → wp_X2_narrow_22 post dr (nI z) (d + 1) (lI l) (lI g) (lI (uI s)) (lI (nl D (uI s) z f l k)) (lI (ng D (uI s) z f g k)) (nI (f + k)) := by
  obtain ⟨u1, u2⟩ := uI_b hs
  intro d
  induction d with
  | zero =>
    intro k hk
    have a := nl_ge D (uI s) z f l k
    have a' := nl_le (D := D) (U := uI s) (z := z) (f := f) (l := l) (M := 8127487) l2 (k := k) (fun j hj => (lo_b hD u1 u2 (by omega)).2)
    have c := ng_le D (uI s) z f g k
    have c' := ng_ge (D := D) (U := uI s) (z := z) (f := f) (g := g) (M := -8127487) g2 (k := k) (fun j hj => (up_b hD u1 u2 (by omega)).1)
    rw [wp_X2_narrow_22_s]
    unfold wp_X2_narrow_22_b
    rw [nI_leI (by omega) (by omega), lc_le, lI_le ⟨by omega, by omega⟩ ⟨by omega, by omega⟩]
    rw [show z - f = k by omega] at hy hn
    exact ⟨fun _ => ⟨hy, hn⟩, fun q => absurd (by omega) q⟩
  | succ d ih =>
    intro k hk
    have a := nl_ge D (uI s) z f l k
    have a' := nl_le (D := D) (U := uI s) (z := z) (f := f) (l := l) (M := 8127487) l2 (k := k) (fun j hj => (lo_b hD u1 u2 (by omega)).2)
    have c := ng_le D (uI s) z f g k
    have c' := ng_ge (D := D) (U := uI s) (z := z) (f := f) (g := g) (M := -8127487) g2 (k := k) (fun j hj => (up_b hD u1 u2 (by omega)).1)
    have e := du_b hD u1 u2 (f + k) z
    have lb := lo_b hD u1 u2 (show f + k < z by omega)
    have ub := up_b hD u1 u2 (show f + k < z by omega)
    have d1 := hD z
    have d2 := hD (f + k)
    rw [wp_X2_narrow_22_s]
    unfold wp_X2_narrow_22_b
    rw [nI_leI (by omega) (by omega)]
    refine ⟨fun q => by omega, fun _ => X4_at hz (by omega) (X4_at (by omega) (by omega) ?_)⟩
    rw [hr z (by omega), hr (f + k) (by omega), dfl (by omega) (by omega), dfl (by omega) (by omega), show (1 : Int64) = lI 1 from rfl, lI_sub, lI_mul, lI_sub, lI_add]
    refine X2_floorBy (by omega) (by omega) (by omega) (by omega) (X2_floorBy (by omega) (by omega) (by omega) (by omega) ?_)
    rw [lI_neg]
    show wp_X2_narrow_22 post dr (nI z) (d + 1) (lI l) (lI g) (lI (uI s)) (if lI (lo D (uI s) (f + k) z) < lI (nl D (uI s) z f l k) then lI (nl D (uI s) z f l k) else lI (lo D (uI s) (f + k) z)) (if lI (up D (uI s) (f + k) z) < lI (ng D (uI s) z f g k) then lI (up D (uI s) (f + k) z) else lI (ng D (uI s) z f g k)) (nI (f + k) + 1)
    rw [ifl ⟨by omega, by omega⟩ ⟨by omega, by omega⟩, ifg ⟨by omega, by omega⟩ ⟨by omega, by omega⟩, nI_1]
    exact ih (k + 1) (by omega)
theorem X2_narrow {post : Int32 → Int64 → Int64 → Prop} {D : Nat → Nat} {dr : Nat → Int32} {s f z : Nat} {l g : Int} (hs : s ≤ 10) (hz : z < 256) (hf : f ≤ z) (hD : ∀ z, D z ≤ 7936) (hr : ∀ y, y ≤ z → dr y = nI (D y)) (l1 : -1099511627776 ≤ l) (l2 : l ≤ 8127487) (g1 : g ≤ 1099511627776) (g2 : -8127487 ≤ g)
    (hy : nl D (uI s) z f l (z - f) ≤ ng D (uI s) z f g (z - f) → post 1 (lI (nl D (uI s) z f l (z - f))) (lI (ng D (uI s) z f g (z - f)))) (hn : ¬ nl D (uI s) z f l (z - f) ≤ ng D (uI s) z f g (z - f) → post 0 (lI l) (lI g)) : wp_X2_narrow post (nI s) (lI l) (lI g) dr (nI f) (nI z) := by
  unfold wp_X2_narrow
  rw [us (by omega)]
  exact ⟨z - f + 1, narrow_loop hs hz hD hr l1 l2 g1 g2 hy hn (z - f) 0 (by omega)⟩
abbrev MIN : Int := -9223372036854775808
theorem X2_least {post : Int64 → Prop} {D : Nat → Nat} {dr : Nat → Int32} {s z : Nat} {b : Int} (hs : s ≤ 10) (hz : z < 256) (hD : D z ≤ 7936) (hr : dr z = nI (D z)) (hp : post (lI (vv D (uI s) b z))) : wp_X2_leastStart post (nI s) dr (nI z) (lI b) := by
  unfold wp_X2_leastStart
  refine X4_at (by omega) (by omega) ?_
  rw [hr, ds (by omega) (by omega), nl_l (by omega), lI_mul, lI_sub]
  exact hp
theorem close_loop {post : Int32 → (Nat → Int32) → (Nat → Int32) → (Nat → Int32) → Prop} {D : Nat → Nat} {dr Fr Ar Br : Nat → Int32} {s f e P : Nat} {b : Int} (hs : s ≤ 10) (he : e ≤ 256) (hP : P < 256) (hfe : f < e) (hD : ∀ z, D z ≤ 7936) (hr : ∀ y, y < e → dr y = nI (D y)) (b1 : -8127487 ≤ b) (b2 : b ≤ 8127487)
    (hp : post (nI (P + 1)) (upd Fr P (nI f)) (upd Ar P (iI (am D (uI s) b f MIN (e - f)))) (upd Br P (iI b))) :
    ∀ (d k : Nat), f + (k + 1) + d = e → wp_X2_closePart_29 post (nI s) dr (nI f) (nI (e - 1)) (d + 1) (nI P) Fr Ar Br (lI b) (lI (am D (uI s) b f MIN (k + 1))) (nI (f + (k + 1))) := by
  obtain ⟨u1, u2⟩ := uI_b hs
  intro d
  induction d with
  | zero =>
    intro k hk
    rw [wp_X2_closePart_29_s]
    unfold wp_X2_closePart_29_b
    rw [nI_ltI (by omega) (by omega), lI_i, lI_i, nI_1]
    rw [show e - f = k + 1 by omega] at hp
    exact ⟨fun _ => X4_put hP (by omega) (X4_put hP (by omega) (X4_put hP (by omega) hp)), fun q => absurd (by omega) q⟩
  | succ d ih =>
    intro k hk
    have vb := vv_b hD u1 u2 b1 b2 (z := f + (k + 1)) (by omega)
    have ab := am_b hD u1 u2 b1 b2 (a0 := MIN) (by decide) f k (by omega)
    rw [wp_X2_closePart_29_s]
    unfold wp_X2_closePart_29_b
    rw [nI_ltI (by omega) (by omega)]
    refine ⟨fun q => by omega, fun _ => X2_least (D := D) hs (by omega) (hD _) (hr _ (by omega)) ?_⟩
    rw [nI_1, ifl ⟨by omega, by omega⟩ ⟨by omega, by omega⟩]
    exact ih (k + 1) (by omega)
def bb (D : Nat → Nat) (U w : Int) (f e : Nat) : Int := SL (gL D U w f (e - f - 1)) (gG D U w f (e - f - 1))
def aa (D : Nat → Nat) (U w : Int) (f e : Nat) : Int := am D U (bb D U w f e) f MIN (e - f)
theorem bb_b {D : Nat → Nat} {U w : Int} (hD : ∀ z, D z ≤ 7936) (h1 : 1 ≤ U) (h2 : U ≤ 1024) (hw : 0 ≤ w) {f e : Nat} (hf : fe D U w f (e - f - 1)) : -8127487 ≤ bb D U w f e ∧ bb D U w f e ≤ 8127487 :=
  SL_b (by omega) hf (gL_b hD h1 h2 hw f _).2 (gG_b hD h1 h2 hw f _).2
theorem X2_closePart {post : Int32 → (Nat → Int32) → (Nat → Int32) → (Nat → Int32) → Prop} {D : Nat → Nat} {dr Fr Ar Br : Nat → Int32} {s f e P : Nat} {w : Int} (hs : s ≤ 10) (he : e ≤ 256) (hP : P < 256) (hfe : f < e) (hD : ∀ z, D z ≤ 7936) (hr : ∀ y, y < e → dr y = nI (D y)) (w1 : 0 ≤ w) (w2 : w ≤ 1099511627776) (hF : fe D (uI s) w f (e - f - 1))
    (hp : post (nI (P + 1)) (upd Fr P (nI f)) (upd Ar P (iI (aa D (uI s) w f e))) (upd Br P (iI (bb D (uI s) w f e)))) :
    wp_X2_closePart post (nI P) (nI s) (lI (gL D (uI s) w f (e - f - 1))) (lI (gG D (uI s) w f (e - f - 1))) dr Fr Ar Br (nI f) (nI (e - 1)) := by
  obtain ⟨u1, u2⟩ := uI_b hs
  have a := gL_b hD u1 u2 w1 f (e - f - 1)
  have c := gG_b hD u1 u2 w1 f (e - f - 1)
  have b := bb_b hD u1 u2 w1 hF
  unfold wp_X2_closePart
  rw [slq ⟨by omega, by omega⟩ ⟨by omega, by omega⟩]
  have h := close_loop hs he hP hfe hD hr b.1 b.2 hp (e - f - 1) 0 (by omega)
  have e0 : am D (uI s) (bb D (uI s) w f e) f MIN (0 + 1) = vv D (uI s) (bb D (uI s) w f e) f := by
    have v := vv_b hD u1 u2 b.1 b.2 (z := f) (by omega)
    show (if vv D (uI s) (bb D (uI s) w f e) (f + 0) < MIN then MIN else vv D (uI s) (bb D (uI s) w f e) (f + 0)) = _
    rw [Nat.add_zero, if_neg (by show ¬ _ < (-9223372036854775808 : Int); omega)]
  rw [e0] at h
  refine X2_least (D := D) hs (by omega) (hD _) (hr _ (by omega)) ?_
  rw [nI_1]
  exact ⟨e - f - 1 + 1, h⟩
/-- the class's arrays hold the parts -/
def MT (D : Nat → Nat) (U w : Int) (P : Nat) (fr : Nat → Nat) (Fr Ar Br : Nat → Int32) : Prop := ∀ i, i < P → Fr i = nI (fr i) ∧ Ar i = iI (aa D U w (fr i) (fr (i + 1))) ∧ Br i = iI (bb D U w (fr i) (fr (i + 1)))
theorem MT_add {D : Nat → Nat} {U w : Int} {P e : Nat} {fr : Nat → Nat} {Fr Ar Br : Nat → Int32} (h : MT D U w P fr Fr Ar Br) : MT D U w (P + 1) (fun k => if k = P + 1 then e else fr k) (upd Fr P (nI (fr P))) (upd Ar P (iI (aa D U w (fr P) e))) (upd Br P (iI (bb D U w (fr P) e))) := by
  intro i hi
  by_cases q : i = P
  · subst q
    rw [upd_s, upd_s, upd_s]
    simp
  · obtain ⟨a, b, c⟩ := h i (by omega)
    have e1 : ¬ i = P + 1 := by omega
    have e2 : ¬ i + 1 = P + 1 := by omega
    rw [upd_n q, upd_n q, upd_n q]
    simp only [e1, e2, if_false]
    exact ⟨a, b, c⟩
def wid (deg : Nat) : Int := if deg = 0 then 0 else 1099511627776
theorem wid_b (deg : Nat) : 0 ≤ wid deg ∧ wid deg ≤ 1099511627776 := by unfold wid; split <;> omega
theorem X2_widen {post : Int64 → Int64 → Prop} {deg : Nat} (hd : deg < 2) (hp : post (lI (-wid deg)) (lI (wid deg))) : wp_X2_widen post (nI deg) := by
  unfold wp_X2_widen wp_X2_widen_12
  rw [eqL (y := 0) (b := 0) (by omega) (by omega) rfl]
  unfold wid at hp
  refine ⟨fun q => ⟨fun _ => ?_, fun w => absurd w q⟩, fun q => ⟨fun w => absurd q w, fun _ => ?_⟩⟩
  · rw [if_neg q] at hp; exact hp
  · rw [if_pos q] at hp; exact hp
theorem cut_loop {post : Int32 → Int32 → Int64 → Int64 → (Nat → Int32) → (Nat → Int32) → (Nat → Int32) → Prop} {D : Nat → Nat} {dr : Nat → Int32} {s F deg : Nat} (hs : s ≤ 10) (hF : F ≤ 8) (hd : deg < 2) (hD : ∀ z, D z ≤ 7936) (hr : ∀ y, y < 2 ^ F → dr y = nI (D y))
    (hp : ∀ (P : Nat) (fr : Nat → Nat) (l g : Int64) (Fr Ar Br : Nat → Int32), CH (fe D (uI s) (wid deg)) (2 ^ F) P fr → fr P = 2 ^ F → MT D (uI s) (wid deg) P fr Fr Ar Br → post (nI P) (nI s) l g Fr Ar Br) :
    ∀ (d k P f : Nat) (fr : Nat → Nat) (Fr Ar Br : Nat → Int32), f + (k + 1) + d = 2 ^ F → CH (fe D (uI s) (wid deg)) (2 ^ F) P fr → fr P = f → (∀ j, j ≤ k → fe D (uI s) (wid deg) f j) → MT D (uI s) (wid deg) P fr Fr Ar Br →
      wp_X2_cutParts_20 post (nI F) dr (nI deg) (d + 1) (nI P) (nI s) (lI (gL D (uI s) (wid deg) f k)) (lI (gG D (uI s) (wid deg) f k)) Fr Ar Br (nI f) (nI (f + (k + 1))) := by
  obtain ⟨u1, u2⟩ := uI_b hs
  obtain ⟨w1, w2⟩ := wid_b deg
  have hZ : 2 ^ F ≤ 2 ^ 8 := Nat.pow_le_pow_right (by omega) hF
  have r1 : ¬ (1 : Int32) = 0 := by decide
  intro d
  induction d with
  | zero =>
    intro k P f fr Fr Ar Br hk hC hf hj hM
    have hPf := CH_ge hC P (Nat.le_refl _)
    rw [wp_X2_cutParts_20_s]
    unfold wp_X2_cutParts_20_b
    refine X1_zs (by omega) ?_
    rw [nI_leI (by omega) (by omega)]
    refine ⟨fun _ => X1_zs (by omega) ?_, fun q => absurd (by omega) q⟩
    rw [show (1 : Int32) = nI 1 from rfl, pk_sub (by omega)]
    have ek : k = 2 ^ F - f - 1 := by omega
    rw [ek] at hj ⊢
    refine X2_closePart hs (by omega) (by omega) (by omega) hD hr w1 w2 (hj _ (Nat.le_refl _)) ?_
    refine hp (P + 1) (fun k => if k = P + 1 then 2 ^ F else fr k) _ _ _ _ _ (CH_add hC (by omega) (Nat.le_refl _) (fun j hjj => by rw [hf]; exact hj j (by omega)) (Or.inl rfl)) (by simp) ?_
    rw [← hf]
    exact MT_add hM
  | succ d ih =>
    intro k P f fr Fr Ar Br hk hC hf hj hM
    have hPf := CH_ge hC P (Nat.le_refl _)
    have a := gL_b hD u1 u2 w1 f k
    have c := gG_b hD u1 u2 w1 f k
    rw [wp_X2_cutParts_20_s]
    unfold wp_X2_cutParts_20_b
    refine X1_zs (by omega) ?_
    rw [nI_leI (by omega) (by omega)]
    refine ⟨fun q => by omega, fun _ => X2_narrow hs (by omega) (by omega) hD (fun y hy => hr y (by omega)) (by omega) (by omega) (by omega) (by omega) (fun q => ⟨fun _ => ?_, fun w => absurd w r1⟩) (fun q => ⟨fun w => absurd rfl w, fun _ => ?_⟩)⟩
    · rw [show f + (k + 1) - f = k + 1 by omega] at q ⊢
      unfold wp_X2_cutParts_59
      rw [nI_1]
      refine ih (k + 1) P f fr Fr Ar Br (by omega) hC hf (fun j hjj => ?_) hM
      by_cases e : j = k + 1
      · rw [e]; exact q
      · exact hj j (by omega)
    · rw [show f + (k + 1) - f = k + 1 by omega] at q
      rw [show (1 : Int32) = nI 1 from rfl, pk_sub (by omega)]
      have ek : k = f + (k + 1) - f - 1 := by omega
      have hcl := X2_closePart (post := fun u48_1 u48_2 u48_3 u48_4 => wp_X2_widen (fun u56_1 u56_2 => wp_X2_cutParts_59 post (wp_X2_cutParts_20 post (nI F) dr (nI deg) (d + 1)) u48_1 (nI s) u56_1 u56_2 u48_2 u48_3 u48_4 (nI (f + (k + 1))) (nI (f + (k + 1)))) (nI deg)) (dr := dr) (Fr := Fr) (Ar := Ar) (Br := Br) (e := f + (k + 1)) (P := P) (f := f) (w := wid deg) hs (by omega) (by omega) (by omega) hD (fun y hy => hr y (by omega)) w1 w2 (by rw [← ek]; exact hj k (Nat.le_refl _)) ?_
      · rw [← ek] at hcl; exact hcl
      · refine X2_widen hd ?_
        unfold wp_X2_cutParts_59
        rw [nI_1]
        refine ih 0 (P + 1) (f + (k + 1)) (fun i => if i = P + 1 then f + (k + 1) else fr i) _ _ _ (by omega) (CH_add hC (by omega) (by omega) (fun j hjj => by rw [hf]; exact hj j (by omega)) (Or.inr (by rw [hf, show f + (k + 1) - f = k + 1 by omega]; exact q))) (by simp) (fun j hjj => by rw [show j = 0 by omega]; show -wid deg ≤ wid deg; omega) ?_
        rw [← hf]
        exact MT_add hM
theorem X2_cutParts {post : Int32 → Int32 → Int64 → Int64 → (Nat → Int32) → (Nat → Int32) → (Nat → Int32) → Prop} {D : Nat → Nat} {dr Fr Ar Br : Nat → Int32} {s F deg : Nat} (hs : s ≤ 10) (hF : F ≤ 8) (hd : deg < 2) (hD : ∀ z, D z ≤ 7936) (hr : ∀ y, y < 2 ^ F → dr y = nI (D y))
    (hp : ∀ (P : Nat) (fr : Nat → Nat) (l g : Int64) (Fr Ar Br : Nat → Int32), CH (fe D (uI s) (wid deg)) (2 ^ F) P fr → fr P = 2 ^ F → MT D (uI s) (wid deg) P fr Fr Ar Br → post (nI P) (nI s) l g Fr Ar Br) :
    wp_X2_cutParts post (nI F) dr Fr Ar Br (nI deg) (nI s) := by
  have hZ := p2p F
  have w0 := wid_b deg
  unfold wp_X2_cutParts
  refine X2_widen hd ⟨2 ^ F - 1 + 1, ?_⟩
  exact cut_loop hs hF hd hD hr hp (2 ^ F - 1) 0 0 0 (fun _ => 0) Fr Ar Br (by omega) ⟨rfl, fun i hi => by omega⟩ rfl (fun j hjj => by rw [show j = 0 by omega]; show -wid deg ≤ wid deg; omega) (fun i hi => by omega)
theorem due_loop {post : Int64 → Int32 → Int32 → Int32 → Int32 → Int32 → Int32 → Int32 → Int32 → Int32 → Int32 → (Nat → Int32) → Prop} {E F b n fn r p : Nat} {low : Int} (h : MK E F b n low) (hf : fn < 5) (hr : r < 5) (hpp : p * 2 ^ F + 2 ^ F ≤ n)
    (hp : ∀ (v1 : Int64) (v2 v3 v4 v5 v6 v7 v8 v9 v10 v11 : Int32) (dr : Nat → Int32), (∀ z, z < 2 ^ F → dr z = nI (RES E F n low fn (p * 2 ^ F + z) r)) → post v1 v2 v3 v4 v5 v6 v7 v8 v9 v10 v11 dr) :
    ∀ (d z : Nat) (v1 : Int64) (v2 v3 v4 v5 v6 v7 v8 v9 v10 v11 : Int32) (dr : Nat → Int32), z + d = 2 ^ F → (∀ y, y < z → dr y = nI (RES E F n low fn (p * 2 ^ F + y) r)) → wp_X2_readDue_3 post (nI F) (nI b) (nI (2 ^ (E + F))) (nI n) (nI fn) (nI r) (nI p) (d + 1) v1 v2 v3 v4 v5 v6 v7 v8 v9 v10 v11 dr (nI z) := by
  obtain ⟨m1, m2, m3, m4, m5, m6⟩ := MK_N h
  have hF := h.2.1
  have hZ : 2 ^ F ≤ 2 ^ 8 := Nat.pow_le_pow_right (by omega) hF
  intro d
  induction d with
  | zero =>
    intro z v1 v2 v3 v4 v5 v6 v7 v8 v9 v10 v11 dr hz hd
    rw [wp_X2_readDue_3_s]
    unfold wp_X2_readDue_3_b
    refine X1_zs (by omega) ?_
    rw [nI_leI (by omega) (by omega)]
    exact ⟨fun _ => hp _ _ _ _ _ _ _ _ _ _ _ dr (fun y hy => hd y (by omega)), fun q => absurd (by omega) q⟩
  | succ d ih =>
    intro z v1 v2 v3 v4 v5 v6 v7 v8 v9 v10 v11 dr hz hd
    rw [wp_X2_readDue_3_s]
    unfold wp_X2_readDue_3_b
    refine X1_zs (by omega) ?_
    rw [nI_leI (by omega) (by omega)]
    refine ⟨fun q => by omega, fun _ => ?_⟩
    unfold wp_X1_codeOf
    rw [sh_l (by omega) (by omega), nI_add]
    refine MK_r h hf (by omega) hr (fun w1 w2 w3 w4 w5 w6 w7 w8 w9 w10 w11 => X4_put (by omega) (by omega) ?_)
    rw [nI_1]
    refine ih (z + 1) w1 w2 w3 w4 w5 w6 w7 w8 w9 w10 w11 _ (by omega) (fun y hy => ?_)
    by_cases e : y = z
    · rw [e, upd_s]
    · rw [upd_n e]; exact hd y (by omega)
theorem X2_readDue {post : Int64 → Int32 → Int32 → Int32 → Int32 → Int32 → Int32 → Int32 → Int32 → Int32 → Int32 → (Nat → Int32) → Prop} {E F b n fn r p : Nat} {low : Int} {dr : Nat → Int32} (h : MK E F b n low) (hf : fn < 5) (hr : r < 5) (hpp : p * 2 ^ F + 2 ^ F ≤ n) {v1 : Int64} {v2 v3 v4 v5 v6 v7 v8 v9 v10 v11 : Int32}
    (hp : ∀ (v1 : Int64) (v2 v3 v4 v5 v6 v7 v8 v9 v10 v11 : Int32) (dr : Nat → Int32), (∀ z, z < 2 ^ F → dr z = nI (RES E F n low fn (p * 2 ^ F + z) r)) → post v1 v2 v3 v4 v5 v6 v7 v8 v9 v10 v11 dr) :
    wp_X2_readDue post (nI F) (nI b) (nI (2 ^ (E + F))) (nI n) v1 v2 v3 v4 v5 v6 v7 v8 v9 v10 v11 dr (nI fn) (nI r) (nI p) :=
  ⟨2 ^ F + 1, due_loop h hf hr hpp hp (2 ^ F) 0 v1 v2 v3 v4 v5 v6 v7 v8 v9 v10 v11 dr (by omega) (fun y hy => by omega)⟩
