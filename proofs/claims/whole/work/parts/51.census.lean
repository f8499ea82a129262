/-! ===== HardBench$Census ===== -/
theorem hl_le (t z : Nat) : ∀ j, hl t z j ≤ j := by
  intro j
  induction j with
  | zero => exact Nat.le_refl _
  | succ j ih => unfold hl; split <;> omega
theorem hdI_le (z : Int) : hdI z ≤ 9 := by
  unfold hdI hd
  split
  · omega
  · exact hl_le _ _ 9
theorem SRT_le (E F n : Nat) (low : Int) (fn c : Nat) : SRT E F n low fn c ≤ 3 := by
  unfold SRT
  split
  · exact (srt_le _ _ _).2
  · unfold srS; split <;> omega
def HRD (E F n : Nat) (low : Int) (fn c : Nat) : Nat := hdI (FIG E F n low fn c)
theorem HRD_le (E F n : Nat) (low : Int) (fn c : Nat) : HRD E F n low fn c ≤ 9 := hdI_le _
/-- reading a code, then its hardness -/
theorem X6_rh {K : Int64 → Int32 → Int32 → Int32 → Int32 → Int32 → Int32 → Int32 → Int32 → Int32 → Int32 → Int32 → Prop} {E F b n fn c : Nat} {low : Int} {a1 : Int64} {a2 a3 a5 a6 a8 a9 a10 a11 : Int32} (h : MK E F b n low) (hf : fn < 5) (hc : c < 2 ^ (E + F + 1)) (hK : ∀ v1 v2 v3 v4 v5 v6 v8 v9 v10 v11, K v1 v2 v3 v4 v5 v6 (nI (SRT E F n low fn c)) v8 v9 v10 v11 (nI (HRD E F n low fn c))) :
    wp_X6_read (fun u1 u2 u3 u4 u5 u6 u7 u8 u9 u10 u11 => wp_X6_hardnessRead (fun r => K u1 u2 u3 u4 u5 u6 u7 u8 u9 u10 u11 r) (nI n) u4 u8 u9 u10 u11) (nI F) (nI b) (nI (2 ^ (E + F))) (nI n) a1 a2 a3 a5 a6 a8 a9 a10 a11 (nI fn) (nI c) := by
  obtain ⟨hE, hF, hb, hl, hn1, hn, hev, hns⟩ := h
  refine X6_read hE hF hb hl hn1 hn hf hc (fun q v1 v2 v3 => ?_) (fun q => ?_)
  · refine X6_hardnessRead (la := true) (aW_lt _ _ _ _) hn1 hn (aV_le hn) ?_
    have e1 : SRT E F n low fn c = srt (aQ F low fn (c % 2 ^ (E + F))) (aY F n low fn (c % 2 ^ (E + F))) (aW F low fn (c % 2 ^ (E + F))) := by unfold SRT; rw [if_pos q]
    have e2 : HRD E F n low fn c = hdI (fgr n (aQ F low fn (c % 2 ^ (E + F))) (aY F n low fn (c % 2 ^ (E + F))) (aW F low fn (c % 2 ^ (E + F))) (aV F n low fn (c % 2 ^ (E + F)))) := by unfold HRD FIG; rw [if_pos q]
    rw [e1, e2] at hK
    exact hK _ _ _ _ _ _ _ _ _ _
  · have e1 : SRT E F n low fn c = srS (2 ^ (E + F)) fn c := by unfold SRT; rw [if_neg q]
    have e2 : HRD E F n low fn c = 0 := by unfold HRD FIG hdI; rw [if_neg q]; simp
    rw [e1, e2] at hK
    unfold wp_X6_hardnessRead wp_X6_figuresRead
    refine ⟨fun _ => ⟨fun w => absurd w (by decide), fun _ => hK _ _ _ _ _ _ _ _ _ _⟩, fun w => absurd rfl w⟩
/-! the arrays while codes are taken -/
def aS (f : Nat → Nat) (base w c : Nat) (S : Nat → Int32) : Nat → Int32 := fun k => if base ≤ k ∧ k < base + w then nI (cnt (fun i => f i == k - base) c) else S k
theorem aS_0 {f : Nat → Nat} {base w : Nat} {S : Nat → Int32} (h : ∀ j, j < w → S (base + j) = 0) : aS f base w 0 S = S := by
  funext k
  unfold aS
  by_cases q : base ≤ k ∧ k < base + w
  · rw [if_pos q]
    have := h (k - base) (by omega)
    rw [show base + (k - base) = k by omega] at this
    rw [this]; rfl
  · rw [if_neg q]
theorem aS_at {f : Nat → Nat} {base w c j : Nat} {S : Nat → Int32} (hj : j < w) : aS f base w c S (base + j) = nI (cnt (fun i => f i == j) c) := by
  unfold aS
  rw [if_pos ⟨by omega, by omega⟩, show base + j - base = j by omega]
theorem aS_step {f : Nat → Nat} {base w c : Nat} {S : Nat → Int32} (h : f c < w) : upd (aS f base w c S) (base + f c) (aS f base w c S (base + f c) + 1) = aS f base w (c + 1) S := by
  funext k
  by_cases q : k = base + f c
  · subst q
    rw [upd_s, aS_at h, aS_at h, show (1 : Int32) = nI 1 from rfl, nI_add]
    congr 1
    show _ = cnt _ c + _
    simp
  · rw [upd_n q]
    unfold aS
    by_cases p : base ≤ k ∧ k < base + w
    · rw [if_pos p, if_pos p]
      congr 1
      show _ = cnt _ c + _
      have : (f c == k - base) = false := by simp; omega
      show _ = _ + (if (f c == k - base) = true then 1 else 0)
      rw [this]; simp
    · rw [if_neg p, if_neg p]
def bG (h : Nat → Nat) (j : Nat) : Nat → Nat
  | 0 => 0
  | c + 1 => if c / 256 = j then (if bG h j c < h c then h c else bG h j c) else bG h j c
def bV (h : Nat → Nat) (j : Nat) : Nat → Nat
  | 0 => 0
  | c + 1 => if c / 256 = j then (if bG h j c < h c then 1 else if h c = bG h j c then bV h j c + 1 else bV h j c) else bV h j c
def aB (g : Nat → Nat) (base : Nat) (G : Nat → Int32) : Nat → Int32 := fun k => if base ≤ k ∧ k < base + 64 then nI (g (k - base)) else G k
theorem aB_at {g : Nat → Nat} {base j : Nat} {G : Nat → Int32} (hj : j < 64) : aB g base G (base + j) = nI (g j) := by
  unfold aB
  rw [if_pos ⟨by omega, by omega⟩, show base + j - base = j by omega]
theorem aB_upd {g g' : Nat → Nat} {base j : Nat} {G : Nat → Int32} (hj : j < 64) (h : ∀ i, i ≠ j → g' i = g i) : upd (aB g base G) (base + j) (nI (g' j)) = aB g' base G := by
  funext k
  by_cases q : k = base + j
  · subst q; rw [upd_s, aB_at hj]
  · rw [upd_n q]
    unfold aB
    by_cases p : base ≤ k ∧ k < base + 64
    · rw [if_pos p, if_pos p, h (k - base) (by omega)]
    · rw [if_neg p, if_neg p]
theorem aB_0 {g : Nat → Nat} {base : Nat} {G : Nat → Int32} (h : ∀ j, j < 64 → G (base + j) = 0) (hg : ∀ j, g j = 0) : aB g base G = G := by
  funext k
  unfold aB
  by_cases q : base ≤ k ∧ k < base + 64
  · rw [if_pos q, hg]
    have := h (k - base) (by omega)
    rw [show base + (k - base) = k by omega] at this
    rw [this]; rfl
  · rw [if_neg q]
theorem bG_le {h : Nat → Nat} (hb : ∀ c, h c ≤ 9) (j : Nat) : ∀ c, bG h j c ≤ 9 := by
  intro c
  induction c with
  | zero => exact Nat.zero_le _
  | succ c ih => unfold bG; have := hb c; repeat' split
                 all_goals omega
theorem bV_le {h : Nat → Nat} (j : Nat) : ∀ c, bV h j c ≤ c := by
  intro c
  induction c with
  | zero => exact Nat.zero_le _
  | succ c ih => unfold bV; repeat' split
                 all_goals omega
/-- which codes of a block below c have its greatest hardness -/
theorem bV_cnt {h : Nat → Nat} (j : Nat) : ∀ c, bV h j c = cnt (fun i => decide (i / 256 = j) && (h i == bG h j c)) c ∧ ∀ i, i < c → i / 256 = j → h i ≤ bG h j c := by
  intro c
  induction c with
  | zero => exact ⟨rfl, fun i hi => by omega⟩
  | succ c ih =>
    obtain ⟨ih1, ih2⟩ := ih
    by_cases q : c / 256 = j
    · by_cases q2 : bG h j c < h c
      · have eG : bG h j (c + 1) = h c := by show (if _ then _ else _) = _; rw [if_pos q, if_pos q2]
        have eV : bV h j (c + 1) = 1 := by show (if _ then _ else _) = _; rw [if_pos q, if_pos q2]
        refine ⟨?_, fun i hi hj => ?_⟩
        · rw [eG, eV]
          show _ = cnt _ c + _
          rw [cnt_zero (fun i hi => ?_)]
          · simp [q]
          · by_cases p : i / 256 = j
            · have := ih2 i hi p; simp; intro _; omega
            · simp [p]
        · rw [eG]
          by_cases p : i = c
          · subst p; exact Nat.le_refl _
          · have := ih2 i (by omega) hj; omega
      · have eG : bG h j (c + 1) = bG h j c := by show (if _ then _ else _) = _; rw [if_pos q, if_neg q2]
        refine ⟨?_, fun i hi hj => ?_⟩
        · rw [eG]
          show (if _ then _ else _) = cnt _ c + _
          rw [if_pos q, if_neg q2]
          by_cases q3 : h c = bG h j c
          · rw [if_pos q3, ih1]; simp [q, q3]
          · rw [if_neg q3, ih1]; simp [q3]
        · rw [eG]
          by_cases p : i = c
          · subst p; omega
          · exact ih2 i (by omega) hj
    · have eG : bG h j (c + 1) = bG h j c := by show (if _ then _ else _) = _; rw [if_neg q]
      refine ⟨?_, fun i hi hj => ?_⟩
      · rw [eG]
        show (if _ then _ else _) = cnt _ c + _
        rw [if_neg q, ih1]; simp [q]
      · rw [eG]
        by_cases p : i = c
        · subst p; exact absurd hj q
        · exact ih2 i (by omega) hj
theorem X0_addToBlock {post : (Nat → Int32) → (Nat → Int32) → Prop} {h : Nat → Nat} {base c : Nat} {G V : Nat → Int32} (hb : ∀ c, h c ≤ 9) (hbase : base ≤ 256) (hc : c < 16384) (hp : post (aB (fun j => bG h j (c + 1)) base G) (aB (fun j => bV h j (c + 1)) base V)) :
    wp_X0_addToBlock post (aB (fun j => bG h j c) base G) (aB (fun j => bV h j c) base V) (nI (base + c / 256)) (nI (h c)) := by
  have hj : c / 256 < 64 := by omega
  have g9 := bG_le hb (c / 256) c
  have h9 := hb c
  unfold wp_X0_addToBlock
  refine X4_at (by omega) (by omega) ?_
  rw [aB_at hj, nI_leI (by omega) (by omega)]
  have oth : ∀ i, i ≠ c / 256 → bG h i (c + 1) = bG h i c ∧ bV h i (c + 1) = bV h i c := by
    intro i hi
    exact ⟨by show (if _ then _ else _) = _; rw [if_neg (by omega)], by show (if _ then _ else _) = _; rw [if_neg (by omega)]⟩
  refine ⟨fun q => ?_, fun q => ?_⟩
  · have eG : (fun j => bG h j (c + 1)) = (fun j => bG h j c) := by
      funext i
      by_cases p : i = c / 256
      · subst p; show (if _ then _ else _) = _; rw [if_pos rfl, if_neg (by omega)]
      · exact (oth i p).1
    rw [eG] at hp
    unfold wp_X0_addToBlock_30
    refine X4_at (by omega) (by omega) ?_
    rw [aB_at hj, nI_eq (by omega) (by omega)]
    refine ⟨fun w => ?_, fun w => ?_⟩
    · have eV : (fun j => bV h j (c + 1)) = (fun j => bV h j c) := by
        funext i
        by_cases p : i = c / 256
        · subst p; show (if _ then _ else _) = _; rw [if_pos rfl, if_neg (by omega), if_neg w]
        · exact (oth i p).2
      rw [eV] at hp
      exact hp
    · refine X4_addOne (by omega) (by omega) ?_
      rw [aB_at hj, show (1 : Int32) = nI 1 from rfl, nI_add]
      have eV : bV h (c / 256) (c + 1) = bV h (c / 256) c + 1 := by show (if _ then _ else _) = _; rw [if_pos rfl, if_neg (by omega), if_pos w]
      have := aB_upd (g := fun j => bV h j c) (g' := fun j => bV h j (c + 1)) (base := base) (G := V) hj (fun i hi => (oth i hi).2)
      rw [eV] at this
      rw [this]
      exact hp
  · refine X4_put (by omega) (by omega) (X4_put (by omega) (by omega) ?_)
    have eG : bG h (c / 256) (c + 1) = h c := by show (if _ then _ else _) = _; rw [if_pos rfl, if_pos (by omega)]
    have u1 := aB_upd (g := fun j => bG h j c) (g' := fun j => bG h j (c + 1)) (base := base) (G := G) hj (fun i hi => (oth i hi).1)
    rw [eG] at u1
    rw [u1]
    unfold wp_X0_addToBlock_30
    refine X4_at (by omega) (by omega) ?_
    rw [aB_at hj, eG]
    refine ⟨fun w => absurd rfl w, fun _ => X4_addOne (by omega) (by omega) ?_⟩
    rw [upd_s]
    have eV : bV h (c / 256) (c + 1) = 1 := by show (if _ then _ else _) = _; rw [if_pos rfl, if_pos (by omega)]
    have u2 := aB_upd (g := fun j => bV h j c) (g' := fun j => bV h j (c + 1)) (base := base) (G := V) hj (fun i hi => (oth i hi).2)
    rw [eV] at u2
    have u3 : upd (upd (aB (fun j => bV h j c) base V) (base + c / 256) 0) (base + c / 256) ((0 : Int32) + 1) = upd (aB (fun j => bV h j c) base V) (base + c / 256) (nI 1) := by
      funext k
      by_cases p : k = base + c / 256
      · subst p; rw [upd_s, upd_s]; rfl
      · rw [upd_n p, upd_n p, upd_n p]
    rw [u3, u2]
    exact hp
