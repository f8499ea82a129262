/-! ===== spans ===== -/
theorem RES_le {E F b n : Nat} {low : Int} (h : MK E F b n low) (fn c r : Nat) : RES E F n low fn c r ≤ 32768 := by
  obtain ⟨m1, m2, m3, m4, m5, m6⟩ := MK_N h
  obtain ⟨hE, hF, hb, hl, hn1, hn, hev, hns⟩ := h
  unfold RES
  by_cases q : isL (2 ^ (E + F)) n fn c
  · rw [if_pos q]
    have := aV_le (F := F) (n := n) (low := low) (fn := fn) (s := c % 2 ^ (E + F)) hn
    unfold rd
    split <;> split <;> omega
  · rw [if_neg q]
    exact stl_b (by omega) hn
def ST (g : Nat → Nat) (c : Nat) : Bool := decide (1 ≤ c) && (c == 1 || g c != g (c - 1))
theorem ST_0 (g : Nat → Nat) : ST g 0 = false := rfl
theorem ST_1 (g : Nat → Nat) : ST g 1 = true := rfl
theorem ST_c {g : Nat → Nat} {c : Nat} (h : 2 ≤ c) : ST g c = true ↔ ¬ g c = g (c - 1) := by
  unfold ST
  have e1 : decide (1 ≤ c) = true := by simp; omega
  have e2 : (c == 1) = false := by simp; omega
  rw [e1, e2]; simp
def bfo (g : Nat → Nat) (c : Nat) : Int32 := if c = 1 then -9 else nI (g (c - 1))
theorem bfo_eq {g : Nat → Nat} {c : Nat} (hg : ∀ c, g c ≤ 32768) (hc : 1 ≤ c) : nI (g c) = bfo g c ↔ ¬ ST g c = true := by
  have h1 := hg c
  have h2 := hg (c - 1)
  unfold bfo
  by_cases q : c = 1
  · subst q
    rw [if_pos rfl, ST_1]
    refine ⟨fun w => ?_, fun w => absurd rfl w⟩
    exfalso
    have := nI_nlt0 (n := g 1) (by omega)
    rw [w] at this
    exact this (by decide)
  · rw [if_neg q, ST_c (by omega), nI_eq (by omega) (by omega)]
    exact Decidable.not_not.symm
theorem bfo_s (g : Nat → Nat) (c : Nat) (hc : 1 ≤ c) : bfo g (c + 1) = nI (g c) := by
  unfold bfo; rw [if_neg (by omega)]; rfl
theorem cnt_s1 {P : Nat → Bool} {c : Nat} (h : P c = true) : cnt P (c + 1) = cnt P c + 1 := by show cnt P c + _ = _; rw [h]; simp
theorem cnt_s0 {P : Nat → Bool} {c : Nat} (h : ¬ P c = true) : cnt P (c + 1) = cnt P c := by show cnt P c + _ = _; rw [if_neg h]; rfl
theorem aS_skip {f : Nat → Nat} {base w c : Nat} {S : Nat → Int32} (h : w ≤ f c) : aS f base w (c + 1) S = aS f base w c S := by
  funext k
  unfold aS
  by_cases p : base ≤ k ∧ k < base + w
  · rw [if_pos p, if_pos p, cnt_s0]
    simp; omega
  · rw [if_neg p, if_neg p]
def sf1 (g : Nat → Nat) (c : Nat) : Nat := if ST g c then 0 else 1
def sf2 (g : Nat → Nat) (c : Nat) : Nat := if ST g c then c / 256 else 32
theorem sf1_cnt (g : Nat → Nat) (m : Nat) : cnt (fun i => sf1 g i == 0) m = cnt (ST g) m := by
  apply cnt_congr
  intro i _
  unfold sf1
  cases ST g i <;> simp
theorem sf2_cnt (g : Nat → Nat) {j : Nat} (hj : j < 32) (m : Nat) : cnt (fun i => sf2 g i == j) m = cnt (fun c => decide (c / 256 = j) && ST g c) m := by
  apply cnt_congr
  intro i _
  unfold sf2
  cases ST g i
  · simp; omega
  · simp only [if_true, Bool.and_true]; rfl
/-- what is known of the spans of one function and rounding -/
def PT (g : Nat → Nat) (n a : Nat) (T B : Nat → Int32) : Prop := T a = nI (cnt (ST g) n) ∧ ∀ j, j < 32 → B (a * 32 + j) = nI (cnt (fun c => decide (c / 256 = j) && ST g c) n)
def PI (E F n : Nat) (low : Int) (T B : Nat → Int32) : Prop := ∀ fn r, fn < 5 → r < 5 → (T (fn * 5 + r) = 0 → ∀ j, j < 32 → B ((fn * 5 + r) * 32 + j) = 0) ∧ (¬ T (fn * 5 + r) = 0 → PT (fun c => RES E F n low fn c r) n (fn * 5 + r) T B)
theorem MK_r {post : Int32 → Int64 → Int32 → Int32 → Int32 → Int32 → Int32 → Int32 → Int32 → Int32 → Int32 → Int32 → Prop} {E F b n fn c r : Nat} {low : Int} {a1 : Int64} {a2 a3 a5 a6 a8 a9 a10 a11 : Int32} (h : MK E F b n low) (hf : fn < 5) (hc : c < 2 ^ (E + F + 1)) (hr : r < 5)
    (hp : ∀ (v1 : Int64) (v2 v3 v4 v5 v6 v7 v8 v9 v10 v11 : Int32), post (nI (RES E F n low fn c r)) v1 v2 v3 v4 v5 v6 v7 v8 v9 v10 v11) : wp_X6_resultAt post (nI F) (nI b) (nI (2 ^ (E + F))) (nI n) a1 a2 a3 a5 a6 a8 a9 a10 a11 (nI fn) (nI c) (nI r) := by
  obtain ⟨hE, hF, hb, hl, hn1, hn, hev, hns⟩ := h
  exact X6_resultAt hE hF hb hl hn1 hn hf hc hr (fun v1 v2 v3 v4 v5 v6 v7 v8 v9 v10 v11 => hp v1 v2 v3 v4 v5 v6 v7 v8 v9 v10 v11)
theorem span_loop {post : Int64 → Int32 → Int32 → Int32 → Int32 → Int32 → Int32 → Int32 → Int32 → Int32 → Int32 → (Nat → Int32) → (Nat → Int32) → Prop} {E F b n fn r : Nat} {low : Int} {T B : Nat → Int32} (h : MK E F b n low) (hf : fn < 5) (hr : r < 5)
    (hp : ∀ (v1 : Int64) (v2 v3 v4 v5 v6 v7 v8 v9 v10 v11 : Int32), post v1 v2 v3 v4 v5 v6 v7 v8 v9 v10 v11 (aS (sf1 (fun c => RES E F n low fn c r)) (fn * 5 + r) 1 n T) (aS (sf2 (fun c => RES E F n low fn c r)) ((fn * 5 + r) * 32) 32 n B)) :
    ∀ (d c : Nat) (v1 : Int64) (v2 v3 v4 v5 v6 v7 v8 v9 v10 v11 : Int32), c + d = n → 1 ≤ c → wp_X5_take_23 post (nI F) (nI b) (nI (2 ^ (E + F))) (nI n) (nI fn) (nI r) (d + 1) v1 v2 v3 v4 v5 v6 v7 v8 v9 v10 v11 (aS (sf1 (fun c => RES E F n low fn c r)) (fn * 5 + r) 1 c T) (aS (sf2 (fun c => RES E F n low fn c r)) ((fn * 5 + r) * 32) 32 c B) (nI (fn * 5 + r)) (bfo (fun c => RES E F n low fn c r) c) (nI c) := by
  obtain ⟨m1, m2, m3, m4, m5, m6⟩ := MK_N h
  intro d
  induction d with
  | zero =>
    intro c v1 v2 v3 v4 v5 v6 v7 v8 v9 v10 v11 hc h1
    rw [wp_X5_take_23_s]
    unfold wp_X5_take_23_b
    rw [nI_leI (by omega) (by omega)]
    have e : c = n := by omega
    refine ⟨fun _ => ?_, fun q => absurd (by omega) q⟩
    rw [e]
    exact hp _ _ _ _ _ _ _ _ _ _ _
  | succ d ih =>
    intro c v1 v2 v3 v4 v5 v6 v7 v8 v9 v10 v11 hc h1
    rw [wp_X5_take_23_s]
    unfold wp_X5_take_23_b
    rw [nI_leI (by omega) (by omega)]
    refine ⟨fun q => by omega, fun _ => MK_r h hf (by omega) hr (fun w1 w2 w3 w4 w5 w6 w7 w8 w9 w10 w11 => ?_)⟩
    have be := bfo_eq (g := fun c => RES E F n low fn c r) (c := c) (fun c => RES_le h fn c r) h1
    have bs := bfo_s (fun c => RES E F n low fn c r) c h1
    unfold wp_X5_take_80
    rw [be, shb (by omega), bse (fn * 5 + r) 32 _ 32 rfl, nI_1]
    refine ⟨fun q => ?_, fun q => ?_⟩
    · have k := ih (c + 1) w1 w2 w3 w4 w5 w6 w7 w8 w9 w10 w11 (by omega) (by omega)
      rw [bs, aS_skip (by unfold sf1; rw [if_neg q]; omega), aS_skip (by unfold sf2; rw [if_neg q]; omega)] at k
      exact k
    · have q := Decidable.not_not.mp q
      have e1 : sf1 (fun c => RES E F n low fn c r) c = 0 := by unfold sf1; rw [if_pos q]
      have e2 : sf2 (fun c => RES E F n low fn c r) c = c / 256 := by unfold sf2; rw [if_pos q]
      have s1 := aS_step (f := sf1 (fun c => RES E F n low fn c r)) (base := fn * 5 + r) (w := 1) (c := c) (S := T) (by omega)
      have s2 := aS_step (f := sf2 (fun c => RES E F n low fn c r)) (base := (fn * 5 + r) * 32) (w := 32) (c := c) (S := B) (by omega)
      rw [e1, Nat.add_zero] at s1
      rw [e2] at s2
      refine X4_addOne (by omega) (by omega) ?_
      refine X4_addOne (by omega) (by omega) ?_
      rw [s1, s2]
      have k := ih (c + 1) w1 w2 w3 w4 w5 w6 w7 w8 w9 w10 w11 (by omega) (by omega)
      rw [bs] at k
      exact k
theorem cnt_ST1 (g : Nat → Nat) {m : Nat} (h : 2 ≤ m) : 0 < cnt (ST g) m := cnt_pos (i := 1) (by omega) rfl
theorem X5_take {post : Int64 → Int32 → Int32 → Int32 → Int32 → Int32 → Int32 → Int32 → Int32 → Int32 → Int32 → (Nat → Int32) → (Nat → Int32) → Prop} {E F b n fn r : Nat} {low : Int} {T B : Nat → Int32} (h : MK E F b n low) (hf : fn < 5) (hr : r < 5) (hI : PI E F n low T B) {v1 : Int64} {v2 v3 v4 v5 v6 v7 v8 v9 v10 v11 : Int32}
    (hp : ∀ (v1 : Int64) (v2 v3 v4 v5 v6 v7 v8 v9 v10 v11 : Int32) (T B : Nat → Int32), PI E F n low T B → PT (fun c => RES E F n low fn c r) n (fn * 5 + r) T B → post v1 v2 v3 v4 v5 v6 v7 v8 v9 v10 v11 T B) :
    wp_X5_take post (nI F) (nI b) (nI (2 ^ (E + F))) (nI n) v1 v2 v3 v4 v5 v6 v7 v8 v9 v10 v11 T B (nI fn) (nI r) := by
  obtain ⟨m1, m2, m3, m4, m5, m6⟩ := MK_N h
  have hev : n % 2 = 0 := h.2.2.2.2.2.2.1
  have cb := cnt_le (ST (fun c => RES E F n low fn c r)) n
  unfold wp_X5_take wp_X5_total
  rw [bse fn 5 _ 5 rfl]
  refine X4_at (by omega) (by omega) ⟨fun q => ?_, fun q => hp v1 v2 v3 v4 v5 v6 v7 v8 v9 v10 v11 T B hI ((hI fn r hf hr).2 q)⟩
  refine ⟨n - 1 + 1, ?_⟩
  have z := (hI fn r hf hr).1 q
  have k := span_loop (post := post) (T := T) (B := B) h hf hr ?_ (n - 1) 1 v1 v2 v3 v4 v5 v6 v7 v8 v9 v10 v11 (by omega) (by omega)
  · have a1 : aS (sf1 (fun c => RES E F n low fn c r)) (fn * 5 + r) 1 1 T = T := by
      rw [aS_skip (by unfold sf1; rw [if_neg (by rw [ST_0]; decide)]; omega)]
      exact aS_0 (fun j hj => by rw [show j = 0 by omega]; exact q)
    have a2 : aS (sf2 (fun c => RES E F n low fn c r)) ((fn * 5 + r) * 32) 32 1 B = B := by
      rw [aS_skip (by unfold sf2; rw [if_neg (by rw [ST_0]; decide)]; omega)]
      exact aS_0 z
    rw [a1, a2] at k
    exact k
  · intro w1 w2 w3 w4 w5 w6 w7 w8 w9 w10 w11
    have pt : PT (fun c => RES E F n low fn c r) n (fn * 5 + r) (aS (sf1 (fun c => RES E F n low fn c r)) (fn * 5 + r) 1 n T) (aS (sf2 (fun c => RES E F n low fn c r)) ((fn * 5 + r) * 32) 32 n B) := by
      refine ⟨?_, fun j hj => ?_⟩
      · have := aS_at (f := sf1 (fun c => RES E F n low fn c r)) (base := fn * 5 + r) (w := 1) (c := n) (j := 0) (S := T) (by omega)
        rw [sf1_cnt, Nat.add_zero] at this
        exact this
      · rw [aS_at hj, sf2_cnt _ hj]
    refine hp w1 w2 w3 w4 w5 w6 w7 w8 w9 w10 w11 _ _ ?_ pt
    intro fn' r' hf' hr'
    by_cases e : fn' * 5 + r' = fn * 5 + r
    · have e1 : fn' = fn := by omega
      have e2 : r' = r := by omega
      subst e1; subst e2
      refine ⟨fun w => ?_, fun _ => pt⟩
      rw [pt.1] at w
      have := cnt_ST1 (fun c => RES E F n low fn' c r') (m := n) (by omega)
      exact absurd w (nI_ne0 (by omega) (by omega))
    · have o1 : aS (sf1 (fun c => RES E F n low fn c r)) (fn * 5 + r) 1 n T (fn' * 5 + r') = T (fn' * 5 + r') := aS_off (by omega)
      have o2 : ∀ j, j < 32 → aS (sf2 (fun c => RES E F n low fn c r)) ((fn * 5 + r) * 32) 32 n B ((fn' * 5 + r') * 32 + j) = B ((fn' * 5 + r') * 32 + j) := fun j hj => aS_off (by omega)
      rw [o1]
      refine ⟨fun w j hj => (o2 j hj).trans ((hI fn' r' hf' hr').1 w j hj), fun w => ?_⟩
      obtain ⟨y1, y2⟩ := (hI fn' r' hf' hr').2 w
      exact ⟨o1.trans y1, fun j hj => (o2 j hj).trans (y2 j hj)⟩
theorem X5_forget {post : (Nat → Int32) → (Nat → Int32) → Prop} {T B : Nat → Int32} (hp : ∀ T B, (∀ E F n low, PI E F n low T B) → post T B) : wp_X5_forget post T B := by
  unfold wp_X5_forget
  refine J7_fill (by omega) (fun T hT => J7_fill (by omega) (fun B hB => hp T B ?_))
  intro E F n low fn r hf hr
  exact ⟨fun _ j hj => hB _ (by omega), fun w => absurd (hT _ (by omega)) w⟩
theorem X5_total {post : Int32 → Prop} {g : Nat → Nat} {n fn r : Nat} {T B : Nat → Int32} (hf : fn < 5) (hr : r < 5) (hP : PT g n (fn * 5 + r) T B) (hp : post (nI (cnt (ST g) n))) : wp_X5_total post T (nI fn) (nI r) := by
  unfold wp_X5_total
  rw [bse fn 5 _ 5 rfl]
  refine X4_at (by omega) (by omega) ?_
  rw [hP.1]
  exact hp
theorem f104 {post : Int32 → Int64 → Int32 → Int32 → Int32 → Int32 → Int32 → Int32 → Int32 → Int32 → Int32 → Int32 → Prop} {E F b n fn r i : Nat} {low : Int} (h : MK E F b n low) (hf : fn < 5) (hr : r < 5) (hi : i < cnt (ST (fun c => RES E F n low fn c r)) n)
    (hp : ∀ (c : Nat) (v1 : Int64) (v2 v3 v4 v5 v6 v7 v8 v9 v10 v11 : Int32), c < n → ST (fun c => RES E F n low fn c r) c = true → cnt (ST (fun c => RES E F n low fn c r)) c = i → post (nI c) v1 v2 v3 v4 v5 v6 v7 v8 v9 v10 v11) :
    ∀ (d c : Nat) (v1 : Int64) (v2 v3 v4 v5 v6 v7 v8 v9 v10 v11 : Int32), c + d = n → 1 ≤ c → cnt (ST (fun c => RES E F n low fn c r)) c ≤ i → wp_X5_firstCode_104 post (nI F) (nI b) (nI (2 ^ (E + F))) (nI n) (nI fn) (nI r) (d + 1) v1 v2 v3 v4 v5 v6 v7 v8 v9 v10 v11 (nI (i - cnt (ST (fun c => RES E F n low fn c r)) c)) (bfo (fun c => RES E F n low fn c r) c) (nI c) := by
  obtain ⟨m1, m2, m3, m4, m5, m6⟩ := MK_N h
  have cb := cnt_le (ST (fun c => RES E F n low fn c r)) n
  intro d
  induction d with
  | zero =>
    intro c v1 v2 v3 v4 v5 v6 v7 v8 v9 v10 v11 hc h1 hk
    rw [show c = n by omega] at hk
    omega
  | succ d ih =>
    intro c v1 v2 v3 v4 v5 v6 v7 v8 v9 v10 v11 hc h1 hk
    rw [wp_X5_firstCode_104_s]
    unfold wp_X5_firstCode_104_b
    rw [nI_leI (by omega) (by omega)]
    refine ⟨fun q => by omega, fun _ => MK_r h hf (by omega) hr (fun w1 w2 w3 w4 w5 w6 w7 w8 w9 w10 w11 => ?_)⟩
    have be := bfo_eq (g := fun c => RES E F n low fn c r) (c := c) (fun c => RES_le h fn c r) h1
    have bs := bfo_s (fun c => RES E F n low fn c r) c h1
    unfold wp_X5_firstCode_143
    rw [be, nI_1]
    refine ⟨fun q => ?_, fun q => ?_⟩
    · have q := Decidable.not_not.mp q
      have e1 := cnt_s1 q
      by_cases z : i - cnt (ST (fun c => RES E F n low fn c r)) c = 0
      · rw [z]
        exact ⟨fun w => absurd w (by decide), fun _ => hp c _ _ _ _ _ _ _ _ _ _ _ (by omega) q (by omega)⟩
      · rw [show i - cnt (ST (fun c => RES E F n low fn c r)) c = (i - cnt (ST (fun c => RES E F n low fn c r)) c - 1) + 1 by omega, nI_pred]
        refine ⟨fun _ => ?_, fun w => absurd (nI_pos' (by omega)) w⟩
        have k := ih (c + 1) w1 w2 w3 w4 w5 w6 w7 w8 w9 w10 w11 (by omega) (by omega) (by omega)
        rw [e1, Nat.sub_add_eq, bs] at k
        exact k
    · have e1 := cnt_s0 q
      rw [show ∀ x : Int32, x - 0 = x from fun x => by simp]
      refine ⟨fun _ => ?_, fun w => absurd (nI_pos' (by omega)) w⟩
      have k := ih (c + 1) w1 w2 w3 w4 w5 w6 w7 w8 w9 w10 w11 (by omega) (by omega) (by omega)
      rw [e1, bs] at k
      exact k
theorem f63 {post : Int32 → Int64 → Int32 → Int32 → Int32 → Int32 → Int32 → Int32 → Int32 → Int32 → Int32 → Int32 → Prop} {E F b n fn r i j : Nat} {low : Int} (h : MK E F b n low) (hf : fn < 5) (hr : r < 5) (hi : i < cnt (ST (fun c => RES E F n low fn c r)) n)
    (hp : ∀ (c : Nat) (v1 : Int64) (v2 v3 v4 v5 v6 v7 v8 v9 v10 v11 : Int32), c < n → ST (fun c => RES E F n low fn c r) c = true → cnt (ST (fun c => RES E F n low fn c r)) c = i → post (nI c) v1 v2 v3 v4 v5 v6 v7 v8 v9 v10 v11) {v1 : Int64} {v2 v3 v4 v5 v6 v7 v8 v9 v10 v11 : Int32} (hj : j * 256 < n) (hk : cnt (ST (fun c => RES E F n low fn c r)) (j * 256) ≤ i) : wp_X5_firstCode_63 post (nI F) (nI b) (nI (2 ^ (E + F))) (nI n) v1 v2 v3 v4 v5 v6 v7 v8 v9 v10 v11 (nI fn) (nI r) (nI (i - cnt (ST (fun c => RES E F n low fn c r)) (j * 256))) (nI j) := by
  obtain ⟨m1, m2, m3, m4, m5, m6⟩ := MK_N h
  have hev : n % 2 = 0 := h.2.2.2.2.2.2.1
  unfold wp_X5_firstCode_63 wp_X5_firstCode_98
  rw [show nI j <<< ((8 : Int32) &&& 31) = nI (j * 256) from sh_l (k := 8) (by omega) (by omega)]
  by_cases q : j = 0
  · subst q
    rw [show (if nI (0 * 256) < (1 : Int32) then (1 : Int32) else nI (0 * 256)) = 1 from rfl]
    refine ⟨fun w => absurd rfl w, fun _ => ⟨n - 1 + 1, ?_⟩⟩
    have k := f104 (post := post) h hf hr hi hp (n - 1) 1 v1 v2 v3 v4 v5 v6 v7 v8 v9 v10 v11 (by omega) (by omega) (Nat.zero_le _)
    exact k
  · have e : (if nI (j * 256) < (1 : Int32) then (1 : Int32) else nI (j * 256)) = nI (j * 256) := if_neg (fun w => by have := (ltL (b := 1) (by omega) (by omega) rfl).mp w; omega)
    rw [e, eqL (y := 1) (b := 1) (by omega) (by omega) rfl, show (1 : Int32) = nI 1 from rfl, pk_sub (by omega)]
    refine ⟨fun _ => MK_r h hf (by omega) hr (fun w1 w2 w3 w4 w5 w6 w7 w8 w9 w10 w11 => ⟨n - j * 256 + 1, ?_⟩), fun w => by omega⟩
    have k := f104 (post := post) h hf hr hi hp (n - j * 256) (j * 256) w1 w2 w3 w4 w5 w6 w7 w8 w9 w10 w11 (by omega) (by omega) hk
    rw [show bfo (fun c => RES E F n low fn c r) (j * 256) = nI (RES E F n low fn (j * 256 - 1) r) by unfold bfo; rw [if_neg (by omega)]] at k
    exact k
theorem f16 {post : Int32 → Int64 → Int32 → Int32 → Int32 → Int32 → Int32 → Int32 → Int32 → Int32 → Int32 → Int32 → Prop} {E F b n fn r i : Nat} {low : Int} {B : Nat → Int32} (h : MK E F b n low) (hf : fn < 5) (hr : r < 5) (hi : i < cnt (ST (fun c => RES E F n low fn c r)) n)
    (hB : ∀ j, j < 32 → B ((fn * 5 + r) * 32 + j) = nI (cnt (fun c => decide (c / 256 = j) && ST (fun c => RES E F n low fn c r) c) n))
    (hp : ∀ (c : Nat) (v1 : Int64) (v2 v3 v4 v5 v6 v7 v8 v9 v10 v11 : Int32), c < n → ST (fun c => RES E F n low fn c r) c = true → cnt (ST (fun c => RES E F n low fn c r)) c = i → post (nI c) v1 v2 v3 v4 v5 v6 v7 v8 v9 v10 v11) :
    ∀ (d j : Nat) (v1 : Int64) (v2 v3 v4 v5 v6 v7 v8 v9 v10 v11 : Int32), j + d = 32 → cnt (ST (fun c => RES E F n low fn c r)) (min (j * 256) n) ≤ i → wp_X5_firstCode_16 post (nI F) (nI b) (nI (2 ^ (E + F))) (nI n) B (nI fn) (nI r) (d + 1) v1 v2 v3 v4 v5 v6 v7 v8 v9 v10 v11 (nI ((fn * 5 + r) * 32)) (nI (i - cnt (ST (fun c => RES E F n low fn c r)) (min (j * 256) n))) (nI j) := by
  obtain ⟨m1, m2, m3, m4, m5, m6⟩ := MK_N h
  intro d
  induction d with
  | zero =>
    intro j v1 v2 v3 v4 v5 v6 v7 v8 v9 v10 v11 hj hk
    rw [show min (j * 256) n = n by omega] at hk
    omega
  | succ d ih =>
    intro j v1 v2 v3 v4 v5 v6 v7 v8 v9 v10 v11 hj hk
    have bc := blkc (ST (fun c => RES E F n low fn c r)) j n
    have cb := cnt_le (fun c => decide (c / 256 = j) && ST (fun c => RES E F n low fn c r) c) n
    have cb2 := cnt_le (ST (fun c => RES E F n low fn c r)) n
    rw [wp_X5_firstCode_16_s]
    unfold wp_X5_firstCode_16_b
    rw [show (32 : Int32) = nI 32 from rfl, nI_leI (by omega) (by omega), nI_add]
    refine ⟨fun q => by omega, fun _ => X4_at (by omega) (by omega) ?_⟩
    rw [hB j (by omega)]
    try dsimp only
    rw [nI_ltI (by omega) (by omega)]
    refine ⟨fun q => ?_, fun q => X4_at (by omega) (by omega) ?_⟩
    · have hlt : j * 256 < n := by
        by_cases z : j * 256 < n
        · exact z
        · rw [show min (j * 256) n = n by omega] at hk; omega
      rw [show min (j * 256) n = j * 256 by omega] at hk ⊢
      exact f63 h hf hr hi hp hlt hk
    · rw [hB j (by omega)]
      try dsimp only
      rw [pk_sub (by omega), nI_1]
      have e1 : cnt (ST (fun c => RES E F n low fn c r)) (min ((j + 1) * 256) n) ≤ i := by rw [← bc]; omega
      have e2 : i - cnt (ST (fun c => RES E F n low fn c r)) (min (j * 256) n) - cnt (fun c => decide (c / 256 = j) && ST (fun c => RES E F n low fn c r) c) n = i - cnt (ST (fun c => RES E F n low fn c r)) (min ((j + 1) * 256) n) := by rw [← bc]; omega
      rw [e2]
      exact ih (j + 1) v1 v2 v3 v4 v5 v6 v7 v8 v9 v10 v11 (by omega) e1
theorem X5_firstCode {post : Int32 → Int64 → Int32 → Int32 → Int32 → Int32 → Int32 → Int32 → Int32 → Int32 → Int32 → Int32 → Prop} {E F b n fn r i : Nat} {low : Int} {T B : Nat → Int32} (h : MK E F b n low) (hf : fn < 5) (hr : r < 5) (hi : i < cnt (ST (fun c => RES E F n low fn c r)) n) (hP : PT (fun c => RES E F n low fn c r) n (fn * 5 + r) T B) {v1 : Int64} {v2 v3 v4 v5 v6 v7 v8 v9 v10 v11 : Int32}
    (hp : ∀ (c : Nat) (v1 : Int64) (v2 v3 v4 v5 v6 v7 v8 v9 v10 v11 : Int32), c < n → ST (fun c => RES E F n low fn c r) c = true → cnt (ST (fun c => RES E F n low fn c r)) c = i → post (nI c) v1 v2 v3 v4 v5 v6 v7 v8 v9 v10 v11) :
    wp_X5_firstCode post (nI F) (nI b) (nI (2 ^ (E + F))) (nI n) v1 v2 v3 v4 v5 v6 v7 v8 v9 v10 v11 B (nI fn) (nI r) (nI i) := by
  unfold wp_X5_firstCode
  rw [bse fn 5 _ 5 rfl, show (32 : Int32) = nI 32 from rfl, pk_mul]
  refine ⟨33, ?_⟩
  have k := f16 (post := post) h hf hr hi hP.2 hp 32 0 v1 v2 v3 v4 v5 v6 v7 v8 v9 v10 v11 (by omega) (by rw [show min (0 * 256) n = 0 by omega]; exact Nat.zero_le _)
  rw [show min (0 * 256) n = 0 by omega] at k
  exact k
