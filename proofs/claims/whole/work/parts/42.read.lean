/-- the amount at a code -/
def aM (F : Nat) (low : Int) (fn s : Nat) : Nat := vM fn (fg F s) (low + ex F s)
def aX (F : Nat) (low : Int) (fn s : Nat) : Int := vX fn (fg F s) (low + ex F s)
def aO (F : Nat) (low : Int) (fn s : Nat) : Bool := vO fn (fg F s) (low + ex F s)
/-- its code among the floats without end, its ten figures, whether there is more, whether it is beyond -/
def aC (F : Nat) (low : Int) (fn s : Nat) : Nat := cod F low (aM F low fn s) (aX F low fn s)
def aW (F : Nat) (low : Int) (fn s : Nat) : Nat := wy F low (aM F low fn s) (aX F low fn s)
def aQ (F : Nat) (low : Int) (fn s : Nat) : Bool := aO F low fn s || los F low (aM F low fn s) (aX F low fn s)
def aV (F n : Nat) (low : Int) (fn s : Nat) : Nat := if n ≤ aC F low fn s then n - 1 else aC F low fn s
def aY (F n : Nat) (low : Int) (fn s : Nat) : Bool := decide (n ≤ aC F low fn s)
abbrev isL (sg n fn c : Nat) : Prop := c % sg < n ∧ c % sg ≠ 0 ∧ ¬ (fn = 1 ∧ sg ≤ c)
def srS (sg fn c : Nat) : Nat := if c % sg = 0 ∧ fn ≠ 0 then 1 else 0
theorem aV_le {F n : Nat} {low : Int} {fn s : Nat} (hn : n ≤ 8192) : aV F n low fn s ≤ 8192 := by
  unfold aV; split <;> omega
theorem aW_lt (F : Nat) (low : Int) (fn s : Nat) : aW F low fn s < 1024 := by
  unfold aW wy; exact Nat.mod_lt _ (by omega)
theorem X6_read {post : Int64 → Int32 → Int32 → Int32 → Int32 → Int32 → Int32 → Int32 → Int32 → Int32 → Int32 → Prop} {E F b n fn c : Nat} {low : Int} {a1 : Int64} {a2 a3 a5 a6 a8 a9 a10 a11 : Int32} (hE : E ≤ 5) (hF : F ≤ 8) (hb : b ≤ 15) (hl : low = 1 - b - F) (hn1 : 1 ≤ n) (hn : n ≤ 8192) (hf : fn < 5) (hc : c < 2 ^ (E + F + 1))
    (hy : isL (2 ^ (E + F)) n fn c → ∀ (v1 : Int64) (v2 v3 : Int32), post v1 v2 v3 1 (bI (decide (fn ≠ 3 ∧ 2 ^ (E + F) ≤ c))) a6 (nI (srt (aQ F low fn (c % 2 ^ (E + F))) (aY F n low fn (c % 2 ^ (E + F))) (aW F low fn (c % 2 ^ (E + F))))) (nI (aV F n low fn (c % 2 ^ (E + F)))) (nI (aW F low fn (c % 2 ^ (E + F)))) (bI (aQ F low fn (c % 2 ^ (E + F)))) (bI (aY F n low fn (c % 2 ^ (E + F)))))
    (hnl : ¬ isL (2 ^ (E + F)) n fn c → post a1 a2 a3 0 a5 (nI (stl (2 ^ (E + F)) n fn c)) (nI (srS (2 ^ (E + F)) fn c)) a8 a9 a10 a11) :
    wp_X6_read post (nI F) (nI b) (nI (2 ^ (E + F))) (nI n) a1 a2 a3 a5 a6 a8 a9 a10 a11 (nI fn) (nI c) := by
  generalize hk : E + F = k at *
  have hk13 : k ≤ 13 := by omega
  have hkb : 2 ^ (k + 1) ≤ 2 ^ 14 := Nat.pow_le_pow_right (by omega) (by omega)
  have f0 : nI fn = 0 ↔ fn = 0 := eqL (b := 0) (by omega) (by omega) rfl
  have f1 : nI fn = 1 ↔ fn = 1 := eqL (b := 1) (by omega) (by omega) rfl
  have f3 : nI fn = 3 ↔ fn = 3 := eqL (b := 3) (by omega) (by omega) rfl
  have KN : ∀ z : Bool, z = decide (c % 2 ^ k = 0) → ¬ isL (2 ^ k) n fn c → wp_X6_read_57 post (nI F) (nI b) (nI (2 ^ k)) (nI n) a1 a2 a3 a5 a6 a8 a9 a10 a11 (nI fn) (nI c) (bI z) := by
    intro z hz q
    have h := hnl q
    unfold wp_X6_read_57 wp_X6_read_58
    refine ⟨Or.inl rfl, fun _ => ?_, fun w => absurd rfl w⟩
    refine X6_settled hk13 hn hf hc ?_
    rw [bI_0, f0]
    unfold srS at h
    refine ⟨fun d => ?_, fun d => ⟨fun w => ?_, fun w => ?_⟩⟩
    · rw [d] at hz
      have : ¬ c % 2 ^ k = 0 := by simpa using hz.symm
      rw [if_neg (by omega)] at h
      exact h
    · rw [if_neg (by omega)] at h
      exact h
    · have d : z = true := by cases z; exact absurd rfl d; rfl
      rw [d] at hz
      have : c % 2 ^ k = 0 := by simpa using hz.symm
      rw [if_pos ⟨this, w⟩] at h
      exact h
  have KL : ∀ z : Int32, isL (2 ^ k) n fn c → wp_X6_read_58 post (nI F) (nI b) (nI (2 ^ k)) (nI n) a1 a2 a3 a5 a6 a8 a9 a10 a11 (nI fn) (nI c) z (1 : Int32) := by
    intro z q
    have h := hy q
    obtain ⟨q1, q2, q3⟩ := q
    have hs : c % 2 ^ k < 2 ^ k := Nat.mod_lt _ (p2p k)
    obtain ⟨g1, g2⟩ := fg_b (F := F) (s := c % 2 ^ k) hF
    have g3 := ex_b (E := E) (F := F) (s := c % 2 ^ k) hE (by rw [hk]; exact hs)
    have g4 := g2 q2
    obtain ⟨m1, m2, m3⟩ := vM_b (fn := fn) (k := low + ex F (c % 2 ^ k)) hf g4 g1
    obtain ⟨x1, x2⟩ := vX_b (fn := fn) (k := low + ex F (c % 2 ^ k)) g4 g1 (by omega) (by omega)
    have K90 : ∀ y : Bool, y = decide (fn ≠ 3 ∧ 2 ^ k ≤ c) → wp_X6_read_90 post (nI F) (nI b) (nI (2 ^ k)) (nI n) a1 a2 a3 (1 : Int32) a6 (nI fn) (nI c) (bI y) := by
      intro y hyy
      unfold wp_X6_read_90
      refine ⟨bI_01 y, X1_factor (by omega) (by omega) (by omega) (X1_power (by omega) (by omega) (by omega) ?_)⟩
      rw [show (1 : Int) - b - F + ex F (c % 2 ^ k) = low + ex F (c % 2 ^ k) by omega]
      refine X6_reckon hf g4 g1 (by omega) (by omega) ?_
      refine X3_lay hF hb hl hn1 hn m1 (by omega) x1 x2 ?_
      refine X3_sortLaid (Nat.mod_lt _ (by omega)) ?_
      rw [hyy]
      exact h _ _ _
    unfold wp_X6_read_58
    refine ⟨Or.inr rfl, fun w => absurd w (by decide), fun _ => ?_⟩
    rw [f3]
    refine ⟨fun d => ?_, fun d => ?_⟩
    · exact K90 false (by simp [d])
    · refine X1_isBelow (by omega) hc (fun w => ⟨fun _ => K90 false (by simp; omega), fun v => absurd rfl v⟩) (fun w => ⟨fun v => absurd v (by decide), fun _ => K90 true (by simp [d, w])⟩)
  have K30 : ∀ (z y : Bool), z = decide (c % 2 ^ k = 0) → y = decide (fn = 1 ∧ 2 ^ k ≤ c) → wp_X6_read_30 post (nI F) (nI b) (nI (2 ^ k)) (nI n) a1 a2 a3 a5 a6 a8 a9 a10 a11 (nI fn) (nI c) (bI z) (bI y) := by
    intro z y hz hyy
    unfold wp_X6_read_30
    refine X1_isPlain (by omega) (by omega) (by omega) (fun q => ⟨fun _ => KN z hz (fun w => by have := w.1; omega), fun w => absurd rfl w⟩) (fun q => ⟨fun w => absurd w (by decide), fun _ => ⟨fun w => ?_, fun w => ⟨fun v => ?_, fun v => ?_⟩⟩⟩)
    · have w : z = true := by cases z; exact absurd rfl w; rfl
      have w2 : c % 2 ^ k = 0 := by rw [w] at hz; simpa using hz.symm
      exact KN z hz (fun u => u.2.1 w2)
    · have v : y = true := by cases y; exact absurd rfl v; rfl
      have v2 : fn = 1 ∧ 2 ^ k ≤ c := by rw [v] at hyy; simpa using hyy.symm
      exact KN z hz (fun u => u.2.2 v2)
    · have w := (bI_0 z).mp w
      have w2 : ¬ c % 2 ^ k = 0 := by rw [w] at hz; simpa using hz.symm
      have v := (bI_0 y).mp v
      have v2 : ¬ (fn = 1 ∧ 2 ^ k ≤ c) := by rw [v] at hyy; simpa using hyy.symm
      exact KL _ ⟨q, w2, v2⟩
  unfold wp_X6_read
  rw [f1]
  have all : ∀ z : Bool, z = decide (c % 2 ^ k = 0) → (((¬ fn = 1) → (wp_X6_read_29 post (nI F) (nI b) (nI (2 ^ k)) (nI n) a1 a2 a3 a5 a6 a8 a9 a10 a11 (nI fn) (nI c) (bI z))) ∧ ((fn = 1) → (wp_X1_isBelow (fun r19 => (((r19 = 0) → (wp_X6_read_29 post (nI F) (nI b) (nI (2 ^ k)) (nI n) a1 a2 a3 a5 a6 a8 a9 a10 a11 (nI fn) (nI c) (bI z))) ∧ ((¬ (r19 = 0)) → (wp_X6_read_30 post (nI F) (nI b) (nI (2 ^ k)) (nI n) a1 a2 a3 a5 a6 a8 a9 a10 a11 (nI fn) (nI c) (bI z) (1 : Int32))))) (nI (2 ^ k)) (nI c)))) := by
    intro z hz
    refine ⟨fun d => K30 z false hz (by simp [d]), fun d => X1_isBelow (by omega) hc (fun q => ⟨fun _ => K30 z false hz (by simp; omega), fun w => absurd rfl w⟩) (fun q => ⟨fun w => absurd w (by decide), fun _ => K30 z true hz (by simp [d, q])⟩)⟩
  exact X1_isZero (by omega) (by omega) (fun q => all false (by simp [q])) (fun q => all true (by simp [q]))
/-- THE RIGHT RESULT, as the class has it -/
def RES (E F n : Nat) (low : Int) (fn c r : Nat) : Nat := if isL (2 ^ (E + F)) n fn c then rd (2 ^ (E + F)) (aQ F low fn (c % 2 ^ (E + F))) (aY F n low fn (c % 2 ^ (E + F))) (aW F low fn (c % 2 ^ (E + F))) (aV F n low fn (c % 2 ^ (E + F))) (decide (fn ≠ 3 ∧ 2 ^ (E + F) ≤ c)) r else stl (2 ^ (E + F)) n fn c
theorem X6_resultAt {post : Int32 → Int64 → Int32 → Int32 → Int32 → Int32 → Int32 → Int32 → Int32 → Int32 → Int32 → Int32 → Prop} {E F b n fn c r : Nat} {low : Int} {a1 : Int64} {a2 a3 a5 a6 a8 a9 a10 a11 : Int32} (hE : E ≤ 5) (hF : F ≤ 8) (hb : b ≤ 15) (hl : low = 1 - b - F) (hn1 : 1 ≤ n) (hn : n ≤ 8192) (hf : fn < 5) (hc : c < 2 ^ (E + F + 1)) (hr : r < 5)
    (h : ∀ (v1 : Int64) (v2 v3 v4 v5 v6 v7 v8 v9 v10 v11 : Int32), post (nI (RES E F n low fn c r)) v1 v2 v3 v4 v5 v6 v7 v8 v9 v10 v11) :
    wp_X6_resultAt post (nI F) (nI b) (nI (2 ^ (E + F))) (nI n) a1 a2 a3 a5 a6 a8 a9 a10 a11 (nI fn) (nI c) (nI r) := by
  unfold wp_X6_resultAt
  refine X6_read hE hF hb hl hn1 hn hf hc (fun q v1 v2 v3 => ⟨fun w => absurd w (by decide), fun _ => ?_⟩) (fun q => ⟨fun _ => ?_, fun w => absurd rfl w⟩)
  · refine X3_rounded (aW_lt _ _ _ _) (aV_le hn) hr ?_
    unfold RES at h
    rw [if_pos q] at h
    exact h _ _ _ _ _ _ _ _ _ _ _
  · unfold RES at h
    rw [if_neg q] at h
    exact h _ _ _ _ _ _ _ _ _ _ _
/-! figures and hardness of what was read -/
def hl (t z : Nat) : Nat → Nat
  | 0 => 0
  | j + 1 => if t / 2 ^ j % 2 = z then 1 + hl t z j else 0
def hd (t : Nat) : Nat := hl t (t / 256 % 2) 9
theorem X6_figuresRead {post : Int32 → Prop} {w v n : Nat} {q y la : Bool} (hw : w < 1024) (hn1 : 1 ≤ n) (hn : n ≤ 8192) (hv : v ≤ 8192) (h : post (iI (if la then fgr n q y w v else -9))) : wp_X6_figuresRead post (nI n) (bI la) (nI v) (nI w) (bI q) (bI y) := by
  unfold wp_X6_figuresRead
  rw [bI_0]
  refine ⟨fun c => ?_, fun c => ?_⟩
  · rw [c] at h; exact h
  · have c : la = true := by cases la; exact absurd rfl c; rfl
    rw [c] at h
    exact X3_figuresLaid hw hn1 hn hv h
theorem hard_loop {post : Int32 → Prop} {t z : Nat} (ht : t < 1024) (hz : z < 2) : ∀ (j a : Nat), j ≤ 9 → post (nI (a + hl t z j)) → wp_X6_hardnessRead_24 post (j + 1) (nI t) (nI z) (nI a) (iI ((j : Int) - 1)) := by
  intro j
  induction j with
  | zero =>
    intro a hj h
    rw [wp_X6_hardnessRead_24_s]
    exact ⟨fun _ => h, fun q => absurd (by decide) q⟩
  | succ j ih =>
    intro a hj h
    rw [wp_X6_hardnessRead_24_s]
    have e8 : iI (((j + 1 : Nat) : Int) - 1) = nI j := by rw [iI_N]; congr 1; omega
    have em : nI j + (-1 : Int32) = iI ((j : Int) - 1) := by
      rw [iI_N, show (-1 : Int32) = iI (-1) from rfl, iI_add]
      rfl
    have hd : t / 2 ^ j < 1024 := Nat.lt_of_le_of_lt (Nat.div_le_self _ _) ht
    unfold wp_X6_hardnessRead_24_b
    rw [e8, em, sh_r (by omega) (by omega), an_1 (by omega), nI_eq (by omega) (by omega), show (1 : Int32) = nI 1 from rfl, nI_add]
    unfold hl at h
    refine ⟨fun q => absurd q (by rw [show (0 : Int32) = nI 0 from rfl, nI_ltI (by omega) (by omega)]; omega), fun _ => ⟨fun q => ?_, fun q => ?_⟩⟩
    · rw [if_neg q] at h; exact h
    · rw [if_pos q] at h
      exact ih (a + 1) (by omega) (by rw [show a + 1 + hl t z j = a + (1 + hl t z j) by omega]; exact h)
def hdI (z : Int) : Nat := if z < 0 then 0 else hd z.toNat
theorem fgr_b {n w v : Nat} {q y : Bool} (hw : w < 1024) : -9 ≤ fgr n q y w v ∧ fgr n q y w v < 1024 := by
  unfold fgr; split <;> omega
theorem X6_hardnessRead {post : Int32 → Prop} {w v n : Nat} {q y la : Bool} (hw : w < 1024) (hn1 : 1 ≤ n) (hn : n ≤ 8192) (hv : v ≤ 8192) (h : post (nI (hdI (if la then fgr n q y w v else -9)))) : wp_X6_hardnessRead post (nI n) (bI la) (nI v) (nI w) (bI q) (bI y) := by
  unfold wp_X6_hardnessRead
  have hb : -9 ≤ (if la then fgr n q y w v else -9) ∧ (if la then fgr n q y w v else -9) < 1024 := by
    have := fgr_b (n := n) (v := v) (q := q) (y := y) hw
    cases la <;> simp <;> omega
  refine X6_figuresRead hw hn1 hn hv ?_
  generalize (if la then fgr n q y w v else -9) = z at *
  rw [iI_0le ⟨by omega, by omega⟩]
  unfold hdI at h
  refine ⟨fun c => ?_, fun c => ?_⟩
  · rw [if_neg (by omega)] at h
    rw [show iI z = nI z.toNat from by rw [iI_N]; congr 1; omega]
    have e : (nI z.toNat >>> ((8 : Int32) &&& 31)) &&& (1 : Int32) = nI (z.toNat / 256 % 2) := by
      rw [show (8 : Int32) = nI 8 from rfl, sh_r (by omega) (by omega), an_1 (by omega)]
    rw [e]
    refine ⟨9 + 1, ?_⟩
    rw [show (0 : Int32) = nI 0 from rfl, show (8 : Int32) = iI (((9 : Nat) : Int) - 1) from by decide]
    refine hard_loop (by omega) (by omega) 9 0 (by omega) ?_
    rw [Nat.zero_add]
    exact h
  · rw [if_pos (by omega)] at h
    exact h
