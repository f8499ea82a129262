/-! ===== the reference's census ===== -/
theorem bsr (a j : Nat) : (16384 : Int32) * nI a + nI j = nI (16384 * a + j) := by rw [show (16384 : Int32) = nI 16384 from rfl, pk_mul, nI_add]
def KT (E F n : Nat) (low : Int) (fn : Nat) (H S : Nat → Int32) (m : Nat) : Prop := ∀ c, c < m → H (16384 * fn + c) = nI (HRD E F n low fn c) ∧ S (16384 * fn + c) = nI (SRT E F n low fn c)
def KI (E F n : Nat) (low : Int) (K H S : Nat → Int32) : Prop := ∀ fn, fn < 5 → ¬ K fn = 0 → KT E F n low fn H S (2 ^ (E + F + 1))
theorem know_loop {post : Int32 → Int32 → Int64 → (Nat → Int32) → (Nat → Int32) → (Nat → Int32) → Prop} {E F b n fn : Nat} {low : Int} {K H0 S0 : Nat → Int32} (h : MK E F b n low) (hf : fn < 5)
    (hp : ∀ (a1 a2 : Int32) (a3 : Int64) (H S : Nat → Int32), KT E F n low fn H S (2 ^ (E + F + 1)) → (∀ k, (k < 16384 * fn ∨ 16384 * fn + 16384 ≤ k) → H k = H0 k ∧ S k = S0 k) → post a1 a2 a3 K H S) :
    ∀ (d c : Nat) (a1 a2 : Int32) (a3 : Int64) (H S : Nat → Int32), c + d = 2 ^ (E + F + 1) → KT E F n low fn H S c → (∀ k, (k < 16384 * fn ∨ 16384 * fn + 16384 ≤ k) → H k = H0 k ∧ S k = S0 k) →
      wp_X8_know_19 post (nI F) (nI (2 ^ (E + F + 1))) (nI (n - 1)) (nI (2 ^ (E + F))) (iI low) (nI fn) (d + 1) a1 a2 a3 K H S (nI c) := by
  obtain ⟨m1, m2, m3, m4, m5, m6⟩ := MK_N h
  intro d
  induction d with
  | zero =>
    intro c a1 a2 a3 H S hc hk ho
    rw [wp_X8_know_19_s]
    unfold wp_X8_know_19_b
    rw [nI_leI (by omega) (by omega)]
    refine ⟨fun _ => ?_, fun q => absurd (by omega) q⟩
    rw [show c = 2 ^ (E + F + 1) by omega] at hk
    exact hp _ _ _ _ _ hk ho
  | succ d ih =>
    intro c a1 a2 a3 H S hc hk ho
    rw [wp_X8_know_19_s]
    unfold wp_X8_know_19_b
    rw [nI_leI (by omega) (by omega), bsr, cl_nI (by omega), nI_1]
    refine ⟨fun q => by omega, fun _ => X8_hardOf h hf (by omega) (fun b1 b2 b3 => ⟨vp_in_nI (by omega) (by omega), X8_sortOf h hf (by omega) (fun d1 d2 d3 => ⟨vp_in_nI (by omega) (by omega), ih (c + 1) _ _ _ _ _ (by omega) ?_ ?_⟩)⟩)⟩
    · intro k hk1
      by_cases e : k = c
      · subst e; exact ⟨upd_s _ _ _, upd_s _ _ _⟩
      · rw [upd_n (by omega), upd_n (by omega)]; exact hk k (by omega)
    · intro k hk1
      rw [upd_n (by omega), upd_n (by omega)]; exact ho k hk1
theorem X8_know {post : Int32 → Int32 → Int64 → (Nat → Int32) → (Nat → Int32) → (Nat → Int32) → Prop} {E F b n fn : Nat} {low : Int} {K H S : Nat → Int32} {a1 a2 : Int32} {a3 : Int64} (h : MK E F b n low) (hf : fn < 5) (hI : KI E F n low K H S)
    (hp : ∀ (a1 a2 : Int32) (a3 : Int64) (K H S : Nat → Int32), KI E F n low K H S → ¬ K fn = 0 → post a1 a2 a3 K H S) :
    wp_X8_know post (nI F) (nI (2 ^ (E + F + 1))) (nI (n - 1)) (nI (2 ^ (E + F))) (iI low) a1 a2 a3 K H S (nI fn) := by
  obtain ⟨m1, m2, m3, m4, m5, m6⟩ := MK_N h
  unfold wp_X8_know
  rw [cl_nI (by omega)]
  refine ⟨vp_in_nI hf (by omega), fun q => ⟨vp_in_nI hf (by omega), ⟨2 ^ (E + F + 1) + 1, ?_⟩⟩, fun q => hp _ _ _ _ _ _ hI q⟩
  have e1 : ¬ (vp_nar .boolean (1 : Int32)) = 0 := by decide
  refine know_loop (H0 := H) (S0 := S) h hf ?_ (2 ^ (E + F + 1)) 0 _ _ _ _ _ (by omega) (fun c hc => by omega) (fun k _ => ⟨rfl, rfl⟩)
  intro b1 b2 b3 H' S' hk ho
  refine hp _ _ _ _ _ _ ?_ (by rw [upd_s]; exact e1)
  intro g hg w
  by_cases e : g = fn
  · subst e; exact hk
  · rw [upd_n e] at w
    intro c hc
    obtain ⟨o1, o2⟩ := ho (16384 * g + c) (by omega)
    rw [o1, o2]
    exact hI g hg w c hc
theorem h62 {post : Int32 → Int32 → Int32 → Int64 → (Nat → Int32) → (Nat → Int32) → (Nat → Int32) → (Nat → Int32) → Prop} {fn m g i : Nat} {f : Nat → Nat} {R K H S : Nat → Int32} {a1 a2 : Int32} {a3 : Int64} (hf : fn < 5) (hm : m ≤ 16384) (hi : i < 2147483648) (h9 : ∀ c, f c ≤ 9) (hg : g ≤ 9) (hH : ∀ c, c < m → H (16384 * fn + c) = nI (f c))
    (hp : ∀ r, HR (fun c => f c == g) m (nI i) r → post r a1 a2 a3 R K H S) :
    ∀ (d c : Nat), c + d = m → cnt (fun c => f c == g) c ≤ i → wp_X8_hardest_62 post (nI m) (nI fn) (nI i) (d + 1) a1 a2 a3 R K H S (nI g) (nI (i - cnt (fun c => f c == g) c)) (nI c) := by
  intro d
  induction d with
  | zero =>
    intro c hc hk
    rw [wp_X8_hardest_62_s]
    unfold wp_X8_hardest_62_b
    rw [nI_leI (by omega) (by omega)]
    rw [show c = m by omega] at hk
    exact ⟨fun _ => hp _ (Or.inl ⟨rfl, Or.inr ⟨i, hi, rfl, hk⟩⟩), fun q => absurd (by omega) q⟩
  | succ d ih =>
    intro c hc hk
    rw [wp_X8_hardest_62_s]
    unfold wp_X8_hardest_62_b wp_X8_hardest_106
    have hh := h9 c
    rw [nI_leI (by omega) (by omega), bsr, cl_nI (by omega), hH c (by omega), nI_eq (by omega) (by omega), eqL (y := 0) (b := 0) (by omega) (by omega) rfl, nI_1]
    have e1 : cnt (fun c => f c == g) (c + 1) = cnt (fun c => f c == g) c + (if (f c == g) = true then 1 else 0) := rfl
    refine ⟨fun q => by omega, fun _ => ⟨fun q => absurd q (nI_nlt0 hi), fun _ => ⟨vp_in_nI (by omega) (by omega), fun q => ⟨fun z => ?_, fun z => ?_⟩, fun q => ?_⟩⟩⟩
    · rw [if_pos (by simpa using q)] at e1
      rw [show i - cnt (fun c => f c == g) c = (i - cnt (fun c => f c == g) c - 1) + 1 by omega, pk_m1]
      have k := ih (c + 1) (by omega) (by omega)
      rw [e1, Nat.sub_add_eq] at k
      exact k
    · exact hp _ (Or.inr ⟨i, c, hi, rfl, rfl, by omega, by simpa using q, by omega⟩)
    · rw [if_neg (by simpa using q)] at e1
      have k := ih (c + 1) (by omega) (by omega)
      rw [e1] at k
      exact k
theorem h23 {post : Int32 → Int32 → Int32 → Int64 → (Nat → Int32) → (Nat → Int32) → (Nat → Int32) → (Nat → Int32) → Prop} {fn m : Nat} {p : Int32} {f : Nat → Nat} {R K H S : Nat → Int32} {a1 a2 : Int32} {a3 : Int64} (hf : fn < 5) (hm0 : 0 < m) (hm : m ≤ 16384) (h9 : ∀ c, f c ≤ 9) (hH : ∀ c, c < m → H (16384 * fn + c) = nI (f c))
    (hp : ∀ r, HR (fun c => f c == mx f m) m p r → post r a1 a2 a3 R K H S) :
    ∀ (d c : Nat), c + d = m → wp_X8_hardest_23 post (nI m) (nI fn) p (d + 1) a1 a2 a3 R K H S (nI (mx f c)) (nI c) := by
  intro d
  induction d with
  | zero =>
    intro c hc
    rw [wp_X8_hardest_23_s]
    unfold wp_X8_hardest_23_b
    rw [nI_leI (by omega) (by omega)]
    refine ⟨fun _ => ?_, fun q => absurd (by omega) q⟩
    rw [show c = m by omega]
    by_cases w : p < 0
    · refine ⟨1, ?_⟩
      rw [wp_X8_hardest_62_s]
      unfold wp_X8_hardest_62_b
      exact ⟨fun _ => hp _ (Or.inl ⟨rfl, Or.inl w⟩), fun _ => ⟨fun _ => hp _ (Or.inl ⟨rfl, Or.inl w⟩), fun v => absurd w v⟩⟩
    · obtain ⟨i, hi, e⟩ := nI_of w
      rw [e] at hp ⊢
      exact ⟨m + 1, h62 hf hm (by omega) h9 (mx_9 h9 m) hH hp m 0 (by omega) (Nat.zero_le _)⟩
  | succ d ih =>
    intro c hc
    rw [wp_X8_hardest_23_s]
    unfold wp_X8_hardest_23_b
    have hh := h9 c
    have hx := mx_9 h9 c
    rw [nI_leI (by omega) (by omega), bsr, cl_nI (by omega), hH c (by omega), nI_1]
    refine ⟨fun q => by omega, fun _ => ⟨vp_in_nI (by omega) (by omega), ?_⟩⟩
    have e : (if nI (mx f c) < nI (f c) then nI (f c) else nI (mx f c)) = nI (mx f (c + 1)) := by
      show _ = nI (if _ then _ else _)
      by_cases q : mx f c < f c
      · rw [if_pos q, if_pos ((nI_ltI (by omega) (by omega)).mpr q)]
      · rw [if_neg q, if_neg (fun w => q ((nI_ltI (by omega) (by omega)).mp w))]
    rw [e]
    exact ih (c + 1) (by omega)
theorem c47 {post : Int32 → Int32 → Int32 → Int64 → (Nat → Int32) → (Nat → Int32) → (Nat → Int32) → (Nat → Int32) → Prop} {fn m g : Nat} {f : Nat → Nat} {R K H S : Nat → Int32} {a1 a2 : Int32} {a3 : Int64} (hf : fn < 5) (hm : m ≤ 16384) (h9 : ∀ c, f c ≤ 9) (hg : g ≤ 9) (hH : ∀ c, c < m → H (16384 * fn + c) = nI (f c))
    (hp : post (nI (cnt (fun c => f c == g) m)) a1 a2 a3 R K H S) :
    ∀ (d c : Nat), c + d = m → wp_X8_count_47 post (nI m) (nI fn) (nI g) (d + 1) a1 a2 a3 R K H S (nI (cnt (fun c => f c == g) c)) (nI c) := by
  intro d
  induction d with
  | zero =>
    intro c hc
    rw [wp_X8_count_47_s]
    unfold wp_X8_count_47_b
    rw [nI_leI (by omega) (by omega)]
    rw [show c = m by omega]
    exact ⟨fun _ => hp, fun q => absurd (by omega) q⟩
  | succ d ih =>
    intro c hc
    rw [wp_X8_count_47_s]
    unfold wp_X8_count_47_b wp_X8_count_79
    have hh := h9 c
    rw [nI_leI (by omega) (by omega), bsr, cl_nI (by omega), hH c (by omega), nI_eq (by omega) (by omega), nI_1, nI_1]
    have e1 : cnt (fun c => f c == g) (c + 1) = cnt (fun c => f c == g) c + (if (f c == g) = true then 1 else 0) := rfl
    have k := ih (c + 1) (by omega)
    refine ⟨fun q => by omega, fun _ => ⟨vp_in_nI (by omega) (by omega), fun q => ?_, fun q => ?_⟩⟩
    · rw [if_neg (by simpa using q)] at e1
      rw [e1] at k
      rw [show ∀ x : Int32, x + 0 = x from fun x => by simp]
      exact k
    · rw [if_pos (by simpa using q)] at e1
      rw [e1] at k
      exact k
theorem a38 {post : Int32 → Int32 → Int32 → Int64 → (Nat → Int32) → (Nat → Int32) → (Nat → Int32) → (Nat → Int32) → Prop} {fn m g : Nat} {f : Nat → Nat} {R K H S : Nat → Int32} {a1 a2 : Int32} {a3 : Int64} (hf : fn < 5) (hm : m ≤ 16384) (h9 : ∀ c, f c ≤ 9) (hg : g ≤ 9) (hH : ∀ c, c < m → S (16384 * fn + c) = nI (f c))
    (hp : post (nI (cnt (fun c => f c == g) m)) a1 a2 a3 R K H S) :
    ∀ (d c : Nat), c + d = m → wp_X8_all_38 post (nI m) (nI fn) (nI g) (d + 1) a1 a2 a3 R K H S (nI (cnt (fun c => f c == g) c)) (nI c) := by
  intro d
  induction d with
  | zero =>
    intro c hc
    rw [wp_X8_all_38_s]
    unfold wp_X8_all_38_b
    rw [nI_leI (by omega) (by omega)]
    rw [show c = m by omega]
    exact ⟨fun _ => hp, fun q => absurd (by omega) q⟩
  | succ d ih =>
    intro c hc
    rw [wp_X8_all_38_s]
    unfold wp_X8_all_38_b wp_X8_all_70
    have hh := h9 c
    rw [nI_leI (by omega) (by omega), bsr, cl_nI (by omega), hH c (by omega), nI_eq (by omega) (by omega), nI_1, nI_1]
    have e1 : cnt (fun c => f c == g) (c + 1) = cnt (fun c => f c == g) c + (if (f c == g) = true then 1 else 0) := rfl
    have k := ih (c + 1) (by omega)
    refine ⟨fun q => by omega, fun _ => ⟨vp_in_nI (by omega) (by omega), fun q => ?_, fun q => ?_⟩⟩
    · rw [if_neg (by simpa using q)] at e1
      rw [e1] at k
      rw [show ∀ x : Int32, x + 0 = x from fun x => by simp]
      exact k
    · rw [if_pos (by simpa using q)] at e1
      rw [e1] at k
      exact k
