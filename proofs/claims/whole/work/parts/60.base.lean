/-! ===== the public methods: what both ask first ===== -/
theorem B1 {c A B : Prop} (hc : c) (h : A) : (c → A) ∧ (¬ c → B) := ⟨fun _ => h, fun w => absurd hc w⟩
theorem B2 {c A B : Prop} (hc : ¬ c) (h : B) : (c → A) ∧ (¬ c → B) := ⟨fun w => absurd w hc, fun _ => h⟩
theorem B3 {c A B : Prop} (hc : c) (h : A) : (¬ c → B) ∧ (c → A) := ⟨fun w => absurd hc w, fun _ => h⟩
theorem B4 {c A B : Prop} (hc : ¬ c) (h : B) : (¬ c → B) ∧ (c → A) := ⟨fun _ => h, fun w => absurd w hc⟩
theorem E1 {r : Int32} {A : Prop} (h : A) : (r = r → A) ∧ (¬ r = r → False) := ⟨fun _ => h, fun w => w rfl⟩
theorem cvt {post : Int32 → Prop} {a b : Int32} (h : post a) (e : a = b) : post b := e ▸ h
def IN (x : Int32) (n : Nat) : Prop := ∃ j, j < n ∧ x = nI j
theorem IN_n {x : Int32} {n : Nat} (hn : n < 2147483648) (h : ¬ IN x n) : x < 0 ∨ (¬ x < 0 ∧ nI n ≤ x) := by
  rcases pk_ix x (n := n) (by omega) with q | q | ⟨j, h1, h2⟩
  · exact Or.inl q
  · by_cases w : x < 0
    · exact Or.inl w
    · exact Or.inr ⟨w, q⟩
  · exact absurd ⟨j, h1, h2⟩ h
theorem iny {post : Int32 → Prop} {j n : Nat} {y : Int32} (hy : y = nI n) (hn : n < 2147483648) (hj : j < n) (h : post 1) : wp_X8_isIn post (nI j) y := by
  unfold wp_X8_isIn
  rw [hy]
  exact B2 (nI_nlt0 (by omega)) (B2 (by rw [nI_leI (by omega) (by omega)]; omega) h)
theorem inn {post : Int32 → Prop} {n : Nat} {x y : Int32} (hy : y = nI n) (hn : n < 2147483648) (hx : ¬ IN x n) (h : post 0) : wp_X8_isIn post x y := by
  unfold wp_X8_isIn
  rw [hy]
  rcases IN_n hn hx with q | ⟨q, w⟩
  · exact B1 q h
  · exact B2 q (B1 w h)
theorem f7y {post : Int32 → Prop} {j : Nat} (hj : j < 5) (h : post 1) : wp_X7_isFunction post (nI j) := iny (n := 5) rfl (by omega) hj h
theorem f7n {post : Int32 → Prop} {x : Int32} (hx : ¬ IN x 5) (h : post 0) : wp_X7_isFunction post x := inn (n := 5) rfl (by omega) hx h
theorem r7y {post : Int32 → Prop} {j : Nat} (hj : j < 5) (h : post 1) : wp_X7_isRounding post (nI j) := iny (n := 5) rfl (by omega) hj h
theorem r7n {post : Int32 → Prop} {x : Int32} (hx : ¬ IN x 5) (h : post 0) : wp_X7_isRounding post x := inn (n := 5) rfl (by omega) hx h
theorem f8y {post : Int32 → Prop} {j : Nat} (hj : j < 5) (h : post 1) : wp_X8_isFunction post (nI j) := iny (n := 5) rfl (by omega) hj ⟨Or.inr rfl, h⟩
theorem f8n {post : Int32 → Prop} {x : Int32} (hx : ¬ IN x 5) (h : post 0) : wp_X8_isFunction post x := inn (n := 5) rfl (by omega) hx ⟨Or.inl rfl, h⟩
theorem r8y {post : Int32 → Prop} {j : Nat} (hj : j < 5) (h : post 1) : wp_X8_isIn post (nI j) 5 := iny (n := 5) rfl (by omega) hj h
theorem r8n {post : Int32 → Prop} {x : Int32} (hx : ¬ IN x 5) (h : post 0) : wp_X8_isIn post x 5 := inn (n := 5) rfl (by omega) hx h
theorem c7y {post : Int32 → Prop} {j n : Nat} (hn : n < 2147483648) (hj : j < n) (h : post 1) : wp_X1_isCode post (nI n) (nI j) := iny rfl hn hj h
theorem c7n {post : Int32 → Prop} {n : Nat} {x : Int32} (hn : n < 2147483648) (hx : ¬ IN x n) (h : post 0) : wp_X1_isCode post (nI n) x := inn rfl hn hx h
theorem c8y {post : Int32 → Prop} {j n : Nat} (hn : n < 2147483648) (hj : j < n) (h : post 1) : wp_X8_isCode post (nI n) (nI j) := iny rfl hn hj ⟨Or.inr rfl, h⟩
theorem c8n {post : Int32 → Prop} {n : Nat} {x : Int32} (hn : n < 2147483648) (hx : ¬ IN x n) (h : post 0) : wp_X8_isCode post (nI n) x := inn rfl hn hx ⟨Or.inl rfl, h⟩
theorem z7y {post : Int32 → Prop} {j F : Nat} (hF : F ≤ 8) (hj : j < 2 ^ F) (h : post 1) : wp_X1_isZ post (nI F) (nI j) := by
  have hZ : 2 ^ F ≤ 2 ^ 8 := Nat.pow_le_pow_right (by omega) hF
  exact B2 (nI_nlt0 (by omega)) (X1_zs (by omega) (B2 (by rw [nI_leI (by omega) (by omega)]; omega) h))
theorem z7n {post : Int32 → Prop} {x : Int32} {F : Nat} (hF : F ≤ 8) (hx : ¬ IN x (2 ^ F)) (h : post 0) : wp_X1_isZ post (nI F) x := by
  have hZ : 2 ^ F ≤ 2 ^ 8 := Nat.pow_le_pow_right (by omega) hF
  rcases IN_n (by omega) hx with q | ⟨q, w⟩
  · exact B1 q h
  · exact B2 q (X1_zs (by omega) (B1 w h))
theorem z8y {post : Int32 → Prop} {j F : Nat} (hF : F ≤ 8) (hj : j < 2 ^ F) (h : post 1) : wp_X8_isIn post (nI j) ((1 : Int32) <<< (nI F &&& 31)) := by
  have hZ : 2 ^ F ≤ 2 ^ 8 := Nat.pow_le_pow_right (by omega) hF
  exact iny (sh_1 (by omega)) (by omega) hj h
theorem z8n {post : Int32 → Prop} {x : Int32} {F : Nat} (hF : F ≤ 8) (hx : ¬ IN x (2 ^ F)) (h : post 0) : wp_X8_isIn post x ((1 : Int32) <<< (nI F &&& 31)) := by
  have hZ : 2 ^ F ≤ 2 ^ 8 := Nat.pow_le_pow_right (by omega) hF
  exact inn (sh_1 (by omega)) (by omega) hx h
def PW (x : Int32) (E : Nat) : Prop := ∃ p, 1 ≤ p ∧ p < 2 ^ E - 1 ∧ x = nI p
theorem pwt {E : Nat} (hE : E ≤ 5) : (1 : Int32) <<< (nI E &&& 31) - 1 = nI (2 ^ E - 1) := by
  rw [sh_1 (by omega), show (1 : Int32) = nI 1 from rfl, pk_sub (p2p_ E)]
theorem PW_n {x : Int32} {E : Nat} (hE : E ≤ 5) (h : ¬ PW x E) : (x < 1 ∧ x ≤ 0) ∨ (¬ x < 1 ∧ ¬ x ≤ 0 ∧ nI (2 ^ E - 1) ≤ x) := by
  have hP : 2 ^ E ≤ 2 ^ 5 := Nat.pow_le_pow_right (by omega) hE
  by_cases q : x < 0
  · refine Or.inl ⟨?_, ?_⟩
    · rw [Int32.lt_iff_toInt_lt] at q ⊢; have e0 : (0 : Int32).toInt = 0 := by decide
      have e1 : (1 : Int32).toInt = 1 := by decide
      omega
    · rw [Int32.le_iff_toInt_le]; rw [Int32.lt_iff_toInt_lt] at q; omega
  · obtain ⟨i, hi, e⟩ := nI_of q
    rw [e] at h ⊢
    by_cases z : i = 0
    · subst z; exact Or.inl ⟨by decide, by decide⟩
    · refine Or.inr ⟨?_, nI_nle (by omega) (by omega), ?_⟩
      · rw [ltL (y := 1) (b := 1) (by omega) (by omega) rfl]; omega
      · rw [nI_leI (by omega) (by omega)]
        by_cases w : i < 2 ^ E - 1
        · exact absurd ⟨i, by omega, w, rfl⟩ h
        · omega
theorem p7y {post : Int32 → Prop} {p E : Nat} (hE : E ≤ 5) (h1 : 1 ≤ p) (h2 : p < 2 ^ E - 1) (h : post 1) : wp_X1_isPower post (nI E) (nI p) := by
  have hP : 2 ^ E ≤ 2 ^ 5 := Nat.pow_le_pow_right (by omega) hE
  unfold wp_X1_isPower
  rw [pwt hE]
  exact B2 (by rw [ltL (y := 1) (b := 1) (by omega) (by omega) rfl]; omega) (B2 (by rw [nI_leI (by omega) (by omega)]; omega) h)
theorem p7n {post : Int32 → Prop} {x : Int32} {E : Nat} (hE : E ≤ 5) (hx : ¬ PW x E) (h : post 0) : wp_X1_isPower post (nI E) x := by
  unfold wp_X1_isPower
  rw [pwt hE]
  rcases PW_n hE hx with ⟨a, b⟩ | ⟨a, b, c⟩
  · exact B1 a h
  · exact B2 a (B1 c h)
theorem p8y {post : Int32 → Prop} {p E : Nat} (hE : E ≤ 5) (h1 : 1 ≤ p) (h2 : p < 2 ^ E - 1) (h : post 1) : wp_X8_isPower post (nI E) (nI p) := by
  have hP : 2 ^ E ≤ 2 ^ 5 := Nat.pow_le_pow_right (by omega) hE
  unfold wp_X8_isPower
  rw [pwt hE]
  exact B2 (nI_nle (by omega) (by omega)) (B2 (by rw [nI_leI (by omega) (by omega)]; omega) h)
theorem p8n {post : Int32 → Prop} {x : Int32} {E : Nat} (hE : E ≤ 5) (hx : ¬ PW x E) (h : post 0) : wp_X8_isPower post (nI E) x := by
  unfold wp_X8_isPower
  rw [pwt hE]
  rcases PW_n hE hx with ⟨a, b⟩ | ⟨a, b, c⟩
  · exact B1 b h
  · exact B2 b (B1 c h)
theorem l7y {post : Int32 → Prop} {E F b n c : Nat} {low : Int} (h : MK E F b n low) (hc : c < 2 ^ (E + F + 1)) (hq : c % 2 ^ (E + F) < n) (hp : post 1) : wp_X1_isPlain post (nI (2 ^ (E + F))) (nI n) (nI c) := by
  obtain ⟨m1, m2, m3, m4, m5, m6⟩ := MK_N h
  have hE := h.1
  have hF := h.2.1
  exact X1_isPlain (by omega) (by omega) (by omega) (fun q => by omega) (fun _ => hp)
theorem l7n {post : Int32 → Prop} {E F b n c : Nat} {low : Int} (h : MK E F b n low) (hc : c < 2 ^ (E + F + 1)) (hq : ¬ c % 2 ^ (E + F) < n) (hp : post 0) : wp_X1_isPlain post (nI (2 ^ (E + F))) (nI n) (nI c) := by
  obtain ⟨m1, m2, m3, m4, m5, m6⟩ := MK_N h
  have hE := h.1
  have hF := h.2.1
  exact X1_isPlain (by omega) (by omega) (by omega) (fun _ => hp) (fun q => by omega)
theorem l8y {post : Int32 → Prop} {E F b n c : Nat} {low : Int} (h : MK E F b n low) (hc : c < 2 ^ (E + F + 1)) (hq : c % 2 ^ (E + F) < n) (hp : post 1) : wp_X8_isPlain post (nI (n - 1)) (nI (2 ^ (E + F))) (nI c) := by
  obtain ⟨m1, m2, m3, m4, m5, m6⟩ := MK_N h
  have hE := h.1
  have hF := h.2.1
  exact X8_size (by omega) (by omega) (B2 (by rw [nI_ltI (by omega) (by omega)]; omega) hp)
theorem l8n {post : Int32 → Prop} {E F b n c : Nat} {low : Int} (h : MK E F b n low) (hc : c < 2 ^ (E + F + 1)) (hq : ¬ c % 2 ^ (E + F) < n) (hp : post 0) : wp_X8_isPlain post (nI (n - 1)) (nI (2 ^ (E + F))) (nI c) := by
  obtain ⟨m1, m2, m3, m4, m5, m6⟩ := MK_N h
  have hE := h.1
  have hF := h.2.1
  have hm := mb c (k := E + F) (by omega)
  exact X8_size (by omega) (by omega) (B1 (by rw [nI_ltI (by omega) (by omega)]; omega) hp)
def bmp (R : Nat → Int32) (k : Nat) : Nat → Int32 := upd R k (R k + 1)
theorem x7r {post : Int32 → (Nat → Int32) → Prop} {R : Nat → Int32} {x : Int32} (k : Nat) (hx : -x = nI k) (hk : k < 7) (h : post x (bmp R k)) : wp_X7_refuse post R x := by
  unfold wp_X7_refuse
  rw [hx]
  exact X4_addOne hk (by omega) h
theorem x8r {post : Int32 → (Nat → Int32) → Prop} {R : Nat → Int32} {x : Int32} (k : Nat) (hx : -x = nI k) (hk : k < 7) (h : post x (bmp R k)) : wp_X8_refuse post R x := by
  unfold wp_X8_refuse
  rw [hx, cl_nI (by omega)]
  exact ⟨vp_in_nI hk (by omega), vp_in_nI hk (by omega), h⟩
