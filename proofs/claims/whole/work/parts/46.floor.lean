/-! ===== HardBenchModel: floor, isFloat, middle, rounded ===== -/
theorem X8_figure {post : Int32 → Prop} {F c : Nat} (hF : F ≤ 8) (hc : c < 1073741824) (h : post (nI (fg F c))) : wp_X8_figure post (nI F) (nI c) := by
  unfold wp_X8_figure
  unfold fg at h
  have hd : c / 2 ^ F < 2147483648 := Nat.lt_of_le_of_lt (Nat.div_le_self _ _) (by omega)
  rw [sh_r (by omega) (by omega), sh_1 (by omega), an_p (by omega) (by omega), nI_add]
  refine ⟨fun q => ?_, fun q => ?_⟩
  · have q : ¬ c / 2 ^ F = 0 := fun e => q (by rw [e]; rfl)
    rw [if_neg q] at h; exact h
  · have q : c / 2 ^ F = 0 := (eqL (b := 0) hd (by omega) rfl).mp q
    rw [if_pos q] at h; exact h
theorem X8_power {post : Int32 → Prop} {F c : Nat} {low : Int} (hF : F ≤ 8) (hc : c < 1073741824) (h : post (iI (low + ex F c))) : wp_X8_power post (nI F) (iI low) (nI c) := by
  unfold wp_X8_power
  unfold ex at h
  have hd : c / 2 ^ F < 2147483648 := Nat.lt_of_le_of_lt (Nat.div_le_self _ _) (by omega)
  rw [sh_r (by omega) (by omega)]
  refine ⟨fun q => ?_, fun q => ?_⟩
  · have q : ¬ c / 2 ^ F = 0 := fun e => q (by rw [e]; rfl)
    rw [show (1 : Int32) = nI 1 from rfl, pk_sub (Nat.pos_of_ne_zero q), iI_N, iI_add]
    exact h
  · have q : c / 2 ^ F = 0 := (eqL (b := 0) hd (by omega) rfl).mp q
    rw [q] at h
    rw [show (0 : Int32) = iI 0 from rfl, iI_add]
    exact h
section FL
variable {F n m : Nat} {low x : Int} {g aX : Int32} {aM : Int64} {o : Bool}
theorem floor_loop {post : Int32 → Prop} (hF : F ≤ 8) (hl1 : -100 ≤ low) (hl2 : low ≤ 100) (hn : n ≤ 8192) (hex : ∀ c, c ≤ n → ex F c ≤ 40) (hm : 0 < m) (hLK : LK g aX aM m x o) (h : post (nI (if n ≤ cod F low m x then n - 1 else cod F low m x))) :
    ∀ (d a b : Nat), b - a ≤ d → a < b → b ≤ n → a ≤ cod F low m x → (b = n ∨ cod F low m x < b) → wp_X8_floor_9 post (nI F) (iI low) g aX aM (d + 1) (nI a) (nI b) := by
  intro d
  induction d with
  | zero => intro a b h1 h2; omega
  | succ d ih =>
    intro a b h1 h2 h3 h4 h5
    rw [wp_X8_floor_9_s]
    unfold wp_X8_floor_9_b
    rw [pk_sub (by omega), nI_add, show (2 : Int32) = nI 2 from rfl, pk_div (by omega) (by omega) (by omega)]
    have e1 : nI (b - a) ≤ (1 : Int32) ↔ b - a ≤ 1 := leL (b := 1) (by omega) (by omega) rfl
    rw [e1]
    refine ⟨fun q => ?_, fun q => ?_⟩
    · have : (if n ≤ cod F low m x then n - 1 else cod F low m x) = a := by split <;> omega
      rw [this] at h
      exact h
    · obtain ⟨c, hc⟩ : ∃ c, c = (a + b) / 2 := ⟨_, rfl⟩
      rw [← hc]
      have hcn : c < n := by omega
      have hx := hex c (by omega)
      obtain ⟨g1, _⟩ := fg_b (F := F) (s := c) hF
      refine X8_figure hF (by omega) (X8_power hF (by omega) ?_)
      rw [nI_l (by omega)]
      refine hLK _ (fg F c) (low + ex F c) (by omega) (by omega) (by omega) (fun w => ?_) (fun w _ => ?_) (fun w _ => ?_)
      · rw [cod_le hm] at w
        refine ⟨fun _ => ih a c (by omega) (by omega) (by omega) h4 (Or.inr (by omega)), fun z => absurd (by decide) z⟩
      · rw [cod_le hm] at w
        refine ⟨fun z => absurd z (by decide), fun _ => ih c b (by omega) (by omega) h3 w h5⟩
      · rw [cod_le hm] at w
        refine ⟨fun z => absurd z (by decide), fun _ => ih c b (by omega) (by omega) h3 w h5⟩
theorem X8_floor {post : Int32 → Prop} (hF : F ≤ 8) (hl1 : -100 ≤ low) (hl2 : low ≤ 100) (hn1 : 1 ≤ n) (hn : n ≤ 8192) (hex : ∀ c, c ≤ n → ex F c ≤ 40) (hm : 0 < m) (hLK : LK g aX aM m x o) (h : post (nI (if n ≤ cod F low m x then n - 1 else cod F low m x))) : wp_X8_floor post (nI F) (nI (n - 1)) (iI low) g aX aM := by
  unfold wp_X8_floor
  refine ⟨n + 1, ?_⟩
  rw [show (0 : Int32) = nI 0 from rfl, show (1 : Int32) = nI 1 from rfl, nI_add, show n - 1 + 1 = n by omega]
  exact floor_loop hF hl1 hl2 hn hex hm hLK h n 0 n (by omega) (by omega) (Nat.le_refl _) (Nat.zero_le _) (Or.inl rfl)
theorem X8_isFloat {post : Int32 → Prop} (hF : F ≤ 8) (hl1 : -100 ≤ low) (hl2 : low ≤ 100) (hn1 : 1 ≤ n) (hn : n ≤ 8192) (hex : ∀ c, c ≤ n → ex F c ≤ 40) (hm : 0 < m) (hLK : LK g aX aM m x o) (h : post (bI (decide (srt (o || los F low m x) (decide (n ≤ cod F low m x)) (wy F low m x) = 1)))) : wp_X8_isFloat post (nI F) (iI low) g aX aM (nI (if n ≤ cod F low m x then n - 1 else cod F low m x)) := by
  obtain ⟨v, hv⟩ : ∃ v, v = (if n ≤ cod F low m x then n - 1 else cod F low m x) := ⟨_, rfl⟩
  rw [← hv]
  have hvc : v ≤ cod F low m x ∧ v < n ∧ (v = cod F low m x ↔ ¬ n ≤ cod F low m x) := by
    rw [hv]; split <;> omega
  have key : srt (o || los F low m x) (decide (n ≤ cod F low m x)) (wy F low m x) = 1 ↔ (v = cod F low m x ∧ wy F low m x = 0 ∧ los F low m x = false ∧ o = false) := by
    rw [hvc.2.2]
    unfold srt
    by_cases c1 : n ≤ cod F low m x
    · simp [c1]
    · cases o <;> cases los F low m x <;> simp [c1] <;> (split <;> simp_all <;> split <;> omega)
  unfold wp_X8_isFloat
  rw [nI_0le (by omega)]
  refine ⟨fun q => ?_, fun q => ?_⟩
  · have : decide (srt (o || los F low m x) (decide (n ≤ cod F low m x)) (wy F low m x) = 1) = false := by
      rw [decide_eq_false_iff_not, key]
      intro w
      have := T0 hm (by omega) w.2.1
      rw [w.2.2.1] at this
      cases this
    rw [this] at h
    exact h
  · have hx := hex v (by omega)
    obtain ⟨g1, _⟩ := fg_b (F := F) (s := v) hF
    refine X8_figure hF (by omega) (X8_power hF (by omega) ?_)
    rw [nI_l (by omega)]
    refine hLK _ (fg F v) (low + ex F v) (by omega) (by omega) (by omega) (fun w => ?_) (fun w z => ?_) (fun w z => ?_)
    · rw [cod_le hm] at w
      exact absurd hvc.1 w
    · rw [cod_eq hm hvc.1] at z
      have e : decide (srt (o || los F low m x) (decide (n ≤ cod F low m x)) (wy F low m x) = 1) = true := by
        rw [decide_eq_true_iff, key]; exact ⟨z.1.1, z.1.2.1, z.1.2.2, z.2⟩
      rw [e] at h
      exact ⟨fun u => absurd rfl u, fun _ => h⟩
    · rw [cod_eq hm hvc.1] at z
      have e : decide (srt (o || los F low m x) (decide (n ≤ cod F low m x)) (wy F low m x) = 1) = false := by
        rw [decide_eq_false_iff_not, key]; exact fun u => z ⟨⟨u.1, u.2.1, u.2.2.1⟩, u.2.2.2⟩
      rw [e] at h
      exact ⟨fun _ => h, fun u => absurd u (by decide)⟩
theorem X8_middle {post : Int32 → Prop} (hF : F ≤ 8) (hl1 : -100 ≤ low) (hl2 : low ≤ 100) (hn1 : 1 ≤ n) (hn : n ≤ 8192) (hex : ∀ c, c ≤ n → ex F c ≤ 40) (hm : 0 < m) (hLK : LK g aX aM m x o)
    (h0 : srt (o || los F low m x) (decide (n ≤ cod F low m x)) (wy F low m x) = 2 → post 0) (h1 : (n ≤ cod F low m x ∨ 512 ≤ wy F low m x) → srt (o || los F low m x) (decide (n ≤ cod F low m x)) (wy F low m x) ≠ 2 → post 1) (hg : ¬ (n ≤ cod F low m x ∨ 512 ≤ wy F low m x) → srt (o || los F low m x) (decide (n ≤ cod F low m x)) (wy F low m x) ≠ 2 → post (-1)) : wp_X8_middle post (nI F) (iI low) g aX aM (nI (if n ≤ cod F low m x then n - 1 else cod F low m x)) := by
  obtain ⟨v, hv⟩ : ∃ v, v = (if n ≤ cod F low m x then n - 1 else cod F low m x) := ⟨_, rfl⟩
  rw [← hv]
  have hvc : v ≤ cod F low m x ∧ v < n ∧ (v = cod F low m x ↔ ¬ n ≤ cod F low m x) := by
    rw [hv]; split <;> omega
  have key : srt (o || los F low m x) (decide (n ≤ cod F low m x)) (wy F low m x) = 2 ↔ (v = cod F low m x ∧ wy F low m x = 512 ∧ los F low m x = false ∧ o = false) := by
    rw [hvc.2.2]
    unfold srt
    by_cases c1 : n ≤ cod F low m x
    · simp [c1]
    · by_cases c2 : wy F low m x = 512
      · cases o <;> cases los F low m x <;> simp [c1, c2]
      · by_cases c3 : wy F low m x = 0
        · cases o <;> cases los F low m x <;> simp [c1, c3]
        · cases o <;> cases los F low m x <;> simp [c1, c2, c3]
  have hx := hex v (by omega)
  obtain ⟨g1, _⟩ := fg_b (F := F) (s := v) hF
  obtain ⟨m1, m2⟩ := mid_all (F := F) (low := low) (x := x) hm hvc.1
  unfold wp_X8_middle
  refine X8_figure hF (by omega) (X8_power hF (by omega) ?_)
  rw [nI_l (by omega), show (2 : Int64) = lN 2 from rfl, show (1 : Int64) = lN 1 from rfl, lN_mul, lN_add, show (1 : Int32) = iI 1 from rfl, iI_sub]
  refine hLK _ (2 * fg F v + 1) (low + ex F v - 1) (by omega) (by omega) (by omega) (fun w => ?_) (fun w z => ?_) (fun w z => ?_)
  · rw [m1] at w
    refine hg (by omega) ?_
    rw [Ne, key]
    omega
  · rw [m2] at z
    exact h0 (key.mpr ⟨z.1.1, z.1.2.1, z.1.2.2, z.2⟩)
  · rw [m1] at w
    rw [m2] at z
    refine h1 (by omega) ?_
    rw [Ne, key]
    exact fun u => z ⟨⟨u.1, u.2.1, u.2.2.1⟩, u.2.2.2⟩
theorem rem2 {v : Nat} (hv : v < 2147483648) : nI v - nI v / (2 : Int32) * (2 : Int32) = nI (v % 2) := pk_rem (d := 2) (by omega) (by omega) (by omega)
theorem X8_rounded {post : Int32 → Prop} {sg r : Nat} {below : Bool} (hF : F ≤ 8) (hl1 : -100 ≤ low) (hl2 : low ≤ 100) (hn1 : 1 ≤ n) (hn : n ≤ 8192) (hev : n % 2 = 0) (hex : ∀ c, c ≤ n → ex F c ≤ 40) (hm : 0 < m) (hLK : LK g aX aM m x o) (hr : r < 5)
    (h : post (nI (rd sg (o || los F low m x) (decide (n ≤ cod F low m x)) (wy F low m x) (if n ≤ cod F low m x then n - 1 else cod F low m x) below r))) : wp_X8_rounded post (nI F) (nI (n - 1)) (nI sg) (iI low) g aX aM (nI r) (bI below) := by
  unfold wp_X8_rounded
  refine X8_floor hF hl1 hl2 hn1 hn hex hm hLK ?_
  have hvn : (if n ≤ cod F low m x then n - 1 else cod F low m x) < n := by split <;> omega
  have K17 : wp_X8_rounded_17 post (nI F) (nI (n - 1)) (iI low) g aX aM (nI r) (bI below) (nI (if n ≤ cod F low m x then n - 1 else cod F low m x)) (nI (if below then sg else 0)) := by
    unfold wp_X8_rounded_17
    refine X8_isFloat hF hl1 hl2 hn1 hn hex hm hLK ?_
    obtain ⟨v, hv⟩ : ∃ v, v = (if n ≤ cod F low m x then n - 1 else cod F low m x) := ⟨_, rfl⟩
    have K53 : ∀ t, t = tn below r → t < 5 → srt (o || los F low m x) (decide (n ≤ cod F low m x)) (wy F low m x) ≠ 1 → wp_X8_rounded_53 post (nI F) (nI (n - 1)) (iI low) g aX aM (nI (if n ≤ cod F low m x then n - 1 else cod F low m x)) (nI (if below then sg else 0)) (nI t) := by
      intro t ht h5 hs
      unfold wp_X8_rounded_53
      unfold rd at h
      rw [← ht] at h
      unfold tu at h
      rw [if_neg hs] at h
      have t0 : nI t = 0 ↔ t = 0 := eqL (b := 0) (by omega) (by omega) rfl
      have t2 : nI t = 2 ↔ t = 2 := eqL (b := 2) (by omega) (by omega) rfl
      have t4 : nI t = 4 ↔ t = 4 := eqL (b := 4) (by omega) (by omega) rfl
      have up : ∀ w, w = (if n ≤ cod F low m x then n - 1 else cod F low m x) → nI (if below then sg else 0) + (nI w + (1 : Int32)) = nI (w + 1 + (if below then sg else 0)) := by
        intro w _
        rw [show (1 : Int32) = nI 1 from rfl, nI_add, nI_add]; congr 1; omega
      have st : ∀ w, w = (if n ≤ cod F low m x then n - 1 else cod F low m x) → nI (if below then sg else 0) + nI w = nI (w + (if below then sg else 0)) := by
        intro w _
        rw [nI_add]; congr 1; omega
      rw [t0, t2, t4]
      refine ⟨fun a => ?_, fun a => ⟨fun b => ?_, fun b => ⟨fun d => ?_, fun d => ?_⟩⟩⟩
      · rw [if_pos a] at h
        refine X8_middle hF hl1 hl2 hn1 hn hex hm hLK (fun s2 => ?_) (fun s2 s3 => ?_) (fun s2 s3 => ?_)
        · rw [if_pos s2] at h
          refine ⟨fun z => absurd z (by decide), fun _ => ⟨fun z => absurd rfl z, fun _ => ?_⟩⟩
          rw [rem2 (by omega)]
          have e1 : ∀ w, w < 2 → (nI w = (1 : Int32) ↔ w = 1) := fun w hw => eqL (b := 1) (by omega) (by omega) rfl
          rw [e1 _ (by omega)]
          refine ⟨fun z => ?_, fun z => ?_⟩
          · rw [show decide ((if n ≤ cod F low m x then n - 1 else cod F low m x) % 2 = 1) = false by simp [z]] at h
            rw [st _ rfl]
            exact h
          · rw [show decide ((if n ≤ cod F low m x then n - 1 else cod F low m x) % 2 = 1) = true by simp [z]] at h
            unfold wp_X8_rounded_118
            rw [up _ rfl]
            exact h
        · rw [if_neg s3] at h
          have e : (decide (n ≤ cod F low m x) || decide (512 ≤ wy F low m x)) = true := by simpa using s2
          rw [e] at h
          refine ⟨fun _ => ?_, fun z => absurd (by decide) z⟩
          unfold wp_X8_rounded_118
          rw [up _ rfl]
          exact h
        · rw [if_neg s3] at h
          have e : (decide (n ≤ cod F low m x) || decide (512 ≤ wy F low m x)) = false := by
            simp; omega
          rw [e] at h
          refine ⟨fun z => absurd z (by decide), fun _ => ⟨fun _ => ?_, fun z => absurd z (by decide)⟩⟩
          rw [st _ rfl]
          exact h
      · rw [if_neg a, if_pos b] at h
        rw [Int32.add_assoc, up _ rfl]
        exact h
      · rw [if_neg a, if_neg b, if_pos d] at h
        rw [rem2 (by omega)]
        have e1 : ∀ w, w < 2 → (nI w = (1 : Int32) ↔ w = 1) := fun w hw => eqL (b := 1) (by omega) (by omega) rfl
        rw [e1 _ (by omega), nI_eq (by omega) (by omega)]
        refine ⟨fun z => ⟨fun y => ?_, fun y => ?_⟩, fun z => ?_⟩
        · rw [show decide ((if n ≤ cod F low m x then n - 1 else cod F low m x) % 2 = 0) = true by simp; omega] at h
          rw [up _ rfl]
          exact h
        · rw [y] at z; omega
        · rw [show decide ((if n ≤ cod F low m x then n - 1 else cod F low m x) % 2 = 0) = false by simp; omega] at h
          rw [st _ rfl]
          exact h
      · rw [if_neg a, if_neg b, if_neg d] at h
        rw [st _ rfl]
        exact h
    refine ⟨fun q => ?_, fun q => ?_⟩
    · have q := (bI_0 _).mp q
      have hs : srt (o || los F low m x) (decide (n ≤ cod F low m x)) (wy F low m x) ≠ 1 := by simpa using q
      have r1 : nI r ≤ (1 : Int32) ↔ r ≤ 1 := leL (b := 1) (by omega) (by omega) rfl
      have r4 : (4 : Int32) ≤ nI r ↔ 4 ≤ r := nI_leI (a := 4) (by omega) (by omega)
      rw [bI_0, r1, r4]
      unfold wp_X8_rounded_52
      refine ⟨fun c => ?_, fun c => ⟨fun d => ?_, fun d => ⟨fun f => ?_, fun f => ?_⟩⟩⟩
      · exact K53 r (by unfold tn; rw [if_neg (by simp [c])]) hr hs
      · exact K53 r (by unfold tn; rw [if_neg (by omega)]) hr hs
      · exact K53 r (by unfold tn; rw [if_neg (by omega)]) hr hs
      · have c : below = true := by cases below; exact absurd rfl c; rfl
        rw [show (5 : Int32) = nI 5 from rfl, pk_sub (by omega)]
        exact K53 (5 - r) (by unfold tn; rw [if_pos ⟨c, by omega⟩]) (by omega) hs
    · have q2 : srt (o || los F low m x) (decide (n ≤ cod F low m x)) (wy F low m x) = 1 := by
        by_cases z : srt (o || los F low m x) (decide (n ≤ cod F low m x)) (wy F low m x) = 1
        · exact z
        · rw [show decide (srt (o || los F low m x) (decide (n ≤ cod F low m x)) (wy F low m x) = 1) = false by simp [z]] at q
          exact absurd rfl q
      unfold rd tu at h
      rw [if_pos q2] at h
      rw [nI_add, Nat.add_comm]
      exact h
  refine ⟨fun q => ?_, fun q => ?_⟩
  · have q := (bI_0 _).mp q
    rw [q] at K17 ⊢
    exact K17
  · have q : below = true := by cases below; exact absurd rfl q; rfl
    rw [q] at K17 ⊢
    exact K17
end FL
