/-! ===== sort, figures, rounding of what was laid ===== -/
def srt (q y : Bool) (w : Nat) : Nat := if y then 3 else if q then 3 else if w = 0 then 1 else if w = 512 then 2 else 3
def tu (q y : Bool) (w v r : Nat) : Bool := if srt q y w = 1 then false else if r = 0 then (if srt q y w = 2 then decide (v % 2 = 1) else (y || decide (512 ≤ w))) else if r = 2 then true else if r = 4 then decide (v % 2 = 0) else false
def tn (below : Bool) (r : Nat) : Nat := if below = true ∧ (r = 2 ∨ r = 3) then 5 - r else r
def rd (sg : Nat) (q y : Bool) (w v : Nat) (below : Bool) (r : Nat) : Nat := (if tu q y w v (tn below r) then v + 1 else v) + (if below then sg else 0)
theorem srt_le (q y : Bool) (w : Nat) : 1 ≤ srt q y w ∧ srt q y w ≤ 3 := by
  unfold srt
  repeat' split
  all_goals omega
theorem X3_sortLaid {post : Int32 → Prop} {w : Nat} {q y : Bool} (hw : w < 1024) (h : post (nI (srt q y w))) : wp_X3_sortLaid post (nI w) (bI q) (bI y) := by
  unfold wp_X3_sortLaid
  unfold srt at h
  rw [bI_0, bI_0]
  have e0 : nI w = 0 ↔ w = 0 := eqL (b := 0) (by omega) (by omega) rfl
  have e1 : nI w = 512 ↔ w = 512 := eqL (b := 512) (by omega) (by omega) rfl
  rw [e0, e1]
  cases y
  · cases q
    · refine ⟨fun c => absurd rfl c, fun _ => ⟨fun _ => ⟨fun c => ⟨fun d => ?_, fun d => ?_⟩, fun c => ?_⟩, fun c => absurd rfl c⟩⟩
      · simp [c, d] at h; exact h
      · simp [d] at h; exact h
      · simp [c] at h; exact h
    · refine ⟨fun c => absurd rfl c, fun _ => ⟨fun c => absurd c (by simp), fun c => ?_⟩⟩
      simp at h; exact h
  · refine ⟨fun _ => ?_, fun c => absurd c (by simp)⟩
    simp at h; exact h
/-- what figuresLaid answers: -9 or the ten figures -/
def fgr (n : Nat) (q y : Bool) (w v : Nat) : Int := if srt q y w = 1 ∨ v = n - 1 then -9 else w
theorem X3_figuresLaid {post : Int32 → Prop} {w v n : Nat} {q y : Bool} (hw : w < 1024) (hn1 : 1 ≤ n) (hn : n ≤ 8192) (hv : v ≤ 8192) (h : post (iI (fgr n q y w v))) : wp_X3_figuresLaid post (nI n) (nI v) (nI w) (bI q) (bI y) := by
  unfold wp_X3_figuresLaid
  have hs := srt_le q y w
  refine X3_sortLaid hw ⟨fun c => ?_, fun c => X1_greatestPlain hn1 ⟨fun d => ?_, fun d => ?_⟩⟩
  · have c : srt q y w = 1 := (eqL (b := 1) (by omega) (by omega) rfl).mp c
    unfold fgr at h
    rw [if_pos (Or.inl c)] at h
    exact ⟨fun z => absurd z (by decide), fun _ => h⟩
  · have c : ¬ srt q y w = 1 := mt (eqL (b := 1) (by omega) (by omega) rfl).mpr c
    have d : ¬ v = n - 1 := mt (nI_eq (by omega) (by omega)).mpr d
    unfold fgr at h
    rw [if_neg (by omega), ← iI_N] at h
    exact ⟨fun _ => h, fun z => absurd rfl z⟩
  · have d : v = n - 1 := (nI_eq (by omega) (by omega)).mp d
    unfold fgr at h
    rw [if_pos (Or.inr d)] at h
    exact ⟨fun z => absurd z (by decide), fun _ => h⟩
theorem an_1 {v : Nat} (hv : v < 4294967296) : nI v &&& (1 : Int32) = nI (v % 2) := by
  rw [show (1 : Int32) = nI (2 ^ 1 - 1) from rfl, an_m hv (by omega)]
theorem X3_takesUpper {post : Int32 → Prop} {w v r : Nat} {q y : Bool} (hw : w < 1024) (hv : v ≤ 8192) (hr : r < 5) (h : post (bI (tu q y w v r))) : wp_X3_takesUpper post (nI v) (nI w) (bI q) (bI y) (nI r) := by
  unfold wp_X3_takesUpper
  have hs := srt_le q y w
  have key : ∀ z : Bool, z = decide (v % 2 = 0) → ¬ srt q y w = 1 → wp_X3_takesUpper_26 post (nI w) (bI y) (nI r) (nI (srt q y w)) (bI z) := by
    intro z hz c
    subst hz
    unfold wp_X3_takesUpper_26
    unfold tu at h
    rw [if_neg c] at h
    have r0 : nI r = 0 ↔ r = 0 := eqL (b := 0) (by omega) (by omega) rfl
    have r2 : nI r = 2 ↔ r = 2 := eqL (b := 2) (by omega) (by omega) rfl
    have r4 : nI r = 4 ↔ r = 4 := eqL (b := 4) (by omega) (by omega) rfl
    have s2 : nI (srt q y w) = 2 ↔ srt q y w = 2 := eqL (b := 2) (by omega) (by omega) rfl
    have w5 : nI w < 512 ↔ w < 512 := ltL (b := 512) (by omega) (by omega) rfl
    rw [r0, r2, r4, s2, w5, bI_0, bI_0]
    refine ⟨fun a => ⟨fun b => ⟨fun d => ?_, fun d => ⟨fun f => ?_, fun f => ?_⟩⟩, fun b => ⟨fun d => ?_, fun d => ?_⟩⟩, fun a => ⟨fun b => ?_, fun b => ⟨fun d => ⟨by have z := bI_01 (decide (v % 2 = 0)); rw [bI_0] at z; exact z, ?_⟩, fun d => ?_⟩⟩⟩
    · rw [if_pos a, if_neg b] at h
      have : y = true := by cases y; exact absurd rfl d; rfl
      rw [this] at h
      exact h
    · rw [if_pos a, if_neg b, d, show decide (512 ≤ w) = false by simp; omega] at h
      exact h
    · rw [if_pos a, if_neg b, d, show decide (512 ≤ w) = true by simp; omega] at h
      exact h
    · have d : v % 2 = 0 := by simpa using d
      rw [if_pos a, if_pos b, show decide (v % 2 = 1) = false by simp; omega] at h
      exact h
    · have d : ¬ v % 2 = 0 := by simpa using d
      rw [if_pos a, if_pos b, show decide (v % 2 = 1) = true by simp; omega] at h
      exact h
    · rw [if_neg a, if_pos b] at h
      exact h
    · rw [if_neg a, if_neg b, if_pos d] at h
      exact h
    · rw [if_neg a, if_neg b, if_neg d] at h
      exact h
  refine X3_sortLaid hw ⟨fun c => ?_, fun c => ?_⟩
  · have c : ¬ srt q y w = 1 := mt (eqL (b := 1) (by omega) (by omega) rfl).mpr c
    rw [an_1 (by omega)]
    refine ⟨fun d => ?_, fun d => ?_⟩
    · have d : ¬ v % 2 = 0 := mt (eqL (b := 0) (by omega) (by omega) rfl).mpr d
      exact key false (by simp; omega) c
    · have d : v % 2 = 0 := (eqL (b := 0) (by omega) (by omega) rfl).mp d
      exact key true (by simp; omega) c
  · have c : srt q y w = 1 := (eqL (b := 1) (by omega) (by omega) rfl).mp c
    unfold tu at h
    rw [if_pos c] at h
    exact h
theorem X3_rounded {post : Int32 → Prop} {w v r sg : Nat} {q y below : Bool} (hw : w < 1024) (hv : v ≤ 8192) (hr : r < 5) (h : post (nI (rd sg q y w v below r))) : wp_X3_rounded post (nI sg) (nI v) (nI w) (bI q) (bI y) (bI below) (nI r) := by
  unfold wp_X3_rounded
  have r2 : nI r = 2 ↔ r = 2 := eqL (b := 2) (by omega) (by omega) rfl
  have r3 : nI r = 3 ↔ r = 3 := eqL (b := 3) (by omega) (by omega) rfl
  have K : ∀ t, t = tn below r → t < 5 → wp_X3_rounded_20 post (nI sg) (nI v) (nI w) (bI q) (bI y) (bI below) (nI t) := by
    intro t ht h5
    subst ht
    unfold wp_X3_rounded_20
    unfold rd at h
    refine X3_takesUpper hw hv h5 ⟨fun c => ?_, fun c => ?_⟩
    · have c := (bI_0 _).mp c
      rw [c] at h
      unfold wp_X3_rounded_41
      rw [bI_0]
      cases below
      · exact ⟨fun _ => by simpa using h, fun c => absurd rfl c⟩
      · refine ⟨fun c => absurd c (by simp), fun _ => ?_⟩
        rw [nI_add]
        simpa using h
    · have c : tu q y w v (tn below r) = true := by
        cases hh : tu q y w v (tn below r)
        · rw [hh] at c; exact absurd rfl c
        · rfl
      rw [c] at h
      unfold wp_X3_rounded_41
      rw [bI_0, show (1 : Int32) = nI 1 from rfl, nI_add]
      cases below
      · exact ⟨fun _ => by simpa using h, fun c => absurd rfl c⟩
      · refine ⟨fun c => absurd c (by simp), fun _ => ?_⟩
        rw [nI_add]
        simpa using h
  rw [bI_0, r2, r3]
  have e16 : ∀ c : below = true, (r = 2 ∨ r = 3) → wp_X3_rounded_16 post (nI sg) (nI v) (nI w) (bI q) (bI y) (bI below) (nI r) := by
    intro c d
    unfold wp_X3_rounded_16
    rw [show (5 : Int32) = nI 5 from rfl, pk_sub (by omega)]
    exact K _ (by unfold tn; rw [if_pos ⟨c, d⟩]) (by omega)
  refine ⟨fun c => ?_, fun c => ?_⟩
  · exact K _ (by unfold tn; rw [if_neg (by simp [c])]) hr
  · have c : below = true := by cases below; exact absurd rfl c; rfl
    refine ⟨fun d => e16 c (Or.inl d), fun d => ⟨fun f => ?_, fun f => e16 c (Or.inr f)⟩⟩
    exact K _ (by unfold tn; rw [if_neg (by omega)]) hr
