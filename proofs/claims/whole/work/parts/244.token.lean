/-! ===== the text of a town: tokens ===== -/
/-- on while such are there -/
def whl (Q : Nat → Bool) (k pos : Nat) : Nat := match ff (fun i => !Q i) (k - pos) pos with
  | some i => i
  | none => k
theorem whl_ge {Q : Nat → Bool} {k pos : Nat} (h : pos ≤ k) : pos ≤ whl Q k pos ∧ whl Q k pos ≤ k := by
  unfold whl
  cases e : ff (fun i => !Q i) (k - pos) pos with
  | none => exact ⟨h, Nat.le_refl _⟩
  | some i => obtain ⟨h1, h2, -, -⟩ := ff_some e; exact ⟨h1, by show i ≤ k; omega⟩
theorem whl_at {Q : Nat → Bool} {k pos : Nat} (h : whl Q k pos < k) : Q (whl Q k pos) = false := by
  unfold whl at h ⊢
  cases e : ff (fun i => !Q i) (k - pos) pos with
  | none => rw [e] at h; exact absurd h (Nat.lt_irrefl _)
  | some i => obtain ⟨-, -, h3, -⟩ := ff_some e; simpa using h3
theorem whl_in {Q : Nat → Bool} {k pos j : Nat} (h1 : pos ≤ j) (h2 : j < whl Q k pos) (hk : whl Q k pos ≤ k) : Q j = true := by
  unfold whl at h2 hk
  cases e : ff (fun i => !Q i) (k - pos) pos with
  | none => rw [e] at h2; have := ff_none e j h1 (by show j < _; have : j < k := h2; omega); simpa using this
  | some i =>
    rw [e] at h2
    have := (ff_some e).2.2.2 j h1 h2
    simpa using this
theorem whl_nx {Q : Nat → Bool} {k pos : Nat} (h : pos < k) (hq : Q pos = true) : pos < whl Q k pos := by
  have h1 := (whl_ge (Q := Q) (Nat.le_of_lt h)).1
  rcases Nat.lt_or_ge pos (whl Q k pos) with g | g
  · exact g
  · have e : whl Q k pos = pos := by omega
    have := whl_at (Q := Q) (k := k) (pos := pos) (by omega)
    rw [e, hq] at this; cases this
theorem lwh {ρ : Type} {F : (Int32 → Option ρ) → Int32 → Option ρ} (Q : Nat → Bool) (E : Nat → Option ρ) {k pos : Nat} (hp : pos ≤ k) (h : ∀ i, pos ≤ i → i < k → ∀ g, F g (nI i) = if Q i then g (nI (i + 1)) else E i) (he : ∀ g, F g (nI k) = E k) (n : Nat) (hn : k < n) : lo1 F n (nI pos) = E (whl Q k pos) := by
  have := lsk (F := F) (fun i => !Q i) E (E k) pos (k - pos) (fun i h1 h2 g => by
    rw [h i h1 (by omega) g]
    by_cases q : Q i = true
    · rw [if_pos q]; simp [q]
    · rw [if_neg q]; simp [q]) (fun g => by rw [show pos + (k - pos) = k by omega]; exact he g) n (by omega)
  rw [this]
  unfold whl
  cases ff (fun i => !Q i) (k - pos) pos <;> rfl
def isL (c : Nat) : Bool := decide (97 ≤ c) && decide (c ≤ 122)
def isD (c : Nat) : Bool := decide (48 ≤ c) && decide (c ≤ 57)
theorem p_isL {c : Nat} (hc : c ≤ 255) : fX6_isLetter (nI c) = some (nI (if isL c then 1 else 0)) ∧ fX8_isLetter (nI c) = some (nI (if isL c then 1 else 0)) := by
  have e : fX6_isLetter (nI c) = some (nI (if isL c then 1 else 0)) := by
    unfold fX6_isLetter isL
    simp only [show (97 : Int32) = nI 97 from rfl, show (122 : Int32) = nI 122 from rfl, nlt (a := c) (b := 97) (by omega) (by omega), nlt (a := 122) (b := c) (by omega) (by omega)]
    by_cases a : 97 ≤ c
    · by_cases b : c ≤ 122
      · simp [a, b, show ¬ c < 97 from by omega, show ¬ 122 < c from by omega]; rfl
      · simp [a, b, show ¬ c < 97 from by omega, show 122 < c from by omega]; rfl
    · simp [a, show c < 97 from by omega]; rfl
  exact ⟨e, e⟩
theorem p_isD {c : Nat} (hc : c ≤ 255) : fX6_isDigit (nI c) = some (nI (if isD c then 1 else 0)) ∧ fX8_isDigit (nI c) = some (nI (if isD c then 1 else 0)) := by
  have e : fX6_isDigit (nI c) = some (nI (if isD c then 1 else 0)) := by
    unfold fX6_isDigit isD
    simp only [show (48 : Int32) = nI 48 from rfl, show (57 : Int32) = nI 57 from rfl, nlt (a := c) (b := 48) (by omega) (by omega), nlt (a := 57) (b := c) (by omega) (by omega)]
    by_cases a : 48 ≤ c
    · by_cases b : c ≤ 57
      · simp [a, b, show ¬ c < 48 from by omega, show ¬ 57 < c from by omega]; rfl
      · simp [a, b, show ¬ c < 48 from by omega, show 57 < c from by omega]; rfl
    · simp [a, show c < 48 from by omega]; rfl
  exact ⟨e, e⟩
theorem p_letterAt {k i : Nat} {b : Nat → Int32} {B : Nat → Nat} (hk : k ≤ 250) (hb : ag k b B) (hi : i < k) : fX6_letterAt (nI k) b (nI i) = some (nI (B i)) := by
  unfold fX6_letterAt
  simp only [if_neg (nI_pos (n := i) (by omega)), nle (a := k) (b := i) (by omega) (by omega), show ¬ k ≤ i from by omega, if_false, if_n (nin (k := i) (N := 250) (by omega) (by omega)), if_n (nin2 (k := i) (N := 250) (by omega) (by omega)), nc (n := i) (by omega), hb i hi]
theorem p_letterEnd {k i : Nat} {b : Nat → Int32} (hk : k ≤ 250) (hi : k ≤ i) (hi2 : i ≤ 1000) : fX6_letterAt (nI k) b (nI i) = some (-1) := by
  unfold fX6_letterAt
  simp only [if_neg (nI_pos (n := i) (by omega)), nle (a := k) (b := i) (by omega) (by omega), hi, if_true]
/-- the number read from s, j figures long: as the class, as the Model has it -/
def nvX (B : Nat → Nat) (s : Nat) : Nat → Nat
  | 0 => 0
  | j + 1 => if 3 ≤ j then nvX B s j else nvX B s j * 10 + B (s + j) - 48
def nvM (B : Nat → Nat) (s : Nat) : Nat → Nat
  | 0 => 0
  | j + 1 => if 3 ≤ j then 1000 else nvM B s j * 10 + B (s + j) - 48
theorem nv_eq (B : Nat → Nat) (s : Nat) : ∀ j, j ≤ 3 → nvM B s j = nvX B s j := by
  intro j
  induction j with
  | zero => intro _; rfl
  | succ j ih => intro h; rw [nvM, nvX, if_neg (by omega), if_neg (by omega), ih (by omega)]
theorem nv_big {B : Nat → Nat} {s j : Nat} (h : 3 < j) : nvM B s j = 1000 := by
  obtain ⟨i, rfl⟩ : ∃ i, j = i + 1 := ⟨j - 1, by omega⟩
  rw [nvM, if_pos (by omega)]
theorem nvX_le {B : Nat → Nat} {s : Nat} : ∀ j, (∀ i, i < j → isD (B (s + i)) = true) → nvX B s j ≤ 999 ∧ (j ≤ 1 → nvX B s j ≤ 9) ∧ (j ≤ 2 → nvX B s j ≤ 99) ∧ (j = 0 → nvX B s j = 0) := by
  intro j
  induction j with
  | zero => intro _; simp [nvX]
  | succ j ih =>
    intro h
    obtain ⟨i1, i2, i3, i4⟩ := ih (fun i hi => h i (by omega))
    have hd := h j (by omega)
    unfold isD at hd
    simp only [Bool.and_eq_true, decide_eq_true_eq] at hd
    rw [nvX]
    by_cases g : 3 ≤ j
    · rw [if_pos g]; exact ⟨i1, fun q => by omega, fun q => by omega, fun q => by omega⟩
    · rw [if_neg g]
      refine ⟨?_, fun q => ?_, fun q => ?_, fun q => by omega⟩
      · by_cases g2 : j ≤ 2
        · have := i3 g2; omega
        · omega
      · have := i4 (by omega); omega
      · have := i2 (by omega); omega
theorem nvM_le {B : Nat → Nat} {s j : Nat} (h : ∀ i, i < j → isD (B (s + i)) = true) : nvM B s j ≤ 1000 := by
  by_cases g : j ≤ 3
  · rw [nv_eq B s j g]; have := (nvX_le j h).1; omega
  · rw [nv_big (by omega)]; exact Nat.le_refl _
theorem n_dig {v c : Nat} (hc : 48 ≤ c) : ((nI v * (10 : Int32)) + nI c) - (48 : Int32) = nI (v * 10 + c - 48) := by
  rw [show (10 : Int32) = nI 10 from rfl, show (48 : Int32) = nI 48 from rfl, pk_mul, nI_add, pk_sub (by omega)]
theorem isD_ge {c : Nat} (h : isD c = true) : 48 ≤ c := by
  unfold isD at h
  simp only [Bool.and_eq_true, decide_eq_true_eq] at h
  exact h.1
/-- a loop over two, on while such are there -/
theorem lwh2 {ρ : Type} {F : (Int32 → Int32 → Option ρ) → Int32 → Int32 → Option ρ} (Q : Nat → Bool) (V : Nat → Int32) (E : Nat → Int32 → Option ρ) {k pos : Nat} (hp : pos ≤ k) (h : ∀ i, pos ≤ i → i < k → (∀ j, pos ≤ j → j < i → Q j = true) → ∀ g, F g (nI i) (V (i - pos)) = if Q i then g (nI (i + 1)) (V (i - pos + 1)) else E i (V (i - pos))) (he : ∀ g, F g (nI k) (V (k - pos)) = E k (V (k - pos))) (n : Nat) (hn : k < n) : lo2 F n (nI pos) (V 0) = E (whl Q k pos) (V (whl Q k pos - pos)) := by
  have hg := whl_ge (Q := Q) hp
  refine lq2 (fun i => nI (pos + i)) (fun i => V i) (whl Q k pos - pos) rfl rfl (fun i hi g => ?_) (fun g => ?_) n (by omega)
  · have hQ : ∀ j, pos ≤ j → j < whl Q k pos → Q j = true := fun j h1 h2 => whl_in h1 h2 hg.2
    have := h (pos + i) (by omega) (by omega) (fun j h1 h2 => hQ j h1 (by omega)) g
    rw [show pos + i - pos = i by omega, if_pos (hQ (pos + i) (by omega) (by omega))] at this
    exact this
  · rw [show pos + (whl Q k pos - pos) = whl Q k pos by omega]
    rcases Nat.lt_or_ge (whl Q k pos) k with c | c
    · have := h (whl Q k pos) hg.1 c (fun j h1 h2 => whl_in h1 h2 hg.2) g
      rw [whl_at c] at this
      simpa using this
    · have e : whl Q k pos = k := by omega
      rw [e]
      exact he g
theorem p_skip {k pos : Nat} {b : Nat → Int32} {B : Nat → Nat} (hk : k ≤ 250) (hb : ag k b B) (hB : ∀ i, i < k → B i ≤ 255) (hp : pos ≤ k) : fX6_skipBlanks (nI pos) (nI k) b = some (nI (whl (fun i => B i == 32) k pos)) := by
  unfold fX6_skipBlanks
  refine lwh (fun i => B i == 32) (fun i => some (nI i)) hp (fun i h1 h2 g => ?_) (fun g => ?_) 400 (by omega)
  · have := hB i h2
    rw [if_neg (by rw [nle (by omega) (by omega)]; omega), p_letterAt hk hb h2, bo1N]
    simp only [show (32 : Int32) = nI 32 from rfl, neq (a := B i) (b := 32) (by omega) (by omega), nI_1]
    by_cases e : B i = 32
    · simp [e]
    · simp [e]
  · rw [if_pos (Int32.le_refl _)]
theorem p_passWord {k pos : Nat} {b : Nat → Int32} {B : Nat → Nat} (hk : k ≤ 250) (hb : ag k b B) (hB : ∀ i, i < k → B i ≤ 255) (hp : pos ≤ k) : fX6_passWord (nI pos) (nI k) b = some (nI (whl (fun i => isL (B i)) k pos)) := by
  unfold fX6_passWord
  refine lwh (fun i => isL (B i)) (fun i => some (nI i)) hp (fun i h1 h2 g => ?_) (fun g => ?_) 400 (by omega)
  · rw [if_neg (by rw [nle (by omega) (by omega)]; omega), p_letterAt hk hb h2, bo1N, (p_isL (hB i h2)).1, bo1N]
    simp only [b01, nI_1]
    by_cases e : isL (B i) = true
    · simp [e]
    · simp [e]
  · rw [if_pos (Int32.le_refl _)]
theorem p_passNumber {k pos : Nat} {b : Nat → Int32} {B : Nat → Nat} (hk : k ≤ 250) (hb : ag k b B) (hB : ∀ i, i < k → B i ≤ 255) (hp : pos ≤ k) : fX6_passNumber (nI pos) (nI pos) (nI k) b = some (nI (whl (fun i => isD (B i)) k pos), nI (nvX B pos (whl (fun i => isD (B i)) k pos - pos))) := by
  unfold fX6_passNumber
  refine lwh2 (fun i => isD (B i)) (fun j => nI (nvX B pos j)) (fun i v => some (nI i, v)) hp (fun i h1 h2 hq g => ?_) (fun g => ?_) 400 (by omega)
  · rw [if_neg (by rw [nle (by omega) (by omega)]; omega), p_letterAt hk hb h2, bo1N, (p_isD (hB i h2)).1, bo1N]
    have e0 : nI i - nI pos = nI (i - pos) := pk_sub h1
    by_cases e : isD (B i) = true
    · rw [if_neg (by rw [b01, e]; decide), if_pos e, jo1N, e0, bo1N, n_dig (isD_ge e), nI_1, nvX]
      simp only [show (3 : Int32) = nI 3 from rfl, nle (a := 3) (b := i - pos) (by omega) (by omega)]
      by_cases g3 : 3 ≤ i - pos
      · rw [if_pos g3, if_pos g3]
      · rw [if_neg g3, if_neg g3, show pos + (i - pos) = i by omega]
    · rw [if_pos (by rw [b01]; simpa using e), if_neg e]
  · rw [if_pos (Int32.le_refl _)]
