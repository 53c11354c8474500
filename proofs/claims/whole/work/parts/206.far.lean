theorem wok.zero {P : Nat} {W : Nat → Nat} (h : wok P W) {p : Nat} (hp : P ≤ p) : W p = 0 := by
  apply zero_of_bits
  intro q
  cases hb : (W p).testBit q with
  | false => rfl
  | true => have := (h.hi hb).2; omega
/-- the distances' row of rows, of the first i places -/
def md (W : Nat → Nat) (old : Nat → Int32) (i : Nat) : Nat → Int32 := fun j => if j < i * 12 then dv (ds W (j / 12) (j % 12)) else old j
theorem p_measure {W : Nat → Nat} {P : Nat} {old : Nat → Int32} (hW : wok P W) (hP : P ≤ 12) : fX5_measure (nf W) old = some (md W old 12) := by
  unfold fX5_measure
  refine lq2 (fun i => nI i) (fun i => md W old i) 12 rfl (by funext j; unfold md; rw [if_neg (by omega)]) (fun i hi ag => ?_) (fun ag => ?_) 400 (by omega)
  · rw [if_neg (by rw [n12, nle (by omega) (by omega)]; omega), p_measureFrom hW hP hi (by
      rcases Nat.lt_or_ge i P with g | g
      · exact Or.inl g
      · exact Or.inr (hW.zero g))]
    simp only [bo1, vlet, nI_1]
    congr 1
    funext j
    unfold ri md
    by_cases g : i * 12 ≤ j ∧ j < i * 12 + 12
    · rw [if_pos g, if_pos (by omega), show j / 12 = i from by omega, show j % 12 = j - i * 12 from by omega]
    · rw [if_neg g]
      by_cases h : j < i * 12
      · rw [if_pos h, if_pos (by omega)]
      · rw [if_neg h, if_neg (by omega)]
  · rw [if_pos (by rw [n12, nle (by omega) (by omega)]; omega)]
/-- the distances are those of the ways -/
def dok (W : Nat → Nat) (d : Nat → Int32) : Prop := ∀ p q, p < 12 → q < 12 → d (p * 12 + q) = dv (ds W p q)
theorem md_dok (W : Nat → Nat) (old : Nat → Int32) : dok W (md W old 12) := by
  intro p q hp hq
  unfold md
  rw [if_pos (by omega), show (p * 12 + q) / 12 = p from by omega, show (p * 12 + q) % 12 = q from by omega]
theorem p_distance {W : Nat → Nat} {d : Nat → Int32} {p q : Nat} (hd : dok W d) (hp : p < 12) (hq : q < 12) : fX5_distance d (nI p) (nI q) = some (dv (ds W p q)) := by
  unfold fX5_distance
  rw [n_mul12, nI_add, if_n (nin (k := p * 12 + q) (N := 144) (by omega) (by omega)), nc (n := p * 12 + q) (by omega), hd p q hp hq]
/-! ===== it is as far back ===== -/
theorem rcm_step {W : Nat → Nat} {p d q r : Nat} (hr : r < 12) (h : (rcm W p d).testBit r = true) (ha : (W r).testBit q = true) : (rcm W p (d + 1)).testBit q = true := by
  show (spk W (rcm W p d) 12).testBit q = true
  rw [spk_bit]
  exact Or.inr ⟨r, hr, h, ha⟩
/-- from a neighbour, an hour later -/
theorem rcm_left {W : Nat → Nat} {P p r d q : Nat} (hW : wok P W) (hP : P ≤ 12) (ha : (W p).testBit r = true) (h : (rcm W r d).testBit q = true) : (rcm W p (d + 1)).testBit q = true := by
  induction d generalizing q with
  | zero =>
    have : r = q := by
      have h2 : (2 ^ r).testBit q = true := h
      rw [Nat.testBit_two_pow] at h2
      simpa using h2
    subst this
    have hp := (hW.hi ha).2
    exact rcm_step (d := 0) (r := p) (by omega) (by show (2 ^ p).testBit p = true; rw [Nat.testBit_two_pow]; simp) ha
  | succ d ih =>
    have h2 : (spk W (rcm W r d) 12).testBit q = true := h
    rw [spk_bit] at h2
    rcases h2 with h2 | ⟨s, h3, h4, h5⟩
    · exact rcm_mono (ih h2)
    · exact rcm_step h3 (ih h4) h5
theorem rcm_sym1 {W : Nat → Nat} {P p d q : Nat} (hW : wok P W) (hP : P ≤ 12) (h : (rcm W p d).testBit q = true) : (rcm W q d).testBit p = true := by
  induction d generalizing q with
  | zero =>
    have h2 : (2 ^ p).testBit q = true := h
    rw [Nat.testBit_two_pow] at h2
    have : p = q := by simpa using h2
    subst this
    exact h
  | succ d ih =>
    have h2 : (spk W (rcm W p d) 12).testBit q = true := h
    rw [spk_bit] at h2
    rcases h2 with h2 | ⟨s, h3, h4, h5⟩
    · exact rcm_mono (ih h2)
    · exact rcm_left hW hP (by rw [hW.2.1]; exact h5) (ih h4)
theorem ds_sym {W : Nat → Nat} {P p q : Nat} (hW : wok P W) (hP : P ≤ 12) : ds W p q = ds W q p := by
  unfold ds
  apply ff_congr
  intro j _ _
  exact bool_ext ⟨rcm_sym1 hW hP, rcm_sym1 hW hP⟩
/-! ===== P places are reached within P - 1 ===== -/
theorem pc_le {m k : Nat} : pc m k ≤ k := by
  induction k with
  | zero => exact Nat.le_refl _
  | succ k ih => unfold pc; by_cases h : m.testBit k = true <;> simp [h] <;> omega
theorem pc_mono {a b k : Nat} (h : ∀ q, a.testBit q = true → b.testBit q = true) : pc a k ≤ pc b k := by
  induction k with
  | zero => exact Nat.le_refl _
  | succ k ih =>
    unfold pc
    by_cases h1 : a.testBit k = true
    · rw [if_pos h1, if_pos (h k h1)]; omega
    · rw [if_neg h1]
      by_cases h2 : b.testBit k = true
      · rw [if_pos h2]; omega
      · rw [if_neg h2]; omega
theorem pc_strict {a b k q : Nat} (h : ∀ q, a.testBit q = true → b.testBit q = true) (hq : q < k) (h1 : a.testBit q = false) (h2 : b.testBit q = true) : pc a k < pc b k := by
  induction k with
  | zero => omega
  | succ k ih =>
    unfold pc
    by_cases e : q = k
    · subst e
      rw [if_neg (by rw [h1]; decide), if_pos h2]
      have := pc_mono (k := q) h
      omega
    · have := ih (by omega)
      by_cases g1 : a.testBit k = true
      · rw [if_pos g1, if_pos (h k g1)]; omega
      · rw [if_neg g1]
        by_cases g2 : b.testBit k = true
        · rw [if_pos g2]; omega
        · rw [if_neg g2]; omega
theorem pc_two {p k : Nat} (h : p < k) : 1 ≤ pc (2 ^ p) k := by
  have h0 : pc 0 k = 0 := by
    induction k with
    | zero => rfl
    | succ k ih =>
      unfold pc
      rw [Nat.zero_testBit]
      rcases Nat.lt_or_ge p k with g | g
      · rw [ih g]; rfl
      · have : pc 0 k = 0 := by
          clear ih h
          induction k with
          | zero => rfl
          | succ k ih => unfold pc; rw [ih (by omega), Nat.zero_testBit]; rfl
        rw [this]; rfl
  have := pc_strict (a := 0) (b := 2 ^ p) (k := k) (q := p) (fun q hq => by rw [Nat.zero_testBit] at hq; cases hq) h (Nat.zero_testBit _) (by rw [Nat.testBit_two_pow]; simp)
  omega
theorem rcm_grow {W : Nat → Nat} {P p d : Nat} (hW : wok P W) (hp : p < P) (h : ∀ i, 0 < i → i ≤ d → edg W p i ≠ 0) : d + 1 ≤ pc (rcm W p d) P := by
  induction d with
  | zero => exact pc_two hp
  | succ d ih =>
    have h1 := ih (fun i a b => h i a (by omega))
    have h2 := h (d + 1) (by omega) (Nat.le_refl _)
    obtain ⟨q, hq⟩ : ∃ q, (edg W p (d + 1)).testBit q = true := by
      rcases Classical.em (∃ q, (edg W p (d + 1)).testBit q = true) with g | g
      · exact g
      · exact absurd (zero_of_bits (fun q => by cases e : (edg W p (d + 1)).testBit q with | false => rfl | true => exact absurd ⟨q, e⟩ g)) h2
    rw [edg_bit] at hq
    simp only [Bool.and_eq_true, Bool.not_eq_true'] at hq
    have hqP : q < P := by
      rcases Nat.lt_or_ge q P with g | g
      · exact g
      · rw [Nat.testBit_lt_two_pow (Nat.lt_of_lt_of_le (rcm_lt hW hp) (Nat.pow_le_pow_right (by decide) g))] at hq
        exact absurd hq.1 (by decide)
    have := pc_strict (a := rcm W p d) (b := rcm W p (d + 1)) (k := P) (q := q) (fun q h => rcm_mono h) hqP hq.2 hq.1
    omega
theorem edg_stop {W : Nat → Nat} {P p : Nat} (hW : wok P W) (hp : p < P) : ∃ d, 0 < d ∧ d ≤ P ∧ edg W p d = 0 := by
  rcases Classical.em (∃ d, 0 < d ∧ d ≤ P ∧ edg W p d = 0) with g | g
  · exact g
  · exfalso
    have := rcm_grow (d := P) hW hp (fun i a b e => g ⟨i, a, b, e⟩)
    have h2 := pc_le (m := rcm W p P) (k := P)
    omega
/-- levels from P on tell nothing new -/
theorem ds_P {W : Nat → Nat} {P p q : Nat} (hW : wok P W) (hP : P ≤ 12) (hp : p < P) : ds W p q = ff (fun k => (rcm W p k).testBit q) P 0 := by
  obtain ⟨d, h1, h2, h3⟩ := edg_stop hW hp
  unfold ds
  rw [edg_zero_ff h3 h1 (show d ≤ 12 by omega), edg_zero_ff h3 h1 h2]
