theorem nin2 {k N : Nat} (h : k < N) (hN : N ≤ 100000) : ¬ (nI k < 0 ∨ N ≤ k) := by
  rintro (q | q)
  · exact nI_pos (by omega) q
  · omega
/-- a loop that seeks what is there -/
theorem lsf {ρ : Type} {F : (Int32 → Option ρ) → Int32 → Option ρ} (p : Nat → Bool) (r : Nat → Option ρ) (a q : Nat) (haq : a ≤ q) (hq : p q = true) (hlt : ∀ j, a ≤ j → j < q → p j = false) (h : ∀ i, a ≤ i → i ≤ q → ∀ g, F g (nI i) = if p i then r i else g (nI (i + 1))) (n : Nat) (hn : q - a < n) : lo1 F n (nI a) = r q := by
  have := lr1 (F := F) (fun i => nI (a + i)) (q - a) (r := r q) (fun i hi g => by
    rw [h (a + i) (by omega) (by omega), hlt (a + i) (by omega) (by omega)]
    simp only [Bool.false_eq_true, if_false]
    rfl) (fun g => by
    rw [show a + (q - a) = q from by omega, h q haq (Nat.le_refl q), hq]
    rfl) n hn
  exact this
theorem tb_div (m k q : Nat) : (m / 2 ^ k).testBit q = m.testBit (k + q) := by
  rw [Nat.testBit_div_two_pow, Nat.add_comm]
theorem tb_mul (m k q : Nat) : (m * 2 ^ k).testBit q = (decide (k ≤ q) && m.testBit (q - k)) := by
  rw [Nat.testBit_mul_two_pow]
theorem zero_of_bits {m : Nat} (h : ∀ q, m.testBit q = false) : m = 0 := by
  apply Nat.eq_of_testBit_eq
  intro q
  rw [h q, Nat.zero_testBit]
theorem low_bit {m : Nat} (h : m ≠ 0) (hm : m < 4096) : ∃ q, q < 12 ∧ m.testBit q = true ∧ ∀ j, j < q → m.testBit j = false := by
  cases e : ff (fun q => m.testBit q) 12 0 with
  | none =>
    exfalso
    apply h
    apply zero_of_bits
    intro q
    rcases Nat.lt_or_ge q 12 with g | g
    · exact ff_none e q (Nat.zero_le _) (by omega)
    · exact Nat.testBit_lt_two_pow (Nat.lt_of_lt_of_le hm (Nat.pow_le_pow_right (by decide : 0 < 2) g : 2 ^ 12 ≤ 2 ^ q))
  | some q =>
    obtain ⟨-, h2, h3, h4⟩ := ff_some e
    exact ⟨q, by omega, h3, fun j hj => h4 j (Nat.zero_le _) hj⟩
/-- the least place of a set, as the Model seeks it -/
theorem p_low {m q : Nat} (hm : m < 4096) (hq : q < 12) (h1 : m.testBit q = true) (h2 : ∀ j, j < q → m.testBit j = false) : lo1 (fun (g6 : Int32 → Option Int32) (x5 : Int32) => if ((nI m >>> (x5 &&& 31)) &&& (1 : Int32)) = 0 then vlet (x5 + (1 : Int32)) fun x7 => g6 x7 else some x5) 400 (0 : Int32) = some (nI q) :=
  lsf (fun q => m.testBit q) (fun q => some (nI q)) 0 q (Nat.zero_le _) h1 (fun j _ h => h2 j h) (fun i _ hi g => by
    simp only [n_bit0 (m := m) (k := i) (by omega) (by omega), vlet]
    rw [nI_1]
    cases m.testBit i <;> simp) 400 (by omega)
theorem n_ne0 {m : Nat} (hm : m < 100000) : (nI m = (0 : Int32)) = (m = 0) := neq (a := m) (b := 0) (by omega) (by omega)
theorem p_nextRound {W : Nat → Nat} {P f : Nat} (hW : wok P W) (hP : P ≤ 12) (hf : f < P) : fX8_nextRound (nf W) (nI f) = some (nI (wr W P f)) := by
  have hm := hW.lt hP (f)
  unfold fX8_nextRound
  rw [if_n (nin (k := f) (N := 12) (by omega) (by omega))]
  simp only [vlet, jo1]
  rw [nc (n := f) (by omega), nf_ap, nI_1, n_shr (by omega) (by omega)]
  have hdl : W f / 2 ^ (f + 1) < 100000 := Nat.lt_of_le_of_lt (Nat.div_le_self _ _) (by omega)
  simp only [n_ne0 hdl, if_n (nin2 (k := f) (N := 12) (by omega) (by omega))]
  have hlow := fun (m : Nat) (hm : m < 4096) (q : Nat) (hq : q < 12) (h1 : m.testBit q = true) (h2 : ∀ j, j < q → m.testBit j = false) => p_low hm hq h1 h2
  simp only [vlet] at hlow
  unfold wr
  cases e : ff (fun q => (W f).testBit q) (P - (f + 1)) (f + 1) with
  | some q =>
    obtain ⟨h1, h2, h3, h4⟩ := ff_some e
    have hne : W f / 2 ^ (f + 1) ≠ 0 := by
      intro h0
      have := tb_div (W f) (f + 1) (q - (f + 1))
      rw [h0, Nat.zero_testBit, show f + 1 + (q - (f + 1)) = q from by omega, h3] at this
      cases this
    rw [if_neg hne]
    have hs : W f / 2 ^ (f + 1) * 2 ^ (f + 1) ≤ W f := Nat.div_mul_le_self _ _
    rw [pk_shlN (nI (f + 1) &&& 31) (f + 1) (s_l (f + 1) (by omega)) (by omega)]
    have hb : ∀ j, (W f / 2 ^ (f + 1) * 2 ^ (f + 1)).testBit j = (decide (f + 1 ≤ j) && (W f).testBit j) := by
      intro j
      rw [tb_mul, tb_div]
      by_cases g : f + 1 ≤ j
      · rw [show f + 1 + (j - (f + 1)) = j from by omega]
      · simp [g]
    have hne2 : W f / 2 ^ (f + 1) * 2 ^ (f + 1) ≠ 0 := by
      intro h0
      have := hb q
      rw [h0, Nat.zero_testBit, h3] at this
      simp [h1] at this
    rw [if_neg (by rw [n_ne0 (by omega)]; exact hne2)]
    exact hlow _ (by omega) q (by omega) (by rw [hb, h3]; simp [h1]) (fun j hj => by
      rw [hb]
      by_cases g : f + 1 ≤ j
      · rw [h4 j g hj]; simp
      · simp [g])
  | none =>
    have hz : W f / 2 ^ (f + 1) = 0 := by
      apply zero_of_bits
      intro j
      rw [tb_div]
      cases hb : (W f).testBit (f + 1 + j) with
      | false => rfl
      | true =>
        have := (hW.hi hb).1
        have h0 := ff_none e (f + 1 + j) (by omega) (by omega)
        rw [hb] at h0
        exact h0
    rw [if_pos hz]
    by_cases h0 : W f = 0
    · rw [if_pos (by rw [n_ne0 (by omega)]; exact h0)]
      rw [ff_non (fun j _ _ => by rw [h0, Nat.zero_testBit])]
    · rw [if_neg (by rw [n_ne0 (by omega)]; exact h0)]
      obtain ⟨q, hq, h1, h2⟩ := low_bit h0 hm
      have hqf : q < f := by
        rcases Nat.lt_trichotomy q f with g | g | g
        · exact g
        · subst g; rw [hW.2.2] at h1; cases h1
        · have := (hW.hi h1).1
          have h3 := ff_none e q (by omega) (by omega)
          rw [h1] at h3; cases h3
      rw [ff_eq (q := q) (Nat.zero_le _) (by omega) h1 (fun j _ hj => h2 j hj)]
      exact hlow _ hm q hq h1 h2
/-! ===== where one may be an hour later ===== -/
def spk (W : Nat → Nat) (m : Nat) : Nat → Nat
  | 0 => m
  | k + 1 => if m.testBit k then spk W m k ||| W k else spk W m k
theorem spk_bit (W : Nat → Nat) (m k q : Nat) : (spk W m k).testBit q = true ↔ m.testBit q = true ∨ ∃ r, r < k ∧ m.testBit r = true ∧ (W r).testBit q = true := by
  induction k with
  | zero => simp [spk]
  | succ k ih =>
    unfold spk
    by_cases h : m.testBit k = true
    · rw [if_pos h, Nat.testBit_or, Bool.or_eq_true, ih]
      constructor
      · rintro ((h1 | ⟨r, h1, h2, h3⟩) | h1)
        · exact Or.inl h1
        · exact Or.inr ⟨r, by omega, h2, h3⟩
        · exact Or.inr ⟨k, by omega, h, h1⟩
      · rintro (h1 | ⟨r, h1, h2, h3⟩)
        · exact Or.inl (Or.inl h1)
        · by_cases e : r = k
          · subst e; exact Or.inr h3
          · exact Or.inl (Or.inr ⟨r, by omega, h2, h3⟩)
    · rw [if_neg h, ih]
      constructor
      · rintro (h1 | ⟨r, h1, h2, h3⟩)
        · exact Or.inl h1
        · exact Or.inr ⟨r, by omega, h2, h3⟩
      · rintro (h1 | ⟨r, h1, h2, h3⟩)
        · exact Or.inl h1
        · by_cases e : r = k
          · subst e; exact absurd h2 h
          · exact Or.inr ⟨r, by omega, h2, h3⟩
def spr (W : Nat → Nat) (m : Nat) : Nat := spk W m 12
theorem spk_lt {W : Nat → Nat} {P m k : Nat} (hW : wok P W) (hm : m < 2 ^ P) : spk W m k < 2 ^ P := by
  induction k with
  | zero => exact hm
  | succ k ih =>
    unfold spk
    by_cases h : m.testBit k = true
    · rw [if_pos h]; exact or_lt ih (hW.1 k)
    · rw [if_neg h]; exact ih
theorem spk_P {W : Nat → Nat} {P m : Nat} (hm : m < 2 ^ P) (hP : P ≤ 12) : spk W m P = spr W m := by
  apply Nat.eq_of_testBit_eq
  intro q
  have h := spk_bit W m P q
  have h' := spk_bit W m 12 q
  have e : (spk W m P).testBit q = true ↔ (spr W m).testBit q = true := by
    unfold spr
    rw [h, h']
    constructor
    · rintro (g | ⟨r, g1, g2, g3⟩)
      · exact Or.inl g
      · exact Or.inr ⟨r, by omega, g2, g3⟩
    · rintro (g | ⟨r, g1, g2, g3⟩)
      · exact Or.inl g
      · refine Or.inr ⟨r, ?_, g2, g3⟩
        rcases Nat.lt_or_ge r P with a | a
        · exact a
        · rw [Nat.testBit_lt_two_pow (Nat.lt_of_lt_of_le hm (Nat.pow_le_pow_right (by decide) a))] at g2
          cases g2
  cases h1 : (spk W m P).testBit q <;> cases h2 : (spr W m).testBit q <;> simp_all
theorem p_spread {W : Nat → Nat} {P m : Nat} (hP : P ≤ 12) (hm : m < 2 ^ P) : fX5_spread (nf W) (nI m) = some (nI (spr W m)) := by
  have hm2 : m < 4096 := Nat.lt_of_lt_of_le hm (pw_lt hP)
  unfold fX5_spread
  refine lr2 (fun i => nI (spk W m i)) (fun i => nI i) 12 (fun i hi ag => ?_) (fun ag => ?_) 400 (by omega)
  · rw [if_neg (by rw [show (12 : Int32) = nI 12 from rfl, nle (by omega) (by omega)]; omega), p_hasBit (by omega) (by omega)]
    simp only [bo1, jo1, vlet, b01]
    rw [if_n (nin (k := i) (N := 12) hi (by omega)), nc (n := i) (by omega), nf_ap, n_or, nI_1]
    simp only [spk]
    by_cases hb : m.testBit i = true
    · simp [hb]
    · simp [hb]
  · rw [if_pos (by rw [show (12 : Int32) = nI 12 from rfl, nle (by omega) (by omega)]; omega)]
    rfl
theorem p_besides {W : Nat → Nat} {P m : Nat} (hP : P ≤ 12) (hm : m < 2 ^ P) : fX8_besides (nI P) (nf W) (nI m) = some (nI (spr W m)) := by
  have hm2 : m < 4096 := Nat.lt_of_lt_of_le hm (pw_lt hP)
  rw [← spk_P hm hP]
  unfold fX8_besides
  refine lr2 (fun i => nI (spk W m i)) (fun i => nI i) P (fun i hi ag => ?_) (fun ag => ?_) 400 (by omega)
  · rw [if_neg (by rw [nle (by omega) (by omega)]; omega)]
    simp only [jo1, vlet, n_bit1 (m := m) (k := i) (by omega) (by omega)]
    rw [if_n (nin (k := i) (N := 12) (by omega) (by omega)), nc (n := i) (by omega), nf_ap, n_or, nI_1, show nI (spk W m i) ||| (0 : Int32) = nI (spk W m i) from by rw [show (0 : Int32) = nI 0 from rfl, n_or, Nat.or_zero]]
    simp only [spk]
    by_cases hb : m.testBit i = true
    · simp [hb]
    · simp [hb]
  · rw [if_pos (by rw [nle (by omega) (by omega)]; omega)]
