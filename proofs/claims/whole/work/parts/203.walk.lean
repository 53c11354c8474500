theorem b01n (b : Bool) : (nI (if b then 1 else 0) = nI 0) = (b = false) := b01 b
/-! ===== the first of a row ===== -/
def ff (p : Nat → Bool) : Nat → Nat → Option Nat
  | 0, _ => none
  | k + 1, a => if p a then some a else ff p k (a + 1)
theorem ff_some {p : Nat → Bool} {k a q : Nat} (h : ff p k a = some q) : a ≤ q ∧ q < a + k ∧ p q = true ∧ ∀ j, a ≤ j → j < q → p j = false := by
  induction k generalizing a with
  | zero => simp [ff] at h
  | succ k ih =>
    unfold ff at h
    by_cases hp : p a = true
    · rw [if_pos hp] at h
      cases h
      exact ⟨Nat.le_refl _, by omega, hp, fun j h1 h2 => absurd h2 (by omega)⟩
    · rw [if_neg hp] at h
      obtain ⟨h1, h2, h3, h4⟩ := ih h
      refine ⟨by omega, by omega, h3, fun j h5 h6 => ?_⟩
      by_cases e : j = a
      · subst e; simpa using hp
      · exact h4 j (by omega) h6
theorem ff_none {p : Nat → Bool} {k a : Nat} (h : ff p k a = none) : ∀ j, a ≤ j → j < a + k → p j = false := by
  induction k generalizing a with
  | zero => intro j h1 h2; omega
  | succ k ih =>
    unfold ff at h
    by_cases hp : p a = true
    · rw [if_pos hp] at h; cases h
    · rw [if_neg hp] at h
      intro j h1 h2
      by_cases e : j = a
      · subst e; simpa using hp
      · exact ih h j (by omega) (by omega)
theorem ff_eq {p : Nat → Bool} {k a q : Nat} (h1 : a ≤ q) (h2 : q < a + k) (h3 : p q = true) (h4 : ∀ j, a ≤ j → j < q → p j = false) : ff p k a = some q := by
  cases h : ff p k a with
  | none => have := ff_none h q h1 h2; rw [h3] at this; cases this
  | some r =>
    obtain ⟨g1, g2, g3, g4⟩ := ff_some h
    rcases Nat.lt_trichotomy r q with e | e | e
    · rw [h4 r g1 e] at g3; cases g3
    · rw [e]
    · rw [g4 q h1 e] at h3; cases h3
theorem ff_non {p : Nat → Bool} {k a : Nat} (h : ∀ j, a ≤ j → j < a + k → p j = false) : ff p k a = none := by
  cases e : ff p k a with
  | none => rfl
  | some r => obtain ⟨g1, g2, g3, -⟩ := ff_some e; rw [h r g1 g2] at g3; cases g3
theorem ff_congr {p p' : Nat → Bool} {k a : Nat} (h : ∀ j, a ≤ j → j < a + k → p j = p' j) : ff p k a = ff p' k a := by
  induction k generalizing a with
  | zero => rfl
  | succ k ih =>
    unfold ff
    rw [h a (Nat.le_refl _) (by omega), ih (fun j h1 h2 => h j (by omega) (by omega))]
/-- a loop that seeks: its answer at the first, or at the end -/
theorem lsk {ρ : Type} {F : (Int32 → Option ρ) → Int32 → Option ρ} (p : Nat → Bool) (r : Nat → Option ρ) (e : Option ρ) (a k : Nat) (h : ∀ i, a ≤ i → i < a + k → ∀ g, F g (nI i) = if p i then r i else g (nI (i + 1))) (he : ∀ g, F g (nI (a + k)) = e) : ∀ n, k < n → lo1 F n (nI a) = (match ff p k a with | some q => r q | none => e) := by
  induction k generalizing a with
  | zero =>
    intro n hn
    cases n with
    | zero => exact absurd hn (by omega)
    | succ n => exact he _
  | succ k ih =>
    intro n hn
    cases n with
    | zero => exact absurd hn (by omega)
    | succ n =>
      show F (lo1 F n) (nI a) = _
      rw [h a (Nat.le_refl _) (by omega)]
      unfold ff
      by_cases hp : p a = true
      · rw [if_pos hp, if_pos hp]
      · rw [if_neg hp, if_neg hp]
        exact ih (a + 1) (fun i h1 h2 => h i (by omega) (by omega)) (by rw [show a + 1 + k = a + (k + 1) from by omega]; exact he) n (by omega)
/-! ===== ways ===== -/
/-- masks of ways between P places: either way, never to itself -/
def wok (P : Nat) (W : Nat → Nat) : Prop := (∀ p, W p < 2 ^ P) ∧ (∀ p q, (W p).testBit q = (W q).testBit p) ∧ ∀ p, (W p).testBit p = false
theorem wok.hi {P : Nat} {W : Nat → Nat} (h : wok P W) {p q : Nat} (hb : (W p).testBit q = true) : q < P ∧ p < P := by
  have key : ∀ x y, (W x).testBit y = true → y < P := by
    intro x y hxy
    rcases Nat.lt_or_ge y P with g | g
    · exact g
    · rw [Nat.testBit_lt_two_pow (Nat.lt_of_lt_of_le (h.1 x) (Nat.pow_le_pow_right (by decide) g))] at hxy
      cases hxy
  exact ⟨key p q hb, key q p (by rw [h.2.1]; exact hb)⟩
theorem wok.lt {P : Nat} {W : Nat → Nat} (h : wok P W) (hP : P ≤ 12) (p : Nat) : W p < 4096 := Nat.lt_of_lt_of_le (h.1 p) (pw_lt hP)
theorem p_hasWay {W : Nat → Nat} {P p q : Nat} (hW : wok P W) (hP : P ≤ 12) (hp : p < 12) (hq : q < 31) : fX5_hasWay (nf W) (nI p) (nI q) = some (nI (if (W p).testBit q then 1 else 0)) := by
  unfold fX5_hasWay
  rw [if_n (nin (k := p) (N := 12) hp (by omega)), nc (n := p) (by omega), nf_ap, n_bit (by have := hW.lt hP p; omega) hq]
  cases (W p).testBit q <;> rfl
/-- going round -/
def wr (W : Nat → Nat) (P f : Nat) : Nat := match ff (fun q => (W f).testBit q) (P - (f + 1)) (f + 1) with
  | some q => q
  | none => match ff (fun q => (W f).testBit q) f 0 with
    | some q => q
    | none => f
theorem p_walkRound {W : Nat → Nat} {P f : Nat} (hW : wok P W) (hP : P ≤ 12) (hf : f < P) : fX5_walkRound (nI P) (nf W) (nI f) = some (nI (wr W P f)) := by
  unfold fX5_walkRound
  simp only [vlet]
  rw [nI_1]
  rw [lsk (fun q => (W f).testBit q) (fun q => some (nI q)) (match ff (fun q => (W f).testBit q) f 0 with | some q => some (nI q) | none => some (nI f)) (f + 1) (P - (f + 1)) (fun i h1 h2 g => ?_) (fun g => ?_) 400 (by omega)]
  · unfold wr
    cases ff (fun q => (W f).testBit q) (P - (f + 1)) (f + 1) with
    | some q => rfl
    | none => cases ff (fun q => (W f).testBit q) f 0 <;> rfl
  · rw [if_neg (by rw [nle (by omega) (by omega)]; omega), p_hasWay hW hP (by omega) (by omega)]
    simp only [bo1, b01]
    rw [nI_1]
    cases (W f).testBit i <;> simp
  · rw [if_pos (by rw [nle (by omega) (by omega)]; omega)]
    rw [show (0 : Int32) = nI 0 from rfl]
    rw [lsk (fun q => (W f).testBit q) (fun q => some (nI q)) (some (nI f)) 0 f (fun i h1 h2 g => ?_) (fun g => ?_) 400 (by omega)]
    · rw [if_neg (by rw [nle (by omega) (by omega)]; omega), p_hasWay hW hP (by omega) (by omega)]
      simp only [bo1, b01n]
      rw [nI_1]
      cases (W f).testBit i <;> simp
    · rw [if_pos (by rw [nle (by omega) (by omega)]; omega)]
