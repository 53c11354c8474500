/-! ===== functional programs: a value's name, checks, branches ===== -/
def vlet {α ρ : Type} (e : α) (k : α → ρ) : ρ := k e
theorem vlE {α ρ : Type} {e x : α} {k : α → Option ρ} {o : Option ρ} (h : vlet e k = o) (ex : x = e) : k x = o := by
  subst ex
  exact h
theorem ckE {ρ : Type} {c : Prop} [Decidable c] {b : Option ρ} {o : ρ} (h : (if c then none else b) = some o) : ¬ c ∧ b = some o := by
  by_cases hc : c
  · rw [if_pos hc] at h
    exact absurd h (by simp)
  · rw [if_neg hc] at h
    exact ⟨hc, h⟩
theorem ifT {ρ : Type} {c : Prop} [Decidable c] {a b : Option ρ} {o : Option ρ} (h : (if c then a else b) = o) (hc : c) : a = o := by
  rw [if_pos hc] at h
  exact h
theorem ifF {ρ : Type} {c : Prop} [Decidable c] {a b : Option ρ} {o : Option ρ} (h : (if c then a else b) = o) (hc : ¬ c) : b = o := by
  rw [if_neg hc] at h
  exact h
def lo0 {ρ : Type} (F : Option ρ → Option ρ) : Nat → Option ρ
  | 0 => none
  | n + 1 => F (lo0 F n)
def jo0 {ρ : Type} (K : Option ρ) (B : (Option ρ) → Option ρ) : Option ρ := B K
def lo1 {A1 ρ : Type} (F : (A1 → Option ρ) → A1 → Option ρ) : Nat → A1 → Option ρ
  | 0, _ => none
  | n + 1, a1 => F (lo1 F n) a1
def jo1 {A1 ρ : Type} (K : A1 → Option ρ) (B : (A1 → Option ρ) → Option ρ) : Option ρ := B K
def lo2 {A1 A2 ρ : Type} (F : (A1 → A2 → Option ρ) → A1 → A2 → Option ρ) : Nat → A1 → A2 → Option ρ
  | 0, _, _ => none
  | n + 1, a1, a2 => F (lo2 F n) a1 a2
def jo2 {A1 A2 ρ : Type} (K : A1 → A2 → Option ρ) (B : (A1 → A2 → Option ρ) → Option ρ) : Option ρ := B K
def lo3 {A1 A2 A3 ρ : Type} (F : (A1 → A2 → A3 → Option ρ) → A1 → A2 → A3 → Option ρ) : Nat → A1 → A2 → A3 → Option ρ
  | 0, _, _, _ => none
  | n + 1, a1, a2, a3 => F (lo3 F n) a1 a2 a3
def jo3 {A1 A2 A3 ρ : Type} (K : A1 → A2 → A3 → Option ρ) (B : (A1 → A2 → A3 → Option ρ) → Option ρ) : Option ρ := B K
def lo4 {A1 A2 A3 A4 ρ : Type} (F : (A1 → A2 → A3 → A4 → Option ρ) → A1 → A2 → A3 → A4 → Option ρ) : Nat → A1 → A2 → A3 → A4 → Option ρ
  | 0, _, _, _, _ => none
  | n + 1, a1, a2, a3, a4 => F (lo4 F n) a1 a2 a3 a4
def jo4 {A1 A2 A3 A4 ρ : Type} (K : A1 → A2 → A3 → A4 → Option ρ) (B : (A1 → A2 → A3 → A4 → Option ρ) → Option ρ) : Option ρ := B K
def lo5 {A1 A2 A3 A4 A5 ρ : Type} (F : (A1 → A2 → A3 → A4 → A5 → Option ρ) → A1 → A2 → A3 → A4 → A5 → Option ρ) : Nat → A1 → A2 → A3 → A4 → A5 → Option ρ
  | 0, _, _, _, _, _ => none
  | n + 1, a1, a2, a3, a4, a5 => F (lo5 F n) a1 a2 a3 a4 a5
def jo5 {A1 A2 A3 A4 A5 ρ : Type} (K : A1 → A2 → A3 → A4 → A5 → Option ρ) (B : (A1 → A2 → A3 → A4 → A5 → Option ρ) → Option ρ) : Option ρ := B K
def lo6 {A1 A2 A3 A4 A5 A6 ρ : Type} (F : (A1 → A2 → A3 → A4 → A5 → A6 → Option ρ) → A1 → A2 → A3 → A4 → A5 → A6 → Option ρ) : Nat → A1 → A2 → A3 → A4 → A5 → A6 → Option ρ
  | 0, _, _, _, _, _, _ => none
  | n + 1, a1, a2, a3, a4, a5, a6 => F (lo6 F n) a1 a2 a3 a4 a5 a6
def jo6 {A1 A2 A3 A4 A5 A6 ρ : Type} (K : A1 → A2 → A3 → A4 → A5 → A6 → Option ρ) (B : (A1 → A2 → A3 → A4 → A5 → A6 → Option ρ) → Option ρ) : Option ρ := B K
def lo7 {A1 A2 A3 A4 A5 A6 A7 ρ : Type} (F : (A1 → A2 → A3 → A4 → A5 → A6 → A7 → Option ρ) → A1 → A2 → A3 → A4 → A5 → A6 → A7 → Option ρ) : Nat → A1 → A2 → A3 → A4 → A5 → A6 → A7 → Option ρ
  | 0, _, _, _, _, _, _, _ => none
  | n + 1, a1, a2, a3, a4, a5, a6, a7 => F (lo7 F n) a1 a2 a3 a4 a5 a6 a7
def jo7 {A1 A2 A3 A4 A5 A6 A7 ρ : Type} (K : A1 → A2 → A3 → A4 → A5 → A6 → A7 → Option ρ) (B : (A1 → A2 → A3 → A4 → A5 → A6 → A7 → Option ρ) → Option ρ) : Option ρ := B K
def lo8 {A1 A2 A3 A4 A5 A6 A7 A8 ρ : Type} (F : (A1 → A2 → A3 → A4 → A5 → A6 → A7 → A8 → Option ρ) → A1 → A2 → A3 → A4 → A5 → A6 → A7 → A8 → Option ρ) : Nat → A1 → A2 → A3 → A4 → A5 → A6 → A7 → A8 → Option ρ
  | 0, _, _, _, _, _, _, _, _ => none
  | n + 1, a1, a2, a3, a4, a5, a6, a7, a8 => F (lo8 F n) a1 a2 a3 a4 a5 a6 a7 a8
def jo8 {A1 A2 A3 A4 A5 A6 A7 A8 ρ : Type} (K : A1 → A2 → A3 → A4 → A5 → A6 → A7 → A8 → Option ρ) (B : (A1 → A2 → A3 → A4 → A5 → A6 → A7 → A8 → Option ρ) → Option ρ) : Option ρ := B K
def lo9 {A1 A2 A3 A4 A5 A6 A7 A8 A9 ρ : Type} (F : (A1 → A2 → A3 → A4 → A5 → A6 → A7 → A8 → A9 → Option ρ) → A1 → A2 → A3 → A4 → A5 → A6 → A7 → A8 → A9 → Option ρ) : Nat → A1 → A2 → A3 → A4 → A5 → A6 → A7 → A8 → A9 → Option ρ
  | 0, _, _, _, _, _, _, _, _, _ => none
  | n + 1, a1, a2, a3, a4, a5, a6, a7, a8, a9 => F (lo9 F n) a1 a2 a3 a4 a5 a6 a7 a8 a9
def jo9 {A1 A2 A3 A4 A5 A6 A7 A8 A9 ρ : Type} (K : A1 → A2 → A3 → A4 → A5 → A6 → A7 → A8 → A9 → Option ρ) (B : (A1 → A2 → A3 → A4 → A5 → A6 → A7 → A8 → A9 → Option ρ) → Option ρ) : Option ρ := B K
def bo1 {A1 ρ : Type} (x : Option (A1)) (k : A1 → Option ρ) : Option ρ := match x with
  | none => none
  | some a1 => k a1
theorem boE1 {A1 ρ : Type} {x : Option (A1)} {k : A1 → Option ρ} {o : ρ} (h : bo1 x k = some o) : ∃ (a1 : A1), x = some a1 ∧ k a1 = some o := by
  match x, h with
  | none, h => exact absurd h (by simp [bo1])
  | some a1, h => exact ⟨a1, rfl, h⟩
def bo2 {A1 A2 ρ : Type} (x : Option (A1 × A2)) (k : A1 → A2 → Option ρ) : Option ρ := match x with
  | none => none
  | some (a1, a2) => k a1 a2
theorem boE2 {A1 A2 ρ : Type} {x : Option (A1 × A2)} {k : A1 → A2 → Option ρ} {o : ρ} (h : bo2 x k = some o) : ∃ (a1 : A1) (a2 : A2), x = some (a1, a2) ∧ k a1 a2 = some o := by
  match x, h with
  | none, h => exact absurd h (by simp [bo2])
  | some (a1, a2), h => exact ⟨a1, a2, rfl, h⟩
def bo3 {A1 A2 A3 ρ : Type} (x : Option (A1 × A2 × A3)) (k : A1 → A2 → A3 → Option ρ) : Option ρ := match x with
  | none => none
  | some (a1, a2, a3) => k a1 a2 a3
theorem boE3 {A1 A2 A3 ρ : Type} {x : Option (A1 × A2 × A3)} {k : A1 → A2 → A3 → Option ρ} {o : ρ} (h : bo3 x k = some o) : ∃ (a1 : A1) (a2 : A2) (a3 : A3), x = some (a1, a2, a3) ∧ k a1 a2 a3 = some o := by
  match x, h with
  | none, h => exact absurd h (by simp [bo3])
  | some (a1, a2, a3), h => exact ⟨a1, a2, a3, rfl, h⟩
def bo4 {A1 A2 A3 A4 ρ : Type} (x : Option (A1 × A2 × A3 × A4)) (k : A1 → A2 → A3 → A4 → Option ρ) : Option ρ := match x with
  | none => none
  | some (a1, a2, a3, a4) => k a1 a2 a3 a4
theorem boE4 {A1 A2 A3 A4 ρ : Type} {x : Option (A1 × A2 × A3 × A4)} {k : A1 → A2 → A3 → A4 → Option ρ} {o : ρ} (h : bo4 x k = some o) : ∃ (a1 : A1) (a2 : A2) (a3 : A3) (a4 : A4), x = some (a1, a2, a3, a4) ∧ k a1 a2 a3 a4 = some o := by
  match x, h with
  | none, h => exact absurd h (by simp [bo4])
  | some (a1, a2, a3, a4), h => exact ⟨a1, a2, a3, a4, rfl, h⟩
def bo5 {A1 A2 A3 A4 A5 ρ : Type} (x : Option (A1 × A2 × A3 × A4 × A5)) (k : A1 → A2 → A3 → A4 → A5 → Option ρ) : Option ρ := match x with
  | none => none
  | some (a1, a2, a3, a4, a5) => k a1 a2 a3 a4 a5
theorem boE5 {A1 A2 A3 A4 A5 ρ : Type} {x : Option (A1 × A2 × A3 × A4 × A5)} {k : A1 → A2 → A3 → A4 → A5 → Option ρ} {o : ρ} (h : bo5 x k = some o) : ∃ (a1 : A1) (a2 : A2) (a3 : A3) (a4 : A4) (a5 : A5), x = some (a1, a2, a3, a4, a5) ∧ k a1 a2 a3 a4 a5 = some o := by
  match x, h with
  | none, h => exact absurd h (by simp [bo5])
  | some (a1, a2, a3, a4, a5), h => exact ⟨a1, a2, a3, a4, a5, rfl, h⟩
def bo6 {A1 A2 A3 A4 A5 A6 ρ : Type} (x : Option (A1 × A2 × A3 × A4 × A5 × A6)) (k : A1 → A2 → A3 → A4 → A5 → A6 → Option ρ) : Option ρ := match x with
  | none => none
  | some (a1, a2, a3, a4, a5, a6) => k a1 a2 a3 a4 a5 a6
theorem boE6 {A1 A2 A3 A4 A5 A6 ρ : Type} {x : Option (A1 × A2 × A3 × A4 × A5 × A6)} {k : A1 → A2 → A3 → A4 → A5 → A6 → Option ρ} {o : ρ} (h : bo6 x k = some o) : ∃ (a1 : A1) (a2 : A2) (a3 : A3) (a4 : A4) (a5 : A5) (a6 : A6), x = some (a1, a2, a3, a4, a5, a6) ∧ k a1 a2 a3 a4 a5 a6 = some o := by
  match x, h with
  | none, h => exact absurd h (by simp [bo6])
  | some (a1, a2, a3, a4, a5, a6), h => exact ⟨a1, a2, a3, a4, a5, a6, rfl, h⟩
def bo7 {A1 A2 A3 A4 A5 A6 A7 ρ : Type} (x : Option (A1 × A2 × A3 × A4 × A5 × A6 × A7)) (k : A1 → A2 → A3 → A4 → A5 → A6 → A7 → Option ρ) : Option ρ := match x with
  | none => none
  | some (a1, a2, a3, a4, a5, a6, a7) => k a1 a2 a3 a4 a5 a6 a7
theorem boE7 {A1 A2 A3 A4 A5 A6 A7 ρ : Type} {x : Option (A1 × A2 × A3 × A4 × A5 × A6 × A7)} {k : A1 → A2 → A3 → A4 → A5 → A6 → A7 → Option ρ} {o : ρ} (h : bo7 x k = some o) : ∃ (a1 : A1) (a2 : A2) (a3 : A3) (a4 : A4) (a5 : A5) (a6 : A6) (a7 : A7), x = some (a1, a2, a3, a4, a5, a6, a7) ∧ k a1 a2 a3 a4 a5 a6 a7 = some o := by
  match x, h with
  | none, h => exact absurd h (by simp [bo7])
  | some (a1, a2, a3, a4, a5, a6, a7), h => exact ⟨a1, a2, a3, a4, a5, a6, a7, rfl, h⟩
def bo8 {A1 A2 A3 A4 A5 A6 A7 A8 ρ : Type} (x : Option (A1 × A2 × A3 × A4 × A5 × A6 × A7 × A8)) (k : A1 → A2 → A3 → A4 → A5 → A6 → A7 → A8 → Option ρ) : Option ρ := match x with
  | none => none
  | some (a1, a2, a3, a4, a5, a6, a7, a8) => k a1 a2 a3 a4 a5 a6 a7 a8
theorem boE8 {A1 A2 A3 A4 A5 A6 A7 A8 ρ : Type} {x : Option (A1 × A2 × A3 × A4 × A5 × A6 × A7 × A8)} {k : A1 → A2 → A3 → A4 → A5 → A6 → A7 → A8 → Option ρ} {o : ρ} (h : bo8 x k = some o) : ∃ (a1 : A1) (a2 : A2) (a3 : A3) (a4 : A4) (a5 : A5) (a6 : A6) (a7 : A7) (a8 : A8), x = some (a1, a2, a3, a4, a5, a6, a7, a8) ∧ k a1 a2 a3 a4 a5 a6 a7 a8 = some o := by
  match x, h with
  | none, h => exact absurd h (by simp [bo8])
  | some (a1, a2, a3, a4, a5, a6, a7, a8), h => exact ⟨a1, a2, a3, a4, a5, a6, a7, a8, rfl, h⟩
def bo9 {A1 A2 A3 A4 A5 A6 A7 A8 A9 ρ : Type} (x : Option (A1 × A2 × A3 × A4 × A5 × A6 × A7 × A8 × A9)) (k : A1 → A2 → A3 → A4 → A5 → A6 → A7 → A8 → A9 → Option ρ) : Option ρ := match x with
  | none => none
  | some (a1, a2, a3, a4, a5, a6, a7, a8, a9) => k a1 a2 a3 a4 a5 a6 a7 a8 a9
theorem boE9 {A1 A2 A3 A4 A5 A6 A7 A8 A9 ρ : Type} {x : Option (A1 × A2 × A3 × A4 × A5 × A6 × A7 × A8 × A9)} {k : A1 → A2 → A3 → A4 → A5 → A6 → A7 → A8 → A9 → Option ρ} {o : ρ} (h : bo9 x k = some o) : ∃ (a1 : A1) (a2 : A2) (a3 : A3) (a4 : A4) (a5 : A5) (a6 : A6) (a7 : A7) (a8 : A8) (a9 : A9), x = some (a1, a2, a3, a4, a5, a6, a7, a8, a9) ∧ k a1 a2 a3 a4 a5 a6 a7 a8 a9 = some o := by
  match x, h with
  | none, h => exact absurd h (by simp [bo9])
  | some (a1, a2, a3, a4, a5, a6, a7, a8, a9), h => exact ⟨a1, a2, a3, a4, a5, a6, a7, a8, a9, rfl, h⟩
def bo10 {A1 A2 A3 A4 A5 A6 A7 A8 A9 A10 ρ : Type} (x : Option (A1 × A2 × A3 × A4 × A5 × A6 × A7 × A8 × A9 × A10)) (k : A1 → A2 → A3 → A4 → A5 → A6 → A7 → A8 → A9 → A10 → Option ρ) : Option ρ := match x with
  | none => none
  | some (a1, a2, a3, a4, a5, a6, a7, a8, a9, a10) => k a1 a2 a3 a4 a5 a6 a7 a8 a9 a10
theorem boE10 {A1 A2 A3 A4 A5 A6 A7 A8 A9 A10 ρ : Type} {x : Option (A1 × A2 × A3 × A4 × A5 × A6 × A7 × A8 × A9 × A10)} {k : A1 → A2 → A3 → A4 → A5 → A6 → A7 → A8 → A9 → A10 → Option ρ} {o : ρ} (h : bo10 x k = some o) : ∃ (a1 : A1) (a2 : A2) (a3 : A3) (a4 : A4) (a5 : A5) (a6 : A6) (a7 : A7) (a8 : A8) (a9 : A9) (a10 : A10), x = some (a1, a2, a3, a4, a5, a6, a7, a8, a9, a10) ∧ k a1 a2 a3 a4 a5 a6 a7 a8 a9 a10 = some o := by
  match x, h with
  | none, h => exact absurd h (by simp [bo10])
  | some (a1, a2, a3, a4, a5, a6, a7, a8, a9, a10), h => exact ⟨a1, a2, a3, a4, a5, a6, a7, a8, a9, a10, rfl, h⟩
def bo11 {A1 A2 A3 A4 A5 A6 A7 A8 A9 A10 A11 ρ : Type} (x : Option (A1 × A2 × A3 × A4 × A5 × A6 × A7 × A8 × A9 × A10 × A11)) (k : A1 → A2 → A3 → A4 → A5 → A6 → A7 → A8 → A9 → A10 → A11 → Option ρ) : Option ρ := match x with
  | none => none
  | some (a1, a2, a3, a4, a5, a6, a7, a8, a9, a10, a11) => k a1 a2 a3 a4 a5 a6 a7 a8 a9 a10 a11
theorem boE11 {A1 A2 A3 A4 A5 A6 A7 A8 A9 A10 A11 ρ : Type} {x : Option (A1 × A2 × A3 × A4 × A5 × A6 × A7 × A8 × A9 × A10 × A11)} {k : A1 → A2 → A3 → A4 → A5 → A6 → A7 → A8 → A9 → A10 → A11 → Option ρ} {o : ρ} (h : bo11 x k = some o) : ∃ (a1 : A1) (a2 : A2) (a3 : A3) (a4 : A4) (a5 : A5) (a6 : A6) (a7 : A7) (a8 : A8) (a9 : A9) (a10 : A10) (a11 : A11), x = some (a1, a2, a3, a4, a5, a6, a7, a8, a9, a10, a11) ∧ k a1 a2 a3 a4 a5 a6 a7 a8 a9 a10 a11 = some o := by
  match x, h with
  | none, h => exact absurd h (by simp [bo11])
  | some (a1, a2, a3, a4, a5, a6, a7, a8, a9, a10, a11), h => exact ⟨a1, a2, a3, a4, a5, a6, a7, a8, a9, a10, a11, rfl, h⟩
def bo12 {A1 A2 A3 A4 A5 A6 A7 A8 A9 A10 A11 A12 ρ : Type} (x : Option (A1 × A2 × A3 × A4 × A5 × A6 × A7 × A8 × A9 × A10 × A11 × A12)) (k : A1 → A2 → A3 → A4 → A5 → A6 → A7 → A8 → A9 → A10 → A11 → A12 → Option ρ) : Option ρ := match x with
  | none => none
  | some (a1, a2, a3, a4, a5, a6, a7, a8, a9, a10, a11, a12) => k a1 a2 a3 a4 a5 a6 a7 a8 a9 a10 a11 a12
theorem boE12 {A1 A2 A3 A4 A5 A6 A7 A8 A9 A10 A11 A12 ρ : Type} {x : Option (A1 × A2 × A3 × A4 × A5 × A6 × A7 × A8 × A9 × A10 × A11 × A12)} {k : A1 → A2 → A3 → A4 → A5 → A6 → A7 → A8 → A9 → A10 → A11 → A12 → Option ρ} {o : ρ} (h : bo12 x k = some o) : ∃ (a1 : A1) (a2 : A2) (a3 : A3) (a4 : A4) (a5 : A5) (a6 : A6) (a7 : A7) (a8 : A8) (a9 : A9) (a10 : A10) (a11 : A11) (a12 : A12), x = some (a1, a2, a3, a4, a5, a6, a7, a8, a9, a10, a11, a12) ∧ k a1 a2 a3 a4 a5 a6 a7 a8 a9 a10 a11 a12 = some o := by
  match x, h with
  | none, h => exact absurd h (by simp [bo12])
  | some (a1, a2, a3, a4, a5, a6, a7, a8, a9, a10, a11, a12), h => exact ⟨a1, a2, a3, a4, a5, a6, a7, a8, a9, a10, a11, a12, rfl, h⟩
def bo13 {A1 A2 A3 A4 A5 A6 A7 A8 A9 A10 A11 A12 A13 ρ : Type} (x : Option (A1 × A2 × A3 × A4 × A5 × A6 × A7 × A8 × A9 × A10 × A11 × A12 × A13)) (k : A1 → A2 → A3 → A4 → A5 → A6 → A7 → A8 → A9 → A10 → A11 → A12 → A13 → Option ρ) : Option ρ := match x with
  | none => none
  | some (a1, a2, a3, a4, a5, a6, a7, a8, a9, a10, a11, a12, a13) => k a1 a2 a3 a4 a5 a6 a7 a8 a9 a10 a11 a12 a13
theorem boE13 {A1 A2 A3 A4 A5 A6 A7 A8 A9 A10 A11 A12 A13 ρ : Type} {x : Option (A1 × A2 × A3 × A4 × A5 × A6 × A7 × A8 × A9 × A10 × A11 × A12 × A13)} {k : A1 → A2 → A3 → A4 → A5 → A6 → A7 → A8 → A9 → A10 → A11 → A12 → A13 → Option ρ} {o : ρ} (h : bo13 x k = some o) : ∃ (a1 : A1) (a2 : A2) (a3 : A3) (a4 : A4) (a5 : A5) (a6 : A6) (a7 : A7) (a8 : A8) (a9 : A9) (a10 : A10) (a11 : A11) (a12 : A12) (a13 : A13), x = some (a1, a2, a3, a4, a5, a6, a7, a8, a9, a10, a11, a12, a13) ∧ k a1 a2 a3 a4 a5 a6 a7 a8 a9 a10 a11 a12 a13 = some o := by
  match x, h with
  | none, h => exact absurd h (by simp [bo13])
  | some (a1, a2, a3, a4, a5, a6, a7, a8, a9, a10, a11, a12, a13), h => exact ⟨a1, a2, a3, a4, a5, a6, a7, a8, a9, a10, a11, a12, a13, rfl, h⟩
def bo14 {A1 A2 A3 A4 A5 A6 A7 A8 A9 A10 A11 A12 A13 A14 ρ : Type} (x : Option (A1 × A2 × A3 × A4 × A5 × A6 × A7 × A8 × A9 × A10 × A11 × A12 × A13 × A14)) (k : A1 → A2 → A3 → A4 → A5 → A6 → A7 → A8 → A9 → A10 → A11 → A12 → A13 → A14 → Option ρ) : Option ρ := match x with
  | none => none
  | some (a1, a2, a3, a4, a5, a6, a7, a8, a9, a10, a11, a12, a13, a14) => k a1 a2 a3 a4 a5 a6 a7 a8 a9 a10 a11 a12 a13 a14
theorem boE14 {A1 A2 A3 A4 A5 A6 A7 A8 A9 A10 A11 A12 A13 A14 ρ : Type} {x : Option (A1 × A2 × A3 × A4 × A5 × A6 × A7 × A8 × A9 × A10 × A11 × A12 × A13 × A14)} {k : A1 → A2 → A3 → A4 → A5 → A6 → A7 → A8 → A9 → A10 → A11 → A12 → A13 → A14 → Option ρ} {o : ρ} (h : bo14 x k = some o) : ∃ (a1 : A1) (a2 : A2) (a3 : A3) (a4 : A4) (a5 : A5) (a6 : A6) (a7 : A7) (a8 : A8) (a9 : A9) (a10 : A10) (a11 : A11) (a12 : A12) (a13 : A13) (a14 : A14), x = some (a1, a2, a3, a4, a5, a6, a7, a8, a9, a10, a11, a12, a13, a14) ∧ k a1 a2 a3 a4 a5 a6 a7 a8 a9 a10 a11 a12 a13 a14 = some o := by
  match x, h with
  | none, h => exact absurd h (by simp [bo14])
  | some (a1, a2, a3, a4, a5, a6, a7, a8, a9, a10, a11, a12, a13, a14), h => exact ⟨a1, a2, a3, a4, a5, a6, a7, a8, a9, a10, a11, a12, a13, a14, rfl, h⟩
def bo15 {A1 A2 A3 A4 A5 A6 A7 A8 A9 A10 A11 A12 A13 A14 A15 ρ : Type} (x : Option (A1 × A2 × A3 × A4 × A5 × A6 × A7 × A8 × A9 × A10 × A11 × A12 × A13 × A14 × A15)) (k : A1 → A2 → A3 → A4 → A5 → A6 → A7 → A8 → A9 → A10 → A11 → A12 → A13 → A14 → A15 → Option ρ) : Option ρ := match x with
  | none => none
  | some (a1, a2, a3, a4, a5, a6, a7, a8, a9, a10, a11, a12, a13, a14, a15) => k a1 a2 a3 a4 a5 a6 a7 a8 a9 a10 a11 a12 a13 a14 a15
theorem boE15 {A1 A2 A3 A4 A5 A6 A7 A8 A9 A10 A11 A12 A13 A14 A15 ρ : Type} {x : Option (A1 × A2 × A3 × A4 × A5 × A6 × A7 × A8 × A9 × A10 × A11 × A12 × A13 × A14 × A15)} {k : A1 → A2 → A3 → A4 → A5 → A6 → A7 → A8 → A9 → A10 → A11 → A12 → A13 → A14 → A15 → Option ρ} {o : ρ} (h : bo15 x k = some o) : ∃ (a1 : A1) (a2 : A2) (a3 : A3) (a4 : A4) (a5 : A5) (a6 : A6) (a7 : A7) (a8 : A8) (a9 : A9) (a10 : A10) (a11 : A11) (a12 : A12) (a13 : A13) (a14 : A14) (a15 : A15), x = some (a1, a2, a3, a4, a5, a6, a7, a8, a9, a10, a11, a12, a13, a14, a15) ∧ k a1 a2 a3 a4 a5 a6 a7 a8 a9 a10 a11 a12 a13 a14 a15 = some o := by
  match x, h with
  | none, h => exact absurd h (by simp [bo15])
  | some (a1, a2, a3, a4, a5, a6, a7, a8, a9, a10, a11, a12, a13, a14, a15), h => exact ⟨a1, a2, a3, a4, a5, a6, a7, a8, a9, a10, a11, a12, a13, a14, a15, rfl, h⟩
def bo0 {ρ : Type} (x : Option Unit) (k : Option ρ) : Option ρ := match x with
  | none => none
  | some _ => k
theorem boE0 {ρ : Type} {x : Option Unit} {k : Option ρ} {o : ρ} (h : bo0 x k = some o) : x = some () ∧ k = some o := by
  match x, h with
  | none, h => exact absurd h (by simp [bo0])
  | some (), h => exact ⟨rfl, h⟩
/-! ===== loops and joins, walked ===== -/
section XW
variable {p : Program} {l : Launch} {e : Env} {R : Room} {s : State} {m : MethodId} {args : Array Value} {below : List Frame} {meth : Method} {c : Code} {cells slots : Nat} {Q : State → Prop}
theorem wlr0 {ρ : Type} {H : Heap} {locs : List Loc} {F : (Option ρ) → Option ρ} {out : ρ} (pc : Nat) (st : List Value) (I : Array Slot → Prop) (step : ∀ (ag : Option ρ), (∀ (ls : Array Slot), I ls → ag = some out → W p l e R s m args below meth c H locs cells slots Q (F0 m pc ls (st))) → ∀ (ls : Array Slot), I ls → F ag = some out → W p l e R s m args below meth c H locs cells slots Q (F0 m pc ls (st))) :
    ∀ (n : Nat) (ls : Array Slot), I ls → lo0 F n = some out → W p l e R s m args below meth c H locs cells slots Q (F0 m pc ls (st)) := by
  intro n
  induction n with
  | zero => intro ls _ h; exact absurd h (by simp [lo0])
  | succ n ih => intro ls hI h; exact step (lo0 F n) ih ls hI h
theorem wlw0 {ρ : Type} {F : (Option ρ) → Option ρ} {out : ρ} (pc : Nat) (st : List Value) (I : Heap → List Loc → Array Slot → Prop) (step : ∀ (ag : Option ρ), (∀ (H : Heap) (locs : List Loc) (ls : Array Slot), I H locs ls → ag = some out → W p l e R s m args below meth c H locs cells slots Q (F0 m pc ls (st))) → ∀ (H : Heap) (locs : List Loc) (ls : Array Slot), I H locs ls → F ag = some out → W p l e R s m args below meth c H locs cells slots Q (F0 m pc ls (st))) :
    ∀ (n : Nat) (H : Heap) (locs : List Loc) (ls : Array Slot), I H locs ls → lo0 F n = some out → W p l e R s m args below meth c H locs cells slots Q (F0 m pc ls (st)) := by
  intro n
  induction n with
  | zero => intro H locs ls _ h; exact absurd h (by simp [lo0])
  | succ n ih => intro H locs ls hI h; exact step (lo0 F n) ih H locs ls hI h
theorem jwr0 {ρ : Type} {H : Heap} {locs : List Loc} {K : Option ρ} {B : (Option ρ) → Option ρ} {out : ρ} {g : JFrame} (pc : Nat) (st : List Value) (I : Array Slot → Prop) (hf : jo0 K B = some out) (body : ∀ (ls : Array Slot), I ls → K = some out → W p l e R s m args below meth c H locs cells slots Q (F0 m pc ls (st))) (main : ∀ k : Option ρ, (∀ (ls : Array Slot), I ls → k = some out → W p l e R s m args below meth c H locs cells slots Q (F0 m pc ls (st))) → B k = some out → W p l e R s m args below meth c H locs cells slots Q g) : W p l e R s m args below meth c H locs cells slots Q g := main K body hf
theorem jww0 {ρ : Type} {H0 : Heap} {locs0 : List Loc} {K : Option ρ} {B : (Option ρ) → Option ρ} {out : ρ} {g : JFrame} (pc : Nat) (st : List Value) (I : Heap → List Loc → Array Slot → Prop) (hf : jo0 K B = some out) (body : ∀ (H : Heap) (locs : List Loc) (ls : Array Slot), I H locs ls → K = some out → W p l e R s m args below meth c H locs cells slots Q (F0 m pc ls (st))) (main : ∀ k : Option ρ, (∀ (H : Heap) (locs : List Loc) (ls : Array Slot), I H locs ls → k = some out → W p l e R s m args below meth c H locs cells slots Q (F0 m pc ls (st))) → B k = some out → W p l e R s m args below meth c H0 locs0 cells slots Q g) : W p l e R s m args below meth c H0 locs0 cells slots Q g := main K body hf
theorem wlr1 {A1 ρ : Type} {H : Heap} {locs : List Loc} {F : (A1 → Option ρ) → A1 → Option ρ} {out : ρ} (pc : Nat) (st : A1 → List Value) (I : A1 → Array Slot → Prop) (step : ∀ (ag : A1 → Option ρ), (∀ (a1 : A1) (ls : Array Slot), I a1 ls → ag a1 = some out → W p l e R s m args below meth c H locs cells slots Q (F0 m pc ls (st a1))) → ∀ (a1 : A1) (ls : Array Slot), I a1 ls → F ag a1 = some out → W p l e R s m args below meth c H locs cells slots Q (F0 m pc ls (st a1))) :
    ∀ (n : Nat) (a1 : A1) (ls : Array Slot), I a1 ls → lo1 F n a1 = some out → W p l e R s m args below meth c H locs cells slots Q (F0 m pc ls (st a1)) := by
  intro n
  induction n with
  | zero => intro a1 ls _ h; exact absurd h (by simp [lo1])
  | succ n ih => intro a1 ls hI h; exact step (lo1 F n) ih a1 ls hI h
theorem wlw1 {A1 ρ : Type} {F : (A1 → Option ρ) → A1 → Option ρ} {out : ρ} (pc : Nat) (st : A1 → List Value) (I : A1 → Heap → List Loc → Array Slot → Prop) (step : ∀ (ag : A1 → Option ρ), (∀ (a1 : A1) (H : Heap) (locs : List Loc) (ls : Array Slot), I a1 H locs ls → ag a1 = some out → W p l e R s m args below meth c H locs cells slots Q (F0 m pc ls (st a1))) → ∀ (a1 : A1) (H : Heap) (locs : List Loc) (ls : Array Slot), I a1 H locs ls → F ag a1 = some out → W p l e R s m args below meth c H locs cells slots Q (F0 m pc ls (st a1))) :
    ∀ (n : Nat) (a1 : A1) (H : Heap) (locs : List Loc) (ls : Array Slot), I a1 H locs ls → lo1 F n a1 = some out → W p l e R s m args below meth c H locs cells slots Q (F0 m pc ls (st a1)) := by
  intro n
  induction n with
  | zero => intro a1 H locs ls _ h; exact absurd h (by simp [lo1])
  | succ n ih => intro a1 H locs ls hI h; exact step (lo1 F n) ih a1 H locs ls hI h
theorem jwr1 {A1 ρ : Type} {H : Heap} {locs : List Loc} {K : A1 → Option ρ} {B : (A1 → Option ρ) → Option ρ} {out : ρ} {g : JFrame} (pc : Nat) (st : A1 → List Value) (I : A1 → Array Slot → Prop) (hf : jo1 K B = some out) (body : ∀ (a1 : A1) (ls : Array Slot), I a1 ls → K a1 = some out → W p l e R s m args below meth c H locs cells slots Q (F0 m pc ls (st a1))) (main : ∀ k : A1 → Option ρ, (∀ (a1 : A1) (ls : Array Slot), I a1 ls → k a1 = some out → W p l e R s m args below meth c H locs cells slots Q (F0 m pc ls (st a1))) → B k = some out → W p l e R s m args below meth c H locs cells slots Q g) : W p l e R s m args below meth c H locs cells slots Q g := main K body hf
theorem jww1 {A1 ρ : Type} {H0 : Heap} {locs0 : List Loc} {K : A1 → Option ρ} {B : (A1 → Option ρ) → Option ρ} {out : ρ} {g : JFrame} (pc : Nat) (st : A1 → List Value) (I : A1 → Heap → List Loc → Array Slot → Prop) (hf : jo1 K B = some out) (body : ∀ (a1 : A1) (H : Heap) (locs : List Loc) (ls : Array Slot), I a1 H locs ls → K a1 = some out → W p l e R s m args below meth c H locs cells slots Q (F0 m pc ls (st a1))) (main : ∀ k : A1 → Option ρ, (∀ (a1 : A1) (H : Heap) (locs : List Loc) (ls : Array Slot), I a1 H locs ls → k a1 = some out → W p l e R s m args below meth c H locs cells slots Q (F0 m pc ls (st a1))) → B k = some out → W p l e R s m args below meth c H0 locs0 cells slots Q g) : W p l e R s m args below meth c H0 locs0 cells slots Q g := main K body hf
theorem wlr2 {A1 A2 ρ : Type} {H : Heap} {locs : List Loc} {F : (A1 → A2 → Option ρ) → A1 → A2 → Option ρ} {out : ρ} (pc : Nat) (st : A1 → A2 → List Value) (I : A1 → A2 → Array Slot → Prop) (step : ∀ (ag : A1 → A2 → Option ρ), (∀ (a1 : A1) (a2 : A2) (ls : Array Slot), I a1 a2 ls → ag a1 a2 = some out → W p l e R s m args below meth c H locs cells slots Q (F0 m pc ls (st a1 a2))) → ∀ (a1 : A1) (a2 : A2) (ls : Array Slot), I a1 a2 ls → F ag a1 a2 = some out → W p l e R s m args below meth c H locs cells slots Q (F0 m pc ls (st a1 a2))) :
    ∀ (n : Nat) (a1 : A1) (a2 : A2) (ls : Array Slot), I a1 a2 ls → lo2 F n a1 a2 = some out → W p l e R s m args below meth c H locs cells slots Q (F0 m pc ls (st a1 a2)) := by
  intro n
  induction n with
  | zero => intro a1 a2 ls _ h; exact absurd h (by simp [lo2])
  | succ n ih => intro a1 a2 ls hI h; exact step (lo2 F n) ih a1 a2 ls hI h
theorem wlw2 {A1 A2 ρ : Type} {F : (A1 → A2 → Option ρ) → A1 → A2 → Option ρ} {out : ρ} (pc : Nat) (st : A1 → A2 → List Value) (I : A1 → A2 → Heap → List Loc → Array Slot → Prop) (step : ∀ (ag : A1 → A2 → Option ρ), (∀ (a1 : A1) (a2 : A2) (H : Heap) (locs : List Loc) (ls : Array Slot), I a1 a2 H locs ls → ag a1 a2 = some out → W p l e R s m args below meth c H locs cells slots Q (F0 m pc ls (st a1 a2))) → ∀ (a1 : A1) (a2 : A2) (H : Heap) (locs : List Loc) (ls : Array Slot), I a1 a2 H locs ls → F ag a1 a2 = some out → W p l e R s m args below meth c H locs cells slots Q (F0 m pc ls (st a1 a2))) :
    ∀ (n : Nat) (a1 : A1) (a2 : A2) (H : Heap) (locs : List Loc) (ls : Array Slot), I a1 a2 H locs ls → lo2 F n a1 a2 = some out → W p l e R s m args below meth c H locs cells slots Q (F0 m pc ls (st a1 a2)) := by
  intro n
  induction n with
  | zero => intro a1 a2 H locs ls _ h; exact absurd h (by simp [lo2])
  | succ n ih => intro a1 a2 H locs ls hI h; exact step (lo2 F n) ih a1 a2 H locs ls hI h
theorem jwr2 {A1 A2 ρ : Type} {H : Heap} {locs : List Loc} {K : A1 → A2 → Option ρ} {B : (A1 → A2 → Option ρ) → Option ρ} {out : ρ} {g : JFrame} (pc : Nat) (st : A1 → A2 → List Value) (I : A1 → A2 → Array Slot → Prop) (hf : jo2 K B = some out) (body : ∀ (a1 : A1) (a2 : A2) (ls : Array Slot), I a1 a2 ls → K a1 a2 = some out → W p l e R s m args below meth c H locs cells slots Q (F0 m pc ls (st a1 a2))) (main : ∀ k : A1 → A2 → Option ρ, (∀ (a1 : A1) (a2 : A2) (ls : Array Slot), I a1 a2 ls → k a1 a2 = some out → W p l e R s m args below meth c H locs cells slots Q (F0 m pc ls (st a1 a2))) → B k = some out → W p l e R s m args below meth c H locs cells slots Q g) : W p l e R s m args below meth c H locs cells slots Q g := main K body hf
theorem jww2 {A1 A2 ρ : Type} {H0 : Heap} {locs0 : List Loc} {K : A1 → A2 → Option ρ} {B : (A1 → A2 → Option ρ) → Option ρ} {out : ρ} {g : JFrame} (pc : Nat) (st : A1 → A2 → List Value) (I : A1 → A2 → Heap → List Loc → Array Slot → Prop) (hf : jo2 K B = some out) (body : ∀ (a1 : A1) (a2 : A2) (H : Heap) (locs : List Loc) (ls : Array Slot), I a1 a2 H locs ls → K a1 a2 = some out → W p l e R s m args below meth c H locs cells slots Q (F0 m pc ls (st a1 a2))) (main : ∀ k : A1 → A2 → Option ρ, (∀ (a1 : A1) (a2 : A2) (H : Heap) (locs : List Loc) (ls : Array Slot), I a1 a2 H locs ls → k a1 a2 = some out → W p l e R s m args below meth c H locs cells slots Q (F0 m pc ls (st a1 a2))) → B k = some out → W p l e R s m args below meth c H0 locs0 cells slots Q g) : W p l e R s m args below meth c H0 locs0 cells slots Q g := main K body hf
theorem wlr3 {A1 A2 A3 ρ : Type} {H : Heap} {locs : List Loc} {F : (A1 → A2 → A3 → Option ρ) → A1 → A2 → A3 → Option ρ} {out : ρ} (pc : Nat) (st : A1 → A2 → A3 → List Value) (I : A1 → A2 → A3 → Array Slot → Prop) (step : ∀ (ag : A1 → A2 → A3 → Option ρ), (∀ (a1 : A1) (a2 : A2) (a3 : A3) (ls : Array Slot), I a1 a2 a3 ls → ag a1 a2 a3 = some out → W p l e R s m args below meth c H locs cells slots Q (F0 m pc ls (st a1 a2 a3))) → ∀ (a1 : A1) (a2 : A2) (a3 : A3) (ls : Array Slot), I a1 a2 a3 ls → F ag a1 a2 a3 = some out → W p l e R s m args below meth c H locs cells slots Q (F0 m pc ls (st a1 a2 a3))) :
    ∀ (n : Nat) (a1 : A1) (a2 : A2) (a3 : A3) (ls : Array Slot), I a1 a2 a3 ls → lo3 F n a1 a2 a3 = some out → W p l e R s m args below meth c H locs cells slots Q (F0 m pc ls (st a1 a2 a3)) := by
  intro n
  induction n with
  | zero => intro a1 a2 a3 ls _ h; exact absurd h (by simp [lo3])
  | succ n ih => intro a1 a2 a3 ls hI h; exact step (lo3 F n) ih a1 a2 a3 ls hI h
theorem wlw3 {A1 A2 A3 ρ : Type} {F : (A1 → A2 → A3 → Option ρ) → A1 → A2 → A3 → Option ρ} {out : ρ} (pc : Nat) (st : A1 → A2 → A3 → List Value) (I : A1 → A2 → A3 → Heap → List Loc → Array Slot → Prop) (step : ∀ (ag : A1 → A2 → A3 → Option ρ), (∀ (a1 : A1) (a2 : A2) (a3 : A3) (H : Heap) (locs : List Loc) (ls : Array Slot), I a1 a2 a3 H locs ls → ag a1 a2 a3 = some out → W p l e R s m args below meth c H locs cells slots Q (F0 m pc ls (st a1 a2 a3))) → ∀ (a1 : A1) (a2 : A2) (a3 : A3) (H : Heap) (locs : List Loc) (ls : Array Slot), I a1 a2 a3 H locs ls → F ag a1 a2 a3 = some out → W p l e R s m args below meth c H locs cells slots Q (F0 m pc ls (st a1 a2 a3))) :
    ∀ (n : Nat) (a1 : A1) (a2 : A2) (a3 : A3) (H : Heap) (locs : List Loc) (ls : Array Slot), I a1 a2 a3 H locs ls → lo3 F n a1 a2 a3 = some out → W p l e R s m args below meth c H locs cells slots Q (F0 m pc ls (st a1 a2 a3)) := by
  intro n
  induction n with
  | zero => intro a1 a2 a3 H locs ls _ h; exact absurd h (by simp [lo3])
  | succ n ih => intro a1 a2 a3 H locs ls hI h; exact step (lo3 F n) ih a1 a2 a3 H locs ls hI h
theorem jwr3 {A1 A2 A3 ρ : Type} {H : Heap} {locs : List Loc} {K : A1 → A2 → A3 → Option ρ} {B : (A1 → A2 → A3 → Option ρ) → Option ρ} {out : ρ} {g : JFrame} (pc : Nat) (st : A1 → A2 → A3 → List Value) (I : A1 → A2 → A3 → Array Slot → Prop) (hf : jo3 K B = some out) (body : ∀ (a1 : A1) (a2 : A2) (a3 : A3) (ls : Array Slot), I a1 a2 a3 ls → K a1 a2 a3 = some out → W p l e R s m args below meth c H locs cells slots Q (F0 m pc ls (st a1 a2 a3))) (main : ∀ k : A1 → A2 → A3 → Option ρ, (∀ (a1 : A1) (a2 : A2) (a3 : A3) (ls : Array Slot), I a1 a2 a3 ls → k a1 a2 a3 = some out → W p l e R s m args below meth c H locs cells slots Q (F0 m pc ls (st a1 a2 a3))) → B k = some out → W p l e R s m args below meth c H locs cells slots Q g) : W p l e R s m args below meth c H locs cells slots Q g := main K body hf
theorem jww3 {A1 A2 A3 ρ : Type} {H0 : Heap} {locs0 : List Loc} {K : A1 → A2 → A3 → Option ρ} {B : (A1 → A2 → A3 → Option ρ) → Option ρ} {out : ρ} {g : JFrame} (pc : Nat) (st : A1 → A2 → A3 → List Value) (I : A1 → A2 → A3 → Heap → List Loc → Array Slot → Prop) (hf : jo3 K B = some out) (body : ∀ (a1 : A1) (a2 : A2) (a3 : A3) (H : Heap) (locs : List Loc) (ls : Array Slot), I a1 a2 a3 H locs ls → K a1 a2 a3 = some out → W p l e R s m args below meth c H locs cells slots Q (F0 m pc ls (st a1 a2 a3))) (main : ∀ k : A1 → A2 → A3 → Option ρ, (∀ (a1 : A1) (a2 : A2) (a3 : A3) (H : Heap) (locs : List Loc) (ls : Array Slot), I a1 a2 a3 H locs ls → k a1 a2 a3 = some out → W p l e R s m args below meth c H locs cells slots Q (F0 m pc ls (st a1 a2 a3))) → B k = some out → W p l e R s m args below meth c H0 locs0 cells slots Q g) : W p l e R s m args below meth c H0 locs0 cells slots Q g := main K body hf
theorem wlr4 {A1 A2 A3 A4 ρ : Type} {H : Heap} {locs : List Loc} {F : (A1 → A2 → A3 → A4 → Option ρ) → A1 → A2 → A3 → A4 → Option ρ} {out : ρ} (pc : Nat) (st : A1 → A2 → A3 → A4 → List Value) (I : A1 → A2 → A3 → A4 → Array Slot → Prop) (step : ∀ (ag : A1 → A2 → A3 → A4 → Option ρ), (∀ (a1 : A1) (a2 : A2) (a3 : A3) (a4 : A4) (ls : Array Slot), I a1 a2 a3 a4 ls → ag a1 a2 a3 a4 = some out → W p l e R s m args below meth c H locs cells slots Q (F0 m pc ls (st a1 a2 a3 a4))) → ∀ (a1 : A1) (a2 : A2) (a3 : A3) (a4 : A4) (ls : Array Slot), I a1 a2 a3 a4 ls → F ag a1 a2 a3 a4 = some out → W p l e R s m args below meth c H locs cells slots Q (F0 m pc ls (st a1 a2 a3 a4))) :
    ∀ (n : Nat) (a1 : A1) (a2 : A2) (a3 : A3) (a4 : A4) (ls : Array Slot), I a1 a2 a3 a4 ls → lo4 F n a1 a2 a3 a4 = some out → W p l e R s m args below meth c H locs cells slots Q (F0 m pc ls (st a1 a2 a3 a4)) := by
  intro n
  induction n with
  | zero => intro a1 a2 a3 a4 ls _ h; exact absurd h (by simp [lo4])
  | succ n ih => intro a1 a2 a3 a4 ls hI h; exact step (lo4 F n) ih a1 a2 a3 a4 ls hI h
theorem wlw4 {A1 A2 A3 A4 ρ : Type} {F : (A1 → A2 → A3 → A4 → Option ρ) → A1 → A2 → A3 → A4 → Option ρ} {out : ρ} (pc : Nat) (st : A1 → A2 → A3 → A4 → List Value) (I : A1 → A2 → A3 → A4 → Heap → List Loc → Array Slot → Prop) (step : ∀ (ag : A1 → A2 → A3 → A4 → Option ρ), (∀ (a1 : A1) (a2 : A2) (a3 : A3) (a4 : A4) (H : Heap) (locs : List Loc) (ls : Array Slot), I a1 a2 a3 a4 H locs ls → ag a1 a2 a3 a4 = some out → W p l e R s m args below meth c H locs cells slots Q (F0 m pc ls (st a1 a2 a3 a4))) → ∀ (a1 : A1) (a2 : A2) (a3 : A3) (a4 : A4) (H : Heap) (locs : List Loc) (ls : Array Slot), I a1 a2 a3 a4 H locs ls → F ag a1 a2 a3 a4 = some out → W p l e R s m args below meth c H locs cells slots Q (F0 m pc ls (st a1 a2 a3 a4))) :
    ∀ (n : Nat) (a1 : A1) (a2 : A2) (a3 : A3) (a4 : A4) (H : Heap) (locs : List Loc) (ls : Array Slot), I a1 a2 a3 a4 H locs ls → lo4 F n a1 a2 a3 a4 = some out → W p l e R s m args below meth c H locs cells slots Q (F0 m pc ls (st a1 a2 a3 a4)) := by
  intro n
  induction n with
  | zero => intro a1 a2 a3 a4 H locs ls _ h; exact absurd h (by simp [lo4])
  | succ n ih => intro a1 a2 a3 a4 H locs ls hI h; exact step (lo4 F n) ih a1 a2 a3 a4 H locs ls hI h
theorem jwr4 {A1 A2 A3 A4 ρ : Type} {H : Heap} {locs : List Loc} {K : A1 → A2 → A3 → A4 → Option ρ} {B : (A1 → A2 → A3 → A4 → Option ρ) → Option ρ} {out : ρ} {g : JFrame} (pc : Nat) (st : A1 → A2 → A3 → A4 → List Value) (I : A1 → A2 → A3 → A4 → Array Slot → Prop) (hf : jo4 K B = some out) (body : ∀ (a1 : A1) (a2 : A2) (a3 : A3) (a4 : A4) (ls : Array Slot), I a1 a2 a3 a4 ls → K a1 a2 a3 a4 = some out → W p l e R s m args below meth c H locs cells slots Q (F0 m pc ls (st a1 a2 a3 a4))) (main : ∀ k : A1 → A2 → A3 → A4 → Option ρ, (∀ (a1 : A1) (a2 : A2) (a3 : A3) (a4 : A4) (ls : Array Slot), I a1 a2 a3 a4 ls → k a1 a2 a3 a4 = some out → W p l e R s m args below meth c H locs cells slots Q (F0 m pc ls (st a1 a2 a3 a4))) → B k = some out → W p l e R s m args below meth c H locs cells slots Q g) : W p l e R s m args below meth c H locs cells slots Q g := main K body hf
theorem jww4 {A1 A2 A3 A4 ρ : Type} {H0 : Heap} {locs0 : List Loc} {K : A1 → A2 → A3 → A4 → Option ρ} {B : (A1 → A2 → A3 → A4 → Option ρ) → Option ρ} {out : ρ} {g : JFrame} (pc : Nat) (st : A1 → A2 → A3 → A4 → List Value) (I : A1 → A2 → A3 → A4 → Heap → List Loc → Array Slot → Prop) (hf : jo4 K B = some out) (body : ∀ (a1 : A1) (a2 : A2) (a3 : A3) (a4 : A4) (H : Heap) (locs : List Loc) (ls : Array Slot), I a1 a2 a3 a4 H locs ls → K a1 a2 a3 a4 = some out → W p l e R s m args below meth c H locs cells slots Q (F0 m pc ls (st a1 a2 a3 a4))) (main : ∀ k : A1 → A2 → A3 → A4 → Option ρ, (∀ (a1 : A1) (a2 : A2) (a3 : A3) (a4 : A4) (H : Heap) (locs : List Loc) (ls : Array Slot), I a1 a2 a3 a4 H locs ls → k a1 a2 a3 a4 = some out → W p l e R s m args below meth c H locs cells slots Q (F0 m pc ls (st a1 a2 a3 a4))) → B k = some out → W p l e R s m args below meth c H0 locs0 cells slots Q g) : W p l e R s m args below meth c H0 locs0 cells slots Q g := main K body hf
theorem wlr5 {A1 A2 A3 A4 A5 ρ : Type} {H : Heap} {locs : List Loc} {F : (A1 → A2 → A3 → A4 → A5 → Option ρ) → A1 → A2 → A3 → A4 → A5 → Option ρ} {out : ρ} (pc : Nat) (st : A1 → A2 → A3 → A4 → A5 → List Value) (I : A1 → A2 → A3 → A4 → A5 → Array Slot → Prop) (step : ∀ (ag : A1 → A2 → A3 → A4 → A5 → Option ρ), (∀ (a1 : A1) (a2 : A2) (a3 : A3) (a4 : A4) (a5 : A5) (ls : Array Slot), I a1 a2 a3 a4 a5 ls → ag a1 a2 a3 a4 a5 = some out → W p l e R s m args below meth c H locs cells slots Q (F0 m pc ls (st a1 a2 a3 a4 a5))) → ∀ (a1 : A1) (a2 : A2) (a3 : A3) (a4 : A4) (a5 : A5) (ls : Array Slot), I a1 a2 a3 a4 a5 ls → F ag a1 a2 a3 a4 a5 = some out → W p l e R s m args below meth c H locs cells slots Q (F0 m pc ls (st a1 a2 a3 a4 a5))) :
    ∀ (n : Nat) (a1 : A1) (a2 : A2) (a3 : A3) (a4 : A4) (a5 : A5) (ls : Array Slot), I a1 a2 a3 a4 a5 ls → lo5 F n a1 a2 a3 a4 a5 = some out → W p l e R s m args below meth c H locs cells slots Q (F0 m pc ls (st a1 a2 a3 a4 a5)) := by
  intro n
  induction n with
  | zero => intro a1 a2 a3 a4 a5 ls _ h; exact absurd h (by simp [lo5])
  | succ n ih => intro a1 a2 a3 a4 a5 ls hI h; exact step (lo5 F n) ih a1 a2 a3 a4 a5 ls hI h
theorem wlw5 {A1 A2 A3 A4 A5 ρ : Type} {F : (A1 → A2 → A3 → A4 → A5 → Option ρ) → A1 → A2 → A3 → A4 → A5 → Option ρ} {out : ρ} (pc : Nat) (st : A1 → A2 → A3 → A4 → A5 → List Value) (I : A1 → A2 → A3 → A4 → A5 → Heap → List Loc → Array Slot → Prop) (step : ∀ (ag : A1 → A2 → A3 → A4 → A5 → Option ρ), (∀ (a1 : A1) (a2 : A2) (a3 : A3) (a4 : A4) (a5 : A5) (H : Heap) (locs : List Loc) (ls : Array Slot), I a1 a2 a3 a4 a5 H locs ls → ag a1 a2 a3 a4 a5 = some out → W p l e R s m args below meth c H locs cells slots Q (F0 m pc ls (st a1 a2 a3 a4 a5))) → ∀ (a1 : A1) (a2 : A2) (a3 : A3) (a4 : A4) (a5 : A5) (H : Heap) (locs : List Loc) (ls : Array Slot), I a1 a2 a3 a4 a5 H locs ls → F ag a1 a2 a3 a4 a5 = some out → W p l e R s m args below meth c H locs cells slots Q (F0 m pc ls (st a1 a2 a3 a4 a5))) :
    ∀ (n : Nat) (a1 : A1) (a2 : A2) (a3 : A3) (a4 : A4) (a5 : A5) (H : Heap) (locs : List Loc) (ls : Array Slot), I a1 a2 a3 a4 a5 H locs ls → lo5 F n a1 a2 a3 a4 a5 = some out → W p l e R s m args below meth c H locs cells slots Q (F0 m pc ls (st a1 a2 a3 a4 a5)) := by
  intro n
  induction n with
  | zero => intro a1 a2 a3 a4 a5 H locs ls _ h; exact absurd h (by simp [lo5])
  | succ n ih => intro a1 a2 a3 a4 a5 H locs ls hI h; exact step (lo5 F n) ih a1 a2 a3 a4 a5 H locs ls hI h
theorem jwr5 {A1 A2 A3 A4 A5 ρ : Type} {H : Heap} {locs : List Loc} {K : A1 → A2 → A3 → A4 → A5 → Option ρ} {B : (A1 → A2 → A3 → A4 → A5 → Option ρ) → Option ρ} {out : ρ} {g : JFrame} (pc : Nat) (st : A1 → A2 → A3 → A4 → A5 → List Value) (I : A1 → A2 → A3 → A4 → A5 → Array Slot → Prop) (hf : jo5 K B = some out) (body : ∀ (a1 : A1) (a2 : A2) (a3 : A3) (a4 : A4) (a5 : A5) (ls : Array Slot), I a1 a2 a3 a4 a5 ls → K a1 a2 a3 a4 a5 = some out → W p l e R s m args below meth c H locs cells slots Q (F0 m pc ls (st a1 a2 a3 a4 a5))) (main : ∀ k : A1 → A2 → A3 → A4 → A5 → Option ρ, (∀ (a1 : A1) (a2 : A2) (a3 : A3) (a4 : A4) (a5 : A5) (ls : Array Slot), I a1 a2 a3 a4 a5 ls → k a1 a2 a3 a4 a5 = some out → W p l e R s m args below meth c H locs cells slots Q (F0 m pc ls (st a1 a2 a3 a4 a5))) → B k = some out → W p l e R s m args below meth c H locs cells slots Q g) : W p l e R s m args below meth c H locs cells slots Q g := main K body hf
theorem jww5 {A1 A2 A3 A4 A5 ρ : Type} {H0 : Heap} {locs0 : List Loc} {K : A1 → A2 → A3 → A4 → A5 → Option ρ} {B : (A1 → A2 → A3 → A4 → A5 → Option ρ) → Option ρ} {out : ρ} {g : JFrame} (pc : Nat) (st : A1 → A2 → A3 → A4 → A5 → List Value) (I : A1 → A2 → A3 → A4 → A5 → Heap → List Loc → Array Slot → Prop) (hf : jo5 K B = some out) (body : ∀ (a1 : A1) (a2 : A2) (a3 : A3) (a4 : A4) (a5 : A5) (H : Heap) (locs : List Loc) (ls : Array Slot), I a1 a2 a3 a4 a5 H locs ls → K a1 a2 a3 a4 a5 = some out → W p l e R s m args below meth c H locs cells slots Q (F0 m pc ls (st a1 a2 a3 a4 a5))) (main : ∀ k : A1 → A2 → A3 → A4 → A5 → Option ρ, (∀ (a1 : A1) (a2 : A2) (a3 : A3) (a4 : A4) (a5 : A5) (H : Heap) (locs : List Loc) (ls : Array Slot), I a1 a2 a3 a4 a5 H locs ls → k a1 a2 a3 a4 a5 = some out → W p l e R s m args below meth c H locs cells slots Q (F0 m pc ls (st a1 a2 a3 a4 a5))) → B k = some out → W p l e R s m args below meth c H0 locs0 cells slots Q g) : W p l e R s m args below meth c H0 locs0 cells slots Q g := main K body hf
theorem wlr6 {A1 A2 A3 A4 A5 A6 ρ : Type} {H : Heap} {locs : List Loc} {F : (A1 → A2 → A3 → A4 → A5 → A6 → Option ρ) → A1 → A2 → A3 → A4 → A5 → A6 → Option ρ} {out : ρ} (pc : Nat) (st : A1 → A2 → A3 → A4 → A5 → A6 → List Value) (I : A1 → A2 → A3 → A4 → A5 → A6 → Array Slot → Prop) (step : ∀ (ag : A1 → A2 → A3 → A4 → A5 → A6 → Option ρ), (∀ (a1 : A1) (a2 : A2) (a3 : A3) (a4 : A4) (a5 : A5) (a6 : A6) (ls : Array Slot), I a1 a2 a3 a4 a5 a6 ls → ag a1 a2 a3 a4 a5 a6 = some out → W p l e R s m args below meth c H locs cells slots Q (F0 m pc ls (st a1 a2 a3 a4 a5 a6))) → ∀ (a1 : A1) (a2 : A2) (a3 : A3) (a4 : A4) (a5 : A5) (a6 : A6) (ls : Array Slot), I a1 a2 a3 a4 a5 a6 ls → F ag a1 a2 a3 a4 a5 a6 = some out → W p l e R s m args below meth c H locs cells slots Q (F0 m pc ls (st a1 a2 a3 a4 a5 a6))) :
    ∀ (n : Nat) (a1 : A1) (a2 : A2) (a3 : A3) (a4 : A4) (a5 : A5) (a6 : A6) (ls : Array Slot), I a1 a2 a3 a4 a5 a6 ls → lo6 F n a1 a2 a3 a4 a5 a6 = some out → W p l e R s m args below meth c H locs cells slots Q (F0 m pc ls (st a1 a2 a3 a4 a5 a6)) := by
  intro n
  induction n with
  | zero => intro a1 a2 a3 a4 a5 a6 ls _ h; exact absurd h (by simp [lo6])
  | succ n ih => intro a1 a2 a3 a4 a5 a6 ls hI h; exact step (lo6 F n) ih a1 a2 a3 a4 a5 a6 ls hI h
theorem wlw6 {A1 A2 A3 A4 A5 A6 ρ : Type} {F : (A1 → A2 → A3 → A4 → A5 → A6 → Option ρ) → A1 → A2 → A3 → A4 → A5 → A6 → Option ρ} {out : ρ} (pc : Nat) (st : A1 → A2 → A3 → A4 → A5 → A6 → List Value) (I : A1 → A2 → A3 → A4 → A5 → A6 → Heap → List Loc → Array Slot → Prop) (step : ∀ (ag : A1 → A2 → A3 → A4 → A5 → A6 → Option ρ), (∀ (a1 : A1) (a2 : A2) (a3 : A3) (a4 : A4) (a5 : A5) (a6 : A6) (H : Heap) (locs : List Loc) (ls : Array Slot), I a1 a2 a3 a4 a5 a6 H locs ls → ag a1 a2 a3 a4 a5 a6 = some out → W p l e R s m args below meth c H locs cells slots Q (F0 m pc ls (st a1 a2 a3 a4 a5 a6))) → ∀ (a1 : A1) (a2 : A2) (a3 : A3) (a4 : A4) (a5 : A5) (a6 : A6) (H : Heap) (locs : List Loc) (ls : Array Slot), I a1 a2 a3 a4 a5 a6 H locs ls → F ag a1 a2 a3 a4 a5 a6 = some out → W p l e R s m args below meth c H locs cells slots Q (F0 m pc ls (st a1 a2 a3 a4 a5 a6))) :
    ∀ (n : Nat) (a1 : A1) (a2 : A2) (a3 : A3) (a4 : A4) (a5 : A5) (a6 : A6) (H : Heap) (locs : List Loc) (ls : Array Slot), I a1 a2 a3 a4 a5 a6 H locs ls → lo6 F n a1 a2 a3 a4 a5 a6 = some out → W p l e R s m args below meth c H locs cells slots Q (F0 m pc ls (st a1 a2 a3 a4 a5 a6)) := by
  intro n
  induction n with
  | zero => intro a1 a2 a3 a4 a5 a6 H locs ls _ h; exact absurd h (by simp [lo6])
  | succ n ih => intro a1 a2 a3 a4 a5 a6 H locs ls hI h; exact step (lo6 F n) ih a1 a2 a3 a4 a5 a6 H locs ls hI h
theorem jwr6 {A1 A2 A3 A4 A5 A6 ρ : Type} {H : Heap} {locs : List Loc} {K : A1 → A2 → A3 → A4 → A5 → A6 → Option ρ} {B : (A1 → A2 → A3 → A4 → A5 → A6 → Option ρ) → Option ρ} {out : ρ} {g : JFrame} (pc : Nat) (st : A1 → A2 → A3 → A4 → A5 → A6 → List Value) (I : A1 → A2 → A3 → A4 → A5 → A6 → Array Slot → Prop) (hf : jo6 K B = some out) (body : ∀ (a1 : A1) (a2 : A2) (a3 : A3) (a4 : A4) (a5 : A5) (a6 : A6) (ls : Array Slot), I a1 a2 a3 a4 a5 a6 ls → K a1 a2 a3 a4 a5 a6 = some out → W p l e R s m args below meth c H locs cells slots Q (F0 m pc ls (st a1 a2 a3 a4 a5 a6))) (main : ∀ k : A1 → A2 → A3 → A4 → A5 → A6 → Option ρ, (∀ (a1 : A1) (a2 : A2) (a3 : A3) (a4 : A4) (a5 : A5) (a6 : A6) (ls : Array Slot), I a1 a2 a3 a4 a5 a6 ls → k a1 a2 a3 a4 a5 a6 = some out → W p l e R s m args below meth c H locs cells slots Q (F0 m pc ls (st a1 a2 a3 a4 a5 a6))) → B k = some out → W p l e R s m args below meth c H locs cells slots Q g) : W p l e R s m args below meth c H locs cells slots Q g := main K body hf
theorem jww6 {A1 A2 A3 A4 A5 A6 ρ : Type} {H0 : Heap} {locs0 : List Loc} {K : A1 → A2 → A3 → A4 → A5 → A6 → Option ρ} {B : (A1 → A2 → A3 → A4 → A5 → A6 → Option ρ) → Option ρ} {out : ρ} {g : JFrame} (pc : Nat) (st : A1 → A2 → A3 → A4 → A5 → A6 → List Value) (I : A1 → A2 → A3 → A4 → A5 → A6 → Heap → List Loc → Array Slot → Prop) (hf : jo6 K B = some out) (body : ∀ (a1 : A1) (a2 : A2) (a3 : A3) (a4 : A4) (a5 : A5) (a6 : A6) (H : Heap) (locs : List Loc) (ls : Array Slot), I a1 a2 a3 a4 a5 a6 H locs ls → K a1 a2 a3 a4 a5 a6 = some out → W p l e R s m args below meth c H locs cells slots Q (F0 m pc ls (st a1 a2 a3 a4 a5 a6))) (main : ∀ k : A1 → A2 → A3 → A4 → A5 → A6 → Option ρ, (∀ (a1 : A1) (a2 : A2) (a3 : A3) (a4 : A4) (a5 : A5) (a6 : A6) (H : Heap) (locs : List Loc) (ls : Array Slot), I a1 a2 a3 a4 a5 a6 H locs ls → k a1 a2 a3 a4 a5 a6 = some out → W p l e R s m args below meth c H locs cells slots Q (F0 m pc ls (st a1 a2 a3 a4 a5 a6))) → B k = some out → W p l e R s m args below meth c H0 locs0 cells slots Q g) : W p l e R s m args below meth c H0 locs0 cells slots Q g := main K body hf
theorem wlr7 {A1 A2 A3 A4 A5 A6 A7 ρ : Type} {H : Heap} {locs : List Loc} {F : (A1 → A2 → A3 → A4 → A5 → A6 → A7 → Option ρ) → A1 → A2 → A3 → A4 → A5 → A6 → A7 → Option ρ} {out : ρ} (pc : Nat) (st : A1 → A2 → A3 → A4 → A5 → A6 → A7 → List Value) (I : A1 → A2 → A3 → A4 → A5 → A6 → A7 → Array Slot → Prop) (step : ∀ (ag : A1 → A2 → A3 → A4 → A5 → A6 → A7 → Option ρ), (∀ (a1 : A1) (a2 : A2) (a3 : A3) (a4 : A4) (a5 : A5) (a6 : A6) (a7 : A7) (ls : Array Slot), I a1 a2 a3 a4 a5 a6 a7 ls → ag a1 a2 a3 a4 a5 a6 a7 = some out → W p l e R s m args below meth c H locs cells slots Q (F0 m pc ls (st a1 a2 a3 a4 a5 a6 a7))) → ∀ (a1 : A1) (a2 : A2) (a3 : A3) (a4 : A4) (a5 : A5) (a6 : A6) (a7 : A7) (ls : Array Slot), I a1 a2 a3 a4 a5 a6 a7 ls → F ag a1 a2 a3 a4 a5 a6 a7 = some out → W p l e R s m args below meth c H locs cells slots Q (F0 m pc ls (st a1 a2 a3 a4 a5 a6 a7))) :
    ∀ (n : Nat) (a1 : A1) (a2 : A2) (a3 : A3) (a4 : A4) (a5 : A5) (a6 : A6) (a7 : A7) (ls : Array Slot), I a1 a2 a3 a4 a5 a6 a7 ls → lo7 F n a1 a2 a3 a4 a5 a6 a7 = some out → W p l e R s m args below meth c H locs cells slots Q (F0 m pc ls (st a1 a2 a3 a4 a5 a6 a7)) := by
  intro n
  induction n with
  | zero => intro a1 a2 a3 a4 a5 a6 a7 ls _ h; exact absurd h (by simp [lo7])
  | succ n ih => intro a1 a2 a3 a4 a5 a6 a7 ls hI h; exact step (lo7 F n) ih a1 a2 a3 a4 a5 a6 a7 ls hI h
theorem wlw7 {A1 A2 A3 A4 A5 A6 A7 ρ : Type} {F : (A1 → A2 → A3 → A4 → A5 → A6 → A7 → Option ρ) → A1 → A2 → A3 → A4 → A5 → A6 → A7 → Option ρ} {out : ρ} (pc : Nat) (st : A1 → A2 → A3 → A4 → A5 → A6 → A7 → List Value) (I : A1 → A2 → A3 → A4 → A5 → A6 → A7 → Heap → List Loc → Array Slot → Prop) (step : ∀ (ag : A1 → A2 → A3 → A4 → A5 → A6 → A7 → Option ρ), (∀ (a1 : A1) (a2 : A2) (a3 : A3) (a4 : A4) (a5 : A5) (a6 : A6) (a7 : A7) (H : Heap) (locs : List Loc) (ls : Array Slot), I a1 a2 a3 a4 a5 a6 a7 H locs ls → ag a1 a2 a3 a4 a5 a6 a7 = some out → W p l e R s m args below meth c H locs cells slots Q (F0 m pc ls (st a1 a2 a3 a4 a5 a6 a7))) → ∀ (a1 : A1) (a2 : A2) (a3 : A3) (a4 : A4) (a5 : A5) (a6 : A6) (a7 : A7) (H : Heap) (locs : List Loc) (ls : Array Slot), I a1 a2 a3 a4 a5 a6 a7 H locs ls → F ag a1 a2 a3 a4 a5 a6 a7 = some out → W p l e R s m args below meth c H locs cells slots Q (F0 m pc ls (st a1 a2 a3 a4 a5 a6 a7))) :
    ∀ (n : Nat) (a1 : A1) (a2 : A2) (a3 : A3) (a4 : A4) (a5 : A5) (a6 : A6) (a7 : A7) (H : Heap) (locs : List Loc) (ls : Array Slot), I a1 a2 a3 a4 a5 a6 a7 H locs ls → lo7 F n a1 a2 a3 a4 a5 a6 a7 = some out → W p l e R s m args below meth c H locs cells slots Q (F0 m pc ls (st a1 a2 a3 a4 a5 a6 a7)) := by
  intro n
  induction n with
  | zero => intro a1 a2 a3 a4 a5 a6 a7 H locs ls _ h; exact absurd h (by simp [lo7])
  | succ n ih => intro a1 a2 a3 a4 a5 a6 a7 H locs ls hI h; exact step (lo7 F n) ih a1 a2 a3 a4 a5 a6 a7 H locs ls hI h
theorem jwr7 {A1 A2 A3 A4 A5 A6 A7 ρ : Type} {H : Heap} {locs : List Loc} {K : A1 → A2 → A3 → A4 → A5 → A6 → A7 → Option ρ} {B : (A1 → A2 → A3 → A4 → A5 → A6 → A7 → Option ρ) → Option ρ} {out : ρ} {g : JFrame} (pc : Nat) (st : A1 → A2 → A3 → A4 → A5 → A6 → A7 → List Value) (I : A1 → A2 → A3 → A4 → A5 → A6 → A7 → Array Slot → Prop) (hf : jo7 K B = some out) (body : ∀ (a1 : A1) (a2 : A2) (a3 : A3) (a4 : A4) (a5 : A5) (a6 : A6) (a7 : A7) (ls : Array Slot), I a1 a2 a3 a4 a5 a6 a7 ls → K a1 a2 a3 a4 a5 a6 a7 = some out → W p l e R s m args below meth c H locs cells slots Q (F0 m pc ls (st a1 a2 a3 a4 a5 a6 a7))) (main : ∀ k : A1 → A2 → A3 → A4 → A5 → A6 → A7 → Option ρ, (∀ (a1 : A1) (a2 : A2) (a3 : A3) (a4 : A4) (a5 : A5) (a6 : A6) (a7 : A7) (ls : Array Slot), I a1 a2 a3 a4 a5 a6 a7 ls → k a1 a2 a3 a4 a5 a6 a7 = some out → W p l e R s m args below meth c H locs cells slots Q (F0 m pc ls (st a1 a2 a3 a4 a5 a6 a7))) → B k = some out → W p l e R s m args below meth c H locs cells slots Q g) : W p l e R s m args below meth c H locs cells slots Q g := main K body hf
theorem jww7 {A1 A2 A3 A4 A5 A6 A7 ρ : Type} {H0 : Heap} {locs0 : List Loc} {K : A1 → A2 → A3 → A4 → A5 → A6 → A7 → Option ρ} {B : (A1 → A2 → A3 → A4 → A5 → A6 → A7 → Option ρ) → Option ρ} {out : ρ} {g : JFrame} (pc : Nat) (st : A1 → A2 → A3 → A4 → A5 → A6 → A7 → List Value) (I : A1 → A2 → A3 → A4 → A5 → A6 → A7 → Heap → List Loc → Array Slot → Prop) (hf : jo7 K B = some out) (body : ∀ (a1 : A1) (a2 : A2) (a3 : A3) (a4 : A4) (a5 : A5) (a6 : A6) (a7 : A7) (H : Heap) (locs : List Loc) (ls : Array Slot), I a1 a2 a3 a4 a5 a6 a7 H locs ls → K a1 a2 a3 a4 a5 a6 a7 = some out → W p l e R s m args below meth c H locs cells slots Q (F0 m pc ls (st a1 a2 a3 a4 a5 a6 a7))) (main : ∀ k : A1 → A2 → A3 → A4 → A5 → A6 → A7 → Option ρ, (∀ (a1 : A1) (a2 : A2) (a3 : A3) (a4 : A4) (a5 : A5) (a6 : A6) (a7 : A7) (H : Heap) (locs : List Loc) (ls : Array Slot), I a1 a2 a3 a4 a5 a6 a7 H locs ls → k a1 a2 a3 a4 a5 a6 a7 = some out → W p l e R s m args below meth c H locs cells slots Q (F0 m pc ls (st a1 a2 a3 a4 a5 a6 a7))) → B k = some out → W p l e R s m args below meth c H0 locs0 cells slots Q g) : W p l e R s m args below meth c H0 locs0 cells slots Q g := main K body hf
theorem wlr8 {A1 A2 A3 A4 A5 A6 A7 A8 ρ : Type} {H : Heap} {locs : List Loc} {F : (A1 → A2 → A3 → A4 → A5 → A6 → A7 → A8 → Option ρ) → A1 → A2 → A3 → A4 → A5 → A6 → A7 → A8 → Option ρ} {out : ρ} (pc : Nat) (st : A1 → A2 → A3 → A4 → A5 → A6 → A7 → A8 → List Value) (I : A1 → A2 → A3 → A4 → A5 → A6 → A7 → A8 → Array Slot → Prop) (step : ∀ (ag : A1 → A2 → A3 → A4 → A5 → A6 → A7 → A8 → Option ρ), (∀ (a1 : A1) (a2 : A2) (a3 : A3) (a4 : A4) (a5 : A5) (a6 : A6) (a7 : A7) (a8 : A8) (ls : Array Slot), I a1 a2 a3 a4 a5 a6 a7 a8 ls → ag a1 a2 a3 a4 a5 a6 a7 a8 = some out → W p l e R s m args below meth c H locs cells slots Q (F0 m pc ls (st a1 a2 a3 a4 a5 a6 a7 a8))) → ∀ (a1 : A1) (a2 : A2) (a3 : A3) (a4 : A4) (a5 : A5) (a6 : A6) (a7 : A7) (a8 : A8) (ls : Array Slot), I a1 a2 a3 a4 a5 a6 a7 a8 ls → F ag a1 a2 a3 a4 a5 a6 a7 a8 = some out → W p l e R s m args below meth c H locs cells slots Q (F0 m pc ls (st a1 a2 a3 a4 a5 a6 a7 a8))) :
    ∀ (n : Nat) (a1 : A1) (a2 : A2) (a3 : A3) (a4 : A4) (a5 : A5) (a6 : A6) (a7 : A7) (a8 : A8) (ls : Array Slot), I a1 a2 a3 a4 a5 a6 a7 a8 ls → lo8 F n a1 a2 a3 a4 a5 a6 a7 a8 = some out → W p l e R s m args below meth c H locs cells slots Q (F0 m pc ls (st a1 a2 a3 a4 a5 a6 a7 a8)) := by
  intro n
  induction n with
  | zero => intro a1 a2 a3 a4 a5 a6 a7 a8 ls _ h; exact absurd h (by simp [lo8])
  | succ n ih => intro a1 a2 a3 a4 a5 a6 a7 a8 ls hI h; exact step (lo8 F n) ih a1 a2 a3 a4 a5 a6 a7 a8 ls hI h
theorem wlw8 {A1 A2 A3 A4 A5 A6 A7 A8 ρ : Type} {F : (A1 → A2 → A3 → A4 → A5 → A6 → A7 → A8 → Option ρ) → A1 → A2 → A3 → A4 → A5 → A6 → A7 → A8 → Option ρ} {out : ρ} (pc : Nat) (st : A1 → A2 → A3 → A4 → A5 → A6 → A7 → A8 → List Value) (I : A1 → A2 → A3 → A4 → A5 → A6 → A7 → A8 → Heap → List Loc → Array Slot → Prop) (step : ∀ (ag : A1 → A2 → A3 → A4 → A5 → A6 → A7 → A8 → Option ρ), (∀ (a1 : A1) (a2 : A2) (a3 : A3) (a4 : A4) (a5 : A5) (a6 : A6) (a7 : A7) (a8 : A8) (H : Heap) (locs : List Loc) (ls : Array Slot), I a1 a2 a3 a4 a5 a6 a7 a8 H locs ls → ag a1 a2 a3 a4 a5 a6 a7 a8 = some out → W p l e R s m args below meth c H locs cells slots Q (F0 m pc ls (st a1 a2 a3 a4 a5 a6 a7 a8))) → ∀ (a1 : A1) (a2 : A2) (a3 : A3) (a4 : A4) (a5 : A5) (a6 : A6) (a7 : A7) (a8 : A8) (H : Heap) (locs : List Loc) (ls : Array Slot), I a1 a2 a3 a4 a5 a6 a7 a8 H locs ls → F ag a1 a2 a3 a4 a5 a6 a7 a8 = some out → W p l e R s m args below meth c H locs cells slots Q (F0 m pc ls (st a1 a2 a3 a4 a5 a6 a7 a8))) :
    ∀ (n : Nat) (a1 : A1) (a2 : A2) (a3 : A3) (a4 : A4) (a5 : A5) (a6 : A6) (a7 : A7) (a8 : A8) (H : Heap) (locs : List Loc) (ls : Array Slot), I a1 a2 a3 a4 a5 a6 a7 a8 H locs ls → lo8 F n a1 a2 a3 a4 a5 a6 a7 a8 = some out → W p l e R s m args below meth c H locs cells slots Q (F0 m pc ls (st a1 a2 a3 a4 a5 a6 a7 a8)) := by
  intro n
  induction n with
  | zero => intro a1 a2 a3 a4 a5 a6 a7 a8 H locs ls _ h; exact absurd h (by simp [lo8])
  | succ n ih => intro a1 a2 a3 a4 a5 a6 a7 a8 H locs ls hI h; exact step (lo8 F n) ih a1 a2 a3 a4 a5 a6 a7 a8 H locs ls hI h
theorem jwr8 {A1 A2 A3 A4 A5 A6 A7 A8 ρ : Type} {H : Heap} {locs : List Loc} {K : A1 → A2 → A3 → A4 → A5 → A6 → A7 → A8 → Option ρ} {B : (A1 → A2 → A3 → A4 → A5 → A6 → A7 → A8 → Option ρ) → Option ρ} {out : ρ} {g : JFrame} (pc : Nat) (st : A1 → A2 → A3 → A4 → A5 → A6 → A7 → A8 → List Value) (I : A1 → A2 → A3 → A4 → A5 → A6 → A7 → A8 → Array Slot → Prop) (hf : jo8 K B = some out) (body : ∀ (a1 : A1) (a2 : A2) (a3 : A3) (a4 : A4) (a5 : A5) (a6 : A6) (a7 : A7) (a8 : A8) (ls : Array Slot), I a1 a2 a3 a4 a5 a6 a7 a8 ls → K a1 a2 a3 a4 a5 a6 a7 a8 = some out → W p l e R s m args below meth c H locs cells slots Q (F0 m pc ls (st a1 a2 a3 a4 a5 a6 a7 a8))) (main : ∀ k : A1 → A2 → A3 → A4 → A5 → A6 → A7 → A8 → Option ρ, (∀ (a1 : A1) (a2 : A2) (a3 : A3) (a4 : A4) (a5 : A5) (a6 : A6) (a7 : A7) (a8 : A8) (ls : Array Slot), I a1 a2 a3 a4 a5 a6 a7 a8 ls → k a1 a2 a3 a4 a5 a6 a7 a8 = some out → W p l e R s m args below meth c H locs cells slots Q (F0 m pc ls (st a1 a2 a3 a4 a5 a6 a7 a8))) → B k = some out → W p l e R s m args below meth c H locs cells slots Q g) : W p l e R s m args below meth c H locs cells slots Q g := main K body hf
theorem jww8 {A1 A2 A3 A4 A5 A6 A7 A8 ρ : Type} {H0 : Heap} {locs0 : List Loc} {K : A1 → A2 → A3 → A4 → A5 → A6 → A7 → A8 → Option ρ} {B : (A1 → A2 → A3 → A4 → A5 → A6 → A7 → A8 → Option ρ) → Option ρ} {out : ρ} {g : JFrame} (pc : Nat) (st : A1 → A2 → A3 → A4 → A5 → A6 → A7 → A8 → List Value) (I : A1 → A2 → A3 → A4 → A5 → A6 → A7 → A8 → Heap → List Loc → Array Slot → Prop) (hf : jo8 K B = some out) (body : ∀ (a1 : A1) (a2 : A2) (a3 : A3) (a4 : A4) (a5 : A5) (a6 : A6) (a7 : A7) (a8 : A8) (H : Heap) (locs : List Loc) (ls : Array Slot), I a1 a2 a3 a4 a5 a6 a7 a8 H locs ls → K a1 a2 a3 a4 a5 a6 a7 a8 = some out → W p l e R s m args below meth c H locs cells slots Q (F0 m pc ls (st a1 a2 a3 a4 a5 a6 a7 a8))) (main : ∀ k : A1 → A2 → A3 → A4 → A5 → A6 → A7 → A8 → Option ρ, (∀ (a1 : A1) (a2 : A2) (a3 : A3) (a4 : A4) (a5 : A5) (a6 : A6) (a7 : A7) (a8 : A8) (H : Heap) (locs : List Loc) (ls : Array Slot), I a1 a2 a3 a4 a5 a6 a7 a8 H locs ls → k a1 a2 a3 a4 a5 a6 a7 a8 = some out → W p l e R s m args below meth c H locs cells slots Q (F0 m pc ls (st a1 a2 a3 a4 a5 a6 a7 a8))) → B k = some out → W p l e R s m args below meth c H0 locs0 cells slots Q g) : W p l e R s m args below meth c H0 locs0 cells slots Q g := main K body hf
theorem wlr9 {A1 A2 A3 A4 A5 A6 A7 A8 A9 ρ : Type} {H : Heap} {locs : List Loc} {F : (A1 → A2 → A3 → A4 → A5 → A6 → A7 → A8 → A9 → Option ρ) → A1 → A2 → A3 → A4 → A5 → A6 → A7 → A8 → A9 → Option ρ} {out : ρ} (pc : Nat) (st : A1 → A2 → A3 → A4 → A5 → A6 → A7 → A8 → A9 → List Value) (I : A1 → A2 → A3 → A4 → A5 → A6 → A7 → A8 → A9 → Array Slot → Prop) (step : ∀ (ag : A1 → A2 → A3 → A4 → A5 → A6 → A7 → A8 → A9 → Option ρ), (∀ (a1 : A1) (a2 : A2) (a3 : A3) (a4 : A4) (a5 : A5) (a6 : A6) (a7 : A7) (a8 : A8) (a9 : A9) (ls : Array Slot), I a1 a2 a3 a4 a5 a6 a7 a8 a9 ls → ag a1 a2 a3 a4 a5 a6 a7 a8 a9 = some out → W p l e R s m args below meth c H locs cells slots Q (F0 m pc ls (st a1 a2 a3 a4 a5 a6 a7 a8 a9))) → ∀ (a1 : A1) (a2 : A2) (a3 : A3) (a4 : A4) (a5 : A5) (a6 : A6) (a7 : A7) (a8 : A8) (a9 : A9) (ls : Array Slot), I a1 a2 a3 a4 a5 a6 a7 a8 a9 ls → F ag a1 a2 a3 a4 a5 a6 a7 a8 a9 = some out → W p l e R s m args below meth c H locs cells slots Q (F0 m pc ls (st a1 a2 a3 a4 a5 a6 a7 a8 a9))) :
    ∀ (n : Nat) (a1 : A1) (a2 : A2) (a3 : A3) (a4 : A4) (a5 : A5) (a6 : A6) (a7 : A7) (a8 : A8) (a9 : A9) (ls : Array Slot), I a1 a2 a3 a4 a5 a6 a7 a8 a9 ls → lo9 F n a1 a2 a3 a4 a5 a6 a7 a8 a9 = some out → W p l e R s m args below meth c H locs cells slots Q (F0 m pc ls (st a1 a2 a3 a4 a5 a6 a7 a8 a9)) := by
  intro n
  induction n with
  | zero => intro a1 a2 a3 a4 a5 a6 a7 a8 a9 ls _ h; exact absurd h (by simp [lo9])
  | succ n ih => intro a1 a2 a3 a4 a5 a6 a7 a8 a9 ls hI h; exact step (lo9 F n) ih a1 a2 a3 a4 a5 a6 a7 a8 a9 ls hI h
theorem wlw9 {A1 A2 A3 A4 A5 A6 A7 A8 A9 ρ : Type} {F : (A1 → A2 → A3 → A4 → A5 → A6 → A7 → A8 → A9 → Option ρ) → A1 → A2 → A3 → A4 → A5 → A6 → A7 → A8 → A9 → Option ρ} {out : ρ} (pc : Nat) (st : A1 → A2 → A3 → A4 → A5 → A6 → A7 → A8 → A9 → List Value) (I : A1 → A2 → A3 → A4 → A5 → A6 → A7 → A8 → A9 → Heap → List Loc → Array Slot → Prop) (step : ∀ (ag : A1 → A2 → A3 → A4 → A5 → A6 → A7 → A8 → A9 → Option ρ), (∀ (a1 : A1) (a2 : A2) (a3 : A3) (a4 : A4) (a5 : A5) (a6 : A6) (a7 : A7) (a8 : A8) (a9 : A9) (H : Heap) (locs : List Loc) (ls : Array Slot), I a1 a2 a3 a4 a5 a6 a7 a8 a9 H locs ls → ag a1 a2 a3 a4 a5 a6 a7 a8 a9 = some out → W p l e R s m args below meth c H locs cells slots Q (F0 m pc ls (st a1 a2 a3 a4 a5 a6 a7 a8 a9))) → ∀ (a1 : A1) (a2 : A2) (a3 : A3) (a4 : A4) (a5 : A5) (a6 : A6) (a7 : A7) (a8 : A8) (a9 : A9) (H : Heap) (locs : List Loc) (ls : Array Slot), I a1 a2 a3 a4 a5 a6 a7 a8 a9 H locs ls → F ag a1 a2 a3 a4 a5 a6 a7 a8 a9 = some out → W p l e R s m args below meth c H locs cells slots Q (F0 m pc ls (st a1 a2 a3 a4 a5 a6 a7 a8 a9))) :
    ∀ (n : Nat) (a1 : A1) (a2 : A2) (a3 : A3) (a4 : A4) (a5 : A5) (a6 : A6) (a7 : A7) (a8 : A8) (a9 : A9) (H : Heap) (locs : List Loc) (ls : Array Slot), I a1 a2 a3 a4 a5 a6 a7 a8 a9 H locs ls → lo9 F n a1 a2 a3 a4 a5 a6 a7 a8 a9 = some out → W p l e R s m args below meth c H locs cells slots Q (F0 m pc ls (st a1 a2 a3 a4 a5 a6 a7 a8 a9)) := by
  intro n
  induction n with
  | zero => intro a1 a2 a3 a4 a5 a6 a7 a8 a9 H locs ls _ h; exact absurd h (by simp [lo9])
  | succ n ih => intro a1 a2 a3 a4 a5 a6 a7 a8 a9 H locs ls hI h; exact step (lo9 F n) ih a1 a2 a3 a4 a5 a6 a7 a8 a9 H locs ls hI h
theorem jwr9 {A1 A2 A3 A4 A5 A6 A7 A8 A9 ρ : Type} {H : Heap} {locs : List Loc} {K : A1 → A2 → A3 → A4 → A5 → A6 → A7 → A8 → A9 → Option ρ} {B : (A1 → A2 → A3 → A4 → A5 → A6 → A7 → A8 → A9 → Option ρ) → Option ρ} {out : ρ} {g : JFrame} (pc : Nat) (st : A1 → A2 → A3 → A4 → A5 → A6 → A7 → A8 → A9 → List Value) (I : A1 → A2 → A3 → A4 → A5 → A6 → A7 → A8 → A9 → Array Slot → Prop) (hf : jo9 K B = some out) (body : ∀ (a1 : A1) (a2 : A2) (a3 : A3) (a4 : A4) (a5 : A5) (a6 : A6) (a7 : A7) (a8 : A8) (a9 : A9) (ls : Array Slot), I a1 a2 a3 a4 a5 a6 a7 a8 a9 ls → K a1 a2 a3 a4 a5 a6 a7 a8 a9 = some out → W p l e R s m args below meth c H locs cells slots Q (F0 m pc ls (st a1 a2 a3 a4 a5 a6 a7 a8 a9))) (main : ∀ k : A1 → A2 → A3 → A4 → A5 → A6 → A7 → A8 → A9 → Option ρ, (∀ (a1 : A1) (a2 : A2) (a3 : A3) (a4 : A4) (a5 : A5) (a6 : A6) (a7 : A7) (a8 : A8) (a9 : A9) (ls : Array Slot), I a1 a2 a3 a4 a5 a6 a7 a8 a9 ls → k a1 a2 a3 a4 a5 a6 a7 a8 a9 = some out → W p l e R s m args below meth c H locs cells slots Q (F0 m pc ls (st a1 a2 a3 a4 a5 a6 a7 a8 a9))) → B k = some out → W p l e R s m args below meth c H locs cells slots Q g) : W p l e R s m args below meth c H locs cells slots Q g := main K body hf
theorem jww9 {A1 A2 A3 A4 A5 A6 A7 A8 A9 ρ : Type} {H0 : Heap} {locs0 : List Loc} {K : A1 → A2 → A3 → A4 → A5 → A6 → A7 → A8 → A9 → Option ρ} {B : (A1 → A2 → A3 → A4 → A5 → A6 → A7 → A8 → A9 → Option ρ) → Option ρ} {out : ρ} {g : JFrame} (pc : Nat) (st : A1 → A2 → A3 → A4 → A5 → A6 → A7 → A8 → A9 → List Value) (I : A1 → A2 → A3 → A4 → A5 → A6 → A7 → A8 → A9 → Heap → List Loc → Array Slot → Prop) (hf : jo9 K B = some out) (body : ∀ (a1 : A1) (a2 : A2) (a3 : A3) (a4 : A4) (a5 : A5) (a6 : A6) (a7 : A7) (a8 : A8) (a9 : A9) (H : Heap) (locs : List Loc) (ls : Array Slot), I a1 a2 a3 a4 a5 a6 a7 a8 a9 H locs ls → K a1 a2 a3 a4 a5 a6 a7 a8 a9 = some out → W p l e R s m args below meth c H locs cells slots Q (F0 m pc ls (st a1 a2 a3 a4 a5 a6 a7 a8 a9))) (main : ∀ k : A1 → A2 → A3 → A4 → A5 → A6 → A7 → A8 → A9 → Option ρ, (∀ (a1 : A1) (a2 : A2) (a3 : A3) (a4 : A4) (a5 : A5) (a6 : A6) (a7 : A7) (a8 : A8) (a9 : A9) (H : Heap) (locs : List Loc) (ls : Array Slot), I a1 a2 a3 a4 a5 a6 a7 a8 a9 H locs ls → k a1 a2 a3 a4 a5 a6 a7 a8 a9 = some out → W p l e R s m args below meth c H locs cells slots Q (F0 m pc ls (st a1 a2 a3 a4 a5 a6 a7 a8 a9))) → B k = some out → W p l e R s m args below meth c H0 locs0 cells slots Q g) : W p l e R s m args below meth c H0 locs0 cells slots Q g := main K body hf
end XW
/-! ===== the classes and array kinds known, the nest's links ===== -/
abbrev xtys (cy : Nat → ClassId) : List (ClassId × FieldType) := [(cy 0, .int), (cy 1, .long), (cy 2, .object "ShowsWhereNobodyIs$Shelf"), (cy 3, .array .int), (cy 4, .array .long)]
def xN (U : State) : Prop := va_Nw (.methodLinkNest RX5 68 yX7_hasBit RX7) U ∧ va_Nw (.methodLinkNest RX1 25 yX7_hasBit RX7) U
def xK (D : va_G) (cy : Nat → ClassId) (U : State) : Prop := va_K D vwCl (xtys cy) U ∧ xN U
theorem xK.warm {D : va_G} {cy : Nat → ClassId} {u U : State} (hW : u.WarmedH U.vm) (h : xK D cy u) : xK D cy U := ⟨va_K.moved hW.alike h.1, va_Nw.warmM hW h.2.1, va_Nw.warmM hW h.2.2⟩
theorem xK.same {D : va_G} {cy : Nat → ClassId} {u U : State} (hv : u.vm = U.vm) (h : xK D cy u) : xK D cy U := ⟨va_K.moved (hv ▸ Vm.Alike.refl u.vm) h.1, va_Nw.same rfl hv h.2.1, va_Nw.same rfl hv h.2.2⟩
theorem xFB {D : va_G} {cy : Nat → ClassId} {ws : va_W} {av : List Value} : FrameBlind (va_Pc av (fun U => va_P D vwCl ws U.heap ∧ xK D cy U)) := fun a U g mk q => by
  obtain ⟨q0, qP, qK⟩ := q
  exact ⟨q0, qP, xK.same (u := U) (U := U.calling g mk a) rfl qK⟩
theorem xFBw {D : va_G} {cy : Nat → ClassId} {ws : va_W} {av : List Value} {sz : Nat} : FrameBlind (va_Pc av (fun U => U.heap.size = sz ∧ va_P D vwCl ws U.heap ∧ xK D cy U ∧ va_D (fun _ => True) ws)) := fun a U g mk q => by
  obtain ⟨q0, q1, qP, qK, qD⟩ := q
  exact ⟨q0, q1, qP, xK.same (u := U) (U := U.calling g mk a) rfl qK, qD⟩
theorem xPS {D : va_G} {cy : Nat → ClassId} {ws : va_W} {av : List Value} {s : State} {H : Heap} (hK : xK D cy s) (hP : va_P D vwCl ws H) : PreS s H (va_Pc av (fun U => va_P D vwCl ws U.heap ∧ xK D cy U)) av := ⟨xFB, fun U hU hW => ⟨rfl, by rw [hU]; exact hP, hK.warm hW⟩⟩
theorem xPSw {D : va_G} {cy : Nat → ClassId} {ws : va_W} {av : List Value} {s : State} {H : Heap} {A : Nat → Prop} (hK : xK D cy s) (hP : va_P D vwCl ws H) (hD : va_D A ws) : PreS s H (va_Pc av (fun U => U.heap.size = H.size ∧ va_P D vwCl ws U.heap ∧ xK D cy U ∧ va_D (fun _ => True) ws)) av := ⟨xFBw, fun U hU hW => ⟨rfl, by rw [hU], by rw [hU]; exact hP, hK.warm hW, hD.weaken (fun _ _ _ _ => trivial)⟩⟩
theorem xPV {D : va_G} {cy : Nat → ClassId} {ws : va_W} {As : List Value} {s : State} {H : Heap} {b ci q0 : Nat} {q : vw_C} {fs : List Value} (hK : xK D cy s) (hP : va_P D vwCl ws H) (hc : vwCl[ci]? = some q) (he : ws[q0]? = some (b, .inr (ci, fs))) : PreV s H q.1 b (va_Pc (.ref b :: As) (fun U => va_P D vwCl ws U.heap ∧ xK D cy U)) As := ⟨xFB, va_recv hK.1 hP hc he, fun U hU hW => ⟨rfl, by rw [hU]; exact hP, hK.warm hW⟩⟩
theorem xPVw {D : va_G} {cy : Nat → ClassId} {ws : va_W} {As : List Value} {s : State} {H : Heap} {A : Nat → Prop} {b ci q0 : Nat} {q : vw_C} {fs : List Value} (hK : xK D cy s) (hP : va_P D vwCl ws H) (hD : va_D A ws) (hc : vwCl[ci]? = some q) (he : ws[q0]? = some (b, .inr (ci, fs))) : PreV s H q.1 b (va_Pc (.ref b :: As) (fun U => U.heap.size = H.size ∧ va_P D vwCl ws U.heap ∧ xK D cy U ∧ va_D (fun _ => True) ws)) As := ⟨xFBw, va_recv hK.1 hP hc he, fun U hU hW => ⟨rfl, by rw [hU], by rw [hU]; exact hP, hK.warm hW, hD.weaken (fun _ _ _ _ => trivial)⟩⟩
section XC
variable {p : Program} {l : Launch} {e : Env} {R : Room} {s : State} {m : MethodId} {args : Array Value} {below : List Frame} {meth : Method} {c : Code} {H : Heap} {locs : List Loc} {cells slots : Nat} {Q : State → Prop} {pc : Nat} {ls : Array Slot} {rest st0 : List Value} {a : Array Value}
theorem xcSi {v : Int32} (hr : va_Run p l e R s m args below meth c H locs cells slots 0 0 (F0 m pc ls st0) rest (vp_Si (fun r => r = v) a) (fun _ => False)) (kk : W p l e R s m args below meth c H locs cells slots Q (F0 m (pc + 3) ls (.int v :: rest))) : W p l e R s m args below meth c H locs cells slots Q (F0 m pc ls st0) := vp_callSi hr.run (fun r h => by cases h; exact kk)
theorem xcSl {v : Int64} (hr : va_Run p l e R s m args below meth c H locs cells slots 0 0 (F0 m pc ls st0) rest (vp_Sl (fun r => r = v) a) (fun _ => False)) (kk : W p l e R s m args below meth c H locs cells slots Q (F0 m (pc + 3) ls (.long v :: rest))) : W p l e R s m args below meth c H locs cells slots Q (F0 m pc ls st0) := vp_callSl hr.run (fun r h => by cases h; exact kk)
end XC
/-! ===== a callee's cells put back in their places ===== -/
def xat : List Nat → va_W → Nat → (Nat × va_E) → (Nat × va_E)
  | i :: is, d :: ds, k, c => if i = k then d else xat is ds k c
  | [], _, _, c => c
  | _ :: _, [], _, c => c
def xrp (isC : List Nat) (w1 : va_W) : Nat → va_W → va_W
  | _, [] => []
  | k, c :: r => xat isC w1 k c :: xrp isC w1 (k + 1) r
theorem xrp_get (isC : List Nat) (w1 : va_W) : ∀ (ws : va_W) (k0 k : Nat), (xrp isC w1 k0 ws)[k]? = (ws[k]?).map (xat isC w1 (k0 + k)) := by
  intro ws
  induction ws with
  | nil => intro k0 k; simp [xrp]
  | cons c r ih =>
    intro k0 k
    cases k with
    | zero => simp [xrp]
    | succ k => simp only [xrp, List.getElem?_cons_succ]; rw [ih (k0 + 1) k]; congr 2; omega
theorem xat_out {isC : List Nat} {w1 : va_W} {k : Nat} {c : Nat × va_E} (h : k ∉ isC) : xat isC w1 k c = c := by
  induction isC generalizing w1 with
  | nil => simp [xat]
  | cons i is ih =>
    cases w1 with
    | nil => simp [xat]
    | cons d ds =>
      simp only [xat]
      rw [if_neg (fun q => h (by rw [q]; exact List.mem_cons_self)), ih (fun q => h (List.mem_cons_of_mem _ q))]
theorem xat_in : ∀ (isC : List Nat) (wc w1 : va_W) (ws : va_W), isC.map (fun i => ws[i]?) = wc.map some → w1.map Prod.fst = wc.map Prod.fst → ∀ (k : Nat) (c : Nat × va_E), k ∈ isC → ws[k]? = some c → ∃ (j : Nat) (d : Nat × va_E), wc[j]? = some c ∧ w1[j]? = some d ∧ d.1 = c.1 ∧ xat isC w1 k c = d := by
  intro isC
  induction isC with
  | nil => intro wc w1 ws _ _ k c h; exact absurd h List.not_mem_nil
  | cons i is ih =>
    intro wc w1 ws h1 h2 k c hk hc
    cases wc with
    | nil => simp at h1
    | cons a r =>
      cases w1 with
      | nil => simp at h2
      | cons d ds =>
        simp only [List.map_cons, List.cons.injEq] at h1 h2
        by_cases e : i = k
        · subst e
          have hca : c = a := by have := h1.1; rw [hc] at this; exact Option.some.inj this
          subst hca
          exact ⟨0, d, rfl, rfl, h2.1, by simp [xat]⟩
        · have hk2 : k ∈ is := by
            rcases List.mem_cons.mp hk with q | q
            · exact absurd q.symm e
            · exact q
          obtain ⟨j, d2, q1, q2, q3, q4⟩ := ih r ds ws h1.2 h2.2 k c hk2 hc
          exact ⟨j + 1, d2, by simpa using q1, by simpa using q2, q3, by simp [xat, e, q4]⟩
theorem xat_fst {isC : List Nat} {wc w1 ws : va_W} (h1 : isC.map (fun i => ws[i]?) = wc.map some) (h2 : w1.map Prod.fst = wc.map Prod.fst) {k : Nat} {c : Nat × va_E} (hc : ws[k]? = some c) : (xat isC w1 k c).1 = c.1 := by
  by_cases h : k ∈ isC
  · obtain ⟨j, d, -, -, q3, q4⟩ := xat_in isC wc w1 ws h1 h2 k c h hc
    rw [q4, q3]
  · rw [xat_out h]
theorem xjoin {A0 : Nat → Prop} {D : va_G} {cl : List vw_C} {ws wc w1 : va_W} {H H1 : Heap} (hP : va_P D cl ws H) (hD : va_D A0 ws) (isC : List Nat) (h1 : isC.map (fun i => ws[i]?) = wc.map some) (h2 : w1.map Prod.fst = wc.map Prod.fst) (hk1 : ∀ q : Nat, q < H.size → ¬ va_A wc H.size q → H1[q]? = H[q]?) (hP1 : va_P D cl w1 H1) : va_P D cl (xrp isC w1 0 ws) H1 ∧ va_D A0 (xrp isC w1 0 ws) := by
  refine ⟨fun k q hq => ?_, fun i j x y hx hy hxy => ?_, fun k q hq => ?_⟩
  · rw [xrp_get, Nat.zero_add] at hq
    obtain ⟨c, hc, rfl⟩ := Option.map_eq_some_iff.mp hq
    by_cases h : k ∈ isC
    · obtain ⟨j, d, -, q2, -, q4⟩ := xat_in isC wc w1 ws h1 h2 k c h hc
      rw [q4]
      exact hP1 j d q2
    · rw [xat_out h]
      refine (hP k c hc).kept (hk1 c.1 (hP k c hc).lt ?_)
      rintro (⟨j, ee, hj⟩ | hj)
      · have hm : some (c.1, ee) ∈ wc.map some := List.mem_map.mpr ⟨_, List.mem_of_getElem? hj, rfl⟩
        rw [← h1] at hm
        obtain ⟨i, hi, hi2⟩ := List.mem_map.mp hm
        have := hD.1 k i c (c.1, ee) hc hi2 rfl
        exact h (by rw [this]; exact hi)
      · exact absurd hj (Nat.not_le.mpr (hP k c hc).lt)
  · rw [xrp_get, Nat.zero_add] at hx hy
    obtain ⟨c1, hc1, rfl⟩ := Option.map_eq_some_iff.mp hx
    obtain ⟨c2, hc2, rfl⟩ := Option.map_eq_some_iff.mp hy
    rw [xat_fst h1 h2 hc1, xat_fst h1 h2 hc2] at hxy
    exact hD.1 i j c1 c2 hc1 hc2 hxy
  · rw [xrp_get, Nat.zero_add] at hq
    obtain ⟨c, hc, rfl⟩ := Option.map_eq_some_iff.mp hq
    rw [xat_fst h1 h2 hc]
    exact hD.2 k c hc
theorem xarr {c : ClassId} {n : Nat} {f g : Nat → Int32} (h : ∀ j, j < n → f j = g j) : vp_cell c (n, .inl f) = vp_cell c (n, .inl g) := by
  rw [vp_cell_i, vp_cell_i]
  have e : (fun j : Fin n => Value.int (f j.val)) = fun j : Fin n => Value.int (g j.val) := funext fun j => by rw [h j.val j.isLt]
  simp only [arrV]
  rw [e]
theorem xcpP {D : va_G} {cl : List vw_C} {w : va_W} {H : Heap} (hP : va_P D cl w H) (k : Nat) {a : Nat} {c : ClassId} {n : Nat} {f g : Nat → Int32} {sp dp m : Nat} (hk : w[k]? = some (a, .inl (c, n, .inl (va_cpy f g sp dp m)))) (hsp : sp = 0) (hdp : dp = 0) (hm : m = n) : va_P D cl (w.set k (a, .inl (c, n, .inl f))) H := by
  intro j q hq
  subst hsp; subst hdp; subst hm
  rw [List.getElem?_set] at hq
  by_cases e : k = j
  · subst e
    have h0 := hP k _ hk
    have hl : k < w.length := (List.getElem?_eq_some_iff.mp hk).1
    simp only [if_true, hl] at hq
    cases hq
    show H[a]? = some (vp_cell c (m, .inl f))
    rw [← xarr (f := va_cpy f g 0 0 m) (g := f) (fun j hj => by rw [pk_cpy_in (Nat.zero_le j) (by omega)]; congr 1; omega)]
    exact h0
  · rw [if_neg e] at hq
    exact hP j q hq
theorem xcpD {A : Nat → Prop} {w : va_W} (hD : va_D A w) (k : Nat) {a : Nat} {c : ClassId} {n : Nat} {f g : Nat → Int32} {sp dp m : Nat} (hk : w[k]? = some (a, .inl (c, n, .inl (va_cpy f g sp dp m)))) : va_D A (w.set k (a, .inl (c, n, .inl f))) := hD.set hk
section XD
variable {p : Program} {l : Launch} {e : Env} {R : Room} {s : State} {m : MethodId} {args : Array Value} {below : List Frame} {meth : Method} {c : Code} {H : Heap} {locs : List Loc} {cells slots : Nat} {Q : State → Prop} {pc : Nat} {ls : Array Slot} {rest st0 : List Value} {a : Array Value} {D : va_G} {cy : Nat → ClassId} {ws wc w1 : va_W} {A0 : Nat → Prop} {H0 : Heap}
theorem xcQi {v : Int32} (hr : va_Run p l e R s m args below meth c H locs cells slots 0 0 (F0 m pc ls st0) rest (va_Qi (fun (r : Int32) (_ : Unit) => r = v) (fun _ t => va_P D vwCl w1 t.heap) (va_A wc H.size) a) (va_A wc H.size)) (hP : va_P D vwCl ws H) (hD : va_D A0 ws) (hS : va_S A0 H0 H locs) (hA : ∀ q, H0.size ≤ q → A0 q) (isC : List Nat) (h1 : isC.map (fun i => ws[i]?) = wc.map some) (h2 : w1.map Prod.fst = wc.map Prod.fst)
    (kk : ∀ (H1 : Heap) (locs1 : List Loc), va_P D vwCl (xrp isC w1 0 ws) H1 → va_D A0 (xrp isC w1 0 ws) → va_S A0 H0 H1 locs1 → W p l e R s m args below meth c H1 locs1 cells slots Q (F0 m (pc + 3) ls (.int v :: rest))) : W p l e R s m args below meth c H locs cells slots Q (F0 m pc ls st0) := by
  have hFc := va_free hD hS hA isC h1
  refine va_calli hr hS (fun q _ h => hFc q h) hFc (fun r u t H1 locs1 ht hvm hw hB hz1 hk1 hS1 => ?_)
  rw [ht] at hB
  obtain ⟨hP2, hD2⟩ := xjoin hP hD isC h1 h2 hk1 hB
  cases hw
  exact kk H1 locs1 hP2 hD2 hS1
theorem xcQl {v : Int64} (hr : va_Run p l e R s m args below meth c H locs cells slots 0 0 (F0 m pc ls st0) rest (va_Ql (fun (r : Int64) (_ : Unit) => r = v) (fun _ t => va_P D vwCl w1 t.heap) (va_A wc H.size) a) (va_A wc H.size)) (hP : va_P D vwCl ws H) (hD : va_D A0 ws) (hS : va_S A0 H0 H locs) (hA : ∀ q, H0.size ≤ q → A0 q) (isC : List Nat) (h1 : isC.map (fun i => ws[i]?) = wc.map some) (h2 : w1.map Prod.fst = wc.map Prod.fst)
    (kk : ∀ (H1 : Heap) (locs1 : List Loc), va_P D vwCl (xrp isC w1 0 ws) H1 → va_D A0 (xrp isC w1 0 ws) → va_S A0 H0 H1 locs1 → W p l e R s m args below meth c H1 locs1 cells slots Q (F0 m (pc + 3) ls (.long v :: rest))) : W p l e R s m args below meth c H locs cells slots Q (F0 m pc ls st0) := by
  have hFc := va_free hD hS hA isC h1
  refine va_calll hr hS (fun q _ h => hFc q h) hFc (fun r u t H1 locs1 ht hvm hw hB hz1 hk1 hS1 => ?_)
  rw [ht] at hB
  obtain ⟨hP2, hD2⟩ := xjoin hP hD isC h1 h2 hk1 hB
  cases hw
  exact kk H1 locs1 hP2 hD2 hS1
theorem xcQv (hr : va_Run p l e R s m args below meth c H locs cells slots 0 0 (F0 m pc ls st0) rest (va_Qv (fun (_ : Unit) => True) (fun _ t => va_P D vwCl w1 t.heap) (va_A wc H.size) a) (va_A wc H.size)) (hP : va_P D vwCl ws H) (hD : va_D A0 ws) (hS : va_S A0 H0 H locs) (hA : ∀ q, H0.size ≤ q → A0 q) (isC : List Nat) (h1 : isC.map (fun i => ws[i]?) = wc.map some) (h2 : w1.map Prod.fst = wc.map Prod.fst)
    (kk : ∀ (H1 : Heap) (locs1 : List Loc), va_P D vwCl (xrp isC w1 0 ws) H1 → va_D A0 (xrp isC w1 0 ws) → va_S A0 H0 H1 locs1 → W p l e R s m args below meth c H1 locs1 cells slots Q (F0 m (pc + 3) ls rest)) : W p l e R s m args below meth c H locs cells slots Q (F0 m pc ls st0) := by
  have hFc := va_free hD hS hA isC h1
  refine va_callv hr hS (fun q _ h => hFc q h) hFc (fun u t H1 locs1 ht hvm hw hB hz1 hk1 hS1 => ?_)
  rw [ht] at hB
  obtain ⟨hP2, hD2⟩ := xjoin hP hD isC h1 h2 hk1 hB
  exact kk H1 locs1 hP2 hD2 hS1
end XD
