/-! ===== words and numbers of a text ===== -/
theorem bo7N {A1 A2 A3 A4 A5 A6 A7 ρ : Type} (a1 : A1) (a2 : A2) (a3 : A3) (a4 : A4) (a5 : A5) (a6 : A6) (a7 : A7) (f : A1 → A2 → A3 → A4 → A5 → A6 → A7 → Option ρ) : bo7 (some (a1, a2, a3, a4, a5, a6, a7)) f = f a1 a2 a3 a4 a5 a6 a7 := Eq.trans rfl rfl
theorem bo11N {A1 A2 A3 A4 A5 A6 A7 A8 A9 A10 A11 ρ : Type} (a1 : A1) (a2 : A2) (a3 : A3) (a4 : A4) (a5 : A5) (a6 : A6) (a7 : A7) (a8 : A8) (a9 : A9) (a10 : A10) (a11 : A11) (f : A1 → A2 → A3 → A4 → A5 → A6 → A7 → A8 → A9 → A10 → A11 → Option ρ) : bo11 (some (a1, a2, a3, a4, a5, a6, a7, a8, a9, a10, a11)) f = f a1 a2 a3 a4 a5 a6 a7 a8 a9 a10 a11 := Eq.trans rfl rfl
theorem bo13N {A1 A2 A3 A4 A5 A6 A7 A8 A9 A10 A11 A12 A13 ρ : Type} (a1 : A1) (a2 : A2) (a3 : A3) (a4 : A4) (a5 : A5) (a6 : A6) (a7 : A7) (a8 : A8) (a9 : A9) (a10 : A10) (a11 : A11) (a12 : A12) (a13 : A13) (f : A1 → A2 → A3 → A4 → A5 → A6 → A7 → A8 → A9 → A10 → A11 → A12 → A13 → Option ρ) : bo13 (some (a1, a2, a3, a4, a5, a6, a7, a8, a9, a10, a11, a12, a13)) f = f a1 a2 a3 a4 a5 a6 a7 a8 a9 a10 a11 a12 a13 := Eq.trans rfl rfl
theorem bo15N {A1 A2 A3 A4 A5 A6 A7 A8 A9 A10 A11 A12 A13 A14 A15 ρ : Type} (a1 : A1) (a2 : A2) (a3 : A3) (a4 : A4) (a5 : A5) (a6 : A6) (a7 : A7) (a8 : A8) (a9 : A9) (a10 : A10) (a11 : A11) (a12 : A12) (a13 : A13) (a14 : A14) (a15 : A15) (f : A1 → A2 → A3 → A4 → A5 → A6 → A7 → A8 → A9 → A10 → A11 → A12 → A13 → A14 → A15 → Option ρ) : bo15 (some (a1, a2, a3, a4, a5, a6, a7, a8, a9, a10, a11, a12, a13, a14, a15)) f = f a1 a2 a3 a4 a5 a6 a7 a8 a9 a10 a11 a12 a13 a14 a15 := Eq.trans rfl rfl
theorem bo16N {A1 A2 A3 A4 A5 A6 A7 A8 A9 A10 A11 A12 A13 A14 A15 A16 ρ : Type} (a1 : A1) (a2 : A2) (a3 : A3) (a4 : A4) (a5 : A5) (a6 : A6) (a7 : A7) (a8 : A8) (a9 : A9) (a10 : A10) (a11 : A11) (a12 : A12) (a13 : A13) (a14 : A14) (a15 : A15) (a16 : A16) (f : A1 → A2 → A3 → A4 → A5 → A6 → A7 → A8 → A9 → A10 → A11 → A12 → A13 → A14 → A15 → A16 → Option ρ) : bo16 (some (a1, a2, a3, a4, a5, a6, a7, a8, a9, a10, a11, a12, a13, a14, a15, a16)) f = f a1 a2 a3 a4 a5 a6 a7 a8 a9 a10 a11 a12 a13 a14 a15 a16 := Eq.trans rfl rfl
theorem bo17N {A1 A2 A3 A4 A5 A6 A7 A8 A9 A10 A11 A12 A13 A14 A15 A16 A17 ρ : Type} (a1 : A1) (a2 : A2) (a3 : A3) (a4 : A4) (a5 : A5) (a6 : A6) (a7 : A7) (a8 : A8) (a9 : A9) (a10 : A10) (a11 : A11) (a12 : A12) (a13 : A13) (a14 : A14) (a15 : A15) (a16 : A16) (a17 : A17) (f : A1 → A2 → A3 → A4 → A5 → A6 → A7 → A8 → A9 → A10 → A11 → A12 → A13 → A14 → A15 → A16 → A17 → Option ρ) : bo17 (some (a1, a2, a3, a4, a5, a6, a7, a8, a9, a10, a11, a12, a13, a14, a15, a16, a17)) f = f a1 a2 a3 a4 a5 a6 a7 a8 a9 a10 a11 a12 a13 a14 a15 a16 a17 := Eq.trans rfl rfl
theorem bo18N {A1 A2 A3 A4 A5 A6 A7 A8 A9 A10 A11 A12 A13 A14 A15 A16 A17 A18 ρ : Type} (a1 : A1) (a2 : A2) (a3 : A3) (a4 : A4) (a5 : A5) (a6 : A6) (a7 : A7) (a8 : A8) (a9 : A9) (a10 : A10) (a11 : A11) (a12 : A12) (a13 : A13) (a14 : A14) (a15 : A15) (a16 : A16) (a17 : A17) (a18 : A18) (f : A1 → A2 → A3 → A4 → A5 → A6 → A7 → A8 → A9 → A10 → A11 → A12 → A13 → A14 → A15 → A16 → A17 → A18 → Option ρ) : bo18 (some (a1, a2, a3, a4, a5, a6, a7, a8, a9, a10, a11, a12, a13, a14, a15, a16, a17, a18)) f = f a1 a2 a3 a4 a5 a6 a7 a8 a9 a10 a11 a12 a13 a14 a15 a16 a17 a18 := Eq.trans rfl rfl
theorem jo6N {A1 A2 A3 A4 A5 A6 ρ : Type} (K : A1 → A2 → A3 → A4 → A5 → A6 → Option ρ) (B : (A1 → A2 → A3 → A4 → A5 → A6 → Option ρ) → Option ρ) : jo6 K B = B K := Eq.trans rfl rfl
theorem jo7N {A1 A2 A3 A4 A5 A6 A7 ρ : Type} (K : A1 → A2 → A3 → A4 → A5 → A6 → A7 → Option ρ) (B : (A1 → A2 → A3 → A4 → A5 → A6 → A7 → Option ρ) → Option ρ) : jo7 K B = B K := Eq.trans rfl rfl
theorem xSl_le : ∀ w, w < 7 → xSl w ≤ 6 := by decide
theorem tk1 {k : Nat} {b t : Nat → Int32} {pos e tx tm s v fm : Nat} (R : TkR k b t pos e tx tm s v fm) : (tx = 1) = (tm = 1) := by
  obtain ⟨-, -, -, -, -, h, -⟩ := R
  apply propext
  rcases h with ⟨h1, h2, -⟩ | ⟨-, -, h | ⟨h1, h2⟩⟩ <;> omega
theorem tk0 {k : Nat} {b t : Nat → Int32} {pos e tx tm s v fm : Nat} (R : TkR k b t pos e tx tm s v fm) : (tx = 0) = (tm = 0) := by
  obtain ⟨-, -, -, -, -, h, -⟩ := R
  apply propext
  rcases h with ⟨h1, h2, -⟩ | ⟨-, -, h | ⟨h1, h2⟩⟩ <;> omega
theorem tk3 {k : Nat} {b t : Nat → Int32} {pos e tx tm s v fm : Nat} (R : TkR k b t pos e tx tm s v fm) : (tx = 3) = (tm = 3) := by
  obtain ⟨-, -, -, -, -, h, -⟩ := R
  apply propext
  rcases h with ⟨h1, h2, -⟩ | ⟨-, -, h | ⟨h1, h2⟩⟩ <;> omega
theorem p_isWord {k w : Nat} {b t : Nat → Int32} {B : Nat → Nat} {pos e tx tm s v fm : Nat} (hk : k ≤ 250) (hb : ag k b B) (ht : ag k t B) (hw : w < 7) (R : TkR k b t pos e tx tm s v fm) : ∃ r : Bool, fX6_isWord (nI e) (nI tx) (nI s) (nI k) b w = some (nI (if r then 1 else 0)) ∧ fX8_isWord (nI e) (nI tm) (nI s) t w = some (nI (if r then 1 else 0)) := by
  have h1 := tk1 R
  obtain ⟨he, hs, -, -, -, -, htx, htm, -, -⟩ := R
  have hl := xSl_le w hw
  have ex : (nI tx = (1 : Int32)) = (tx = 1) := neq (b := 1) (by omega) (by omega)
  have em : (nI tm = (1 : Int32)) = (tm = 1) := neq (b := 1) (by omega) (by omega)
  have ed : nI e - nI s = nI (e - s) := pk_sub hs
  have el : (nI (e - s) = Int32.ofNat (xSl w)) = (e - s = xSl w) := neq (b := xSl w) (by omega) (by omega)
  unfold fX6_isWord fX8_isWord
  by_cases c1 : tx = 1
  · have c2 : tm = 1 := by rw [← h1]; exact c1
    have x1 : nI tx = (1 : Int32) := by rw [ex]; exact c1
    have m1 : nI tm = (1 : Int32) := by rw [em]; exact c2
    rw [if_pos x1, if_pos m1, ed]
    by_cases c3 : e - s = xSl w
    · have l1 : nI (e - s) = Int32.ofNat (xSl w) := by rw [el]; exact c3
      rw [if_pos l1, if_pos l1]
      refine ⟨(ff (fun x => !decide (nI (B (s + x)) = xSc w x)) (xSl w) 0).isNone, ?_, ?_⟩
      · refine Eq.trans (lsk (fun x => !decide (nI (B (s + x)) = xSc w x)) (fun _ => some (nI 0)) (some (nI 1)) 0 (xSl w) (fun i h1 h2 g => ?_) (fun g => ?_) 400 (by omega)) ?_
        · have e1 : ¬ Int32.ofNat (xSl w) ≤ nI i := by
            show ¬ nI (xSl w) ≤ nI i
            rw [nle (by omega) (by omega)]; omega
          rw [if_neg e1, nI_add, p_letterAt hk hb (by omega), bo1N, if_n (nin (k := i) (N := xSl w) (by omega) (by omega)), nc (n := i) (by omega), vletN, nI_1]
          by_cases q : nI (B (s + i)) = xSc w i
          · rw [if_pos q, decide_eq_true q]; rfl
          · rw [if_neg q, decide_eq_false q]; rfl
        · rw [Nat.zero_add, if_pos (show Int32.ofNat (xSl w) ≤ nI (xSl w) from Int32.le_refl _)]; rfl
        · cases ff (fun x => !decide (nI (B (s + x)) = xSc w x)) (xSl w) 0 <;> rfl
      · refine Eq.trans (lsk (fun x => !decide (nI (B (s + x)) = xSc w x)) (fun _ => some (nI 0)) (some (nI 1)) 0 (xSl w) (fun i h1 h2 g => ?_) (fun g => ?_) 400 (by omega)) ?_
        · have e1 : ¬ Int32.ofNat (xSl w) ≤ nI i := by
            show ¬ nI (xSl w) ≤ nI i
            rw [nle (by omega) (by omega)]; omega
          rw [if_neg e1, nI_add, if_n (nin (k := s + i) (N := 250) (by omega) (by omega)), if_n (nin (k := i) (N := xSl w) (by omega) (by omega)), nc (n := i) (by omega), nc (n := s + i) (by omega), ht (s + i) (by omega), vletN, nI_1]
          by_cases q : nI (B (s + i)) = xSc w i
          · rw [if_pos q, decide_eq_true q]; rfl
          · rw [if_neg q, decide_eq_false q]; rfl
        · rw [Nat.zero_add, if_pos (show Int32.ofNat (xSl w) ≤ nI (xSl w) from Int32.le_refl _)]; rfl
        · cases ff (fun x => !decide (nI (B (s + x)) = xSc w x)) (xSl w) 0 <;> rfl
    · have l1 : ¬ nI (e - s) = Int32.ofNat (xSl w) := by rw [el]; exact c3
      rw [if_neg l1, if_neg l1]
      exact ⟨false, rfl, rfl⟩
  · have c2 : ¬ tm = 1 := by rw [← h1]; exact c1
    have x1 : ¬ nI tx = (1 : Int32) := by rw [ex]; exact c1
    have m1 : ¬ nI tm = (1 : Int32) := by rw [em]; exact c2
    rw [if_neg x1, if_neg m1]
    exact ⟨false, rfl, rfl⟩
theorem wr01 : (¬ ((0 : Int32) = 0 ∨ (0 : Int32) = 1)) = False := eq_false (by decide)
theorem wr11 : (¬ ((1 : Int32) = 0 ∨ (1 : Int32) = 1)) = False := eq_false (by decide)
theorem ifno {ρ : Type} {c : Prop} [Decidable c] (h : c = False) (x : Option ρ) : (if c then none else x) = x := by rw [if_neg (by rw [h]; exact id)]
/-- a number is due -/
theorem p_num {k i : Nat} {b t : Nat → Int32} {pos e tx tm s v fm : Nat} (R : TkR k b t pos e tx tm s v fm) (hi4 : i < 4) {lo hi : Int32} (hhi : ¬ nI 1000 ≤ hi) (fault : Int32) (told : Nat → Int32) (t0 s0 v0 : Int32) :
    (lo ≤ nI v ∧ nI v ≤ hi ∧ v ≤ 999 ∧ pos < e ∧ (∃ vx, fX6_takeNumber (-1) (nI pos) t0 s0 v0 (nI k) b lo hi = some (nI v, -1, nI e, nI 2, nI s, vx)) ∧ ∀ e' tx' tm' s' v' fm', TkR k b t e e' tx' tm' s' v' fm' → fX8_number (nI k) (nI e) (nI tm) (nI s) (nI fm) fault t told (nI i) lo hi = some (1, nI e', nI tm', nI s', nI fm', fault, upd told i (nI v)))
    ∨ ((∃ x1 x2 x3 x4, fX6_takeNumber (-1) (nI pos) t0 s0 v0 (nI k) b lo hi = some (-1, nI s, x1, x2, x3, x4)) ∧ fX8_number (nI k) (nI e) (nI tm) (nI s) (nI fm) fault t told (nI i) lo hi = some (0, nI e, nI tm, nI s, nI fm, nI s, told)) := by
  obtain ⟨he, hs, hp, hX, hM, hc, htx, htm, hfm, hpr⟩ := R
  obtain ⟨vx, hX1, hX2⟩ := hX v0
  have ex : (nI tx = (2 : Int32)) = (tx = 2) := neq (b := 2) (by omega) (by omega)
  have em : (nI tm = (2 : Int32)) = (tm = 2) := neq (b := 2) (by omega) (by omega)
  have bad : tm ≠ 2 ∨ ¬ (lo ≤ nI fm ∧ nI fm ≤ hi) → fX8_number (nI k) (nI e) (nI tm) (nI s) (nI fm) fault t told (nI i) lo hi = some (0, nI e, nI tm, nI s, nI fm, nI s, told) := by
    intro h
    unfold fX8_number fX8_wrong
    rw [jo0N, bo2N, ifno wr01]
    by_cases c : tm = 2
    · have h' := h.resolve_left (fun q => q c)
      rw [if_pos (show nI tm = (2 : Int32) from by rw [em]; exact c), p_in, if_neg h', bo1N, if_pos (show nI 0 = (0 : Int32) from rfl)]
    · rw [if_neg (show ¬ nI tm = (2 : Int32) from by rw [em]; exact c)]
  rcases hc with ⟨c1, c2, c3, c4⟩ | ⟨c1, c2, c3⟩
  · have hvx := hX2 c1
    subst hvx
    subst c3
    by_cases g : lo ≤ nI fm ∧ nI fm ≤ hi
    · left
      refine ⟨g.1, g.2, c4, by have := hpr (by omega); omega, ⟨nI fm, ?_⟩, ?_⟩
      · unfold fX6_takeNumber
        rw [if_pos rfl, hX1, bo4N, jo0N, if_pos (show nI tx = (2 : Int32) from by rw [ex]; exact c1), if_neg (Int32.not_lt.mpr g.1), if_pos g.2, c1]
      · intro e' tx' tm' s' v' fm' R'
        obtain ⟨-, -, -, -, hM', -⟩ := R'
        unfold fX8_number
        rw [jo0N, if_pos (show nI tm = (2 : Int32) from by rw [em]; exact c2), p_in, if_pos g, bo1N, if_neg (by decide), if_n (nin (k := i) (N := 4) (by omega) (by omega)), hM', bo4N, nc (n := i) (by omega)]
    · right
      refine ⟨⟨nI e, nI tx, nI s, nI fm, ?_⟩, bad (Or.inr g)⟩
      unfold fX6_takeNumber
      rw [if_pos rfl, hX1, bo4N, jo0N, if_pos (show nI tx = (2 : Int32) from by rw [ex]; exact c1)]
      by_cases g1 : nI fm < lo
      · rw [if_pos g1]
      · rw [if_neg g1, if_neg (fun g2 => g ⟨Int32.not_lt.mp g1, g2⟩)]
  · right
    refine ⟨⟨nI e, nI tx, nI s, vx, ?_⟩, bad ?_⟩
    · unfold fX6_takeNumber
      rw [if_pos rfl, hX1, bo4N, jo0N, if_neg (show ¬ nI tx = (2 : Int32) from by rw [ex]; exact c1)]
    · by_cases c : tm = 2
      · right
        rw [c2 c]
        exact fun q => hhi q.2
      · exact Or.inl c
/-- the class asks for no more when something was wrong -/
theorem p_tnf {s k : Nat} {p t0 s0 v0 lo hi : Int32} {b : Nat → Int32} (hs : s ≤ 1000) : fX6_takeNumber (nI s) p t0 s0 v0 (nI k) b lo hi = some (-1, nI s, p, t0, s0, v0) := by
  unfold fX6_takeNumber
  rw [if_neg (by rw [nm1 hs]; exact id)]
/-- the word is read, a number is due -/
theorem p_tells {k : Nat} {b t : Nat → Int32} {pos e tx tm s v fm : Nat} (R : TkR k b t pos e tx tm s v fm) {lo hi : Int32} (hhi : ¬ nI 1000 ≤ hi) (fault : Int32) (told : Nat → Int32) (t0 s0 v0 : Int32) :
    (lo ≤ nI v ∧ nI v ≤ hi ∧ v ≤ 999 ∧ pos < e ∧ (∃ vx, fX6_takeNumber (-1) (nI pos) t0 s0 v0 (nI k) b lo hi = some (nI v, -1, nI e, nI 2, nI s, vx)) ∧ ∀ e' tx' tm' s' v' fm', TkR k b t e e' tx' tm' s' v' fm' → fX8_tells (nI k) (nI pos) fault t told lo hi = some (1, nI e', nI tm', nI s', nI fm', fault, upd told 0 (nI v)))
    ∨ ((∃ x1 x2 x3 x4, fX6_takeNumber (-1) (nI pos) t0 s0 v0 (nI k) b lo hi = some (-1, nI s, x1, x2, x3, x4)) ∧ fX8_tells (nI k) (nI pos) fault t told lo hi = some (0, nI e, nI tm, nI s, nI fm, nI s, told)) := by
  have hM := R.2.2.2.2.1
  rcases p_num (i := 0) R (by omega) hhi fault told t0 s0 v0 (lo := lo) with ⟨h1, h2, h3, h4, h5, h6⟩ | ⟨h1, h2⟩
  · left
    refine ⟨h1, h2, h3, h4, h5, fun e' tx' tm' s' v' fm' R' => ?_⟩
    unfold fX8_tells
    rw [hM, bo4N, show fX8_number (nI k) (nI e) (nI tm) (nI s) (nI fm) fault t told (0 : Int32) lo hi = _ from h6 e' tx' tm' s' v' fm' R', bo7N, ifno wr11]
  · right
    refine ⟨h1, ?_⟩
    unfold fX8_tells
    rw [hM, bo4N, show fX8_number (nI k) (nI e) (nI tm) (nI s) (nI fm) fault t told (0 : Int32) lo hi = _ from h2, bo7N, ifno wr01]
