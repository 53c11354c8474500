/-! ===== the hours ===== -/
theorem toI64_lt (x y : Int32) : (x.toInt64 < y.toInt64) = (x < y) := by
  apply propext
  rw [Int64.lt_iff_toInt_lt, Int32.lt_iff_toInt_lt, Int32.toInt_toInt64, Int32.toInt_toInt64]
theorem p_in (x a b : Int32) : fX8_in x.toInt64 a.toInt64 b.toInt64 = some (nI (if a ≤ x ∧ x ≤ b then 1 else 0)) := by
  unfold fX8_in
  have h1 : (lg_cmp x.toInt64 a.toInt64 < 0) = (x < a) := by rw [propext (lg_cmp_lt _ _), toI64_lt]
  have h2 : (0 < lg_cmp x.toInt64 b.toInt64) = (b < x) := by rw [propext (lg_cmp_gt _ _), toI64_lt]
  simp only [h1, h2]
  by_cases g1 : x < a
  · rw [if_pos g1, if_neg (fun q => Int32.not_lt.mpr q.1 g1)]; rfl
  · rw [if_neg g1]
    by_cases g2 : b < x
    · rw [if_pos g2, if_neg (fun q => Int32.not_lt.mpr q.2 g2)]; rfl
    · rw [if_neg g2, if_pos ⟨Int32.not_lt.mp g1, Int32.not_lt.mp g2⟩]; rfl
def day (h : Nat) : Bool := decide (8 ≤ h % 24) && decide (h % 24 ≤ 19)
theorem n_mod24 {h : Nat} (hh : h ≤ 9999) : nI h - nI h / (24 : Int32) * (24 : Int32) = nI (h % 24) := pk_rem (a := h) (d := 24) (by omega) (by decide) (by decide)
theorem p_isDay {h : Nat} (hh : h ≤ 9999) : fX5_isDay (nI h) = some (nI (if day h then 1 else 0)) := by
  unfold fX5_isDay
  simp only [vlet]
  rw [n_mod24 hh]
  simp only [show (8 : Int32) = nI 8 from rfl, show (19 : Int32) = nI 19 from rfl, nlt (a := h % 24) (b := 8) (by omega) (by omega), nlt (a := 19) (b := h % 24) (by omega) (by omega)]
  unfold day
  by_cases g1 : h % 24 < 8
  · rw [if_pos g1]
    simp [show ¬ 8 ≤ h % 24 from by omega]; rfl
  · rw [if_neg g1]
    by_cases g2 : 19 < h % 24
    · rw [if_pos g2]
      simp [show ¬ h % 24 ≤ 19 from by omega]; rfl
    · rw [if_neg g2]
      simp [show 8 ≤ h % 24 from by omega, show h % 24 ≤ 19 from by omega]; rfl
theorem p_mday {h : Nat} (hh : h ≤ 9999) : fX8_in ((nI h - nI h / (24 : Int32) * (24 : Int32)).toInt64) (8 : Int64) (19 : Int64) = some (nI (if day h then 1 else 0)) := by
  rw [n_mod24 hh, show (8 : Int64) = (nI 8).toInt64 from by decide, show (19 : Int64) = (nI 19).toInt64 from by decide, p_in]
  simp only [nle (a := 8) (b := h % 24) (by omega) (by omega), nle (a := h % 24) (b := 19) (by omega) (by omega)]
  unfold day
  by_cases g1 : 8 ≤ h % 24 <;> by_cases g2 : h % 24 ≤ 19 <;> simp [g1, g2]
/-- where one of a kind goes, by the dark ahead of the hour -/
def gto (W : Nat → Nat) (P : Nat) (k hm am f h : Nat) (dark : Nat) : Nat :=
  if k = 0 ∨ k = 5 then stp W P f (if day h then am else hm)
  else if k = 2 then wr W P f
  else if k = 4 then (if dark.testBit (wr W P f) then wr W P f else f)
  else f
theorem gto_lt {W : Nat → Nat} {P k hm am f h dark : Nat} (hf : f < P) : gto W P k hm am f h dark < P := by
  unfold gto
  by_cases h1 : k = 0 ∨ k = 5
  · rw [if_pos h1]; exact stp_lt hf
  · rw [if_neg h1]
    by_cases h2 : k = 2
    · rw [if_pos h2]; exact wr_lt hf
    · rw [if_neg h2]
      by_cases h3 : k = 4
      · rw [if_pos h3]
        by_cases h4 : dark.testBit (wr W P f) = true
        · rw [if_pos h4]; exact wr_lt hf
        · rw [if_neg h4]; exact hf
      · rw [if_neg h3]; exact hf
theorem k6 {k : Nat} (h : k < 6) : ((nI k = (0 : Int32)) = (k = 0)) ∧ ((nI k = (1 : Int32)) = (k = 1)) ∧ ((nI k = (2 : Int32)) = (k = 2)) ∧ ((nI k = (3 : Int32)) = (k = 3)) ∧ ((nI k = (4 : Int32)) = (k = 4)) ∧ ((nI k = (5 : Int32)) = (k = 5)) :=
  ⟨neq (b := 0) (by omega) (by omega), neq (b := 1) (by omega) (by omega), neq (b := 2) (by omega) (by omega), neq (b := 3) (by omega) (by omega), neq (b := 4) (by omega) (by omega), neq (b := 5) (by omega) (by omega)⟩
/-- a town's numbers are such as may be -/
def tok (P n : Nat) (W K H M L : Nat → Nat) (h : Nat) : Prop := 2 ≤ P ∧ P ≤ 12 ∧ n ≤ 8 ∧ wok P W ∧ (∀ p, p < n → K p < 6) ∧ (∀ p, p < n → H p < P) ∧ (∀ p, p < n → M p < P) ∧ (∀ p, p < n → L p < P) ∧ h ≤ 9999
theorem p_goesTo {P n h p m : Nat} {W K H M L : Nat → Nat} {d kf hf mf af : Nat → Int32} (T : tok P n W K H M L h) (hd : dok W d) (hk : ag n kf K) (hh : ag n hf H) (hm : ag n mf M) (hl : af p = nI (L p)) (hp : p < n) (hmm : m < 4096) : fX5_goesTo (nI P) (nI h) (nf W) d kf hf mf af (nI p) (nI m) = some (nI (gto W P (K p) (H p) (M p) (L p) h m)) := by
  obtain ⟨hP2, hP, hn, hW, hK, hH, hM, hL, hho⟩ := T
  have hLp := hL p hp
  have hw := wr_lt (W := W) hLp
  unfold fX5_goesTo
  simp only [if_n (nin (k := p) (N := 8) (by omega) (by omega)), vlet, jo0, jo1]
  rw [nc (n := p) (by omega), hl, hk p hp, hh p hp, hm p hp, p_isDay hho, p_walkRound hW hP hLp]
  simp only [bo1, b01]
  rw [p_hasBit (by omega) (by omega), p_stepToward hW hP hd hLp (hH p hp), p_stepToward hW hP hd hLp (hM p hp)]
  simp only [bo1, b01]
  have hk6 := hK p hp
  obtain ⟨e0, e1, e2, e3, e4, e5⟩ := k6 hk6
  simp only [e0, e1, e2, e3, e4, e5]
  unfold gto
  generalize K p = k at hk6 ⊢
  match k, hk6 with
  | 0, _ => cases day h <;> simp
  | 1, _ => simp
  | 2, _ => simp
  | 3, _ => simp
  | 4, _ => cases m.testBit (wr W P (L p)) <;> simp
  | 5, _ => cases day h <;> simp
  | k + 6, h => exact absurd h (by omega)
/-- the Model: somebody other who darkens stands there -/
theorem p_isDarkBut {P n g0 p to : Nat} {K L : Nat → Nat} {g : Int32} {G : Nat → Bool} {kf af : Nat → Int32} (hn : n ≤ 8) (hg : gn g G) (hk : ag n kf K) (hl : ag n af L) (hK : ∀ p, p < n → K p < 6) (hL : ∀ p, p < n → L p < 12) (hp : p < n) (ht : to < 12) : fX8_isDarkBut (nI n) g kf af (nI to) (nI p) = some (nI (if (ff (fun o => !(o == p) && (L o == to) && (!G o && dk (K o))) n 0).isSome then 1 else 0)) := by
  unfold fX8_isDarkBut
  refine Eq.trans (lsk (fun o => !(o == p) && (L o == to) && (!G o && dk (K o))) (fun _ => some (nI 1)) (some (nI 0)) 0 n (fun i h1 h2 g2 => ?_) (fun g2 => ?_) 400 (by omega)) ?_
  · rw [if_neg (by rw [nle (by omega) (by omega)]; omega)]
    simp only [jo0, vlet, if_n (nin (k := i) (N := 8) (by omega) (by omega))]
    rw [nc (n := i) (by omega), hl i (by omega), p_mdarkens hn (by omega) hg hk hK, nI_1]
    have hLi := hL i (by omega)
    simp only [bo1, b01, neq (a := i) (b := p) (by omega) (by omega), neq (a := L i) (b := to) (by omega) (by omega)]
    by_cases a : i = p
    · simp [a]
    · by_cases b : L i = to
      · by_cases c : (!G i && dk (K i)) = true
        · simp only [a, b, c, if_true, if_false]
          simp [a, b, c]
          rfl
        · simp [a, b, c]
      · simp [a, b]
  · rw [if_pos (by rw [nle (by omega) (by omega)]; omega)]
    rfl
  · cases ff (fun o => !(o == p) && (L o == to) && (!G o && dk (K o))) n 0 <;> rfl
