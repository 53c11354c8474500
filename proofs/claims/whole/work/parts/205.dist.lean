/-! ===== how far: levels by hours ===== -/
def rcm (W : Nat → Nat) (p : Nat) : Nat → Nat
  | 0 => 2 ^ p
  | d + 1 => spr W (rcm W p d)
def ds (W : Nat → Nat) (p q : Nat) : Option Nat := ff (fun d => (rcm W p d).testBit q) 12 0
def dv : Option Nat → Int32
  | none => -1
  | some k => nI k
theorem rcm_lt {W : Nat → Nat} {P p d : Nat} (hW : wok P W) (hp : p < P) : rcm W p d < 2 ^ P := by
  induction d with
  | zero => exact Nat.pow_lt_pow_right (by decide) hp
  | succ d ih => exact spk_lt hW ih
theorem rcm_mono {W : Nat → Nat} {p d q : Nat} (h : (rcm W p d).testBit q = true) : (rcm W p (d + 1)).testBit q = true := by
  show (spk W (rcm W p d) 12).testBit q = true
  rw [spk_bit]
  exact Or.inl h
theorem rcm_le {W : Nat → Nat} {p d e q : Nat} (hde : d ≤ e) (h : (rcm W p d).testBit q = true) : (rcm W p e).testBit q = true := by
  induction hde with
  | refl => exact h
  | step _ ih => exact rcm_mono ih
theorem ff_succ (p : Nat → Bool) (k a : Nat) : ff p (k + 1) a = (match ff p k a with | some q => some q | none => if p (a + k) then some (a + k) else none) := by
  induction k generalizing a with
  | zero => simp [ff]
  | succ k ih =>
    rw [ff, ih (a + 1)]
    by_cases h : p a = true
    · simp [ff, h]
    · simp only [ff, h, if_false, Bool.false_eq_true]
      rw [show a + 1 + k = a + (k + 1) from by omega]
/-- what was reached ahead of level d -/
def rbe (W : Nat → Nat) (p : Nat) : Nat → Nat
  | 0 => 0
  | d + 1 => rcm W p d
def edg (W : Nat → Nat) (p d : Nat) : Nat := nd (rcm W p d) (rbe W p d)
theorem rbe_bit {W : Nat → Nat} {p d q : Nat} : (rbe W p d).testBit q = true ↔ ∃ k, k < d ∧ (rcm W p k).testBit q = true := by
  cases d with
  | zero => simp [rbe]
  | succ d =>
    constructor
    · intro h; exact ⟨d, by omega, h⟩
    · rintro ⟨k, h1, h2⟩; exact rcm_le (by omega) h2
theorem edg_bit (W : Nat → Nat) (p d q : Nat) : (edg W p d).testBit q = ((rcm W p d).testBit q && !(rbe W p d).testBit q) := nd_bit _ _ _
theorem rbe_or (W : Nat → Nat) (p d : Nat) : rbe W p d ||| edg W p d = rcm W p d := by
  apply Nat.eq_of_testBit_eq
  intro q
  rw [Nat.testBit_or, edg_bit]
  cases h : (rbe W p d).testBit q with
  | false => simp
  | true =>
    obtain ⟨k, h1, h2⟩ := rbe_bit.mp h
    rw [rcm_le (by omega) h2]
    rfl
theorem bool_ext {a b : Bool} (h : a = true ↔ b = true) : a = b := by cases a <;> cases b <;> simp_all
theorem edg_succ (W : Nat → Nat) (p d : Nat) : nd (spr W (edg W p d)) (rcm W p d) = edg W p (d + 1) := by
  apply Nat.eq_of_testBit_eq
  intro q
  rw [nd_bit, edg_bit]
  show ((spr W (edg W p d)).testBit q && !(rcm W p d).testBit q) = ((rcm W p (d + 1)).testBit q && !(rcm W p d).testBit q)
  cases hr : (rcm W p d).testBit q with
  | true => simp
  | false =>
    simp only [Bool.not_false, Bool.and_true]
    apply bool_ext
    show (spk W (edg W p d) 12).testBit q = true ↔ (spk W (rcm W p d) 12).testBit q = true
    rw [spk_bit, spk_bit]
    constructor
    · rintro (h | ⟨r, h1, h2, h3⟩)
      · rw [edg_bit, hr] at h; simp at h
      · refine Or.inr ⟨r, h1, ?_, h3⟩
        rw [edg_bit] at h2
        simp only [Bool.and_eq_true] at h2
        exact h2.1
    · rintro (h | ⟨r, h1, h2, h3⟩)
      · rw [hr] at h; cases h
      · refine Or.inr ⟨r, h1, ?_, h3⟩
        rw [edg_bit, h2]
        simp only [Bool.true_and, Bool.not_eq_true']
        cases hb : (rbe W p d).testBit r with
        | false => rfl
        | true =>
          obtain ⟨k, g1, g2⟩ := rbe_bit.mp hb
          have : (rcm W p (k + 1)).testBit q = true := by
            show (spk W (rcm W p k) 12).testBit q = true
            rw [spk_bit]
            exact Or.inr ⟨r, h1, g2, h3⟩
          rw [rcm_le (by omega) this] at hr
          cases hr
theorem lvl_succ (W : Nat → Nat) (p d q : Nat) : ff (fun k => (rcm W p k).testBit q) (d + 1) 0 = if (edg W p d).testBit q then some d else ff (fun k => (rcm W p k).testBit q) d 0 := by
  rw [ff_succ, Nat.zero_add]
  cases e : ff (fun k => (rcm W p k).testBit q) d 0 with
  | some k =>
    obtain ⟨-, h2, h3, -⟩ := ff_some e
    have : (rbe W p d).testBit q = true := rbe_bit.mpr ⟨k, by omega, h3⟩
    rw [edg_bit, this]
    simp
  | none =>
    have hz : (rbe W p d).testBit q = false := by
      cases hb : (rbe W p d).testBit q with
      | false => rfl
      | true =>
        obtain ⟨k, g1, g2⟩ := rbe_bit.mp hb
        have := ff_none e k (Nat.zero_le _) (by omega)
        rw [g2] at this
        cases this
    rw [edg_bit, hz]
    simp
theorem rcm_stop {W : Nat → Nat} {p d : Nat} (h : edg W p d = 0) (hd : 0 < d) (j : Nat) : rcm W p (d + j) = rcm W p d := by
  have h0 : rcm W p d = rbe W p d := by
    have := rbe_or W p d
    rw [h, Nat.or_zero] at this
    exact this.symm
  obtain ⟨e, rfl⟩ : ∃ e, d = e + 1 := ⟨d - 1, by omega⟩
  have h1 : rcm W p (e + 1) = rcm W p e := h0
  have key : ∀ j, rcm W p (e + j) = rcm W p e := by
    intro j
    induction j with
    | zero => rfl
    | succ j ih =>
      show spr W (rcm W p (e + j)) = rcm W p e
      rw [ih]
      exact h1
  rw [show e + 1 + j = e + (1 + j) from by omega, key, h1]
theorem edg_zero_ff {W : Nat → Nat} {p d q n : Nat} (h : edg W p d = 0) (hd : 0 < d) (hn : d ≤ n) : ff (fun k => (rcm W p k).testBit q) n 0 = ff (fun k => (rcm W p k).testBit q) d 0 := by
  obtain ⟨j, rfl⟩ : ∃ j, n = d + j := ⟨n - d, by omega⟩
  induction j with
  | zero => rfl
  | succ j ih =>
    rw [show d + (j + 1) = (d + j) + 1 from by omega, lvl_succ, ih (by omega)]
    have : edg W p (d + j) = 0 := by
      apply zero_of_bits
      intro q
      rw [edg_bit, rcm_stop h hd]
      cases hb : (rcm W p d).testBit q with
      | false => rfl
      | true =>
        rcases Nat.eq_zero_or_pos j with e | e
        · subst e
          have h2 := edg_bit W p d q
          rw [h, Nat.zero_testBit, hb] at h2
          simpa using h2.symm
        · have : (rbe W p (d + j)).testBit q = true := rbe_bit.mpr ⟨d, by omega, hb⟩
          rw [this]
          rfl
    rw [this, Nat.zero_testBit]
    rfl
/-! ===== a row of the distances ===== -/
def ri (p i : Nat) (f old : Nat → Int32) : Nat → Int32 := fun j => if p * 12 ≤ j ∧ j < p * 12 + i then f (j - p * 12) else old j
theorem ri_0 (p : Nat) (f old : Nat → Int32) : ri p 0 f old = old := by
  funext j
  unfold ri
  rw [if_neg (by omega)]
theorem ri_s (p i : Nat) (f old : Nat → Int32) : upd (ri p i f old) (p * 12 + i) (f i) = ri p (i + 1) f old := by
  funext j
  by_cases h : j = p * 12 + i
  · subst h
    rw [pk_us]
    unfold ri
    rw [if_pos (by omega), show p * 12 + i - p * 12 = i from by omega]
  · rw [pk_un h]
    unfold ri
    by_cases g : p * 12 ≤ j ∧ j < p * 12 + i
    · rw [if_pos g, if_pos (by omega)]
    · rw [if_neg g, if_neg (by omega)]
theorem ri_u (p i : Nat) (hi : i < 12) (x : Int32) (f old : Nat → Int32) : upd (ri p 12 f old) (p * 12 + i) x = ri p 12 (fun r => if r = i then x else f r) old := by
  funext j
  by_cases h : j = p * 12 + i
  · subst h
    rw [pk_us]
    unfold ri
    rw [if_pos (by omega), show p * 12 + i - p * 12 = i from by omega]
    simp
  · rw [pk_un h]
    unfold ri
    by_cases g : p * 12 ≤ j ∧ j < p * 12 + 12
    · rw [if_pos g, if_pos g]
      show f (j - p * 12) = if j - p * 12 = i then x else f (j - p * 12)
      rw [if_neg (by omega)]
    · rw [if_neg g, if_neg g]
theorem ri_congr {p i : Nat} {f g old : Nat → Int32} (h : ∀ r, r < i → f r = g r) : ri p i f old = ri p i g old := by
  funext j
  unfold ri
  by_cases q : p * 12 ≤ j ∧ j < p * 12 + i
  · rw [if_pos q, if_pos q, h _ (by omega)]
  · rw [if_neg q, if_neg q]
theorem n_mul12 (p : Nat) : nI p * (12 : Int32) = nI (p * 12) := pk_mul p 12
theorem n12 : (12 : Int32) = nI 12 := rfl
theorem p_measureFrom {W : Nat → Nat} {P p : Nat} {old : Nat → Int32} (hW : wok P W) (hP : P ≤ 12) (hp : p < 12) (hpP : p < P ∨ W p = 0) : fX5_measureFrom (nf W) old (nI p) = some (ri p 12 (fun q => dv (ds W p q)) old) := by
  have hlt : ∀ d, rcm W p d < 2 ^ 12 := by
    intro d
    rcases hpP with h | h
    · exact Nat.lt_of_lt_of_le (rcm_lt hW h) (Nat.pow_le_pow_right (by decide) hP)
    · induction d with
      | zero => exact Nat.pow_lt_pow_right (by decide) hp
      | succ d ih => exact spk_lt (P := 12) ⟨fun p => Nat.lt_of_lt_of_le (hW.1 p) (Nat.pow_le_pow_right (by decide) hP), hW.2.1, hW.2.2⟩ ih
  have hlt2 : ∀ d, edg W p d < 2 ^ 12 := fun d => nd_lt (hlt d)
  unfold fX5_measureFrom
  simp only [vlet]
  rw [n_mul12, n_pw (by omega)]
  -- the first loop
  refine lq2 (fun i => nI i) (fun i => ri p i (fun _ => (-1 : Int32)) old) 12 rfl (ri_0 _ _ _).symm (fun i hi ag => ?_) (fun ag => ?_) 400 (by omega)
  · rw [if_neg (by rw [n12, nle (by omega) (by omega)]; omega)]
    simp only [nI_add, nI_1]
    rw [if_n (nin (k := p * 12 + i) (N := 144) (by omega) (by omega)), nc (n := p * 12 + i) (by omega), ri_s]
  · rw [if_pos (by rw [n12, nle (by omega) (by omega)]; omega)]
    -- the levels
    have hN : ∃ N, N ≤ 12 ∧ (∀ i, i < N → edg W p i ≠ 0) ∧ (N = 12 ∨ edg W p N = 0) := by
      cases e : ff (fun d => edg W p d == 0) 12 0 with
      | none => exact ⟨12, Nat.le_refl _, fun i hi => by have := ff_none e i (Nat.zero_le _) (by omega); simpa using this, Or.inl rfl⟩
      | some q =>
        obtain ⟨-, h2, h3, h4⟩ := ff_some e
        exact ⟨q, by omega, fun i hi => by have := h4 i (Nat.zero_le _) hi; simpa using this, Or.inr (by simpa using h3)⟩
    obtain ⟨N, hN1, hN2, hN3⟩ := hN
    have e1 : nI (2 ^ p) = nI (edg W p 0) := by simp [edg, rbe, rcm, nd]
    refine lq4 (fun i => nI (rbe W p i)) (fun i => nI (edg W p i)) (fun i => nI i) (fun i => ri p 12 (fun q => dv (ff (fun k => (rcm W p k).testBit q) i 0)) old) N rfl e1 rfl rfl (fun i hi ag => ?_) (fun ag => ?_) 400 (by omega)
    · have hne := hN2 i hi
      have hl := hlt2 i
      rw [if_neg (by rw [n12, nle (by omega) (by omega)]; omega), if_neg (by rw [n_ne0 (by omega)]; exact hne)]
      refine lq2 (fun j => nI j) (fun j => ri p 12 (fun r => if r < j ∧ (edg W p i).testBit r = true then nI i else dv (ff (fun k => (rcm W p k).testBit r) i 0)) old) 12 rfl (ri_congr (fun r _ => by rw [if_neg (by omega)])) (fun j hj ag2 => ?_) (fun ag2 => ?_) 400 (by omega)
      · rw [if_neg (by rw [n12, nle (by omega) (by omega)]; omega), p_hasBit (by omega) (by omega)]
        simp only [bo1, jo1, nI_add, nI_1, b01]
        rw [if_n (nin (k := p * 12 + j) (N := 144) (by omega) (by omega)), nc (n := p * 12 + j) (by omega), ri_u p j hj]
        by_cases hb : (edg W p i).testBit j = true
        · rw [if_neg (by simp [hb])]
          congr 1
          apply ri_congr
          intro r hr
          by_cases e : r = j
          · subst e; rw [if_pos rfl, if_pos ⟨by omega, hb⟩]
          · rw [if_neg e]
            by_cases g : r < j ∧ (edg W p i).testBit r = true
            · rw [if_pos g, if_pos ⟨by omega, g.2⟩]
            · rw [if_neg g, if_neg (fun q => g ⟨by omega, q.2⟩)]
        · rw [if_pos (by simpa using hb)]
          congr 1
          apply ri_congr
          intro r hr
          by_cases g : r < j ∧ (edg W p i).testBit r = true
          · rw [if_pos g, if_pos ⟨by omega, g.2⟩]
          · rw [if_neg g, if_neg (fun q => g ⟨by
              rcases Nat.lt_or_ge r j with a | a
              · exact a
              · have : r = j := by omega
                subst this
                exact absurd q.2 hb, q.2⟩)]
      · rw [if_pos (by rw [n12, nle (by omega) (by omega)]; omega), p_spread (P := 12) (Nat.le_refl _) hl]
        simp only [bo1, n_or]
        rw [rbe_or, n_not, edg_succ, nI_1]
        congr 1
        apply ri_congr
        intro r hr
        rw [lvl_succ]
        by_cases g : (edg W p i).testBit r = true
        · rw [if_pos ⟨hr, g⟩, if_pos g]; rfl
        · rw [if_neg (fun q => g q.2), if_neg g]
    · have fin : some (ri p 12 (fun q => dv (ff (fun k => (rcm W p k).testBit q) N 0)) old) = some (ri p 12 (fun q => dv (ds W p q)) old) := by
        congr 1
        apply ri_congr
        intro r hr
        rcases hN3 with h | h
        · rw [h]; rfl
        · congr 1
          have hpos : 0 < N := by
            rcases Nat.eq_zero_or_pos N with z | z
            · subst z
              exfalso
              have e1 : edg W p 0 = 2 ^ p := by simp [edg, rbe, rcm, nd]
              rw [e1] at h
              exact absurd h (by have := pw_pos p; omega)
            · exact z
          exact (edg_zero_ff h hpos hN1).symm
      rcases hN3 with h | h
      · rw [if_pos (by rw [n12, nle (by omega) (by omega)]; omega)]
        exact fin
      · by_cases g : N = 12
        · rw [if_pos (by rw [n12, nle (by omega) (by omega)]; omega)]
          exact fin
        · rw [if_neg (by rw [n12, nle (by omega) (by omega)]; omega), if_pos (by rw [n_ne0 (by have := hlt2 N; omega)]; exact h)]
          exact fin
