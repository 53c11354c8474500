/-! ===== the fewest who must tell ===== -/
theorem utk_bit (L : Nat → Nat) (d m i q : Nat) : (utk L d m i).testBit q = true ↔ d.testBit q = true ∧ ∀ j, j < i → m.testBit j = true → L j ≠ q := by
  induction i with
  | zero => simp [utk]
  | succ i ih =>
    rw [utk_s]
    by_cases hb : m.testBit i = true
    · rw [if_pos hb, nd_bit, Nat.testBit_two_pow]
      simp only [Bool.and_eq_true, Bool.not_eq_true', decide_eq_false_iff_not]
      rw [ih]
      constructor
      · rintro ⟨⟨h1, h2⟩, h3⟩
        refine ⟨h1, fun j hj hm => ?_⟩
        by_cases e : j = i
        · subst e; exact h3
        · exact h2 j (by omega) hm
      · rintro ⟨h1, h2⟩
        exact ⟨⟨h1, fun j hj hm => h2 j (by omega) hm⟩, h2 i (by omega) hb⟩
    · rw [if_neg hb, ih]
      constructor
      · rintro ⟨h1, h2⟩
        refine ⟨h1, fun j hj hm => ?_⟩
        by_cases e : j = i
        · subst e; exact absurd hm hb
        · exact h2 j (by omega) hm
      · rintro ⟨h1, h2⟩
        exact ⟨h1, fun j hj hm => h2 j (by omega) hm⟩
/-- the first at a place of d -/
def fst_ (L : Nat → Nat) (d o : Nat) : Bool := d.testBit (L o) && (ff (fun j => L j == L o) o 0).isNone
theorem fst_iff (L : Nat → Nat) (d o : Nat) : fst_ L d o = true ↔ d.testBit (L o) = true ∧ ∀ j, j < o → L j ≠ L o := by
  unfold fst_
  rw [Bool.and_eq_true, Option.isNone_iff_eq_none]
  constructor
  · rintro ⟨h1, h2⟩
    refine ⟨h1, fun j hj e => ?_⟩
    have := ff_none h2 j (Nat.zero_le _) (by omega)
    simp [e] at this
  · rintro ⟨h1, h2⟩
    refine ⟨h1, ff_non (fun j _ hj => ?_)⟩
    have := h2 j (by omega)
    simpa using this
theorem utk_all (L : Nat → Nat) (d n i : Nat) (hi : i < n) : (utk L d (2 ^ n - 1) i).testBit (L i) = fst_ L d i := by
  apply bool_ext
  rw [utk_bit, fst_iff]
  constructor
  · rintro ⟨h1, h2⟩
    exact ⟨h1, fun j hj => h2 j hj (by rw [full_bit]; exact decide_eq_true (by omega))⟩
  · rintro ⟨h1, h2⟩
    exact ⟨h1, fun j hj _ => h2 j hj⟩
theorem nd_no {x q : Nat} (h : x.testBit q = false) : nd x (2 ^ q) = x := by
  apply Nat.eq_of_testBit_eq
  intro i
  rw [nd_bit, Nat.testBit_two_pow]
  by_cases e : q = i
  · subst e; simp [h]
  · simp [e]
theorem utk_lt {L : Nat → Nat} {d m P : Nat} (h : d < 2 ^ P) (i : Nat) : utk L d m i < 2 ^ P := by
  induction i with
  | zero => exact h
  | succ i ih =>
    rw [utk_s]
    by_cases hb : m.testBit i = true
    · rw [if_pos hb]; exact nd_lt ih
    · rw [if_neg hb]; exact ih
theorem pc_s (m k : Nat) : pc m (k + 1) = pc m k + (if m.testBit k then 1 else 0) := rfl
theorem pc_nd_ge (x q k : Nat) (h : k ≤ q) : pc (nd x (2 ^ q)) k = pc x k := by
  induction k with
  | zero => rfl
  | succ k ih =>
    rw [pc_s, pc_s, ih (by omega), nd_bit, Nat.testBit_two_pow, decide_eq_false (by omega)]
    simp
theorem pc_nd (x q k : Nat) (h : q < k) : pc (nd x (2 ^ q)) k + (if x.testBit q then 1 else 0) = pc x k := by
  induction k with
  | zero => omega
  | succ k ih =>
    by_cases e : q = k
    · subst e
      rw [pc_s, pc_s, pc_nd_ge x q q (Nat.le_refl _), nd_bit, Nat.testBit_two_pow_self]
      simp
    · rw [pc_s, pc_s, nd_bit, Nat.testBit_two_pow, decide_eq_false e]
      have := ih (by omega)
      simp only [Bool.not_false, Bool.and_true]
      omega
theorem pc_utk_le {L : Nat → Nat} {d m n : Nat} (hL : ∀ p, p < n → L p < 12) : ∀ i, i ≤ n → pc d 12 ≤ pc (utk L d m i) 12 + cnt (fun j => m.testBit j) i := by
  intro i
  induction i with
  | zero => intro _; exact Nat.le_refl _
  | succ i ih =>
    intro hi
    have h1 := ih (by omega)
    have h2 := pc_nd (utk L d m i) (L i) 12 (hL i (by omega))
    rw [utk_s, cnt_s]
    by_cases hb : m.testBit i = true
    · rw [if_pos hb, if_pos hb]
      by_cases hc : (utk L d m i).testBit (L i) = true
      · rw [if_pos hc] at h2; omega
      · rw [if_neg hc] at h2; omega
    · rw [if_neg hb, if_neg hb]; omega
theorem pc_utk_all {L : Nat → Nat} {d n : Nat} (hL : ∀ p, p < n → L p < 12) : ∀ i, i ≤ n → pc d 12 = pc (utk L d (2 ^ n - 1) i) 12 + cnt (fst_ L d) i := by
  intro i
  induction i with
  | zero => intro _; rfl
  | succ i ih =>
    intro hi
    have h1 := ih (by omega)
    have h2 := pc_nd (utk L d (2 ^ n - 1) i) (L i) 12 (hL i (by omega))
    rw [utk_all L d n i (by omega)] at h2
    rw [utk_s, cnt_s, full_bit, decide_eq_true (by omega), if_pos rfl]
    omega
theorem top_bit : ∀ (a b : Nat), a < b → ∃ i, a.testBit i = false ∧ b.testBit i = true ∧ ∀ j, i < j → a.testBit j = b.testBit j := by
  intro a
  induction a using Nat.strongRecOn with
  | ind a ih =>
    intro b hab
    by_cases e : a / 2 = b / 2
    · refine ⟨0, ?_, ?_, fun j hj => ?_⟩
      · rw [Nat.testBit_zero]; simp; omega
      · rw [Nat.testBit_zero]; simp; omega
      · obtain ⟨j, rfl⟩ : ∃ k, j = k + 1 := ⟨j - 1, by omega⟩
        rw [Nat.testBit_succ, Nat.testBit_succ, e]
    · by_cases a0 : a = 0
      · subst a0
        have hb : b ≠ 0 := by omega
        refine ⟨b.log2, Nat.zero_testBit _, Nat.testBit_log2 hb, fun j hj => ?_⟩
        rw [Nat.zero_testBit, Nat.testBit_lt_two_pow]
        exact Nat.lt_of_lt_of_le Nat.lt_log2_self (Nat.pow_le_pow_right (by decide) hj)
      · obtain ⟨i, h1, h2, h3⟩ := ih (a / 2) (by omega) (b / 2) (by omega)
        refine ⟨i + 1, by rw [Nat.testBit_succ]; exact h1, by rw [Nat.testBit_succ]; exact h2, fun j hj => ?_⟩
        obtain ⟨j, rfl⟩ : ∃ k, j = k + 1 := ⟨j - 1, by omega⟩
        rw [Nat.testBit_succ, Nat.testBit_succ]
        exact h3 j (by omega)
/-- those who must tell that p is found -/
def tlr (K L : Nat → Nat) (n p : Nat) : Nat := pm (fst_ L (nd (dkm (fun p => dk (K p)) L n) (2 ^ L p))) n
theorem p_tellersFor {kf af : Nat → Int32} {K L : Nat → Nat} {n p P : Nat} (hP : P ≤ 12) (hn : n ≤ 8) (hp : p < n) (hk : ag n kf K) (hl : ag n af L) (hK : ∀ p, p < n → K p < 6) (hL : ∀ p, p < n → L p < P) : fX5_tellersFor (nI n) kf af (nI p) = some (nI (tlr K L n p)) := by
  have hL12 : ∀ p, p < n → L p < 12 := fun p hp => Nat.lt_of_lt_of_le (hL p hp) hP
  have hLp := hL12 p hp
  unfold fX5_tellersFor
  simp only [p_darkPlaces hn hk hl hK hL12, bo1, bo2, bo3, bo4, bo5, bo6, bo7, bo12, jo0, jo1, vlet, i10, i00, if_true, if_false, ite_self, n1z, n0z, if_n (nin (k := p) (N := 8) (by omega) (by omega)), if_n (nin2 (k := p) (N := 8) (by omega) (by omega)), nc (n := p) (by omega), hl p hp, n_pw (k := L p) (by omega), n_not]
  refine lq3 (fun i => nI (utk L (nd (dkm (fun p => dk (K p)) L n) (2 ^ L p)) (2 ^ n - 1) i)) (fun i => nI (pm (fst_ L (nd (dkm (fun p => dk (K p)) L n) (2 ^ L p))) i)) (fun i => nI i) n rfl rfl rfl (fun i hi g => ?_) (fun g => ?_) 400 (by omega)
  · have h1 := hL12 i hi
    have h2 : utk L (nd (dkm (fun p => dk (K p)) L n) (2 ^ L p)) (2 ^ n - 1) i < 4096 := Nat.lt_of_lt_of_le (utk_lt (nd_lt (dkm_lt hL)) i) (pw_lt hP)
    have h3 := utk_all L (nd (dkm (fun p => dk (K p)) L n) (2 ^ L p)) n i hi
    rw [utk_s, full_bit, decide_eq_true hi, if_pos rfl]
    simp only [nle (a := n) (b := i) (by omega) (by omega), show ¬ n ≤ i from by omega, bo1, bo2, bo3, bo4, bo5, bo6, bo7, bo12, jo0, jo1, vlet, i10, i00, if_true, if_false, ite_self, n1z, n0z, jo2, if_n (nin (k := i) (N := 8) (by omega) (by omega)), if_n (nin2 (k := i) (N := 8) (by omega) (by omega)), nc (n := i) (by omega), hl i hi, p_hasBit (m := utk L (nd (dkm (fun p => dk (K p)) L n) (2 ^ L p)) (2 ^ n - 1) i) (k := L i) (by omega) (by omega), b01, n_pw (k := L i) (by omega), n_pw (k := i) (by omega), n_not, n_or, nI_1, pm_s, h3]
    by_cases e : fst_ L (nd (dkm (fun p => dk (K p)) L n) (2 ^ L p)) i = true
    · simp only [e, Bool.true_eq_false, if_true, if_false]
    · have e' : fst_ L (nd (dkm (fun p => dk (K p)) L n) (2 ^ L p)) i = false := by simpa using e
      rw [nd_no (x := utk L (nd (dkm (fun p => dk (K p)) L n) (2 ^ L p)) (2 ^ n - 1) i) (q := L i) (h3.trans e')]
      simp only [e', if_true, if_false, Bool.false_eq_true]
  · rw [if_pos (Int32.le_refl _)]; rfl
/-- alone in the dark that p makes -/
theorem jnd_f {K L : Nat → Nat} {n p : Nat} (hj : jnd K L n p = false) : ∀ o, o < n → dk (K o) = true → L o = L p → o = p := by
  intro o ho hd he
  unfold jnd at hj
  cases e : ff (fun o => !(o == p) && (L o == L p) && dk (K o)) n 0 with
  | some r => rw [e] at hj; cases hj
  | none =>
    have := ff_none e o (Nat.zero_le _) (by omega)
    simp only [he, hd, Bool.and_true, beq_self_eq_true, Bool.not_eq_false', beq_iff_eq] at this
    exact this
theorem dk_self {K L : Nat → Nat} {n p : Nat} (hp : p < n) (hd : dk (K p) = true) : (dkm (fun p => dk (K p)) L n).testBit (L p) = true := (dkm_bit _ _ _ _).2 ⟨p, hp, hd, rfl⟩
theorem tlr_bit {K L : Nat → Nat} {n p o : Nat} : (tlr K L n p).testBit o = true ↔ o < n ∧ (dkm (fun p => dk (K p)) L n).testBit (L o) = true ∧ L o ≠ L p ∧ ∀ j, j < o → L j ≠ L o := by
  unfold tlr
  rw [pm_bit, Bool.and_eq_true, decide_eq_true_eq, fst_iff, nd_bit, Nat.testBit_two_pow, Bool.and_eq_true, Bool.not_eq_true', decide_eq_false_iff_not]
  constructor
  · rintro ⟨h1, ⟨h2, h3⟩, h4⟩; exact ⟨h1, h2, fun e => h3 e.symm, h4⟩
  · rintro ⟨h1, h2, h3, h4⟩; exact ⟨h1, ⟨h2, fun e => h3 e.symm⟩, h4⟩
/-- by them p is found -/
theorem tlr_ok {K L : Nat → Nat} {n p : Nat} (hp : p < n) (hd : dk (K p) = true) : utk L (dkm (fun p => dk (K p)) L n) (tlr K L n p) n = 2 ^ L p := by
  apply Nat.eq_of_testBit_eq
  intro q
  apply bool_ext
  rw [utk_bit, Nat.testBit_two_pow, decide_eq_true_eq]
  constructor
  · rintro ⟨h1, h2⟩
    by_cases e : L p = q
    · exact e
    · exfalso
      obtain ⟨o, ho, _, hq⟩ := (dkm_bit _ _ _ _).1 h1
      cases ef : ff (fun j => L j == q) n 0 with
      | none =>
        have := ff_none ef o (Nat.zero_le _) (by omega)
        simp [hq] at this
      | some r =>
        obtain ⟨-, r2, r3, r4⟩ := ff_some ef
        have r3' : L r = q := by simpa using r3
        refine h2 r (by omega) (tlr_bit.2 ⟨by omega, by rw [r3']; exact h1, by rw [r3']; exact fun x => e x.symm, fun j hj x => ?_⟩) r3'
        have := r4 j (Nat.zero_le _) hj
        simp [x, r3'] at this
  · rintro rfl
    refine ⟨dk_self hp hd, fun j hj hm e => ?_⟩
    exact (tlr_bit.1 hm).2.2.1 e
/-- no set below them does -/
theorem tlr_le {K L : Nat → Nat} {n p s : Nat} (hp : p < n) (hs : utk L (dkm (fun p => dk (K p)) L n) s n = 2 ^ L p) : tlr K L n p ≤ s := by
  apply Nat.le_of_not_lt
  intro hlt
  obtain ⟨i, h1, h2, h3⟩ := top_bit _ _ hlt
  obtain ⟨g1, g2, g3, g4⟩ := tlr_bit.1 h2
  have : (utk L (dkm (fun p => dk (K p)) L n) s n).testBit (L i) = false := by
    rw [hs, Nat.testBit_two_pow]
    exact decide_eq_false (fun e => g3 e.symm)
  have hne : ¬ (utk L (dkm (fun p => dk (K p)) L n) s n).testBit (L i) = true := by rw [this]; decide
  apply hne
  rw [utk_bit]
  refine ⟨g2, fun j hj hm e => ?_⟩
  rcases Nat.lt_trichotomy j i with c | c | c
  · exact g4 j c e
  · subst c; rw [h1] at hm; cases hm
  · rw [h3 j c] at hm
    exact (tlr_bit.1 hm).2.2.2 i c e.symm
/-- none with fewer -/
theorem tlr_few {K L : Nat → Nat} {n p s : Nat} (hn : n ≤ 12) (hp : p < n) (hd : dk (K p) = true) (hL : ∀ p, p < n → L p < 12) (hs8 : s < 2 ^ n) (hs : utk L (dkm (fun p => dk (K p)) L n) s n = 2 ^ L p) : pc (tlr K L n p) 12 ≤ pc s 12 := by
  have h1 := pc_utk_le (d := dkm (fun p => dk (K p)) L n) (m := s) hL n (Nat.le_refl _)
  rw [hs] at h1
  have h2 := pc_utk_all (d := nd (dkm (fun p => dk (K p)) L n) (2 ^ L p)) hL n (Nat.le_refl _)
  have h3 : utk L (nd (dkm (fun p => dk (K p)) L n) (2 ^ L p)) (2 ^ n - 1) n = 0 := by
    apply Nat.eq_of_testBit_eq
    intro q
    rw [Nat.zero_testBit]
    apply Bool.eq_false_iff.2
    intro e
    rw [utk_bit, nd_bit, Bool.and_eq_true] at e
    obtain ⟨o, ho, _, hq⟩ := (dkm_bit _ _ _ _).1 e.1.1
    exact e.2 o ho (by rw [full_bit]; exact decide_eq_true ho) hq
  rw [h3] at h2
  have h4 := pc_nd (dkm (fun p => dk (K p)) L n) (L p) 12 (hL p hp)
  rw [if_pos (dk_self hp hd)] at h4
  have h5 : pc (2 ^ L p) 12 = 1 := by
    have := pc_nd (2 ^ L p) (L p) 12 (hL p hp)
    rw [Nat.testBit_two_pow_self, if_pos rfl] at this
    rw [← this]
    have : nd (2 ^ L p) (2 ^ L p) = 0 := by
      apply Nat.eq_of_testBit_eq
      intro i
      rw [nd_bit]; simp
    rw [this]; rfl
  have h6 : pc s 12 = cnt (fun j => s.testBit j) n := by
    rw [pc_cnt]
    exact cnt_cut hn (fun q _ => by
      by_cases g : q < n
      · simp [g]
      · rw [Nat.testBit_lt_two_pow (Nat.lt_of_lt_of_le hs8 (Nat.pow_le_pow_right (by decide) (by omega)))]; simp)
  unfold tlr
  rw [pc_pm hn, h6]
  rw [h5] at h1
  have h7 : pc 0 12 = 0 := by decide
  omega
theorem tlr_lt (K L : Nat → Nat) (n p : Nat) : tlr K L n p < 2 ^ n := pm_lt _ _
theorem tlr_not {K L : Nat → Nat} {n p : Nat} : (tlr K L n p).testBit p = false := by
  apply Bool.eq_false_iff.2
  intro e
  exact (tlr_bit.1 e).2.2.1 rfl
theorem nm1 {k : Nat} (h : k ≤ 1000) : (nI k = (-1 : Int32)) = False := n_neg1 (by omega)
theorem mm1 : ((-1 : Int32) = (-1 : Int32)) = True := by decide
theorem pc_12 (m : Nat) : pc m 12 ≤ 12 := by rw [pc_cnt]; exact cnt_le _ _
theorem tt_find {x_now_places : Int32} {x_now_people : Int32} {x_now_hour : Int32} {x_now_chance : Int32} {x_now_seed : Int32} {x_now_ways : Nat → Int32} {x_now_distances : Nat → Int32} {x_now_kind : Nat → Int32} {x_now_a : Nat → Int32} {x_now_home : Nat → Int32} {x_now_aim : Nat → Int32} {x_now_at : Nat → Int32} {x_kept_places : Int32} {x_kept_people : Int32} {x_kept_hour : Int32} {x_kept_chance : Int32} {x_kept_seed : Int32} {x_kept_ways : Nat → Int32} {x_kept_distances : Nat → Int32} {x_kept_kind : Nat → Int32} {x_kept_a : Nat → Int32} {x_kept_home : Nat → Int32} {x_kept_aim : Nat → Int32} {x_kept_at : Nat → Int32} {x_isKept : Int32} {x_shelves_c : Nat → Int32} {x_shelves_z : Nat → Int32} {x_shelves_e : Nat → Nat → Int64} {x_tape_size : Int32} {x_tape_bytes : Nat → Int32} {x_refusals : Nat → Int32} {m_places : Int32} {m_people : Int32} {m_hour : Int32} {m_chance : Int32} {m_seed : Int32} {m_ways : Nat → Int32} {m_kind : Nat → Int32} {m_by : Nat → Int32} {m_home : Nat → Int32} {m_aim : Nat → Int32} {m_at0 : Nat → Int32} {m_shelf : Nat → Int32} {m_rowSort : Nat → Int32} {m_rowSize : Nat → Int32} {m_rows : Nat → Nat → Int64} {m_shown : Nat → Int32} {m_tape : Nat → Int32} {m_tapeSize : Int32} {m_refused : Nat → Int32} {m_gone : Int32} {m_kept_places : Int32} {m_kept_people : Int32} {m_kept_hour : Int32} {m_kept_chance : Int32} {m_kept_seed : Int32} {m_kept_ways : Nat → Int32} {m_kept_kind : Nat → Int32} {m_kept_by : Nat → Int32} {m_kept_home : Nat → Int32} {m_kept_aim : Nat → Int32} {m_kept_at0 : Nat → Int32} {kb : Bool} (x_future_places : Int32) (x_future_people : Int32) (x_future_hour : Int32) (x_future_chance : Int32) (x_future_seed : Int32) (x_future_ways : Nat → Int32) (x_future_distances : Nat → Int32) (x_future_kind : Nat → Int32) (x_future_a : Nat → Int32) (x_future_home : Nat → Int32) (x_future_aim : Nat → Int32) (x_future_at : Nat → Int32) (m_now : Int32) (m_steps : Nat → Int32) (m_spot : Nat → Int32) (m_then : Nat → Int32) (p0 : Int32) (p1 : Int32) (p2 : Int32) (R : Rel kb x_now_places x_now_people x_now_hour x_now_chance x_now_seed x_now_ways x_now_distances x_now_kind x_now_a x_now_home x_now_aim x_now_at x_kept_places x_kept_people x_kept_hour x_kept_chance x_kept_seed x_kept_ways x_kept_distances x_kept_kind x_kept_a x_kept_home x_kept_aim x_kept_at x_isKept x_shelves_c x_shelves_z x_shelves_e x_tape_size x_tape_bytes x_refusals m_places m_people m_hour m_chance m_seed m_ways m_kind m_by m_home m_aim m_at0 m_shelf m_rowSort m_rowSize m_rows m_shown m_tape m_tapeSize m_refused m_gone m_kept_places m_kept_people m_kept_hour m_kept_chance m_kept_seed m_kept_ways m_kept_kind m_kept_by m_kept_home m_kept_aim m_kept_at0) : ∃ (r : Int32) (y_future_places : Int32) (y_future_people : Int32) (y_future_hour : Int32) (y_future_chance : Int32) (y_future_seed : Int32) (y_future_ways : Nat → Int32) (y_future_distances : Nat → Int32) (y_future_kind : Nat → Int32) (y_future_a : Nat → Int32) (y_future_home : Nat → Int32) (y_future_aim : Nat → Int32) (y_future_at : Nat → Int32) (y_refusals : Nat → Int32) (z_now : Int32) (z_refused : Nat → Int32) (z_steps : Nat → Int32) (z_spot : Nat → Int32) (z_then : Nat → Int32), fX7_find x_now_places x_now_people x_now_hour x_now_chance x_now_seed x_now_ways x_now_distances x_now_kind x_now_a x_now_home x_now_aim x_now_at x_future_places x_future_people x_future_hour x_future_chance x_future_seed x_future_ways x_future_distances x_future_kind x_future_a x_future_home x_future_aim x_future_at x_refusals p0 p1 p2 = some (r, y_future_places, y_future_people, y_future_hour, y_future_chance, y_future_seed, y_future_ways, y_future_distances, y_future_kind, y_future_a, y_future_home, y_future_aim, y_future_at, y_refusals) ∧ fX8_find m_places m_people m_hour m_now m_gone m_refused m_ways m_kind m_home m_aim m_at0 m_steps m_spot m_then p0 p1 p2 = some (r, z_now, z_refused, z_steps, z_spot, z_then) ∧ Rel kb x_now_places x_now_people x_now_hour x_now_chance x_now_seed x_now_ways x_now_distances x_now_kind x_now_a x_now_home x_now_aim x_now_at x_kept_places x_kept_people x_kept_hour x_kept_chance x_kept_seed x_kept_ways x_kept_distances x_kept_kind x_kept_a x_kept_home x_kept_aim x_kept_at x_isKept x_shelves_c x_shelves_z x_shelves_e x_tape_size x_tape_bytes y_refusals m_places m_people m_hour m_chance m_seed m_ways m_kind m_by m_home m_aim m_at0 m_shelf m_rowSort m_rowSize m_rows m_shown m_tape m_tapeSize z_refused m_gone m_kept_places m_kept_people m_kept_hour m_kept_chance m_kept_seed m_kept_ways m_kept_kind m_kept_by m_kept_home m_kept_aim m_kept_at0 := by
  have R0 := R
  obtain ⟨P, n, h, c, s, W, K, A, H, M, L, T, ⟨rfl, rfl, rfl, rfl, rfl, rfl, xd, xk, xa, xh, xm, xl⟩, ⟨rfl, rfl, rfl, rfl, rfl, rfl, mk, ma, mh, mm, ml⟩, rfl, S, U, V, Z⟩ := R
  obtain ⟨hP2, hP, hn, hW, hK, hH, hM, hL, hho⟩ := id T
  obtain ⟨x2, m2, e1, e2, q⟩ := rf2 V
  have h256 : 2 ^ n ≤ 2 ^ 8 := Nat.pow_le_pow_right (by decide) hn
  rcases cPerson n hn p0 with ⟨p, hp, rfl, a1, a2⟩ | ⟨a1, a2⟩
  · rcases cTime p1 with ⟨t, ht, rfl, b1, b2⟩ | ⟨b1, b2⟩
    · rcases cIn 0 1 0 1 (by decide) (by decide) (by omega) (by omega) p2 with ⟨w, -, hw, hw1, c2⟩ | ⟨c1, c2⟩
      · obtain ⟨af, f1, f2⟩ := p_lookAhead (c := m_chance) (s := m_seed) (bf := x_now_a) T xd xk xh xm xl ht
        obtain ⟨st, sp, tt, f3, f4⟩ := p_goesOn0 (s0 := m_steps) (p0 := m_spot) (t0 := m_then) T mk mh mm ml ht
        have Tt := T.at (fun p => dk (K p)) t
        have Tp := Tt.lt p hp
        obtain ⟨w0, w1, w2⟩ := cWhat2 w p2 hw1 (by omega)
        have w3 : p2 ≤ (1 : Int32) := by rw [hw1]; exact nI_le hw (by decide)
        by_cases d1 : dk (K p) = true
        · by_cases d2 : jnd K (lc W P n K H M (fun p => dk (K p)) h L (t)) n p = true
          · unfold fX7_find fX8_find
            simp only [a1, a2, b1, b2, c2, n1z, n0z, bo1, bo2, bo3, bo4, bo5, bo6, bo7, bo12, jo0, i10, i00, if_true, if_false, ite_self, f1, f3, if_neg w2, if_pos w3, p_darkens hn hp xk hK, p_mdarkens0 hn hp mk hK, b01, d1, Bool.true_eq_false, p_isJoined hn hp xk f2 hK Tt.lt, if_n (nin (k := p) (N := 8) (by omega) (by omega)), if_n (nin2 (k := p) (N := 8) (by omega) (by omega)), nc (n := p) (by omega), f4 p hp, p_isDarkBut0 hn hp mk f4 hK Tt.lt, d2]
            exact ⟨_, _, _, _, _, _, _, _, _, _, _, _, _, _, _, _, _, _, _, rfl, rfl, R0⟩
          · have d2' : jnd K (lc W P n K H M (fun p => dk (K p)) h L (t)) n p = false := by simpa using d2
            have t0 := tlr_lt K (lc W P n K H M (fun p => dk (K p)) h L (t)) n p
            have hx : fX7_find (nI P) (nI n) (nI h) m_chance m_seed (nf W) x_now_distances x_now_kind x_now_a x_now_home x_now_aim x_now_at x_future_places x_future_people x_future_hour x_future_chance x_future_seed x_future_ways x_future_distances x_future_kind x_future_a x_future_home x_future_aim x_future_at x_refusals (nI p) (nI t) p2 = some (if w = 0 then nI (pc (tlr K (lc W P n K H M (fun p => dk (K p)) h L (t)) n p) 12) else nI (tlr K (lc W P n K H M (fun p => dk (K p)) h L (t)) n p), nI P, nI n, nI (hc h (t)), m_chance, m_seed, nf W, x_now_distances, x_now_kind, x_now_a, x_now_home, x_now_aim, af, x_refusals) := by
              unfold fX7_find
              simp only [a1, b1, n1z, n0z, bo1, bo2, bo3, bo4, bo5, bo6, bo7, bo12, jo0, i10, i00, if_true, if_false, ite_self, f1, if_neg w2, if_pos w3, p_darkens hn hp xk hK, b01, d1, Bool.true_eq_false, p_isJoined hn hp xk f2 hK Tt.lt, d2', p_tellersFor hP hn hp xk f2 hK Tt.2.2.2.2.2.2.2.1, p_bitCount _ (show tlr K (lc W P n K H M (fun p => dk (K p)) h L (t)) n p < 4096 by omega), w0]
              by_cases e : w = 0
              · simp only [e, bo1, bo2, bo3, bo4, bo5, bo6, bo7, bo12, jo0, jo1, vlet, i10, i00, if_true, if_false, ite_self, n1z, n0z]
              · simp only [e, bo1, bo2, bo3, bo4, bo5, bo6, bo7, bo12, jo0, jo1, vlet, i10, i00, if_true, if_false, ite_self, n1z, n0z]
            have hm : fX8_find (nI P) (nI n) (nI h) m_now (-1) m_refused (nf W) m_kind m_home m_aim m_at0 m_steps m_spot m_then (nI p) (nI t) p2 = some (if w = 0 then nI (pc (tlr K (lc W P n K H M (fun p => dk (K p)) h L (t)) n p) 12) else nI (tlr K (lc W P n K H M (fun p => dk (K p)) h L (t)) n p), nI (hc h t), m_refused, st, sp, tt) := by
              unfold fX8_find
              simp only [a2, b2, c2, n1z, n0z, bo1, bo2, bo3, bo4, bo5, bo6, bo7, bo12, jo0, i10, i00, if_true, if_false, ite_self, f3, p_mdarkens0 hn hp mk hK, b01, d1, Bool.true_eq_false, if_n (nin (k := p) (N := 8) (by omega) (by omega)), if_n (nin2 (k := p) (N := 8) (by omega) (by omega)), nc (n := p) (by omega), f4 p hp, p_isDarkBut0 hn hp mk f4 hK Tt.lt, d2', n_pw (k := n) (by omega), n_pw (k := (lc W P n K H M (fun p => dk (K p)) h L (t)) p) (by omega)]
              refine lph2 (Φ := fun o => o = some (if w = 0 then nI (pc (tlr K (lc W P n K H M (fun p => dk (K p)) h L (t)) n p) 12) else nI (tlr K (lc W P n K H M (fun p => dk (K p)) h L (t)) n p), nI (hc h t), m_refused, st, sp, tt)) (fun i a b => a = (if tlr K (lc W P n K H M (fun p => dk (K p)) h L (t)) n p < i then nI (tlr K (lc W P n K H M (fun p => dk (K p)) h L (t)) n p) else (-1 : Int32)) ∧ b = nI i) (2 ^ n) ⟨(if_neg (by omega)).symm, rfl⟩ (fun i hi a b z => ?_) (fun a b z g => ?_) 400 (by omega)
              · obtain ⟨rfl, rfl⟩ := z
                refine ⟨_, _, ⟨rfl, rfl⟩, fun g => ?_⟩
                have un := p_untoldBy (m := i) hP hn mk f4 hK Tt.2.2.2.2.2.2.2.1 hi
                have hu : utk (lc W P n K H M (fun p => dk (K p)) h L (t)) (dkm (fun p => dk (K p)) (lc W P n K H M (fun p => dk (K p)) h L (t)) n) i n < 4096 := Nat.lt_of_lt_of_le (utk_lt (dkm_lt Tt.2.2.2.2.2.2.2.1) n) (pw_lt hP)
                have h2p : 2 ^ (lc W P n K H M (fun p => dk (K p)) h L (t)) p ≤ 4096 := pw_lt (by omega)
                have p1 := pc_12 i
                have p2 := pc_12 (tlr K (lc W P n K H M (fun p => dk (K p)) h L (t)) n p)
                simp only [nle (a := 2 ^ n) (b := i) (by omega) (by omega), show ¬ 2 ^ n ≤ i from by omega, bo1, bo2, bo3, bo4, bo5, bo6, bo7, bo12, jo0, jo1, vlet, i10, i00, if_true, if_false, ite_self, n1z, n0z, n_bit0 (m := i) (k := p) (by omega) (by omega), un, neq (a := utk (lc W P n K H M (fun p => dk (K p)) h L (t)) (dkm (fun p => dk (K p)) (lc W P n K H M (fun p => dk (K p)) h L (t)) n) i n) (b := 2 ^ (lc W P n K H M (fun p => dk (K p)) h L (t)) p) (by omega) (by omega), nI_1, p_bits i (by omega)]
                by_cases g1 : tlr K (lc W P n K H M (fun p => dk (K p)) h L (t)) n p < i
                · simp only [g1, show tlr K (lc W P n K H M (fun p => dk (K p)) h L (t)) n p < i + 1 from by omega, n1z, n0z, bo1, bo2, bo3, bo4, bo5, bo6, bo7, bo12, jo0, i10, i00, if_true, if_false, ite_self, nm1 (k := tlr K (lc W P n K H M (fun p => dk (K p)) h L (t)) n p) (by omega), p_bits (tlr K (lc W P n K H M (fun p => dk (K p)) h L (t)) n p) (by omega), nle (a := pc (tlr K (lc W P n K H M (fun p => dk (K p)) h L (t)) n p) 12) (b := pc i 12) (by omega) (by omega)]
                  by_cases g2 : utk (lc W P n K H M (fun p => dk (K p)) h L (t)) (dkm (fun p => dk (K p)) (lc W P n K H M (fun p => dk (K p)) h L (t)) n) i n = 2 ^ (lc W P n K H M (fun p => dk (K p)) h L (t)) p
                  · have := tlr_few (show n ≤ 12 by omega) hp d1 Tt.lt hi g2
                    simp only [this, bo1, bo2, bo3, bo4, bo5, bo6, bo7, bo12, jo0, jo1, vlet, i10, i00, if_true, if_false, ite_self, n1z, n0z]
                  · simp only [g2, bo1, bo2, bo3, bo4, bo5, bo6, bo7, bo12, jo0, jo1, vlet, i10, i00, if_true, if_false, ite_self, n1z, n0z]
                · by_cases g2 : tlr K (lc W P n K H M (fun p => dk (K p)) h L (t)) n p = i
                  · have g3 : i.testBit p = false := by rw [← g2]; exact tlr_not
                    have g4 : utk (lc W P n K H M (fun p => dk (K p)) h L (t)) (dkm (fun p => dk (K p)) (lc W P n K H M (fun p => dk (K p)) h L (t)) n) i n = 2 ^ (lc W P n K H M (fun p => dk (K p)) h L (t)) p := by rw [← g2]; exact tlr_ok hp d1
                    simp only [g1, show tlr K (lc W P n K H M (fun p => dk (K p)) h L (t)) n p < i + 1 from by omega, n1z, n0z, bo1, bo2, bo3, bo4, bo5, bo6, bo7, bo12, jo0, i10, i00, if_true, if_false, ite_self, mm1, g3, g4]
                    rw [g2]
                  · have g3 : ¬ utk (lc W P n K H M (fun p => dk (K p)) h L (t)) (dkm (fun p => dk (K p)) (lc W P n K H M (fun p => dk (K p)) h L (t)) n) i n = 2 ^ (lc W P n K H M (fun p => dk (K p)) h L (t)) p := fun e => by
                      have := tlr_le hp e
                      omega
                    simp only [g1, show ¬ tlr K (lc W P n K H M (fun p => dk (K p)) h L (t)) n p < i + 1 from by omega, n1z, n0z, bo1, bo2, bo3, bo4, bo5, bo6, bo7, bo12, jo0, i10, i00, if_true, if_false, ite_self, mm1, g3]
              · obtain ⟨rfl, rfl⟩ := z
                rw [if_pos (Int32.le_refl _)]
                simp only [t0, bo1, bo2, bo3, bo4, bo5, bo6, bo7, bo12, jo0, jo1, vlet, i10, i00, if_true, if_false, ite_self, n1z, n0z, w1, nm1 (k := tlr K (lc W P n K H M (fun p => dk (K p)) h L (t)) n p) (by omega), p_bits (tlr K (lc W P n K H M (fun p => dk (K p)) h L (t)) n p) (by omega)]
                rcases (show w = 0 ∨ w = 1 by omega) with rfl | rfl
                · simp only [bo1, bo2, bo3, bo4, bo5, bo6, bo7, bo12, jo0, jo1, vlet, i10, i00, if_true, if_false, ite_self, n1z, n0z, show ¬ (0 = 1) from by decide]
                · simp only [bo1, bo2, bo3, bo4, bo5, bo6, bo7, bo12, jo0, jo1, vlet, i10, i00, if_true, if_false, ite_self, n1z, n0z, show ¬ (1 = 0) from by decide]
            rw [hx, hm]
            exact ⟨_, _, _, _, _, _, _, _, _, _, _, _, _, _, _, _, _, _, _, rfl, rfl, R0⟩
        · have d1' : dk (K p) = false := by simpa using d1
          unfold fX7_find fX8_find
          simp only [a1, a2, b1, b2, c2, n1z, n0z, bo1, bo2, bo3, bo4, bo5, bo6, bo7, bo12, jo0, i10, i00, if_true, if_false, ite_self, f1, f3, if_neg w2, if_pos w3, p_darkens hn hp xk hK, p_mdarkens0 hn hp mk hK, b01, d1']
          exact ⟨_, _, _, _, _, _, _, _, _, _, _, _, _, _, _, _, _, _, _, rfl, rfl, R0⟩
      · unfold fX7_find fX8_find
        rcases c1 with c1 | c1
        · simp only [a1, a2, b1, b2, c2, e1, e2, n1z, n0z, bo1, bo2, bo3, bo4, bo5, bo6, bo7, bo12, jo0, i10, i00, if_true, if_false, ite_self, if_pos (show p2 < 0 from c1)]
          exact ⟨_, _, _, _, _, _, _, _, _, _, _, _, _, _, _, _, _, _, _, rfl, rfl, R0.rf q⟩
        · simp only [a1, a2, b1, b2, c2, e1, e2, n1z, n0z, bo1, bo2, bo3, bo4, bo5, bo6, bo7, bo12, jo0, i10, i00, if_true, if_false, ite_self, if_neg (Int32.not_le.mpr (show (1 : Int32) < p2 from c1))]
          exact ⟨_, _, _, _, _, _, _, _, _, _, _, _, _, _, _, _, _, _, _, rfl, rfl, R0.rf q⟩
    · unfold fX7_find fX8_find
      simp only [a1, a2, b1, b2, e1, e2, n1z, n0z, bo1, bo2, bo3, bo4, bo5, bo6, bo7, bo12, jo0, i10, i00, if_true, if_false, ite_self]
      exact ⟨_, _, _, _, _, _, _, _, _, _, _, _, _, _, _, _, _, _, _, rfl, rfl, R0.rf q⟩
  · unfold fX7_find fX8_find
    simp only [a1, a2, e1, e2, n1z, n0z, bo1, bo2, bo3, bo4, bo5, bo6, bo7, bo12, jo0, i10, i00, if_true, if_false, ite_self]
    exact ⟨_, _, _, _, _, _, _, _, _, _, _, _, _, _, _, _, _, _, _, rfl, rfl, R0.rf q⟩
