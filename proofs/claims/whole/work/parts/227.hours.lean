/-! ===== hours from now ===== -/
def hc (h : Nat) : Nat → Nat
  | 0 => h
  | t + 1 => nh (hc h t)
def lc (W : Nat → Nat) (P n : Nat) (K H M : Nat → Nat) (D : Nat → Bool) (h : Nat) (L : Nat → Nat) : Nat → Nat → Nat
  | 0 => L
  | t + 1 => nxt W P n K H M D (hc h t) (lc W P n K H M D h L t)
theorem tok.at {P n h : Nat} {W K H M L : Nat → Nat} (T : tok P n W K H M L h) (D : Nat → Bool) (t : Nat) : tok P n W K H M (lc W P n K H M D h L t) (hc h t) := by
  induction t with
  | zero => exact T
  | succ t ih => exact ih.next D
theorem tok.lt {P n h : Nat} {W K H M L : Nat → Nat} (T : tok P n W K H M L h) : ∀ p, p < n → L p < 12 := fun p hp => Nat.lt_of_lt_of_le (T.2.2.2.2.2.2.2.1 p hp) T.2.1
theorem p_pass1 {P n h : Nat} {W K H M L : Nat → Nat} {d kf hf mf af : Nat → Int32} (T : tok P n W K H M L h) (hd : dok W d) (hk : ag n kf K) (hh : ag n hf H) (hm : ag n mf M) (t : Nat) (hl : ag n af (lc W P n K H M (fun p => dk (K p)) h L t)) : ∃ af', fX5_passHour (nI P) (nI n) (nI (hc h t)) (nf W) d kf hf mf af = some (nI (if wnt (lc W P n K H M (fun p => dk (K p)) h L t) (lc W P n K H M (fun p => dk (K p)) h L (t + 1)) n then 1 else 0), nI (hc h (t + 1)), af') ∧ ag n af' (lc W P n K H M (fun p => dk (K p)) h L (t + 1)) :=
  ⟨_, p_passHour (T.at _ t) hd hk hh hm hl, ov_ag _ _ _⟩
theorem p_mgo1 {P n h : Nat} {W K H M L : Nat → Nat} {g : Int32} {G : Nat → Bool} {kf hf mf af s0 t0 : Nat → Int32} (T : tok P n W K H M L h) (hg : gn g G) (hk : ag n kf K) (hh : ag n hf H) (hm : ag n mf M) (t : Nat) (hl : ag n af (lc W P n K H M (fun p => !G p && dk (K p)) h L t)) : ∃ st sp tt, fX8_goes (nI P) (nI n) (nI (hc h t)) g (nf W) kf hf mf s0 af t0 = some (nI (hc h (t + 1)), st, sp, tt) ∧ ag n sp (lc W P n K H M (fun p => !G p && dk (K p)) h L (t + 1)) := by
  obtain ⟨st, tt, e⟩ := p_mgoes (s0 := s0) (t0 := t0) (T.at _ t) hg hk hh hm hl
  exact ⟨st, _, tt, e, ov_ag _ _ _⟩
theorem p_mgo0 {P n h : Nat} {W K H M L : Nat → Nat} {kf hf mf af s0 t0 : Nat → Int32} (T : tok P n W K H M L h) (hk : ag n kf K) (hh : ag n hf H) (hm : ag n mf M) (t : Nat) (hl : ag n af (lc W P n K H M (fun p => dk (K p)) h L t)) : ∃ st sp tt, fX8_goes (nI P) (nI n) (nI (hc h t)) (-1) (nf W) kf hf mf s0 af t0 = some (nI (hc h (t + 1)), st, sp, tt) ∧ ag n sp (lc W P n K H M (fun p => dk (K p)) h L (t + 1)) :=
  p_mgo1 (G := fun _ => false) T gn_no hk hh hm t hl
theorem p_passHours {P n h k : Nat} {W K H M L : Nat → Nat} {d kf hf mf af : Nat → Int32} (T : tok P n W K H M L h) (hd : dok W d) (hk : ag n kf K) (hh : ag n hf H) (hm : ag n mf M) (hl : ag n af L) (hk48 : k ≤ 48) : ∃ af', fX5_passHours (nI P) (nI n) (nI h) (nf W) d kf hf mf af (nI k) = some (nI (hc h k), af') ∧ ag n af' (lc W P n K H M (fun p => dk (K p)) h L k) := by
  unfold fX5_passHours
  refine lph3 (Φ := fun o => ∃ af', o = some (nI (hc h k), af') ∧ ag n af' (lc W P n K H M (fun p => dk (K p)) h L k)) (fun i x u v => x = nI i ∧ u = nI (hc h i) ∧ ag n v (lc W P n K H M (fun p => dk (K p)) h L i)) k ⟨rfl, rfl, hl⟩ (fun i hi x u v q => ?_) (fun x u v q ag => ?_) 400 (by omega)
  · obtain ⟨rfl, rfl, q⟩ := q
    obtain ⟨af', e, f⟩ := p_pass1 T hd hk hh hm i q
    refine ⟨_, _, _, ⟨rfl, rfl, f⟩, fun ag => ?_⟩
    simp only [nle (a := k) (b := i) (by omega) (by omega), show ¬ k ≤ i from by omega, if_false, e, bo3, vlet, nI_1]
  · obtain ⟨rfl, rfl, q⟩ := q
    exact ⟨v, by rw [if_pos (Int32.le_refl _)], q⟩
theorem p_lookAhead {P n h k : Nat} {W K H M L : Nat → Nat} {c s : Int32} {d kf bf hf mf af : Nat → Int32} (T : tok P n W K H M L h) (hd : dok W d) (hk : ag n kf K) (hh : ag n hf H) (hm : ag n mf M) (hl : ag n af L) (hk48 : k ≤ 48) : ∃ af', fX7_lookAhead (nI P) (nI n) (nI h) c s (nf W) d kf bf hf mf af (nI k) = some (nI P, nI n, nI (hc h k), c, s, nf W, d, kf, bf, hf, mf, af') ∧ ag n af' (lc W P n K H M (fun p => dk (K p)) h L k) := by
  obtain ⟨af', e, f⟩ := p_passHours T hd hk hh hm hl hk48
  refine ⟨af', ?_, f⟩
  unfold fX7_lookAhead fX5_become
  simp only [bo12]
  rw [e]
  rfl
theorem p_begin {n : Nat} {hh : Int32} {a0 s0 : Nat → Int32} {L : Nat → Nat} (hn : n ≤ 8) (hl : ag n a0 L) : ∃ sp, fX8_begin (nI n) hh a0 s0 = some (hh, sp) ∧ ag n sp L := by
  unfold fX8_begin
  refine ⟨ov n s0 L, ?_, ov_ag _ _ _⟩
  refine lq2 (fun i => nI i) (fun i => ov i s0 L) n rfl (ov_0 _ _).symm (fun i hi g => ?_) (fun g => ?_) 400 (by omega)
  · simp only [nle (a := n) (b := i) (by omega) (by omega), show ¬ n ≤ i from by omega, bo1, bo2, bo3, bo4, bo5, bo6, bo7, bo12, jo0, jo1, vlet, i10, i00, if_true, if_false, ite_self, if_n (nin (k := i) (N := 8) (by omega) (by omega)), if_n (nin2 (k := i) (N := 8) (by omega) (by omega)), nc (n := i) (by omega), nI_1, hl i hi, ov_s]
  · rw [if_pos (Int32.le_refl _)]
theorem p_goesOn {P n h k : Nat} {W K H M L : Nat → Nat} {g : Int32} {G : Nat → Bool} {kf hf mf af s0 p0 t0 : Nat → Int32} (T : tok P n W K H M L h) (hg : gn g G) (hk : ag n kf K) (hh : ag n hf H) (hm : ag n mf M) (hl : ag n af L) (hk48 : k ≤ 48) : ∃ st sp tt, fX8_goesOn (nI P) (nI n) (nI h) g (nf W) kf hf mf af s0 p0 t0 (nI k) = some (nI (hc h k), st, sp, tt) ∧ ag n sp (lc W P n K H M (fun p => !G p && dk (K p)) h L k) := by
  obtain ⟨sp, e, f⟩ := p_begin (hh := nI h) (s0 := p0) T.2.2.1 hl
  unfold fX8_goesOn
  rw [e]
  simp only [bo2]
  refine lph5 (Φ := fun o => ∃ st sp tt, o = some (nI (hc h k), st, sp, tt) ∧ ag n sp (lc W P n K H M (fun p => !G p && dk (K p)) h L k)) (fun i x u _ v _ => x = nI i ∧ u = nI (hc h i) ∧ ag n v (lc W P n K H M (fun p => !G p && dk (K p)) h L i)) k ⟨rfl, rfl, f⟩ (fun i hi x u a v b q => ?_) (fun x u a v b q ag => ?_) 400 (by omega)
  · obtain ⟨rfl, rfl, q⟩ := q
    obtain ⟨st, sp, tt, e, f⟩ := p_mgo1 (s0 := a) (t0 := b) T hg hk hh hm i q
    refine ⟨_, _, st, _, tt, ⟨rfl, rfl, f⟩, fun ag => ?_⟩
    simp only [nle (a := k) (b := i) (by omega) (by omega), show ¬ k ≤ i from by omega, if_false, e, bo4, vlet, nI_1]
  · obtain ⟨rfl, rfl, q⟩ := q
    exact ⟨a, v, b, by rw [if_pos (Int32.le_refl _)], q⟩
theorem p_goesOn0 {P n h k : Nat} {W K H M L : Nat → Nat} {kf hf mf af s0 p0 t0 : Nat → Int32} (T : tok P n W K H M L h) (hk : ag n kf K) (hh : ag n hf H) (hm : ag n mf M) (hl : ag n af L) (hk48 : k ≤ 48) : ∃ st sp tt, fX8_goesOn (nI P) (nI n) (nI h) (-1) (nf W) kf hf mf af s0 p0 t0 (nI k) = some (nI (hc h k), st, sp, tt) ∧ ag n sp (lc W P n K H M (fun p => dk (K p)) h L k) :=
  p_goesOn (G := fun _ => false) T gn_no hk hh hm hl hk48
theorem p_mlight0 {kf af : Nat → Int32} {K L : Nat → Nat} {P n : Nat} (hP : P ≤ 12) (hn : n ≤ 8) (hk : ag n kf K) (hl : ag n af L) (hK : ∀ p, p < n → K p < 6) (hL : ∀ p, p < n → L p < 12) : fX8_light (nI P) (nI n) (-1) kf af = some (nI (ltm P (dkm (fun p => dk (K p)) L n))) :=
  p_mlight (G := fun _ => false) hP hn gn_no hk hl hK hL
theorem p_mdarkens0 {kf : Nat → Int32} {K : Nat → Nat} {n p : Nat} (hn : n ≤ 8) (hp : p < n) (hk : ag n kf K) (hK : ∀ p, p < n → K p < 6) : fX8_darkens (-1) kf (nI p) = some (nI (if dk (K p) then 1 else 0)) :=
  p_mdarkens (G := fun _ => false) hn hp gn_no hk hK
theorem ltm_ltm {P m : Nat} (hm : m < 2 ^ P) : ltm P (ltm P m) = m := by
  apply Nat.eq_of_testBit_eq
  intro q
  rw [ltm_bit, ltm_bit]
  by_cases h : q < P
  · simp [h]
  · have : m.testBit q = false := Nat.testBit_lt_two_pow (Nat.lt_of_lt_of_le hm (Nat.pow_le_pow_right (by decide) (by omega)))
    simp [h, this]
theorem p_mdark0 {kf af : Nat → Int32} {K L : Nat → Nat} {P n : Nat} (hP : P ≤ 12) (hn : n ≤ 8) (hk : ag n kf K) (hl : ag n af L) (hK : ∀ p, p < n → K p < 6) (hL : ∀ p, p < n → L p < P) : fX8_dark (nI P) (nI n) (-1) kf af = some (nI (dkm (fun p => dk (K p)) L n)) := by
  unfold fX8_dark
  rw [p_mlight0 hP hn hk hl hK (fun p hp => Nat.lt_of_lt_of_le (hL p hp) hP)]
  simp only [bo1]
  rw [n_full hP, n_not]
  show some (nI (ltm P (ltm P _))) = _
  rw [ltm_ltm (dkm_lt hL)]
/-! ===== counting ===== -/
theorem cnt_s (Q : Nat → Bool) (n : Nat) : cnt Q (n + 1) = cnt Q n + (if Q n then 1 else 0) := rfl
theorem pc_cnt (m k : Nat) : pc m k = cnt (fun q => m.testBit q) k := by
  induction k with
  | zero => rfl
  | succ k ih => unfold pc cnt; rw [ih]
theorem cnt_congr {Q Q' : Nat → Bool} {n : Nat} (h : ∀ p, p < n → Q p = Q' p) : cnt Q n = cnt Q' n := by
  induction n with
  | zero => rfl
  | succ n ih => unfold cnt; rw [ih (fun p hp => h p (by omega)), h n (by omega)]
theorem cnt_cut {Q Q' : Nat → Bool} {n k : Nat} (hnk : n ≤ k) (h : ∀ q, q < k → Q' q = (decide (q < n) && Q q)) : cnt Q' k = cnt Q n := by
  induction k with
  | zero => have : n = 0 := by omega
            subst this; rfl
  | succ k ih =>
    by_cases e : n = k + 1
    · subst e
      apply cnt_congr
      intro p hp
      rw [h p hp]; simp [hp]
    · rw [cnt_s]
      rw [ih (by omega) (fun q hq => h q (by omega)), h k (by omega)]
      simp [show ¬ k < n from by omega]
theorem cnt_not (Q : Nat → Bool) (n : Nat) : cnt Q n + cnt (fun q => !Q q) n = n := by
  induction n with
  | zero => rfl
  | succ n ih =>
    unfold cnt
    by_cases h : Q n = true
    · simp [h]; omega
    · simp [h]; omega
theorem pc_ltm {P m : Nat} (hP : P ≤ 12) (hm : m < 2 ^ P) : pc (ltm P m) 12 + pc m 12 = P := by
  rw [pc_cnt, pc_cnt]
  rw [cnt_cut (Q := fun q => !m.testBit q) (n := P) hP (fun q _ => ltm_bit P m q)]
  rw [cnt_cut (Q := fun q => m.testBit q) (n := P) hP (fun q _ => ?_)]
  · have := cnt_not (fun q => m.testBit q) P
    omega
  · by_cases h : q < P
    · simp [h]
    · have : m.testBit q = false := Nat.testBit_lt_two_pow (Nat.lt_of_lt_of_le hm (Nat.pow_le_pow_right (by decide) (by omega)))
      simp [h, this]
/-- those people as bits -/
def pm (Q : Nat → Bool) (n : Nat) : Nat := dkm Q (fun p => p) n
theorem pm_bit (Q : Nat → Bool) (n q : Nat) : (pm Q n).testBit q = (decide (q < n) && Q q) := by
  apply bool_ext
  unfold pm
  rw [dkm_bit]
  simp only [Bool.and_eq_true, decide_eq_true_eq]
  constructor
  · rintro ⟨p, h1, h2, rfl⟩; exact ⟨h1, h2⟩
  · rintro ⟨h1, h2⟩; exact ⟨q, h1, h2, rfl⟩
theorem pm_s (Q : Nat → Bool) (n : Nat) : pm Q (n + 1) = if Q n then pm Q n ||| 2 ^ n else pm Q n := rfl
theorem pm_lt (Q : Nat → Bool) (n : Nat) : pm Q n < 2 ^ n := dkm_lt (fun _ h => h)
theorem pc_pm {Q : Nat → Bool} {n : Nat} (hn : n ≤ 12) : pc (pm Q n) 12 = cnt Q n := by
  rw [pc_cnt]
  exact cnt_cut hn (fun q _ => pm_bit Q n q)
