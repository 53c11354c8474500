/-! ===== who says what, who tells ===== -/
theorem p_isUnder {a k : Nat} (ha : a < 6) (hk : k < 6) : ∃ b : Bool, fX7_isUnder (nI a) (nI k) = some (nI (if b then 1 else 0)) ∧ fX8_isUnder (nI a) (nI k) = some (nI (if b then 1 else 0)) := by
  have key : ∀ a, a < 6 → ∀ k, k < 6 → fX7_isUnder (nI a) (nI k) = fX8_isUnder (nI a) (nI k) ∧ (fX8_isUnder (nI a) (nI k) = some (nI 1) ∨ fX8_isUnder (nI a) (nI k) = some (nI 0)) := by decide +kernel
  obtain ⟨h1, h2 | h2⟩ := key a ha k hk
  · exact ⟨true, h1.trans h2, h2⟩
  · exact ⟨false, h1.trans h2, h2⟩
theorem h4 {k : Nat} (hk : k ≤ 4) : ((4 : Int32) < nI k) = False := by
  rw [show (4 : Int32) = nI 4 from rfl, nlt (by omega) (by omega)]; simp; omega
theorem h4' {k : Nat} (hk : k < 8) : ((4 : Int32) < nI (10 + k)) = True := by
  rw [show (4 : Int32) = nI 4 from rfl, nlt (by omega) (by omega)]; simp; omega
theorem hm0 : ((-1 : Int32) < 0) = True := by decide
theorem n_m10 (t : Nat) : nI (10 + t) - (10 : Int32) = nI t := by
  rw [show (10 : Int32) = nI 10 from rfl, pk_sub (by omega)]
  congr 1; omega
theorem tt_says {x_now_places : Int32} {x_now_people : Int32} {x_now_hour : Int32} {x_now_chance : Int32} {x_now_seed : Int32} {x_now_ways : Nat → Int32} {x_now_distances : Nat → Int32} {x_now_kind : Nat → Int32} {x_now_a : Nat → Int32} {x_now_home : Nat → Int32} {x_now_aim : Nat → Int32} {x_now_at : Nat → Int32} {x_kept_places : Int32} {x_kept_people : Int32} {x_kept_hour : Int32} {x_kept_chance : Int32} {x_kept_seed : Int32} {x_kept_ways : Nat → Int32} {x_kept_distances : Nat → Int32} {x_kept_kind : Nat → Int32} {x_kept_a : Nat → Int32} {x_kept_home : Nat → Int32} {x_kept_aim : Nat → Int32} {x_kept_at : Nat → Int32} {x_isKept : Int32} {x_shelves_c : Nat → Int32} {x_shelves_z : Nat → Int32} {x_shelves_e : Nat → Nat → Int64} {x_tape_size : Int32} {x_tape_bytes : Nat → Int32} {x_refusals : Nat → Int32} {m_places : Int32} {m_people : Int32} {m_hour : Int32} {m_chance : Int32} {m_seed : Int32} {m_ways : Nat → Int32} {m_kind : Nat → Int32} {m_by : Nat → Int32} {m_home : Nat → Int32} {m_aim : Nat → Int32} {m_at0 : Nat → Int32} {m_shelf : Nat → Int32} {m_rowSort : Nat → Int32} {m_rowSize : Nat → Int32} {m_rows : Nat → Nat → Int64} {m_shown : Nat → Int32} {m_tape : Nat → Int32} {m_tapeSize : Int32} {m_refused : Nat → Int32} {m_gone : Int32} {m_kept_places : Int32} {m_kept_people : Int32} {m_kept_hour : Int32} {m_kept_chance : Int32} {m_kept_seed : Int32} {m_kept_ways : Nat → Int32} {m_kept_kind : Nat → Int32} {m_kept_by : Nat → Int32} {m_kept_home : Nat → Int32} {m_kept_aim : Nat → Int32} {m_kept_at0 : Nat → Int32} {kb : Bool} (x_future_places : Int32) (x_future_people : Int32) (x_future_hour : Int32) (x_future_chance : Int32) (x_future_seed : Int32) (x_future_ways : Nat → Int32) (x_future_distances : Nat → Int32) (x_future_kind : Nat → Int32) (x_future_a : Nat → Int32) (x_future_home : Nat → Int32) (x_future_aim : Nat → Int32) (x_future_at : Nat → Int32) (m_now : Int32) (m_steps : Nat → Int32) (m_spot : Nat → Int32) (m_then : Nat → Int32) (p0 : Int32) (p1 : Int32) (R : Rel kb x_now_places x_now_people x_now_hour x_now_chance x_now_seed x_now_ways x_now_distances x_now_kind x_now_a x_now_home x_now_aim x_now_at x_kept_places x_kept_people x_kept_hour x_kept_chance x_kept_seed x_kept_ways x_kept_distances x_kept_kind x_kept_a x_kept_home x_kept_aim x_kept_at x_isKept x_shelves_c x_shelves_z x_shelves_e x_tape_size x_tape_bytes x_refusals m_places m_people m_hour m_chance m_seed m_ways m_kind m_by m_home m_aim m_at0 m_shelf m_rowSort m_rowSize m_rows m_shown m_tape m_tapeSize m_refused m_gone m_kept_places m_kept_people m_kept_hour m_kept_chance m_kept_seed m_kept_ways m_kept_kind m_kept_by m_kept_home m_kept_aim m_kept_at0) : ∃ (r : Int32) (y_future_places : Int32) (y_future_people : Int32) (y_future_hour : Int32) (y_future_chance : Int32) (y_future_seed : Int32) (y_future_ways : Nat → Int32) (y_future_distances : Nat → Int32) (y_future_kind : Nat → Int32) (y_future_a : Nat → Int32) (y_future_home : Nat → Int32) (y_future_aim : Nat → Int32) (y_future_at : Nat → Int32) (y_refusals : Nat → Int32) (z_now : Int32) (z_refused : Nat → Int32) (z_steps : Nat → Int32) (z_spot : Nat → Int32) (z_then : Nat → Int32), fX7_says x_now_places x_now_people x_now_hour x_now_chance x_now_seed x_now_ways x_now_distances x_now_kind x_now_a x_now_home x_now_aim x_now_at x_future_places x_future_people x_future_hour x_future_chance x_future_seed x_future_ways x_future_distances x_future_kind x_future_a x_future_home x_future_aim x_future_at x_refusals x_shelves_c p0 p1 = some (r, y_future_places, y_future_people, y_future_hour, y_future_chance, y_future_seed, y_future_ways, y_future_distances, y_future_kind, y_future_a, y_future_home, y_future_aim, y_future_at, y_refusals) ∧ fX8_says m_places m_people m_hour m_now m_gone m_shelf m_shown m_refused m_ways m_kind m_by m_home m_aim m_at0 m_steps m_spot m_then p0 p1 = some (r, z_now, z_refused, z_steps, z_spot, z_then) ∧ Rel kb x_now_places x_now_people x_now_hour x_now_chance x_now_seed x_now_ways x_now_distances x_now_kind x_now_a x_now_home x_now_aim x_now_at x_kept_places x_kept_people x_kept_hour x_kept_chance x_kept_seed x_kept_ways x_kept_distances x_kept_kind x_kept_a x_kept_home x_kept_aim x_kept_at x_isKept x_shelves_c x_shelves_z x_shelves_e x_tape_size x_tape_bytes y_refusals m_places m_people m_hour m_chance m_seed m_ways m_kind m_by m_home m_aim m_at0 m_shelf m_rowSort m_rowSize m_rows m_shown m_tape m_tapeSize z_refused m_gone m_kept_places m_kept_people m_kept_hour m_kept_chance m_kept_seed m_kept_ways m_kept_kind m_kept_by m_kept_home m_kept_aim m_kept_at0 := by
  have R0 := R
  obtain ⟨P, n, h, c, s, W, K, A, H, M, L, T, ⟨rfl, rfl, rfl, rfl, rfl, rfl, xd, xk, xa, xh, xm, xl⟩, ⟨rfl, rfl, rfl, rfl, rfl, rfl, mk, ma, mh, mm, ml⟩, rfl, S, U, V, Z⟩ := R
  obtain ⟨hP2, hP, hn, hW, hK, hH, hM, hL, hho⟩ := id T
  obtain ⟨x2, m2, e1, e2, q⟩ := rf2 V
  obtain ⟨x3, m3, e3, e4, q3⟩ := rf3 V
  obtain ⟨x4, m4, e5, e6, q4⟩ := rf4 V
  unfold fX7_says fX8_says
  rcases cShelf p0 with ⟨j, hj, rfl, a1, a2⟩ | ⟨a1, a2⟩
  · rcases cKind p1 with ⟨k, hk, rfl, b1, b2⟩ | ⟨b1, b2⟩
    · rcases S j hj with ⟨h1, h2, h3⟩ | ⟨t, m, ht, hm, h1, h2, h3, h4_, h5, h6⟩ | ⟨t, ht, h1, h2, h3, h4_⟩
      · simp only [a1, a2, b1, b2, n1z, n0z, bo1, bo2, bo3, bo4, bo5, bo6, bo7, bo12, jo0, i10, i00, if_true, if_false, ite_self, if_n (nin (k := j) (N := 8) (by omega) (by omega)), if_n (nin2 (k := j) (N := 8) (by omega) (by omega)), nc (n := j) (by omega), h1, h3, i012, i02, fX2_holdsRow, fX2_holdsNothing, hm0, hmm, e5, e6]
        exact ⟨_, _, _, _, _, _, _, _, _, _, _, _, _, _, _, _, _, _, _, rfl, rfl, R0.rf q4⟩
      · simp only [a1, a2, b1, b2, n1z, n0z, bo1, bo2, bo3, bo4, bo5, bo6, bo7, bo12, jo0, i10, i00, if_true, if_false, ite_self, if_n (nin (k := j) (N := 8) (by omega) (by omega)), if_n (nin2 (k := j) (N := 8) (by omega) (by omega)), nc (n := j) (by omega), h1, h3, i112, fX2_holdsRow, if_neg (nI_pos (n := t) (by omega)), h4 ht, e3, e4]
        exact ⟨_, _, _, _, _, _, _, _, _, _, _, _, _, _, _, _, _, _, _, rfl, rfl, R0.rf q3⟩
      · have hu := hK t ht
        obtain ⟨b, u1, u2⟩ := p_isUnder hu hk
        have c1 : fX7_isPerson (nI n) (nI t) = some 1 := by
          unfold fX7_isPerson
          rw [if_neg (nI_pos (by omega)), if_neg (by rw [nle (by omega) (by omega)]; omega)]
        obtain ⟨af, f1, f2⟩ := p_lookAhead (c := m_chance) (s := m_seed) (bf := x_now_a) (k := 1) T xd xk xh xm xl (by omega)
        obtain ⟨s1, g1, g2⟩ := p_begin (hh := nI h) (s0 := m_spot) hn ml
        obtain ⟨st, sp, tt, f3, f4⟩ := p_mgo0 (s0 := m_steps) (t0 := m_then) T mk mh mm 0 g2
        have f1' : fX7_lookAhead (nI P) (nI n) (nI h) m_chance m_seed (nf W) x_now_distances x_now_kind x_now_a x_now_home x_now_aim x_now_at (1 : Int32) = _ := f1
        have f3' : fX8_goes (nI P) (nI n) (nI h) (-1) (nf W) m_kind m_home m_aim m_steps s1 m_then = _ := f3
        simp only [a1, a2, b1, b2, n1z, n0z, bo1, bo2, bo3, bo4, bo5, bo6, bo7, bo12, jo0, i10, i00, if_true, if_false, ite_self, if_n (nin (k := j) (N := 8) (by omega) (by omega)), if_n (nin2 (k := j) (N := 8) (by omega) (by omega)), nc (n := j) (by omega), if_n (nin (k := t) (N := 8) (by omega) (by omega)), if_n (nin2 (k := t) (N := 8) (by omega) (by omega)), nc (n := t) (by omega), h1, h3, h4_, i21, i22, i20, fX2_holdsRow, fX2_holdsNothing, fX2_personNumber, if_neg (nI_pos (n := 10 + t) (by omega)), h4' (show t < 8 by omega), hkm (show 10 + t ≤ 1000 by omega), n_m10, c1, xk t ht, mk t ht, u1, u2, b01, xa t ht, ma t ht, g1, f1', f3', f2 t ht, f4 t ht]
        cases b with
        | false =>
          simp only [Bool.false_eq_true, bo1, bo2, bo3, bo4, bo5, bo6, bo7, bo12, jo0, jo1, vlet, i10, i00, if_true, if_false, ite_self, n1z, n0z, e3, e4]
          exact ⟨_, _, _, _, _, _, _, _, _, _, _, _, _, _, _, _, _, _, _, rfl, rfl, R0.rf q3⟩
        | true =>
          simp only [Bool.true_eq_false, bo1, bo2, bo3, bo4, bo5, bo6, bo7, bo12, jo0, jo1, vlet, i10, i00, if_true, if_false, ite_self, n1z, n0z]
          by_cases g : nI k = 0
          · simp only [g, bo1, bo2, bo3, bo4, bo5, bo6, bo7, bo12, jo0, jo1, vlet, i10, i00, if_true, if_false, ite_self, n1z, n0z]
            exact ⟨_, _, _, _, _, _, _, _, _, _, _, _, _, _, _, _, _, _, _, rfl, rfl, R0⟩
          · simp only [g, bo1, bo2, bo3, bo4, bo5, bo6, bo7, bo12, jo0, jo1, vlet, i10, i00, if_true, if_false, ite_self, n1z, n0z]
            exact ⟨_, _, _, _, _, _, _, _, _, _, _, _, _, _, _, _, _, _, _, rfl, rfl, R0⟩
    · simp only [a1, a2, b1, b2, e1, e2, n1z, n0z, bo1, bo2, bo3, bo4, bo5, bo6, bo7, bo12, jo0, i10, i00, if_true, if_false, ite_self]
      exact ⟨_, _, _, _, _, _, _, _, _, _, _, _, _, _, _, _, _, _, _, rfl, rfl, R0.rf q⟩
  · simp only [a1, a2, e1, e2, n1z, n0z, bo1, bo2, bo3, bo4, bo5, bo6, bo7, bo12, jo0, i10, i00, if_true, if_false, ite_self]
    exact ⟨_, _, _, _, _, _, _, _, _, _, _, _, _, _, _, _, _, _, _, rfl, rfl, R0.rf q⟩
/-! ===== a set of people ===== -/
theorem n_all (x : Int32) : ∃ k, k < 4294967296 ∧ x = nI k := by
  refine ⟨x.toBitVec.toNat, x.toBitVec.isLt, ?_⟩
  apply Int32.toBitVec_inj.1
  show x.toBitVec = BitVec.ofNat 32 x.toBitVec.toNat
  simp
theorem n_z {k : Nat} (h : k < 4294967296) : (nI k = 0) ↔ k = 0 := by
  constructor
  · intro e
    have : BitVec.ofNat 32 k = BitVec.ofNat 32 0 := congrArg Int32.toBitVec e
    have := congrArg BitVec.toNat this
    simp only [BitVec.toNat_ofNat] at this
    omega
  · rintro rfl; rfl
theorem nd_z {k n : Nat} : nd k (2 ^ n - 1) = 0 ↔ k < 2 ^ n := by
  constructor
  · intro e
    apply Nat.lt_pow_two_of_testBit
    intro i hi
    have := nd_bit k (2 ^ n - 1) i
    rw [e, full_bit, decide_eq_false (by omega)] at this
    simpa using this.symm
  · intro h
    apply Nat.eq_of_testBit_eq
    intro i
    rw [nd_bit, full_bit]
    by_cases g : i < n
    · simp [g]
    · rw [Nat.testBit_lt_two_pow (Nat.lt_of_lt_of_le h (Nat.pow_le_pow_right (by decide) (by omega)))]; simp
theorem nd_lt32 {a b : Nat} (h : a < 4294967296) : nd a b < 4294967296 := nd_lt (k := 32) h
theorem cSet (n : Nat) (hn : n ≤ 8) (x : Int32) : (∃ m, m < 2 ^ n ∧ x = nI m ∧ (x &&& (nI (2 ^ n - 1) ^^^ (-1 : Int32)) = 0) = True ∧ fX8_in x.toInt64 (0 : Int64) ((nI (2 ^ n) - (1 : Int32)).toInt64) = some 1) ∨ ((x &&& (nI (2 ^ n - 1) ^^^ (-1 : Int32)) = 0) = False ∧ fX8_in x.toInt64 (0 : Int64) ((nI (2 ^ n) - (1 : Int32)).toInt64) = some 0) := by
  have h256 : 2 ^ n ≤ 2 ^ 8 := Nat.pow_le_pow_right (by decide) hn
  rcases cR (2 ^ n) (by omega) x with ⟨m, hm, rfl, e⟩ | ⟨h, e⟩
  · left
    refine ⟨m, hm, rfl, ?_, e⟩
    rw [n_not, nd_z.2 hm]
    exact eq_true rfl
  · right
    refine ⟨?_, e⟩
    apply eq_false
    intro q
    obtain ⟨k, hk, rfl⟩ := n_all x
    rw [n_not, n_z (nd_lt32 hk), nd_z] at q
    rcases h with h | h
    · exact nI_pos (by omega) h
    · rw [nI_leI (by omega) (by omega)] at h; omega
/-- what is left of d when the people of m below i have told -/
def utk (L : Nat → Nat) (d m : Nat) : Nat → Nat
  | 0 => d
  | i + 1 => if m.testBit i then nd (utk L d m i) (2 ^ L i) else utk L d m i
theorem utk_s (L : Nat → Nat) (d m i : Nat) : utk L d m (i + 1) = if m.testBit i then nd (utk L d m i) (2 ^ L i) else utk L d m i := rfl
theorem p_untoldBy {kf af : Nat → Int32} {K L : Nat → Nat} {P n m : Nat} (hP : P ≤ 12) (hn : n ≤ 8) (hk : ag n kf K) (hl : ag n af L) (hK : ∀ p, p < n → K p < 6) (hL : ∀ p, p < n → L p < P) (hm : m < 2 ^ n) : fX8_untoldBy (nI P) (nI n) (-1) kf af (nI m) = some (nI (utk L (dkm (fun p => dk (K p)) L n) m n)) := by
  have h256 : 2 ^ n ≤ 2 ^ 8 := Nat.pow_le_pow_right (by decide) hn
  unfold fX8_untoldBy
  rw [p_mdark0 hP hn hk hl hK hL]
  simp only [bo1]
  refine lr2 (fun i => nI (utk L (dkm (fun p => dk (K p)) L n) m i)) (fun i => nI i) n (fun i hi g => ?_) (fun g => ?_) 400 (by omega)
  · have := hL i hi
    simp only [nle (a := n) (b := i) (by omega) (by omega), show ¬ n ≤ i from by omega, bo1, bo2, bo3, bo4, bo5, bo6, bo7, bo12, jo0, jo1, vlet, i10, i00, if_true, if_false, ite_self, n1z, n0z, if_n (nin (k := i) (N := 8) (by omega) (by omega)), if_n (nin2 (k := i) (N := 8) (by omega) (by omega)), nc (n := i) (by omega), hl i hi, n_bit1 (m := m) (k := i) (by omega) (by omega), n_pw (k := L i) (by omega), n_not, n_and1, nI_1, utk_s]
    cases m.testBit i <;> simp
  · rw [if_pos (Int32.le_refl _)]
theorem tt_untold {x_now_places : Int32} {x_now_people : Int32} {x_now_hour : Int32} {x_now_chance : Int32} {x_now_seed : Int32} {x_now_ways : Nat → Int32} {x_now_distances : Nat → Int32} {x_now_kind : Nat → Int32} {x_now_a : Nat → Int32} {x_now_home : Nat → Int32} {x_now_aim : Nat → Int32} {x_now_at : Nat → Int32} {x_kept_places : Int32} {x_kept_people : Int32} {x_kept_hour : Int32} {x_kept_chance : Int32} {x_kept_seed : Int32} {x_kept_ways : Nat → Int32} {x_kept_distances : Nat → Int32} {x_kept_kind : Nat → Int32} {x_kept_a : Nat → Int32} {x_kept_home : Nat → Int32} {x_kept_aim : Nat → Int32} {x_kept_at : Nat → Int32} {x_isKept : Int32} {x_shelves_c : Nat → Int32} {x_shelves_z : Nat → Int32} {x_shelves_e : Nat → Nat → Int64} {x_tape_size : Int32} {x_tape_bytes : Nat → Int32} {x_refusals : Nat → Int32} {m_places : Int32} {m_people : Int32} {m_hour : Int32} {m_chance : Int32} {m_seed : Int32} {m_ways : Nat → Int32} {m_kind : Nat → Int32} {m_by : Nat → Int32} {m_home : Nat → Int32} {m_aim : Nat → Int32} {m_at0 : Nat → Int32} {m_shelf : Nat → Int32} {m_rowSort : Nat → Int32} {m_rowSize : Nat → Int32} {m_rows : Nat → Nat → Int64} {m_shown : Nat → Int32} {m_tape : Nat → Int32} {m_tapeSize : Int32} {m_refused : Nat → Int32} {m_gone : Int32} {m_kept_places : Int32} {m_kept_people : Int32} {m_kept_hour : Int32} {m_kept_chance : Int32} {m_kept_seed : Int32} {m_kept_ways : Nat → Int32} {m_kept_kind : Nat → Int32} {m_kept_by : Nat → Int32} {m_kept_home : Nat → Int32} {m_kept_aim : Nat → Int32} {m_kept_at0 : Nat → Int32} {kb : Bool} (x_future_places : Int32) (x_future_people : Int32) (x_future_hour : Int32) (x_future_chance : Int32) (x_future_seed : Int32) (x_future_ways : Nat → Int32) (x_future_distances : Nat → Int32) (x_future_kind : Nat → Int32) (x_future_a : Nat → Int32) (x_future_home : Nat → Int32) (x_future_aim : Nat → Int32) (x_future_at : Nat → Int32) (m_now : Int32) (m_steps : Nat → Int32) (m_spot : Nat → Int32) (m_then : Nat → Int32) (p0 : Int32) (p1 : Int32) (R : Rel kb x_now_places x_now_people x_now_hour x_now_chance x_now_seed x_now_ways x_now_distances x_now_kind x_now_a x_now_home x_now_aim x_now_at x_kept_places x_kept_people x_kept_hour x_kept_chance x_kept_seed x_kept_ways x_kept_distances x_kept_kind x_kept_a x_kept_home x_kept_aim x_kept_at x_isKept x_shelves_c x_shelves_z x_shelves_e x_tape_size x_tape_bytes x_refusals m_places m_people m_hour m_chance m_seed m_ways m_kind m_by m_home m_aim m_at0 m_shelf m_rowSort m_rowSize m_rows m_shown m_tape m_tapeSize m_refused m_gone m_kept_places m_kept_people m_kept_hour m_kept_chance m_kept_seed m_kept_ways m_kept_kind m_kept_by m_kept_home m_kept_aim m_kept_at0) : ∃ (r : Int32) (y_future_places : Int32) (y_future_people : Int32) (y_future_hour : Int32) (y_future_chance : Int32) (y_future_seed : Int32) (y_future_ways : Nat → Int32) (y_future_distances : Nat → Int32) (y_future_kind : Nat → Int32) (y_future_a : Nat → Int32) (y_future_home : Nat → Int32) (y_future_aim : Nat → Int32) (y_future_at : Nat → Int32) (y_refusals : Nat → Int32) (z_now : Int32) (z_refused : Nat → Int32) (z_steps : Nat → Int32) (z_spot : Nat → Int32) (z_then : Nat → Int32), fX7_untold x_now_places x_now_people x_now_hour x_now_chance x_now_seed x_now_ways x_now_distances x_now_kind x_now_a x_now_home x_now_aim x_now_at x_future_places x_future_people x_future_hour x_future_chance x_future_seed x_future_ways x_future_distances x_future_kind x_future_a x_future_home x_future_aim x_future_at x_refusals p0 p1 = some (r, y_future_places, y_future_people, y_future_hour, y_future_chance, y_future_seed, y_future_ways, y_future_distances, y_future_kind, y_future_a, y_future_home, y_future_aim, y_future_at, y_refusals) ∧ fX8_untold m_places m_people m_hour m_now m_gone m_refused m_ways m_kind m_home m_aim m_at0 m_steps m_spot m_then p0 p1 = some (r, z_now, z_refused, z_steps, z_spot, z_then) ∧ Rel kb x_now_places x_now_people x_now_hour x_now_chance x_now_seed x_now_ways x_now_distances x_now_kind x_now_a x_now_home x_now_aim x_now_at x_kept_places x_kept_people x_kept_hour x_kept_chance x_kept_seed x_kept_ways x_kept_distances x_kept_kind x_kept_a x_kept_home x_kept_aim x_kept_at x_isKept x_shelves_c x_shelves_z x_shelves_e x_tape_size x_tape_bytes y_refusals m_places m_people m_hour m_chance m_seed m_ways m_kind m_by m_home m_aim m_at0 m_shelf m_rowSort m_rowSize m_rows m_shown m_tape m_tapeSize z_refused m_gone m_kept_places m_kept_people m_kept_hour m_kept_chance m_kept_seed m_kept_ways m_kept_kind m_kept_by m_kept_home m_kept_aim m_kept_at0 := by
  have R0 := R
  obtain ⟨P, n, h, c, s, W, K, A, H, M, L, T, ⟨rfl, rfl, rfl, rfl, rfl, rfl, xd, xk, xa, xh, xm, xl⟩, ⟨rfl, rfl, rfl, rfl, rfl, rfl, mk, ma, mh, mm, ml⟩, rfl, S, U, V, Z⟩ := R
  obtain ⟨hP2, hP, hn, hW, hK, hH, hM, hL, hho⟩ := id T
  obtain ⟨x2, m2, e1, e2, q⟩ := rf2 V
  have h256 : 2 ^ n ≤ 2 ^ 8 := Nat.pow_le_pow_right (by decide) hn
  rcases cSet n hn p0 with ⟨m, hm, rfl, a1, a2⟩ | ⟨a1, a2⟩
  · rcases cTime p1 with ⟨t, ht, rfl, b1, b2⟩ | ⟨b1, b2⟩
    · obtain ⟨af, f1, f2⟩ := p_lookAhead (c := m_chance) (s := m_seed) (bf := x_now_a) T xd xk xh xm xl ht
      obtain ⟨st, sp, tt, f3, f4⟩ := p_goesOn0 (s0 := m_steps) (p0 := m_spot) (t0 := m_then) T mk mh mm ml ht
      have Tt := T.at (fun p => dk (K p)) t
      have hx : fX7_untold (nI P) (nI n) (nI h) m_chance m_seed (nf W) x_now_distances x_now_kind x_now_a x_now_home x_now_aim x_now_at x_future_places x_future_people x_future_hour x_future_chance x_future_seed x_future_ways x_future_distances x_future_kind x_future_a x_future_home x_future_aim x_future_at x_refusals (nI m) (nI t) = some (nI (utk (lc W P n K H M (fun p => dk (K p)) h L (t)) (dkm (fun p => dk (K p)) (lc W P n K H M (fun p => dk (K p)) h L (t)) n) m n), nI P, nI n, nI (hc h (t)), m_chance, m_seed, nf W, x_now_distances, x_now_kind, x_now_a, x_now_home, x_now_aim, af, x_refusals) := by
        unfold fX7_untold
        simp only [n_pw (k := n) (by omega), n_sub1 (pw_pos n), vlet, a1, b1, n1z, n0z, bo1, bo2, bo3, bo4, bo5, bo6, bo7, bo12, jo0, i10, i00, if_true, if_false, ite_self, f1, p_darkPlaces hn xk f2 hK Tt.lt]
        refine lr2 (fun i => nI (utk (lc W P n K H M (fun p => dk (K p)) h L (t)) (dkm (fun p => dk (K p)) (lc W P n K H M (fun p => dk (K p)) h L (t)) n) m i)) (fun i => nI i) n (fun i hi g => ?_) (fun g => ?_) 400 (by omega)
        · have := Tt.lt i hi
          simp only [nle (a := n) (b := i) (by omega) (by omega), show ¬ n ≤ i from by omega, bo1, bo2, bo3, bo4, bo5, bo6, bo7, bo12, jo0, jo1, vlet, i10, i00, if_true, if_false, ite_self, n1z, n0z, if_n (nin (k := i) (N := 8) (by omega) (by omega)), if_n (nin2 (k := i) (N := 8) (by omega) (by omega)), nc (n := i) (by omega), f2 i hi, p_hasBit (m := m) (k := i) (by omega) (by omega), b01, n_pw (k := (lc W P n K H M (fun p => dk (K p)) h L (t)) i) (by omega), n_not, nI_1, utk_s]
          cases m.testBit i <;> simp
        · rw [if_pos (Int32.le_refl _)]
      have hm : fX8_untold (nI P) (nI n) (nI h) m_now (-1) m_refused (nf W) m_kind m_home m_aim m_at0 m_steps m_spot m_then (nI m) (nI t) = some (nI (utk (lc W P n K H M (fun p => dk (K p)) h L (t)) (dkm (fun p => dk (K p)) (lc W P n K H M (fun p => dk (K p)) h L (t)) n) m n), nI (hc h t), m_refused, st, sp, tt) := by
        unfold fX8_untold
        simp only [n_pw (k := n) (by omega), a2, b2, n1z, n0z, bo1, bo2, bo3, bo4, bo5, bo6, bo7, bo12, jo0, i10, i00, if_true, if_false, ite_self, f3, p_untoldBy hP hn mk f4 hK Tt.2.2.2.2.2.2.2.1 hm]
      rw [hx, hm]
      exact ⟨_, _, _, _, _, _, _, _, _, _, _, _, _, _, _, _, _, _, _, rfl, rfl, R0⟩
    · unfold fX7_untold fX8_untold
      simp only [n_pw (k := n) (by omega), n_sub1 (pw_pos n), vlet, a1, b1, b2, e1, e2, n1z, n0z, bo1, bo2, bo3, bo4, bo5, bo6, bo7, bo12, jo0, i10, i00, if_true, if_false, ite_self]
      simp only [← n_sub1 (pw_pos n), a2, n1z, n0z, bo1, bo2, bo3, bo4, bo5, bo6, bo7, bo12, jo0, i10, i00, if_true, if_false, ite_self]
      exact ⟨_, _, _, _, _, _, _, _, _, _, _, _, _, _, _, _, _, _, _, rfl, rfl, R0.rf q⟩
  · unfold fX7_untold fX8_untold
    simp only [n_pw (k := n) (by omega), vlet, a2, e1, e2, n1z, n0z, bo1, bo2, bo3, bo4, bo5, bo6, bo7, bo12, jo0, i10, i00, if_true, if_false, ite_self]
    simp only [n_sub1 (pw_pos n), a1, n1z, n0z, bo1, bo2, bo3, bo4, bo5, bo6, bo7, bo12, jo0, i10, i00, if_true, if_false, ite_self]
    exact ⟨_, _, _, _, _, _, _, _, _, _, _, _, _, _, _, _, _, _, _, rfl, rfl, R0.rf q⟩
/-! ===== the best of a row ===== -/
def bw (c : Nat → Nat) : Nat → Nat
  | 0 => 0
  | i + 1 => if c i ≤ bw c i then bw c i else c i
def bs (c : Nat → Nat) : Nat → Nat
  | 0 => 0
  | i + 1 => if c i ≤ bw c i then bs c i else i
theorem bs_le (c : Nat → Nat) (i : Nat) : bs c i ≤ i := by
  induction i with
  | zero => exact Nat.le_refl _
  | succ i ih => unfold bs; by_cases g : c i ≤ bw c i <;> simp [g]; omega
theorem bw_bs (c : Nat → Nat) (i : Nat) : bw c (i + 1) = c (bs c (i + 1)) := by
  induction i with
  | zero => unfold bw bs bw bs; by_cases g : c 0 ≤ 0 <;> simp [g]; omega
  | succ i ih =>
    rw [bw, bs]
    by_cases g : c (i + 1) ≤ bw c (i + 1)
    · rw [if_pos g, if_pos g]; exact ih
    · rw [if_neg g, if_neg g]
theorem bs_lt (c : Nat → Nat) (i : Nat) : bs c (i + 1) ≤ i := by
  induction i with
  | zero => unfold bs bs; by_cases g : c 0 ≤ bw c 0 <;> simp [g]
  | succ i ih => rw [bs]; by_cases g : c (i + 1) ≤ bw c (i + 1) <;> simp [g]; omega
theorem bw_le {c : Nat → Nat} {B : Nat} (h : ∀ j, c j ≤ B) (i : Nat) : bw c i ≤ B := by
  induction i with
  | zero => exact Nat.zero_le _
  | succ i ih => rw [bw]; by_cases g : c i ≤ bw c i <;> simp [g, ih, h]
theorem bs_s (c : Nat → Nat) (i : Nat) : bs c (i + 1) = if c i ≤ bw c i then bs c i else i := rfl
theorem bw_s (c : Nat → Nat) (i : Nat) : bw c (i + 1) = if c i ≤ bw c i then bw c i else c i := rfl
theorem tt_darkest {x_now_places : Int32} {x_now_people : Int32} {x_now_hour : Int32} {x_now_chance : Int32} {x_now_seed : Int32} {x_now_ways : Nat → Int32} {x_now_distances : Nat → Int32} {x_now_kind : Nat → Int32} {x_now_a : Nat → Int32} {x_now_home : Nat → Int32} {x_now_aim : Nat → Int32} {x_now_at : Nat → Int32} {x_kept_places : Int32} {x_kept_people : Int32} {x_kept_hour : Int32} {x_kept_chance : Int32} {x_kept_seed : Int32} {x_kept_ways : Nat → Int32} {x_kept_distances : Nat → Int32} {x_kept_kind : Nat → Int32} {x_kept_a : Nat → Int32} {x_kept_home : Nat → Int32} {x_kept_aim : Nat → Int32} {x_kept_at : Nat → Int32} {x_isKept : Int32} {x_shelves_c : Nat → Int32} {x_shelves_z : Nat → Int32} {x_shelves_e : Nat → Nat → Int64} {x_tape_size : Int32} {x_tape_bytes : Nat → Int32} {x_refusals : Nat → Int32} {m_places : Int32} {m_people : Int32} {m_hour : Int32} {m_chance : Int32} {m_seed : Int32} {m_ways : Nat → Int32} {m_kind : Nat → Int32} {m_by : Nat → Int32} {m_home : Nat → Int32} {m_aim : Nat → Int32} {m_at0 : Nat → Int32} {m_shelf : Nat → Int32} {m_rowSort : Nat → Int32} {m_rowSize : Nat → Int32} {m_rows : Nat → Nat → Int64} {m_shown : Nat → Int32} {m_tape : Nat → Int32} {m_tapeSize : Int32} {m_refused : Nat → Int32} {m_gone : Int32} {m_kept_places : Int32} {m_kept_people : Int32} {m_kept_hour : Int32} {m_kept_chance : Int32} {m_kept_seed : Int32} {m_kept_ways : Nat → Int32} {m_kept_kind : Nat → Int32} {m_kept_by : Nat → Int32} {m_kept_home : Nat → Int32} {m_kept_aim : Nat → Int32} {m_kept_at0 : Nat → Int32} {kb : Bool} (x_future_places : Int32) (x_future_people : Int32) (x_future_hour : Int32) (x_future_chance : Int32) (x_future_seed : Int32) (x_future_ways : Nat → Int32) (x_future_distances : Nat → Int32) (x_future_kind : Nat → Int32) (x_future_a : Nat → Int32) (x_future_home : Nat → Int32) (x_future_aim : Nat → Int32) (x_future_at : Nat → Int32) (x_choice_found : Int32) (x_choice_worth : Int32) (m_now : Int32) (m_steps : Nat → Int32) (m_spot : Nat → Int32) (m_then : Nat → Int32) (p0 : Int32) (p1 : Int32) (R : Rel kb x_now_places x_now_people x_now_hour x_now_chance x_now_seed x_now_ways x_now_distances x_now_kind x_now_a x_now_home x_now_aim x_now_at x_kept_places x_kept_people x_kept_hour x_kept_chance x_kept_seed x_kept_ways x_kept_distances x_kept_kind x_kept_a x_kept_home x_kept_aim x_kept_at x_isKept x_shelves_c x_shelves_z x_shelves_e x_tape_size x_tape_bytes x_refusals m_places m_people m_hour m_chance m_seed m_ways m_kind m_by m_home m_aim m_at0 m_shelf m_rowSort m_rowSize m_rows m_shown m_tape m_tapeSize m_refused m_gone m_kept_places m_kept_people m_kept_hour m_kept_chance m_kept_seed m_kept_ways m_kept_kind m_kept_by m_kept_home m_kept_aim m_kept_at0) : ∃ (r : Int32) (y_future_places : Int32) (y_future_people : Int32) (y_future_hour : Int32) (y_future_chance : Int32) (y_future_seed : Int32) (y_future_ways : Nat → Int32) (y_future_distances : Nat → Int32) (y_future_kind : Nat → Int32) (y_future_a : Nat → Int32) (y_future_home : Nat → Int32) (y_future_aim : Nat → Int32) (y_future_at : Nat → Int32) (y_choice_found : Int32) (y_choice_worth : Int32) (y_refusals : Nat → Int32) (z_now : Int32) (z_refused : Nat → Int32) (z_steps : Nat → Int32) (z_spot : Nat → Int32) (z_then : Nat → Int32), fX7_darkest x_now_places x_now_people x_now_hour x_now_chance x_now_seed x_now_ways x_now_distances x_now_kind x_now_a x_now_home x_now_aim x_now_at x_future_places x_future_people x_future_hour x_future_chance x_future_seed x_future_ways x_future_distances x_future_kind x_future_a x_future_home x_future_aim x_future_at x_choice_found x_choice_worth x_refusals p0 p1 = some (r, y_future_places, y_future_people, y_future_hour, y_future_chance, y_future_seed, y_future_ways, y_future_distances, y_future_kind, y_future_a, y_future_home, y_future_aim, y_future_at, y_choice_found, y_choice_worth, y_refusals) ∧ fX8_darkest m_places m_people m_hour m_now m_gone m_refused m_ways m_kind m_home m_aim m_at0 m_steps m_spot m_then p0 p1 = some (r, z_now, z_refused, z_steps, z_spot, z_then) ∧ Rel kb x_now_places x_now_people x_now_hour x_now_chance x_now_seed x_now_ways x_now_distances x_now_kind x_now_a x_now_home x_now_aim x_now_at x_kept_places x_kept_people x_kept_hour x_kept_chance x_kept_seed x_kept_ways x_kept_distances x_kept_kind x_kept_a x_kept_home x_kept_aim x_kept_at x_isKept x_shelves_c x_shelves_z x_shelves_e x_tape_size x_tape_bytes y_refusals m_places m_people m_hour m_chance m_seed m_ways m_kind m_by m_home m_aim m_at0 m_shelf m_rowSort m_rowSize m_rows m_shown m_tape m_tapeSize z_refused m_gone m_kept_places m_kept_people m_kept_hour m_kept_chance m_kept_seed m_kept_ways m_kept_kind m_kept_by m_kept_home m_kept_aim m_kept_at0 := by
  have R0 := R
  obtain ⟨P, n, h, c, s, W, K, A, H, M, L, T, ⟨rfl, rfl, rfl, rfl, rfl, rfl, xd, xk, xa, xh, xm, xl⟩, ⟨rfl, rfl, rfl, rfl, rfl, rfl, mk, ma, mh, mm, ml⟩, rfl, S, U, V, Z⟩ := R
  obtain ⟨hP2, hP, hn, hW, hK, hH, hM, hL, hho⟩ := id T
  obtain ⟨x2, m2, e1, e2, q⟩ := rf2 V
  rcases cTime p0 with ⟨t, ht, rfl, b1, b2⟩ | ⟨b1, b2⟩
  · rcases cIn 0 1 0 1 (by decide) (by decide) (by omega) (by omega) p1 with ⟨w, -, hw, hw1, c2⟩ | ⟨c1, c2⟩
    · obtain ⟨af, f1, f2⟩ := p_lookAhead (c := m_chance) (s := m_seed) (bf := x_now_a) T xd xk xh xm xl ht
      obtain ⟨st, sp, tt, f3, f4⟩ := p_goesOn0 (s0 := m_steps) (p0 := m_spot) (t0 := m_then) T mk mh mm ml ht
      have Tt := T.at (fun p => dk (K p)) t
      obtain ⟨w0, w1, w2⟩ := cWhat2 w p1 hw1 (by omega)
      have w3 : p1 ≤ (1 : Int32) := by rw [hw1]; exact nI_le hw (by decide)
      have hc8 : ∀ j, cnt (fun p => ((lc W P n K H M (fun p => dk (K p)) h L (t)) p == j) && dk (K p)) n ≤ 8 := fun j => Nat.le_trans (cnt_le _ _) hn
      have hx : fX7_darkest (nI P) (nI n) (nI h) m_chance m_seed (nf W) x_now_distances x_now_kind x_now_a x_now_home x_now_aim x_now_at x_future_places x_future_people x_future_hour x_future_chance x_future_seed x_future_ways x_future_distances x_future_kind x_future_a x_future_home x_future_aim x_future_at x_choice_found x_choice_worth x_refusals (nI t) p1 = some (if p1 = 0 then nI (bs (fun j => cnt (fun p => ((lc W P n K H M (fun p => dk (K p)) h L (t)) p == j) && dk (K p)) n) P) else nI (bw (fun j => cnt (fun p => ((lc W P n K H M (fun p => dk (K p)) h L (t)) p == j) && dk (K p)) n) P), nI P, nI n, nI (hc h (t)), m_chance, m_seed, nf W, x_now_distances, x_now_kind, x_now_a, x_now_home, x_now_aim, af, nI (bs (fun j => cnt (fun p => ((lc W P n K H M (fun p => dk (K p)) h L (t)) p == j) && dk (K p)) n) P), nI (bw (fun j => cnt (fun p => ((lc W P n K H M (fun p => dk (K p)) h L (t)) p == j) && dk (K p)) n) P), x_refusals) := by
        unfold fX7_darkest fX0_begin
        simp only [b1, if_neg w2, if_pos w3, n1z, n0z, bo1, bo2, bo3, bo4, bo5, bo6, bo7, bo12, jo0, i10, i00, if_true, if_false, ite_self, f1]
        refine lr3 (fun i => nI i) (fun i => nI (bs (fun j => cnt (fun p => ((lc W P n K H M (fun p => dk (K p)) h L (t)) p == j) && dk (K p)) n) i)) (fun i => nI (bw (fun j => cnt (fun p => ((lc W P n K H M (fun p => dk (K p)) h L (t)) p == j) && dk (K p)) n) i)) P (fun i hi g => ?_) (fun g => ?_) 400 (by omega)
        · have h1 := hc8 i
          have h2 := bw_le hc8 i
          simp only [nle (a := P) (b := i) (by omega) (by omega), show ¬ P ≤ i from by omega, bo1, bo2, bo3, bo4, bo5, bo6, bo7, bo12, jo0, jo1, vlet, i10, i00, if_true, if_false, ite_self, n1z, n0z, p_darkeningIn hn (show i < 12 by omega) xk f2 hK Tt.lt, fX0_offer, nle (a := cnt (fun p => ((lc W P n K H M (fun p => dk (K p)) h L (t)) p == i) && dk (K p)) n) (b := bw (fun j => cnt (fun p => ((lc W P n K H M (fun p => dk (K p)) h L (t)) p == j) && dk (K p)) n) i) (by omega) (by omega), nI_1, bs_s, bw_s]
          by_cases e : cnt (fun p => ((lc W P n K H M (fun p => dk (K p)) h L (t)) p == i) && dk (K p)) n ≤ bw (fun j => cnt (fun p => ((lc W P n K H M (fun p => dk (K p)) h L (t)) p == j) && dk (K p)) n) i
          · simp only [e, bo1, bo2, bo3, bo4, bo5, bo6, bo7, bo12, jo0, jo1, vlet, i10, i00, if_true, if_false, ite_self, n1z, n0z]
          · simp only [e, bo1, bo2, bo3, bo4, bo5, bo6, bo7, bo12, jo0, jo1, vlet, i10, i00, if_true, if_false, ite_self, n1z, n0z]
        · rw [if_pos (Int32.le_refl _)]
          by_cases e : p1 = 0
          · rw [if_pos e, if_pos e]
          · rw [if_neg e, if_neg e]
      obtain ⟨P', rfl⟩ : ∃ P', P = P' + 1 := ⟨P - 1, by omega⟩
      have hm : fX8_darkest (nI (P' + 1)) (nI n) (nI h) m_now (-1) m_refused (nf W) m_kind m_home m_aim m_at0 m_steps m_spot m_then (nI t) p1 = some (if p1 = 0 then nI (bs (fun j => cnt (fun p => (lc W (P' + 1) n K H M (fun p => dk (K p)) h L t p == j) && dk (K p)) n) (P' + 1)) else nI (bw (fun j => cnt (fun p => (lc W (P' + 1) n K H M (fun p => dk (K p)) h L t p == j) && dk (K p)) n) (P' + 1)), nI (hc h t), m_refused, st, sp, tt) := by
        have h3 : ∀ i, i ≤ P' → bs (fun j => cnt (fun p => (lc W (P' + 1) n K H M (fun p => dk (K p)) h L t p == j) && dk (K p)) n) (i + 1) < 12 := fun i hi => by
          have := bs_lt (fun j => cnt (fun p => (lc W (P' + 1) n K H M (fun p => dk (K p)) h L t p == j) && dk (K p)) n) i
          omega
        unfold fX8_darkest
        simp only [b2, c2, n1z, n0z, bo1, bo2, bo3, bo4, bo5, bo6, bo7, bo12, jo0, i10, i00, if_true, if_false, ite_self, f3]
        refine lq2 (fun i => nI (bs (fun j => cnt (fun p => (lc W (P' + 1) n K H M (fun p => dk (K p)) h L t p == j) && dk (K p)) n) (i + 1))) (fun i => nI (i + 1)) P' ?_ rfl (fun i hi g => ?_) (fun g => ?_) 400 (by omega)
        · have := bs_lt (fun j => cnt (fun p => (lc W (P' + 1) n K H M (fun p => dk (K p)) h L t p == j) && dk (K p)) n) 0
          rw [show bs (fun j => cnt (fun p => (lc W (P' + 1) n K H M (fun p => dk (K p)) h L t p == j) && dk (K p)) n) (0 + 1) = 0 by omega]; rfl
        · have h1 := hc8 (i + 1)
          have h2 := bw_le hc8 (i + 1)
          simp only [nle (a := P' + 1) (b := i + 1) (by omega) (by omega), show ¬ P' + 1 ≤ i + 1 from by omega, bo1, bo2, bo3, bo4, bo5, bo6, bo7, bo12, jo0, jo1, vlet, i10, i00, if_true, if_false, ite_self, n1z, n0z, p_crowdAt1 hn (show i + 1 < 12 by omega) mk f4 hK Tt.lt, p_crowdAt1 hn (h3 i (by omega)) mk f4 hK Tt.lt, p_bits _ (pm_4096 hn), pc_pm (show n ≤ 12 by omega), nI_1]
          rw [← bw_bs (fun j => cnt (fun p => (lc W (P' + 1) n K H M (fun p => dk (K p)) h L t p == j) && dk (K p)) n) i, bs_s _ (i + 1)]
          simp only [nle (a := cnt (fun p => (lc W (P' + 1) n K H M (fun p => dk (K p)) h L t p == i + 1) && dk (K p)) n) (b := bw (fun j => cnt (fun p => (lc W (P' + 1) n K H M (fun p => dk (K p)) h L t p == j) && dk (K p)) n) (i + 1)) (by omega) (by omega)]
          by_cases e : cnt (fun p => (lc W (P' + 1) n K H M (fun p => dk (K p)) h L t p == i + 1) && dk (K p)) n ≤ bw (fun j => cnt (fun p => (lc W (P' + 1) n K H M (fun p => dk (K p)) h L t p == j) && dk (K p)) n) (i + 1)
          · simp only [e, bo1, bo2, bo3, bo4, bo5, bo6, bo7, bo12, jo0, jo1, vlet, i10, i00, if_true, if_false, ite_self, n1z, n0z]
          · simp only [e, bo1, bo2, bo3, bo4, bo5, bo6, bo7, bo12, jo0, jo1, vlet, i10, i00, if_true, if_false, ite_self, n1z, n0z]
        · rw [if_pos (Int32.le_refl _)]
          by_cases e : p1 = 0
          · rw [if_pos e, if_pos e]
          · rw [if_neg e, if_neg e]
            simp only [p_crowdAt1 hn (h3 P' (by omega)) mk f4 hK Tt.lt, p_bits _ (pm_4096 hn), pc_pm (show n ≤ 12 by omega), bo1, bo2, bo3, bo4, bo5, bo6, bo7, bo12, jo0, jo1, vlet, i10, i00, if_true, if_false, ite_self, n1z, n0z]
            rw [bw_bs]
      rw [hx, hm]
      exact ⟨_, _, _, _, _, _, _, _, _, _, _, _, _, _, _, _, _, _, _, _, _, rfl, rfl, R0⟩
    · unfold fX7_darkest fX8_darkest
      rcases c1 with c1 | c1
      · simp only [b1, b2, c2, e1, e2, n1z, n0z, bo1, bo2, bo3, bo4, bo5, bo6, bo7, bo12, jo0, i10, i00, if_true, if_false, ite_self, if_pos (show p1 < 0 from c1)]
        exact ⟨_, _, _, _, _, _, _, _, _, _, _, _, _, _, _, _, _, _, _, _, _, rfl, rfl, R0.rf q⟩
      · simp only [b1, b2, c2, e1, e2, n1z, n0z, bo1, bo2, bo3, bo4, bo5, bo6, bo7, bo12, jo0, i10, i00, if_true, if_false, ite_self, if_neg (Int32.not_le.mpr (show (1 : Int32) < p1 from c1))]
        exact ⟨_, _, _, _, _, _, _, _, _, _, _, _, _, _, _, _, _, _, _, _, _, rfl, rfl, R0.rf q⟩
  · unfold fX7_darkest fX8_darkest
    simp only [b1, b2, e1, e2, n1z, n0z, bo1, bo2, bo3, bo4, bo5, bo6, bo7, bo12, jo0, i10, i00, if_true, if_false, ite_self]
    exact ⟨_, _, _, _, _, _, _, _, _, _, _, _, _, _, _, _, _, _, _, _, _, rfl, rfl, R0.rf q⟩
