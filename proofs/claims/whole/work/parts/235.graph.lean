/-! ===== the map ===== -/
def rch (W : Nat → Nat) (p k q : Nat) : Bool := match ds W p q with
  | none => false
  | some d => decide (d ≤ k)
theorem p_in0 {o : Option Nat} {k : Nat} (ho : obd o 12) (hk : k ≤ 12) : fX8_in ((dv o).toInt64) (0 : Int64) ((nI k).toInt64) = some (nI (if (match o with | none => false | some d => decide (d ≤ k)) then 1 else 0)) := by
  rw [show (0 : Int64) = (0 : Int32).toInt64 from by decide, p_in]
  cases o with
  | none =>
    rw [if_neg (fun q => absurd q.1 (by decide))]
    rfl
  | some d =>
    have := ho d rfl
    show some (nI (if 0 ≤ nI d ∧ nI d ≤ nI k then 1 else 0)) = _
    by_cases e : d ≤ k
    · rw [if_pos ⟨Int32.not_lt.mp (nI_pos (by omega)), by rw [nI_leI (by omega) (by omega)]; exact e⟩]
      simp [e]
    · rw [if_neg (fun q => e (by have := q.2; rw [nI_leI (by omega) (by omega)] at this; exact this))]
      simp [e]
theorem p_in1 {W : Nat → Nat} {p q k : Nat} (hk : k ≤ 12) : fX8_in ((dv (ds W p q)).toInt64) (0 : Int64) ((nI k).toInt64) = some (nI (if rch W p k q then 1 else 0)) := p_in0 ds_obd hk
theorem rch_if {ρ : Type} {W : Nat → Nat} {p q k : Nat} (hk : k ≤ 12) (a b : ρ) : (if dv (ds W p q) = (-1 : Int32) then a else if nI k < dv (ds W p q) then a else b) = if rch W p k q = true then b else a := by
  unfold rch
  have ho := ds_obd (W := W) (p := p) (q := q)
  cases hd : ds W p q with
  | none => rfl
  | some d =>
    have := ho d hd
    show (if nI d = (-1 : Int32) then a else if nI k < nI d then a else b) = if decide (d ≤ k) = true then b else a
    simp only [nm1 (k := d) (by omega), if_false, nlt (a := k) (b := d) (by omega) (by omega), decide_eq_true_eq]
    by_cases e : d ≤ k
    · rw [if_neg (by omega), if_pos e]
    · rw [if_pos (by omega), if_neg e]
theorem tt_reach {x_now_places : Int32} {x_now_people : Int32} {x_now_hour : Int32} {x_now_chance : Int32} {x_now_seed : Int32} {x_now_ways : Nat → Int32} {x_now_distances : Nat → Int32} {x_now_kind : Nat → Int32} {x_now_a : Nat → Int32} {x_now_home : Nat → Int32} {x_now_aim : Nat → Int32} {x_now_at : Nat → Int32} {x_kept_places : Int32} {x_kept_people : Int32} {x_kept_hour : Int32} {x_kept_chance : Int32} {x_kept_seed : Int32} {x_kept_ways : Nat → Int32} {x_kept_distances : Nat → Int32} {x_kept_kind : Nat → Int32} {x_kept_a : Nat → Int32} {x_kept_home : Nat → Int32} {x_kept_aim : Nat → Int32} {x_kept_at : Nat → Int32} {x_isKept : Int32} {x_shelves_c : Nat → Int32} {x_shelves_z : Nat → Int32} {x_shelves_e : Nat → Nat → Int64} {x_tape_size : Int32} {x_tape_bytes : Nat → Int32} {x_refusals : Nat → Int32} {m_places : Int32} {m_people : Int32} {m_hour : Int32} {m_chance : Int32} {m_seed : Int32} {m_ways : Nat → Int32} {m_kind : Nat → Int32} {m_by : Nat → Int32} {m_home : Nat → Int32} {m_aim : Nat → Int32} {m_at0 : Nat → Int32} {m_shelf : Nat → Int32} {m_rowSort : Nat → Int32} {m_rowSize : Nat → Int32} {m_rows : Nat → Nat → Int64} {m_shown : Nat → Int32} {m_tape : Nat → Int32} {m_tapeSize : Int32} {m_refused : Nat → Int32} {m_gone : Int32} {m_kept_places : Int32} {m_kept_people : Int32} {m_kept_hour : Int32} {m_kept_chance : Int32} {m_kept_seed : Int32} {m_kept_ways : Nat → Int32} {m_kept_kind : Nat → Int32} {m_kept_by : Nat → Int32} {m_kept_home : Nat → Int32} {m_kept_aim : Nat → Int32} {m_kept_at0 : Nat → Int32} {kb : Bool} (m_steps : Nat → Int32) (p0 : Int32) (p1 : Int32) (R : Rel kb x_now_places x_now_people x_now_hour x_now_chance x_now_seed x_now_ways x_now_distances x_now_kind x_now_a x_now_home x_now_aim x_now_at x_kept_places x_kept_people x_kept_hour x_kept_chance x_kept_seed x_kept_ways x_kept_distances x_kept_kind x_kept_a x_kept_home x_kept_aim x_kept_at x_isKept x_shelves_c x_shelves_z x_shelves_e x_tape_size x_tape_bytes x_refusals m_places m_people m_hour m_chance m_seed m_ways m_kind m_by m_home m_aim m_at0 m_shelf m_rowSort m_rowSize m_rows m_shown m_tape m_tapeSize m_refused m_gone m_kept_places m_kept_people m_kept_hour m_kept_chance m_kept_seed m_kept_ways m_kept_kind m_kept_by m_kept_home m_kept_aim m_kept_at0) : ∃ (r : Int32) (y_refusals : Nat → Int32) (z_refused : Nat → Int32) (z_steps : Nat → Int32), fX7_reach x_now_places x_now_distances x_refusals p0 p1 = some (r, y_refusals) ∧ fX8_reach m_places m_refused m_ways m_steps p0 p1 = some (r, z_refused, z_steps) ∧ Rel kb x_now_places x_now_people x_now_hour x_now_chance x_now_seed x_now_ways x_now_distances x_now_kind x_now_a x_now_home x_now_aim x_now_at x_kept_places x_kept_people x_kept_hour x_kept_chance x_kept_seed x_kept_ways x_kept_distances x_kept_kind x_kept_a x_kept_home x_kept_aim x_kept_at x_isKept x_shelves_c x_shelves_z x_shelves_e x_tape_size x_tape_bytes y_refusals m_places m_people m_hour m_chance m_seed m_ways m_kind m_by m_home m_aim m_at0 m_shelf m_rowSort m_rowSize m_rows m_shown m_tape m_tapeSize z_refused m_gone m_kept_places m_kept_people m_kept_hour m_kept_chance m_kept_seed m_kept_ways m_kept_kind m_kept_by m_kept_home m_kept_aim m_kept_at0 := by
  have R0 := R
  obtain ⟨P, n, h, c, s, W, K, A, H, M, L, T, ⟨rfl, rfl, rfl, rfl, rfl, rfl, xd, xk, xa, xh, xm, xl⟩, ⟨rfl, rfl, rfl, rfl, rfl, rfl, mk, ma, mh, mm, ml⟩, rfl, S, U, V, Z⟩ := R
  obtain ⟨hP2, hP, hn, hW, hK, hH, hM, hL, hho⟩ := id T
  obtain ⟨x2, m2, e1, e2, q⟩ := rf2 V
  rcases cPlace P hP p0 with ⟨p, hp, rfl, a1, a2⟩ | ⟨a1, a2⟩
  · rcases cIn 0 12 0 12 (by decide) (by decide) (by omega) (by omega) p1 with ⟨k, -, hk, rfl, b2⟩ | ⟨b1, b2⟩
    · have hx : fX7_reach (nI P) x_now_distances x_refusals (nI p) (nI k) = some (nI (cnt (rch W p k) P), x_refusals) := by
        unfold fX7_reach
        simp only [a1, n1z, n0z, bo1, bo2, bo3, bo4, bo5, bo6, bo7, bo12, jo0, i10, i00, if_true, if_false, ite_self, if_neg (nI_pos (n := k) (by omega)), show (12 : Int32) = nI 12 from rfl, nle (a := k) (b := 12) (by omega) (by omega), hk]
        refine lr2 (fun i => nI (cnt (rch W p k) i)) (fun i => nI i) P (fun i hi g => ?_) (fun g => ?_) 400 (by omega)
        · simp only [nle (a := P) (b := i) (by omega) (by omega), show ¬ P ≤ i from by omega, bo1, bo2, bo3, bo4, bo5, bo6, bo7, bo12, jo0, jo1, vlet, i10, i00, if_true, if_false, ite_self, n1z, n0z, p_distance xd (show p < 12 by omega) (show i < 12 by omega), rch_if hk, nI_1, cnt_s]
          by_cases e : rch W p k i = true
          · simp only [e, bo1, bo2, bo3, bo4, bo5, bo6, bo7, bo12, jo0, jo1, vlet, i10, i00, if_true, if_false, ite_self, n1z, n0z]
          · have e' : rch W p k i = false := by simpa using e
            simp only [e', Bool.false_eq_true, Nat.add_zero, bo1, bo2, bo3, bo4, bo5, bo6, bo7, bo12, jo0, jo1, vlet, i10, i00, if_true, if_false, ite_self, n1z, n0z]
        · rw [if_pos (Int32.le_refl _)]
      obtain ⟨st, f1, f2⟩ := p_findFar (s0 := m_steps) hW hP hP2 hp
      have hm : fX8_reach (nI P) m_refused (nf W) m_steps (nI p) (nI k) = some (nI (cnt (rch W p k) P), m_refused, st) := by
        unfold fX8_reach
        simp only [a2, b2, n1z, n0z, bo1, bo2, bo3, bo4, bo5, bo6, bo7, bo12, jo0, i10, i00, if_true, if_false, ite_self, f1]
        refine lr2 (fun i => nI (cnt (rch W p k) i)) (fun i => nI i) P (fun i hi g => ?_) (fun g => ?_) 400 (by omega)
        · have ho := ds_obd (W := W) (p := p) (q := i)
          simp only [nle (a := P) (b := i) (by omega) (by omega), show ¬ P ≤ i from by omega, bo1, bo2, bo3, bo4, bo5, bo6, bo7, bo12, jo0, jo1, vlet, i10, i00, if_true, if_false, ite_self, n1z, n0z, if_n (nin (k := i) (N := 12) (by omega) (by omega)), if_n (nin2 (k := i) (N := 12) (by omega) (by omega)), nc (n := i) (by omega), f2 i hi, p_in1 hk, b01, nI_1, cnt_s]
          by_cases e : rch W p k i = true
          · simp only [e, bo1, bo2, bo3, bo4, bo5, bo6, bo7, bo12, jo0, jo1, vlet, i10, i00, if_true, if_false, ite_self, n1z, n0z, Bool.true_eq_false, nI_1]
          · have e' : rch W p k i = false := by simpa using e
            simp only [e', Bool.false_eq_true, Nat.add_zero, Int32.add_zero, bo1, bo2, bo3, bo4, bo5, bo6, bo7, bo12, jo0, jo1, vlet, i10, i00, if_true, if_false, ite_self, n1z, n0z]
        · rw [if_pos (Int32.le_refl _)]
      rw [hx, hm]
      exact ⟨_, _, _, _, rfl, rfl, R0⟩
    · unfold fX7_reach fX8_reach
      rcases b1 with b1 | b1
      · simp only [a1, a2, b2, e1, e2, n1z, n0z, bo1, bo2, bo3, bo4, bo5, bo6, bo7, bo12, jo0, i10, i00, if_true, if_false, ite_self, if_pos (show p1 < 0 from b1)]
        exact ⟨_, _, _, _, rfl, rfl, R0.rf q⟩
      · simp only [a1, a2, b2, e1, e2, n1z, n0z, bo1, bo2, bo3, bo4, bo5, bo6, bo7, bo12, jo0, i10, i00, if_true, if_false, ite_self, if_neg (Int32.not_le.mpr (show (12 : Int32) < p1 from b1))]
        exact ⟨_, _, _, _, rfl, rfl, R0.rf q⟩
  · unfold fX7_reach fX8_reach
    simp only [a1, a2, e1, e2, n1z, n0z, bo1, bo2, bo3, bo4, bo5, bo6, bo7, bo12, jo0, i10, i00, if_true, if_false, ite_self]
    exact ⟨_, _, _, _, rfl, rfl, R0.rf q⟩
/-- the farthest of the first i -/
def fr (W : Nat → Nat) (p : Nat) : Nat → Nat
  | 0 => p
  | i + 1 => if dv (ds W p i) ≤ dv (ds W p (fr W p i)) then fr W p i else i
theorem fr_s (W : Nat → Nat) (p i : Nat) : fr W p (i + 1) = if dv (ds W p i) ≤ dv (ds W p (fr W p i)) then fr W p i else i := rfl
theorem fr_lt {W : Nat → Nat} {p P : Nat} (hp : p < P) : ∀ i, i ≤ P → fr W p i < P := by
  intro i
  induction i with
  | zero => intro _; exact hp
  | succ i ih =>
    intro hi
    rw [fr_s]
    by_cases e : dv (ds W p i) ≤ dv (ds W p (fr W p i))
    · rw [if_pos e]; exact ih (by omega)
    · rw [if_neg e]; omega
theorem ds_self (W : Nat → Nat) (p : Nat) : ds W p p = some 0 := by
  apply ff_eq (Nat.le_refl _) (by omega)
  · show (2 ^ p).testBit p = true
    exact Nat.testBit_two_pow_self
  · intro j _ hj; omega
theorem tt_farthest {x_now_places : Int32} {x_now_people : Int32} {x_now_hour : Int32} {x_now_chance : Int32} {x_now_seed : Int32} {x_now_ways : Nat → Int32} {x_now_distances : Nat → Int32} {x_now_kind : Nat → Int32} {x_now_a : Nat → Int32} {x_now_home : Nat → Int32} {x_now_aim : Nat → Int32} {x_now_at : Nat → Int32} {x_kept_places : Int32} {x_kept_people : Int32} {x_kept_hour : Int32} {x_kept_chance : Int32} {x_kept_seed : Int32} {x_kept_ways : Nat → Int32} {x_kept_distances : Nat → Int32} {x_kept_kind : Nat → Int32} {x_kept_a : Nat → Int32} {x_kept_home : Nat → Int32} {x_kept_aim : Nat → Int32} {x_kept_at : Nat → Int32} {x_isKept : Int32} {x_shelves_c : Nat → Int32} {x_shelves_z : Nat → Int32} {x_shelves_e : Nat → Nat → Int64} {x_tape_size : Int32} {x_tape_bytes : Nat → Int32} {x_refusals : Nat → Int32} {m_places : Int32} {m_people : Int32} {m_hour : Int32} {m_chance : Int32} {m_seed : Int32} {m_ways : Nat → Int32} {m_kind : Nat → Int32} {m_by : Nat → Int32} {m_home : Nat → Int32} {m_aim : Nat → Int32} {m_at0 : Nat → Int32} {m_shelf : Nat → Int32} {m_rowSort : Nat → Int32} {m_rowSize : Nat → Int32} {m_rows : Nat → Nat → Int64} {m_shown : Nat → Int32} {m_tape : Nat → Int32} {m_tapeSize : Int32} {m_refused : Nat → Int32} {m_gone : Int32} {m_kept_places : Int32} {m_kept_people : Int32} {m_kept_hour : Int32} {m_kept_chance : Int32} {m_kept_seed : Int32} {m_kept_ways : Nat → Int32} {m_kept_kind : Nat → Int32} {m_kept_by : Nat → Int32} {m_kept_home : Nat → Int32} {m_kept_aim : Nat → Int32} {m_kept_at0 : Nat → Int32} {kb : Bool} (x_choice_found : Int32) (x_choice_worth : Int32) (m_steps : Nat → Int32) (p0 : Int32) (R : Rel kb x_now_places x_now_people x_now_hour x_now_chance x_now_seed x_now_ways x_now_distances x_now_kind x_now_a x_now_home x_now_aim x_now_at x_kept_places x_kept_people x_kept_hour x_kept_chance x_kept_seed x_kept_ways x_kept_distances x_kept_kind x_kept_a x_kept_home x_kept_aim x_kept_at x_isKept x_shelves_c x_shelves_z x_shelves_e x_tape_size x_tape_bytes x_refusals m_places m_people m_hour m_chance m_seed m_ways m_kind m_by m_home m_aim m_at0 m_shelf m_rowSort m_rowSize m_rows m_shown m_tape m_tapeSize m_refused m_gone m_kept_places m_kept_people m_kept_hour m_kept_chance m_kept_seed m_kept_ways m_kept_kind m_kept_by m_kept_home m_kept_aim m_kept_at0) : ∃ (r : Int32) (y_choice_found : Int32) (y_choice_worth : Int32) (y_refusals : Nat → Int32) (z_refused : Nat → Int32) (z_steps : Nat → Int32), fX7_farthest x_now_places x_now_distances x_choice_found x_choice_worth x_refusals p0 = some (r, y_choice_found, y_choice_worth, y_refusals) ∧ fX8_farthest m_places m_refused m_ways m_steps p0 = some (r, z_refused, z_steps) ∧ Rel kb x_now_places x_now_people x_now_hour x_now_chance x_now_seed x_now_ways x_now_distances x_now_kind x_now_a x_now_home x_now_aim x_now_at x_kept_places x_kept_people x_kept_hour x_kept_chance x_kept_seed x_kept_ways x_kept_distances x_kept_kind x_kept_a x_kept_home x_kept_aim x_kept_at x_isKept x_shelves_c x_shelves_z x_shelves_e x_tape_size x_tape_bytes y_refusals m_places m_people m_hour m_chance m_seed m_ways m_kind m_by m_home m_aim m_at0 m_shelf m_rowSort m_rowSize m_rows m_shown m_tape m_tapeSize z_refused m_gone m_kept_places m_kept_people m_kept_hour m_kept_chance m_kept_seed m_kept_ways m_kept_kind m_kept_by m_kept_home m_kept_aim m_kept_at0 := by
  have R0 := R
  obtain ⟨P, n, h, c, s, W, K, A, H, M, L, T, ⟨rfl, rfl, rfl, rfl, rfl, rfl, xd, xk, xa, xh, xm, xl⟩, ⟨rfl, rfl, rfl, rfl, rfl, rfl, mk, ma, mh, mm, ml⟩, rfl, S, U, V, Z⟩ := R
  obtain ⟨hP2, hP, hn, hW, hK, hH, hM, hL, hho⟩ := id T
  obtain ⟨x2, m2, e1, e2, q⟩ := rf2 V
  rcases cPlace P hP p0 with ⟨p, hp, rfl, a1, a2⟩ | ⟨a1, a2⟩
  · have hx : fX7_farthest (nI P) x_now_distances x_choice_found x_choice_worth x_refusals (nI p) = some (nI (fr W p P), nI (fr W p P), dv (ds W p (fr W p P)), x_refusals) := by
      unfold fX7_farthest fX0_begin
      simp only [a1, n1z, n0z, bo1, bo2, bo3, bo4, bo5, bo6, bo7, bo12, jo0, i10, i00, if_true, if_false, ite_self]
      refine lq3 (fun i => nI i) (fun i => nI (fr W p i)) (fun i => dv (ds W p (fr W p i))) P rfl rfl ?_ (fun i hi g => ?_) (fun g => ?_) 400 (by omega)
      · show (0 : Int32) = dv (ds W p p)
        rw [ds_self]; rfl
      · simp only [nle (a := P) (b := i) (by omega) (by omega), show ¬ P ≤ i from by omega, bo1, bo2, bo3, bo4, bo5, bo6, bo7, bo12, jo0, jo1, vlet, i10, i00, if_true, if_false, ite_self, n1z, n0z, p_distance xd (show p < 12 by omega) (show i < 12 by omega), p_offer, nI_1, fr_s]
        by_cases e : dv (ds W p i) ≤ dv (ds W p (fr W p i))
        · simp only [e, bo1, bo2, bo3, bo4, bo5, bo6, bo7, bo12, jo0, jo1, vlet, i10, i00, if_true, if_false, ite_self, n1z, n0z]
        · simp only [e, bo1, bo2, bo3, bo4, bo5, bo6, bo7, bo12, jo0, jo1, vlet, i10, i00, if_true, if_false, ite_self, n1z, n0z]
      · rw [if_pos (Int32.le_refl _)]
    obtain ⟨st, f1, f2⟩ := p_findFar (s0 := m_steps) hW hP hP2 hp
    have hm : fX8_farthest (nI P) m_refused (nf W) m_steps (nI p) = some (nI (fr W p P), m_refused, st) := by
      unfold fX8_farthest
      simp only [a2, n1z, n0z, bo1, bo2, bo3, bo4, bo5, bo6, bo7, bo12, jo0, i10, i00, if_true, if_false, ite_self, f1]
      refine lr2 (fun i => nI (fr W p i)) (fun i => nI i) P (fun i hi g => ?_) (fun g => ?_) 400 (by omega)
      · have hf := fr_lt (W := W) hp i (by omega)
        simp only [nle (a := P) (b := i) (by omega) (by omega), show ¬ P ≤ i from by omega, bo1, bo2, bo3, bo4, bo5, bo6, bo7, bo12, jo0, jo1, vlet, i10, i00, if_true, if_false, ite_self, n1z, n0z, if_n (nin (k := i) (N := 12) (by omega) (by omega)), if_n (nin2 (k := i) (N := 12) (by omega) (by omega)), nc (n := i) (by omega), if_n (nin (k := (fr W p i)) (N := 12) (by omega) (by omega)), if_n (nin2 (k := (fr W p i)) (N := 12) (by omega) (by omega)), nc (n := (fr W p i)) (by omega), f2 i hi, f2 _ hf, nI_1, fr_s]
        by_cases e : dv (ds W p i) ≤ dv (ds W p (fr W p i))
        · simp only [e, bo1, bo2, bo3, bo4, bo5, bo6, bo7, bo12, jo0, jo1, vlet, i10, i00, if_true, if_false, ite_self, n1z, n0z]
        · simp only [e, bo1, bo2, bo3, bo4, bo5, bo6, bo7, bo12, jo0, jo1, vlet, i10, i00, if_true, if_false, ite_self, n1z, n0z]
      · rw [if_pos (Int32.le_refl _)]
    rw [hx, hm]
    exact ⟨_, _, _, _, _, _, rfl, rfl, R0⟩
  · unfold fX7_farthest fX8_farthest
    simp only [a1, a2, e1, e2, n1z, n0z, bo1, bo2, bo3, bo4, bo5, bo6, bo7, bo12, jo0, i10, i00, if_true, if_false, ite_self]
    exact ⟨_, _, _, _, _, _, rfl, rfl, R0.rf q⟩
/-- how far together -/
def fd1 (W : Nat → Nat) (x y : Nat) : Nat := match ds W x y with
  | none => 12
  | some d => d
def ft (W L : Nat → Nat) (x : Nat) : Nat → Nat
  | 0 => 0
  | n + 1 => ft W L x n + fd1 W x (L n)
theorem fd1_le (W : Nat → Nat) (x y : Nat) : fd1 W x y ≤ 12 := by
  unfold fd1
  have ho := ds_obd (W := W) (p := x) (q := y)
  cases h : ds W x y with
  | none => exact Nat.le_refl _
  | some d => have := ho d h; show d ≤ 12; omega
theorem ft_le (W L : Nat → Nat) (x n : Nat) : ft W L x n ≤ 12 * n := by
  induction n with
  | zero => exact Nat.le_refl _
  | succ n ih => have := fd1_le W x (L n); unfold ft; omega
theorem fd1_dv (W : Nat → Nat) (x y : Nat) : (if dv (ds W x y) = (-1 : Int32) then (12 : Int32) else dv (ds W x y)) = nI (fd1 W x y) := by
  unfold fd1
  have ho := ds_obd (W := W) (p := x) (q := y)
  cases h : ds W x y with
  | none => rfl
  | some d =>
    have := ho d h
    show (if nI d = (-1 : Int32) then (12 : Int32) else nI d) = nI d
    rw [if_neg (by rw [nm1 (by omega)]; exact id)]
theorem p_farTogether {W L : Nat → Nat} {n x : Nat} {d af : Nat → Int32} (hn : n ≤ 8) (hx : x < 12) (hd : dok W d) (hl : ag n af L) (hL : ∀ p, p < n → L p < 12) : fX5_farTogether (nI n) d af (nI x) = some (nI (ft W L x n)) := by
  unfold fX5_farTogether
  simp only [jo1_ite]
  refine lr2 (fun i => nI (ft W L x i)) (fun i => nI i) n (fun i hi g => ?_) (fun g => ?_) 400 (by omega)
  · simp only [nle (a := n) (b := i) (by omega) (by omega), show ¬ n ≤ i from by omega, bo1, bo2, bo3, bo4, bo5, bo6, bo7, bo12, jo0, jo1, vlet, i10, i00, if_true, if_false, ite_self, n1z, n0z, if_n (nin (k := i) (N := 8) (by omega) (by omega)), if_n (nin2 (k := i) (N := 8) (by omega) (by omega)), nc (n := i) (by omega), hl i hi, p_distance hd hx (hL i hi), fd1_dv, nI_add, nI_1, ft]
  · rw [if_pos (Int32.le_refl _)]
def mi (c : Nat → Nat) : Nat → Nat
  | 0 => 0
  | i + 1 => if c (mi c i) ≤ c (i + 1) then mi c i else i + 1
theorem mi_s (c : Nat → Nat) (i : Nat) : mi c (i + 1) = if c (mi c i) ≤ c (i + 1) then mi c i else i + 1 := rfl
theorem mi_le (c : Nat → Nat) (i : Nat) : mi c i ≤ i := by
  induction i with
  | zero => exact Nat.le_refl _
  | succ i ih =>
    rw [mi_s]
    by_cases e : c (mi c i) ≤ c (i + 1)
    · rw [if_pos e]; omega
    · rw [if_neg e]; omega
theorem n_negle {a b : Nat} (ha : a ≤ 1000) (hb : b ≤ 1000) : (-nI a ≤ -nI b) = (b ≤ a) := by
  have key : ∀ k, k ≤ 1000 → (-nI k).toInt = -(k : Int) := by
    intro k hk
    rw [Int32.toInt_neg, nI_toInt (by omega), Int.bmod_eq_of_le (by omega) (by omega)]
  rw [Int32.le_iff_toInt_le, key a ha, key b hb]
  apply propext
  omega
theorem tt_middle {x_now_places : Int32} {x_now_people : Int32} {x_now_hour : Int32} {x_now_chance : Int32} {x_now_seed : Int32} {x_now_ways : Nat → Int32} {x_now_distances : Nat → Int32} {x_now_kind : Nat → Int32} {x_now_a : Nat → Int32} {x_now_home : Nat → Int32} {x_now_aim : Nat → Int32} {x_now_at : Nat → Int32} {x_kept_places : Int32} {x_kept_people : Int32} {x_kept_hour : Int32} {x_kept_chance : Int32} {x_kept_seed : Int32} {x_kept_ways : Nat → Int32} {x_kept_distances : Nat → Int32} {x_kept_kind : Nat → Int32} {x_kept_a : Nat → Int32} {x_kept_home : Nat → Int32} {x_kept_aim : Nat → Int32} {x_kept_at : Nat → Int32} {x_isKept : Int32} {x_shelves_c : Nat → Int32} {x_shelves_z : Nat → Int32} {x_shelves_e : Nat → Nat → Int64} {x_tape_size : Int32} {x_tape_bytes : Nat → Int32} {x_refusals : Nat → Int32} {m_places : Int32} {m_people : Int32} {m_hour : Int32} {m_chance : Int32} {m_seed : Int32} {m_ways : Nat → Int32} {m_kind : Nat → Int32} {m_by : Nat → Int32} {m_home : Nat → Int32} {m_aim : Nat → Int32} {m_at0 : Nat → Int32} {m_shelf : Nat → Int32} {m_rowSort : Nat → Int32} {m_rowSize : Nat → Int32} {m_rows : Nat → Nat → Int64} {m_shown : Nat → Int32} {m_tape : Nat → Int32} {m_tapeSize : Int32} {m_refused : Nat → Int32} {m_gone : Int32} {m_kept_places : Int32} {m_kept_people : Int32} {m_kept_hour : Int32} {m_kept_chance : Int32} {m_kept_seed : Int32} {m_kept_ways : Nat → Int32} {m_kept_kind : Nat → Int32} {m_kept_by : Nat → Int32} {m_kept_home : Nat → Int32} {m_kept_aim : Nat → Int32} {m_kept_at0 : Nat → Int32} {kb : Bool} (x_choice_found : Int32) (x_choice_worth : Int32) (m_steps : Nat → Int32) (R : Rel kb x_now_places x_now_people x_now_hour x_now_chance x_now_seed x_now_ways x_now_distances x_now_kind x_now_a x_now_home x_now_aim x_now_at x_kept_places x_kept_people x_kept_hour x_kept_chance x_kept_seed x_kept_ways x_kept_distances x_kept_kind x_kept_a x_kept_home x_kept_aim x_kept_at x_isKept x_shelves_c x_shelves_z x_shelves_e x_tape_size x_tape_bytes x_refusals m_places m_people m_hour m_chance m_seed m_ways m_kind m_by m_home m_aim m_at0 m_shelf m_rowSort m_rowSize m_rows m_shown m_tape m_tapeSize m_refused m_gone m_kept_places m_kept_people m_kept_hour m_kept_chance m_kept_seed m_kept_ways m_kept_kind m_kept_by m_kept_home m_kept_aim m_kept_at0) : ∃ (r : Int32) (y_choice_found : Int32) (y_choice_worth : Int32) (y_refusals : Nat → Int32) (z_refused : Nat → Int32) (z_steps : Nat → Int32), fX7_middle x_now_places x_now_people x_now_distances x_now_at x_choice_found x_choice_worth x_refusals = some (r, y_choice_found, y_choice_worth, y_refusals) ∧ fX8_middle m_places m_people m_refused m_ways m_at0 m_steps = some (r, z_refused, z_steps) ∧ Rel kb x_now_places x_now_people x_now_hour x_now_chance x_now_seed x_now_ways x_now_distances x_now_kind x_now_a x_now_home x_now_aim x_now_at x_kept_places x_kept_people x_kept_hour x_kept_chance x_kept_seed x_kept_ways x_kept_distances x_kept_kind x_kept_a x_kept_home x_kept_aim x_kept_at x_isKept x_shelves_c x_shelves_z x_shelves_e x_tape_size x_tape_bytes y_refusals m_places m_people m_hour m_chance m_seed m_ways m_kind m_by m_home m_aim m_at0 m_shelf m_rowSort m_rowSize m_rows m_shown m_tape m_tapeSize z_refused m_gone m_kept_places m_kept_people m_kept_hour m_kept_chance m_kept_seed m_kept_ways m_kept_kind m_kept_by m_kept_home m_kept_aim m_kept_at0 := by
  have R0 := R
  obtain ⟨P, n, h, c, s, W, K, A, H, M, L, T, ⟨rfl, rfl, rfl, rfl, rfl, rfl, xd, xk, xa, xh, xm, xl⟩, ⟨rfl, rfl, rfl, rfl, rfl, rfl, mk, ma, mh, mm, ml⟩, rfl, S, U, V, Z⟩ := R
  obtain ⟨hP2, hP, hn, hW, hK, hH, hM, hL, hho⟩ := id T
  obtain ⟨x5, m5, e5, e6, q5⟩ := rf5 V
  by_cases n0 : n = 0
  · subst n0
    unfold fX7_middle fX8_middle
    simp only [e5, e6, n1z, n0z, bo1, bo2, bo3, bo4, bo5, bo6, bo7, bo12, jo0, i10, i00, if_true, if_false, ite_self]
    exact ⟨_, _, _, _, _, _, rfl, rfl, R0.rf q5⟩
  · have nz : (nI n = 0) = False := eq_false (by rw [show (0 : Int32) = nI 0 from rfl, nI_eq (by omega) (by omega)]; omega)
    obtain ⟨P', rfl⟩ : ∃ P', P = P' + 1 := ⟨P - 1, by omega⟩
    have hb : ∀ i, ft W L i n ≤ 96 := fun i => Nat.le_trans (ft_le W L i n) (by omega)
    have hx : fX7_middle (nI (P' + 1)) (nI n) x_now_distances x_now_at x_choice_found x_choice_worth x_refusals = some (nI (mi (fun x => ft W L x n) P'), nI (mi (fun x => ft W L x n) P'), -nI (ft W L (mi (fun x => ft W L x n) P') n), x_refusals) := by
      unfold fX7_middle fX0_begin
      have z0 := p_farTogether (x := 0) hn (by omega) xd xl T.lt
      simp only [nz, n1z, n0z, bo1, bo2, bo3, bo4, bo5, bo6, bo7, bo12, jo0, i10, i00, if_true, if_false, ite_self, show fX5_farTogether (nI n) x_now_distances x_now_at (0 : Int32) = _ from z0]
      refine lq3 (fun i => nI (i + 1)) (fun i => nI (mi (fun x => ft W L x n) i)) (fun i => -nI (ft W L (mi (fun x => ft W L x n) i) n)) P' rfl rfl rfl (fun i hi g => ?_) (fun g => ?_) 400 (by omega)
      · have h1 := hb (i + 1)
        have h2 := hb (mi (fun x => ft W L x n) i)
        simp only [nle (a := P' + 1) (b := i + 1) (by omega) (by omega), show ¬ P' + 1 ≤ i + 1 from by omega, bo1, bo2, bo3, bo4, bo5, bo6, bo7, bo12, jo0, jo1, vlet, i10, i00, if_true, if_false, ite_self, n1z, n0z, p_farTogether (x := i + 1) hn (by omega) xd xl T.lt, p_offer, n_negle (a := ft W L (i + 1) n) (b := ft W L (mi (fun x => ft W L x n) i) n) (by omega) (by omega), nI_1, mi_s]
        by_cases e : ft W L (mi (fun x => ft W L x n) i) n ≤ ft W L (i + 1) n
        · simp only [e, bo1, bo2, bo3, bo4, bo5, bo6, bo7, bo12, jo0, jo1, vlet, i10, i00, if_true, if_false, ite_self, n1z, n0z]
        · simp only [e, bo1, bo2, bo3, bo4, bo5, bo6, bo7, bo12, jo0, jo1, vlet, i10, i00, if_true, if_false, ite_self, n1z, n0z]
      · rw [if_pos (Int32.le_refl _)]
    have hm : (fun o => ∃ st, o = some (nI (mi (fun x => ft W L x n) P'), m_refused, st)) (fX8_middle (nI (P' + 1)) (nI n) m_refused (nf W) m_at0 m_steps) := by
      unfold fX8_middle
      simp only [jo1_ite]
      simp only [nz, n1z, n0z, bo1, bo2, bo3, bo4, bo5, bo6, bo7, bo12, jo0, i10, i00, if_true, if_false, ite_self]
      refine lph4 (Φ := fun o => ∃ st, o = some (nI (mi (fun x => ft W L x n) P'), m_refused, st)) (fun i a b x _ => x = nI i ∧ (i = 0 → a = (-1 : Int32)) ∧ (∀ j, i = j + 1 → a = nI (mi (fun x => ft W L x n) j) ∧ b = nI (ft W L (mi (fun x => ft W L x n) j) n))) (P' + 1) ⟨rfl, fun _ => rfl, fun j hj => by omega⟩ (fun i hi a b x s z => ?_) (fun a b x s z g => ?_) 400 (by omega)
      · obtain ⟨rfl, z1, z2⟩ := z
        obtain ⟨st, f1, f2⟩ := p_findFar (s0 := s) hW hP hP2 hi
        refine ⟨nI (mi (fun x => ft W L x n) i), nI (ft W L (mi (fun x => ft W L x n) i) n), _, st, ⟨rfl, fun h => by omega, fun j hj => by rw [show j = i by omega]; exact ⟨rfl, rfl⟩⟩, fun g => ?_⟩
        simp only [nle (a := P' + 1) (b := i) (by omega) (by omega), show ¬ P' + 1 ≤ i from by omega, bo1, bo2, bo3, bo4, bo5, bo6, bo7, bo12, jo0, jo1, vlet, i10, i00, if_true, if_false, ite_self, n1z, n0z, f1]
        refine lq2 (fun o => nI (ft W L i o)) (fun o => nI o) n rfl rfl (fun o ho g2 => ?_) (fun g2 => ?_) 400 (by omega)
        · have h1 := T.lt o ho
          have h2 := hL o ho
          simp only [nle (a := n) (b := o) (by omega) (by omega), show ¬ n ≤ o from by omega, bo1, bo2, bo3, bo4, bo5, bo6, bo7, bo12, jo0, jo1, vlet, i10, i00, if_true, if_false, ite_self, n1z, n0z, if_n (nin (k := o) (N := 8) (by omega) (by omega)), if_n (nin2 (k := o) (N := 8) (by omega) (by omega)), nc (n := o) (by omega), ml o ho, if_n (nin (k := (L o)) (N := 12) (by omega) (by omega)), if_n (nin2 (k := (L o)) (N := 12) (by omega) (by omega)), nc (n := (L o)) (by omega), f2 _ h2, nI_1, ft]
          have hf := fd1_dv W i (L o)
          by_cases e : dv (ds W i (L o)) = (-1 : Int32)
          · rw [if_pos e] at hf
            rw [if_pos e, hf, nI_add]
          · rw [if_neg e] at hf
            rw [if_neg e, hf, nI_add]
        · simp only [Int32.le_refl, bo1, bo2, bo3, bo4, bo5, bo6, bo7, bo12, jo0, jo1, vlet, i10, i00, if_true, if_false, ite_self, n1z, n0z, jo2]
          cases i with
          | zero =>
            rw [z1 rfl]
            simp only [mm1, bo1, bo2, bo3, bo4, bo5, bo6, bo7, bo12, jo0, jo1, vlet, i10, i00, if_true, if_false, ite_self, n1z, n0z, nI_1]
            rfl
          | succ j =>
            obtain ⟨z3, z4⟩ := z2 j rfl
            have h1 := hb (j + 1)
            have h2 := hb (mi (fun x => ft W L x n) j)
            have h3 : mi (fun x => ft W L x n) j ≤ 1000 := Nat.le_trans (mi_le _ j) (by omega)
            rw [z3, z4]
            simp only [nm1 h3, bo1, bo2, bo3, bo4, bo5, bo6, bo7, bo12, jo0, jo1, vlet, i10, i00, if_true, if_false, ite_self, n1z, n0z, nle (a := ft W L (mi (fun x => ft W L x n) j) n) (b := ft W L (j + 1) n) (by omega) (by omega), nI_1, mi_s]
            by_cases e : ft W L (mi (fun x => ft W L x n) j) n ≤ ft W L (j + 1) n
            · simp only [e, bo1, bo2, bo3, bo4, bo5, bo6, bo7, bo12, jo0, jo1, vlet, i10, i00, if_true, if_false, ite_self, n1z, n0z]
            · simp only [e, bo1, bo2, bo3, bo4, bo5, bo6, bo7, bo12, jo0, jo1, vlet, i10, i00, if_true, if_false, ite_self, n1z, n0z]
      · obtain ⟨rfl, z1, z2⟩ := z
        obtain ⟨z3, z4⟩ := z2 P' rfl
        refine ⟨s, ?_⟩
        rw [if_pos (Int32.le_refl _), z3]
    obtain ⟨st, hm⟩ := hm
    rw [hx, hm]
    exact ⟨_, _, _, _, _, _, rfl, rfl, R0⟩
