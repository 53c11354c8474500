/-! ===== the town goes on ===== -/
theorem p_stays {n : Nat} {nw : Int32} {a0 sp : Nat → Int32} {L : Nat → Nat} (hn : n ≤ 8) (hl : ag n sp L) : fX8_stays (nI n) nw a0 sp = some (nw, ov n a0 L) := by
  unfold fX8_stays
  refine lq2 (fun i => nI i) (fun i => ov i a0 L) n rfl (ov_0 _ _).symm (fun i hi g => ?_) (fun g => ?_) 400 (by omega)
  · simp only [nle (a := n) (b := i) (by omega) (by omega), show ¬ n ≤ i from by omega, bo1, bo2, bo3, bo4, bo5, bo6, bo7, bo12, jo0, jo1, vlet, i10, i00, if_true, if_false, ite_self, n1z, n0z, if_n (nin (k := i) (N := 8) (by omega) (by omega)), if_n (nin2 (k := i) (N := 8) (by omega) (by omega)), nc (n := i) (by omega), nI_1, hl i hi, ov_s]
  · rw [if_pos (Int32.le_refl _)]
theorem tt_hours {x_now_places : Int32} {x_now_people : Int32} {x_now_hour : Int32} {x_now_chance : Int32} {x_now_seed : Int32} {x_now_ways : Nat → Int32} {x_now_distances : Nat → Int32} {x_now_kind : Nat → Int32} {x_now_a : Nat → Int32} {x_now_home : Nat → Int32} {x_now_aim : Nat → Int32} {x_now_at : Nat → Int32} {x_kept_places : Int32} {x_kept_people : Int32} {x_kept_hour : Int32} {x_kept_chance : Int32} {x_kept_seed : Int32} {x_kept_ways : Nat → Int32} {x_kept_distances : Nat → Int32} {x_kept_kind : Nat → Int32} {x_kept_a : Nat → Int32} {x_kept_home : Nat → Int32} {x_kept_aim : Nat → Int32} {x_kept_at : Nat → Int32} {x_isKept : Int32} {x_shelves_c : Nat → Int32} {x_shelves_z : Nat → Int32} {x_shelves_e : Nat → Nat → Int64} {x_tape_size : Int32} {x_tape_bytes : Nat → Int32} {x_refusals : Nat → Int32} {m_places : Int32} {m_people : Int32} {m_hour : Int32} {m_chance : Int32} {m_seed : Int32} {m_ways : Nat → Int32} {m_kind : Nat → Int32} {m_by : Nat → Int32} {m_home : Nat → Int32} {m_aim : Nat → Int32} {m_at0 : Nat → Int32} {m_shelf : Nat → Int32} {m_rowSort : Nat → Int32} {m_rowSize : Nat → Int32} {m_rows : Nat → Nat → Int64} {m_shown : Nat → Int32} {m_tape : Nat → Int32} {m_tapeSize : Int32} {m_refused : Nat → Int32} {m_gone : Int32} {m_kept_places : Int32} {m_kept_people : Int32} {m_kept_hour : Int32} {m_kept_chance : Int32} {m_kept_seed : Int32} {m_kept_ways : Nat → Int32} {m_kept_kind : Nat → Int32} {m_kept_by : Nat → Int32} {m_kept_home : Nat → Int32} {m_kept_aim : Nat → Int32} {m_kept_at0 : Nat → Int32} {kb : Bool} (m_now : Int32) (m_steps : Nat → Int32) (m_spot : Nat → Int32) (m_then : Nat → Int32) (p0 : Int32) (R : Rel kb x_now_places x_now_people x_now_hour x_now_chance x_now_seed x_now_ways x_now_distances x_now_kind x_now_a x_now_home x_now_aim x_now_at x_kept_places x_kept_people x_kept_hour x_kept_chance x_kept_seed x_kept_ways x_kept_distances x_kept_kind x_kept_a x_kept_home x_kept_aim x_kept_at x_isKept x_shelves_c x_shelves_z x_shelves_e x_tape_size x_tape_bytes x_refusals m_places m_people m_hour m_chance m_seed m_ways m_kind m_by m_home m_aim m_at0 m_shelf m_rowSort m_rowSize m_rows m_shown m_tape m_tapeSize m_refused m_gone m_kept_places m_kept_people m_kept_hour m_kept_chance m_kept_seed m_kept_ways m_kept_kind m_kept_by m_kept_home m_kept_aim m_kept_at0) : ∃ (r : Int32) (y_now_hour : Int32) (y_now_at : Nat → Int32) (y_refusals : Nat → Int32) (z_hour : Int32) (z_now : Int32) (z_refused : Nat → Int32) (z_at0 : Nat → Int32) (z_steps : Nat → Int32) (z_spot : Nat → Int32) (z_then : Nat → Int32), fX7_hours x_now_places x_now_people x_now_hour x_now_ways x_now_distances x_now_kind x_now_home x_now_aim x_now_at x_refusals p0 = some (r, y_now_hour, y_now_at, y_refusals) ∧ fX8_hours m_places m_people m_hour m_now m_gone m_refused m_ways m_kind m_home m_aim m_at0 m_steps m_spot m_then p0 = some (r, z_hour, z_now, z_refused, z_at0, z_steps, z_spot, z_then) ∧ Rel kb x_now_places x_now_people y_now_hour x_now_chance x_now_seed x_now_ways x_now_distances x_now_kind x_now_a x_now_home x_now_aim y_now_at x_kept_places x_kept_people x_kept_hour x_kept_chance x_kept_seed x_kept_ways x_kept_distances x_kept_kind x_kept_a x_kept_home x_kept_aim x_kept_at x_isKept x_shelves_c x_shelves_z x_shelves_e x_tape_size x_tape_bytes y_refusals m_places m_people z_hour m_chance m_seed m_ways m_kind m_by m_home m_aim z_at0 m_shelf m_rowSort m_rowSize m_rows m_shown m_tape m_tapeSize z_refused m_gone m_kept_places m_kept_people m_kept_hour m_kept_chance m_kept_seed m_kept_ways m_kept_kind m_kept_by m_kept_home m_kept_aim m_kept_at0 := by
  have R0 := R
  obtain ⟨P, n, h, c, s, W, K, A, H, M, L, T, ⟨rfl, rfl, rfl, rfl, rfl, rfl, xd, xk, xa, xh, xm, xl⟩, ⟨rfl, rfl, rfl, rfl, rfl, rfl, mk, ma, mh, mm, ml⟩, rfl, S, U, V, Z⟩ := R
  obtain ⟨hP2, hP, hn, hW, hK, hH, hM, hL, hho⟩ := id T
  obtain ⟨x2, m2, e1, e2, q⟩ := rf2 V
  unfold fX7_hours fX8_hours
  rcases cSpan p0 with ⟨t, h1, ht, rfl, b1, b2⟩ | ⟨b1, b2⟩
  · obtain ⟨af, f1, f2⟩ := p_passHours T xd xk xh xm xl ht
    obtain ⟨st, sp, tt, f3, f4⟩ := p_goesOn0 (s0 := m_steps) (p0 := m_spot) (t0 := m_then) T mk mh mm ml ht
    have Tt := T.at (fun p => dk (K p)) t
    simp only [b1, b2, n1z, n0z, bo1, bo2, bo3, bo4, bo5, bo6, bo7, bo12, jo0, i10, i00, if_true, if_false, ite_self, f1, f3, p_stays hn f4, p_shiningPlaces hP hn xk f2 hK Tt.lt, p_mlight0 hP hn mk f4 hK Tt.lt]
    exact ⟨_, _, _, _, _, _, _, _, _, _, _, rfl, rfl, ⟨P, n, hc h t, _, _, W, K, A, H, M, _, Tt, ⟨rfl, rfl, rfl, rfl, rfl, rfl, xd, xk, xa, xh, xm, f2⟩, ⟨rfl, rfl, rfl, rfl, rfl, rfl, mk, ma, mh, mm, ov_ag _ _ _⟩, rfl, S, U, V, Z⟩⟩
  · simp only [b1, b2, e1, e2, n1z, n0z, bo1, bo2, bo3, bo4, bo5, bo6, bo7, bo12, jo0, i10, i00, if_true, if_false, ite_self]
    exact ⟨_, _, _, _, _, _, _, _, _, _, _, rfl, rfl, R0.rf q⟩
def swn (W : Nat → Nat) : Nat → Nat
  | 0 => 0
  | i + 1 => swn W i + pc (W i) 12
theorem p_countWays {P : Nat} {W : Nat → Nat} (hP : P ≤ 12) (hW : wok P W) : fX5_countWays (nI P) (nf W) = some (nI (swn W P) / (2 : Int32)) := by
  unfold fX5_countWays
  refine lr2 (fun i => nI (swn W i)) (fun i => nI i) P (fun i hi g => ?_) (fun g => ?_) 400 (by omega)
  · have := hW.lt hP i
    simp only [nle (a := P) (b := i) (by omega) (by omega), show ¬ P ≤ i from by omega, bo1, bo2, bo3, bo4, bo5, bo6, bo7, bo12, jo0, jo1, vlet, i10, i00, if_true, if_false, ite_self, n1z, n0z, if_n (nin (k := i) (N := 12) (by omega) (by omega)), if_n (nin2 (k := i) (N := 12) (by omega) (by omega)), nc (n := i) (by omega), nf_ap, p_bitCount (W i) (by omega), nI_add, nI_1, swn]
  · rw [if_pos (Int32.le_refl _)]
theorem p_fullShelves {n : Nat} {c z : Nat → Int32} {e : Nat → Nat → Int64} {f s r : Nat → Int32} {w : Nat → Nat → Int64} {o : Nat → Int32} (hn : n ≤ 8) (S : shr n c z e f s r w o) : fX7_fullShelves c = some (nI (cnt (fun k => !decide (f k = 0)) 8)) := by
  unfold fX7_fullShelves
  refine lr2 (fun i => nI (cnt (fun k => !decide (f k = 0)) i)) (fun i => nI i) 8 (fun i hi g => ?_) (fun g => ?_) 400 (by omega)
  · simp only [show ((8 : Int32) ≤ nI i) = False from eq_false (by rw [show (8 : Int32) = nI 8 from rfl, nle (by omega) (by omega)]; omega), bo1, bo2, bo3, bo4, bo5, bo6, bo7, bo12, jo0, jo1, vlet, i10, i00, if_true, if_false, ite_self, n1z, n0z, if_n (nin (k := i) (N := 8) (by omega) (by omega)), if_n (nin2 (k := i) (N := 8) (by omega) (by omega)), nc (n := i) (by omega), fX2_holdsNothing, nI_1, cnt_s]
    rcases S i hi with ⟨h1, h2, h3⟩ | ⟨t, m, ht, hm, h1, h2, h3, h4, h5, h6⟩ | ⟨t, ht, h1, h2, h3, h4⟩
    · simp only [h1, h3, mm1, bo1, bo2, bo3, bo4, bo5, bo6, bo7, bo12, jo0, jo1, vlet, i10, i00, if_true, if_false, ite_self, n1z, n0z, decide_true, Bool.not_true, Bool.false_eq_true, Nat.add_zero]
    · simp only [h1, h3, nm1 (k := t) (by omega), bo1, bo2, bo3, bo4, bo5, bo6, bo7, bo12, jo0, jo1, vlet, i10, i00, if_true, if_false, ite_self, n1z, n0z, decide_false, Bool.not_false]
    · simp only [h1, h3, nm1 (k := 10 + t) (by omega), i20, bo1, bo2, bo3, bo4, bo5, bo6, bo7, bo12, jo0, jo1, vlet, i10, i00, if_true, if_false, ite_self, n1z, n0z, decide_false, Bool.not_false]
  · rfl
theorem i_c (a b : Int32) (h : a ≠ b) : (a = b) = False := eq_false h
theorem tt_status {x_now_places : Int32} {x_now_people : Int32} {x_now_hour : Int32} {x_now_chance : Int32} {x_now_seed : Int32} {x_now_ways : Nat → Int32} {x_now_distances : Nat → Int32} {x_now_kind : Nat → Int32} {x_now_a : Nat → Int32} {x_now_home : Nat → Int32} {x_now_aim : Nat → Int32} {x_now_at : Nat → Int32} {x_kept_places : Int32} {x_kept_people : Int32} {x_kept_hour : Int32} {x_kept_chance : Int32} {x_kept_seed : Int32} {x_kept_ways : Nat → Int32} {x_kept_distances : Nat → Int32} {x_kept_kind : Nat → Int32} {x_kept_a : Nat → Int32} {x_kept_home : Nat → Int32} {x_kept_aim : Nat → Int32} {x_kept_at : Nat → Int32} {x_isKept : Int32} {x_shelves_c : Nat → Int32} {x_shelves_z : Nat → Int32} {x_shelves_e : Nat → Nat → Int64} {x_tape_size : Int32} {x_tape_bytes : Nat → Int32} {x_refusals : Nat → Int32} {m_places : Int32} {m_people : Int32} {m_hour : Int32} {m_chance : Int32} {m_seed : Int32} {m_ways : Nat → Int32} {m_kind : Nat → Int32} {m_by : Nat → Int32} {m_home : Nat → Int32} {m_aim : Nat → Int32} {m_at0 : Nat → Int32} {m_shelf : Nat → Int32} {m_rowSort : Nat → Int32} {m_rowSize : Nat → Int32} {m_rows : Nat → Nat → Int64} {m_shown : Nat → Int32} {m_tape : Nat → Int32} {m_tapeSize : Int32} {m_refused : Nat → Int32} {m_gone : Int32} {m_kept_places : Int32} {m_kept_people : Int32} {m_kept_hour : Int32} {m_kept_chance : Int32} {m_kept_seed : Int32} {m_kept_ways : Nat → Int32} {m_kept_kind : Nat → Int32} {m_kept_by : Nat → Int32} {m_kept_home : Nat → Int32} {m_kept_aim : Nat → Int32} {m_kept_at0 : Nat → Int32} {kb : Bool} (m_now : Int32) (m_spot : Nat → Int32) (p0 : Int32) (R : Rel kb x_now_places x_now_people x_now_hour x_now_chance x_now_seed x_now_ways x_now_distances x_now_kind x_now_a x_now_home x_now_aim x_now_at x_kept_places x_kept_people x_kept_hour x_kept_chance x_kept_seed x_kept_ways x_kept_distances x_kept_kind x_kept_a x_kept_home x_kept_aim x_kept_at x_isKept x_shelves_c x_shelves_z x_shelves_e x_tape_size x_tape_bytes x_refusals m_places m_people m_hour m_chance m_seed m_ways m_kind m_by m_home m_aim m_at0 m_shelf m_rowSort m_rowSize m_rows m_shown m_tape m_tapeSize m_refused m_gone m_kept_places m_kept_people m_kept_hour m_kept_chance m_kept_seed m_kept_ways m_kept_kind m_kept_by m_kept_home m_kept_aim m_kept_at0) : ∃ (r : Int32) (z_now : Int32) (z_spot : Nat → Int32), fX7_status x_now_places x_now_people x_now_hour x_now_chance x_now_seed x_now_ways x_now_kind x_now_at x_tape_size x_refusals x_shelves_c p0 = some r ∧ fX8_status m_tapeSize m_places m_people m_hour m_chance m_seed m_now m_gone m_shelf m_refused m_ways m_kind m_at0 m_spot p0 = some (r, z_now, z_spot) ∧ Rel kb x_now_places x_now_people x_now_hour x_now_chance x_now_seed x_now_ways x_now_distances x_now_kind x_now_a x_now_home x_now_aim x_now_at x_kept_places x_kept_people x_kept_hour x_kept_chance x_kept_seed x_kept_ways x_kept_distances x_kept_kind x_kept_a x_kept_home x_kept_aim x_kept_at x_isKept x_shelves_c x_shelves_z x_shelves_e x_tape_size x_tape_bytes x_refusals m_places m_people m_hour m_chance m_seed m_ways m_kind m_by m_home m_aim m_at0 m_shelf m_rowSort m_rowSize m_rows m_shown m_tape m_tapeSize m_refused m_gone m_kept_places m_kept_people m_kept_hour m_kept_chance m_kept_seed m_kept_ways m_kept_kind m_kept_by m_kept_home m_kept_aim m_kept_at0 := by
  have R0 := R
  obtain ⟨P, n, h, c, s, W, K, A, H, M, L, T, ⟨rfl, rfl, rfl, rfl, rfl, rfl, xd, xk, xa, xh, xm, xl⟩, ⟨rfl, rfl, rfl, rfl, rfl, rfl, mk, ma, mh, mm, ml⟩, rfl, S, U, V, Z⟩ := R
  obtain ⟨hP2, hP, hn, hW, hK, hH, hM, hL, hho⟩ := id T
  by_cases d0 : p0 = 0
  · subst d0
    unfold fX7_status fX8_status
    simp only [show ((0 : Int32) < 12) = True from eq_true (by decide), n1z, n0z, bo1, bo2, bo3, bo4, bo5, bo6, bo7, bo12, jo0, i10, i00, if_true, if_false, ite_self]
    exact ⟨_, _, _, rfl, rfl, R0⟩
  by_cases d1 : p0 = 1
  · subst d1
    have hx : fX7_status (nI P) (nI n) (nI h) m_chance m_seed (nf W) x_now_kind x_now_at x_tape_size x_refusals x_shelves_c (1) = some (nI (swn W P) / (2 : Int32)) := by
      unfold fX7_status
      simp only [show ((1 : Int32) < 12) = True from eq_true (by decide), i112, p_countWays hP hW, n1z, n0z, bo1, bo2, bo3, bo4, bo5, bo6, bo7, bo12, jo0, i10, i00, if_true, if_false, ite_self]
    have hm : fX8_status m_tapeSize (nI P) (nI n) (nI h) m_chance m_seed m_now (-1) m_shelf m_refused (nf W) m_kind m_at0 m_spot (1) = some (nI (swn W P) / (2 : Int32), m_now, m_spot) := by
      unfold fX8_status
      simp only [i112, n1z, n0z, bo1, bo2, bo3, bo4, bo5, bo6, bo7, bo12, jo0, i10, i00, if_true, if_false, ite_self]
      refine lr2 (fun i => nI (swn W i)) (fun i => nI i) P (fun i hi g => ?_) (fun g => ?_) 400 (by omega)
      · have := hW.lt hP i
        simp only [nle (a := P) (b := i) (by omega) (by omega), show ¬ P ≤ i from by omega, bo1, bo2, bo3, bo4, bo5, bo6, bo7, bo12, jo0, jo1, vlet, i10, i00, if_true, if_false, ite_self, n1z, n0z, if_n (nin (k := i) (N := 12) (by omega) (by omega)), if_n (nin2 (k := i) (N := 12) (by omega) (by omega)), nc (n := i) (by omega), nf_ap, p_bits (W i) (by omega), nI_add, nI_1, swn]
      · rw [if_pos (Int32.le_refl _)]
    rw [hx, hm]
    exact ⟨_, _, _, rfl, rfl, R0⟩
  by_cases d2 : p0 = 2
  · subst d2
    unfold fX7_status fX8_status
    simp only [show ((2 : Int32) < 12) = True from eq_true (by decide), i_c 2 0 (by decide), i_c 2 1 (by decide), n1z, n0z, bo1, bo2, bo3, bo4, bo5, bo6, bo7, bo12, jo0, i10, i00, if_true, if_false, ite_self]
    exact ⟨_, _, _, rfl, rfl, R0⟩
  by_cases d3 : p0 = 3
  · subst d3
    unfold fX7_status fX8_status
    simp only [show ((3 : Int32) < 12) = True from eq_true (by decide), i_c 3 0 (by decide), i_c 3 1 (by decide), i_c 3 2 (by decide), n1z, n0z, bo1, bo2, bo3, bo4, bo5, bo6, bo7, bo12, jo0, i10, i00, if_true, if_false, ite_self]
    exact ⟨_, _, _, rfl, rfl, R0⟩
  by_cases d4 : p0 = 4
  · subst d4
    unfold fX7_status fX8_status
    simp only [show ((4 : Int32) < 12) = True from eq_true (by decide), i_c 4 0 (by decide), i_c 4 1 (by decide), i_c 4 2 (by decide), i_c 4 3 (by decide), n1z, n0z, bo1, bo2, bo3, bo4, bo5, bo6, bo7, bo12, jo0, i10, i00, if_true, if_false, ite_self]
    exact ⟨_, _, _, rfl, rfl, R0⟩
  by_cases d5 : p0 = 5
  · subst d5
    obtain ⟨s1, g1, g2⟩ := p_begin (hh := nI h) (s0 := m_spot) hn ml
    unfold fX7_status fX8_status
    simp only [show ((5 : Int32) < 12) = True from eq_true (by decide), i_c 5 0 (by decide), i_c 5 1 (by decide), i_c 5 2 (by decide), i_c 5 3 (by decide), i_c 5 4 (by decide), g1, p_shiningPlaces hP hn xk xl hK T.lt, p_mlight0 hP hn mk g2 hK T.lt, n1z, n0z, bo1, bo2, bo3, bo4, bo5, bo6, bo7, bo12, jo0, i10, i00, if_true, if_false, ite_self]
    exact ⟨_, _, _, rfl, rfl, R0⟩
  by_cases d6 : p0 = 6
  · subst d6
    obtain ⟨tk, tB, htk, rfl, rfl, htB, tb1, tb2⟩ := U
    unfold fX7_status fX8_status
    simp only [show ((6 : Int32) < 12) = True from eq_true (by decide), i_c 6 0 (by decide), i_c 6 1 (by decide), i_c 6 2 (by decide), i_c 6 3 (by decide), i_c 6 4 (by decide), i_c 6 5 (by decide), n1z, n0z, bo1, bo2, bo3, bo4, bo5, bo6, bo7, bo12, jo0, i10, i00, if_true, if_false, ite_self]
    exact ⟨_, _, _, rfl, rfl, R0⟩
  by_cases d7 : p0 = 7
  · subst d7
    unfold fX7_status fX8_status
    simp only [show ((7 : Int32) < 12) = True from eq_true (by decide), i_c 7 0 (by decide), i_c 7 1 (by decide), i_c 7 2 (by decide), i_c 7 3 (by decide), i_c 7 4 (by decide), i_c 7 5 (by decide), i_c 7 6 (by decide), n1z, n0z, bo1, bo2, bo3, bo4, bo5, bo6, bo7, bo12, jo0, i10, i00, if_true, if_false, ite_self]
    exact ⟨_, _, _, rfl, rfl, R0⟩
  by_cases d8 : p0 = 8
  · subst d8
    have hx : fX7_status (nI P) (nI n) (nI h) m_chance m_seed (nf W) x_now_kind x_now_at x_tape_size x_refusals x_shelves_c (8) = some (nI (cnt (fun k => !decide (m_shelf k = 0)) 8)) := by
      unfold fX7_status
      simp only [show ((8 : Int32) < 12) = True from eq_true (by decide), i_c 8 0 (by decide), i_c 8 1 (by decide), i_c 8 2 (by decide), i_c 8 3 (by decide), i_c 8 4 (by decide), i_c 8 5 (by decide), i_c 8 6 (by decide), i_c 8 7 (by decide), p_fullShelves hn S, n1z, n0z, bo1, bo2, bo3, bo4, bo5, bo6, bo7, bo12, jo0, i10, i00, if_true, if_false, ite_self]
    have hm : fX8_status m_tapeSize (nI P) (nI n) (nI h) m_chance m_seed m_now (-1) m_shelf m_refused (nf W) m_kind m_at0 m_spot (8) = some (nI (cnt (fun k => !decide (m_shelf k = 0)) 8), m_now, m_spot) := by
      unfold fX8_status
      simp only [jo1_ite]
      simp only [i_c 8 0 (by decide), i_c 8 1 (by decide), i_c 8 2 (by decide), i_c 8 3 (by decide), i_c 8 4 (by decide), i_c 8 5 (by decide), i_c 8 6 (by decide), i_c 8 7 (by decide), n1z, n0z, bo1, bo2, bo3, bo4, bo5, bo6, bo7, bo12, jo0, i10, i00, if_true, if_false, ite_self]
      refine lr2 (fun i => nI (cnt (fun k => !decide (m_shelf k = 0)) i)) (fun i => nI i) 8 (fun i hi g => ?_) (fun g => ?_) 400 (by omega)
      · simp only [show ((8 : Int32) ≤ nI i) = False from eq_false (by rw [show (8 : Int32) = nI 8 from rfl, nle (by omega) (by omega)]; omega), bo1, bo2, bo3, bo4, bo5, bo6, bo7, bo12, jo0, jo1, vlet, i10, i00, if_true, if_false, ite_self, n1z, n0z, if_n (nin (k := i) (N := 8) (by omega) (by omega)), if_n (nin2 (k := i) (N := 8) (by omega) (by omega)), nc (n := i) (by omega), nI_1, cnt_s]
        by_cases e : m_shelf i = 0
        · simp only [e, bo1, bo2, bo3, bo4, bo5, bo6, bo7, bo12, jo0, jo1, vlet, i10, i00, if_true, if_false, ite_self, n1z, n0z, decide_true, Bool.not_true, Bool.false_eq_true, Nat.add_zero, Int32.add_zero]
        · simp only [e, bo1, bo2, bo3, bo4, bo5, bo6, bo7, bo12, jo0, jo1, vlet, i10, i00, if_true, if_false, ite_self, n1z, n0z, decide_false, Bool.not_false, nI_1]
      · rfl
    rw [hx, hm]
    exact ⟨_, _, _, rfl, rfl, R0⟩
  unfold fX7_status fX8_status
  rcases cIn 12 16 12 16 (by decide) (by decide) (by omega) (by omega) p0 with ⟨k, h1, h2, hk, c2⟩ | ⟨c1, c2⟩
  · have w1 : (p0 < 12) = False := eq_false (by rw [hk, show (12 : Int32) = nI 12 from rfl, nlt (by omega) (by omega)]; omega)
    have w2 : ((17 : Int32) ≤ p0) = False := eq_false (by rw [hk, show (17 : Int32) = nI 17 from rfl, nle (by omega) (by omega)]; omega)
    have w3 : p0 - (12 : Int32) = nI (k - 12) := by rw [hk, show (12 : Int32) = nI 12 from rfl, pk_sub h1]
    have w4 : p0 - (10 : Int32) = nI (k - 12 + 2) := by rw [hk, show (10 : Int32) = nI 10 from rfl, pk_sub (by omega)]; congr 1; omega
    simp only [w1, w2, w3, w4, d0, d1, d2, d3, d4, d5, d6, d7, d8, c2, n1z, n0z, bo1, bo2, bo3, bo4, bo5, bo6, bo7, bo12, jo0, i10, i00, if_true, if_false, ite_self, if_n (nin (k := (k - 12)) (N := 5) (by omega) (by omega)), if_n (nin2 (k := (k - 12)) (N := 5) (by omega) (by omega)), nc (n := (k - 12)) (by omega), if_n (nin (k := (k - 12 + 2)) (N := 8) (by omega) (by omega)), if_n (nin2 (k := (k - 12 + 2)) (N := 8) (by omega) (by omega)), nc (n := (k - 12 + 2)) (by omega), V (k - 12) (by omega)]
    exact ⟨_, _, _, rfl, rfl, R0⟩
  · have w : (p0 < 12) = True ∨ ((p0 < 12) = False ∧ ((17 : Int32) ≤ p0) = True) := by
      by_cases g : p0 < 12
      · exact Or.inl (eq_true g)
      · refine Or.inr ⟨eq_false g, eq_true ?_⟩
        rcases c1 with c1 | c1
        · exact absurd c1 g
        · obtain ⟨k, hk, rfl⟩ := nx (x := p0) (fun l => g (by
            rw [Int32.lt_iff_toInt_lt] at l ⊢
            have : (12 : Int32).toInt = 12 := by decide
            have : (0 : Int32).toInt = 0 := by decide
            omega))
          rw [nI_ltI (by omega) (by omega)] at c1
          rw [show (17 : Int32) = nI 17 from rfl, nI_leI (by omega) (by omega)]
          omega
    rcases w with w | ⟨w, w2⟩
    · simp only [w, d0, d1, d2, d3, d4, d5, d6, d7, d8, c2, n1z, n0z, bo1, bo2, bo3, bo4, bo5, bo6, bo7, bo12, jo0, i10, i00, if_true, if_false, ite_self]
      exact ⟨_, _, _, rfl, rfl, R0⟩
    · simp only [w, w2, d0, d1, d2, d3, d4, d5, d6, d7, d8, c2, n1z, n0z, bo1, bo2, bo3, bo4, bo5, bo6, bo7, bo12, jo0, i10, i00, if_true, if_false, ite_self]
      exact ⟨_, _, _, rfl, rfl, R0⟩
