/-! ===== where all will be ===== -/
theorem tt_where {x_now_places : Int32} {x_now_people : Int32} {x_now_hour : Int32} {x_now_chance : Int32} {x_now_seed : Int32} {x_now_ways : Nat → Int32} {x_now_distances : Nat → Int32} {x_now_kind : Nat → Int32} {x_now_a : Nat → Int32} {x_now_home : Nat → Int32} {x_now_aim : Nat → Int32} {x_now_at : Nat → Int32} {x_kept_places : Int32} {x_kept_people : Int32} {x_kept_hour : Int32} {x_kept_chance : Int32} {x_kept_seed : Int32} {x_kept_ways : Nat → Int32} {x_kept_distances : Nat → Int32} {x_kept_kind : Nat → Int32} {x_kept_a : Nat → Int32} {x_kept_home : Nat → Int32} {x_kept_aim : Nat → Int32} {x_kept_at : Nat → Int32} {x_isKept : Int32} {x_shelves_c : Nat → Int32} {x_shelves_z : Nat → Int32} {x_shelves_e : Nat → Nat → Int64} {x_tape_size : Int32} {x_tape_bytes : Nat → Int32} {x_refusals : Nat → Int32} {m_places : Int32} {m_people : Int32} {m_hour : Int32} {m_chance : Int32} {m_seed : Int32} {m_ways : Nat → Int32} {m_kind : Nat → Int32} {m_by : Nat → Int32} {m_home : Nat → Int32} {m_aim : Nat → Int32} {m_at0 : Nat → Int32} {m_shelf : Nat → Int32} {m_rowSort : Nat → Int32} {m_rowSize : Nat → Int32} {m_rows : Nat → Nat → Int64} {m_shown : Nat → Int32} {m_tape : Nat → Int32} {m_tapeSize : Int32} {m_refused : Nat → Int32} {m_gone : Int32} {m_kept_places : Int32} {m_kept_people : Int32} {m_kept_hour : Int32} {m_kept_chance : Int32} {m_kept_seed : Int32} {m_kept_ways : Nat → Int32} {m_kept_kind : Nat → Int32} {m_kept_by : Nat → Int32} {m_kept_home : Nat → Int32} {m_kept_aim : Nat → Int32} {m_kept_at0 : Nat → Int32} {kb : Bool} (x_future_places : Int32) (x_future_people : Int32) (x_future_hour : Int32) (x_future_chance : Int32) (x_future_seed : Int32) (x_future_ways : Nat → Int32) (x_future_distances : Nat → Int32) (x_future_kind : Nat → Int32) (x_future_a : Nat → Int32) (x_future_home : Nat → Int32) (x_future_aim : Nat → Int32) (x_future_at : Nat → Int32) (m_now : Int32) (m_steps : Nat → Int32) (m_spot : Nat → Int32) (m_then : Nat → Int32) (p0 : Int32) (p1 : Int32) (R : Rel kb x_now_places x_now_people x_now_hour x_now_chance x_now_seed x_now_ways x_now_distances x_now_kind x_now_a x_now_home x_now_aim x_now_at x_kept_places x_kept_people x_kept_hour x_kept_chance x_kept_seed x_kept_ways x_kept_distances x_kept_kind x_kept_a x_kept_home x_kept_aim x_kept_at x_isKept x_shelves_c x_shelves_z x_shelves_e x_tape_size x_tape_bytes x_refusals m_places m_people m_hour m_chance m_seed m_ways m_kind m_by m_home m_aim m_at0 m_shelf m_rowSort m_rowSize m_rows m_shown m_tape m_tapeSize m_refused m_gone m_kept_places m_kept_people m_kept_hour m_kept_chance m_kept_seed m_kept_ways m_kept_kind m_kept_by m_kept_home m_kept_aim m_kept_at0) : ∃ (r : Int32) (y_future_places : Int32) (y_future_people : Int32) (y_future_hour : Int32) (y_future_chance : Int32) (y_future_seed : Int32) (y_future_ways : Nat → Int32) (y_future_distances : Nat → Int32) (y_future_kind : Nat → Int32) (y_future_a : Nat → Int32) (y_future_home : Nat → Int32) (y_future_aim : Nat → Int32) (y_future_at : Nat → Int32) (y_refusals : Nat → Int32) (z_now : Int32) (z_refused : Nat → Int32) (z_steps : Nat → Int32) (z_spot : Nat → Int32) (z_then : Nat → Int32), fX7_where x_now_places x_now_people x_now_hour x_now_chance x_now_seed x_now_ways x_now_distances x_now_kind x_now_a x_now_home x_now_aim x_now_at x_future_places x_future_people x_future_hour x_future_chance x_future_seed x_future_ways x_future_distances x_future_kind x_future_a x_future_home x_future_aim x_future_at x_refusals p0 p1 = some (r, y_future_places, y_future_people, y_future_hour, y_future_chance, y_future_seed, y_future_ways, y_future_distances, y_future_kind, y_future_a, y_future_home, y_future_aim, y_future_at, y_refusals) ∧ fX8_where m_places m_people m_hour m_now m_gone m_refused m_ways m_kind m_home m_aim m_at0 m_steps m_spot m_then p0 p1 = some (r, z_now, z_refused, z_steps, z_spot, z_then) ∧ Rel kb x_now_places x_now_people x_now_hour x_now_chance x_now_seed x_now_ways x_now_distances x_now_kind x_now_a x_now_home x_now_aim x_now_at x_kept_places x_kept_people x_kept_hour x_kept_chance x_kept_seed x_kept_ways x_kept_distances x_kept_kind x_kept_a x_kept_home x_kept_aim x_kept_at x_isKept x_shelves_c x_shelves_z x_shelves_e x_tape_size x_tape_bytes y_refusals m_places m_people m_hour m_chance m_seed m_ways m_kind m_by m_home m_aim m_at0 m_shelf m_rowSort m_rowSize m_rows m_shown m_tape m_tapeSize z_refused m_gone m_kept_places m_kept_people m_kept_hour m_kept_chance m_kept_seed m_kept_ways m_kept_kind m_kept_by m_kept_home m_kept_aim m_kept_at0 := by
  have R0 := R
  obtain ⟨P, n, h, c, s, W, K, A, H, M, L, T, ⟨rfl, rfl, rfl, rfl, rfl, rfl, xd, xk, xa, xh, xm, xl⟩, ⟨rfl, rfl, rfl, rfl, rfl, rfl, mk, ma, mh, mm, ml⟩, rfl, S, U, V, Z⟩ := R
  obtain ⟨hP2, hP, hn, hW, hK, hH, hM, hL, hho⟩ := id T
  obtain ⟨x2, m2, e1, e2, q⟩ := rf2 V
  unfold fX7_where fX8_where
  rcases cPerson n hn p0 with ⟨p, hp, rfl, a1, a2⟩ | ⟨a1, a2⟩
  · rcases cTime p1 with ⟨t, ht, rfl, b1, b2⟩ | ⟨b1, b2⟩
    · obtain ⟨af, f1, f2⟩ := p_lookAhead (c := m_chance) (s := m_seed) (bf := x_now_a) T xd xk xh xm xl ht
      obtain ⟨st, sp, tt, f3, f4⟩ := p_goesOn0 (s0 := m_steps) (p0 := m_spot) (t0 := m_then) T mk mh mm ml ht
      simp only [a1, a2, b1, b2, bo1, bo2, bo3, bo4, bo5, bo6, bo7, bo12, jo0, jo1, vlet, i10, i00, if_true, if_false, ite_self, f1, f3, if_n (nin (k := p) (N := 8) (by omega) (by omega)), if_n (nin2 (k := p) (N := 8) (by omega) (by omega)), nc (n := p) (by omega), f2 p hp, f4 p hp]
      exact ⟨_, _, _, _, _, _, _, _, _, _, _, _, _, _, _, _, _, _, _, rfl, rfl, R0⟩
    · simp only [a1, a2, b1, b2, e1, e2, bo1, bo2, bo3, bo4, bo5, bo6, bo7, bo12, jo0, jo1, vlet, i10, i00, if_true, if_false, ite_self]
      exact ⟨_, _, _, _, _, _, _, _, _, _, _, _, _, _, _, _, _, _, _, rfl, rfl, R0.rf q⟩
  · simp only [a1, a2, e1, e2, bo1, bo2, bo3, bo4, bo5, bo6, bo7, bo12, jo0, jo1, vlet, i10, i00, if_true, if_false, ite_self]
    exact ⟨_, _, _, _, _, _, _, _, _, _, _, _, _, _, _, _, _, _, _, rfl, rfl, R0.rf q⟩
theorem cWhat2 (t : Nat) (x : Int32) (hx : x = nI t) (ht : t ≤ 2) : ((x = 0) = (t = 0)) ∧ ((x = (1 : Int32)) = (t = 1)) ∧ ¬ x < 0 := by
  subst hx
  exact ⟨neq (b := 0) (by omega) (by omega), neq (b := 1) (by omega) (by omega), nI_pos (by omega)⟩
theorem p_shc {P n : Nat} {kf af : Nat → Int32} {K L : Nat → Nat} (hP : P ≤ 12) (hn : n ≤ 8) (hk : ag n kf K) (hl : ag n af L) (hK : ∀ p, p < n → K p < 6) (hL : ∀ p, p < n → L p < P) : nI P - nI (pc (ltm P (dkm (fun p => dk (K p)) L n)) 12) = nI (pc (dkm (fun p => dk (K p)) L n) 12) := by
  have h := pc_ltm hP (dkm_lt (D := fun p => dk (K p)) (n := n) hL)
  rw [pk_sub (by omega)]
  congr 1
  omega
theorem dk_lt {P n : Nat} {K L : Nat → Nat} {D : Nat → Bool} (hP : P ≤ 12) (hL : ∀ p, p < n → L p < P) : dkm D L n < 4096 := Nat.lt_of_lt_of_le (dkm_lt hL) (pw_lt hP)
theorem lt_lt {P m : Nat} (hP : P ≤ 12) : ltm P m < 4096 := Nat.lt_of_lt_of_le ltm_lt (pw_lt hP)
theorem tt_shines {x_now_places : Int32} {x_now_people : Int32} {x_now_hour : Int32} {x_now_chance : Int32} {x_now_seed : Int32} {x_now_ways : Nat → Int32} {x_now_distances : Nat → Int32} {x_now_kind : Nat → Int32} {x_now_a : Nat → Int32} {x_now_home : Nat → Int32} {x_now_aim : Nat → Int32} {x_now_at : Nat → Int32} {x_kept_places : Int32} {x_kept_people : Int32} {x_kept_hour : Int32} {x_kept_chance : Int32} {x_kept_seed : Int32} {x_kept_ways : Nat → Int32} {x_kept_distances : Nat → Int32} {x_kept_kind : Nat → Int32} {x_kept_a : Nat → Int32} {x_kept_home : Nat → Int32} {x_kept_aim : Nat → Int32} {x_kept_at : Nat → Int32} {x_isKept : Int32} {x_shelves_c : Nat → Int32} {x_shelves_z : Nat → Int32} {x_shelves_e : Nat → Nat → Int64} {x_tape_size : Int32} {x_tape_bytes : Nat → Int32} {x_refusals : Nat → Int32} {m_places : Int32} {m_people : Int32} {m_hour : Int32} {m_chance : Int32} {m_seed : Int32} {m_ways : Nat → Int32} {m_kind : Nat → Int32} {m_by : Nat → Int32} {m_home : Nat → Int32} {m_aim : Nat → Int32} {m_at0 : Nat → Int32} {m_shelf : Nat → Int32} {m_rowSort : Nat → Int32} {m_rowSize : Nat → Int32} {m_rows : Nat → Nat → Int64} {m_shown : Nat → Int32} {m_tape : Nat → Int32} {m_tapeSize : Int32} {m_refused : Nat → Int32} {m_gone : Int32} {m_kept_places : Int32} {m_kept_people : Int32} {m_kept_hour : Int32} {m_kept_chance : Int32} {m_kept_seed : Int32} {m_kept_ways : Nat → Int32} {m_kept_kind : Nat → Int32} {m_kept_by : Nat → Int32} {m_kept_home : Nat → Int32} {m_kept_aim : Nat → Int32} {m_kept_at0 : Nat → Int32} {kb : Bool} (x_future_places : Int32) (x_future_people : Int32) (x_future_hour : Int32) (x_future_chance : Int32) (x_future_seed : Int32) (x_future_ways : Nat → Int32) (x_future_distances : Nat → Int32) (x_future_kind : Nat → Int32) (x_future_a : Nat → Int32) (x_future_home : Nat → Int32) (x_future_aim : Nat → Int32) (x_future_at : Nat → Int32) (m_now : Int32) (m_steps : Nat → Int32) (m_spot : Nat → Int32) (m_then : Nat → Int32) (p0 : Int32) (p1 : Int32) (R : Rel kb x_now_places x_now_people x_now_hour x_now_chance x_now_seed x_now_ways x_now_distances x_now_kind x_now_a x_now_home x_now_aim x_now_at x_kept_places x_kept_people x_kept_hour x_kept_chance x_kept_seed x_kept_ways x_kept_distances x_kept_kind x_kept_a x_kept_home x_kept_aim x_kept_at x_isKept x_shelves_c x_shelves_z x_shelves_e x_tape_size x_tape_bytes x_refusals m_places m_people m_hour m_chance m_seed m_ways m_kind m_by m_home m_aim m_at0 m_shelf m_rowSort m_rowSize m_rows m_shown m_tape m_tapeSize m_refused m_gone m_kept_places m_kept_people m_kept_hour m_kept_chance m_kept_seed m_kept_ways m_kept_kind m_kept_by m_kept_home m_kept_aim m_kept_at0) : ∃ (r : Int32) (y_future_places : Int32) (y_future_people : Int32) (y_future_hour : Int32) (y_future_chance : Int32) (y_future_seed : Int32) (y_future_ways : Nat → Int32) (y_future_distances : Nat → Int32) (y_future_kind : Nat → Int32) (y_future_a : Nat → Int32) (y_future_home : Nat → Int32) (y_future_aim : Nat → Int32) (y_future_at : Nat → Int32) (y_refusals : Nat → Int32) (z_now : Int32) (z_refused : Nat → Int32) (z_steps : Nat → Int32) (z_spot : Nat → Int32) (z_then : Nat → Int32), fX7_shines x_now_places x_now_people x_now_hour x_now_chance x_now_seed x_now_ways x_now_distances x_now_kind x_now_a x_now_home x_now_aim x_now_at x_future_places x_future_people x_future_hour x_future_chance x_future_seed x_future_ways x_future_distances x_future_kind x_future_a x_future_home x_future_aim x_future_at x_refusals p0 p1 = some (r, y_future_places, y_future_people, y_future_hour, y_future_chance, y_future_seed, y_future_ways, y_future_distances, y_future_kind, y_future_a, y_future_home, y_future_aim, y_future_at, y_refusals) ∧ fX8_shines m_places m_people m_hour m_now m_gone m_refused m_ways m_kind m_home m_aim m_at0 m_steps m_spot m_then p0 p1 = some (r, z_now, z_refused, z_steps, z_spot, z_then) ∧ Rel kb x_now_places x_now_people x_now_hour x_now_chance x_now_seed x_now_ways x_now_distances x_now_kind x_now_a x_now_home x_now_aim x_now_at x_kept_places x_kept_people x_kept_hour x_kept_chance x_kept_seed x_kept_ways x_kept_distances x_kept_kind x_kept_a x_kept_home x_kept_aim x_kept_at x_isKept x_shelves_c x_shelves_z x_shelves_e x_tape_size x_tape_bytes y_refusals m_places m_people m_hour m_chance m_seed m_ways m_kind m_by m_home m_aim m_at0 m_shelf m_rowSort m_rowSize m_rows m_shown m_tape m_tapeSize z_refused m_gone m_kept_places m_kept_people m_kept_hour m_kept_chance m_kept_seed m_kept_ways m_kept_kind m_kept_by m_kept_home m_kept_aim m_kept_at0 := by
  have R0 := R
  obtain ⟨P, n, h, c, s, W, K, A, H, M, L, T, ⟨rfl, rfl, rfl, rfl, rfl, rfl, xd, xk, xa, xh, xm, xl⟩, ⟨rfl, rfl, rfl, rfl, rfl, rfl, mk, ma, mh, mm, ml⟩, rfl, S, U, V, Z⟩ := R
  obtain ⟨hP2, hP, hn, hW, hK, hH, hM, hL, hho⟩ := id T
  obtain ⟨x2, m2, e1, e2, q⟩ := rf2 V
  unfold fX7_shines fX8_shines
  rcases cTime p0 with ⟨t, ht, rfl, b1, b2⟩ | ⟨b1, b2⟩
  · rcases cIn 0 2 0 2 (by decide) (by decide) (by omega) (by omega) p1 with ⟨w, -, hw, hw1, c2⟩ | ⟨c1, c2⟩
    · obtain ⟨af, f1, f2⟩ := p_lookAhead (c := m_chance) (s := m_seed) (bf := x_now_a) T xd xk xh xm xl ht
      obtain ⟨st, sp, tt, f3, f4⟩ := p_goesOn0 (s0 := m_steps) (p0 := m_spot) (t0 := m_then) T mk mh mm ml ht
      have Tt := T.at (fun p => dk (K p)) t
      obtain ⟨w0, w1, w2⟩ := cWhat2 w p1 hw1 hw
      have w3 : p1 ≤ (2 : Int32) := by rw [hw1]; exact nI_le hw (by decide)
      have l1 := p_shiningPlaces hP hn xk f2 hK Tt.lt
      have l2 := p_shiningCount hP hn xk f2 hK Tt.lt
      have l3 := p_mlight0 hP hn mk f4 hK Tt.lt
      have l4 := p_mdark0 hP hn mk f4 hK Tt.2.2.2.2.2.2.2.1
      simp only [b1, b2, c2, bo1, bo2, bo3, bo4, bo5, bo6, bo7, bo12, jo0, jo1, vlet, i10, i00, if_true, if_false, ite_self, f1, f3, w0, w1, if_neg w2, if_pos w3, l1, l2, l3, l4, p_bits _ (lt_lt hP), p_bits _ (dk_lt (K := K) hP Tt.2.2.2.2.2.2.2.1), p_shc hP hn xk f2 hK Tt.2.2.2.2.2.2.2.1]
      rcases (show w = 0 ∨ w = 1 ∨ w = 2 by omega) with rfl | rfl | rfl
      · simp only [bo1, bo2, bo3, bo4, bo5, bo6, bo7, bo12, jo0, jo1, vlet, i10, i00, if_true, if_false, ite_self]
        exact ⟨_, _, _, _, _, _, _, _, _, _, _, _, _, _, _, _, _, _, _, rfl, rfl, R0⟩
      · simp only [bo1, bo2, bo3, bo4, bo5, bo6, bo7, bo12, jo0, jo1, vlet, i10, i00, if_true, if_false, ite_self, show ¬ (1 = 0) from by decide]
        exact ⟨_, _, _, _, _, _, _, _, _, _, _, _, _, _, _, _, _, _, _, rfl, rfl, R0⟩
      · simp only [bo1, bo2, bo3, bo4, bo5, bo6, bo7, bo12, jo0, jo1, vlet, i10, i00, if_true, if_false, ite_self, show ¬ (2 = 0) from by decide, show ¬ (2 = 1) from by decide]
        exact ⟨_, _, _, _, _, _, _, _, _, _, _, _, _, _, _, _, _, _, _, rfl, rfl, R0⟩
    · rcases c1 with c1 | c1
      · simp only [b1, b2, c2, e1, e2, bo1, bo2, bo3, bo4, bo5, bo6, bo7, bo12, jo0, jo1, vlet, i10, i00, if_true, if_false, ite_self, if_pos (show p1 < 0 from c1)]
        exact ⟨_, _, _, _, _, _, _, _, _, _, _, _, _, _, _, _, _, _, _, rfl, rfl, R0.rf q⟩
      · simp only [b1, b2, c2, e1, e2, bo1, bo2, bo3, bo4, bo5, bo6, bo7, bo12, jo0, jo1, vlet, i10, i00, if_true, if_false, ite_self, if_neg (Int32.not_le.mpr (show (2 : Int32) < p1 from c1))]
        exact ⟨_, _, _, _, _, _, _, _, _, _, _, _, _, _, _, _, _, _, _, rfl, rfl, R0.rf q⟩
  · simp only [b1, b2, e1, e2, bo1, bo2, bo3, bo4, bo5, bo6, bo7, bo12, jo0, jo1, vlet, i10, i00, if_true, if_false, ite_self]
    exact ⟨_, _, _, _, _, _, _, _, _, _, _, _, _, _, _, _, _, _, _, rfl, rfl, R0.rf q⟩
theorem p_peopleIn {n q : Nat} {af : Nat → Int32} {L : Nat → Nat} (hn : n ≤ 8) (hq : q < 12) (hl : ag n af L) (hL : ∀ p, p < n → L p < 12) : fX5_peopleIn (nI n) af (nI q) = some (nI (pm (fun p => L p == q) n)) := by
  unfold fX5_peopleIn
  refine lr2 (fun i => nI (pm (fun p => L p == q) i)) (fun i => nI i) n (fun i hi g => ?_) (fun g => ?_) 400 (by omega)
  · have := hL i hi
    simp only [nle (a := n) (b := i) (by omega) (by omega), show ¬ n ≤ i from by omega, bo1, bo2, bo3, bo4, bo5, bo6, bo7, bo12, jo0, jo1, vlet, i10, i00, if_true, if_false, ite_self, if_n (nin (k := i) (N := 8) (by omega) (by omega)), if_n (nin2 (k := i) (N := 8) (by omega) (by omega)), nc (n := i) (by omega), hl i hi, neq (a := L i) (b := q) (by omega) (by omega), nI_1, n_pw (k := i) (by omega), n_or, pm_s]
    by_cases e : L i = q
    · simp [e]
    · simp [e]
  · rw [if_pos (Int32.le_refl _)]
theorem p_darkeningIn {n q : Nat} {kf af : Nat → Int32} {K L : Nat → Nat} (hn : n ≤ 8) (hq : q < 12) (hk : ag n kf K) (hl : ag n af L) (hK : ∀ p, p < n → K p < 6) (hL : ∀ p, p < n → L p < 12) : fX5_darkeningIn (nI n) kf af (nI q) = some (nI (cnt (fun p => (L p == q) && dk (K p)) n)) := by
  unfold fX5_darkeningIn
  refine lr2 (fun i => nI (cnt (fun p => (L p == q) && dk (K p)) i)) (fun i => nI i) n (fun i hi g => ?_) (fun g => ?_) 400 (by omega)
  · have := hL i hi
    simp only [nle (a := n) (b := i) (by omega) (by omega), show ¬ n ≤ i from by omega, bo1, bo2, bo3, bo4, bo5, bo6, bo7, bo12, jo0, jo1, vlet, i10, i00, if_true, if_false, ite_self, if_n (nin (k := i) (N := 8) (by omega) (by omega)), if_n (nin2 (k := i) (N := 8) (by omega) (by omega)), nc (n := i) (by omega), hl i hi, neq (a := L i) (b := q) (by omega) (by omega), nI_1, p_darkens hn hi hk hK, b01, cnt_s]
    by_cases e : L i = q
    · by_cases e2 : dk (K i) = true
      · simp [e, e2]
      · simp [e, e2]
    · simp [e]
  · rw [if_pos (Int32.le_refl _)]
theorem n_or0 (x : Int32) : x ||| (0 : Int32) = x := by
  apply Int32.toBitVec_inj.1
  show x.toBitVec ||| 0#32 = x.toBitVec
  exact BitVec.or_zero
theorem n_and1 (x : Int32) : x &&& (-1 : Int32) = x := by
  apply Int32.toBitVec_inj.1
  show x.toBitVec &&& BitVec.ofInt 32 (-1) = x.toBitVec
  rw [show BitVec.ofInt 32 (-1) = BitVec.allOnes 32 from by decide]
  exact BitVec.and_allOnes
theorem p_crowdAt0 {n q : Nat} {kf af : Nat → Int32} {L : Nat → Nat} (hn : n ≤ 8) (hq : q < 12) (hl : ag n af L) (hL : ∀ p, p < n → L p < 12) : fX8_crowdAt (nI n) (-1) kf af (nI q) 0 = some (nI (pm (fun p => L p == q) n)) := by
  unfold fX8_crowdAt
  refine lr2 (fun i => nI (pm (fun p => L p == q) i)) (fun i => nI i) n (fun i hi g => ?_) (fun g => ?_) 400 (by omega)
  · have := hL i hi
    simp only [nle (a := n) (b := i) (by omega) (by omega), show ¬ n ≤ i from by omega, bo1, bo2, bo3, bo4, bo5, bo6, bo7, bo12, jo0, jo1, vlet, i10, i00, if_true, if_false, ite_self, if_n (nin (k := i) (N := 8) (by omega) (by omega)), if_n (nin2 (k := i) (N := 8) (by omega) (by omega)), nc (n := i) (by omega), hl i hi, neq (a := L i) (b := q) (by omega) (by omega), nI_1, n_pw (k := i) (by omega), n_or, n_or0, pm_s]
    by_cases e : L i = q
    · simp [e]
    · simp [e]
  · rw [if_pos (Int32.le_refl _)]
theorem p_crowdAt1 {n q : Nat} {kf af : Nat → Int32} {K L : Nat → Nat} (hn : n ≤ 8) (hq : q < 12) (hk : ag n kf K) (hl : ag n af L) (hK : ∀ p, p < n → K p < 6) (hL : ∀ p, p < n → L p < 12) : fX8_crowdAt (nI n) (-1) kf af (nI q) 1 = some (nI (pm (fun p => (L p == q) && dk (K p)) n)) := by
  unfold fX8_crowdAt
  refine lr2 (fun i => nI (pm (fun p => (L p == q) && dk (K p)) i)) (fun i => nI i) n (fun i hi g => ?_) (fun g => ?_) 400 (by omega)
  · have := hL i hi
    simp only [nle (a := n) (b := i) (by omega) (by omega), show ¬ n ≤ i from by omega, bo1, bo2, bo3, bo4, bo5, bo6, bo7, bo12, jo0, jo1, vlet, i10, i00, if_true, if_false, ite_self, if_n (nin (k := i) (N := 8) (by omega) (by omega)), if_n (nin2 (k := i) (N := 8) (by omega) (by omega)), nc (n := i) (by omega), hl i hi, neq (a := L i) (b := q) (by omega) (by omega), nI_1, n_pw (k := i) (by omega), n_or, n_or0, pm_s, p_mdarkens0 hn hi hk hK, b01]
    by_cases e : L i = q
    · by_cases e2 : dk (K i) = true
      · simp [e, e2]
      · simp [e, e2]
    · simp [e]
  · rw [if_pos (Int32.le_refl _)]
theorem pm_4096 {Q : Nat → Bool} {n : Nat} (hn : n ≤ 8) : pm Q n < 4096 := Nat.lt_of_lt_of_le (pm_lt Q n) (pw_lt (by omega))
theorem tt_crowd {x_now_places : Int32} {x_now_people : Int32} {x_now_hour : Int32} {x_now_chance : Int32} {x_now_seed : Int32} {x_now_ways : Nat → Int32} {x_now_distances : Nat → Int32} {x_now_kind : Nat → Int32} {x_now_a : Nat → Int32} {x_now_home : Nat → Int32} {x_now_aim : Nat → Int32} {x_now_at : Nat → Int32} {x_kept_places : Int32} {x_kept_people : Int32} {x_kept_hour : Int32} {x_kept_chance : Int32} {x_kept_seed : Int32} {x_kept_ways : Nat → Int32} {x_kept_distances : Nat → Int32} {x_kept_kind : Nat → Int32} {x_kept_a : Nat → Int32} {x_kept_home : Nat → Int32} {x_kept_aim : Nat → Int32} {x_kept_at : Nat → Int32} {x_isKept : Int32} {x_shelves_c : Nat → Int32} {x_shelves_z : Nat → Int32} {x_shelves_e : Nat → Nat → Int64} {x_tape_size : Int32} {x_tape_bytes : Nat → Int32} {x_refusals : Nat → Int32} {m_places : Int32} {m_people : Int32} {m_hour : Int32} {m_chance : Int32} {m_seed : Int32} {m_ways : Nat → Int32} {m_kind : Nat → Int32} {m_by : Nat → Int32} {m_home : Nat → Int32} {m_aim : Nat → Int32} {m_at0 : Nat → Int32} {m_shelf : Nat → Int32} {m_rowSort : Nat → Int32} {m_rowSize : Nat → Int32} {m_rows : Nat → Nat → Int64} {m_shown : Nat → Int32} {m_tape : Nat → Int32} {m_tapeSize : Int32} {m_refused : Nat → Int32} {m_gone : Int32} {m_kept_places : Int32} {m_kept_people : Int32} {m_kept_hour : Int32} {m_kept_chance : Int32} {m_kept_seed : Int32} {m_kept_ways : Nat → Int32} {m_kept_kind : Nat → Int32} {m_kept_by : Nat → Int32} {m_kept_home : Nat → Int32} {m_kept_aim : Nat → Int32} {m_kept_at0 : Nat → Int32} {kb : Bool} (x_future_places : Int32) (x_future_people : Int32) (x_future_hour : Int32) (x_future_chance : Int32) (x_future_seed : Int32) (x_future_ways : Nat → Int32) (x_future_distances : Nat → Int32) (x_future_kind : Nat → Int32) (x_future_a : Nat → Int32) (x_future_home : Nat → Int32) (x_future_aim : Nat → Int32) (x_future_at : Nat → Int32) (m_now : Int32) (m_steps : Nat → Int32) (m_spot : Nat → Int32) (m_then : Nat → Int32) (p0 : Int32) (p1 : Int32) (p2 : Int32) (R : Rel kb x_now_places x_now_people x_now_hour x_now_chance x_now_seed x_now_ways x_now_distances x_now_kind x_now_a x_now_home x_now_aim x_now_at x_kept_places x_kept_people x_kept_hour x_kept_chance x_kept_seed x_kept_ways x_kept_distances x_kept_kind x_kept_a x_kept_home x_kept_aim x_kept_at x_isKept x_shelves_c x_shelves_z x_shelves_e x_tape_size x_tape_bytes x_refusals m_places m_people m_hour m_chance m_seed m_ways m_kind m_by m_home m_aim m_at0 m_shelf m_rowSort m_rowSize m_rows m_shown m_tape m_tapeSize m_refused m_gone m_kept_places m_kept_people m_kept_hour m_kept_chance m_kept_seed m_kept_ways m_kept_kind m_kept_by m_kept_home m_kept_aim m_kept_at0) : ∃ (r : Int32) (y_future_places : Int32) (y_future_people : Int32) (y_future_hour : Int32) (y_future_chance : Int32) (y_future_seed : Int32) (y_future_ways : Nat → Int32) (y_future_distances : Nat → Int32) (y_future_kind : Nat → Int32) (y_future_a : Nat → Int32) (y_future_home : Nat → Int32) (y_future_aim : Nat → Int32) (y_future_at : Nat → Int32) (y_refusals : Nat → Int32) (z_now : Int32) (z_refused : Nat → Int32) (z_steps : Nat → Int32) (z_spot : Nat → Int32) (z_then : Nat → Int32), fX7_crowd x_now_places x_now_people x_now_hour x_now_chance x_now_seed x_now_ways x_now_distances x_now_kind x_now_a x_now_home x_now_aim x_now_at x_future_places x_future_people x_future_hour x_future_chance x_future_seed x_future_ways x_future_distances x_future_kind x_future_a x_future_home x_future_aim x_future_at x_refusals p0 p1 p2 = some (r, y_future_places, y_future_people, y_future_hour, y_future_chance, y_future_seed, y_future_ways, y_future_distances, y_future_kind, y_future_a, y_future_home, y_future_aim, y_future_at, y_refusals) ∧ fX8_crowd m_places m_people m_hour m_now m_gone m_refused m_ways m_kind m_home m_aim m_at0 m_steps m_spot m_then p0 p1 p2 = some (r, z_now, z_refused, z_steps, z_spot, z_then) ∧ Rel kb x_now_places x_now_people x_now_hour x_now_chance x_now_seed x_now_ways x_now_distances x_now_kind x_now_a x_now_home x_now_aim x_now_at x_kept_places x_kept_people x_kept_hour x_kept_chance x_kept_seed x_kept_ways x_kept_distances x_kept_kind x_kept_a x_kept_home x_kept_aim x_kept_at x_isKept x_shelves_c x_shelves_z x_shelves_e x_tape_size x_tape_bytes y_refusals m_places m_people m_hour m_chance m_seed m_ways m_kind m_by m_home m_aim m_at0 m_shelf m_rowSort m_rowSize m_rows m_shown m_tape m_tapeSize z_refused m_gone m_kept_places m_kept_people m_kept_hour m_kept_chance m_kept_seed m_kept_ways m_kept_kind m_kept_by m_kept_home m_kept_aim m_kept_at0 := by
  have R0 := R
  obtain ⟨P, n, h, c, s, W, K, A, H, M, L, T, ⟨rfl, rfl, rfl, rfl, rfl, rfl, xd, xk, xa, xh, xm, xl⟩, ⟨rfl, rfl, rfl, rfl, rfl, rfl, mk, ma, mh, mm, ml⟩, rfl, S, U, V, Z⟩ := R
  obtain ⟨hP2, hP, hn, hW, hK, hH, hM, hL, hho⟩ := id T
  obtain ⟨x2, m2, e1, e2, q⟩ := rf2 V
  unfold fX7_crowd fX8_crowd
  rcases cPlace P hP p0 with ⟨p, hp, rfl, a1, a2⟩ | ⟨a1, a2⟩
  · rcases cTime p1 with ⟨t, ht, rfl, b1, b2⟩ | ⟨b1, b2⟩
    · rcases cIn 0 1 0 1 (by decide) (by decide) (by omega) (by omega) p2 with ⟨w, -, hw, hw1, c2⟩ | ⟨c1, c2⟩
      · obtain ⟨af, f1, f2⟩ := p_lookAhead (c := m_chance) (s := m_seed) (bf := x_now_a) T xd xk xh xm xl ht
        obtain ⟨st, sp, tt, f3, f4⟩ := p_goesOn0 (s0 := m_steps) (p0 := m_spot) (t0 := m_then) T mk mh mm ml ht
        have Tt := T.at (fun p => dk (K p)) t
        obtain ⟨w0, w1, w2⟩ := cWhat2 w p2 hw1 (by omega)
        have w3 : p2 ≤ (1 : Int32) := by rw [hw1]; exact nI_le hw (by decide)
        simp only [a1, a2, b1, b2, c2, bo1, bo2, bo3, bo4, bo5, bo6, bo7, bo12, jo0, jo1, vlet, i10, i00, if_true, if_false, ite_self, f1, f3, w0, w1, if_neg w2, if_pos w3, p_peopleIn hn (show p < 12 by omega) f2 Tt.lt, p_darkeningIn hn (show p < 12 by omega) xk f2 hK Tt.lt, p_crowdAt0 (kf := m_kind) hn (show p < 12 by omega) f4 Tt.lt, p_crowdAt1 hn (show p < 12 by omega) mk f4 hK Tt.lt, p_bits _ (pm_4096 hn), pc_pm (show n ≤ 12 by omega)]
        rcases (show w = 0 ∨ w = 1 by omega) with rfl | rfl
        · simp only [bo1, bo2, bo3, bo4, bo5, bo6, bo7, bo12, jo0, jo1, vlet, i10, i00, if_true, if_false, ite_self]
          exact ⟨_, _, _, _, _, _, _, _, _, _, _, _, _, _, _, _, _, _, _, rfl, rfl, R0⟩
        · simp only [bo1, bo2, bo3, bo4, bo5, bo6, bo7, bo12, jo0, jo1, vlet, i10, i00, if_true, if_false, ite_self, show ¬ (1 = 0) from by decide]
          exact ⟨_, _, _, _, _, _, _, _, _, _, _, _, _, _, _, _, _, _, _, rfl, rfl, R0⟩
      · rcases c1 with c1 | c1
        · simp only [a1, a2, b1, b2, c2, e1, e2, bo1, bo2, bo3, bo4, bo5, bo6, bo7, bo12, jo0, jo1, vlet, i10, i00, if_true, if_false, ite_self, if_pos (show p2 < 0 from c1)]
          exact ⟨_, _, _, _, _, _, _, _, _, _, _, _, _, _, _, _, _, _, _, rfl, rfl, R0.rf q⟩
        · simp only [a1, a2, b1, b2, c2, e1, e2, bo1, bo2, bo3, bo4, bo5, bo6, bo7, bo12, jo0, jo1, vlet, i10, i00, if_true, if_false, ite_self, if_neg (Int32.not_le.mpr (show (1 : Int32) < p2 from c1))]
          exact ⟨_, _, _, _, _, _, _, _, _, _, _, _, _, _, _, _, _, _, _, rfl, rfl, R0.rf q⟩
    · simp only [a1, a2, b1, b2, e1, e2, bo1, bo2, bo3, bo4, bo5, bo6, bo7, bo12, jo0, jo1, vlet, i10, i00, if_true, if_false, ite_self]
      exact ⟨_, _, _, _, _, _, _, _, _, _, _, _, _, _, _, _, _, _, _, rfl, rfl, R0.rf q⟩
  · simp only [a1, a2, e1, e2, bo1, bo2, bo3, bo4, bo5, bo6, bo7, bo12, jo0, jo1, vlet, i10, i00, if_true, if_false, ite_self]
    exact ⟨_, _, _, _, _, _, _, _, _, _, _, _, _, _, _, _, _, _, _, rfl, rfl, R0.rf q⟩
/-- another one who darkens is there -/
def jnd (K L : Nat → Nat) (n p : Nat) : Bool := (ff (fun o => !(o == p) && (L o == L p) && dk (K o)) n 0).isSome
theorem p_isJoined {n p : Nat} {kf af : Nat → Int32} {K L : Nat → Nat} (hn : n ≤ 8) (hp : p < n) (hk : ag n kf K) (hl : ag n af L) (hK : ∀ p, p < n → K p < 6) (hL : ∀ p, p < n → L p < 12) : fX5_isJoined (nI n) kf af (nI p) = some (nI (if jnd K L n p then 1 else 0)) := by
  unfold fX5_isJoined
  refine Eq.trans (lsk (fun o => !(o == p) && (L o == L p) && dk (K o)) (fun _ => some (nI 1)) (some (nI 0)) 0 n (fun i h1 h2 g2 => ?_) (fun g2 => ?_) 400 (by omega)) ?_
  · have := hL i (by omega)
    have := hL p hp
    simp only [nle (a := n) (b := i) (by omega) (by omega), show ¬ n ≤ i from by omega, bo1, bo2, bo3, bo4, bo5, bo6, bo7, bo12, jo0, jo1, vlet, i10, i00, if_true, if_false, ite_self, if_n (nin (k := i) (N := 8) (by omega) (by omega)), if_n (nin2 (k := i) (N := 8) (by omega) (by omega)), nc (n := i) (by omega), if_n (nin (k := p) (N := 8) (by omega) (by omega)), if_n (nin2 (k := p) (N := 8) (by omega) (by omega)), nc (n := p) (by omega), hl i (by omega), hl p hp, neq (a := L i) (b := L p) (by omega) (by omega), neq (a := i) (b := p) (by omega) (by omega), nI_1, p_darkens hn (show i < n by omega) hk hK, b01]
    by_cases a : i = p
    · simp [a]
    · by_cases b : L i = L p
      · by_cases c : dk (K i) = true
        · simp [a, b, c]; rfl
        · simp [a, b, c]
      · simp [a, b]
  · rw [Nat.zero_add, if_pos (Int32.le_refl _)]; rfl
  · unfold jnd
    cases ff (fun o => !(o == p) && (L o == L p) && dk (K o)) n 0 <;> rfl
theorem p_isDarkBut0 {n p : Nat} {kf af : Nat → Int32} {K L : Nat → Nat} (hn : n ≤ 8) (hp : p < n) (hk : ag n kf K) (hl : ag n af L) (hK : ∀ p, p < n → K p < 6) (hL : ∀ p, p < n → L p < 12) : fX8_isDarkBut (nI n) (-1) kf af (nI (L p)) (nI p) = some (nI (if jnd K L n p then 1 else 0)) :=
  p_isDarkBut (P := 0) (g0 := 0) (G := fun _ => false) hn gn_no hk hl hK hL hp (hL p hp)
theorem tt_covered {x_now_places : Int32} {x_now_people : Int32} {x_now_hour : Int32} {x_now_chance : Int32} {x_now_seed : Int32} {x_now_ways : Nat → Int32} {x_now_distances : Nat → Int32} {x_now_kind : Nat → Int32} {x_now_a : Nat → Int32} {x_now_home : Nat → Int32} {x_now_aim : Nat → Int32} {x_now_at : Nat → Int32} {x_kept_places : Int32} {x_kept_people : Int32} {x_kept_hour : Int32} {x_kept_chance : Int32} {x_kept_seed : Int32} {x_kept_ways : Nat → Int32} {x_kept_distances : Nat → Int32} {x_kept_kind : Nat → Int32} {x_kept_a : Nat → Int32} {x_kept_home : Nat → Int32} {x_kept_aim : Nat → Int32} {x_kept_at : Nat → Int32} {x_isKept : Int32} {x_shelves_c : Nat → Int32} {x_shelves_z : Nat → Int32} {x_shelves_e : Nat → Nat → Int64} {x_tape_size : Int32} {x_tape_bytes : Nat → Int32} {x_refusals : Nat → Int32} {m_places : Int32} {m_people : Int32} {m_hour : Int32} {m_chance : Int32} {m_seed : Int32} {m_ways : Nat → Int32} {m_kind : Nat → Int32} {m_by : Nat → Int32} {m_home : Nat → Int32} {m_aim : Nat → Int32} {m_at0 : Nat → Int32} {m_shelf : Nat → Int32} {m_rowSort : Nat → Int32} {m_rowSize : Nat → Int32} {m_rows : Nat → Nat → Int64} {m_shown : Nat → Int32} {m_tape : Nat → Int32} {m_tapeSize : Int32} {m_refused : Nat → Int32} {m_gone : Int32} {m_kept_places : Int32} {m_kept_people : Int32} {m_kept_hour : Int32} {m_kept_chance : Int32} {m_kept_seed : Int32} {m_kept_ways : Nat → Int32} {m_kept_kind : Nat → Int32} {m_kept_by : Nat → Int32} {m_kept_home : Nat → Int32} {m_kept_aim : Nat → Int32} {m_kept_at0 : Nat → Int32} {kb : Bool} (x_future_places : Int32) (x_future_people : Int32) (x_future_hour : Int32) (x_future_chance : Int32) (x_future_seed : Int32) (x_future_ways : Nat → Int32) (x_future_distances : Nat → Int32) (x_future_kind : Nat → Int32) (x_future_a : Nat → Int32) (x_future_home : Nat → Int32) (x_future_aim : Nat → Int32) (x_future_at : Nat → Int32) (m_now : Int32) (m_steps : Nat → Int32) (m_spot : Nat → Int32) (m_then : Nat → Int32) (p0 : Int32) (R : Rel kb x_now_places x_now_people x_now_hour x_now_chance x_now_seed x_now_ways x_now_distances x_now_kind x_now_a x_now_home x_now_aim x_now_at x_kept_places x_kept_people x_kept_hour x_kept_chance x_kept_seed x_kept_ways x_kept_distances x_kept_kind x_kept_a x_kept_home x_kept_aim x_kept_at x_isKept x_shelves_c x_shelves_z x_shelves_e x_tape_size x_tape_bytes x_refusals m_places m_people m_hour m_chance m_seed m_ways m_kind m_by m_home m_aim m_at0 m_shelf m_rowSort m_rowSize m_rows m_shown m_tape m_tapeSize m_refused m_gone m_kept_places m_kept_people m_kept_hour m_kept_chance m_kept_seed m_kept_ways m_kept_kind m_kept_by m_kept_home m_kept_aim m_kept_at0) : ∃ (r : Int32) (y_future_places : Int32) (y_future_people : Int32) (y_future_hour : Int32) (y_future_chance : Int32) (y_future_seed : Int32) (y_future_ways : Nat → Int32) (y_future_distances : Nat → Int32) (y_future_kind : Nat → Int32) (y_future_a : Nat → Int32) (y_future_home : Nat → Int32) (y_future_aim : Nat → Int32) (y_future_at : Nat → Int32) (y_refusals : Nat → Int32) (z_now : Int32) (z_refused : Nat → Int32) (z_steps : Nat → Int32) (z_spot : Nat → Int32) (z_then : Nat → Int32), fX7_covered x_now_places x_now_people x_now_hour x_now_chance x_now_seed x_now_ways x_now_distances x_now_kind x_now_a x_now_home x_now_aim x_now_at x_future_places x_future_people x_future_hour x_future_chance x_future_seed x_future_ways x_future_distances x_future_kind x_future_a x_future_home x_future_aim x_future_at x_refusals p0 = some (r, y_future_places, y_future_people, y_future_hour, y_future_chance, y_future_seed, y_future_ways, y_future_distances, y_future_kind, y_future_a, y_future_home, y_future_aim, y_future_at, y_refusals) ∧ fX8_covered m_places m_people m_hour m_now m_gone m_refused m_ways m_kind m_home m_aim m_at0 m_steps m_spot m_then p0 = some (r, z_now, z_refused, z_steps, z_spot, z_then) ∧ Rel kb x_now_places x_now_people x_now_hour x_now_chance x_now_seed x_now_ways x_now_distances x_now_kind x_now_a x_now_home x_now_aim x_now_at x_kept_places x_kept_people x_kept_hour x_kept_chance x_kept_seed x_kept_ways x_kept_distances x_kept_kind x_kept_a x_kept_home x_kept_aim x_kept_at x_isKept x_shelves_c x_shelves_z x_shelves_e x_tape_size x_tape_bytes y_refusals m_places m_people m_hour m_chance m_seed m_ways m_kind m_by m_home m_aim m_at0 m_shelf m_rowSort m_rowSize m_rows m_shown m_tape m_tapeSize z_refused m_gone m_kept_places m_kept_people m_kept_hour m_kept_chance m_kept_seed m_kept_ways m_kept_kind m_kept_by m_kept_home m_kept_aim m_kept_at0 := by
  have R0 := R
  obtain ⟨P, n, h, c, s, W, K, A, H, M, L, T, ⟨rfl, rfl, rfl, rfl, rfl, rfl, xd, xk, xa, xh, xm, xl⟩, ⟨rfl, rfl, rfl, rfl, rfl, rfl, mk, ma, mh, mm, ml⟩, rfl, S, U, V, Z⟩ := R
  obtain ⟨hP2, hP, hn, hW, hK, hH, hM, hL, hho⟩ := id T
  obtain ⟨x2, m2, e1, e2, q⟩ := rf2 V
  rcases cTime p0 with ⟨t, ht, rfl, b1, b2⟩ | ⟨b1, b2⟩
  · obtain ⟨af, f1, f2⟩ := p_lookAhead (c := m_chance) (s := m_seed) (bf := x_now_a) T xd xk xh xm xl ht
    obtain ⟨st, sp, tt, f3, f4⟩ := p_goesOn0 (s0 := m_steps) (p0 := m_spot) (t0 := m_then) T mk mh mm ml ht
    have Tt := T.at (fun p => dk (K p)) t
    have hx : fX7_covered (nI P) (nI n) (nI h) m_chance m_seed (nf W) x_now_distances x_now_kind x_now_a x_now_home x_now_aim x_now_at x_future_places x_future_people x_future_hour x_future_chance x_future_seed x_future_ways x_future_distances x_future_kind x_future_a x_future_home x_future_aim x_future_at x_refusals (nI t) = some (nI (pm (fun p => dk (K p) && jnd K (lc W P n K H M (fun p => dk (K p)) h L t) n p) n), nI P, nI n, nI (hc h (t)), m_chance, m_seed, nf W, x_now_distances, x_now_kind, x_now_a, x_now_home, x_now_aim, af, x_refusals) := by
      unfold fX7_covered
      simp only [b1, bo1, bo2, bo3, bo4, bo5, bo6, bo7, bo12, jo0, jo1, vlet, i10, i00, if_true, if_false, ite_self, f1]
      refine lr2 (fun i => nI (pm (fun p => dk (K p) && jnd K (lc W P n K H M (fun p => dk (K p)) h L t) n p) i)) (fun i => nI i) n (fun i hi g => ?_) (fun g => ?_) 400 (by omega)
      · simp only [nle (a := n) (b := i) (by omega) (by omega), show ¬ n ≤ i from by omega, bo1, bo2, bo3, bo4, bo5, bo6, bo7, bo12, jo0, jo1, vlet, i10, i00, if_true, if_false, ite_self, p_darkens hn hi xk hK, p_isJoined hn hi xk f2 hK Tt.lt, b01, n_pw (k := i) (by omega), n_or, nI_1, pm_s]
        by_cases u1 : dk (K i) = true
        · by_cases u2 : jnd K (lc W P n K H M (fun p => dk (K p)) h L t) n i = true
          · simp [u1, u2]
          · simp [u1, u2]
        · simp [u1]
      · rw [if_pos (Int32.le_refl _)]
    have hm : fX8_covered (nI P) (nI n) (nI h) m_now (-1) m_refused (nf W) m_kind m_home m_aim m_at0 m_steps m_spot m_then (nI t) = some (nI (pm (fun p => dk (K p) && jnd K (lc W P n K H M (fun p => dk (K p)) h L t) n p) n), nI (hc h t), m_refused, st, sp, tt) := by
      unfold fX8_covered
      simp only [b2, bo1, bo2, bo3, bo4, bo5, bo6, bo7, bo12, jo0, jo1, vlet, i10, i00, if_true, if_false, ite_self, f3]
      refine lr2 (fun i => nI (pm (fun p => dk (K p) && jnd K (lc W P n K H M (fun p => dk (K p)) h L t) n p) i)) (fun i => nI i) n (fun i hi g => ?_) (fun g => ?_) 400 (by omega)
      · simp only [nle (a := n) (b := i) (by omega) (by omega), show ¬ n ≤ i from by omega, bo1, bo2, bo3, bo4, bo5, bo6, bo7, bo12, jo0, jo1, vlet, i10, i00, if_true, if_false, ite_self, if_n (nin (k := i) (N := 8) (by omega) (by omega)), if_n (nin2 (k := i) (N := 8) (by omega) (by omega)), nc (n := i) (by omega), f4 i hi, p_mdarkens0 hn hi mk hK, p_isDarkBut0 hn hi mk f4 hK Tt.lt, b01, n_pw (k := i) (by omega), n_or, n_or0, nI_1, pm_s]
        by_cases u1 : dk (K i) = true
        · by_cases u2 : jnd K (lc W P n K H M (fun p => dk (K p)) h L t) n i = true
          · simp [u1, u2]
          · simp [u1, u2]
        · simp [u1]
      · rw [if_pos (Int32.le_refl _)]
    rw [hx, hm]
    exact ⟨_, _, _, _, _, _, _, _, _, _, _, _, _, _, _, _, _, _, _, rfl, rfl, R0⟩
  · unfold fX7_covered fX8_covered
    simp only [b1, b2, e1, e2, bo1, bo2, bo3, bo4, bo5, bo6, bo7, bo12, jo0, jo1, vlet, i10, i00, if_true, if_false, ite_self]
    exact ⟨_, _, _, _, _, _, _, _, _, _, _, _, _, _, _, _, _, _, _, rfl, rfl, R0.rf q⟩
