/-! ===== round, going, when, best ===== -/
theorem or_pw (a i : Nat) : a ||| 2 ^ i ≠ 0 := by
  intro e
  have : (a ||| 2 ^ i).testBit i = true := by rw [Nat.testBit_or, Nat.testBit_two_pow_self, Bool.or_true]
  rw [e, Nat.zero_testBit] at this
  cases this
theorem pm_z_s (Q : Nat → Bool) (i : Nat) : (pm Q (i + 1) == 0) = ((pm Q i == 0) && !Q i) := by
  rw [pm_s]
  by_cases h : Q i = true
  · rw [if_pos h]
    simp [h, or_pw]
  · rw [if_neg h]
    simp [h]
theorem wnt_pm (L N : Nat → Nat) (n : Nat) : wnt L N n = !(pm (fun p => !(N p == L p)) n == 0) := by
  induction n with
  | zero => rfl
  | succ n ih =>
    rw [pm_z_s]
    show (wnt L N n || !(N n == L n)) = _
    rw [ih]
    cases (pm (fun p => !(N p == L p)) n == 0) <;> cases (N n == L n) <;> rfl
theorem p_movedPeople {n : Nat} {f g : Nat → Int32} {A B : Nat → Nat} (hn : n ≤ 8) (hf : ag n f A) (hg : ag n g B) (hA : ∀ p, p < n → A p < 12) (hB : ∀ p, p < n → B p < 12) : fX7_movedPeople (nI n) f g = some (nI (pm (fun p => !(B p == A p)) n)) := by
  unfold fX7_movedPeople
  refine lr2 (fun i => nI (pm (fun p => !(B p == A p)) i)) (fun i => nI i) n (fun i hi g2 => ?_) (fun g2 => ?_) 400 (by omega)
  · have h1 := hA i hi
    have h2 := hB i hi
    simp only [nle (a := n) (b := i) (by omega) (by omega), show ¬ n ≤ i from by omega, bo1, bo2, bo3, bo4, bo5, bo6, bo7, bo12, jo0, jo1, vlet, i10, i00, if_true, if_false, ite_self, n1z, n0z, if_n (nin (k := i) (N := 8) (by omega) (by omega)), if_n (nin2 (k := i) (N := 8) (by omega) (by omega)), nc (n := i) (by omega), hf i hi, hg i hi, neq (a := B i) (b := A i) (by omega) (by omega), nI_1, n_pw (k := i) (by omega), n_or, pm_s]
    by_cases e : B i = A i
    · simp [e]
    · simp [e]
  · rw [if_pos (Int32.le_refl _)]
theorem p_goers {P n h : Nat} {W K H M L : Nat → Nat} {kf hf mf af s0 : Nat → Int32} (T : tok P n W K H M L h) (hk : ag n kf K) (hh : ag n hf H) (hm : ag n mf M) (hl : ag n af L) : ∃ st, fX8_goers (nI P) (nI n) (nI h) (-1) (nf W) kf hf mf s0 af = some (nI (pm (fun p => !(nxt W P n K H M (fun p => dk (K p)) h L p == L p)) n), st) := by
  have hn := T.2.2.1
  unfold fX8_goers
  refine lph3 (Φ := fun o => ∃ st, o = some (nI (pm (fun p => !(nxt W P n K H M (fun p => dk (K p)) h L p == L p)) n), st)) (fun i a b _ => a = nI (pm (fun p => !(nxt W P n K H M (fun p => dk (K p)) h L p == L p)) i) ∧ b = nI i) n ⟨rfl, rfl⟩ (fun i hi a b s z => ?_) (fun a b s z g => ?_) 400 (by omega)
  · obtain ⟨rfl, rfl⟩ := z
    obtain ⟨st, e⟩ := p_mgoesTo (G := fun _ => false) (s0 := s) T gn_no hk hh hm hl hi
    have e' : fX8_goesTo (nI P) (nI n) (nI h) (-1) (nf W) kf hf mf s af (nI i) = some (nI (nxt W P n K H M (fun p => dk (K p)) h L i), st) := e
    have h1 := T.lt i hi
    have h2 := (T.next (fun p => dk (K p))).lt i hi
    refine ⟨_, _, st, ⟨rfl, rfl⟩, fun g => ?_⟩
    simp only [nle (a := n) (b := i) (by omega) (by omega), show ¬ n ≤ i from by omega, bo1, bo2, bo3, bo4, bo5, bo6, bo7, bo12, jo0, jo1, vlet, i10, i00, if_true, if_false, ite_self, n1z, n0z, if_n (nin (k := i) (N := 8) (by omega) (by omega)), if_n (nin2 (k := i) (N := 8) (by omega) (by omega)), nc (n := i) (by omega), e', hl i hi, neq (a := nxt W P n K H M (fun p => dk (K p)) h L i) (b := L i) (by omega) (by omega), nI_1, n_pw (k := i) (by omega), n_or, n_or0, pm_s]
    by_cases e : nxt W P n K H M (fun p => dk (K p)) h L i = L i
    · simp [e]
    · simp [e]
  · obtain ⟨rfl, rfl⟩ := z
    exact ⟨_, if_pos (Int32.le_refl _)⟩
theorem tt_going {x_now_places : Int32} {x_now_people : Int32} {x_now_hour : Int32} {x_now_chance : Int32} {x_now_seed : Int32} {x_now_ways : Nat → Int32} {x_now_distances : Nat → Int32} {x_now_kind : Nat → Int32} {x_now_a : Nat → Int32} {x_now_home : Nat → Int32} {x_now_aim : Nat → Int32} {x_now_at : Nat → Int32} {x_kept_places : Int32} {x_kept_people : Int32} {x_kept_hour : Int32} {x_kept_chance : Int32} {x_kept_seed : Int32} {x_kept_ways : Nat → Int32} {x_kept_distances : Nat → Int32} {x_kept_kind : Nat → Int32} {x_kept_a : Nat → Int32} {x_kept_home : Nat → Int32} {x_kept_aim : Nat → Int32} {x_kept_at : Nat → Int32} {x_isKept : Int32} {x_shelves_c : Nat → Int32} {x_shelves_z : Nat → Int32} {x_shelves_e : Nat → Nat → Int64} {x_tape_size : Int32} {x_tape_bytes : Nat → Int32} {x_refusals : Nat → Int32} {m_places : Int32} {m_people : Int32} {m_hour : Int32} {m_chance : Int32} {m_seed : Int32} {m_ways : Nat → Int32} {m_kind : Nat → Int32} {m_by : Nat → Int32} {m_home : Nat → Int32} {m_aim : Nat → Int32} {m_at0 : Nat → Int32} {m_shelf : Nat → Int32} {m_rowSort : Nat → Int32} {m_rowSize : Nat → Int32} {m_rows : Nat → Nat → Int64} {m_shown : Nat → Int32} {m_tape : Nat → Int32} {m_tapeSize : Int32} {m_refused : Nat → Int32} {m_gone : Int32} {m_kept_places : Int32} {m_kept_people : Int32} {m_kept_hour : Int32} {m_kept_chance : Int32} {m_kept_seed : Int32} {m_kept_ways : Nat → Int32} {m_kept_kind : Nat → Int32} {m_kept_by : Nat → Int32} {m_kept_home : Nat → Int32} {m_kept_aim : Nat → Int32} {m_kept_at0 : Nat → Int32} {kb : Bool} (m_steps : Nat → Int32) (m_spot : Nat → Int32) (R : Rel kb x_now_places x_now_people x_now_hour x_now_chance x_now_seed x_now_ways x_now_distances x_now_kind x_now_a x_now_home x_now_aim x_now_at x_kept_places x_kept_people x_kept_hour x_kept_chance x_kept_seed x_kept_ways x_kept_distances x_kept_kind x_kept_a x_kept_home x_kept_aim x_kept_at x_isKept x_shelves_c x_shelves_z x_shelves_e x_tape_size x_tape_bytes x_refusals m_places m_people m_hour m_chance m_seed m_ways m_kind m_by m_home m_aim m_at0 m_shelf m_rowSort m_rowSize m_rows m_shown m_tape m_tapeSize m_refused m_gone m_kept_places m_kept_people m_kept_hour m_kept_chance m_kept_seed m_kept_ways m_kept_kind m_kept_by m_kept_home m_kept_aim m_kept_at0) : ∃ (r : Int32) (y_future_places : Int32) (y_future_people : Int32) (y_future_hour : Int32) (y_future_chance : Int32) (y_future_seed : Int32) (y_future_ways : Nat → Int32) (y_future_distances : Nat → Int32) (y_future_kind : Nat → Int32) (y_future_a : Nat → Int32) (y_future_home : Nat → Int32) (y_future_aim : Nat → Int32) (y_future_at : Nat → Int32) (z_now : Int32) (z_steps : Nat → Int32) (z_spot : Nat → Int32), fX7_going x_now_places x_now_people x_now_hour x_now_chance x_now_seed x_now_ways x_now_distances x_now_kind x_now_a x_now_home x_now_aim x_now_at = some (r, y_future_places, y_future_people, y_future_hour, y_future_chance, y_future_seed, y_future_ways, y_future_distances, y_future_kind, y_future_a, y_future_home, y_future_aim, y_future_at) ∧ fX8_going m_places m_people m_hour m_gone m_ways m_kind m_home m_aim m_at0 m_steps m_spot = some (r, z_now, z_steps, z_spot) ∧ Rel kb x_now_places x_now_people x_now_hour x_now_chance x_now_seed x_now_ways x_now_distances x_now_kind x_now_a x_now_home x_now_aim x_now_at x_kept_places x_kept_people x_kept_hour x_kept_chance x_kept_seed x_kept_ways x_kept_distances x_kept_kind x_kept_a x_kept_home x_kept_aim x_kept_at x_isKept x_shelves_c x_shelves_z x_shelves_e x_tape_size x_tape_bytes x_refusals m_places m_people m_hour m_chance m_seed m_ways m_kind m_by m_home m_aim m_at0 m_shelf m_rowSort m_rowSize m_rows m_shown m_tape m_tapeSize m_refused m_gone m_kept_places m_kept_people m_kept_hour m_kept_chance m_kept_seed m_kept_ways m_kept_kind m_kept_by m_kept_home m_kept_aim m_kept_at0 := by
  have R0 := R
  obtain ⟨P, n, h, c, s, W, K, A, H, M, L, T, ⟨rfl, rfl, rfl, rfl, rfl, rfl, xd, xk, xa, xh, xm, xl⟩, ⟨rfl, rfl, rfl, rfl, rfl, rfl, mk, ma, mh, mm, ml⟩, rfl, S, U, V, Z⟩ := R
  obtain ⟨hP2, hP, hn, hW, hK, hH, hM, hL, hho⟩ := id T
  obtain ⟨af, f1, f2⟩ := p_lookAhead (c := m_chance) (s := m_seed) (bf := x_now_a) (k := 1) T xd xk xh xm xl (by omega)
  have f1' : fX7_lookAhead (nI P) (nI n) (nI h) m_chance m_seed (nf W) x_now_distances x_now_kind x_now_a x_now_home x_now_aim x_now_at (1 : Int32) = _ := f1
  obtain ⟨s1, g1, g2⟩ := p_begin (hh := nI h) (s0 := m_spot) hn ml
  obtain ⟨st, f3⟩ := p_goers (s0 := m_steps) T mk mh mm g2
  unfold fX7_going fX8_going
  simp only [f1', n1z, n0z, bo1, bo2, bo3, bo4, bo5, bo6, bo7, bo12, jo0, i10, i00, if_true, if_false, ite_self, p_movedPeople hn xl f2 T.lt (T.at (fun p => dk (K p)) 1).lt, g1, f3]
  exact ⟨_, _, _, _, _, _, _, _, _, _, _, _, _, _, _, _, rfl, rfl, R0⟩
def dw : Option Nat → Int32
  | none => -1
  | some k => nI (k + 1)
theorem n_mul01 (a b : Bool) : nI (if a then 1 else 0) &&& (if b = true then (1 : Int32) else 0) = nI (if (a && b) then 1 else 0) := by
  cases a <;> cases b <;> decide
theorem tt_round {x_now_places : Int32} {x_now_people : Int32} {x_now_hour : Int32} {x_now_chance : Int32} {x_now_seed : Int32} {x_now_ways : Nat → Int32} {x_now_distances : Nat → Int32} {x_now_kind : Nat → Int32} {x_now_a : Nat → Int32} {x_now_home : Nat → Int32} {x_now_aim : Nat → Int32} {x_now_at : Nat → Int32} {x_kept_places : Int32} {x_kept_people : Int32} {x_kept_hour : Int32} {x_kept_chance : Int32} {x_kept_seed : Int32} {x_kept_ways : Nat → Int32} {x_kept_distances : Nat → Int32} {x_kept_kind : Nat → Int32} {x_kept_a : Nat → Int32} {x_kept_home : Nat → Int32} {x_kept_aim : Nat → Int32} {x_kept_at : Nat → Int32} {x_isKept : Int32} {x_shelves_c : Nat → Int32} {x_shelves_z : Nat → Int32} {x_shelves_e : Nat → Nat → Int64} {x_tape_size : Int32} {x_tape_bytes : Nat → Int32} {x_refusals : Nat → Int32} {m_places : Int32} {m_people : Int32} {m_hour : Int32} {m_chance : Int32} {m_seed : Int32} {m_ways : Nat → Int32} {m_kind : Nat → Int32} {m_by : Nat → Int32} {m_home : Nat → Int32} {m_aim : Nat → Int32} {m_at0 : Nat → Int32} {m_shelf : Nat → Int32} {m_rowSort : Nat → Int32} {m_rowSize : Nat → Int32} {m_rows : Nat → Nat → Int64} {m_shown : Nat → Int32} {m_tape : Nat → Int32} {m_tapeSize : Int32} {m_refused : Nat → Int32} {m_gone : Int32} {m_kept_places : Int32} {m_kept_people : Int32} {m_kept_hour : Int32} {m_kept_chance : Int32} {m_kept_seed : Int32} {m_kept_ways : Nat → Int32} {m_kept_kind : Nat → Int32} {m_kept_by : Nat → Int32} {m_kept_home : Nat → Int32} {m_kept_aim : Nat → Int32} {m_kept_at0 : Nat → Int32} {kb : Bool} (m_steps : Nat → Int32) (m_spot : Nat → Int32) (m_then : Nat → Int32) (R : Rel kb x_now_places x_now_people x_now_hour x_now_chance x_now_seed x_now_ways x_now_distances x_now_kind x_now_a x_now_home x_now_aim x_now_at x_kept_places x_kept_people x_kept_hour x_kept_chance x_kept_seed x_kept_ways x_kept_distances x_kept_kind x_kept_a x_kept_home x_kept_aim x_kept_at x_isKept x_shelves_c x_shelves_z x_shelves_e x_tape_size x_tape_bytes x_refusals m_places m_people m_hour m_chance m_seed m_ways m_kind m_by m_home m_aim m_at0 m_shelf m_rowSort m_rowSize m_rows m_shown m_tape m_tapeSize m_refused m_gone m_kept_places m_kept_people m_kept_hour m_kept_chance m_kept_seed m_kept_ways m_kept_kind m_kept_by m_kept_home m_kept_aim m_kept_at0) : ∃ (r : Int32) (y_future_places : Int32) (y_future_people : Int32) (y_future_hour : Int32) (y_future_chance : Int32) (y_future_seed : Int32) (y_future_ways : Nat → Int32) (y_future_distances : Nat → Int32) (y_future_kind : Nat → Int32) (y_future_a : Nat → Int32) (y_future_home : Nat → Int32) (y_future_aim : Nat → Int32) (y_future_at : Nat → Int32) (z_now : Int32) (z_steps : Nat → Int32) (z_spot : Nat → Int32) (z_then : Nat → Int32), fX7_round x_now_places x_now_people x_now_hour x_now_chance x_now_seed x_now_ways x_now_distances x_now_kind x_now_a x_now_home x_now_aim x_now_at = some (r, y_future_places, y_future_people, y_future_hour, y_future_chance, y_future_seed, y_future_ways, y_future_distances, y_future_kind, y_future_a, y_future_home, y_future_aim, y_future_at) ∧ fX8_round m_places m_people m_hour m_gone m_ways m_kind m_home m_aim m_at0 m_steps m_spot m_then = some (r, z_now, z_steps, z_spot, z_then) ∧ Rel kb x_now_places x_now_people x_now_hour x_now_chance x_now_seed x_now_ways x_now_distances x_now_kind x_now_a x_now_home x_now_aim x_now_at x_kept_places x_kept_people x_kept_hour x_kept_chance x_kept_seed x_kept_ways x_kept_distances x_kept_kind x_kept_a x_kept_home x_kept_aim x_kept_at x_isKept x_shelves_c x_shelves_z x_shelves_e x_tape_size x_tape_bytes x_refusals m_places m_people m_hour m_chance m_seed m_ways m_kind m_by m_home m_aim m_at0 m_shelf m_rowSort m_rowSize m_rows m_shown m_tape m_tapeSize m_refused m_gone m_kept_places m_kept_people m_kept_hour m_kept_chance m_kept_seed m_kept_ways m_kept_kind m_kept_by m_kept_home m_kept_aim m_kept_at0 := by
  have R0 := R
  obtain ⟨P, n, h, c, s, W, K, A, H, M, L, T, ⟨rfl, rfl, rfl, rfl, rfl, rfl, xd, xk, xa, xh, xm, xl⟩, ⟨rfl, rfl, rfl, rfl, rfl, rfl, mk, ma, mh, mm, ml⟩, rfl, S, U, V, Z⟩ := R
  obtain ⟨hP2, hP, hn, hW, hK, hH, hM, hL, hho⟩ := id T
  obtain ⟨Lt, Ht, L0, H0, Ta, sx, sm, nq⟩ := hrs T xd xk xh xm mk mh mm
  subst L0
  subst H0
  have hx : (fun o => ∃ (hr : Int32) (at2 : Nat → Int32), o = some (dw (ff (fun i => pm (fun p => !((Lt (i + 1)) p == Lt 0 p)) n == 0) 48 0), nI P, nI n, hr, m_chance, m_seed, nf W, x_now_distances, x_now_kind, x_now_a, x_now_home, x_now_aim, at2)) (fX7_round (nI P) (nI n) (nI (Ht 0)) m_chance m_seed (nf W) x_now_distances x_now_kind x_now_a x_now_home x_now_aim x_now_at) := by
    unfold fX7_round
    simp only [n1z, n0z, bo1, bo2, bo3, bo4, bo5, bo6, bo7, bo12, jo0, i10, i00, if_true, if_false, ite_self, p_become]
    refine lfh3 (Φ := fun o => ∃ (hr : Int32) (at2 : Nat → Int32), o = some (dw (ff (fun i => pm (fun p => !((Lt (i + 1)) p == Lt 0 p)) n == 0) 48 0), nI P, nI n, hr, m_chance, m_seed, nf W, x_now_distances, x_now_kind, x_now_a, x_now_home, x_now_aim, at2)) (fun i b u v => b = nI (i + 1) ∧ u = nI (Ht i) ∧ ag n v (Lt (i))) (fun i => pm (fun p => !((Lt (i + 1)) p == Lt 0 p)) n == 0) 48 ⟨rfl, rfl, xl⟩ (fun i hi qi b u v z => ?_) (fun i hi qi fi b u v z g => ?_) (fun fi b u v z g => ?_) 400 (by omega)
    · obtain ⟨rfl, rfl, z⟩ := z
      obtain ⟨af, f1, f2⟩ := sx i _ z
      have Tt := (Ta (i + 1)).lt
      have h1 := pm_4096 (Q := fun p => !((Lt (i + 1)) p == Lt 0 p)) hn
      have qi' : ¬ pm (fun p => !((Lt (i + 1)) p == Lt 0 p)) n = 0 := by simpa using qi
      refine ⟨_, _, _, ⟨rfl, rfl, f2⟩, fun g => ?_⟩
      simp only [n48 (i + 1) (by omega), show ¬ 48 < i + 1 from by omega, bo1, bo2, bo3, bo4, bo5, bo6, bo7, bo12, jo0, jo1, vlet, i10, i00, if_true, if_false, ite_self, n1z, n0z, f1, p_movedPeople hn xl f2 T.lt Tt, show (nI (pm (fun p => !((Lt (i + 1)) p == Lt 0 p)) n) = 0) = (pm (fun p => !((Lt (i + 1)) p == Lt 0 p)) n = 0) from neq (b := 0) (by omega) (by omega), qi', nI_1]
    · obtain ⟨rfl, rfl, z⟩ := z
      obtain ⟨af, f1, f2⟩ := sx i _ z
      have Tt := (Ta (i + 1)).lt
      have qi' : pm (fun p => !((Lt (i + 1)) p == Lt 0 p)) n = 0 := by simpa using qi
      refine ⟨nI (Ht (i + 1)), af, ?_⟩
      rw [fi]
      simp only [n48 (i + 1) (by omega), show ¬ 48 < i + 1 from by omega, bo1, bo2, bo3, bo4, bo5, bo6, bo7, bo12, jo0, jo1, vlet, i10, i00, if_true, if_false, ite_self, n1z, n0z, f1, p_movedPeople hn xl f2 T.lt Tt, qi', nI_0] <;> rfl
    · obtain ⟨rfl, rfl, z⟩ := z
      refine ⟨nI (Ht 48), v, ?_⟩
      rw [fi]
      exact if_pos (by decide)
  have hm : (fun o => ∃ (nw : Int32) (st sp tt : Nat → Int32), o = some (dw (ff (fun i => pm (fun p => !((Lt (i + 1)) p == Lt 0 p)) n == 0) 48 0), nw, st, sp, tt)) (fX8_round (nI P) (nI n) (nI (Ht 0)) (-1) (nf W) m_kind m_home m_aim m_at0 m_steps m_spot m_then) := by
    obtain ⟨s1, g1, g2⟩ := p_begin (hh := nI (Ht 0)) (s0 := m_spot) hn ml
    unfold fX8_round
    simp only [jo1_ite]
    simp only [n1z, n0z, bo1, bo2, bo3, bo4, bo5, bo6, bo7, bo12, jo0, i10, i00, if_true, if_false, ite_self, g1]
    refine lfh5 (Φ := fun o => ∃ (nw : Int32) (st sp tt : Nat → Int32), o = some (dw (ff (fun i => pm (fun p => !((Lt (i + 1)) p == Lt 0 p)) n == 0) 48 0), nw, st, sp, tt)) (fun i b u _ v _ => b = nI (i + 1) ∧ u = nI (Ht i) ∧ ag n v (Lt (i))) (fun i => pm (fun p => !((Lt (i + 1)) p == Lt 0 p)) n == 0) 48 ⟨rfl, rfl, g2⟩ (fun i hi qi b u s v t z => ?_) (fun i hi qi fi b u s v t z g => ?_) (fun fi b u s v t z g => ?_) 400 (by omega)
    · obtain ⟨rfl, rfl, z⟩ := z
      obtain ⟨st, sp, tt, f1, f2⟩ := sm i s _ t z
      have Tt := (Ta (i + 1)).lt
      refine ⟨_, _, st, sp, tt, ⟨rfl, rfl, f2⟩, fun g => ?_⟩
      simp only [n48 (i + 1) (by omega), show ¬ 48 < i + 1 from by omega, bo1, bo2, bo3, bo4, bo5, bo6, bo7, bo12, jo0, jo1, vlet, i10, i00, if_true, if_false, ite_self, n1z, n0z, f1]
      refine lq2 (fun j => nI (if (pm (fun p => !((Lt (i + 1)) p == Lt 0 p)) j == 0) then 1 else 0)) (fun j => nI j) n rfl rfl (fun j hj g2 => ?_) (fun g2 => ?_) 400 (by omega)
      · have h1 := Tt j hj
        have h2 := T.lt j hj
        simp only [nle (a := n) (b := j) (by omega) (by omega), show ¬ n ≤ j from by omega, bo1, bo2, bo3, bo4, bo5, bo6, bo7, bo12, jo0, jo1, vlet, i10, i00, if_true, if_false, ite_self, n1z, n0z, if_n (nin (k := j) (N := 8) (by omega) (by omega)), if_n (nin2 (k := j) (N := 8) (by omega) (by omega)), nc (n := j) (by omega), f2 j hj, ml j hj, neq (a := (Lt (i + 1)) j) (b := Lt 0 j) (by omega) (by omega), nI_1, pm_z_s, ← n_mul01, Bool.not_not, beq_iff_eq]
      · simp only [Int32.le_refl, bo1, bo2, bo3, bo4, bo5, bo6, bo7, bo12, jo0, jo1, vlet, i10, i00, if_true, if_false, ite_self, n1z, n0z, b01, qi, nI_1]
    · obtain ⟨rfl, rfl, z⟩ := z
      obtain ⟨st, sp, tt, f1, f2⟩ := sm i s _ t z
      have Tt := (Ta (i + 1)).lt
      refine ⟨nI (Ht (i + 1)), st, sp, tt, ?_⟩
      rw [fi]
      simp only [n48 (i + 1) (by omega), show ¬ 48 < i + 1 from by omega, bo1, bo2, bo3, bo4, bo5, bo6, bo7, bo12, jo0, jo1, vlet, i10, i00, if_true, if_false, ite_self, n1z, n0z, f1]
      refine lq2 (fun j => nI (if (pm (fun p => !((Lt (i + 1)) p == Lt 0 p)) j == 0) then 1 else 0)) (fun j => nI j) n rfl rfl (fun j hj g2 => ?_) (fun g2 => ?_) 400 (by omega)
      · have h1 := Tt j hj
        have h2 := T.lt j hj
        simp only [nle (a := n) (b := j) (by omega) (by omega), show ¬ n ≤ j from by omega, bo1, bo2, bo3, bo4, bo5, bo6, bo7, bo12, jo0, jo1, vlet, i10, i00, if_true, if_false, ite_self, n1z, n0z, if_n (nin (k := j) (N := 8) (by omega) (by omega)), if_n (nin2 (k := j) (N := 8) (by omega) (by omega)), nc (n := j) (by omega), f2 j hj, ml j hj, neq (a := (Lt (i + 1)) j) (b := Lt 0 j) (by omega) (by omega), nI_1, pm_z_s, ← n_mul01, Bool.not_not, beq_iff_eq]
      · simp only [Int32.le_refl, bo1, bo2, bo3, bo4, bo5, bo6, bo7, bo12, jo0, jo1, vlet, i10, i00, if_true, if_false, ite_self, n1z, n0z, b01, qi, Bool.true_eq_false] <;> rfl
    · obtain ⟨rfl, rfl, z⟩ := z
      refine ⟨nI (Ht 48), s, v, t, ?_⟩
      rw [fi]
      exact if_pos (by decide)
  obtain ⟨y1, y2, hx⟩ := hx
  obtain ⟨z1, z2, z3, z4, hm⟩ := hm
  rw [hx, hm]
  exact ⟨_, _, _, _, _, _, _, _, _, _, _, _, _, _, _, _, _, rfl, rfl, R0⟩
/-- the best so far, from -1 -/
def bwI (c : Nat → Nat) : Nat → Int32
  | 0 => -1
  | i + 1 => if nI (c i) ≤ bwI c i then bwI c i else nI (c i)
def bsI (c : Nat → Nat) : Nat → Int32
  | 0 => 0
  | i + 1 => if nI (c i) ≤ bwI c i then bsI c i else nI i
theorem bwI_s (c : Nat → Nat) (i : Nat) : bwI c (i + 1) = if nI (c i) ≤ bwI c i then bwI c i else nI (c i) := rfl
theorem bsI_s (c : Nat → Nat) (i : Nat) : bsI c (i + 1) = if nI (c i) ≤ bwI c i then bsI c i else nI i := rfl
theorem p_offer (a b x y : Int32) : fX0_offer a b x y = some (if y ≤ b then a else x, if y ≤ b then b else y) := by
  unfold fX0_offer
  by_cases e : y ≤ b
  · simp only [e, if_true]
  · simp only [e, if_false]
theorem ff_s (p : Nat → Bool) (k : Nat) : ff p (k + 1) 0 = (match ff p k 0 with | some q => some q | none => if p k then some k else none) := by
  rw [ff_succ, Nat.zero_add]
  cases ff p k 0 <;> rfl
theorem tt_when {x_now_places : Int32} {x_now_people : Int32} {x_now_hour : Int32} {x_now_chance : Int32} {x_now_seed : Int32} {x_now_ways : Nat → Int32} {x_now_distances : Nat → Int32} {x_now_kind : Nat → Int32} {x_now_a : Nat → Int32} {x_now_home : Nat → Int32} {x_now_aim : Nat → Int32} {x_now_at : Nat → Int32} {x_kept_places : Int32} {x_kept_people : Int32} {x_kept_hour : Int32} {x_kept_chance : Int32} {x_kept_seed : Int32} {x_kept_ways : Nat → Int32} {x_kept_distances : Nat → Int32} {x_kept_kind : Nat → Int32} {x_kept_a : Nat → Int32} {x_kept_home : Nat → Int32} {x_kept_aim : Nat → Int32} {x_kept_at : Nat → Int32} {x_isKept : Int32} {x_shelves_c : Nat → Int32} {x_shelves_z : Nat → Int32} {x_shelves_e : Nat → Nat → Int64} {x_tape_size : Int32} {x_tape_bytes : Nat → Int32} {x_refusals : Nat → Int32} {m_places : Int32} {m_people : Int32} {m_hour : Int32} {m_chance : Int32} {m_seed : Int32} {m_ways : Nat → Int32} {m_kind : Nat → Int32} {m_by : Nat → Int32} {m_home : Nat → Int32} {m_aim : Nat → Int32} {m_at0 : Nat → Int32} {m_shelf : Nat → Int32} {m_rowSort : Nat → Int32} {m_rowSize : Nat → Int32} {m_rows : Nat → Nat → Int64} {m_shown : Nat → Int32} {m_tape : Nat → Int32} {m_tapeSize : Int32} {m_refused : Nat → Int32} {m_gone : Int32} {m_kept_places : Int32} {m_kept_people : Int32} {m_kept_hour : Int32} {m_kept_chance : Int32} {m_kept_seed : Int32} {m_kept_ways : Nat → Int32} {m_kept_kind : Nat → Int32} {m_kept_by : Nat → Int32} {m_kept_home : Nat → Int32} {m_kept_aim : Nat → Int32} {m_kept_at0 : Nat → Int32} {kb : Bool} (x_future_places : Int32) (x_future_people : Int32) (x_future_hour : Int32) (x_future_chance : Int32) (x_future_seed : Int32) (x_future_ways : Nat → Int32) (x_future_distances : Nat → Int32) (x_future_kind : Nat → Int32) (x_future_a : Nat → Int32) (x_future_home : Nat → Int32) (x_future_aim : Nat → Int32) (x_future_at : Nat → Int32) (x_choice_found : Int32) (x_choice_worth : Int32) (m_now : Int32) (m_steps : Nat → Int32) (m_spot : Nat → Int32) (m_then : Nat → Int32) (p0 : Int32) (R : Rel kb x_now_places x_now_people x_now_hour x_now_chance x_now_seed x_now_ways x_now_distances x_now_kind x_now_a x_now_home x_now_aim x_now_at x_kept_places x_kept_people x_kept_hour x_kept_chance x_kept_seed x_kept_ways x_kept_distances x_kept_kind x_kept_a x_kept_home x_kept_aim x_kept_at x_isKept x_shelves_c x_shelves_z x_shelves_e x_tape_size x_tape_bytes x_refusals m_places m_people m_hour m_chance m_seed m_ways m_kind m_by m_home m_aim m_at0 m_shelf m_rowSort m_rowSize m_rows m_shown m_tape m_tapeSize m_refused m_gone m_kept_places m_kept_people m_kept_hour m_kept_chance m_kept_seed m_kept_ways m_kept_kind m_kept_by m_kept_home m_kept_aim m_kept_at0) : ∃ (r : Int32) (y_future_places : Int32) (y_future_people : Int32) (y_future_hour : Int32) (y_future_chance : Int32) (y_future_seed : Int32) (y_future_ways : Nat → Int32) (y_future_distances : Nat → Int32) (y_future_kind : Nat → Int32) (y_future_a : Nat → Int32) (y_future_home : Nat → Int32) (y_future_aim : Nat → Int32) (y_future_at : Nat → Int32) (y_choice_found : Int32) (y_choice_worth : Int32) (y_refusals : Nat → Int32) (z_now : Int32) (z_refused : Nat → Int32) (z_steps : Nat → Int32) (z_spot : Nat → Int32) (z_then : Nat → Int32), fX7_when x_now_places x_now_people x_now_hour x_now_chance x_now_seed x_now_ways x_now_distances x_now_kind x_now_a x_now_home x_now_aim x_now_at x_future_places x_future_people x_future_hour x_future_chance x_future_seed x_future_ways x_future_distances x_future_kind x_future_a x_future_home x_future_aim x_future_at x_choice_found x_choice_worth x_refusals p0 = some (r, y_future_places, y_future_people, y_future_hour, y_future_chance, y_future_seed, y_future_ways, y_future_distances, y_future_kind, y_future_a, y_future_home, y_future_aim, y_future_at, y_choice_found, y_choice_worth, y_refusals) ∧ fX8_when m_places m_people m_hour m_now m_gone m_refused m_ways m_kind m_home m_aim m_at0 m_steps m_spot m_then p0 = some (r, z_now, z_refused, z_steps, z_spot, z_then) ∧ Rel kb x_now_places x_now_people x_now_hour x_now_chance x_now_seed x_now_ways x_now_distances x_now_kind x_now_a x_now_home x_now_aim x_now_at x_kept_places x_kept_people x_kept_hour x_kept_chance x_kept_seed x_kept_ways x_kept_distances x_kept_kind x_kept_a x_kept_home x_kept_aim x_kept_at x_isKept x_shelves_c x_shelves_z x_shelves_e x_tape_size x_tape_bytes y_refusals m_places m_people m_hour m_chance m_seed m_ways m_kind m_by m_home m_aim m_at0 m_shelf m_rowSort m_rowSize m_rows m_shown m_tape m_tapeSize z_refused m_gone m_kept_places m_kept_people m_kept_hour m_kept_chance m_kept_seed m_kept_ways m_kept_kind m_kept_by m_kept_home m_kept_aim m_kept_at0 := by
  have R0 := R
  obtain ⟨P, n, h, c, s, W, K, A, H, M, L, T, ⟨rfl, rfl, rfl, rfl, rfl, rfl, xd, xk, xa, xh, xm, xl⟩, ⟨rfl, rfl, rfl, rfl, rfl, rfl, mk, ma, mh, mm, ml⟩, rfl, S, U, V, Z⟩ := R
  obtain ⟨hP2, hP, hn, hW, hK, hH, hM, hL, hho⟩ := id T
  obtain ⟨Lt, Ht, L0, H0, Ta, sx, sm, nq⟩ := hrs T xd xk xh xm mk mh mm
  subst L0
  subst H0
  obtain ⟨x2, m2, e1, e2, q⟩ := rf2 V
  have hm : p0 = 0 ∨ p0 = 1 → (fun o => ∃ (nw : Int32) (st sp tt : Nat → Int32), o = some (if p0 = 0 then bsI (fun i => pc (ltm P (dkm (fun p => dk (K p)) (Lt (i)) n)) 12) 49 else dv (ff (fun i => pm (fun p => !((Lt (i + 1)) p == (Lt (i)) p)) n == 0) 49 0), nw, m_refused, st, sp, tt)) (fX8_when (nI P) (nI n) (nI (Ht 0)) m_now (-1) m_refused (nf W) m_kind m_home m_aim m_at0 m_steps m_spot m_then p0) := by
    intro hp0
    obtain ⟨s1, g1, g2⟩ := p_begin (hh := nI (Ht 0)) (s0 := m_spot) hn ml
    have hin : fX8_in p0.toInt64 (0 : Int64) (1 : Int64) = some 1 := by
      rcases hp0 with rfl | rfl
      · exact in01
      · exact in11
    unfold fX8_when
    simp only [jo1_ite]
    simp only [n1z, n0z, bo1, bo2, bo3, bo4, bo5, bo6, bo7, bo12, jo0, i10, i00, if_true, if_false, ite_self, g1, hin]
    refine lph8 (Φ := fun o => ∃ (nw : Int32) (st sp tt : Nat → Int32), o = some (if p0 = 0 then bsI (fun i => pc (ltm P (dkm (fun p => dk (K p)) (Lt (i)) n)) 12) 49 else dv (ff (fun i => pm (fun p => !((Lt (i + 1)) p == (Lt (i)) p)) n == 0) 49 0), nw, m_refused, st, sp, tt)) (fun i a b c d u _ v _ => a = bsI (fun i => pc (ltm P (dkm (fun p => dk (K p)) (Lt (i)) n)) 12) i ∧ b = bwI (fun i => pc (ltm P (dkm (fun p => dk (K p)) (Lt (i)) n)) 12) i ∧ c = dv (ff (fun i => pm (fun p => !((Lt (i + 1)) p == (Lt (i)) p)) n == 0) i 0) ∧ d = nI i ∧ u = nI (Ht i) ∧ ag n v (Lt (i))) 49 ⟨rfl, rfl, rfl, rfl, rfl, g2⟩ (fun i hi a b c d u s v t z => ?_) (fun a b c d u s v t z g => ?_) 400 (by omega)
    · obtain ⟨rfl, rfl, rfl, rfl, rfl, z⟩ := z
      have Ti := Ta i
      have lm := p_mlight0 hP hn mk z hK Ti.lt
      have h12 := lt_lt (P := P) (m := (dkm (fun p => dk (K p)) (Lt (i)) n)) hP
      have hq := pm_4096 (Q := fun p => !((Lt (i + 1)) p == (Lt (i)) p)) hn
      cases e : ff (fun i => pm (fun p => !((Lt (i + 1)) p == (Lt (i)) p)) n == 0) i 0 with
      | none =>
        obtain ⟨st0, g0⟩ := p_goers (s0 := s) Ti mk mh mm z
        have g0' : fX8_goers (nI P) (nI n) (nI (Ht i)) (-1) (nf W) m_kind m_home m_aim s v = some (nI (pm (fun p => !((Lt (i + 1)) p == (Lt (i)) p)) n), st0) := by rw [nq i]; exact g0
        obtain ⟨st, sp, tt, f1, f2⟩ := sm i st0 _ t z
        refine ⟨_, _, _, _, _, st, sp, tt, ⟨rfl, rfl, rfl, rfl, rfl, f2⟩, fun g => ?_⟩
        rw [ff_s, e]
        simp only [n48 i (by omega), show ¬ 48 < i from by omega, bo1, bo2, bo3, bo4, bo5, bo6, bo7, bo12, jo0, jo1, vlet, i10, i00, if_true, if_false, ite_self, n1z, n0z, jo2, lm, p_bits _ h12, dv, mm1, g0', f1, bsI_s, bwI_s, nI_1, show (nI (pm (fun p => !((Lt (i + 1)) p == (Lt (i)) p)) n) = 0) = (pm (fun p => !((Lt (i + 1)) p == (Lt (i)) p)) n = 0) from neq (b := 0) (by omega) (by omega)]
        by_cases e3 : pm (fun p => !((Lt (i + 1)) p == (Lt (i)) p)) n = 0
        · simp only [e3, bo1, bo2, bo3, bo4, bo5, bo6, bo7, bo12, jo0, jo1, vlet, i10, i00, if_true, if_false, ite_self, n1z, n0z, beq_self_eq_true]
        · have e4 : (pm (fun p => !((Lt (i + 1)) p == (Lt (i)) p)) n == 0) = false := by simpa using e3
          simp only [e3, e4, bo1, bo2, bo3, bo4, bo5, bo6, bo7, bo12, jo0, jo1, vlet, i10, i00, if_true, if_false, ite_self, n1z, n0z, Bool.false_eq_true]
      | some r =>
        have hr := (ff_some e).2.1
        obtain ⟨st, sp, tt, f1, f2⟩ := sm i s _ t z
        refine ⟨_, _, _, _, _, st, sp, tt, ⟨rfl, rfl, rfl, rfl, rfl, f2⟩, fun g => ?_⟩
        rw [ff_s, e]
        simp only [n48 i (by omega), show ¬ 48 < i from by omega, bo1, bo2, bo3, bo4, bo5, bo6, bo7, bo12, jo0, jo1, vlet, i10, i00, if_true, if_false, ite_self, n1z, n0z, jo2, lm, p_bits _ h12, dv, nm1 (k := r) (by omega), f1, bsI_s, bwI_s, nI_1]
    · obtain ⟨za, zb, zc, zd, ze, z⟩ := z
      rw [za, zb, zc, zd, ze]
      refine ⟨nI (Ht 49), s, v, t, ?_⟩
      rw [if_pos (show (48 : Int32) < nI 49 from by decide)]
      by_cases e : p0 = 0
      · rw [if_pos e, if_pos e]
      · rw [if_neg e, if_neg e]
  by_cases e0 : p0 = 0
  · have hx : (fun o => ∃ (hr : Int32) (at2 : Nat → Int32) (cw : Int32), o = some (bsI (fun i => pc (ltm P (dkm (fun p => dk (K p)) (Lt (i)) n)) 12) 49, nI P, nI n, hr, m_chance, m_seed, nf W, x_now_distances, x_now_kind, x_now_a, x_now_home, x_now_aim, at2, bsI (fun i => pc (ltm P (dkm (fun p => dk (K p)) (Lt (i)) n)) 12) 49, cw)) (fX7_brightestHour (nI P) (nI n) (nI (Ht 0)) m_chance m_seed (nf W) x_now_distances x_now_kind x_now_a x_now_home x_now_aim x_now_at) := by
      unfold fX7_brightestHour fX0_begin
      simp only [n1z, n0z, bo1, bo2, bo3, bo4, bo5, bo6, bo7, bo12, jo0, i10, i00, if_true, if_false, ite_self, p_become]
      refine lph5 (Φ := fun o => ∃ (hr : Int32) (at2 : Nat → Int32) (cw : Int32), o = some (bsI (fun i => pc (ltm P (dkm (fun p => dk (K p)) (Lt (i)) n)) 12) 49, nI P, nI n, hr, m_chance, m_seed, nf W, x_now_distances, x_now_kind, x_now_a, x_now_home, x_now_aim, at2, bsI (fun i => pc (ltm P (dkm (fun p => dk (K p)) (Lt (i)) n)) 12) 49, cw)) (fun i b u v x y => b = nI i ∧ u = nI (Ht i) ∧ ag n v (Lt (i)) ∧ x = bsI (fun i => pc (ltm P (dkm (fun p => dk (K p)) (Lt (i)) n)) 12) i ∧ y = bwI (fun i => pc (ltm P (dkm (fun p => dk (K p)) (Lt (i)) n)) 12) i) 49 ⟨rfl, rfl, xl, rfl, rfl⟩ (fun i hi b u v x y z => ?_) (fun b u v x y z g => ?_) 400 (by omega)
      · obtain ⟨rfl, rfl, z, rfl, rfl⟩ := z
        obtain ⟨af, f1, f2⟩ := sx i _ z
        have Ti := Ta i
        refine ⟨_, _, _, _, _, ⟨rfl, rfl, f2, rfl, rfl⟩, fun g => ?_⟩
        simp only [n48 i (by omega), show ¬ 48 < i from by omega, bo1, bo2, bo3, bo4, bo5, bo6, bo7, bo12, jo0, jo1, vlet, i10, i00, if_true, if_false, ite_self, n1z, n0z, f1, p_shiningCount hP hn xk z hK Ti.lt, p_offer, bsI_s, bwI_s, nI_1]
      · obtain ⟨za, zb, z, zc, zd⟩ := z
        rw [za, zb, zc, zd]
        exact ⟨_, _, _, if_pos (show (48 : Int32) < nI 49 from by decide)⟩
    obtain ⟨y1, y2, y3, hx⟩ := hx
    obtain ⟨z1, z2, z3, z4, hm⟩ := hm (Or.inl e0)
    rw [hm, if_pos e0]
    unfold fX7_when
    simp only [e0, if_true, hx, bo15]
    exact ⟨_, _, _, _, _, _, _, _, _, _, _, _, _, _, _, _, _, _, _, _, _, rfl, rfl, R0⟩
  · by_cases e3 : p0 = 1
    · have hx : (fun o => ∃ (hr : Int32) (at2 : Nat → Int32), o = some (dv (ff (fun i => pm (fun p => !((Lt (i + 1)) p == (Lt (i)) p)) n == 0) 49 0), nI P, nI n, hr, m_chance, m_seed, nf W, x_now_distances, x_now_kind, x_now_a, x_now_home, x_now_aim, at2)) (fX7_stillHour (nI P) (nI n) (nI (Ht 0)) m_chance m_seed (nf W) x_now_distances x_now_kind x_now_a x_now_home x_now_aim x_now_at) := by
        unfold fX7_stillHour
        simp only [n1z, n0z, bo1, bo2, bo3, bo4, bo5, bo6, bo7, bo12, jo0, i10, i00, if_true, if_false, ite_self, p_become]
        refine lfh3 (Φ := fun o => ∃ (hr : Int32) (at2 : Nat → Int32), o = some (dv (ff (fun i => pm (fun p => !((Lt (i + 1)) p == (Lt (i)) p)) n == 0) 49 0), nI P, nI n, hr, m_chance, m_seed, nf W, x_now_distances, x_now_kind, x_now_a, x_now_home, x_now_aim, at2)) (fun i b u v => b = nI i ∧ u = nI (Ht i) ∧ ag n v (Lt (i))) (fun i => pm (fun p => !((Lt (i + 1)) p == (Lt (i)) p)) n == 0) 49 ⟨rfl, rfl, xl⟩ (fun i hi qi b u v z => ?_) (fun i hi qi fi b u v z g => ?_) (fun fi b u v z g => ?_) 400 (by omega)
        · obtain ⟨rfl, rfl, z⟩ := z
          obtain ⟨af, f1, f2⟩ := sx i _ z
          refine ⟨_, _, _, ⟨rfl, rfl, f2⟩, fun g => ?_⟩
          simp only [n48 i (by omega), show ¬ 48 < i from by omega, bo1, bo2, bo3, bo4, bo5, bo6, bo7, bo12, jo0, jo1, vlet, i10, i00, if_true, if_false, ite_self, n1z, n0z, f1, b01, wnt_pm, qi, Bool.not_false, Bool.true_eq_false, nI_1]
        · obtain ⟨rfl, rfl, z⟩ := z
          obtain ⟨af, f1, f2⟩ := sx i _ z
          refine ⟨nI (Ht (i + 1)), af, ?_⟩
          rw [fi]
          simp only [n48 i (by omega), show ¬ 48 < i from by omega, bo1, bo2, bo3, bo4, bo5, bo6, bo7, bo12, jo0, jo1, vlet, i10, i00, if_true, if_false, ite_self, n1z, n0z, f1, b01, wnt_pm, qi, Bool.not_true] <;> rfl
        · obtain ⟨rfl, rfl, z⟩ := z
          refine ⟨nI (Ht 49), v, ?_⟩
          rw [fi]
          exact if_pos (by decide)
      obtain ⟨y1, y2, hx⟩ := hx
      obtain ⟨z1, z2, z3, z4, hm⟩ := hm (Or.inr e3)
      rw [hm, if_neg e0]
      unfold fX7_when
      simp only [e0, e3, i10, if_false, if_true, hx, bo13]
      exact ⟨_, _, _, _, _, _, _, _, _, _, _, _, _, _, _, _, _, _, _, _, _, rfl, rfl, R0⟩
    · have hin : fX8_in p0.toInt64 (0 : Int64) (1 : Int64) = some 0 := by
        rcases cIn 0 1 0 1 (by decide) (by decide) (by omega) (by omega) p0 with ⟨w, -, hw, hw1, c2⟩ | ⟨c1, c2⟩
        · rcases (show w = 0 ∨ w = 1 by omega) with rfl | rfl
          · exact absurd hw1 e0
          · exact absurd hw1 e3
        · exact c2
      unfold fX7_when fX8_when
      simp only [e0, e3, hin, e1, e2, n1z, n0z, bo1, bo2, bo3, bo4, bo5, bo6, bo7, bo12, jo0, i10, i00, if_true, if_false, ite_self]
      exact ⟨_, _, _, _, _, _, _, _, _, _, _, _, _, _, _, _, _, _, _, _, _, rfl, rfl, R0.rf q⟩
theorem upd_upd (f : Nat → Int32) (k : Nat) (a b : Int32) : upd (upd f k a) k b = upd f k b := by
  funext p
  by_cases e : p = k
  · subst e; rw [pk_us, pk_us]
  · rw [pk_un e, pk_un e, pk_un e]
theorem tok.put {P n h : Nat} {W K H M L : Nat → Nat} (T : tok P n W K H M L h) (p j : Nat) (hj : j < P) : tok P n W K H M (nup L p j) h := by
  obtain ⟨hP2, hP, hn, hW, hK, hH, hM, hL, hho⟩ := T
  exact ⟨hP2, hP, hn, hW, hK, hH, hM, nup_lt hL hj, hho⟩
theorem tt_best {x_now_places : Int32} {x_now_people : Int32} {x_now_hour : Int32} {x_now_chance : Int32} {x_now_seed : Int32} {x_now_ways : Nat → Int32} {x_now_distances : Nat → Int32} {x_now_kind : Nat → Int32} {x_now_a : Nat → Int32} {x_now_home : Nat → Int32} {x_now_aim : Nat → Int32} {x_now_at : Nat → Int32} {x_kept_places : Int32} {x_kept_people : Int32} {x_kept_hour : Int32} {x_kept_chance : Int32} {x_kept_seed : Int32} {x_kept_ways : Nat → Int32} {x_kept_distances : Nat → Int32} {x_kept_kind : Nat → Int32} {x_kept_a : Nat → Int32} {x_kept_home : Nat → Int32} {x_kept_aim : Nat → Int32} {x_kept_at : Nat → Int32} {x_isKept : Int32} {x_shelves_c : Nat → Int32} {x_shelves_z : Nat → Int32} {x_shelves_e : Nat → Nat → Int64} {x_tape_size : Int32} {x_tape_bytes : Nat → Int32} {x_refusals : Nat → Int32} {m_places : Int32} {m_people : Int32} {m_hour : Int32} {m_chance : Int32} {m_seed : Int32} {m_ways : Nat → Int32} {m_kind : Nat → Int32} {m_by : Nat → Int32} {m_home : Nat → Int32} {m_aim : Nat → Int32} {m_at0 : Nat → Int32} {m_shelf : Nat → Int32} {m_rowSort : Nat → Int32} {m_rowSize : Nat → Int32} {m_rows : Nat → Nat → Int64} {m_shown : Nat → Int32} {m_tape : Nat → Int32} {m_tapeSize : Int32} {m_refused : Nat → Int32} {m_gone : Int32} {m_kept_places : Int32} {m_kept_people : Int32} {m_kept_hour : Int32} {m_kept_chance : Int32} {m_kept_seed : Int32} {m_kept_ways : Nat → Int32} {m_kept_kind : Nat → Int32} {m_kept_by : Nat → Int32} {m_kept_home : Nat → Int32} {m_kept_aim : Nat → Int32} {m_kept_at0 : Nat → Int32} {kb : Bool} (x_future_places : Int32) (x_future_people : Int32) (x_future_hour : Int32) (x_future_chance : Int32) (x_future_seed : Int32) (x_future_ways : Nat → Int32) (x_future_distances : Nat → Int32) (x_future_kind : Nat → Int32) (x_future_a : Nat → Int32) (x_future_home : Nat → Int32) (x_future_aim : Nat → Int32) (x_future_at : Nat → Int32) (x_choice_found : Int32) (x_choice_worth : Int32) (m_now : Int32) (m_steps : Nat → Int32) (m_spot : Nat → Int32) (m_then : Nat → Int32) (p0 : Int32) (p1 : Int32) (R : Rel kb x_now_places x_now_people x_now_hour x_now_chance x_now_seed x_now_ways x_now_distances x_now_kind x_now_a x_now_home x_now_aim x_now_at x_kept_places x_kept_people x_kept_hour x_kept_chance x_kept_seed x_kept_ways x_kept_distances x_kept_kind x_kept_a x_kept_home x_kept_aim x_kept_at x_isKept x_shelves_c x_shelves_z x_shelves_e x_tape_size x_tape_bytes x_refusals m_places m_people m_hour m_chance m_seed m_ways m_kind m_by m_home m_aim m_at0 m_shelf m_rowSort m_rowSize m_rows m_shown m_tape m_tapeSize m_refused m_gone m_kept_places m_kept_people m_kept_hour m_kept_chance m_kept_seed m_kept_ways m_kept_kind m_kept_by m_kept_home m_kept_aim m_kept_at0) : ∃ (r : Int32) (y_future_places : Int32) (y_future_people : Int32) (y_future_hour : Int32) (y_future_chance : Int32) (y_future_seed : Int32) (y_future_ways : Nat → Int32) (y_future_distances : Nat → Int32) (y_future_kind : Nat → Int32) (y_future_a : Nat → Int32) (y_future_home : Nat → Int32) (y_future_aim : Nat → Int32) (y_future_at : Nat → Int32) (y_choice_found : Int32) (y_choice_worth : Int32) (y_refusals : Nat → Int32) (z_now : Int32) (z_refused : Nat → Int32) (z_at0 : Nat → Int32) (z_steps : Nat → Int32) (z_spot : Nat → Int32) (z_then : Nat → Int32), fX7_best x_now_places x_now_people x_now_hour x_now_chance x_now_seed x_now_ways x_now_distances x_now_kind x_now_a x_now_home x_now_aim x_now_at x_future_places x_future_people x_future_hour x_future_chance x_future_seed x_future_ways x_future_distances x_future_kind x_future_a x_future_home x_future_aim x_future_at x_choice_found x_choice_worth x_refusals p0 p1 = some (r, y_future_places, y_future_people, y_future_hour, y_future_chance, y_future_seed, y_future_ways, y_future_distances, y_future_kind, y_future_a, y_future_home, y_future_aim, y_future_at, y_choice_found, y_choice_worth, y_refusals) ∧ fX8_best m_places m_people m_hour m_now m_gone m_refused m_ways m_kind m_home m_aim m_at0 m_steps m_spot m_then p0 p1 = some (r, z_now, z_refused, z_at0, z_steps, z_spot, z_then) ∧ Rel kb x_now_places x_now_people x_now_hour x_now_chance x_now_seed x_now_ways x_now_distances x_now_kind x_now_a x_now_home x_now_aim x_now_at x_kept_places x_kept_people x_kept_hour x_kept_chance x_kept_seed x_kept_ways x_kept_distances x_kept_kind x_kept_a x_kept_home x_kept_aim x_kept_at x_isKept x_shelves_c x_shelves_z x_shelves_e x_tape_size x_tape_bytes y_refusals m_places m_people m_hour m_chance m_seed m_ways m_kind m_by m_home m_aim z_at0 m_shelf m_rowSort m_rowSize m_rows m_shown m_tape m_tapeSize z_refused m_gone m_kept_places m_kept_people m_kept_hour m_kept_chance m_kept_seed m_kept_ways m_kept_kind m_kept_by m_kept_home m_kept_aim m_kept_at0 := by
  have R0 := R
  obtain ⟨P, n, h, c, s, W, K, A, H, M, L, T, ⟨rfl, rfl, rfl, rfl, rfl, rfl, xd, xk, xa, xh, xm, xl⟩, ⟨rfl, rfl, rfl, rfl, rfl, rfl, mk, ma, mh, mm, ml⟩, rfl, S, U, V, Z⟩ := R
  obtain ⟨hP2, hP, hn, hW, hK, hH, hM, hL, hho⟩ := id T
  obtain ⟨x2, m2, e1, e2, q⟩ := rf2 V
  rcases cPerson n hn p0 with ⟨p, hp, rfl, a1, a2⟩ | ⟨a1, a2⟩
  · rcases cTime p1 with ⟨t, ht, rfl, b1, b2⟩ | ⟨b1, b2⟩
    · have hx : (fun o => ∃ f1 f2 f3 f4 f5 f6 f7 f8 f9 f10 f11 f12 f13 f14, o = some (bsI (fun j => pc (ltm P (dkm (fun p => dk (K p)) (lc W P n K H M (fun p => dk (K p)) h (nup L p j) t) n)) 12) P, f1, f2, f3, f4, f5, f6, f7, f8, f9, f10, f11, f12, f13, f14, x_refusals)) (fX7_best (nI P) (nI n) (nI h) m_chance m_seed (nf W) x_now_distances x_now_kind x_now_a x_now_home x_now_aim x_now_at x_future_places x_future_people x_future_hour x_future_chance x_future_seed x_future_ways x_future_distances x_future_kind x_future_a x_future_home x_future_aim x_future_at x_choice_found x_choice_worth x_refusals (nI p) (nI t)) := by
        unfold fX7_best fX0_begin
        simp only [a1, b1, n1z, n0z, bo1, bo2, bo3, bo4, bo5, bo6, bo7, bo12, jo0, i10, i00, if_true, if_false, ite_self, p_become]
        refine lph15 (Φ := fun o => ∃ f1 f2 f3 f4 f5 f6 f7 f8 f9 f10 f11 f12 f13 f14, o = some (bsI (fun j => pc (ltm P (dkm (fun p => dk (K p)) (lc W P n K H M (fun p => dk (K p)) h (nup L p j) t) n)) 12) P, f1, f2, f3, f4, f5, f6, f7, f8, f9, f10, f11, f12, f13, f14, x_refusals)) (fun i b _ _ _ _ _ _ _ _ _ _ _ _ x y => b = nI i ∧ x = bsI (fun j => pc (ltm P (dkm (fun p => dk (K p)) (lc W P n K H M (fun p => dk (K p)) h (nup L p j) t) n)) 12) i ∧ y = bwI (fun j => pc (ltm P (dkm (fun p => dk (K p)) (lc W P n K H M (fun p => dk (K p)) h (nup L p j) t) n)) 12) i) P ⟨rfl, rfl, rfl⟩ (fun i hi b f1 f2 f3 f4 f5 f6 f7 f8 f9 f10 f11 f12 x y z => ?_) (fun b f1 f2 f3 f4 f5 f6 f7 f8 f9 f10 f11 f12 x y z g => ?_) 400 (by omega)
        · obtain ⟨rfl, rfl, rfl⟩ := z
          have T' := T.put p i hi
          obtain ⟨af, u1, u2⟩ := p_passHours T' xd xk xh xm (ag_up xl p i) ht
          have Ti := T'.at (fun p => dk (K p)) t
          refine ⟨_, nI P, nI n, nI (hc h t), m_chance, m_seed, nf W, x_now_distances, x_now_kind, x_now_a, x_now_home, x_now_aim, af, _, _, ⟨rfl, rfl, rfl⟩, fun g => ?_⟩
          simp only [nle (a := P) (b := i) (by omega) (by omega), show ¬ P ≤ i from by omega, bo1, bo2, bo3, bo4, bo5, bo6, bo7, bo12, jo0, jo1, vlet, i10, i00, if_true, if_false, ite_self, n1z, n0z, if_n (nin (k := p) (N := 8) (by omega) (by omega)), if_n (nin2 (k := p) (N := 8) (by omega) (by omega)), nc (n := p) (by omega), u1, p_shiningCount hP hn xk u2 hK Ti.lt, p_offer, bsI_s, bwI_s, nI_1]
        · obtain ⟨rfl, rfl, rfl⟩ := z
          exact ⟨_, _, _, _, _, _, _, _, _, _, _, _, _, _, if_pos (Int32.le_refl _)⟩
      have hm : (fun o => ∃ (nw : Int32) (st sp tt : Nat → Int32), o = some (bsI (fun j => pc (ltm P (dkm (fun p => dk (K p)) (lc W P n K H M (fun p => dk (K p)) h (nup L p j) t) n)) 12) P, nw, m_refused, m_at0, st, sp, tt)) (fX8_best (nI P) (nI n) (nI h) m_now (-1) m_refused (nf W) m_kind m_home m_aim m_at0 m_steps m_spot m_then (nI p) (nI t)) := by
        unfold fX8_best
        simp only [jo1_ite]
        simp only [a2, b2, n1z, n0z, bo1, bo2, bo3, bo4, bo5, bo6, bo7, bo12, jo0, i10, i00, if_true, if_false, ite_self, vlet, if_n (nin (k := p) (N := 8) (by omega) (by omega)), if_n (nin2 (k := p) (N := 8) (by omega) (by omega)), nc (n := p) (by omega)]
        refine lph8 (Φ := fun o => ∃ (nw : Int32) (st sp tt : Nat → Int32), o = some (bsI (fun j => pc (ltm P (dkm (fun p => dk (K p)) (lc W P n K H M (fun p => dk (K p)) h (nup L p j) t) n)) 12) P, nw, m_refused, m_at0, st, sp, tt)) (fun i x y b _ a0 _ _ _ => b = nI i ∧ x = bsI (fun j => pc (ltm P (dkm (fun p => dk (K p)) (lc W P n K H M (fun p => dk (K p)) h (nup L p j) t) n)) 12) i ∧ y = bwI (fun j => pc (ltm P (dkm (fun p => dk (K p)) (lc W P n K H M (fun p => dk (K p)) h (nup L p j) t) n)) 12) i ∧ ∀ v, upd a0 p v = upd m_at0 p v) P ⟨rfl, rfl, rfl, fun _ => rfl⟩ (fun i hi x y b u a0 s v t1 z => ?_) (fun x y b u a0 s v t1 z g => ?_) 400 (by omega)
        · obtain ⟨rfl, rfl, rfl, z⟩ := z
          have T' := T.put p i hi
          obtain ⟨st, sp, tt, u1, u2⟩ := p_goesOn0 (s0 := s) (p0 := v) (t0 := t1) T' mk mh mm (ag_up ml p i) ht
          have Ti := T'.at (fun p => dk (K p)) t
          refine ⟨_, _, _, nI (hc h t), upd a0 p (nI i), st, sp, tt, ⟨rfl, rfl, rfl, fun v => by rw [upd_upd]; exact z v⟩, fun g => ?_⟩
          simp only [nle (a := P) (b := i) (by omega) (by omega), show ¬ P ≤ i from by omega, bo1, bo2, bo3, bo4, bo5, bo6, bo7, bo12, jo0, jo1, vlet, i10, i00, if_true, if_false, ite_self, n1z, n0z, z, u1, p_mlight0 hP hn mk u2 hK Ti.lt, p_bits _ (lt_lt hP), bsI_s, bwI_s, nI_1]
        · obtain ⟨rfl, rfl, rfl, z⟩ := z
          refine ⟨u, s, v, t1, ?_⟩
          rw [if_pos (Int32.le_refl _), z, upd_id]
      obtain ⟨f1, f2, f3, f4, f5, f6, f7, f8, f9, f10, f11, f12, f13, f14, hx⟩ := hx
      obtain ⟨z1, z2, z3, z4, hm⟩ := hm
      rw [hx, hm]
      exact ⟨_, _, _, _, _, _, _, _, _, _, _, _, _, _, _, _, _, _, _, _, _, _, rfl, rfl, R0⟩
    · unfold fX7_best fX8_best
      simp only [a1, a2, b1, b2, e1, e2, n1z, n0z, bo1, bo2, bo3, bo4, bo5, bo6, bo7, bo12, jo0, i10, i00, if_true, if_false, ite_self]
      exact ⟨_, _, _, _, _, _, _, _, _, _, _, _, _, _, _, _, _, _, _, _, _, _, rfl, rfl, R0.rf q⟩
  · unfold fX7_best fX8_best
    simp only [a1, a2, e1, e2, n1z, n0z, bo1, bo2, bo3, bo4, bo5, bo6, bo7, bo12, jo0, i10, i00, if_true, if_false, ite_self]
    exact ⟨_, _, _, _, _, _, _, _, _, _, _, _, _, _, _, _, _, _, _, _, _, _, rfl, rfl, R0.rf q⟩
