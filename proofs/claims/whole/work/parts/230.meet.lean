/-! ===== who is where, who meets whom ===== -/
theorem n48 (i : Nat) (h : i ≤ 1000) : ((48 : Int32) < nI i) = (48 < i) := nlt (a := 48) (by omega) (by omega)
theorem jo1_ite {α ρ : Type} {c : Prop} [Decidable c] (F : α → Option ρ) (a b : α) : jo1 F (fun k => if c then k a else k b) = F (if c then a else b) := by
  unfold jo1
  by_cases h : c
  · simp only [h, if_true]
  · simp only [h, if_false]
theorem n_if1 (b : Bool) : (if b = true then (1 : Int32) else 0) = nI (if b then 1 else 0) := by cases b <;> rfl
theorem c2People (n : Nat) (hn : n ≤ 8) (x y : Int32) : (∃ p q, p < n ∧ q < n ∧ p ≠ q ∧ x = nI p ∧ y = nI q ∧ fX7_areTwoPeople (nI n) x y = some 1 ∧ fX8_isPerson (nI n) x = some 1 ∧ fX8_isPerson (nI n) y = some 1 ∧ (x = y) = False) ∨ (fX7_areTwoPeople (nI n) x y = some 0 ∧ (fX8_isPerson (nI n) x = some 0 ∨ (fX8_isPerson (nI n) x = some 1 ∧ (fX8_isPerson (nI n) y = some 0 ∨ (fX8_isPerson (nI n) y = some 1 ∧ (x = y) = True))))) := by
  unfold fX7_areTwoPeople
  rcases cPerson n hn x with ⟨p, hp, rfl, a1, a2⟩ | ⟨a1, a2⟩
  · rcases cPerson n hn y with ⟨q, hq, rfl, b1, b2⟩ | ⟨b1, b2⟩
    · simp only [a1, a2, b1, b2, n1z, n0z, bo1, bo2, bo3, bo4, bo5, bo6, bo7, bo12, jo0, i10, i00, if_true, if_false, ite_self, neq (a := p) (b := q) (by omega) (by omega)]
      by_cases e : p = q
      · right; simp [e]
      · left; exact ⟨p, q, hp, hq, e, rfl, rfl, by simp [e], trivial, trivial, by simp [e]⟩
    · right
      simp only [a1, b1, n1z, n0z, bo1, bo2, bo3, bo4, bo5, bo6, bo7, bo12, jo0, i10, i00, if_true, if_false, ite_self]
      exact ⟨trivial, Or.inr ⟨a2, Or.inl b2⟩⟩
  · right
    simp only [a1, n1z, n0z, bo1, bo2, bo3, bo4, bo5, bo6, bo7, bo12, jo0, i10, i00, if_true, if_false, ite_self]
    exact ⟨trivial, Or.inl a2⟩
theorem tt_arrives {x_now_places : Int32} {x_now_people : Int32} {x_now_hour : Int32} {x_now_chance : Int32} {x_now_seed : Int32} {x_now_ways : Nat → Int32} {x_now_distances : Nat → Int32} {x_now_kind : Nat → Int32} {x_now_a : Nat → Int32} {x_now_home : Nat → Int32} {x_now_aim : Nat → Int32} {x_now_at : Nat → Int32} {x_kept_places : Int32} {x_kept_people : Int32} {x_kept_hour : Int32} {x_kept_chance : Int32} {x_kept_seed : Int32} {x_kept_ways : Nat → Int32} {x_kept_distances : Nat → Int32} {x_kept_kind : Nat → Int32} {x_kept_a : Nat → Int32} {x_kept_home : Nat → Int32} {x_kept_aim : Nat → Int32} {x_kept_at : Nat → Int32} {x_isKept : Int32} {x_shelves_c : Nat → Int32} {x_shelves_z : Nat → Int32} {x_shelves_e : Nat → Nat → Int64} {x_tape_size : Int32} {x_tape_bytes : Nat → Int32} {x_refusals : Nat → Int32} {m_places : Int32} {m_people : Int32} {m_hour : Int32} {m_chance : Int32} {m_seed : Int32} {m_ways : Nat → Int32} {m_kind : Nat → Int32} {m_by : Nat → Int32} {m_home : Nat → Int32} {m_aim : Nat → Int32} {m_at0 : Nat → Int32} {m_shelf : Nat → Int32} {m_rowSort : Nat → Int32} {m_rowSize : Nat → Int32} {m_rows : Nat → Nat → Int64} {m_shown : Nat → Int32} {m_tape : Nat → Int32} {m_tapeSize : Int32} {m_refused : Nat → Int32} {m_gone : Int32} {m_kept_places : Int32} {m_kept_people : Int32} {m_kept_hour : Int32} {m_kept_chance : Int32} {m_kept_seed : Int32} {m_kept_ways : Nat → Int32} {m_kept_kind : Nat → Int32} {m_kept_by : Nat → Int32} {m_kept_home : Nat → Int32} {m_kept_aim : Nat → Int32} {m_kept_at0 : Nat → Int32} {kb : Bool} (x_future_places : Int32) (x_future_people : Int32) (x_future_hour : Int32) (x_future_chance : Int32) (x_future_seed : Int32) (x_future_ways : Nat → Int32) (x_future_distances : Nat → Int32) (x_future_kind : Nat → Int32) (x_future_a : Nat → Int32) (x_future_home : Nat → Int32) (x_future_aim : Nat → Int32) (x_future_at : Nat → Int32) (m_now : Int32) (m_steps : Nat → Int32) (m_spot : Nat → Int32) (m_then : Nat → Int32) (p0 : Int32) (p1 : Int32) (R : Rel kb x_now_places x_now_people x_now_hour x_now_chance x_now_seed x_now_ways x_now_distances x_now_kind x_now_a x_now_home x_now_aim x_now_at x_kept_places x_kept_people x_kept_hour x_kept_chance x_kept_seed x_kept_ways x_kept_distances x_kept_kind x_kept_a x_kept_home x_kept_aim x_kept_at x_isKept x_shelves_c x_shelves_z x_shelves_e x_tape_size x_tape_bytes x_refusals m_places m_people m_hour m_chance m_seed m_ways m_kind m_by m_home m_aim m_at0 m_shelf m_rowSort m_rowSize m_rows m_shown m_tape m_tapeSize m_refused m_gone m_kept_places m_kept_people m_kept_hour m_kept_chance m_kept_seed m_kept_ways m_kept_kind m_kept_by m_kept_home m_kept_aim m_kept_at0) : ∃ (r : Int32) (y_future_places : Int32) (y_future_people : Int32) (y_future_hour : Int32) (y_future_chance : Int32) (y_future_seed : Int32) (y_future_ways : Nat → Int32) (y_future_distances : Nat → Int32) (y_future_kind : Nat → Int32) (y_future_a : Nat → Int32) (y_future_home : Nat → Int32) (y_future_aim : Nat → Int32) (y_future_at : Nat → Int32) (y_refusals : Nat → Int32) (z_now : Int32) (z_refused : Nat → Int32) (z_steps : Nat → Int32) (z_spot : Nat → Int32) (z_then : Nat → Int32), fX7_arrives x_now_places x_now_people x_now_hour x_now_chance x_now_seed x_now_ways x_now_distances x_now_kind x_now_a x_now_home x_now_aim x_now_at x_future_places x_future_people x_future_hour x_future_chance x_future_seed x_future_ways x_future_distances x_future_kind x_future_a x_future_home x_future_aim x_future_at x_refusals p0 p1 = some (r, y_future_places, y_future_people, y_future_hour, y_future_chance, y_future_seed, y_future_ways, y_future_distances, y_future_kind, y_future_a, y_future_home, y_future_aim, y_future_at, y_refusals) ∧ fX8_arrives m_places m_people m_hour m_now m_gone m_refused m_ways m_kind m_home m_aim m_at0 m_steps m_spot m_then p0 p1 = some (r, z_now, z_refused, z_steps, z_spot, z_then) ∧ Rel kb x_now_places x_now_people x_now_hour x_now_chance x_now_seed x_now_ways x_now_distances x_now_kind x_now_a x_now_home x_now_aim x_now_at x_kept_places x_kept_people x_kept_hour x_kept_chance x_kept_seed x_kept_ways x_kept_distances x_kept_kind x_kept_a x_kept_home x_kept_aim x_kept_at x_isKept x_shelves_c x_shelves_z x_shelves_e x_tape_size x_tape_bytes y_refusals m_places m_people m_hour m_chance m_seed m_ways m_kind m_by m_home m_aim m_at0 m_shelf m_rowSort m_rowSize m_rows m_shown m_tape m_tapeSize z_refused m_gone m_kept_places m_kept_people m_kept_hour m_kept_chance m_kept_seed m_kept_ways m_kept_kind m_kept_by m_kept_home m_kept_aim m_kept_at0 := by
  have R0 := R
  obtain ⟨P, n, h, c, s, W, K, A, H, M, L, T, ⟨rfl, rfl, rfl, rfl, rfl, rfl, xd, xk, xa, xh, xm, xl⟩, ⟨rfl, rfl, rfl, rfl, rfl, rfl, mk, ma, mh, mm, ml⟩, rfl, S, U, V, Z⟩ := R
  obtain ⟨hP2, hP, hn, hW, hK, hH, hM, hL, hho⟩ := id T
  obtain ⟨Lt, Ht, L0, H0, Ta, sx, sm, nq⟩ := hrs T xd xk xh xm mk mh mm
  subst L0
  subst H0
  obtain ⟨x2, m2, e1, e2, q⟩ := rf2 V
  rcases cPerson n hn p0 with ⟨p, hp, rfl, a1, a2⟩ | ⟨a1, a2⟩
  · rcases cPlace P hP p1 with ⟨k, hk, rfl, b1, b2⟩ | ⟨b1, b2⟩
    · have hx : (fun o => ∃ (hr : Int32) (at2 : Nat → Int32), o = some (dv (ff (fun i => (Lt (i)) p == k) 49 0), nI P, nI n, hr, m_chance, m_seed, nf W, x_now_distances, x_now_kind, x_now_a, x_now_home, x_now_aim, at2, x_refusals)) (fX7_arrives (nI P) (nI n) (nI (Ht 0)) m_chance m_seed (nf W) x_now_distances x_now_kind x_now_a x_now_home x_now_aim x_now_at x_future_places x_future_people x_future_hour x_future_chance x_future_seed x_future_ways x_future_distances x_future_kind x_future_a x_future_home x_future_aim x_future_at x_refusals (nI p) (nI k)) := by
        unfold fX7_arrives
        simp only [a1, b1, n1z, n0z, bo1, bo2, bo3, bo4, bo5, bo6, bo7, bo12, jo0, i10, i00, if_true, if_false, ite_self, p_become]
        refine lfh3 (Φ := fun o => ∃ (hr : Int32) (at2 : Nat → Int32), o = some (dv (ff (fun i => (Lt (i)) p == k) 49 0), nI P, nI n, hr, m_chance, m_seed, nf W, x_now_distances, x_now_kind, x_now_a, x_now_home, x_now_aim, at2, x_refusals)) (fun i b u v => b = nI i ∧ u = nI (Ht i) ∧ ag n v (Lt (i))) (fun i => (Lt (i)) p == k) 49 ⟨rfl, rfl, xl⟩ (fun i hi qi b u v z => ?_) (fun i hi qi fi b u v z g => ?_) (fun fi b u v z g => ?_) 400 (by omega)
        · obtain ⟨rfl, rfl, z⟩ := z
          obtain ⟨af, f1, f2⟩ := sx i _ z
          have Ti := (Ta i).lt p hp
          refine ⟨_, _, _, ⟨rfl, rfl, f2⟩, fun g => ?_⟩
          simp only [n48 i (by omega), show ¬ 48 < i from by omega, bo1, bo2, bo3, bo4, bo5, bo6, bo7, bo12, jo0, jo1, vlet, i10, i00, if_true, if_false, ite_self, n1z, n0z, if_n (nin (k := p) (N := 8) (by omega) (by omega)), if_n (nin2 (k := p) (N := 8) (by omega) (by omega)), nc (n := p) (by omega), z p hp, neq (a := (Lt (i)) p) (b := k) (by omega) (by omega), show ¬ (Lt (i)) p = k from by simpa using qi, f1, nI_1]
        · obtain ⟨rfl, rfl, z⟩ := z
          have Ti := (Ta i).lt p hp
          refine ⟨nI (Ht i), v, ?_⟩
          rw [fi]
          simp only [n48 i (by omega), show ¬ 48 < i from by omega, bo1, bo2, bo3, bo4, bo5, bo6, bo7, bo12, jo0, jo1, vlet, i10, i00, if_true, if_false, ite_self, n1z, n0z, if_n (nin (k := p) (N := 8) (by omega) (by omega)), if_n (nin2 (k := p) (N := 8) (by omega) (by omega)), nc (n := p) (by omega), z p hp, neq (a := (Lt (i)) p) (b := k) (by omega) (by omega), show (Lt (i)) p = k from by simpa using qi] <;> rfl
        · obtain ⟨rfl, rfl, z⟩ := z
          refine ⟨nI (Ht 49), v, ?_⟩
          rw [fi]
          exact if_pos (by decide)
      have hm : (fun o => ∃ (nw : Int32) (st sp tt : Nat → Int32), o = some (dv (ff (fun i => (Lt (i)) p == k) 49 0), nw, m_refused, st, sp, tt)) (fX8_arrives (nI P) (nI n) (nI (Ht 0)) m_now (-1) m_refused (nf W) m_kind m_home m_aim m_at0 m_steps m_spot m_then (nI p) (nI k)) := by
        obtain ⟨s1, g1, g2⟩ := p_begin (hh := nI (Ht 0)) (s0 := m_spot) hn ml
        unfold fX8_arrives
        simp only [a2, b2, n1z, n0z, bo1, bo2, bo3, bo4, bo5, bo6, bo7, bo12, jo0, i10, i00, if_true, if_false, ite_self, g1]
        refine lfh5 (Φ := fun o => ∃ (nw : Int32) (st sp tt : Nat → Int32), o = some (dv (ff (fun i => (Lt (i)) p == k) 49 0), nw, m_refused, st, sp, tt)) (fun i b u _ v _ => b = nI i ∧ u = nI (Ht i) ∧ ag n v (Lt (i))) (fun i => (Lt (i)) p == k) 49 ⟨rfl, rfl, g2⟩ (fun i hi qi b u s v t z => ?_) (fun i hi qi fi b u s v t z g => ?_) (fun fi b u s v t z g => ?_) 400 (by omega)
        · obtain ⟨rfl, rfl, z⟩ := z
          obtain ⟨st, sp, tt, f1, f2⟩ := sm i s _ t z
          have Ti := (Ta i).lt p hp
          refine ⟨_, _, st, sp, tt, ⟨rfl, rfl, f2⟩, fun g => ?_⟩
          simp only [n48 i (by omega), show ¬ 48 < i from by omega, bo1, bo2, bo3, bo4, bo5, bo6, bo7, bo12, jo0, jo1, vlet, i10, i00, if_true, if_false, ite_self, n1z, n0z, if_n (nin (k := p) (N := 8) (by omega) (by omega)), if_n (nin2 (k := p) (N := 8) (by omega) (by omega)), nc (n := p) (by omega), z p hp, neq (a := (Lt (i)) p) (b := k) (by omega) (by omega), show ¬ (Lt (i)) p = k from by simpa using qi, f1, nI_1]
        · obtain ⟨rfl, rfl, z⟩ := z
          have Ti := (Ta i).lt p hp
          refine ⟨nI (Ht i), s, v, t, ?_⟩
          rw [fi]
          simp only [n48 i (by omega), show ¬ 48 < i from by omega, bo1, bo2, bo3, bo4, bo5, bo6, bo7, bo12, jo0, jo1, vlet, i10, i00, if_true, if_false, ite_self, n1z, n0z, if_n (nin (k := p) (N := 8) (by omega) (by omega)), if_n (nin2 (k := p) (N := 8) (by omega) (by omega)), nc (n := p) (by omega), z p hp, neq (a := (Lt (i)) p) (b := k) (by omega) (by omega), show (Lt (i)) p = k from by simpa using qi] <;> rfl
        · obtain ⟨rfl, rfl, z⟩ := z
          refine ⟨nI (Ht 49), s, v, t, ?_⟩
          rw [fi]
          exact if_pos (by decide)
      obtain ⟨y1, y2, hx⟩ := hx
      obtain ⟨z1, z2, z3, z4, hm⟩ := hm
      rw [hx, hm]
      exact ⟨_, _, _, _, _, _, _, _, _, _, _, _, _, _, _, _, _, _, _, rfl, rfl, R0⟩
    · unfold fX7_arrives fX8_arrives
      simp only [a1, a2, b1, b2, e1, e2, n1z, n0z, bo1, bo2, bo3, bo4, bo5, bo6, bo7, bo12, jo0, i10, i00, if_true, if_false, ite_self]
      exact ⟨_, _, _, _, _, _, _, _, _, _, _, _, _, _, _, _, _, _, _, rfl, rfl, R0.rf q⟩
  · unfold fX7_arrives fX8_arrives
    simp only [a1, a2, e1, e2, n1z, n0z, bo1, bo2, bo3, bo4, bo5, bo6, bo7, bo12, jo0, i10, i00, if_true, if_false, ite_self]
    exact ⟨_, _, _, _, _, _, _, _, _, _, _, _, _, _, _, _, _, _, _, rfl, rfl, R0.rf q⟩
theorem tt_meet {x_now_places : Int32} {x_now_people : Int32} {x_now_hour : Int32} {x_now_chance : Int32} {x_now_seed : Int32} {x_now_ways : Nat → Int32} {x_now_distances : Nat → Int32} {x_now_kind : Nat → Int32} {x_now_a : Nat → Int32} {x_now_home : Nat → Int32} {x_now_aim : Nat → Int32} {x_now_at : Nat → Int32} {x_kept_places : Int32} {x_kept_people : Int32} {x_kept_hour : Int32} {x_kept_chance : Int32} {x_kept_seed : Int32} {x_kept_ways : Nat → Int32} {x_kept_distances : Nat → Int32} {x_kept_kind : Nat → Int32} {x_kept_a : Nat → Int32} {x_kept_home : Nat → Int32} {x_kept_aim : Nat → Int32} {x_kept_at : Nat → Int32} {x_isKept : Int32} {x_shelves_c : Nat → Int32} {x_shelves_z : Nat → Int32} {x_shelves_e : Nat → Nat → Int64} {x_tape_size : Int32} {x_tape_bytes : Nat → Int32} {x_refusals : Nat → Int32} {m_places : Int32} {m_people : Int32} {m_hour : Int32} {m_chance : Int32} {m_seed : Int32} {m_ways : Nat → Int32} {m_kind : Nat → Int32} {m_by : Nat → Int32} {m_home : Nat → Int32} {m_aim : Nat → Int32} {m_at0 : Nat → Int32} {m_shelf : Nat → Int32} {m_rowSort : Nat → Int32} {m_rowSize : Nat → Int32} {m_rows : Nat → Nat → Int64} {m_shown : Nat → Int32} {m_tape : Nat → Int32} {m_tapeSize : Int32} {m_refused : Nat → Int32} {m_gone : Int32} {m_kept_places : Int32} {m_kept_people : Int32} {m_kept_hour : Int32} {m_kept_chance : Int32} {m_kept_seed : Int32} {m_kept_ways : Nat → Int32} {m_kept_kind : Nat → Int32} {m_kept_by : Nat → Int32} {m_kept_home : Nat → Int32} {m_kept_aim : Nat → Int32} {m_kept_at0 : Nat → Int32} {kb : Bool} (x_future_places : Int32) (x_future_people : Int32) (x_future_hour : Int32) (x_future_chance : Int32) (x_future_seed : Int32) (x_future_ways : Nat → Int32) (x_future_distances : Nat → Int32) (x_future_kind : Nat → Int32) (x_future_a : Nat → Int32) (x_future_home : Nat → Int32) (x_future_aim : Nat → Int32) (x_future_at : Nat → Int32) (m_now : Int32) (m_steps : Nat → Int32) (m_spot : Nat → Int32) (m_then : Nat → Int32) (p0 : Int32) (p1 : Int32) (R : Rel kb x_now_places x_now_people x_now_hour x_now_chance x_now_seed x_now_ways x_now_distances x_now_kind x_now_a x_now_home x_now_aim x_now_at x_kept_places x_kept_people x_kept_hour x_kept_chance x_kept_seed x_kept_ways x_kept_distances x_kept_kind x_kept_a x_kept_home x_kept_aim x_kept_at x_isKept x_shelves_c x_shelves_z x_shelves_e x_tape_size x_tape_bytes x_refusals m_places m_people m_hour m_chance m_seed m_ways m_kind m_by m_home m_aim m_at0 m_shelf m_rowSort m_rowSize m_rows m_shown m_tape m_tapeSize m_refused m_gone m_kept_places m_kept_people m_kept_hour m_kept_chance m_kept_seed m_kept_ways m_kept_kind m_kept_by m_kept_home m_kept_aim m_kept_at0) : ∃ (r : Int32) (y_future_places : Int32) (y_future_people : Int32) (y_future_hour : Int32) (y_future_chance : Int32) (y_future_seed : Int32) (y_future_ways : Nat → Int32) (y_future_distances : Nat → Int32) (y_future_kind : Nat → Int32) (y_future_a : Nat → Int32) (y_future_home : Nat → Int32) (y_future_aim : Nat → Int32) (y_future_at : Nat → Int32) (y_refusals : Nat → Int32) (z_now : Int32) (z_refused : Nat → Int32) (z_steps : Nat → Int32) (z_spot : Nat → Int32) (z_then : Nat → Int32), fX7_meet x_now_places x_now_people x_now_hour x_now_chance x_now_seed x_now_ways x_now_distances x_now_kind x_now_a x_now_home x_now_aim x_now_at x_future_places x_future_people x_future_hour x_future_chance x_future_seed x_future_ways x_future_distances x_future_kind x_future_a x_future_home x_future_aim x_future_at x_refusals p0 p1 = some (r, y_future_places, y_future_people, y_future_hour, y_future_chance, y_future_seed, y_future_ways, y_future_distances, y_future_kind, y_future_a, y_future_home, y_future_aim, y_future_at, y_refusals) ∧ fX8_meet m_places m_people m_hour m_now m_gone m_refused m_ways m_kind m_home m_aim m_at0 m_steps m_spot m_then p0 p1 = some (r, z_now, z_refused, z_steps, z_spot, z_then) ∧ Rel kb x_now_places x_now_people x_now_hour x_now_chance x_now_seed x_now_ways x_now_distances x_now_kind x_now_a x_now_home x_now_aim x_now_at x_kept_places x_kept_people x_kept_hour x_kept_chance x_kept_seed x_kept_ways x_kept_distances x_kept_kind x_kept_a x_kept_home x_kept_aim x_kept_at x_isKept x_shelves_c x_shelves_z x_shelves_e x_tape_size x_tape_bytes y_refusals m_places m_people m_hour m_chance m_seed m_ways m_kind m_by m_home m_aim m_at0 m_shelf m_rowSort m_rowSize m_rows m_shown m_tape m_tapeSize z_refused m_gone m_kept_places m_kept_people m_kept_hour m_kept_chance m_kept_seed m_kept_ways m_kept_kind m_kept_by m_kept_home m_kept_aim m_kept_at0 := by
  have R0 := R
  obtain ⟨P, n, h, c, s, W, K, A, H, M, L, T, ⟨rfl, rfl, rfl, rfl, rfl, rfl, xd, xk, xa, xh, xm, xl⟩, ⟨rfl, rfl, rfl, rfl, rfl, rfl, mk, ma, mh, mm, ml⟩, rfl, S, U, V, Z⟩ := R
  obtain ⟨hP2, hP, hn, hW, hK, hH, hM, hL, hho⟩ := id T
  obtain ⟨Lt, Ht, L0, H0, Ta, sx, sm, nq⟩ := hrs T xd xk xh xm mk mh mm
  subst L0
  subst H0
  obtain ⟨x2, m2, e1, e2, q⟩ := rf2 V
  rcases c2People n hn p0 p1 with ⟨p, r, hp, hr, hpr, rfl, rfl, a1, a2, a3, a4⟩ | ⟨a1, bad⟩
  · have hx : (fun o => ∃ (hr : Int32) (at2 : Nat → Int32), o = some (dv (ff (fun i => (Lt (i)) p == (Lt (i)) r) 49 0), nI P, nI n, hr, m_chance, m_seed, nf W, x_now_distances, x_now_kind, x_now_a, x_now_home, x_now_aim, at2, x_refusals)) (fX7_meet (nI P) (nI n) (nI (Ht 0)) m_chance m_seed (nf W) x_now_distances x_now_kind x_now_a x_now_home x_now_aim x_now_at x_future_places x_future_people x_future_hour x_future_chance x_future_seed x_future_ways x_future_distances x_future_kind x_future_a x_future_home x_future_aim x_future_at x_refusals (nI p) (nI r)) := by
      unfold fX7_meet
      simp only [a1, n1z, n0z, bo1, bo2, bo3, bo4, bo5, bo6, bo7, bo12, jo0, i10, i00, if_true, if_false, ite_self, p_become]
      refine lfh3 (Φ := fun o => ∃ (hr : Int32) (at2 : Nat → Int32), o = some (dv (ff (fun i => (Lt (i)) p == (Lt (i)) r) 49 0), nI P, nI n, hr, m_chance, m_seed, nf W, x_now_distances, x_now_kind, x_now_a, x_now_home, x_now_aim, at2, x_refusals)) (fun i b u v => b = nI i ∧ u = nI (Ht i) ∧ ag n v (Lt (i))) (fun i => (Lt (i)) p == (Lt (i)) r) 49 ⟨rfl, rfl, xl⟩ (fun i hi qi b u v z => ?_) (fun i hi qi fi b u v z g => ?_) (fun fi b u v z g => ?_) 400 (by omega)
      · obtain ⟨rfl, rfl, z⟩ := z
        obtain ⟨af, f1, f2⟩ := sx i _ z
        have Ti := (Ta i).lt p hp
        have Tj := (Ta i).lt r hr
        refine ⟨_, _, _, ⟨rfl, rfl, f2⟩, fun g => ?_⟩
        simp only [n48 i (by omega), show ¬ 48 < i from by omega, bo1, bo2, bo3, bo4, bo5, bo6, bo7, bo12, jo0, jo1, vlet, i10, i00, if_true, if_false, ite_self, n1z, n0z, if_n (nin (k := p) (N := 8) (by omega) (by omega)), if_n (nin2 (k := p) (N := 8) (by omega) (by omega)), nc (n := p) (by omega), if_n (nin (k := r) (N := 8) (by omega) (by omega)), if_n (nin2 (k := r) (N := 8) (by omega) (by omega)), nc (n := r) (by omega), z p hp, z r hr, neq (a := (Lt (i)) p) (b := (Lt (i)) r) (by omega) (by omega), show ¬ (Lt (i)) p = (Lt (i)) r from by simpa using qi, f1, nI_1]
      · obtain ⟨rfl, rfl, z⟩ := z
        refine ⟨nI (Ht i), v, ?_⟩
        rw [fi]
        simp only [n48 i (by omega), show ¬ 48 < i from by omega, bo1, bo2, bo3, bo4, bo5, bo6, bo7, bo12, jo0, jo1, vlet, i10, i00, if_true, if_false, ite_self, n1z, n0z, if_n (nin (k := p) (N := 8) (by omega) (by omega)), if_n (nin2 (k := p) (N := 8) (by omega) (by omega)), nc (n := p) (by omega), if_n (nin (k := r) (N := 8) (by omega) (by omega)), if_n (nin2 (k := r) (N := 8) (by omega) (by omega)), nc (n := r) (by omega), z p hp, z r hr, show (Lt (i)) p = (Lt (i)) r from by simpa using qi] <;> rfl
      · obtain ⟨rfl, rfl, z⟩ := z
        refine ⟨nI (Ht 49), v, ?_⟩
        rw [fi]
        exact if_pos (by decide)
    have hm : (fun o => ∃ (nw : Int32) (st sp tt : Nat → Int32), o = some (dv (ff (fun i => (Lt (i)) p == (Lt (i)) r) 49 0), nw, m_refused, st, sp, tt)) (fX8_meet (nI P) (nI n) (nI (Ht 0)) m_now (-1) m_refused (nf W) m_kind m_home m_aim m_at0 m_steps m_spot m_then (nI p) (nI r)) := by
      obtain ⟨s1, g1, g2⟩ := p_begin (hh := nI (Ht 0)) (s0 := m_spot) hn ml
      unfold fX8_meet
      simp only [a2, a3, a4, n1z, n0z, bo1, bo2, bo3, bo4, bo5, bo6, bo7, bo12, jo0, i10, i00, if_true, if_false, ite_self, g1]
      refine lfh5 (Φ := fun o => ∃ (nw : Int32) (st sp tt : Nat → Int32), o = some (dv (ff (fun i => (Lt (i)) p == (Lt (i)) r) 49 0), nw, m_refused, st, sp, tt)) (fun i b u _ v _ => b = nI i ∧ u = nI (Ht i) ∧ ag n v (Lt (i))) (fun i => (Lt (i)) p == (Lt (i)) r) 49 ⟨rfl, rfl, g2⟩ (fun i hi qi b u s v t z => ?_) (fun i hi qi fi b u s v t z g => ?_) (fun fi b u s v t z g => ?_) 400 (by omega)
      · obtain ⟨rfl, rfl, z⟩ := z
        obtain ⟨st, sp, tt, f1, f2⟩ := sm i s _ t z
        have Ti := (Ta i).lt p hp
        have Tj := (Ta i).lt r hr
        refine ⟨_, _, st, sp, tt, ⟨rfl, rfl, f2⟩, fun g => ?_⟩
        simp only [n48 i (by omega), show ¬ 48 < i from by omega, bo1, bo2, bo3, bo4, bo5, bo6, bo7, bo12, jo0, jo1, vlet, i10, i00, if_true, if_false, ite_self, n1z, n0z, if_n (nin (k := p) (N := 8) (by omega) (by omega)), if_n (nin2 (k := p) (N := 8) (by omega) (by omega)), nc (n := p) (by omega), if_n (nin (k := r) (N := 8) (by omega) (by omega)), if_n (nin2 (k := r) (N := 8) (by omega) (by omega)), nc (n := r) (by omega), z p hp, z r hr, neq (a := (Lt (i)) p) (b := (Lt (i)) r) (by omega) (by omega), show ¬ (Lt (i)) p = (Lt (i)) r from by simpa using qi, f1, nI_1]
      · obtain ⟨rfl, rfl, z⟩ := z
        refine ⟨nI (Ht i), s, v, t, ?_⟩
        rw [fi]
        simp only [n48 i (by omega), show ¬ 48 < i from by omega, bo1, bo2, bo3, bo4, bo5, bo6, bo7, bo12, jo0, jo1, vlet, i10, i00, if_true, if_false, ite_self, n1z, n0z, if_n (nin (k := p) (N := 8) (by omega) (by omega)), if_n (nin2 (k := p) (N := 8) (by omega) (by omega)), nc (n := p) (by omega), if_n (nin (k := r) (N := 8) (by omega) (by omega)), if_n (nin2 (k := r) (N := 8) (by omega) (by omega)), nc (n := r) (by omega), z p hp, z r hr, show (Lt (i)) p = (Lt (i)) r from by simpa using qi] <;> rfl
      · obtain ⟨rfl, rfl, z⟩ := z
        refine ⟨nI (Ht 49), s, v, t, ?_⟩
        rw [fi]
        exact if_pos (by decide)
    obtain ⟨y1, y2, hx⟩ := hx
    obtain ⟨z1, z2, z3, z4, hm⟩ := hm
    rw [hx, hm]
    exact ⟨_, _, _, _, _, _, _, _, _, _, _, _, _, _, _, _, _, _, _, rfl, rfl, R0⟩
  · unfold fX7_meet fX8_meet
    rcases bad with a2 | ⟨a2, a3 | ⟨a3, a4⟩⟩
    · simp only [a1, a2, e1, e2, n1z, n0z, bo1, bo2, bo3, bo4, bo5, bo6, bo7, bo12, jo0, i10, i00, if_true, if_false, ite_self]
      exact ⟨_, _, _, _, _, _, _, _, _, _, _, _, _, _, _, _, _, _, _, rfl, rfl, R0.rf q⟩
    · simp only [a1, a2, a3, e1, e2, n1z, n0z, bo1, bo2, bo3, bo4, bo5, bo6, bo7, bo12, jo0, i10, i00, if_true, if_false, ite_self]
      exact ⟨_, _, _, _, _, _, _, _, _, _, _, _, _, _, _, _, _, _, _, rfl, rfl, R0.rf q⟩
    · simp only [a1, a2, a3, a4, e1, e2, n1z, n0z, bo1, bo2, bo3, bo4, bo5, bo6, bo7, bo12, jo0, i10, i00, if_true, if_false, ite_self]
      exact ⟨_, _, _, _, _, _, _, _, _, _, _, _, _, _, _, _, _, _, _, rfl, rfl, R0.rf q⟩
theorem tt_seen {x_now_places : Int32} {x_now_people : Int32} {x_now_hour : Int32} {x_now_chance : Int32} {x_now_seed : Int32} {x_now_ways : Nat → Int32} {x_now_distances : Nat → Int32} {x_now_kind : Nat → Int32} {x_now_a : Nat → Int32} {x_now_home : Nat → Int32} {x_now_aim : Nat → Int32} {x_now_at : Nat → Int32} {x_kept_places : Int32} {x_kept_people : Int32} {x_kept_hour : Int32} {x_kept_chance : Int32} {x_kept_seed : Int32} {x_kept_ways : Nat → Int32} {x_kept_distances : Nat → Int32} {x_kept_kind : Nat → Int32} {x_kept_a : Nat → Int32} {x_kept_home : Nat → Int32} {x_kept_aim : Nat → Int32} {x_kept_at : Nat → Int32} {x_isKept : Int32} {x_shelves_c : Nat → Int32} {x_shelves_z : Nat → Int32} {x_shelves_e : Nat → Nat → Int64} {x_tape_size : Int32} {x_tape_bytes : Nat → Int32} {x_refusals : Nat → Int32} {m_places : Int32} {m_people : Int32} {m_hour : Int32} {m_chance : Int32} {m_seed : Int32} {m_ways : Nat → Int32} {m_kind : Nat → Int32} {m_by : Nat → Int32} {m_home : Nat → Int32} {m_aim : Nat → Int32} {m_at0 : Nat → Int32} {m_shelf : Nat → Int32} {m_rowSort : Nat → Int32} {m_rowSize : Nat → Int32} {m_rows : Nat → Nat → Int64} {m_shown : Nat → Int32} {m_tape : Nat → Int32} {m_tapeSize : Int32} {m_refused : Nat → Int32} {m_gone : Int32} {m_kept_places : Int32} {m_kept_people : Int32} {m_kept_hour : Int32} {m_kept_chance : Int32} {m_kept_seed : Int32} {m_kept_ways : Nat → Int32} {m_kept_kind : Nat → Int32} {m_kept_by : Nat → Int32} {m_kept_home : Nat → Int32} {m_kept_aim : Nat → Int32} {m_kept_at0 : Nat → Int32} {kb : Bool} (x_future_places : Int32) (x_future_people : Int32) (x_future_hour : Int32) (x_future_chance : Int32) (x_future_seed : Int32) (x_future_ways : Nat → Int32) (x_future_distances : Nat → Int32) (x_future_kind : Nat → Int32) (x_future_a : Nat → Int32) (x_future_home : Nat → Int32) (x_future_aim : Nat → Int32) (x_future_at : Nat → Int32) (m_now : Int32) (m_steps : Nat → Int32) (m_spot : Nat → Int32) (m_then : Nat → Int32) (p0 : Int32) (p1 : Int32) (R : Rel kb x_now_places x_now_people x_now_hour x_now_chance x_now_seed x_now_ways x_now_distances x_now_kind x_now_a x_now_home x_now_aim x_now_at x_kept_places x_kept_people x_kept_hour x_kept_chance x_kept_seed x_kept_ways x_kept_distances x_kept_kind x_kept_a x_kept_home x_kept_aim x_kept_at x_isKept x_shelves_c x_shelves_z x_shelves_e x_tape_size x_tape_bytes x_refusals m_places m_people m_hour m_chance m_seed m_ways m_kind m_by m_home m_aim m_at0 m_shelf m_rowSort m_rowSize m_rows m_shown m_tape m_tapeSize m_refused m_gone m_kept_places m_kept_people m_kept_hour m_kept_chance m_kept_seed m_kept_ways m_kept_kind m_kept_by m_kept_home m_kept_aim m_kept_at0) : ∃ (r : Int32) (y_future_places : Int32) (y_future_people : Int32) (y_future_hour : Int32) (y_future_chance : Int32) (y_future_seed : Int32) (y_future_ways : Nat → Int32) (y_future_distances : Nat → Int32) (y_future_kind : Nat → Int32) (y_future_a : Nat → Int32) (y_future_home : Nat → Int32) (y_future_aim : Nat → Int32) (y_future_at : Nat → Int32) (y_refusals : Nat → Int32) (z_now : Int32) (z_refused : Nat → Int32) (z_steps : Nat → Int32) (z_spot : Nat → Int32) (z_then : Nat → Int32), fX7_seen x_now_places x_now_people x_now_hour x_now_chance x_now_seed x_now_ways x_now_distances x_now_kind x_now_a x_now_home x_now_aim x_now_at x_future_places x_future_people x_future_hour x_future_chance x_future_seed x_future_ways x_future_distances x_future_kind x_future_a x_future_home x_future_aim x_future_at x_refusals p0 p1 = some (r, y_future_places, y_future_people, y_future_hour, y_future_chance, y_future_seed, y_future_ways, y_future_distances, y_future_kind, y_future_a, y_future_home, y_future_aim, y_future_at, y_refusals) ∧ fX8_seen m_places m_people m_hour m_now m_gone m_refused m_ways m_kind m_home m_aim m_at0 m_steps m_spot m_then p0 p1 = some (r, z_now, z_refused, z_steps, z_spot, z_then) ∧ Rel kb x_now_places x_now_people x_now_hour x_now_chance x_now_seed x_now_ways x_now_distances x_now_kind x_now_a x_now_home x_now_aim x_now_at x_kept_places x_kept_people x_kept_hour x_kept_chance x_kept_seed x_kept_ways x_kept_distances x_kept_kind x_kept_a x_kept_home x_kept_aim x_kept_at x_isKept x_shelves_c x_shelves_z x_shelves_e x_tape_size x_tape_bytes y_refusals m_places m_people m_hour m_chance m_seed m_ways m_kind m_by m_home m_aim m_at0 m_shelf m_rowSort m_rowSize m_rows m_shown m_tape m_tapeSize z_refused m_gone m_kept_places m_kept_people m_kept_hour m_kept_chance m_kept_seed m_kept_ways m_kept_kind m_kept_by m_kept_home m_kept_aim m_kept_at0 := by
  have R0 := R
  obtain ⟨P, n, h, c, s, W, K, A, H, M, L, T, ⟨rfl, rfl, rfl, rfl, rfl, rfl, xd, xk, xa, xh, xm, xl⟩, ⟨rfl, rfl, rfl, rfl, rfl, rfl, mk, ma, mh, mm, ml⟩, rfl, S, U, V, Z⟩ := R
  obtain ⟨hP2, hP, hn, hW, hK, hH, hM, hL, hho⟩ := id T
  obtain ⟨Lt, Ht, L0, H0, Ta, sx, sm, nq⟩ := hrs T xd xk xh xm mk mh mm
  subst L0
  subst H0
  obtain ⟨x2, m2, e1, e2, q⟩ := rf2 V
  rcases cPerson n hn p0 with ⟨p, hp, rfl, a1, a2⟩ | ⟨a1, a2⟩
  · rcases cTime p1 with ⟨k, hk, rfl, b1, b2⟩ | ⟨b1, b2⟩
    · have T0 := T.lt p hp
      have hx : (fun o => ∃ (hr : Int32) (at2 : Nat → Int32), o = some (nI (ork (fun i => 2 ^ (Lt (i)) p) k), nI P, nI n, hr, m_chance, m_seed, nf W, x_now_distances, x_now_kind, x_now_a, x_now_home, x_now_aim, at2, x_refusals)) (fX7_seen (nI P) (nI n) (nI (Ht 0)) m_chance m_seed (nf W) x_now_distances x_now_kind x_now_a x_now_home x_now_aim x_now_at x_future_places x_future_people x_future_hour x_future_chance x_future_seed x_future_ways x_future_distances x_future_kind x_future_a x_future_home x_future_aim x_future_at x_refusals (nI p) (nI k)) := by
        unfold fX7_seen
        simp only [a1, b1, n1z, n0z, bo1, bo2, bo3, bo4, bo5, bo6, bo7, bo12, jo0, i10, i00, if_true, if_false, ite_self, vlet, p_become, if_n (nin (k := p) (N := 8) (by omega) (by omega)), if_n (nin2 (k := p) (N := 8) (by omega) (by omega)), nc (n := p) (by omega), xl p hp, n_pw (k := Lt 0 p) (by omega)]
        refine lph4 (Φ := fun o => ∃ (hr : Int32) (at2 : Nat → Int32), o = some (nI (ork (fun i => 2 ^ (Lt (i)) p) k), nI P, nI n, hr, m_chance, m_seed, nf W, x_now_distances, x_now_kind, x_now_a, x_now_home, x_now_aim, at2, x_refusals)) (fun i a b u v => a = nI (ork (fun i => 2 ^ (Lt (i)) p) i) ∧ b = nI (i + 1) ∧ u = nI (Ht i) ∧ ag n v (Lt (i))) k ⟨rfl, rfl, rfl, xl⟩ (fun i hi a b u v z => ?_) (fun a b u v z g => ?_) 400 (by omega)
        · obtain ⟨rfl, rfl, rfl, z⟩ := z
          obtain ⟨af, f1, f2⟩ := sx i _ z
          have Tt := (Ta (i + 1)).lt p hp
          refine ⟨_, _, _, _, ⟨rfl, rfl, rfl, f2⟩, fun g => ?_⟩
          simp only [n_lt1 (k := k) (by omega) i (by omega), show ¬ k < i + 1 from by omega, bo1, bo2, bo3, bo4, bo5, bo6, bo7, bo12, jo0, jo1, vlet, i10, i00, if_true, if_false, ite_self, n1z, n0z, f1, if_n (nin (k := p) (N := 8) (by omega) (by omega)), if_n (nin2 (k := p) (N := 8) (by omega) (by omega)), nc (n := p) (by omega), f2 p hp, n_pw (k := (Lt (i + 1)) p) (by omega), n_or, nI_1, ork]
        · obtain ⟨rfl, rfl, rfl, z⟩ := z
          exact ⟨_, _, if_pos (nI_lt (by omega) (by omega))⟩
      have hm : (fun o => ∃ (nw : Int32) (st sp tt : Nat → Int32), o = some (nI (ork (fun i => 2 ^ (Lt (i)) p) k), nw, m_refused, st, sp, tt)) (fX8_seen (nI P) (nI n) (nI (Ht 0)) m_now (-1) m_refused (nf W) m_kind m_home m_aim m_at0 m_steps m_spot m_then (nI p) (nI k)) := by
        obtain ⟨s1, g1, g2⟩ := p_begin (hh := nI (Ht 0)) (s0 := m_spot) hn ml
        unfold fX8_seen
        simp only [a2, b2, n1z, n0z, bo1, bo2, bo3, bo4, bo5, bo6, bo7, bo12, jo0, i10, i00, if_true, if_false, ite_self, vlet, g1, if_n (nin (k := p) (N := 8) (by omega) (by omega)), if_n (nin2 (k := p) (N := 8) (by omega) (by omega)), nc (n := p) (by omega), g2 p hp, n_pw (k := Lt 0 p) (by omega)]
        refine lph6 (Φ := fun o => ∃ (nw : Int32) (st sp tt : Nat → Int32), o = some (nI (ork (fun i => 2 ^ (Lt (i)) p) k), nw, m_refused, st, sp, tt)) (fun i a b u _ v _ => a = nI (ork (fun i => 2 ^ (Lt (i)) p) i) ∧ b = nI i ∧ u = nI (Ht i) ∧ ag n v (Lt (i))) k ⟨rfl, rfl, rfl, g2⟩ (fun i hi a b u s v t z => ?_) (fun a b u s v t z g => ?_) 400 (by omega)
        · obtain ⟨rfl, rfl, rfl, z⟩ := z
          obtain ⟨st, sp, tt, f1, f2⟩ := sm i s _ t z
          have Tt := (Ta (i + 1)).lt p hp
          refine ⟨_, _, _, st, sp, tt, ⟨rfl, rfl, rfl, f2⟩, fun g => ?_⟩
          simp only [nle (a := k) (b := i) (by omega) (by omega), show ¬ k ≤ i from by omega, bo1, bo2, bo3, bo4, bo5, bo6, bo7, bo12, jo0, jo1, vlet, i10, i00, if_true, if_false, ite_self, n1z, n0z, f1, if_n (nin (k := p) (N := 8) (by omega) (by omega)), if_n (nin2 (k := p) (N := 8) (by omega) (by omega)), nc (n := p) (by omega), f2 p hp, n_pw (k := (Lt (i + 1)) p) (by omega), n_or, nI_1, ork]
        · obtain ⟨rfl, rfl, rfl, z⟩ := z
          exact ⟨_, _, _, _, if_pos (Int32.le_refl _)⟩
      obtain ⟨y1, y2, hx⟩ := hx
      obtain ⟨z1, z2, z3, z4, hm⟩ := hm
      rw [hx, hm]
      exact ⟨_, _, _, _, _, _, _, _, _, _, _, _, _, _, _, _, _, _, _, rfl, rfl, R0⟩
    · unfold fX7_seen fX8_seen
      simp only [a1, a2, b1, b2, e1, e2, n1z, n0z, bo1, bo2, bo3, bo4, bo5, bo6, bo7, bo12, jo0, i10, i00, if_true, if_false, ite_self]
      exact ⟨_, _, _, _, _, _, _, _, _, _, _, _, _, _, _, _, _, _, _, rfl, rfl, R0.rf q⟩
  · unfold fX7_seen fX8_seen
    simp only [a1, a2, e1, e2, n1z, n0z, bo1, bo2, bo3, bo4, bo5, bo6, bo7, bo12, jo0, i10, i00, if_true, if_false, ite_self]
    exact ⟨_, _, _, _, _, _, _, _, _, _, _, _, _, _, _, _, _, _, _, rfl, rfl, R0.rf q⟩
theorem n_lt0 {k i : Nat} (h : k ≤ 1000) (hi : i ≤ 1000) : (nI k < nI i) = (k < i) := nlt (by omega) (by omega)
theorem tt_together {x_now_places : Int32} {x_now_people : Int32} {x_now_hour : Int32} {x_now_chance : Int32} {x_now_seed : Int32} {x_now_ways : Nat → Int32} {x_now_distances : Nat → Int32} {x_now_kind : Nat → Int32} {x_now_a : Nat → Int32} {x_now_home : Nat → Int32} {x_now_aim : Nat → Int32} {x_now_at : Nat → Int32} {x_kept_places : Int32} {x_kept_people : Int32} {x_kept_hour : Int32} {x_kept_chance : Int32} {x_kept_seed : Int32} {x_kept_ways : Nat → Int32} {x_kept_distances : Nat → Int32} {x_kept_kind : Nat → Int32} {x_kept_a : Nat → Int32} {x_kept_home : Nat → Int32} {x_kept_aim : Nat → Int32} {x_kept_at : Nat → Int32} {x_isKept : Int32} {x_shelves_c : Nat → Int32} {x_shelves_z : Nat → Int32} {x_shelves_e : Nat → Nat → Int64} {x_tape_size : Int32} {x_tape_bytes : Nat → Int32} {x_refusals : Nat → Int32} {m_places : Int32} {m_people : Int32} {m_hour : Int32} {m_chance : Int32} {m_seed : Int32} {m_ways : Nat → Int32} {m_kind : Nat → Int32} {m_by : Nat → Int32} {m_home : Nat → Int32} {m_aim : Nat → Int32} {m_at0 : Nat → Int32} {m_shelf : Nat → Int32} {m_rowSort : Nat → Int32} {m_rowSize : Nat → Int32} {m_rows : Nat → Nat → Int64} {m_shown : Nat → Int32} {m_tape : Nat → Int32} {m_tapeSize : Int32} {m_refused : Nat → Int32} {m_gone : Int32} {m_kept_places : Int32} {m_kept_people : Int32} {m_kept_hour : Int32} {m_kept_chance : Int32} {m_kept_seed : Int32} {m_kept_ways : Nat → Int32} {m_kept_kind : Nat → Int32} {m_kept_by : Nat → Int32} {m_kept_home : Nat → Int32} {m_kept_aim : Nat → Int32} {m_kept_at0 : Nat → Int32} {kb : Bool} (x_future_places : Int32) (x_future_people : Int32) (x_future_hour : Int32) (x_future_chance : Int32) (x_future_seed : Int32) (x_future_ways : Nat → Int32) (x_future_distances : Nat → Int32) (x_future_kind : Nat → Int32) (x_future_a : Nat → Int32) (x_future_home : Nat → Int32) (x_future_aim : Nat → Int32) (x_future_at : Nat → Int32) (m_now : Int32) (m_steps : Nat → Int32) (m_spot : Nat → Int32) (m_then : Nat → Int32) (p0 : Int32) (p1 : Int32) (p2 : Int32) (R : Rel kb x_now_places x_now_people x_now_hour x_now_chance x_now_seed x_now_ways x_now_distances x_now_kind x_now_a x_now_home x_now_aim x_now_at x_kept_places x_kept_people x_kept_hour x_kept_chance x_kept_seed x_kept_ways x_kept_distances x_kept_kind x_kept_a x_kept_home x_kept_aim x_kept_at x_isKept x_shelves_c x_shelves_z x_shelves_e x_tape_size x_tape_bytes x_refusals m_places m_people m_hour m_chance m_seed m_ways m_kind m_by m_home m_aim m_at0 m_shelf m_rowSort m_rowSize m_rows m_shown m_tape m_tapeSize m_refused m_gone m_kept_places m_kept_people m_kept_hour m_kept_chance m_kept_seed m_kept_ways m_kept_kind m_kept_by m_kept_home m_kept_aim m_kept_at0) : ∃ (r : Int32) (y_future_places : Int32) (y_future_people : Int32) (y_future_hour : Int32) (y_future_chance : Int32) (y_future_seed : Int32) (y_future_ways : Nat → Int32) (y_future_distances : Nat → Int32) (y_future_kind : Nat → Int32) (y_future_a : Nat → Int32) (y_future_home : Nat → Int32) (y_future_aim : Nat → Int32) (y_future_at : Nat → Int32) (y_refusals : Nat → Int32) (z_now : Int32) (z_refused : Nat → Int32) (z_steps : Nat → Int32) (z_spot : Nat → Int32) (z_then : Nat → Int32), fX7_together x_now_places x_now_people x_now_hour x_now_chance x_now_seed x_now_ways x_now_distances x_now_kind x_now_a x_now_home x_now_aim x_now_at x_future_places x_future_people x_future_hour x_future_chance x_future_seed x_future_ways x_future_distances x_future_kind x_future_a x_future_home x_future_aim x_future_at x_refusals p0 p1 p2 = some (r, y_future_places, y_future_people, y_future_hour, y_future_chance, y_future_seed, y_future_ways, y_future_distances, y_future_kind, y_future_a, y_future_home, y_future_aim, y_future_at, y_refusals) ∧ fX8_together m_places m_people m_hour m_now m_gone m_refused m_ways m_kind m_home m_aim m_at0 m_steps m_spot m_then p0 p1 p2 = some (r, z_now, z_refused, z_steps, z_spot, z_then) ∧ Rel kb x_now_places x_now_people x_now_hour x_now_chance x_now_seed x_now_ways x_now_distances x_now_kind x_now_a x_now_home x_now_aim x_now_at x_kept_places x_kept_people x_kept_hour x_kept_chance x_kept_seed x_kept_ways x_kept_distances x_kept_kind x_kept_a x_kept_home x_kept_aim x_kept_at x_isKept x_shelves_c x_shelves_z x_shelves_e x_tape_size x_tape_bytes y_refusals m_places m_people m_hour m_chance m_seed m_ways m_kind m_by m_home m_aim m_at0 m_shelf m_rowSort m_rowSize m_rows m_shown m_tape m_tapeSize z_refused m_gone m_kept_places m_kept_people m_kept_hour m_kept_chance m_kept_seed m_kept_ways m_kept_kind m_kept_by m_kept_home m_kept_aim m_kept_at0 := by
  have R0 := R
  obtain ⟨P, n, h, c, s, W, K, A, H, M, L, T, ⟨rfl, rfl, rfl, rfl, rfl, rfl, xd, xk, xa, xh, xm, xl⟩, ⟨rfl, rfl, rfl, rfl, rfl, rfl, mk, ma, mh, mm, ml⟩, rfl, S, U, V, Z⟩ := R
  obtain ⟨hP2, hP, hn, hW, hK, hH, hM, hL, hho⟩ := id T
  obtain ⟨Lt, Ht, L0, H0, Ta, sx, sm, nq⟩ := hrs T xd xk xh xm mk mh mm
  subst L0
  subst H0
  obtain ⟨x2, m2, e1, e2, q⟩ := rf2 V
  rcases c2People n hn p0 p1 with ⟨p, r, hp, hr, hpr, rfl, rfl, a1, a2, a3, a4⟩ | ⟨a1, bad⟩
  · rcases cTime p2 with ⟨k, hk, rfl, b1, b2⟩ | ⟨b1, b2⟩
    · have hx : (fun o => ∃ (hr : Int32) (at2 : Nat → Int32), o = some (nI (cnt (fun i => (Lt (i)) p == (Lt (i)) r) (k + 1)), nI P, nI n, hr, m_chance, m_seed, nf W, x_now_distances, x_now_kind, x_now_a, x_now_home, x_now_aim, at2, x_refusals)) (fX7_together (nI P) (nI n) (nI (Ht 0)) m_chance m_seed (nf W) x_now_distances x_now_kind x_now_a x_now_home x_now_aim x_now_at x_future_places x_future_people x_future_hour x_future_chance x_future_seed x_future_ways x_future_distances x_future_kind x_future_a x_future_home x_future_aim x_future_at x_refusals (nI p) (nI r) (nI k)) := by
        unfold fX7_together
        simp only [a1, b1, n1z, n0z, bo1, bo2, bo3, bo4, bo5, bo6, bo7, bo12, jo0, i10, i00, if_true, if_false, ite_self, p_become]
        refine lph4 (Φ := fun o => ∃ (hr : Int32) (at2 : Nat → Int32), o = some (nI (cnt (fun i => (Lt (i)) p == (Lt (i)) r) (k + 1)), nI P, nI n, hr, m_chance, m_seed, nf W, x_now_distances, x_now_kind, x_now_a, x_now_home, x_now_aim, at2, x_refusals)) (fun i a b u v => a = nI (cnt (fun i => (Lt (i)) p == (Lt (i)) r) i) ∧ b = nI i ∧ u = nI (Ht i) ∧ ag n v (Lt (i))) (k + 1) ⟨rfl, rfl, rfl, xl⟩ (fun i hi a b u v z => ?_) (fun a b u v z g => ?_) 400 (by omega)
        · obtain ⟨rfl, rfl, rfl, z⟩ := z
          obtain ⟨af, f1, f2⟩ := sx i _ z
          have Ti := (Ta i).lt p hp
          have Tj := (Ta i).lt r hr
          refine ⟨_, _, _, _, ⟨rfl, rfl, rfl, f2⟩, fun g => ?_⟩
          simp only [n_lt0 (k := k) (i := i) (by omega) (by omega), show ¬ k < i from by omega, bo1, bo2, bo3, bo4, bo5, bo6, bo7, bo12, jo0, jo1, vlet, i10, i00, if_true, if_false, ite_self, n1z, n0z, f1, if_n (nin (k := p) (N := 8) (by omega) (by omega)), if_n (nin2 (k := p) (N := 8) (by omega) (by omega)), nc (n := p) (by omega), if_n (nin (k := r) (N := 8) (by omega) (by omega)), if_n (nin2 (k := r) (N := 8) (by omega) (by omega)), nc (n := r) (by omega), z p hp, z r hr, neq (a := (Lt (i)) p) (b := (Lt (i)) r) (by omega) (by omega), nI_1, cnt_s]
          by_cases e : (Lt (i)) p = (Lt (i)) r
          · simp [e]
          · simp [e]
        · obtain ⟨rfl, rfl, rfl, z⟩ := z
          exact ⟨_, _, if_pos (nI_lt (by omega) (by omega))⟩
      have hm : (fun o => ∃ (nw : Int32) (st sp tt : Nat → Int32), o = some (nI (cnt (fun i => (Lt (i)) p == (Lt (i)) r) (k + 1)), nw, m_refused, st, sp, tt)) (fX8_together (nI P) (nI n) (nI (Ht 0)) m_now (-1) m_refused (nf W) m_kind m_home m_aim m_at0 m_steps m_spot m_then (nI p) (nI r) (nI k)) := by
        obtain ⟨s1, g1, g2⟩ := p_begin (hh := nI (Ht 0)) (s0 := m_spot) hn ml
        have Ti := T.lt p hp
        have Tj := T.lt r hr
        unfold fX8_together
        simp only [jo1_ite]
        simp only [a2, a3, a4, b2, n1z, n0z, bo1, bo2, bo3, bo4, bo5, bo6, bo7, bo12, jo0, i10, i00, if_true, if_false, ite_self, g1, if_n (nin (k := p) (N := 8) (by omega) (by omega)), if_n (nin2 (k := p) (N := 8) (by omega) (by omega)), nc (n := p) (by omega), if_n (nin (k := r) (N := 8) (by omega) (by omega)), if_n (nin2 (k := r) (N := 8) (by omega) (by omega)), nc (n := r) (by omega), g2 p hp, g2 r hr, neq (a := Lt 0 p) (b := Lt 0 r) (by omega) (by omega)]
        refine lph6 (Φ := fun o => ∃ (nw : Int32) (st sp tt : Nat → Int32), o = some (nI (cnt (fun i => (Lt (i)) p == (Lt (i)) r) (k + 1)), nw, m_refused, st, sp, tt)) (fun i a b u _ v _ => a = nI (cnt (fun i => (Lt (i)) p == (Lt (i)) r) (i + 1)) ∧ b = nI i ∧ u = nI (Ht i) ∧ ag n v (Lt (i))) k ⟨?_, rfl, rfl, g2⟩ (fun i hi a b u s v t z => ?_) (fun a b u s v t z g => ?_) 400 (by omega)
        · by_cases e : Lt 0 p = Lt 0 r
          · simp [e, cnt]; rfl
          · simp [e, cnt]; rfl
        · obtain ⟨rfl, rfl, rfl, z⟩ := z
          obtain ⟨st, sp, tt, f1, f2⟩ := sm i s _ t z
          have Ti := (Ta (i + 1)).lt p hp
          have Tj := (Ta (i + 1)).lt r hr
          refine ⟨_, _, _, st, sp, tt, ⟨rfl, rfl, rfl, f2⟩, fun g => ?_⟩
          rw [cnt_s (fun i => (Lt (i)) p == (Lt (i)) r) (i + 1)]
          simp only [nle (a := k) (b := i) (by omega) (by omega), show ¬ k ≤ i from by omega, bo1, bo2, bo3, bo4, bo5, bo6, bo7, bo12, jo0, jo1, vlet, i10, i00, if_true, if_false, ite_self, n1z, n0z, f1, if_n (nin (k := p) (N := 8) (by omega) (by omega)), if_n (nin2 (k := p) (N := 8) (by omega) (by omega)), nc (n := p) (by omega), if_n (nin (k := r) (N := 8) (by omega) (by omega)), if_n (nin2 (k := r) (N := 8) (by omega) (by omega)), nc (n := r) (by omega), f2 p hp, f2 r hr, neq (a := (Lt (i + 1)) p) (b := (Lt (i + 1)) r) (by omega) (by omega), nI_1]
          by_cases e : (Lt (i + 1)) p = (Lt (i + 1)) r
          · simp only [e, if_true, beq_self_eq_true, nI_1]
          · have e2 : ((Lt (i + 1)) p == (Lt (i + 1)) r) = false := by simpa using e
            simp only [e, e2, if_false, Bool.false_eq_true, Nat.add_zero, Int32.add_zero]
        · obtain ⟨rfl, rfl, rfl, z⟩ := z
          exact ⟨_, _, _, _, if_pos (Int32.le_refl _)⟩
      obtain ⟨y1, y2, hx⟩ := hx
      obtain ⟨z1, z2, z3, z4, hm⟩ := hm
      rw [hx, hm]
      exact ⟨_, _, _, _, _, _, _, _, _, _, _, _, _, _, _, _, _, _, _, rfl, rfl, R0⟩
    · unfold fX7_together fX8_together
      simp only [a1, a2, a3, a4, b1, b2, e1, e2, n1z, n0z, bo1, bo2, bo3, bo4, bo5, bo6, bo7, bo12, jo0, i10, i00, if_true, if_false, ite_self]
      exact ⟨_, _, _, _, _, _, _, _, _, _, _, _, _, _, _, _, _, _, _, rfl, rfl, R0.rf q⟩
  · unfold fX7_together fX8_together
    rcases bad with a2 | ⟨a2, a3 | ⟨a3, a4⟩⟩
    · simp only [a1, a2, e1, e2, n1z, n0z, bo1, bo2, bo3, bo4, bo5, bo6, bo7, bo12, jo0, i10, i00, if_true, if_false, ite_self]
      exact ⟨_, _, _, _, _, _, _, _, _, _, _, _, _, _, _, _, _, _, _, rfl, rfl, R0.rf q⟩
    · simp only [a1, a2, a3, e1, e2, n1z, n0z, bo1, bo2, bo3, bo4, bo5, bo6, bo7, bo12, jo0, i10, i00, if_true, if_false, ite_self]
      exact ⟨_, _, _, _, _, _, _, _, _, _, _, _, _, _, _, _, _, _, _, rfl, rfl, R0.rf q⟩
    · simp only [a1, a2, a3, a4, e1, e2, n1z, n0z, bo1, bo2, bo3, bo4, bo5, bo6, bo7, bo12, jo0, i10, i00, if_true, if_false, ite_self]
      exact ⟨_, _, _, _, _, _, _, _, _, _, _, _, _, _, _, _, _, _, _, rfl, rfl, R0.rf q⟩
theorem tt_alone {x_now_places : Int32} {x_now_people : Int32} {x_now_hour : Int32} {x_now_chance : Int32} {x_now_seed : Int32} {x_now_ways : Nat → Int32} {x_now_distances : Nat → Int32} {x_now_kind : Nat → Int32} {x_now_a : Nat → Int32} {x_now_home : Nat → Int32} {x_now_aim : Nat → Int32} {x_now_at : Nat → Int32} {x_kept_places : Int32} {x_kept_people : Int32} {x_kept_hour : Int32} {x_kept_chance : Int32} {x_kept_seed : Int32} {x_kept_ways : Nat → Int32} {x_kept_distances : Nat → Int32} {x_kept_kind : Nat → Int32} {x_kept_a : Nat → Int32} {x_kept_home : Nat → Int32} {x_kept_aim : Nat → Int32} {x_kept_at : Nat → Int32} {x_isKept : Int32} {x_shelves_c : Nat → Int32} {x_shelves_z : Nat → Int32} {x_shelves_e : Nat → Nat → Int64} {x_tape_size : Int32} {x_tape_bytes : Nat → Int32} {x_refusals : Nat → Int32} {m_places : Int32} {m_people : Int32} {m_hour : Int32} {m_chance : Int32} {m_seed : Int32} {m_ways : Nat → Int32} {m_kind : Nat → Int32} {m_by : Nat → Int32} {m_home : Nat → Int32} {m_aim : Nat → Int32} {m_at0 : Nat → Int32} {m_shelf : Nat → Int32} {m_rowSort : Nat → Int32} {m_rowSize : Nat → Int32} {m_rows : Nat → Nat → Int64} {m_shown : Nat → Int32} {m_tape : Nat → Int32} {m_tapeSize : Int32} {m_refused : Nat → Int32} {m_gone : Int32} {m_kept_places : Int32} {m_kept_people : Int32} {m_kept_hour : Int32} {m_kept_chance : Int32} {m_kept_seed : Int32} {m_kept_ways : Nat → Int32} {m_kept_kind : Nat → Int32} {m_kept_by : Nat → Int32} {m_kept_home : Nat → Int32} {m_kept_aim : Nat → Int32} {m_kept_at0 : Nat → Int32} {kb : Bool} (x_future_places : Int32) (x_future_people : Int32) (x_future_hour : Int32) (x_future_chance : Int32) (x_future_seed : Int32) (x_future_ways : Nat → Int32) (x_future_distances : Nat → Int32) (x_future_kind : Nat → Int32) (x_future_a : Nat → Int32) (x_future_home : Nat → Int32) (x_future_aim : Nat → Int32) (x_future_at : Nat → Int32) (m_now : Int32) (m_steps : Nat → Int32) (m_spot : Nat → Int32) (m_then : Nat → Int32) (p0 : Int32) (p1 : Int32) (R : Rel kb x_now_places x_now_people x_now_hour x_now_chance x_now_seed x_now_ways x_now_distances x_now_kind x_now_a x_now_home x_now_aim x_now_at x_kept_places x_kept_people x_kept_hour x_kept_chance x_kept_seed x_kept_ways x_kept_distances x_kept_kind x_kept_a x_kept_home x_kept_aim x_kept_at x_isKept x_shelves_c x_shelves_z x_shelves_e x_tape_size x_tape_bytes x_refusals m_places m_people m_hour m_chance m_seed m_ways m_kind m_by m_home m_aim m_at0 m_shelf m_rowSort m_rowSize m_rows m_shown m_tape m_tapeSize m_refused m_gone m_kept_places m_kept_people m_kept_hour m_kept_chance m_kept_seed m_kept_ways m_kept_kind m_kept_by m_kept_home m_kept_aim m_kept_at0) : ∃ (r : Int32) (y_future_places : Int32) (y_future_people : Int32) (y_future_hour : Int32) (y_future_chance : Int32) (y_future_seed : Int32) (y_future_ways : Nat → Int32) (y_future_distances : Nat → Int32) (y_future_kind : Nat → Int32) (y_future_a : Nat → Int32) (y_future_home : Nat → Int32) (y_future_aim : Nat → Int32) (y_future_at : Nat → Int32) (y_refusals : Nat → Int32) (z_now : Int32) (z_refused : Nat → Int32) (z_steps : Nat → Int32) (z_spot : Nat → Int32) (z_then : Nat → Int32), fX7_alone x_now_places x_now_people x_now_hour x_now_chance x_now_seed x_now_ways x_now_distances x_now_kind x_now_a x_now_home x_now_aim x_now_at x_future_places x_future_people x_future_hour x_future_chance x_future_seed x_future_ways x_future_distances x_future_kind x_future_a x_future_home x_future_aim x_future_at x_refusals p0 p1 = some (r, y_future_places, y_future_people, y_future_hour, y_future_chance, y_future_seed, y_future_ways, y_future_distances, y_future_kind, y_future_a, y_future_home, y_future_aim, y_future_at, y_refusals) ∧ fX8_alone m_places m_people m_hour m_now m_gone m_refused m_ways m_kind m_home m_aim m_at0 m_steps m_spot m_then p0 p1 = some (r, z_now, z_refused, z_steps, z_spot, z_then) ∧ Rel kb x_now_places x_now_people x_now_hour x_now_chance x_now_seed x_now_ways x_now_distances x_now_kind x_now_a x_now_home x_now_aim x_now_at x_kept_places x_kept_people x_kept_hour x_kept_chance x_kept_seed x_kept_ways x_kept_distances x_kept_kind x_kept_a x_kept_home x_kept_aim x_kept_at x_isKept x_shelves_c x_shelves_z x_shelves_e x_tape_size x_tape_bytes y_refusals m_places m_people m_hour m_chance m_seed m_ways m_kind m_by m_home m_aim m_at0 m_shelf m_rowSort m_rowSize m_rows m_shown m_tape m_tapeSize z_refused m_gone m_kept_places m_kept_people m_kept_hour m_kept_chance m_kept_seed m_kept_ways m_kept_kind m_kept_by m_kept_home m_kept_aim m_kept_at0 := by
  have R0 := R
  obtain ⟨P, n, h, c, s, W, K, A, H, M, L, T, ⟨rfl, rfl, rfl, rfl, rfl, rfl, xd, xk, xa, xh, xm, xl⟩, ⟨rfl, rfl, rfl, rfl, rfl, rfl, mk, ma, mh, mm, ml⟩, rfl, S, U, V, Z⟩ := R
  obtain ⟨hP2, hP, hn, hW, hK, hH, hM, hL, hho⟩ := id T
  obtain ⟨Lt, Ht, L0, H0, Ta, sx, sm, nq⟩ := hrs T xd xk xh xm mk mh mm
  subst L0
  subst H0
  obtain ⟨x2, m2, e1, e2, q⟩ := rf2 V
  rcases cPerson n hn p0 with ⟨p, hp, rfl, a1, a2⟩ | ⟨a1, a2⟩
  · rcases cTime p1 with ⟨k, hk, rfl, b1, b2⟩ | ⟨b1, b2⟩
    · have hx : (fun o => ∃ (hr : Int32) (at2 : Nat → Int32), o = some (nI (cnt (fun i => dk (K p) && !jnd K (Lt (i)) n p) (k + 1)), nI P, nI n, hr, m_chance, m_seed, nf W, x_now_distances, x_now_kind, x_now_a, x_now_home, x_now_aim, at2, x_refusals)) (fX7_alone (nI P) (nI n) (nI (Ht 0)) m_chance m_seed (nf W) x_now_distances x_now_kind x_now_a x_now_home x_now_aim x_now_at x_future_places x_future_people x_future_hour x_future_chance x_future_seed x_future_ways x_future_distances x_future_kind x_future_a x_future_home x_future_aim x_future_at x_refusals (nI p) (nI k)) := by
        unfold fX7_alone
        simp only [a1, b1, n1z, n0z, bo1, bo2, bo3, bo4, bo5, bo6, bo7, bo12, jo0, i10, i00, if_true, if_false, ite_self, p_become]
        refine lph4 (Φ := fun o => ∃ (hr : Int32) (at2 : Nat → Int32), o = some (nI (cnt (fun i => dk (K p) && !jnd K (Lt (i)) n p) (k + 1)), nI P, nI n, hr, m_chance, m_seed, nf W, x_now_distances, x_now_kind, x_now_a, x_now_home, x_now_aim, at2, x_refusals)) (fun i a b u v => a = nI (cnt (fun i => dk (K p) && !jnd K (Lt (i)) n p) i) ∧ b = nI i ∧ u = nI (Ht i) ∧ ag n v (Lt (i))) (k + 1) ⟨rfl, rfl, rfl, xl⟩ (fun i hi a b u v z => ?_) (fun a b u v z g => ?_) 400 (by omega)
        · obtain ⟨rfl, rfl, rfl, z⟩ := z
          obtain ⟨af, f1, f2⟩ := sx i _ z
          have Ti := Ta i
          refine ⟨_, _, _, _, ⟨rfl, rfl, rfl, f2⟩, fun g => ?_⟩
          simp only [n_lt0 (k := k) (i := i) (by omega) (by omega), show ¬ k < i from by omega, bo1, bo2, bo3, bo4, bo5, bo6, bo7, bo12, jo0, jo1, vlet, i10, i00, if_true, if_false, ite_self, n1z, n0z, f1, p_darkens hn hp xk hK, p_isJoined hn hp xk z hK Ti.lt, b01, nI_1, cnt_s]
          by_cases u1 : dk (K p) = true
          · by_cases u2 : jnd K (Lt (i)) n p = true
            · simp [u1, u2]
            · simp [u1, u2]
          · simp [u1]
        · obtain ⟨rfl, rfl, rfl, z⟩ := z
          exact ⟨_, _, if_pos (nI_lt (by omega) (by omega))⟩
      have hm : (fun o => ∃ (nw : Int32) (st sp tt : Nat → Int32), o = some (nI (cnt (fun i => dk (K p) && !jnd K (Lt (i)) n p) (k + 1)), nw, m_refused, st, sp, tt)) (fX8_alone (nI P) (nI n) (nI (Ht 0)) m_now (-1) m_refused (nf W) m_kind m_home m_aim m_at0 m_steps m_spot m_then (nI p) (nI k)) := by
        obtain ⟨s1, g1, g2⟩ := p_begin (hh := nI (Ht 0)) (s0 := m_spot) hn ml
        unfold fX8_alone
        simp only [a2, b2, n1z, n0z, bo1, bo2, bo3, bo4, bo5, bo6, bo7, bo12, jo0, i10, i00, if_true, if_false, ite_self, jo1, g1, if_n (nin (k := p) (N := 8) (by omega) (by omega)), if_n (nin2 (k := p) (N := 8) (by omega) (by omega)), nc (n := p) (by omega), g2 p hp, p_mdarkens0 hn hp mk hK, p_isDarkBut0 hn hp mk g2 hK T.lt, b01]
        by_cases u1 : dk (K p) = false <;> by_cases u2 : jnd K (Lt 0) n p = false
        all_goals (
          first | rw [if_pos u1] | rw [if_neg u1, if_pos u2] | rw [if_neg u1, if_neg u2]
          refine lph6 (Φ := fun o => ∃ (nw : Int32) (st sp tt : Nat → Int32), o = some (nI (cnt (fun i => dk (K p) && !jnd K (Lt (i)) n p) (k + 1)), nw, m_refused, st, sp, tt)) (fun i a b u _ v _ => a = nI (cnt (fun i => dk (K p) && !jnd K (Lt (i)) n p) (i + 1)) ∧ b = nI i ∧ u = nI (Ht i) ∧ ag n v (Lt (i))) k ⟨?_, rfl, rfl, g2⟩ (fun i hi a b u s v t z => ?_) (fun a b u s v t z g => ?_) 400 (by omega)
          · simp [cnt, u1, u2] <;> rfl
          · obtain ⟨rfl, rfl, rfl, z⟩ := z
            obtain ⟨st, sp, tt, f1, f2⟩ := sm i s _ t z
            have Ti := Ta (i + 1)
            refine ⟨_, _, _, st, sp, tt, ⟨rfl, rfl, rfl, f2⟩, fun g => ?_⟩
            rw [cnt_s (fun i => dk (K p) && !jnd K (Lt (i)) n p) (i + 1)]
            simp only [nle (a := k) (b := i) (by omega) (by omega), show ¬ k ≤ i from by omega, bo1, bo2, bo3, bo4, bo5, bo6, bo7, bo12, jo0, jo1, vlet, i10, i00, if_true, if_false, ite_self, n1z, n0z, f1, if_n (nin (k := p) (N := 8) (by omega) (by omega)), if_n (nin2 (k := p) (N := 8) (by omega) (by omega)), nc (n := p) (by omega), f2 p hp, p_mdarkens0 hn hp mk hK, p_isDarkBut0 hn hp mk f2 hK Ti.lt, b01, nI_1]
            by_cases u3 : jnd K (Lt (i + 1)) n p = true
            · simp [u3, u1]
            · simp [u3, u1, nI_1]
          · obtain ⟨rfl, rfl, rfl, z⟩ := z
            exact ⟨_, _, _, _, if_pos (Int32.le_refl _)⟩)
      obtain ⟨y1, y2, hx⟩ := hx
      obtain ⟨z1, z2, z3, z4, hm⟩ := hm
      rw [hx, hm]
      exact ⟨_, _, _, _, _, _, _, _, _, _, _, _, _, _, _, _, _, _, _, rfl, rfl, R0⟩
    · unfold fX7_alone fX8_alone
      simp only [a1, a2, b1, b2, e1, e2, n1z, n0z, bo1, bo2, bo3, bo4, bo5, bo6, bo7, bo12, jo0, i10, i00, if_true, if_false, ite_self]
      exact ⟨_, _, _, _, _, _, _, _, _, _, _, _, _, _, _, _, _, _, _, rfl, rfl, R0.rf q⟩
  · unfold fX7_alone fX8_alone
    simp only [a1, a2, e1, e2, n1z, n0z, bo1, bo2, bo3, bo4, bo5, bo6, bo7, bo12, jo0, i10, i00, if_true, if_false, ite_self]
    exact ⟨_, _, _, _, _, _, _, _, _, _, _, _, _, _, _, _, _, _, _, rfl, rfl, R0.rf q⟩
