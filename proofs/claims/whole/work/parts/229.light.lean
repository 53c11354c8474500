/-! ===== what shines hour by hour ===== -/
theorem n1z : (nI 1 = 0) = False := eq_false (by decide)
theorem n0z : (nI 0 = 0) = True := eq_true (by decide)
def andk (f : Nat → Nat) : Nat → Nat
  | 0 => f 0
  | i + 1 => andk f i &&& f (i + 1)
def ork (f : Nat → Nat) : Nat → Nat
  | 0 => f 0
  | i + 1 => ork f i ||| f (i + 1)
theorem p_become {a1 a2 a3 a4 a5 : Int32} {a6 a7 a8 a9 a10 a11 a12 : Nat → Int32} : fX5_become a1 a2 a3 a4 a5 a6 a7 a8 a9 a10 a11 a12 = some (a1, a2, a3, a4, a5, a6, a7, a8, a9, a10, a11, a12) := rfl
theorem ltm_eq {P a b : Nat} (ha : a < 2 ^ P) (hb : b < 2 ^ P) : (ltm P a = ltm P b) = (a = b) := by
  apply propext
  constructor
  · intro e
    have := congrArg (ltm P) e
    rwa [ltm_ltm ha, ltm_ltm hb] at this
  · intro e; rw [e]
theorem n_lt1 {k : Nat} (h : k ≤ 1000) (i : Nat) (hi : i ≤ 1000) : (nI k < nI (i + 1)) = (k < i + 1) := nlt (by omega) (by omega)
/-- the hours to come, by name -/
theorem hrs {P n h : Nat} {W K H M L : Nat → Nat} {d kf hf mf kf2 hf2 mf2 : Nat → Int32} (T : tok P n W K H M L h) (hd : dok W d) (hk : ag n kf K) (hh : ag n hf H) (hm : ag n mf M) (hk2 : ag n kf2 K) (hh2 : ag n hf2 H) (hm2 : ag n mf2 M) : ∃ (Lt : Nat → Nat → Nat) (Ht : Nat → Nat), Lt 0 = L ∧ Ht 0 = h ∧ (∀ i, tok P n W K H M (Lt i) (Ht i)) ∧ (∀ i v, ag n v (Lt i) → ∃ af, fX5_passHour (nI P) (nI n) (nI (Ht i)) (nf W) d kf hf mf v = some (nI (if wnt (Lt i) (Lt (i + 1)) n then 1 else 0), nI (Ht (i + 1)), af) ∧ ag n af (Lt (i + 1))) ∧ (∀ i s v t, ag n v (Lt i) → ∃ st sp tt, fX8_goes (nI P) (nI n) (nI (Ht i)) (-1) (nf W) kf2 hf2 mf2 s v t = some (nI (Ht (i + 1)), st, sp, tt) ∧ ag n sp (Lt (i + 1))) ∧ (∀ i, Lt (i + 1) = nxt W P n K H M (fun p => dk (K p)) (Ht i) (Lt i)) :=
  ⟨lc W P n K H M (fun p => dk (K p)) h L, hc h, rfl, rfl, T.at _, fun i _ z => p_pass1 T hd hk hh hm i z, fun i _ _ _ z => p_mgo0 T hk2 hh2 hm2 i z, fun _ => rfl⟩
theorem tt_light {x_now_places : Int32} {x_now_people : Int32} {x_now_hour : Int32} {x_now_chance : Int32} {x_now_seed : Int32} {x_now_ways : Nat → Int32} {x_now_distances : Nat → Int32} {x_now_kind : Nat → Int32} {x_now_a : Nat → Int32} {x_now_home : Nat → Int32} {x_now_aim : Nat → Int32} {x_now_at : Nat → Int32} {x_kept_places : Int32} {x_kept_people : Int32} {x_kept_hour : Int32} {x_kept_chance : Int32} {x_kept_seed : Int32} {x_kept_ways : Nat → Int32} {x_kept_distances : Nat → Int32} {x_kept_kind : Nat → Int32} {x_kept_a : Nat → Int32} {x_kept_home : Nat → Int32} {x_kept_aim : Nat → Int32} {x_kept_at : Nat → Int32} {x_isKept : Int32} {x_shelves_c : Nat → Int32} {x_shelves_z : Nat → Int32} {x_shelves_e : Nat → Nat → Int64} {x_tape_size : Int32} {x_tape_bytes : Nat → Int32} {x_refusals : Nat → Int32} {m_places : Int32} {m_people : Int32} {m_hour : Int32} {m_chance : Int32} {m_seed : Int32} {m_ways : Nat → Int32} {m_kind : Nat → Int32} {m_by : Nat → Int32} {m_home : Nat → Int32} {m_aim : Nat → Int32} {m_at0 : Nat → Int32} {m_shelf : Nat → Int32} {m_rowSort : Nat → Int32} {m_rowSize : Nat → Int32} {m_rows : Nat → Nat → Int64} {m_shown : Nat → Int32} {m_tape : Nat → Int32} {m_tapeSize : Int32} {m_refused : Nat → Int32} {m_gone : Int32} {m_kept_places : Int32} {m_kept_people : Int32} {m_kept_hour : Int32} {m_kept_chance : Int32} {m_kept_seed : Int32} {m_kept_ways : Nat → Int32} {m_kept_kind : Nat → Int32} {m_kept_by : Nat → Int32} {m_kept_home : Nat → Int32} {m_kept_aim : Nat → Int32} {m_kept_at0 : Nat → Int32} {kb : Bool} (x_future_places : Int32) (x_future_people : Int32) (x_future_hour : Int32) (x_future_chance : Int32) (x_future_seed : Int32) (x_future_ways : Nat → Int32) (x_future_distances : Nat → Int32) (x_future_kind : Nat → Int32) (x_future_a : Nat → Int32) (x_future_home : Nat → Int32) (x_future_aim : Nat → Int32) (x_future_at : Nat → Int32) (m_now : Int32) (m_steps : Nat → Int32) (m_spot : Nat → Int32) (m_then : Nat → Int32) (p0 : Int32) (p1 : Int32) (R : Rel kb x_now_places x_now_people x_now_hour x_now_chance x_now_seed x_now_ways x_now_distances x_now_kind x_now_a x_now_home x_now_aim x_now_at x_kept_places x_kept_people x_kept_hour x_kept_chance x_kept_seed x_kept_ways x_kept_distances x_kept_kind x_kept_a x_kept_home x_kept_aim x_kept_at x_isKept x_shelves_c x_shelves_z x_shelves_e x_tape_size x_tape_bytes x_refusals m_places m_people m_hour m_chance m_seed m_ways m_kind m_by m_home m_aim m_at0 m_shelf m_rowSort m_rowSize m_rows m_shown m_tape m_tapeSize m_refused m_gone m_kept_places m_kept_people m_kept_hour m_kept_chance m_kept_seed m_kept_ways m_kept_kind m_kept_by m_kept_home m_kept_aim m_kept_at0) : ∃ (r : Int32) (y_future_places : Int32) (y_future_people : Int32) (y_future_hour : Int32) (y_future_chance : Int32) (y_future_seed : Int32) (y_future_ways : Nat → Int32) (y_future_distances : Nat → Int32) (y_future_kind : Nat → Int32) (y_future_a : Nat → Int32) (y_future_home : Nat → Int32) (y_future_aim : Nat → Int32) (y_future_at : Nat → Int32) (y_refusals : Nat → Int32) (z_now : Int32) (z_refused : Nat → Int32) (z_steps : Nat → Int32) (z_spot : Nat → Int32) (z_then : Nat → Int32), fX7_light x_now_places x_now_people x_now_hour x_now_chance x_now_seed x_now_ways x_now_distances x_now_kind x_now_a x_now_home x_now_aim x_now_at x_future_places x_future_people x_future_hour x_future_chance x_future_seed x_future_ways x_future_distances x_future_kind x_future_a x_future_home x_future_aim x_future_at x_refusals p0 p1 = some (r, y_future_places, y_future_people, y_future_hour, y_future_chance, y_future_seed, y_future_ways, y_future_distances, y_future_kind, y_future_a, y_future_home, y_future_aim, y_future_at, y_refusals) ∧ fX8_light_ m_places m_people m_hour m_now m_gone m_refused m_ways m_kind m_home m_aim m_at0 m_steps m_spot m_then p0 p1 = some (r, z_now, z_refused, z_steps, z_spot, z_then) ∧ Rel kb x_now_places x_now_people x_now_hour x_now_chance x_now_seed x_now_ways x_now_distances x_now_kind x_now_a x_now_home x_now_aim x_now_at x_kept_places x_kept_people x_kept_hour x_kept_chance x_kept_seed x_kept_ways x_kept_distances x_kept_kind x_kept_a x_kept_home x_kept_aim x_kept_at x_isKept x_shelves_c x_shelves_z x_shelves_e x_tape_size x_tape_bytes y_refusals m_places m_people m_hour m_chance m_seed m_ways m_kind m_by m_home m_aim m_at0 m_shelf m_rowSort m_rowSize m_rows m_shown m_tape m_tapeSize z_refused m_gone m_kept_places m_kept_people m_kept_hour m_kept_chance m_kept_seed m_kept_ways m_kept_kind m_kept_by m_kept_home m_kept_aim m_kept_at0 := by
  have R0 := R
  obtain ⟨P, n, h, c, s, W, K, A, H, M, L, T, ⟨rfl, rfl, rfl, rfl, rfl, rfl, xd, xk, xa, xh, xm, xl⟩, ⟨rfl, rfl, rfl, rfl, rfl, rfl, mk, ma, mh, mm, ml⟩, rfl, S, U, V, Z⟩ := R
  obtain ⟨hP2, hP, hn, hW, hK, hH, hM, hL, hho⟩ := id T
  obtain ⟨Lt, Ht, L0, H0, Ta, sx, sm, nq⟩ := hrs T xd xk xh xm mk mh mm
  subst L0
  subst H0
  obtain ⟨x2, m2, e1, e2, q⟩ := rf2 V
  rcases cPlace P hP p0 with ⟨p, hp, rfl, a1, a2⟩ | ⟨a1, a2⟩
  · rcases cSpan p1 with ⟨k, hk1, hk, rfl, b1, b2⟩ | ⟨b1, b2⟩
    · have hx : (fun o => ∃ (hr : Int32) (at2 : Nat → Int32), o = some (nI (cnt (fun i => (ltm P (dkm (fun p => dk (K p)) (Lt (i + 1)) n)).testBit p) k), nI P, nI n, hr, m_chance, m_seed, nf W, x_now_distances, x_now_kind, x_now_a, x_now_home, x_now_aim, at2, x_refusals)) (fX7_light (nI P) (nI n) (nI (Ht 0)) m_chance m_seed (nf W) x_now_distances x_now_kind x_now_a x_now_home x_now_aim x_now_at x_future_places x_future_people x_future_hour x_future_chance x_future_seed x_future_ways x_future_distances x_future_kind x_future_a x_future_home x_future_aim x_future_at x_refusals (nI p) (nI k)) := by
        unfold fX7_light
        simp only [a1, b1, n1z, n0z, bo1, bo2, bo3, bo4, bo5, bo6, bo7, bo12, jo0, i10, i00, if_true, if_false, ite_self, p_become]
        refine lph4 (Φ := fun o => ∃ (hr : Int32) (at2 : Nat → Int32), o = some (nI (cnt (fun i => (ltm P (dkm (fun p => dk (K p)) (Lt (i + 1)) n)).testBit p) k), nI P, nI n, hr, m_chance, m_seed, nf W, x_now_distances, x_now_kind, x_now_a, x_now_home, x_now_aim, at2, x_refusals)) (fun i a b u v => a = nI (cnt (fun i => (ltm P (dkm (fun p => dk (K p)) (Lt (i + 1)) n)).testBit p) i) ∧ b = nI (i + 1) ∧ u = nI (Ht i) ∧ ag n v (Lt (i))) k ⟨rfl, rfl, rfl, xl⟩ (fun i hi a b u v z => ?_) (fun a b u v z g => ?_) 400 (by omega)
        · obtain ⟨rfl, rfl, rfl, z⟩ := z
          obtain ⟨af, f1, f2⟩ := sx i _ z
          have Tt := Ta (i + 1)
          refine ⟨_, _, _, _, ⟨rfl, rfl, rfl, f2⟩, fun g => ?_⟩
          simp only [n_lt1 (k := k) (by omega) i (by omega), show ¬ k < i + 1 from by omega, bo1, bo2, bo3, bo4, bo5, bo6, bo7, bo12, jo0, jo1, vlet, i10, i00, if_true, if_false, ite_self, n1z, n0z, f1, p_shiningPlaces hP hn xk f2 hK Tt.lt, p_hasBit (m := ltm P (dkm (fun p => dk (K p)) (Lt (i + 1)) n)) (k := p) (by have := lt_lt (m := (dkm (fun p => dk (K p)) (Lt (i + 1)) n)) hP; omega) (by omega), b01, nI_1, cnt_s]
          cases (ltm P (dkm (fun p => dk (K p)) (Lt (i + 1)) n)).testBit p <;> simp
        · obtain ⟨rfl, rfl, rfl, z⟩ := z
          exact ⟨_, _, if_pos (nI_lt (by omega) (by omega))⟩
      have hm : (fun o => ∃ (nw : Int32) (st sp tt : Nat → Int32), o = some (nI (cnt (fun i => (ltm P (dkm (fun p => dk (K p)) (Lt (i + 1)) n)).testBit p) k), nw, m_refused, st, sp, tt)) (fX8_light_ (nI P) (nI n) (nI (Ht 0)) m_now (-1) m_refused (nf W) m_kind m_home m_aim m_at0 m_steps m_spot m_then (nI p) (nI k)) := by
        obtain ⟨s1, g1, g2⟩ := p_begin (hh := nI (Ht 0)) (s0 := m_spot) hn ml
        unfold fX8_light_
        simp only [a2, b2, n1z, n0z, bo1, bo2, bo3, bo4, bo5, bo6, bo7, bo12, jo0, i10, i00, if_true, if_false, ite_self, g1]
        refine lph6 (Φ := fun o => ∃ (nw : Int32) (st sp tt : Nat → Int32), o = some (nI (cnt (fun i => (ltm P (dkm (fun p => dk (K p)) (Lt (i + 1)) n)).testBit p) k), nw, m_refused, st, sp, tt)) (fun i a b u _ v _ => a = nI (cnt (fun i => (ltm P (dkm (fun p => dk (K p)) (Lt (i + 1)) n)).testBit p) i) ∧ b = nI i ∧ u = nI (Ht i) ∧ ag n v (Lt (i))) k ⟨rfl, rfl, rfl, g2⟩ (fun i hi a b u s v t z => ?_) (fun a b u s v t z g => ?_) 400 (by omega)
        · obtain ⟨rfl, rfl, rfl, z⟩ := z
          obtain ⟨st, sp, tt, f1, f2⟩ := sm i s _ t z
          have Tt := Ta (i + 1)
          refine ⟨_, _, _, st, sp, tt, ⟨rfl, rfl, rfl, f2⟩, fun g => ?_⟩
          simp only [nle (a := k) (b := i) (by omega) (by omega), show ¬ k ≤ i from by omega, bo1, bo2, bo3, bo4, bo5, bo6, bo7, bo12, jo0, jo1, vlet, i10, i00, if_true, if_false, ite_self, n1z, n0z, f1, p_mlight0 hP hn mk f2 hK Tt.lt, n_bit (m := ltm P (dkm (fun p => dk (K p)) (Lt (i + 1)) n)) (k := p) (by have := lt_lt (m := (dkm (fun p => dk (K p)) (Lt (i + 1)) n)) hP; omega) (by omega), nI_1, nI_add, cnt_s]
        · obtain ⟨rfl, rfl, rfl, z⟩ := z
          exact ⟨_, _, _, _, if_pos (Int32.le_refl _)⟩
      obtain ⟨y1, y2, hx⟩ := hx
      obtain ⟨z1, z2, z3, z4, hm⟩ := hm
      rw [hx, hm]
      exact ⟨_, _, _, _, _, _, _, _, _, _, _, _, _, _, _, _, _, _, _, rfl, rfl, R0⟩
    · unfold fX7_light fX8_light_
      simp only [a1, a2, b1, b2, e1, e2, n1z, n0z, bo1, bo2, bo3, bo4, bo5, bo6, bo7, bo12, jo0, i10, i00, if_true, if_false, ite_self]
      exact ⟨_, _, _, _, _, _, _, _, _, _, _, _, _, _, _, _, _, _, _, rfl, rfl, R0.rf q⟩
  · unfold fX7_light fX8_light_
    simp only [a1, a2, e1, e2, n1z, n0z, bo1, bo2, bo3, bo4, bo5, bo6, bo7, bo12, jo0, i10, i00, if_true, if_false, ite_self]
    exact ⟨_, _, _, _, _, _, _, _, _, _, _, _, _, _, _, _, _, _, _, rfl, rfl, R0.rf q⟩
theorem tt_always {x_now_places : Int32} {x_now_people : Int32} {x_now_hour : Int32} {x_now_chance : Int32} {x_now_seed : Int32} {x_now_ways : Nat → Int32} {x_now_distances : Nat → Int32} {x_now_kind : Nat → Int32} {x_now_a : Nat → Int32} {x_now_home : Nat → Int32} {x_now_aim : Nat → Int32} {x_now_at : Nat → Int32} {x_kept_places : Int32} {x_kept_people : Int32} {x_kept_hour : Int32} {x_kept_chance : Int32} {x_kept_seed : Int32} {x_kept_ways : Nat → Int32} {x_kept_distances : Nat → Int32} {x_kept_kind : Nat → Int32} {x_kept_a : Nat → Int32} {x_kept_home : Nat → Int32} {x_kept_aim : Nat → Int32} {x_kept_at : Nat → Int32} {x_isKept : Int32} {x_shelves_c : Nat → Int32} {x_shelves_z : Nat → Int32} {x_shelves_e : Nat → Nat → Int64} {x_tape_size : Int32} {x_tape_bytes : Nat → Int32} {x_refusals : Nat → Int32} {m_places : Int32} {m_people : Int32} {m_hour : Int32} {m_chance : Int32} {m_seed : Int32} {m_ways : Nat → Int32} {m_kind : Nat → Int32} {m_by : Nat → Int32} {m_home : Nat → Int32} {m_aim : Nat → Int32} {m_at0 : Nat → Int32} {m_shelf : Nat → Int32} {m_rowSort : Nat → Int32} {m_rowSize : Nat → Int32} {m_rows : Nat → Nat → Int64} {m_shown : Nat → Int32} {m_tape : Nat → Int32} {m_tapeSize : Int32} {m_refused : Nat → Int32} {m_gone : Int32} {m_kept_places : Int32} {m_kept_people : Int32} {m_kept_hour : Int32} {m_kept_chance : Int32} {m_kept_seed : Int32} {m_kept_ways : Nat → Int32} {m_kept_kind : Nat → Int32} {m_kept_by : Nat → Int32} {m_kept_home : Nat → Int32} {m_kept_aim : Nat → Int32} {m_kept_at0 : Nat → Int32} {kb : Bool} (x_future_places : Int32) (x_future_people : Int32) (x_future_hour : Int32) (x_future_chance : Int32) (x_future_seed : Int32) (x_future_ways : Nat → Int32) (x_future_distances : Nat → Int32) (x_future_kind : Nat → Int32) (x_future_a : Nat → Int32) (x_future_home : Nat → Int32) (x_future_aim : Nat → Int32) (x_future_at : Nat → Int32) (m_now : Int32) (m_steps : Nat → Int32) (m_spot : Nat → Int32) (m_then : Nat → Int32) (p0 : Int32) (R : Rel kb x_now_places x_now_people x_now_hour x_now_chance x_now_seed x_now_ways x_now_distances x_now_kind x_now_a x_now_home x_now_aim x_now_at x_kept_places x_kept_people x_kept_hour x_kept_chance x_kept_seed x_kept_ways x_kept_distances x_kept_kind x_kept_a x_kept_home x_kept_aim x_kept_at x_isKept x_shelves_c x_shelves_z x_shelves_e x_tape_size x_tape_bytes x_refusals m_places m_people m_hour m_chance m_seed m_ways m_kind m_by m_home m_aim m_at0 m_shelf m_rowSort m_rowSize m_rows m_shown m_tape m_tapeSize m_refused m_gone m_kept_places m_kept_people m_kept_hour m_kept_chance m_kept_seed m_kept_ways m_kept_kind m_kept_by m_kept_home m_kept_aim m_kept_at0) : ∃ (r : Int32) (y_future_places : Int32) (y_future_people : Int32) (y_future_hour : Int32) (y_future_chance : Int32) (y_future_seed : Int32) (y_future_ways : Nat → Int32) (y_future_distances : Nat → Int32) (y_future_kind : Nat → Int32) (y_future_a : Nat → Int32) (y_future_home : Nat → Int32) (y_future_aim : Nat → Int32) (y_future_at : Nat → Int32) (y_refusals : Nat → Int32) (z_now : Int32) (z_refused : Nat → Int32) (z_steps : Nat → Int32) (z_spot : Nat → Int32) (z_then : Nat → Int32), fX7_always x_now_places x_now_people x_now_hour x_now_chance x_now_seed x_now_ways x_now_distances x_now_kind x_now_a x_now_home x_now_aim x_now_at x_future_places x_future_people x_future_hour x_future_chance x_future_seed x_future_ways x_future_distances x_future_kind x_future_a x_future_home x_future_aim x_future_at x_refusals p0 = some (r, y_future_places, y_future_people, y_future_hour, y_future_chance, y_future_seed, y_future_ways, y_future_distances, y_future_kind, y_future_a, y_future_home, y_future_aim, y_future_at, y_refusals) ∧ fX8_always m_places m_people m_hour m_now m_gone m_refused m_ways m_kind m_home m_aim m_at0 m_steps m_spot m_then p0 = some (r, z_now, z_refused, z_steps, z_spot, z_then) ∧ Rel kb x_now_places x_now_people x_now_hour x_now_chance x_now_seed x_now_ways x_now_distances x_now_kind x_now_a x_now_home x_now_aim x_now_at x_kept_places x_kept_people x_kept_hour x_kept_chance x_kept_seed x_kept_ways x_kept_distances x_kept_kind x_kept_a x_kept_home x_kept_aim x_kept_at x_isKept x_shelves_c x_shelves_z x_shelves_e x_tape_size x_tape_bytes y_refusals m_places m_people m_hour m_chance m_seed m_ways m_kind m_by m_home m_aim m_at0 m_shelf m_rowSort m_rowSize m_rows m_shown m_tape m_tapeSize z_refused m_gone m_kept_places m_kept_people m_kept_hour m_kept_chance m_kept_seed m_kept_ways m_kept_kind m_kept_by m_kept_home m_kept_aim m_kept_at0 := by
  have R0 := R
  obtain ⟨P, n, h, c, s, W, K, A, H, M, L, T, ⟨rfl, rfl, rfl, rfl, rfl, rfl, xd, xk, xa, xh, xm, xl⟩, ⟨rfl, rfl, rfl, rfl, rfl, rfl, mk, ma, mh, mm, ml⟩, rfl, S, U, V, Z⟩ := R
  obtain ⟨hP2, hP, hn, hW, hK, hH, hM, hL, hho⟩ := id T
  obtain ⟨Lt, Ht, L0, H0, Ta, sx, sm, nq⟩ := hrs T xd xk xh xm mk mh mm
  subst L0
  subst H0
  obtain ⟨x2, m2, e1, e2, q⟩ := rf2 V
  rcases cTime p0 with ⟨k, hk, rfl, b1, b2⟩ | ⟨b1, b2⟩
  · have hx : (fun o => ∃ (hr : Int32) (at2 : Nat → Int32), o = some (nI (andk (fun i => ltm P (dkm (fun p => dk (K p)) (Lt (i)) n)) k), nI P, nI n, hr, m_chance, m_seed, nf W, x_now_distances, x_now_kind, x_now_a, x_now_home, x_now_aim, at2, x_refusals)) (fX7_always (nI P) (nI n) (nI (Ht 0)) m_chance m_seed (nf W) x_now_distances x_now_kind x_now_a x_now_home x_now_aim x_now_at x_future_places x_future_people x_future_hour x_future_chance x_future_seed x_future_ways x_future_distances x_future_kind x_future_a x_future_home x_future_aim x_future_at x_refusals (nI k)) := by
      unfold fX7_always
      simp only [b1, n1z, n0z, bo1, bo2, bo3, bo4, bo5, bo6, bo7, bo12, jo0, i10, i00, if_true, if_false, ite_self, p_become, p_shiningPlaces hP hn xk xl hK T.lt]
      refine lph4 (Φ := fun o => ∃ (hr : Int32) (at2 : Nat → Int32), o = some (nI (andk (fun i => ltm P (dkm (fun p => dk (K p)) (Lt (i)) n)) k), nI P, nI n, hr, m_chance, m_seed, nf W, x_now_distances, x_now_kind, x_now_a, x_now_home, x_now_aim, at2, x_refusals)) (fun i a b u v => a = nI (andk (fun i => ltm P (dkm (fun p => dk (K p)) (Lt (i)) n)) i) ∧ b = nI (i + 1) ∧ u = nI (Ht i) ∧ ag n v (Lt (i))) k ⟨rfl, rfl, rfl, xl⟩ (fun i hi a b u v z => ?_) (fun a b u v z g => ?_) 400 (by omega)
      · obtain ⟨rfl, rfl, rfl, z⟩ := z
        obtain ⟨af, f1, f2⟩ := sx i _ z
        have Tt := Ta (i + 1)
        refine ⟨_, _, _, _, ⟨rfl, rfl, rfl, f2⟩, fun g => ?_⟩
        simp only [n_lt1 (k := k) (by omega) i (by omega), show ¬ k < i + 1 from by omega, bo1, bo2, bo3, bo4, bo5, bo6, bo7, bo12, jo0, jo1, vlet, i10, i00, if_true, if_false, ite_self, n1z, n0z, f1, p_shiningPlaces hP hn xk f2 hK Tt.lt, n_and, nI_1, andk]
      · obtain ⟨rfl, rfl, rfl, z⟩ := z
        exact ⟨_, _, if_pos (nI_lt (by omega) (by omega))⟩
    have hm : (fun o => ∃ (nw : Int32) (st sp tt : Nat → Int32), o = some (nI (andk (fun i => ltm P (dkm (fun p => dk (K p)) (Lt (i)) n)) k), nw, m_refused, st, sp, tt)) (fX8_always (nI P) (nI n) (nI (Ht 0)) m_now (-1) m_refused (nf W) m_kind m_home m_aim m_at0 m_steps m_spot m_then (nI k)) := by
      obtain ⟨s1, g1, g2⟩ := p_begin (hh := nI (Ht 0)) (s0 := m_spot) hn ml
      unfold fX8_always
      simp only [b2, n1z, n0z, bo1, bo2, bo3, bo4, bo5, bo6, bo7, bo12, jo0, i10, i00, if_true, if_false, ite_self, g1, p_mlight0 hP hn mk g2 hK T.lt]
      refine lph6 (Φ := fun o => ∃ (nw : Int32) (st sp tt : Nat → Int32), o = some (nI (andk (fun i => ltm P (dkm (fun p => dk (K p)) (Lt (i)) n)) k), nw, m_refused, st, sp, tt)) (fun i a b u _ v _ => a = nI (andk (fun i => ltm P (dkm (fun p => dk (K p)) (Lt (i)) n)) i) ∧ b = nI i ∧ u = nI (Ht i) ∧ ag n v (Lt (i))) k ⟨rfl, rfl, rfl, g2⟩ (fun i hi a b u s v t z => ?_) (fun a b u s v t z g => ?_) 400 (by omega)
      · obtain ⟨rfl, rfl, rfl, z⟩ := z
        obtain ⟨st, sp, tt, f1, f2⟩ := sm i s _ t z
        have Tt := Ta (i + 1)
        refine ⟨_, _, _, st, sp, tt, ⟨rfl, rfl, rfl, f2⟩, fun g => ?_⟩
        simp only [nle (a := k) (b := i) (by omega) (by omega), show ¬ k ≤ i from by omega, bo1, bo2, bo3, bo4, bo5, bo6, bo7, bo12, jo0, jo1, vlet, i10, i00, if_true, if_false, ite_self, n1z, n0z, f1, p_mlight0 hP hn mk f2 hK Tt.lt, n_and, nI_1, andk]
      · obtain ⟨rfl, rfl, rfl, z⟩ := z
        exact ⟨_, _, _, _, if_pos (Int32.le_refl _)⟩
    obtain ⟨y1, y2, hx⟩ := hx
    obtain ⟨z1, z2, z3, z4, hm⟩ := hm
    rw [hx, hm]
    exact ⟨_, _, _, _, _, _, _, _, _, _, _, _, _, _, _, _, _, _, _, rfl, rfl, R0⟩
  · unfold fX7_always fX8_always
    simp only [b1, b2, e1, e2, n1z, n0z, bo1, bo2, bo3, bo4, bo5, bo6, bo7, bo12, jo0, i10, i00, if_true, if_false, ite_self]
    exact ⟨_, _, _, _, _, _, _, _, _, _, _, _, _, _, _, _, _, _, _, rfl, rfl, R0.rf q⟩
theorem tt_never {x_now_places : Int32} {x_now_people : Int32} {x_now_hour : Int32} {x_now_chance : Int32} {x_now_seed : Int32} {x_now_ways : Nat → Int32} {x_now_distances : Nat → Int32} {x_now_kind : Nat → Int32} {x_now_a : Nat → Int32} {x_now_home : Nat → Int32} {x_now_aim : Nat → Int32} {x_now_at : Nat → Int32} {x_kept_places : Int32} {x_kept_people : Int32} {x_kept_hour : Int32} {x_kept_chance : Int32} {x_kept_seed : Int32} {x_kept_ways : Nat → Int32} {x_kept_distances : Nat → Int32} {x_kept_kind : Nat → Int32} {x_kept_a : Nat → Int32} {x_kept_home : Nat → Int32} {x_kept_aim : Nat → Int32} {x_kept_at : Nat → Int32} {x_isKept : Int32} {x_shelves_c : Nat → Int32} {x_shelves_z : Nat → Int32} {x_shelves_e : Nat → Nat → Int64} {x_tape_size : Int32} {x_tape_bytes : Nat → Int32} {x_refusals : Nat → Int32} {m_places : Int32} {m_people : Int32} {m_hour : Int32} {m_chance : Int32} {m_seed : Int32} {m_ways : Nat → Int32} {m_kind : Nat → Int32} {m_by : Nat → Int32} {m_home : Nat → Int32} {m_aim : Nat → Int32} {m_at0 : Nat → Int32} {m_shelf : Nat → Int32} {m_rowSort : Nat → Int32} {m_rowSize : Nat → Int32} {m_rows : Nat → Nat → Int64} {m_shown : Nat → Int32} {m_tape : Nat → Int32} {m_tapeSize : Int32} {m_refused : Nat → Int32} {m_gone : Int32} {m_kept_places : Int32} {m_kept_people : Int32} {m_kept_hour : Int32} {m_kept_chance : Int32} {m_kept_seed : Int32} {m_kept_ways : Nat → Int32} {m_kept_kind : Nat → Int32} {m_kept_by : Nat → Int32} {m_kept_home : Nat → Int32} {m_kept_aim : Nat → Int32} {m_kept_at0 : Nat → Int32} {kb : Bool} (x_future_places : Int32) (x_future_people : Int32) (x_future_hour : Int32) (x_future_chance : Int32) (x_future_seed : Int32) (x_future_ways : Nat → Int32) (x_future_distances : Nat → Int32) (x_future_kind : Nat → Int32) (x_future_a : Nat → Int32) (x_future_home : Nat → Int32) (x_future_aim : Nat → Int32) (x_future_at : Nat → Int32) (m_now : Int32) (m_steps : Nat → Int32) (m_spot : Nat → Int32) (m_then : Nat → Int32) (p0 : Int32) (R : Rel kb x_now_places x_now_people x_now_hour x_now_chance x_now_seed x_now_ways x_now_distances x_now_kind x_now_a x_now_home x_now_aim x_now_at x_kept_places x_kept_people x_kept_hour x_kept_chance x_kept_seed x_kept_ways x_kept_distances x_kept_kind x_kept_a x_kept_home x_kept_aim x_kept_at x_isKept x_shelves_c x_shelves_z x_shelves_e x_tape_size x_tape_bytes x_refusals m_places m_people m_hour m_chance m_seed m_ways m_kind m_by m_home m_aim m_at0 m_shelf m_rowSort m_rowSize m_rows m_shown m_tape m_tapeSize m_refused m_gone m_kept_places m_kept_people m_kept_hour m_kept_chance m_kept_seed m_kept_ways m_kept_kind m_kept_by m_kept_home m_kept_aim m_kept_at0) : ∃ (r : Int32) (y_future_places : Int32) (y_future_people : Int32) (y_future_hour : Int32) (y_future_chance : Int32) (y_future_seed : Int32) (y_future_ways : Nat → Int32) (y_future_distances : Nat → Int32) (y_future_kind : Nat → Int32) (y_future_a : Nat → Int32) (y_future_home : Nat → Int32) (y_future_aim : Nat → Int32) (y_future_at : Nat → Int32) (y_refusals : Nat → Int32) (z_now : Int32) (z_refused : Nat → Int32) (z_steps : Nat → Int32) (z_spot : Nat → Int32) (z_then : Nat → Int32), fX7_never x_now_places x_now_people x_now_hour x_now_chance x_now_seed x_now_ways x_now_distances x_now_kind x_now_a x_now_home x_now_aim x_now_at x_future_places x_future_people x_future_hour x_future_chance x_future_seed x_future_ways x_future_distances x_future_kind x_future_a x_future_home x_future_aim x_future_at x_refusals p0 = some (r, y_future_places, y_future_people, y_future_hour, y_future_chance, y_future_seed, y_future_ways, y_future_distances, y_future_kind, y_future_a, y_future_home, y_future_aim, y_future_at, y_refusals) ∧ fX8_never m_places m_people m_hour m_now m_gone m_refused m_ways m_kind m_home m_aim m_at0 m_steps m_spot m_then p0 = some (r, z_now, z_refused, z_steps, z_spot, z_then) ∧ Rel kb x_now_places x_now_people x_now_hour x_now_chance x_now_seed x_now_ways x_now_distances x_now_kind x_now_a x_now_home x_now_aim x_now_at x_kept_places x_kept_people x_kept_hour x_kept_chance x_kept_seed x_kept_ways x_kept_distances x_kept_kind x_kept_a x_kept_home x_kept_aim x_kept_at x_isKept x_shelves_c x_shelves_z x_shelves_e x_tape_size x_tape_bytes y_refusals m_places m_people m_hour m_chance m_seed m_ways m_kind m_by m_home m_aim m_at0 m_shelf m_rowSort m_rowSize m_rows m_shown m_tape m_tapeSize z_refused m_gone m_kept_places m_kept_people m_kept_hour m_kept_chance m_kept_seed m_kept_ways m_kept_kind m_kept_by m_kept_home m_kept_aim m_kept_at0 := by
  have R0 := R
  obtain ⟨P, n, h, c, s, W, K, A, H, M, L, T, ⟨rfl, rfl, rfl, rfl, rfl, rfl, xd, xk, xa, xh, xm, xl⟩, ⟨rfl, rfl, rfl, rfl, rfl, rfl, mk, ma, mh, mm, ml⟩, rfl, S, U, V, Z⟩ := R
  obtain ⟨hP2, hP, hn, hW, hK, hH, hM, hL, hho⟩ := id T
  obtain ⟨Lt, Ht, L0, H0, Ta, sx, sm, nq⟩ := hrs T xd xk xh xm mk mh mm
  subst L0
  subst H0
  obtain ⟨x2, m2, e1, e2, q⟩ := rf2 V
  rcases cTime p0 with ⟨k, hk, rfl, b1, b2⟩ | ⟨b1, b2⟩
  · have hx : (fun o => ∃ (hr : Int32) (at2 : Nat → Int32), o = some (nI (andk (fun i => (dkm (fun p => dk (K p)) (Lt (i)) n)) k), nI P, nI n, hr, m_chance, m_seed, nf W, x_now_distances, x_now_kind, x_now_a, x_now_home, x_now_aim, at2, x_refusals)) (fX7_never (nI P) (nI n) (nI (Ht 0)) m_chance m_seed (nf W) x_now_distances x_now_kind x_now_a x_now_home x_now_aim x_now_at x_future_places x_future_people x_future_hour x_future_chance x_future_seed x_future_ways x_future_distances x_future_kind x_future_a x_future_home x_future_aim x_future_at x_refusals (nI k)) := by
      unfold fX7_never
      simp only [b1, n1z, n0z, bo1, bo2, bo3, bo4, bo5, bo6, bo7, bo12, jo0, i10, i00, if_true, if_false, ite_self, p_become, p_darkPlaces hn xk xl hK T.lt]
      refine lph4 (Φ := fun o => ∃ (hr : Int32) (at2 : Nat → Int32), o = some (nI (andk (fun i => (dkm (fun p => dk (K p)) (Lt (i)) n)) k), nI P, nI n, hr, m_chance, m_seed, nf W, x_now_distances, x_now_kind, x_now_a, x_now_home, x_now_aim, at2, x_refusals)) (fun i a b u v => a = nI (andk (fun i => (dkm (fun p => dk (K p)) (Lt (i)) n)) i) ∧ b = nI (i + 1) ∧ u = nI (Ht i) ∧ ag n v (Lt (i))) k ⟨rfl, rfl, rfl, xl⟩ (fun i hi a b u v z => ?_) (fun a b u v z g => ?_) 400 (by omega)
      · obtain ⟨rfl, rfl, rfl, z⟩ := z
        obtain ⟨af, f1, f2⟩ := sx i _ z
        have Tt := Ta (i + 1)
        refine ⟨_, _, _, _, ⟨rfl, rfl, rfl, f2⟩, fun g => ?_⟩
        simp only [n_lt1 (k := k) (by omega) i (by omega), show ¬ k < i + 1 from by omega, bo1, bo2, bo3, bo4, bo5, bo6, bo7, bo12, jo0, jo1, vlet, i10, i00, if_true, if_false, ite_self, n1z, n0z, f1, p_darkPlaces hn xk f2 hK Tt.lt, n_and, nI_1, andk]
      · obtain ⟨rfl, rfl, rfl, z⟩ := z
        exact ⟨_, _, if_pos (nI_lt (by omega) (by omega))⟩
    have hm : (fun o => ∃ (nw : Int32) (st sp tt : Nat → Int32), o = some (nI (andk (fun i => (dkm (fun p => dk (K p)) (Lt (i)) n)) k), nw, m_refused, st, sp, tt)) (fX8_never (nI P) (nI n) (nI (Ht 0)) m_now (-1) m_refused (nf W) m_kind m_home m_aim m_at0 m_steps m_spot m_then (nI k)) := by
      obtain ⟨s1, g1, g2⟩ := p_begin (hh := nI (Ht 0)) (s0 := m_spot) hn ml
      unfold fX8_never
      simp only [b2, n1z, n0z, bo1, bo2, bo3, bo4, bo5, bo6, bo7, bo12, jo0, i10, i00, if_true, if_false, ite_self, g1, p_mdark0 hP hn mk g2 hK hL]
      refine lph6 (Φ := fun o => ∃ (nw : Int32) (st sp tt : Nat → Int32), o = some (nI (andk (fun i => (dkm (fun p => dk (K p)) (Lt (i)) n)) k), nw, m_refused, st, sp, tt)) (fun i a b u _ v _ => a = nI (andk (fun i => (dkm (fun p => dk (K p)) (Lt (i)) n)) i) ∧ b = nI i ∧ u = nI (Ht i) ∧ ag n v (Lt (i))) k ⟨rfl, rfl, rfl, g2⟩ (fun i hi a b u s v t z => ?_) (fun a b u s v t z g => ?_) 400 (by omega)
      · obtain ⟨rfl, rfl, rfl, z⟩ := z
        obtain ⟨st, sp, tt, f1, f2⟩ := sm i s _ t z
        have Tt := Ta (i + 1)
        refine ⟨_, _, _, st, sp, tt, ⟨rfl, rfl, rfl, f2⟩, fun g => ?_⟩
        simp only [nle (a := k) (b := i) (by omega) (by omega), show ¬ k ≤ i from by omega, bo1, bo2, bo3, bo4, bo5, bo6, bo7, bo12, jo0, jo1, vlet, i10, i00, if_true, if_false, ite_self, n1z, n0z, f1, p_mdark0 hP hn mk f2 hK Tt.2.2.2.2.2.2.2.1, n_and, nI_1, andk]
      · obtain ⟨rfl, rfl, rfl, z⟩ := z
        exact ⟨_, _, _, _, if_pos (Int32.le_refl _)⟩
    obtain ⟨y1, y2, hx⟩ := hx
    obtain ⟨z1, z2, z3, z4, hm⟩ := hm
    rw [hx, hm]
    exact ⟨_, _, _, _, _, _, _, _, _, _, _, _, _, _, _, _, _, _, _, rfl, rfl, R0⟩
  · unfold fX7_never fX8_never
    simp only [b1, b2, e1, e2, n1z, n0z, bo1, bo2, bo3, bo4, bo5, bo6, bo7, bo12, jo0, i10, i00, if_true, if_false, ite_self]
    exact ⟨_, _, _, _, _, _, _, _, _, _, _, _, _, _, _, _, _, _, _, rfl, rfl, R0.rf q⟩
theorem tt_flickers {x_now_places : Int32} {x_now_people : Int32} {x_now_hour : Int32} {x_now_chance : Int32} {x_now_seed : Int32} {x_now_ways : Nat → Int32} {x_now_distances : Nat → Int32} {x_now_kind : Nat → Int32} {x_now_a : Nat → Int32} {x_now_home : Nat → Int32} {x_now_aim : Nat → Int32} {x_now_at : Nat → Int32} {x_kept_places : Int32} {x_kept_people : Int32} {x_kept_hour : Int32} {x_kept_chance : Int32} {x_kept_seed : Int32} {x_kept_ways : Nat → Int32} {x_kept_distances : Nat → Int32} {x_kept_kind : Nat → Int32} {x_kept_a : Nat → Int32} {x_kept_home : Nat → Int32} {x_kept_aim : Nat → Int32} {x_kept_at : Nat → Int32} {x_isKept : Int32} {x_shelves_c : Nat → Int32} {x_shelves_z : Nat → Int32} {x_shelves_e : Nat → Nat → Int64} {x_tape_size : Int32} {x_tape_bytes : Nat → Int32} {x_refusals : Nat → Int32} {m_places : Int32} {m_people : Int32} {m_hour : Int32} {m_chance : Int32} {m_seed : Int32} {m_ways : Nat → Int32} {m_kind : Nat → Int32} {m_by : Nat → Int32} {m_home : Nat → Int32} {m_aim : Nat → Int32} {m_at0 : Nat → Int32} {m_shelf : Nat → Int32} {m_rowSort : Nat → Int32} {m_rowSize : Nat → Int32} {m_rows : Nat → Nat → Int64} {m_shown : Nat → Int32} {m_tape : Nat → Int32} {m_tapeSize : Int32} {m_refused : Nat → Int32} {m_gone : Int32} {m_kept_places : Int32} {m_kept_people : Int32} {m_kept_hour : Int32} {m_kept_chance : Int32} {m_kept_seed : Int32} {m_kept_ways : Nat → Int32} {m_kept_kind : Nat → Int32} {m_kept_by : Nat → Int32} {m_kept_home : Nat → Int32} {m_kept_aim : Nat → Int32} {m_kept_at0 : Nat → Int32} {kb : Bool} (x_future_places : Int32) (x_future_people : Int32) (x_future_hour : Int32) (x_future_chance : Int32) (x_future_seed : Int32) (x_future_ways : Nat → Int32) (x_future_distances : Nat → Int32) (x_future_kind : Nat → Int32) (x_future_a : Nat → Int32) (x_future_home : Nat → Int32) (x_future_aim : Nat → Int32) (x_future_at : Nat → Int32) (m_now : Int32) (m_steps : Nat → Int32) (m_spot : Nat → Int32) (m_then : Nat → Int32) (p0 : Int32) (R : Rel kb x_now_places x_now_people x_now_hour x_now_chance x_now_seed x_now_ways x_now_distances x_now_kind x_now_a x_now_home x_now_aim x_now_at x_kept_places x_kept_people x_kept_hour x_kept_chance x_kept_seed x_kept_ways x_kept_distances x_kept_kind x_kept_a x_kept_home x_kept_aim x_kept_at x_isKept x_shelves_c x_shelves_z x_shelves_e x_tape_size x_tape_bytes x_refusals m_places m_people m_hour m_chance m_seed m_ways m_kind m_by m_home m_aim m_at0 m_shelf m_rowSort m_rowSize m_rows m_shown m_tape m_tapeSize m_refused m_gone m_kept_places m_kept_people m_kept_hour m_kept_chance m_kept_seed m_kept_ways m_kept_kind m_kept_by m_kept_home m_kept_aim m_kept_at0) : ∃ (r : Int32) (y_future_places : Int32) (y_future_people : Int32) (y_future_hour : Int32) (y_future_chance : Int32) (y_future_seed : Int32) (y_future_ways : Nat → Int32) (y_future_distances : Nat → Int32) (y_future_kind : Nat → Int32) (y_future_a : Nat → Int32) (y_future_home : Nat → Int32) (y_future_aim : Nat → Int32) (y_future_at : Nat → Int32) (y_refusals : Nat → Int32) (z_now : Int32) (z_refused : Nat → Int32) (z_steps : Nat → Int32) (z_spot : Nat → Int32) (z_then : Nat → Int32), fX7_flickers x_now_places x_now_people x_now_hour x_now_chance x_now_seed x_now_ways x_now_distances x_now_kind x_now_a x_now_home x_now_aim x_now_at x_future_places x_future_people x_future_hour x_future_chance x_future_seed x_future_ways x_future_distances x_future_kind x_future_a x_future_home x_future_aim x_future_at x_refusals p0 = some (r, y_future_places, y_future_people, y_future_hour, y_future_chance, y_future_seed, y_future_ways, y_future_distances, y_future_kind, y_future_a, y_future_home, y_future_aim, y_future_at, y_refusals) ∧ fX8_flickers m_places m_people m_hour m_now m_gone m_refused m_ways m_kind m_home m_aim m_at0 m_steps m_spot m_then p0 = some (r, z_now, z_refused, z_steps, z_spot, z_then) ∧ Rel kb x_now_places x_now_people x_now_hour x_now_chance x_now_seed x_now_ways x_now_distances x_now_kind x_now_a x_now_home x_now_aim x_now_at x_kept_places x_kept_people x_kept_hour x_kept_chance x_kept_seed x_kept_ways x_kept_distances x_kept_kind x_kept_a x_kept_home x_kept_aim x_kept_at x_isKept x_shelves_c x_shelves_z x_shelves_e x_tape_size x_tape_bytes y_refusals m_places m_people m_hour m_chance m_seed m_ways m_kind m_by m_home m_aim m_at0 m_shelf m_rowSort m_rowSize m_rows m_shown m_tape m_tapeSize z_refused m_gone m_kept_places m_kept_people m_kept_hour m_kept_chance m_kept_seed m_kept_ways m_kept_kind m_kept_by m_kept_home m_kept_aim m_kept_at0 := by
  have R0 := R
  obtain ⟨P, n, h, c, s, W, K, A, H, M, L, T, ⟨rfl, rfl, rfl, rfl, rfl, rfl, xd, xk, xa, xh, xm, xl⟩, ⟨rfl, rfl, rfl, rfl, rfl, rfl, mk, ma, mh, mm, ml⟩, rfl, S, U, V, Z⟩ := R
  obtain ⟨hP2, hP, hn, hW, hK, hH, hM, hL, hho⟩ := id T
  obtain ⟨Lt, Ht, L0, H0, Ta, sx, sm, nq⟩ := hrs T xd xk xh xm mk mh mm
  subst L0
  subst H0
  obtain ⟨x2, m2, e1, e2, q⟩ := rf2 V
  rcases cSpan p0 with ⟨k, hk1, hk, rfl, b1, b2⟩ | ⟨b1, b2⟩
  · have hx : (fun o => ∃ (hr : Int32) (at2 : Nat → Int32), o = some (nI (cnt (fun i => !((dkm (fun p => dk (K p)) (Lt (i + 1)) n) == (dkm (fun p => dk (K p)) (Lt (i)) n))) k), nI P, nI n, hr, m_chance, m_seed, nf W, x_now_distances, x_now_kind, x_now_a, x_now_home, x_now_aim, at2, x_refusals)) (fX7_flickers (nI P) (nI n) (nI (Ht 0)) m_chance m_seed (nf W) x_now_distances x_now_kind x_now_a x_now_home x_now_aim x_now_at x_future_places x_future_people x_future_hour x_future_chance x_future_seed x_future_ways x_future_distances x_future_kind x_future_a x_future_home x_future_aim x_future_at x_refusals (nI k)) := by
      unfold fX7_flickers
      simp only [b1, n1z, n0z, bo1, bo2, bo3, bo4, bo5, bo6, bo7, bo12, jo0, i10, i00, if_true, if_false, ite_self, p_become]
      refine lph4 (Φ := fun o => ∃ (hr : Int32) (at2 : Nat → Int32), o = some (nI (cnt (fun i => !((dkm (fun p => dk (K p)) (Lt (i + 1)) n) == (dkm (fun p => dk (K p)) (Lt (i)) n))) k), nI P, nI n, hr, m_chance, m_seed, nf W, x_now_distances, x_now_kind, x_now_a, x_now_home, x_now_aim, at2, x_refusals)) (fun i a b u v => a = nI (cnt (fun i => !((dkm (fun p => dk (K p)) (Lt (i + 1)) n) == (dkm (fun p => dk (K p)) (Lt (i)) n))) i) ∧ b = nI (i + 1) ∧ u = nI (Ht i) ∧ ag n v (Lt (i))) k ⟨rfl, rfl, rfl, xl⟩ (fun i hi a b u v z => ?_) (fun a b u v z g => ?_) 400 (by omega)
      · obtain ⟨rfl, rfl, rfl, z⟩ := z
        obtain ⟨af, f1, f2⟩ := sx i _ z
        have Tt := Ta (i + 1)
        have Ti := Ta i
        have l1 := dk_lt (K := K) (D := (fun p => dk (K p))) hP Tt.2.2.2.2.2.2.2.1
        have l2 := dk_lt (K := K) (D := (fun p => dk (K p))) hP Ti.2.2.2.2.2.2.2.1
        refine ⟨_, _, _, _, ⟨rfl, rfl, rfl, f2⟩, fun g => ?_⟩
        simp only [n_lt1 (k := k) (by omega) i (by omega), show ¬ k < i + 1 from by omega, bo1, bo2, bo3, bo4, bo5, bo6, bo7, bo12, jo0, jo1, vlet, i10, i00, if_true, if_false, ite_self, n1z, n0z, f1, p_darkPlaces hn xk f2 hK Tt.lt, p_darkPlaces hn xk z hK Ti.lt, neq (a := (dkm (fun p => dk (K p)) (Lt (i + 1)) n)) (b := (dkm (fun p => dk (K p)) (Lt (i)) n)) (by omega) (by omega), nI_1, cnt_s]
        by_cases e : (dkm (fun p => dk (K p)) (Lt (i + 1)) n) = (dkm (fun p => dk (K p)) (Lt (i)) n)
        · simp [e]
        · simp [e]
      · obtain ⟨rfl, rfl, rfl, z⟩ := z
        exact ⟨_, _, if_pos (nI_lt (by omega) (by omega))⟩
    have hm : (fun o => ∃ (nw : Int32) (st sp tt : Nat → Int32), o = some (nI (cnt (fun i => !((dkm (fun p => dk (K p)) (Lt (i + 1)) n) == (dkm (fun p => dk (K p)) (Lt (i)) n))) k), nw, m_refused, st, sp, tt)) (fX8_flickers (nI P) (nI n) (nI (Ht 0)) m_now (-1) m_refused (nf W) m_kind m_home m_aim m_at0 m_steps m_spot m_then (nI k)) := by
      obtain ⟨s1, g1, g2⟩ := p_begin (hh := nI (Ht 0)) (s0 := m_spot) hn ml
      unfold fX8_flickers
      simp only [b2, n1z, n0z, bo1, bo2, bo3, bo4, bo5, bo6, bo7, bo12, jo0, i10, i00, if_true, if_false, ite_self, g1]
      refine lph6 (Φ := fun o => ∃ (nw : Int32) (st sp tt : Nat → Int32), o = some (nI (cnt (fun i => !((dkm (fun p => dk (K p)) (Lt (i + 1)) n) == (dkm (fun p => dk (K p)) (Lt (i)) n))) k), nw, m_refused, st, sp, tt)) (fun i a b u _ v _ => a = nI (cnt (fun i => !((dkm (fun p => dk (K p)) (Lt (i + 1)) n) == (dkm (fun p => dk (K p)) (Lt (i)) n))) i) ∧ b = nI i ∧ u = nI (Ht i) ∧ ag n v (Lt (i))) k ⟨rfl, rfl, rfl, g2⟩ (fun i hi a b u s v t z => ?_) (fun a b u s v t z g => ?_) 400 (by omega)
      · obtain ⟨rfl, rfl, rfl, z⟩ := z
        obtain ⟨st, sp, tt, f1, f2⟩ := sm i s _ t z
        have Tt := Ta (i + 1)
        have Ti := Ta i
        have l1 := lt_lt (m := (dkm (fun p => dk (K p)) (Lt (i + 1)) n)) hP
        have l2 := lt_lt (m := (dkm (fun p => dk (K p)) (Lt (i)) n)) hP
        refine ⟨_, _, _, st, sp, tt, ⟨rfl, rfl, rfl, f2⟩, fun g => ?_⟩
        simp only [nle (a := k) (b := i) (by omega) (by omega), show ¬ k ≤ i from by omega, bo1, bo2, bo3, bo4, bo5, bo6, bo7, bo12, jo0, jo1, vlet, i10, i00, if_true, if_false, ite_self, n1z, n0z, f1, p_mlight0 hP hn mk f2 hK Tt.lt, p_mlight0 hP hn mk z hK Ti.lt, neq (a := ltm P (dkm (fun p => dk (K p)) (Lt (i + 1)) n)) (b := ltm P (dkm (fun p => dk (K p)) (Lt (i)) n)) (by omega) (by omega), ltm_eq (dkm_lt Tt.2.2.2.2.2.2.2.1) (dkm_lt Ti.2.2.2.2.2.2.2.1), nI_1, cnt_s]
        by_cases e : (dkm (fun p => dk (K p)) (Lt (i + 1)) n) = (dkm (fun p => dk (K p)) (Lt (i)) n)
        · simp [e]
        · simp [e]
      · obtain ⟨rfl, rfl, rfl, z⟩ := z
        exact ⟨_, _, _, _, if_pos (Int32.le_refl _)⟩
    obtain ⟨y1, y2, hx⟩ := hx
    obtain ⟨z1, z2, z3, z4, hm⟩ := hm
    rw [hx, hm]
    exact ⟨_, _, _, _, _, _, _, _, _, _, _, _, _, _, _, _, _, _, _, rfl, rfl, R0⟩
  · unfold fX7_flickers fX8_flickers
    simp only [b1, b2, e1, e2, n1z, n0z, bo1, bo2, bo3, bo4, bo5, bo6, bo7, bo12, jo0, i10, i00, if_true, if_false, ite_self]
    exact ⟨_, _, _, _, _, _, _, _, _, _, _, _, _, _, _, _, _, _, _, rfl, rfl, R0.rf q⟩
