/-! ===== people, what is kept ===== -/
theorem tt_person {x_now_places : Int32} {x_now_people : Int32} {x_now_hour : Int32} {x_now_chance : Int32} {x_now_seed : Int32} {x_now_ways : Nat → Int32} {x_now_distances : Nat → Int32} {x_now_kind : Nat → Int32} {x_now_a : Nat → Int32} {x_now_home : Nat → Int32} {x_now_aim : Nat → Int32} {x_now_at : Nat → Int32} {x_kept_places : Int32} {x_kept_people : Int32} {x_kept_hour : Int32} {x_kept_chance : Int32} {x_kept_seed : Int32} {x_kept_ways : Nat → Int32} {x_kept_distances : Nat → Int32} {x_kept_kind : Nat → Int32} {x_kept_a : Nat → Int32} {x_kept_home : Nat → Int32} {x_kept_aim : Nat → Int32} {x_kept_at : Nat → Int32} {x_isKept : Int32} {x_shelves_c : Nat → Int32} {x_shelves_z : Nat → Int32} {x_shelves_e : Nat → Nat → Int64} {x_tape_size : Int32} {x_tape_bytes : Nat → Int32} {x_refusals : Nat → Int32} {m_places : Int32} {m_people : Int32} {m_hour : Int32} {m_chance : Int32} {m_seed : Int32} {m_ways : Nat → Int32} {m_kind : Nat → Int32} {m_by : Nat → Int32} {m_home : Nat → Int32} {m_aim : Nat → Int32} {m_at0 : Nat → Int32} {m_shelf : Nat → Int32} {m_rowSort : Nat → Int32} {m_rowSize : Nat → Int32} {m_rows : Nat → Nat → Int64} {m_shown : Nat → Int32} {m_tape : Nat → Int32} {m_tapeSize : Int32} {m_refused : Nat → Int32} {m_gone : Int32} {m_kept_places : Int32} {m_kept_people : Int32} {m_kept_hour : Int32} {m_kept_chance : Int32} {m_kept_seed : Int32} {m_kept_ways : Nat → Int32} {m_kept_kind : Nat → Int32} {m_kept_by : Nat → Int32} {m_kept_home : Nat → Int32} {m_kept_aim : Nat → Int32} {m_kept_at0 : Nat → Int32} {kb : Bool} (p0 : Int32) (p1 : Int32) (p2 : Int32) (p3 : Int32) (R : Rel kb x_now_places x_now_people x_now_hour x_now_chance x_now_seed x_now_ways x_now_distances x_now_kind x_now_a x_now_home x_now_aim x_now_at x_kept_places x_kept_people x_kept_hour x_kept_chance x_kept_seed x_kept_ways x_kept_distances x_kept_kind x_kept_a x_kept_home x_kept_aim x_kept_at x_isKept x_shelves_c x_shelves_z x_shelves_e x_tape_size x_tape_bytes x_refusals m_places m_people m_hour m_chance m_seed m_ways m_kind m_by m_home m_aim m_at0 m_shelf m_rowSort m_rowSize m_rows m_shown m_tape m_tapeSize m_refused m_gone m_kept_places m_kept_people m_kept_hour m_kept_chance m_kept_seed m_kept_ways m_kept_kind m_kept_by m_kept_home m_kept_aim m_kept_at0) : ∃ (r : Int32) (y_now_people : Int32) (y_now_kind : Nat → Int32) (y_now_a : Nat → Int32) (y_now_home : Nat → Int32) (y_now_aim : Nat → Int32) (y_now_at : Nat → Int32) (y_refusals : Nat → Int32) (z_people : Int32) (z_refused : Nat → Int32) (z_kind : Nat → Int32) (z_by : Nat → Int32) (z_home : Nat → Int32) (z_aim : Nat → Int32) (z_at0 : Nat → Int32), fX7_person x_now_places x_now_people x_now_kind x_now_a x_now_home x_now_aim x_now_at x_refusals p0 p1 p2 p3 = some (r, y_now_people, y_now_kind, y_now_a, y_now_home, y_now_aim, y_now_at, y_refusals) ∧ fX8_person m_places m_people m_refused m_kind m_by m_home m_aim m_at0 p0 p1 p2 p3 = some (r, z_people, z_refused, z_kind, z_by, z_home, z_aim, z_at0) ∧ Rel kb x_now_places y_now_people x_now_hour x_now_chance x_now_seed x_now_ways x_now_distances y_now_kind y_now_a y_now_home y_now_aim y_now_at x_kept_places x_kept_people x_kept_hour x_kept_chance x_kept_seed x_kept_ways x_kept_distances x_kept_kind x_kept_a x_kept_home x_kept_aim x_kept_at x_isKept x_shelves_c x_shelves_z x_shelves_e x_tape_size x_tape_bytes y_refusals m_places z_people m_hour m_chance m_seed m_ways z_kind z_by z_home z_aim z_at0 m_shelf m_rowSort m_rowSize m_rows m_shown m_tape m_tapeSize z_refused m_gone m_kept_places m_kept_people m_kept_hour m_kept_chance m_kept_seed m_kept_ways m_kept_kind m_kept_by m_kept_home m_kept_aim m_kept_at0 := by
  have R0 := R
  obtain ⟨P, n, h, c, s, W, K, A, H, M, L, T, ⟨rfl, rfl, rfl, rfl, rfl, rfl, xd, xk, xa, xh, xm, xl⟩, ⟨rfl, rfl, rfl, rfl, rfl, rfl, mk, ma, mh, mm, ml⟩, rfl, S, U, V, Z⟩ := R
  obtain ⟨hP2, hP, hn, hW, hK, hH, hM, hL, hho⟩ := id T
  obtain ⟨x2, m2, e1, e2, q⟩ := rf2 V
  unfold fX7_person fX8_person
  rcases cKind p0 with ⟨k, hk, rfl, a1, a2⟩ | ⟨a1, a2⟩
  · rcases cIn 0 9 0 9 (by decide) (by decide) (by omega) (by omega) p1 with ⟨a, -, ha, rfl, b2⟩ | ⟨b1, b2⟩
    · rcases cPlace P hP p2 with ⟨hm, hhm, rfl, c1, c2⟩ | ⟨c1, c2⟩
      · rcases cPlace P hP p3 with ⟨am, ham, rfl, d1, d2⟩ | ⟨d1, d2⟩
        · by_cases g : n = 8
          · obtain ⟨x6, m6, f1, f2, q6⟩ := rf6 V
            subst g
            simp only [a1, a2, b2, c1, c2, d1, d2, f1, f2, bo1, bo2, bo3, bo4, bo5, bo6, bo7, bo12, jo0, jo1, vlet, i10, i00, if_true, if_false, ite_self, if_neg (nI_pos (n := a) (by omega)), show (9 : Int32) = nI 9 from rfl, nlt (a := 9) (b := a) (by omega) (by omega), show ¬ 9 < a from by omega, show (8 : Int32) = nI 8 from rfl, nlt (a := 8) (b := 8) (by omega) (by omega), show ¬ 8 < 8 from by omega]
            exact ⟨_, _, _, _, _, _, _, _, _, _, _, _, _, _, _, rfl, rfl, R0.rf q6⟩
          · unfold fX5_addPerson fX8_addPerson
            simp only [a1, a2, b2, c1, c2, d1, d2, bo1, bo2, bo3, bo4, bo5, bo6, bo7, bo12, jo0, jo1, vlet, i10, i00, if_true, if_false, ite_self, if_neg (nI_pos (n := a) (by omega)), show (9 : Int32) = nI 9 from rfl, nlt (a := 9) (b := a) (by omega) (by omega), show ¬ 9 < a from by omega, show (8 : Int32) = nI 8 from rfl, nlt (a := n) (b := 8) (by omega) (by omega), show n < 8 from by omega, neq (a := n) (b := 8) (by omega) (by omega), g, if_n (nin (k := n) (N := 8) (by omega) (by omega)), if_n (nin2 (k := n) (N := 8) (by omega) (by omega)), nc (n := n) (by omega), nI_1, nI_pred]
            exact ⟨_, _, _, _, _, _, _, _, _, _, _, _, _, _, _, rfl, rfl, ⟨P, n + 1, h, _, _, W, nup K n k, nup A n a, nup H n hm, nup M n am, nup L n hm, ⟨hP2, hP, by omega, hW, nup_lt1 hK hk, nup_lt1 hH hhm, nup_lt1 hM ham, nup_lt1 hL hhm, hho⟩, ⟨rfl, rfl, rfl, rfl, rfl, rfl, xd, ag_up1 xk k, ag_up1 xa a, ag_up1 xh hm, ag_up1 xm am, ag_up1 xl hm⟩, ⟨rfl, rfl, rfl, rfl, rfl, rfl, ag_up1 mk k, ag_up1 ma a, ag_up1 mh hm, ag_up1 mm am, ag_up1 ml hm⟩, rfl, S.mono (by omega), U, V, Z⟩⟩
        · simp only [a1, a2, b2, c1, c2, d1, d2, e1, e2, bo1, bo2, bo3, bo4, bo5, bo6, bo7, bo12, jo0, jo1, vlet, i10, i00, if_true, if_false, ite_self]
          exact ⟨_, _, _, _, _, _, _, _, _, _, _, _, _, _, _, rfl, rfl, R0.rf q⟩
      · simp only [a1, a2, b2, c1, c2, e1, e2, bo1, bo2, bo3, bo4, bo5, bo6, bo7, bo12, jo0, jo1, vlet, i10, i00, if_true, if_false, ite_self]
        exact ⟨_, _, _, _, _, _, _, _, _, _, _, _, _, _, _, rfl, rfl, R0.rf q⟩
    · rcases b1 with b1 | b1
      · simp only [a1, a2, b2, e1, e2, bo1, bo2, bo3, bo4, bo5, bo6, bo7, bo12, jo0, jo1, vlet, i10, i00, if_true, if_false, ite_self, if_pos (show p1 < 0 from b1)]
        exact ⟨_, _, _, _, _, _, _, _, _, _, _, _, _, _, _, rfl, rfl, R0.rf q⟩
      · simp only [a1, a2, b2, e1, e2, bo1, bo2, bo3, bo4, bo5, bo6, bo7, bo12, jo0, jo1, vlet, i10, i00, if_true, if_false, ite_self, if_pos (show (9 : Int32) < p1 from b1)]
        exact ⟨_, _, _, _, _, _, _, _, _, _, _, _, _, _, _, rfl, rfl, R0.rf q⟩
  · simp only [a1, a2, e1, e2, bo1, bo2, bo3, bo4, bo5, bo6, bo7, bo12, jo0, jo1, vlet, i10, i00, if_true, if_false, ite_self]
    exact ⟨_, _, _, _, _, _, _, _, _, _, _, _, _, _, _, rfl, rfl, R0.rf q⟩
theorem cWhat (t : Nat) (x : Int32) (hx : x = nI t) (ht : t ≤ 2) : ((x = 0) = (t = 0)) ∧ ((x = (1 : Int32)) = (t = 1)) ∧ ((x = (2 : Int32)) = (t = 2)) := by
  subst hx
  exact ⟨neq (b := 0) (by omega) (by omega), neq (b := 1) (by omega) (by omega), neq (b := 2) (by omega) (by omega)⟩
theorem tt_put {x_now_places : Int32} {x_now_people : Int32} {x_now_hour : Int32} {x_now_chance : Int32} {x_now_seed : Int32} {x_now_ways : Nat → Int32} {x_now_distances : Nat → Int32} {x_now_kind : Nat → Int32} {x_now_a : Nat → Int32} {x_now_home : Nat → Int32} {x_now_aim : Nat → Int32} {x_now_at : Nat → Int32} {x_kept_places : Int32} {x_kept_people : Int32} {x_kept_hour : Int32} {x_kept_chance : Int32} {x_kept_seed : Int32} {x_kept_ways : Nat → Int32} {x_kept_distances : Nat → Int32} {x_kept_kind : Nat → Int32} {x_kept_a : Nat → Int32} {x_kept_home : Nat → Int32} {x_kept_aim : Nat → Int32} {x_kept_at : Nat → Int32} {x_isKept : Int32} {x_shelves_c : Nat → Int32} {x_shelves_z : Nat → Int32} {x_shelves_e : Nat → Nat → Int64} {x_tape_size : Int32} {x_tape_bytes : Nat → Int32} {x_refusals : Nat → Int32} {m_places : Int32} {m_people : Int32} {m_hour : Int32} {m_chance : Int32} {m_seed : Int32} {m_ways : Nat → Int32} {m_kind : Nat → Int32} {m_by : Nat → Int32} {m_home : Nat → Int32} {m_aim : Nat → Int32} {m_at0 : Nat → Int32} {m_shelf : Nat → Int32} {m_rowSort : Nat → Int32} {m_rowSize : Nat → Int32} {m_rows : Nat → Nat → Int64} {m_shown : Nat → Int32} {m_tape : Nat → Int32} {m_tapeSize : Int32} {m_refused : Nat → Int32} {m_gone : Int32} {m_kept_places : Int32} {m_kept_people : Int32} {m_kept_hour : Int32} {m_kept_chance : Int32} {m_kept_seed : Int32} {m_kept_ways : Nat → Int32} {m_kept_kind : Nat → Int32} {m_kept_by : Nat → Int32} {m_kept_home : Nat → Int32} {m_kept_aim : Nat → Int32} {m_kept_at0 : Nat → Int32} {kb : Bool} (p0 : Int32) (p1 : Int32) (p2 : Int32) (R : Rel kb x_now_places x_now_people x_now_hour x_now_chance x_now_seed x_now_ways x_now_distances x_now_kind x_now_a x_now_home x_now_aim x_now_at x_kept_places x_kept_people x_kept_hour x_kept_chance x_kept_seed x_kept_ways x_kept_distances x_kept_kind x_kept_a x_kept_home x_kept_aim x_kept_at x_isKept x_shelves_c x_shelves_z x_shelves_e x_tape_size x_tape_bytes x_refusals m_places m_people m_hour m_chance m_seed m_ways m_kind m_by m_home m_aim m_at0 m_shelf m_rowSort m_rowSize m_rows m_shown m_tape m_tapeSize m_refused m_gone m_kept_places m_kept_people m_kept_hour m_kept_chance m_kept_seed m_kept_ways m_kept_kind m_kept_by m_kept_home m_kept_aim m_kept_at0) : ∃ (r : Int32) (y_now_home : Nat → Int32) (y_now_aim : Nat → Int32) (y_now_at : Nat → Int32) (y_refusals : Nat → Int32) (z_refused : Nat → Int32) (z_home : Nat → Int32) (z_aim : Nat → Int32) (z_at0 : Nat → Int32), fX7_put x_now_places x_now_people x_now_home x_now_aim x_now_at x_refusals p0 p1 p2 = some (r, y_now_home, y_now_aim, y_now_at, y_refusals) ∧ fX8_put m_places m_people m_refused m_home m_aim m_at0 p0 p1 p2 = some (r, z_refused, z_home, z_aim, z_at0) ∧ Rel kb x_now_places x_now_people x_now_hour x_now_chance x_now_seed x_now_ways x_now_distances x_now_kind x_now_a y_now_home y_now_aim y_now_at x_kept_places x_kept_people x_kept_hour x_kept_chance x_kept_seed x_kept_ways x_kept_distances x_kept_kind x_kept_a x_kept_home x_kept_aim x_kept_at x_isKept x_shelves_c x_shelves_z x_shelves_e x_tape_size x_tape_bytes y_refusals m_places m_people m_hour m_chance m_seed m_ways m_kind m_by z_home z_aim z_at0 m_shelf m_rowSort m_rowSize m_rows m_shown m_tape m_tapeSize z_refused m_gone m_kept_places m_kept_people m_kept_hour m_kept_chance m_kept_seed m_kept_ways m_kept_kind m_kept_by m_kept_home m_kept_aim m_kept_at0 := by
  have R0 := R
  obtain ⟨P, n, h, c, s, W, K, A, H, M, L, T, ⟨rfl, rfl, rfl, rfl, rfl, rfl, xd, xk, xa, xh, xm, xl⟩, ⟨rfl, rfl, rfl, rfl, rfl, rfl, mk, ma, mh, mm, ml⟩, rfl, S, U, V, Z⟩ := R
  obtain ⟨hP2, hP, hn, hW, hK, hH, hM, hL, hho⟩ := id T
  obtain ⟨x2, m2, e1, e2, q⟩ := rf2 V
  unfold fX7_put fX8_put
  rcases cPerson n hn p0 with ⟨p, hp, rfl, a1, a2⟩ | ⟨a1, a2⟩
  · rcases cIn 0 2 0 2 (by decide) (by decide) (by omega) (by omega) p1 with ⟨t, -, ht, ht1, b2⟩ | ⟨b1, b2⟩
    · rcases cPlace P hP p2 with ⟨v, hv, rfl, c1, c2⟩ | ⟨c1, c2⟩
      · obtain ⟨w0, w1, w2⟩ := cWhat t p1 ht1 ht
        have w3 : ¬ p1 < 0 := by rw [ht1]; exact nI_pos (by omega)
        have w4 : ¬ (2 : Int32) < p1 := by rw [ht1, show (2 : Int32) = nI 2 from rfl, nlt (by omega) (by omega)]; omega
        simp only [a1, a2, b2, c1, c2, bo1, bo2, bo3, bo4, bo5, bo6, bo7, bo12, jo0, jo1, vlet, i10, i00, if_true, if_false, ite_self, if_neg w3, if_neg w4, w0, w1, w2, if_n (nin (k := p) (N := 8) (by omega) (by omega)), if_n (nin2 (k := p) (N := 8) (by omega) (by omega)), nc (n := p) (by omega)]
        rcases (show t = 0 ∨ t = 1 ∨ t = 2 by omega) with rfl | rfl | rfl
        · simp only [bo1, bo2, bo3, bo4, bo5, bo6, bo7, bo12, jo0, jo1, vlet, i10, i00, if_true, if_false, ite_self, show ¬ (0 = 1) from by decide, show ¬ (0 = 2) from by decide, upd_id, xl p hp, ml p hp]
          exact ⟨_, _, _, _, _, _, _, _, _, rfl, rfl, ⟨P, n, h, _, _, W, K, A, H, M, nup L p v, ⟨hP2, hP, hn, hW, hK, hH, hM, nup_lt hL hv, hho⟩, ⟨rfl, rfl, rfl, rfl, rfl, rfl, xd, xk, xa, xh, xm, ag_up xl p v⟩, ⟨rfl, rfl, rfl, rfl, rfl, rfl, mk, ma, mh, mm, ag_up ml p v⟩, rfl, S, U, V, Z⟩⟩
        · simp only [bo1, bo2, bo3, bo4, bo5, bo6, bo7, bo12, jo0, jo1, vlet, i10, i00, if_true, if_false, ite_self, show ¬ (1 = 0) from by decide, show ¬ (1 = 2) from by decide, upd_id, xh p hp, mh p hp]
          exact ⟨_, _, _, _, _, _, _, _, _, rfl, rfl, ⟨P, n, h, _, _, W, K, A, nup H p v, M, L, ⟨hP2, hP, hn, hW, hK, nup_lt hH hv, hM, hL, hho⟩, ⟨rfl, rfl, rfl, rfl, rfl, rfl, xd, xk, xa, ag_up xh p v, xm, xl⟩, ⟨rfl, rfl, rfl, rfl, rfl, rfl, mk, ma, ag_up mh p v, mm, ml⟩, rfl, S, U, V, Z⟩⟩
        · simp only [bo1, bo2, bo3, bo4, bo5, bo6, bo7, bo12, jo0, jo1, vlet, i10, i00, if_true, if_false, ite_self, show ¬ (2 = 0) from by decide, show ¬ (2 = 1) from by decide, upd_id, xm p hp, mm p hp]
          exact ⟨_, _, _, _, _, _, _, _, _, rfl, rfl, ⟨P, n, h, _, _, W, K, A, H, nup M p v, L, ⟨hP2, hP, hn, hW, hK, hH, nup_lt hM hv, hL, hho⟩, ⟨rfl, rfl, rfl, rfl, rfl, rfl, xd, xk, xa, xh, ag_up xm p v, xl⟩, ⟨rfl, rfl, rfl, rfl, rfl, rfl, mk, ma, mh, ag_up mm p v, ml⟩, rfl, S, U, V, Z⟩⟩
      · simp only [a1, a2, b2, c1, c2, e1, e2, bo1, bo2, bo3, bo4, bo5, bo6, bo7, bo12, jo0, jo1, vlet, i10, i00, if_true, if_false, ite_self]
        exact ⟨_, _, _, _, _, _, _, _, _, rfl, rfl, R0.rf q⟩
    · rcases b1 with b1 | b1
      · simp only [a1, a2, b2, e1, e2, bo1, bo2, bo3, bo4, bo5, bo6, bo7, bo12, jo0, jo1, vlet, i10, i00, if_true, if_false, ite_self, if_pos (show p1 < 0 from b1)]
        exact ⟨_, _, _, _, _, _, _, _, _, rfl, rfl, R0.rf q⟩
      · simp only [a1, a2, b2, e1, e2, bo1, bo2, bo3, bo4, bo5, bo6, bo7, bo12, jo0, jo1, vlet, i10, i00, if_true, if_false, ite_self, if_pos (show (2 : Int32) < p1 from b1)]
        exact ⟨_, _, _, _, _, _, _, _, _, rfl, rfl, R0.rf q⟩
  · simp only [a1, a2, e1, e2, bo1, bo2, bo3, bo4, bo5, bo6, bo7, bo12, jo0, jo1, vlet, i10, i00, if_true, if_false, ite_self]
    exact ⟨_, _, _, _, _, _, _, _, _, rfl, rfl, R0.rf q⟩
theorem tt_personOf {x_now_places : Int32} {x_now_people : Int32} {x_now_hour : Int32} {x_now_chance : Int32} {x_now_seed : Int32} {x_now_ways : Nat → Int32} {x_now_distances : Nat → Int32} {x_now_kind : Nat → Int32} {x_now_a : Nat → Int32} {x_now_home : Nat → Int32} {x_now_aim : Nat → Int32} {x_now_at : Nat → Int32} {x_kept_places : Int32} {x_kept_people : Int32} {x_kept_hour : Int32} {x_kept_chance : Int32} {x_kept_seed : Int32} {x_kept_ways : Nat → Int32} {x_kept_distances : Nat → Int32} {x_kept_kind : Nat → Int32} {x_kept_a : Nat → Int32} {x_kept_home : Nat → Int32} {x_kept_aim : Nat → Int32} {x_kept_at : Nat → Int32} {x_isKept : Int32} {x_shelves_c : Nat → Int32} {x_shelves_z : Nat → Int32} {x_shelves_e : Nat → Nat → Int64} {x_tape_size : Int32} {x_tape_bytes : Nat → Int32} {x_refusals : Nat → Int32} {m_places : Int32} {m_people : Int32} {m_hour : Int32} {m_chance : Int32} {m_seed : Int32} {m_ways : Nat → Int32} {m_kind : Nat → Int32} {m_by : Nat → Int32} {m_home : Nat → Int32} {m_aim : Nat → Int32} {m_at0 : Nat → Int32} {m_shelf : Nat → Int32} {m_rowSort : Nat → Int32} {m_rowSize : Nat → Int32} {m_rows : Nat → Nat → Int64} {m_shown : Nat → Int32} {m_tape : Nat → Int32} {m_tapeSize : Int32} {m_refused : Nat → Int32} {m_gone : Int32} {m_kept_places : Int32} {m_kept_people : Int32} {m_kept_hour : Int32} {m_kept_chance : Int32} {m_kept_seed : Int32} {m_kept_ways : Nat → Int32} {m_kept_kind : Nat → Int32} {m_kept_by : Nat → Int32} {m_kept_home : Nat → Int32} {m_kept_aim : Nat → Int32} {m_kept_at0 : Nat → Int32} {kb : Bool} (p0 : Int32) (p1 : Int32) (R : Rel kb x_now_places x_now_people x_now_hour x_now_chance x_now_seed x_now_ways x_now_distances x_now_kind x_now_a x_now_home x_now_aim x_now_at x_kept_places x_kept_people x_kept_hour x_kept_chance x_kept_seed x_kept_ways x_kept_distances x_kept_kind x_kept_a x_kept_home x_kept_aim x_kept_at x_isKept x_shelves_c x_shelves_z x_shelves_e x_tape_size x_tape_bytes x_refusals m_places m_people m_hour m_chance m_seed m_ways m_kind m_by m_home m_aim m_at0 m_shelf m_rowSort m_rowSize m_rows m_shown m_tape m_tapeSize m_refused m_gone m_kept_places m_kept_people m_kept_hour m_kept_chance m_kept_seed m_kept_ways m_kept_kind m_kept_by m_kept_home m_kept_aim m_kept_at0) : ∃ (r : Int32) (y_refusals : Nat → Int32) (z_refused : Nat → Int32), fX7_personOf x_now_people x_now_kind x_now_a x_now_home x_now_aim x_now_at x_refusals p0 p1 = some (r, y_refusals) ∧ fX8_personOf m_people m_gone m_refused m_kind m_by m_home m_aim m_at0 p0 p1 = some (r, z_refused) ∧ Rel kb x_now_places x_now_people x_now_hour x_now_chance x_now_seed x_now_ways x_now_distances x_now_kind x_now_a x_now_home x_now_aim x_now_at x_kept_places x_kept_people x_kept_hour x_kept_chance x_kept_seed x_kept_ways x_kept_distances x_kept_kind x_kept_a x_kept_home x_kept_aim x_kept_at x_isKept x_shelves_c x_shelves_z x_shelves_e x_tape_size x_tape_bytes y_refusals m_places m_people m_hour m_chance m_seed m_ways m_kind m_by m_home m_aim m_at0 m_shelf m_rowSort m_rowSize m_rows m_shown m_tape m_tapeSize z_refused m_gone m_kept_places m_kept_people m_kept_hour m_kept_chance m_kept_seed m_kept_ways m_kept_kind m_kept_by m_kept_home m_kept_aim m_kept_at0 := by
  have R0 := R
  obtain ⟨P, n, h, c, s, W, K, A, H, M, L, T, ⟨rfl, rfl, rfl, rfl, rfl, rfl, xd, xk, xa, xh, xm, xl⟩, ⟨rfl, rfl, rfl, rfl, rfl, rfl, mk, ma, mh, mm, ml⟩, rfl, S, U, V, Z⟩ := R
  obtain ⟨hP2, hP, hn, hW, hK, hH, hM, hL, hho⟩ := id T
  obtain ⟨x2, m2, e1, e2, q⟩ := rf2 V
  unfold fX7_personOf fX8_personOf
  rcases cPerson n hn p0 with ⟨p, hp, rfl, a1, a2⟩ | ⟨a1, a2⟩
  · have hd1 := p_darkens hn hp xk hK
    have hd2 := p_mdarkens hn hp gn_no mk hK
    simp only [Bool.not_false, Bool.true_and] at hd2
    rcases cIn 0 5 0 5 (by decide) (by decide) (by omega) (by omega) p1 with ⟨t, -, ht, ht1, b2⟩ | ⟨b1, b2⟩
    · obtain ⟨w0, w1, w2, w3, w4, w5⟩ := k6 (show t < 6 by omega)
      rw [← ht1] at w0 w1 w2 w3 w4 w5
      simp only [a1, a2, b2, bo1, bo2, bo3, bo4, bo5, bo6, bo7, bo12, jo0, jo1, vlet, i10, i00, if_true, if_false, ite_self, w0, w1, w2, w3, w4, w5, if_n (nin (k := p) (N := 8) (by omega) (by omega)), if_n (nin2 (k := p) (N := 8) (by omega) (by omega)), nc (n := p) (by omega), hd1, hd2, xk p hp, mk p hp, xa p hp, ma p hp, xh p hp, mh p hp, xm p hp, mm p hp, xl p hp, ml p hp, b01]
      rcases (show t = 0 ∨ t = 1 ∨ t = 2 ∨ t = 3 ∨ t = 4 ∨ t = 5 by omega) with rfl | rfl | rfl | rfl | rfl | rfl
      · exact ⟨_, _, _, rfl, rfl, R0⟩
      · exact ⟨_, _, _, rfl, rfl, R0⟩
      · exact ⟨_, _, _, rfl, rfl, R0⟩
      · exact ⟨_, _, _, rfl, rfl, R0⟩
      · exact ⟨_, _, _, rfl, rfl, R0⟩
      · cases hb : dk (K p) with
        | true => exact ⟨_, _, _, rfl, rfl, R0⟩
        | false => exact ⟨_, _, _, rfl, rfl, R0⟩
    · have ne : ∀ k, k ≤ 5 → ¬ p1 = nI k := by
        rintro k hk rfl
        rcases b1 with b1 | b1
        · exact nI_pos (by omega) b1
        · rw [nlt (by omega) (by omega)] at b1; omega
      simp only [a1, a2, b2, e1, e2, bo1, bo2, bo3, bo4, bo5, bo6, bo7, bo12, jo0, jo1, vlet, i10, i00, if_true, if_false, ite_self, show ¬ p1 = (0 : Int32) from ne 0 (by omega), show ¬ p1 = (1 : Int32) from ne 1 (by omega), show ¬ p1 = (2 : Int32) from ne 2 (by omega), show ¬ p1 = (3 : Int32) from ne 3 (by omega), show ¬ p1 = (4 : Int32) from ne 4 (by omega), show ¬ p1 = (5 : Int32) from ne 5 (by omega)]
      exact ⟨_, _, _, rfl, rfl, R0.rf q⟩
  · simp only [a1, a2, e1, e2, bo1, bo2, bo3, bo4, bo5, bo6, bo7, bo12, jo0, jo1, vlet, i10, i00, if_true, if_false, ite_self]
    exact ⟨_, _, _, rfl, rfl, R0.rf q⟩
/-- how many of the first n are such -/
def cnt (Q : Nat → Bool) : Nat → Nat
  | 0 => 0
  | n + 1 => cnt Q n + (if Q n then 1 else 0)
theorem cnt_le (Q : Nat → Bool) (n : Nat) : cnt Q n ≤ n := by
  induction n with
  | zero => exact Nat.le_refl _
  | succ n ih =>
    unfold cnt
    by_cases h : Q n = true
    · rw [if_pos h]; omega
    · rw [if_neg h]; omega
theorem p_ofKind {n k : Nat} {kf r : Nat → Int32} {K : Nat → Nat} (hn : n ≤ 8) (hk : k < 6) (xk : ag n kf K) (hK : ∀ p, p < n → K p < 6) (a : fX7_isKind (nI k) = some 1) : fX7_ofKind (nI n) kf r (nI k) = some (nI (cnt (fun p => K p == k) n), r) := by
  unfold fX7_ofKind
  simp only [a, bo1, bo2, bo3, bo4, bo5, bo6, bo7, bo12, jo0, jo1, vlet, i10, i00, if_true, if_false, ite_self]
  refine lr2 (fun i => nI (cnt (fun p => K p == k) i)) (fun i => nI i) n (fun i hi g => ?_) (fun g => ?_) 400 (by omega)
  · have := hK i hi
    simp only [nle (a := n) (b := i) (by omega) (by omega), show ¬ n ≤ i from by omega, bo1, bo2, bo3, bo4, bo5, bo6, bo7, bo12, jo0, jo1, vlet, i10, i00, if_true, if_false, ite_self, if_n (nin (k := i) (N := 8) (by omega) (by omega)), if_n (nin2 (k := i) (N := 8) (by omega) (by omega)), nc (n := i) (by omega), xk i hi, neq (a := K i) (b := k) (by omega) (by omega), nI_1, cnt]
    by_cases e : K i = k
    · simp [e]
    · simp [e]
  · simp only [Int32.le_refl, if_true]
theorem p_mofKind {n k : Nat} {kf r : Nat → Int32} {K : Nat → Nat} (hn : n ≤ 8) (hk : k < 6) (xk : ag n kf K) (hK : ∀ p, p < n → K p < 6) (a : fX8_in (nI k).toInt64 (0 : Int64) (5 : Int64) = some 1) : fX8_ofKind (nI n) r kf (nI k) = some (nI (cnt (fun p => K p == k) n), r) := by
  unfold fX8_ofKind
  simp only [a, bo1, bo2, bo3, bo4, bo5, bo6, bo7, bo12, jo0, jo1, vlet, i10, i00, if_true, if_false, ite_self]
  refine lr2 (fun i => nI (cnt (fun p => K p == k) i)) (fun i => nI i) n (fun i hi g => ?_) (fun g => ?_) 400 (by omega)
  · have := hK i hi
    simp only [nle (a := n) (b := i) (by omega) (by omega), show ¬ n ≤ i from by omega, bo1, bo2, bo3, bo4, bo5, bo6, bo7, bo12, jo0, jo1, vlet, i10, i00, if_true, if_false, ite_self, if_n (nin (k := i) (N := 8) (by omega) (by omega)), if_n (nin2 (k := i) (N := 8) (by omega) (by omega)), nc (n := i) (by omega), xk i hi, neq (a := K i) (b := k) (by omega) (by omega), nI_1, cnt]
    by_cases e : K i = k
    · simp [e]
    · simp [e]
  · simp only [Int32.le_refl, if_true]
theorem tt_ofKind {x_now_places : Int32} {x_now_people : Int32} {x_now_hour : Int32} {x_now_chance : Int32} {x_now_seed : Int32} {x_now_ways : Nat → Int32} {x_now_distances : Nat → Int32} {x_now_kind : Nat → Int32} {x_now_a : Nat → Int32} {x_now_home : Nat → Int32} {x_now_aim : Nat → Int32} {x_now_at : Nat → Int32} {x_kept_places : Int32} {x_kept_people : Int32} {x_kept_hour : Int32} {x_kept_chance : Int32} {x_kept_seed : Int32} {x_kept_ways : Nat → Int32} {x_kept_distances : Nat → Int32} {x_kept_kind : Nat → Int32} {x_kept_a : Nat → Int32} {x_kept_home : Nat → Int32} {x_kept_aim : Nat → Int32} {x_kept_at : Nat → Int32} {x_isKept : Int32} {x_shelves_c : Nat → Int32} {x_shelves_z : Nat → Int32} {x_shelves_e : Nat → Nat → Int64} {x_tape_size : Int32} {x_tape_bytes : Nat → Int32} {x_refusals : Nat → Int32} {m_places : Int32} {m_people : Int32} {m_hour : Int32} {m_chance : Int32} {m_seed : Int32} {m_ways : Nat → Int32} {m_kind : Nat → Int32} {m_by : Nat → Int32} {m_home : Nat → Int32} {m_aim : Nat → Int32} {m_at0 : Nat → Int32} {m_shelf : Nat → Int32} {m_rowSort : Nat → Int32} {m_rowSize : Nat → Int32} {m_rows : Nat → Nat → Int64} {m_shown : Nat → Int32} {m_tape : Nat → Int32} {m_tapeSize : Int32} {m_refused : Nat → Int32} {m_gone : Int32} {m_kept_places : Int32} {m_kept_people : Int32} {m_kept_hour : Int32} {m_kept_chance : Int32} {m_kept_seed : Int32} {m_kept_ways : Nat → Int32} {m_kept_kind : Nat → Int32} {m_kept_by : Nat → Int32} {m_kept_home : Nat → Int32} {m_kept_aim : Nat → Int32} {m_kept_at0 : Nat → Int32} {kb : Bool} (p0 : Int32) (R : Rel kb x_now_places x_now_people x_now_hour x_now_chance x_now_seed x_now_ways x_now_distances x_now_kind x_now_a x_now_home x_now_aim x_now_at x_kept_places x_kept_people x_kept_hour x_kept_chance x_kept_seed x_kept_ways x_kept_distances x_kept_kind x_kept_a x_kept_home x_kept_aim x_kept_at x_isKept x_shelves_c x_shelves_z x_shelves_e x_tape_size x_tape_bytes x_refusals m_places m_people m_hour m_chance m_seed m_ways m_kind m_by m_home m_aim m_at0 m_shelf m_rowSort m_rowSize m_rows m_shown m_tape m_tapeSize m_refused m_gone m_kept_places m_kept_people m_kept_hour m_kept_chance m_kept_seed m_kept_ways m_kept_kind m_kept_by m_kept_home m_kept_aim m_kept_at0) : ∃ (r : Int32) (y_refusals : Nat → Int32) (z_refused : Nat → Int32), fX7_ofKind x_now_people x_now_kind x_refusals p0 = some (r, y_refusals) ∧ fX8_ofKind m_people m_refused m_kind p0 = some (r, z_refused) ∧ Rel kb x_now_places x_now_people x_now_hour x_now_chance x_now_seed x_now_ways x_now_distances x_now_kind x_now_a x_now_home x_now_aim x_now_at x_kept_places x_kept_people x_kept_hour x_kept_chance x_kept_seed x_kept_ways x_kept_distances x_kept_kind x_kept_a x_kept_home x_kept_aim x_kept_at x_isKept x_shelves_c x_shelves_z x_shelves_e x_tape_size x_tape_bytes y_refusals m_places m_people m_hour m_chance m_seed m_ways m_kind m_by m_home m_aim m_at0 m_shelf m_rowSort m_rowSize m_rows m_shown m_tape m_tapeSize z_refused m_gone m_kept_places m_kept_people m_kept_hour m_kept_chance m_kept_seed m_kept_ways m_kept_kind m_kept_by m_kept_home m_kept_aim m_kept_at0 := by
  have R0 := R
  obtain ⟨P, n, h, c, s, W, K, A, H, M, L, T, ⟨rfl, rfl, rfl, rfl, rfl, rfl, xd, xk, xa, xh, xm, xl⟩, ⟨rfl, rfl, rfl, rfl, rfl, rfl, mk, ma, mh, mm, ml⟩, rfl, S, U, V, Z⟩ := R
  obtain ⟨hP2, hP, hn, hW, hK, hH, hM, hL, hho⟩ := id T
  obtain ⟨x2, m2, e1, e2, q⟩ := rf2 V
  rcases cKind p0 with ⟨k, hk, rfl, a1, a2⟩ | ⟨a1, a2⟩
  · rw [p_ofKind hn hk xk hK a1, p_mofKind hn hk mk hK a2]
    exact ⟨_, _, _, rfl, rfl, R0⟩
  · unfold fX7_ofKind fX8_ofKind
    simp only [a1, a2, e1, e2, bo1, bo2, bo3, bo4, bo5, bo6, bo7, bo12, jo0, jo1, vlet, i10, i00, if_true, if_false, ite_self]
    exact ⟨_, _, _, rfl, rfl, R0.rf q⟩
