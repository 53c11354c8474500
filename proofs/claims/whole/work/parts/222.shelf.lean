/-! ===== shelves ===== -/
theorem p_takeRow (el : Nat → Int64) (a b : Int32) : ∃ el', fX2_takeRow el a b = some (a, b, el') ∧ ∀ j, j < 40 → el' j = 0 := by
  unfold fX2_takeRow
  refine lph2 (Φ := fun o => ∃ el' : Nat → Int64, o = some (a, b, el') ∧ ∀ j, j < 40 → el' j = 0) (fun i x (u : Nat → Int64) => x = nI i ∧ ∀ j, j < i → u j = 0) 40 ⟨rfl, fun j h => absurd h (by omega)⟩ (fun i hi x u h => ?_) (fun x u h ag => ?_) 400 (by omega)
  · obtain ⟨rfl, hu⟩ := h
    refine ⟨nI (i + 1), vp_updL u i 0, ⟨rfl, fun j hj => ?_⟩, fun ag => ?_⟩
    · unfold vp_updL
      by_cases e : j = i
      · rw [if_pos e]
      · rw [if_neg e]; exact hu j (by omega)
    · rw [if_neg (by rw [show (40 : Int32) = nI 40 from rfl, nle (by omega) (by omega)]; omega), if_n (nin (k := i) (N := 40) hi (by omega)), nc (n := i) (by omega)]
      simp only [vlet, nI_1]
  · obtain ⟨rfl, hu⟩ := h
    exact ⟨u, rfl, hu⟩
theorem shr_set {n k : Nat} {c z : Nat → Int32} {e : Nat → Nat → Int64} {f s r : Nat → Int32} {w : Nat → Nat → Int64} {o : Nat → Int32} {c2 z2 : Nat → Int32} {e2 : Nat → Nat → Int64} {f2 s2 r2 : Nat → Int32} {w2 : Nat → Nat → Int64} {o2 : Nat → Int32} (S : shr n c z e f s r w o) (h : ∀ j, j ≠ k → c2 j = c j ∧ z2 j = z j ∧ e2 j = e j ∧ f2 j = f j ∧ s2 j = s j ∧ r2 j = r j ∧ w2 j = w j ∧ o2 j = o j) (hk : (c2 k = -1 ∧ z2 k = 0 ∧ f2 k = 0) ∨ (∃ t m, t ≤ 4 ∧ m ≤ 40 ∧ c2 k = nI t ∧ z2 k = nI m ∧ f2 k = 1 ∧ s2 k = nI t ∧ r2 k = nI m ∧ ∀ j, j < 40 → e2 k j = w2 k j) ∨ (∃ t, t < n ∧ c2 k = nI (10 + t) ∧ z2 k = 0 ∧ f2 k = 2 ∧ o2 k = nI t)) : shr n c2 z2 e2 f2 s2 r2 w2 o2 := by
  intro j hj
  by_cases q : j = k
  · subst q; exact hk
  · obtain ⟨h1, h2, h3, h4, h5, h6, h7, h8⟩ := h j q
    rw [h1, h2, h3, h4, h5, h6, h7, h8]
    exact S j hj
theorem p_mrow {sf rs rz rf : Nat → Int32} {rw_ : Nat → Nat → Int64} {k : Nat} (hk : k < 8) {p1 p2 : Int32} (b : fX8_in p1.toInt64 (0 : Int64) (4 : Int64) = some 1) (d : fX8_in p2.toInt64 (0 : Int64) (40 : Int64) = some 1) (a : fX8_in (nI k).toInt64 (0 : Int64) (7 : Int64) = some 1) : ∃ w2, fX8_row sf rs rz rf rw_ (nI k) p1 p2 = some (1, upd sf k 1, upd rs k p1, upd rz k p2, rf, w2) ∧ (∀ j, j < 40 → w2 k j = 0) ∧ ∀ s, s ≠ k → w2 s = rw_ s := by
  unfold fX8_row
  simp only [a, b, d, bo1, bo2, bo3, bo4, bo5, bo6, bo7, bo12, jo0, jo1, vlet, i10, i00, if_true, if_false, ite_self, if_n (nin (k := k) (N := 8) hk (by omega)), nc (n := k) (by omega), if_n (nin2 (k := k) (N := 8) hk (by omega))]
  refine lph2 (Φ := fun o => ∃ w2 : Nat → Nat → Int64, o = some (1, upd sf k 1, upd rs k p1, upd rz k p2, rf, w2) ∧ (∀ j, j < 40 → w2 k j = 0) ∧ ∀ s, s ≠ k → w2 s = rw_ s) (fun i x (u : Nat → Nat → Int64) => x = nI i ∧ (∀ j, j < i → u k j = 0) ∧ ∀ s, s ≠ k → u s = rw_ s) 40 ⟨rfl, fun j h => absurd h (by omega), fun _ _ => rfl⟩ (fun i hi x u h => ?_) (fun x u h ag => ?_) 400 (by omega)
  · obtain ⟨rfl, hu, hs⟩ := h
    refine ⟨nI (i + 1), va_up u k (vp_updL (u k) i 0), ⟨rfl, fun j hj => ?_, fun s q => ?_⟩, fun ag => ?_⟩
    · rw [va_up_self]
      unfold vp_updL
      by_cases e : j = i
      · rw [if_pos e]
      · rw [if_neg e]; exact hu j (by omega)
    · rw [va_up_ne _ _ q]; exact hs s q
    · rw [if_neg (by rw [show (40 : Int32) = nI 40 from rfl, nle (by omega) (by omega)]; omega), if_n (nin (k := i) (N := 40) hi (by omega)), nc (n := i) (by omega), nI_1]
  · obtain ⟨rfl, hu, hs⟩ := h
    exact ⟨u, rfl, hu, hs⟩
theorem tt_row {x_now_places : Int32} {x_now_people : Int32} {x_now_hour : Int32} {x_now_chance : Int32} {x_now_seed : Int32} {x_now_ways : Nat → Int32} {x_now_distances : Nat → Int32} {x_now_kind : Nat → Int32} {x_now_a : Nat → Int32} {x_now_home : Nat → Int32} {x_now_aim : Nat → Int32} {x_now_at : Nat → Int32} {x_kept_places : Int32} {x_kept_people : Int32} {x_kept_hour : Int32} {x_kept_chance : Int32} {x_kept_seed : Int32} {x_kept_ways : Nat → Int32} {x_kept_distances : Nat → Int32} {x_kept_kind : Nat → Int32} {x_kept_a : Nat → Int32} {x_kept_home : Nat → Int32} {x_kept_aim : Nat → Int32} {x_kept_at : Nat → Int32} {x_isKept : Int32} {x_shelves_c : Nat → Int32} {x_shelves_z : Nat → Int32} {x_shelves_e : Nat → Nat → Int64} {x_tape_size : Int32} {x_tape_bytes : Nat → Int32} {x_refusals : Nat → Int32} {m_places : Int32} {m_people : Int32} {m_hour : Int32} {m_chance : Int32} {m_seed : Int32} {m_ways : Nat → Int32} {m_kind : Nat → Int32} {m_by : Nat → Int32} {m_home : Nat → Int32} {m_aim : Nat → Int32} {m_at0 : Nat → Int32} {m_shelf : Nat → Int32} {m_rowSort : Nat → Int32} {m_rowSize : Nat → Int32} {m_rows : Nat → Nat → Int64} {m_shown : Nat → Int32} {m_tape : Nat → Int32} {m_tapeSize : Int32} {m_refused : Nat → Int32} {m_gone : Int32} {m_kept_places : Int32} {m_kept_people : Int32} {m_kept_hour : Int32} {m_kept_chance : Int32} {m_kept_seed : Int32} {m_kept_ways : Nat → Int32} {m_kept_kind : Nat → Int32} {m_kept_by : Nat → Int32} {m_kept_home : Nat → Int32} {m_kept_aim : Nat → Int32} {m_kept_at0 : Nat → Int32} {kb : Bool} (p0 : Int32) (p1 : Int32) (p2 : Int32) (R : Rel kb x_now_places x_now_people x_now_hour x_now_chance x_now_seed x_now_ways x_now_distances x_now_kind x_now_a x_now_home x_now_aim x_now_at x_kept_places x_kept_people x_kept_hour x_kept_chance x_kept_seed x_kept_ways x_kept_distances x_kept_kind x_kept_a x_kept_home x_kept_aim x_kept_at x_isKept x_shelves_c x_shelves_z x_shelves_e x_tape_size x_tape_bytes x_refusals m_places m_people m_hour m_chance m_seed m_ways m_kind m_by m_home m_aim m_at0 m_shelf m_rowSort m_rowSize m_rows m_shown m_tape m_tapeSize m_refused m_gone m_kept_places m_kept_people m_kept_hour m_kept_chance m_kept_seed m_kept_ways m_kept_kind m_kept_by m_kept_home m_kept_aim m_kept_at0) : ∃ (r : Int32) (y_refusals : Nat → Int32) (y_shelves_c : Nat → Int32) (y_shelves_z : Nat → Int32) (y_shelves_e : Nat → Nat → Int64) (z_shelf : Nat → Int32) (z_rowSort : Nat → Int32) (z_rowSize : Nat → Int32) (z_refused : Nat → Int32) (z_rows : Nat → Nat → Int64), fX7_row x_refusals x_shelves_c x_shelves_z x_shelves_e p0 p1 p2 = some (r, y_refusals, y_shelves_c, y_shelves_z, y_shelves_e) ∧ fX8_row m_shelf m_rowSort m_rowSize m_refused m_rows p0 p1 p2 = some (r, z_shelf, z_rowSort, z_rowSize, z_refused, z_rows) ∧ Rel kb x_now_places x_now_people x_now_hour x_now_chance x_now_seed x_now_ways x_now_distances x_now_kind x_now_a x_now_home x_now_aim x_now_at x_kept_places x_kept_people x_kept_hour x_kept_chance x_kept_seed x_kept_ways x_kept_distances x_kept_kind x_kept_a x_kept_home x_kept_aim x_kept_at x_isKept y_shelves_c y_shelves_z y_shelves_e x_tape_size x_tape_bytes y_refusals m_places m_people m_hour m_chance m_seed m_ways m_kind m_by m_home m_aim m_at0 z_shelf z_rowSort z_rowSize z_rows m_shown m_tape m_tapeSize z_refused m_gone m_kept_places m_kept_people m_kept_hour m_kept_chance m_kept_seed m_kept_ways m_kept_kind m_kept_by m_kept_home m_kept_aim m_kept_at0 := by
  have R0 := R
  obtain ⟨P, n, h, c, s, W, K, A, H, M, L, T, ⟨rfl, rfl, rfl, rfl, rfl, rfl, xd, xk, xa, xh, xm, xl⟩, ⟨rfl, rfl, rfl, rfl, rfl, rfl, mk, ma, mh, mm, ml⟩, rfl, S, U, V, Z⟩ := R
  obtain ⟨hP2, hP, hn, hW, hK, hH, hM, hL, hho⟩ := id T
  obtain ⟨x2, m2, e1, e2, q⟩ := rf2 V
  rcases cShelf p0 with ⟨k, hk, rfl, a1, a2⟩ | ⟨a1, a2⟩
  · rcases cIn 0 4 0 4 (by decide) (by decide) (by omega) (by omega) p1 with ⟨t, -, ht, rfl, b2⟩ | ⟨b1, b2⟩
    · rcases cIn 0 40 0 40 (by decide) (by decide) (by omega) (by omega) p2 with ⟨m, -, hm, rfl, d2⟩ | ⟨d1, d2⟩
      · obtain ⟨el', t1, t2⟩ := p_takeRow (x_shelves_e k) (nI t) (nI m)
        obtain ⟨w2, u1, u2, u3⟩ := p_mrow (sf := m_shelf) (rs := m_rowSort) (rz := m_rowSize) (rf := m_refused) (rw_ := m_rows) hk b2 d2 a2
        rw [u1]
        unfold fX7_row
        simp only [a1, bo1, bo2, bo3, bo4, bo5, bo6, bo7, bo12, jo0, jo1, vlet, i10, i00, if_true, if_false, ite_self, if_n (nin (k := k) (N := 8) (by omega) (by omega)), if_n (nin2 (k := k) (N := 8) (by omega) (by omega)), nc (n := k) (by omega), if_neg (nI_pos (n := t) (by omega)), if_neg (nI_pos (n := m) (by omega)), show (4 : Int32) = nI 4 from rfl, show (40 : Int32) = nI 40 from rfl, nlt (a := 4) (b := t) (by omega) (by omega), nle (a := m) (b := 40) (by omega) (by omega), hm, show ¬ 4 < t from by omega, t1]
        refine ⟨_, _, _, _, _, _, _, _, _, _, rfl, rfl, R0.sh (fun n' _ _ S' => shr_set (k := k) S' (fun j hj => ⟨va_up_ne _ _ hj, va_up_ne _ _ hj, va_up_ne _ _ hj, pk_un hj, pk_un hj, pk_un hj, u3 j hj, rfl⟩) (Or.inr (Or.inl ⟨t, m, ht, hm, va_up_self _ _ _, va_up_self _ _ _, pk_us, pk_us, pk_us, fun j hj => ?_⟩)))⟩
        rw [va_up_self, t2 j hj, u2 j hj]
      · unfold fX7_row fX8_row
        simp only [a1, a2, b2, d2, e1, e2, bo1, bo2, bo3, bo4, bo5, bo6, bo7, bo12, jo0, jo1, vlet, i10, i00, if_true, if_false, ite_self, if_neg (nI_pos (n := t) (by omega)), show (4 : Int32) = nI 4 from rfl, show (40 : Int32) = nI 40 from rfl, nlt (a := 4) (b := t) (by omega) (by omega), show ¬ 4 < t from by omega]
        rcases d1 with d1 | d1
        · simp only [if_pos (show p2 < 0 from d1)]
          exact ⟨_, _, _, _, _, _, _, _, _, _, rfl, rfl, R0.rf q⟩
        · simp only [if_neg (Int32.not_le.mpr d1), ite_self]
          exact ⟨_, _, _, _, _, _, _, _, _, _, rfl, rfl, R0.rf q⟩
    · unfold fX7_row fX8_row
      simp only [a1, a2, b2, e1, e2, bo1, bo2, bo3, bo4, bo5, bo6, bo7, bo12, jo0, jo1, vlet, i10, i00, if_true, if_false, ite_self]
      rcases b1 with b1 | b1
      · simp only [if_pos (show p1 < 0 from b1)]
        exact ⟨_, _, _, _, _, _, _, _, _, _, rfl, rfl, R0.rf q⟩
      · simp only [if_pos (show (4 : Int32) < p1 from b1), ite_self]
        exact ⟨_, _, _, _, _, _, _, _, _, _, rfl, rfl, R0.rf q⟩
  · unfold fX7_row fX8_row
    simp only [a1, a2, e1, e2, bo1, bo2, bo3, bo4, bo5, bo6, bo7, bo12, jo0, jo1, vlet, i10, i00, if_true, if_false, ite_self]
    exact ⟨_, _, _, _, _, _, _, _, _, _, rfl, rfl, R0.rf q⟩
theorem h10 {k : Nat} (hk : k ≤ 4) : (nI k < (10 : Int32)) = True := by
  rw [show (10 : Int32) = nI 10 from rfl, nlt (by omega) (by omega)]; simp; omega
theorem h10' {k : Nat} (hk : k < 8) : (nI (10 + k) < (10 : Int32)) = False := by
  rw [show (10 : Int32) = nI 10 from rfl, nlt (by omega) (by omega)]; simp
theorem hm10 : ((-1 : Int32) < (10 : Int32)) = True := by decide
theorem hmm : ((-1 : Int32) = (-1 : Int32)) = True := by decide
theorem hkm {k : Nat} (hk : k ≤ 1000) : (nI k = (-1 : Int32)) = False := n_neg1 (by omega)
theorem i21 : ((2 : Int32) = (1 : Int32)) = False := by decide
theorem i20 : ((2 : Int32) = 0) = False := by decide
theorem i22 : ((2 : Int32) = (2 : Int32)) = True := by decide
theorem i02 : ((0 : Int32) = (2 : Int32)) = False := by decide
theorem i012 : ((0 : Int32) = (1 : Int32)) = False := by decide
theorem i12 : ((1 : Int32) = (2 : Int32)) = False := by decide
theorem i112 : ((1 : Int32) = (1 : Int32)) = True := by decide
theorem im20 : ((-2 : Int32) = 0) = False := by decide
theorem im30 : ((-3 : Int32) = 0) = False := by decide
theorem im40 : ((-4 : Int32) = 0) = False := by decide
/-- which row a shelf holds, asked on both sides -/
theorem p_rowReason {n k : Nat} {c z : Nat → Int32} {e : Nat → Nat → Int64} {f s r : Nat → Int32} {w : Nat → Nat → Int64} {o : Nat → Int32} (hn : n ≤ 8) (hk : k < 8) (S : shr n c z e f s r w o) : (c k = -1 ∧ z k = 0 ∧ f k = 0 ∧ fX7_rowReason c (nI k) = some (-4)) ∨ (∃ t m, t ≤ 4 ∧ m ≤ 40 ∧ c k = nI t ∧ z k = nI m ∧ f k = 1 ∧ s k = nI t ∧ r k = nI m ∧ (∀ j, j < 40 → e k j = w k j) ∧ fX7_rowReason c (nI k) = some 0) ∨ (∃ t, t < n ∧ c k = nI (10 + t) ∧ z k = 0 ∧ f k = 2 ∧ o k = nI t ∧ fX7_rowReason c (nI k) = some (-3)) := by
  have a1 : fX7_isShelf (nI k) = some 1 := by
    unfold fX7_isShelf
    rw [if_neg (nI_pos (by omega)), if_neg (by rw [show (8 : Int32) = nI 8 from rfl, nle (by omega) (by omega)]; omega)]
  rcases S k hk with ⟨h1, h2, h3⟩ | ⟨t, m, ht, hm, h1, h2, h3, h4, h5, h6⟩ | ⟨t, ht, h1, h2, h3, h4⟩
  · refine Or.inl ⟨h1, h2, h3, ?_⟩
    unfold fX7_rowReason fX2_holdsPerson fX2_holdsNothing
    simp only [a1, bo1, bo2, bo3, bo4, bo5, bo6, bo7, bo12, jo0, jo1, vlet, i10, i00, if_true, if_false, ite_self, if_n (nin (k := k) (N := 8) (by omega) (by omega)), if_n (nin2 (k := k) (N := 8) (by omega) (by omega)), nc (n := k) (by omega), h1, hm10, hmm]
  · refine Or.inr (Or.inl ⟨t, m, ht, hm, h1, h2, h3, h4, h5, h6, ?_⟩)
    unfold fX7_rowReason fX2_holdsPerson fX2_holdsNothing
    simp only [a1, bo1, bo2, bo3, bo4, bo5, bo6, bo7, bo12, jo0, jo1, vlet, i10, i00, if_true, if_false, ite_self, if_n (nin (k := k) (N := 8) (by omega) (by omega)), if_n (nin2 (k := k) (N := 8) (by omega) (by omega)), nc (n := k) (by omega), h1, h10 ht, hkm (k := t) (by omega)]
  · refine Or.inr (Or.inr ⟨t, ht, h1, h2, h3, h4, ?_⟩)
    unfold fX7_rowReason fX2_holdsPerson fX2_holdsNothing
    simp only [a1, bo1, bo2, bo3, bo4, bo5, bo6, bo7, bo12, jo0, jo1, vlet, i10, i00, if_true, if_false, ite_self, if_n (nin (k := k) (N := 8) (by omega) (by omega)), if_n (nin2 (k := k) (N := 8) (by omega) (by omega)), nc (n := k) (by omega), h1, h10' (k := t) (by omega)]
theorem tt_element {x_now_places : Int32} {x_now_people : Int32} {x_now_hour : Int32} {x_now_chance : Int32} {x_now_seed : Int32} {x_now_ways : Nat → Int32} {x_now_distances : Nat → Int32} {x_now_kind : Nat → Int32} {x_now_a : Nat → Int32} {x_now_home : Nat → Int32} {x_now_aim : Nat → Int32} {x_now_at : Nat → Int32} {x_kept_places : Int32} {x_kept_people : Int32} {x_kept_hour : Int32} {x_kept_chance : Int32} {x_kept_seed : Int32} {x_kept_ways : Nat → Int32} {x_kept_distances : Nat → Int32} {x_kept_kind : Nat → Int32} {x_kept_a : Nat → Int32} {x_kept_home : Nat → Int32} {x_kept_aim : Nat → Int32} {x_kept_at : Nat → Int32} {x_isKept : Int32} {x_shelves_c : Nat → Int32} {x_shelves_z : Nat → Int32} {x_shelves_e : Nat → Nat → Int64} {x_tape_size : Int32} {x_tape_bytes : Nat → Int32} {x_refusals : Nat → Int32} {m_places : Int32} {m_people : Int32} {m_hour : Int32} {m_chance : Int32} {m_seed : Int32} {m_ways : Nat → Int32} {m_kind : Nat → Int32} {m_by : Nat → Int32} {m_home : Nat → Int32} {m_aim : Nat → Int32} {m_at0 : Nat → Int32} {m_shelf : Nat → Int32} {m_rowSort : Nat → Int32} {m_rowSize : Nat → Int32} {m_rows : Nat → Nat → Int64} {m_shown : Nat → Int32} {m_tape : Nat → Int32} {m_tapeSize : Int32} {m_refused : Nat → Int32} {m_gone : Int32} {m_kept_places : Int32} {m_kept_people : Int32} {m_kept_hour : Int32} {m_kept_chance : Int32} {m_kept_seed : Int32} {m_kept_ways : Nat → Int32} {m_kept_kind : Nat → Int32} {m_kept_by : Nat → Int32} {m_kept_home : Nat → Int32} {m_kept_aim : Nat → Int32} {m_kept_at0 : Nat → Int32} {kb : Bool} (p0 : Int32) (p1 : Int32) (R : Rel kb x_now_places x_now_people x_now_hour x_now_chance x_now_seed x_now_ways x_now_distances x_now_kind x_now_a x_now_home x_now_aim x_now_at x_kept_places x_kept_people x_kept_hour x_kept_chance x_kept_seed x_kept_ways x_kept_distances x_kept_kind x_kept_a x_kept_home x_kept_aim x_kept_at x_isKept x_shelves_c x_shelves_z x_shelves_e x_tape_size x_tape_bytes x_refusals m_places m_people m_hour m_chance m_seed m_ways m_kind m_by m_home m_aim m_at0 m_shelf m_rowSort m_rowSize m_rows m_shown m_tape m_tapeSize m_refused m_gone m_kept_places m_kept_people m_kept_hour m_kept_chance m_kept_seed m_kept_ways m_kept_kind m_kept_by m_kept_home m_kept_aim m_kept_at0) : ∃ (r : Int64), fX7_element x_shelves_z x_shelves_e p0 p1 = some r ∧ fX8_element m_shelf m_rowSize m_rows p0 p1 = some r ∧ Rel kb x_now_places x_now_people x_now_hour x_now_chance x_now_seed x_now_ways x_now_distances x_now_kind x_now_a x_now_home x_now_aim x_now_at x_kept_places x_kept_people x_kept_hour x_kept_chance x_kept_seed x_kept_ways x_kept_distances x_kept_kind x_kept_a x_kept_home x_kept_aim x_kept_at x_isKept x_shelves_c x_shelves_z x_shelves_e x_tape_size x_tape_bytes x_refusals m_places m_people m_hour m_chance m_seed m_ways m_kind m_by m_home m_aim m_at0 m_shelf m_rowSort m_rowSize m_rows m_shown m_tape m_tapeSize m_refused m_gone m_kept_places m_kept_people m_kept_hour m_kept_chance m_kept_seed m_kept_ways m_kept_kind m_kept_by m_kept_home m_kept_aim m_kept_at0 := by
  have R0 := R
  obtain ⟨P, n, h, c, s, W, K, A, H, M, L, T, ⟨rfl, rfl, rfl, rfl, rfl, rfl, xd, xk, xa, xh, xm, xl⟩, ⟨rfl, rfl, rfl, rfl, rfl, rfl, mk, ma, mh, mm, ml⟩, rfl, S, U, V, Z⟩ := R
  obtain ⟨hP2, hP, hn, hW, hK, hH, hM, hL, hho⟩ := id T
  unfold fX7_element fX8_element
  rcases cShelf p0 with ⟨k, hk, rfl, a1, a2⟩ | ⟨a1, a2⟩
  · rcases S k hk with ⟨h1, h2, h3⟩ | ⟨t, m, ht, hm, h1, h2, h3, h4, h5, h6⟩ | ⟨t, ht, h1, h2, h3, h4⟩
    · unfold fX2_hasElement
      simp only [a1, a2, bo1, bo2, bo3, bo4, bo5, bo6, bo7, bo12, jo0, jo1, vlet, i10, i00, if_true, if_false, ite_self, if_n (nin (k := k) (N := 8) (by omega) (by omega)), if_n (nin2 (k := k) (N := 8) (by omega) (by omega)), nc (n := k) (by omega), h2, h3, i012]
      by_cases g : p1 < 0
      · simp only [if_pos g, bo1, bo2, bo3, bo4, bo5, bo6, bo7, bo12, jo0, jo1, vlet, i10, i00, if_true, if_false, ite_self]
        exact ⟨_, rfl, rfl, R0⟩
      · simp only [if_neg g, if_pos (Int32.not_lt.mp g), bo1, bo2, bo3, bo4, bo5, bo6, bo7, bo12, jo0, jo1, vlet, i10, i00, if_true, if_false, ite_self]
        exact ⟨_, rfl, rfl, R0⟩
    · unfold fX2_hasElement
      simp only [a1, a2, bo1, bo2, bo3, bo4, bo5, bo6, bo7, bo12, jo0, jo1, vlet, i10, i00, if_true, if_false, ite_self, if_n (nin (k := k) (N := 8) (by omega) (by omega)), if_n (nin2 (k := k) (N := 8) (by omega) (by omega)), nc (n := k) (by omega), h2, h3, h5, i112]
      rcases cR m (by omega) p1 with ⟨j, hj, rfl, b⟩ | ⟨b1, b⟩
      · simp only [b, bo1, bo2, bo3, bo4, bo5, bo6, bo7, bo12, jo0, jo1, vlet, i10, i00, if_true, if_false, ite_self, if_n (nin (k := j) (N := 40) (by omega) (by omega)), if_n (nin2 (k := j) (N := 40) (by omega) (by omega)), nc (n := j) (by omega), if_neg (nI_pos (n := j) (by omega)), nle (a := m) (b := j) (by omega) (by omega), show ¬ m ≤ j from by omega, h6 j (by omega)]
        exact ⟨_, rfl, rfl, R0⟩
      · rcases b1 with b1 | b1
        · simp only [b, bo1, bo2, bo3, bo4, bo5, bo6, bo7, bo12, jo0, jo1, vlet, i10, i00, if_true, if_false, ite_self, if_pos b1]
          exact ⟨_, rfl, rfl, R0⟩
        · simp only [b, bo1, bo2, bo3, bo4, bo5, bo6, bo7, bo12, jo0, jo1, vlet, i10, i00, if_true, if_false, ite_self, if_pos b1]
          exact ⟨_, rfl, rfl, R0⟩
    · unfold fX2_hasElement
      simp only [a1, a2, bo1, bo2, bo3, bo4, bo5, bo6, bo7, bo12, jo0, jo1, vlet, i10, i00, if_true, if_false, ite_self, if_n (nin (k := k) (N := 8) (by omega) (by omega)), if_n (nin2 (k := k) (N := 8) (by omega) (by omega)), nc (n := k) (by omega), h2, h3, i21]
      by_cases g : p1 < 0
      · simp only [if_pos g, bo1, bo2, bo3, bo4, bo5, bo6, bo7, bo12, jo0, jo1, vlet, i10, i00, if_true, if_false, ite_self]
        exact ⟨_, rfl, rfl, R0⟩
      · simp only [if_neg g, if_pos (Int32.not_lt.mp g), bo1, bo2, bo3, bo4, bo5, bo6, bo7, bo12, jo0, jo1, vlet, i10, i00, if_true, if_false, ite_self]
        exact ⟨_, rfl, rfl, R0⟩
  · simp only [a1, a2, bo1, bo2, bo3, bo4, bo5, bo6, bo7, bo12, jo0, jo1, vlet, i10, i00, if_true, if_false, ite_self]
    exact ⟨_, rfl, rfl, R0⟩
theorem tt_holds {x_now_places : Int32} {x_now_people : Int32} {x_now_hour : Int32} {x_now_chance : Int32} {x_now_seed : Int32} {x_now_ways : Nat → Int32} {x_now_distances : Nat → Int32} {x_now_kind : Nat → Int32} {x_now_a : Nat → Int32} {x_now_home : Nat → Int32} {x_now_aim : Nat → Int32} {x_now_at : Nat → Int32} {x_kept_places : Int32} {x_kept_people : Int32} {x_kept_hour : Int32} {x_kept_chance : Int32} {x_kept_seed : Int32} {x_kept_ways : Nat → Int32} {x_kept_distances : Nat → Int32} {x_kept_kind : Nat → Int32} {x_kept_a : Nat → Int32} {x_kept_home : Nat → Int32} {x_kept_aim : Nat → Int32} {x_kept_at : Nat → Int32} {x_isKept : Int32} {x_shelves_c : Nat → Int32} {x_shelves_z : Nat → Int32} {x_shelves_e : Nat → Nat → Int64} {x_tape_size : Int32} {x_tape_bytes : Nat → Int32} {x_refusals : Nat → Int32} {m_places : Int32} {m_people : Int32} {m_hour : Int32} {m_chance : Int32} {m_seed : Int32} {m_ways : Nat → Int32} {m_kind : Nat → Int32} {m_by : Nat → Int32} {m_home : Nat → Int32} {m_aim : Nat → Int32} {m_at0 : Nat → Int32} {m_shelf : Nat → Int32} {m_rowSort : Nat → Int32} {m_rowSize : Nat → Int32} {m_rows : Nat → Nat → Int64} {m_shown : Nat → Int32} {m_tape : Nat → Int32} {m_tapeSize : Int32} {m_refused : Nat → Int32} {m_gone : Int32} {m_kept_places : Int32} {m_kept_people : Int32} {m_kept_hour : Int32} {m_kept_chance : Int32} {m_kept_seed : Int32} {m_kept_ways : Nat → Int32} {m_kept_kind : Nat → Int32} {m_kept_by : Nat → Int32} {m_kept_home : Nat → Int32} {m_kept_aim : Nat → Int32} {m_kept_at0 : Nat → Int32} {kb : Bool} (p0 : Int32) (R : Rel kb x_now_places x_now_people x_now_hour x_now_chance x_now_seed x_now_ways x_now_distances x_now_kind x_now_a x_now_home x_now_aim x_now_at x_kept_places x_kept_people x_kept_hour x_kept_chance x_kept_seed x_kept_ways x_kept_distances x_kept_kind x_kept_a x_kept_home x_kept_aim x_kept_at x_isKept x_shelves_c x_shelves_z x_shelves_e x_tape_size x_tape_bytes x_refusals m_places m_people m_hour m_chance m_seed m_ways m_kind m_by m_home m_aim m_at0 m_shelf m_rowSort m_rowSize m_rows m_shown m_tape m_tapeSize m_refused m_gone m_kept_places m_kept_people m_kept_hour m_kept_chance m_kept_seed m_kept_ways m_kept_kind m_kept_by m_kept_home m_kept_aim m_kept_at0) : ∃ (r : Int32), fX7_holds x_shelves_c p0 = some r ∧ fX8_holds m_shelf m_rowSort m_shown p0 = some r ∧ Rel kb x_now_places x_now_people x_now_hour x_now_chance x_now_seed x_now_ways x_now_distances x_now_kind x_now_a x_now_home x_now_aim x_now_at x_kept_places x_kept_people x_kept_hour x_kept_chance x_kept_seed x_kept_ways x_kept_distances x_kept_kind x_kept_a x_kept_home x_kept_aim x_kept_at x_isKept x_shelves_c x_shelves_z x_shelves_e x_tape_size x_tape_bytes x_refusals m_places m_people m_hour m_chance m_seed m_ways m_kind m_by m_home m_aim m_at0 m_shelf m_rowSort m_rowSize m_rows m_shown m_tape m_tapeSize m_refused m_gone m_kept_places m_kept_people m_kept_hour m_kept_chance m_kept_seed m_kept_ways m_kept_kind m_kept_by m_kept_home m_kept_aim m_kept_at0 := by
  have R0 := R
  obtain ⟨P, n, h, c, s, W, K, A, H, M, L, T, ⟨rfl, rfl, rfl, rfl, rfl, rfl, xd, xk, xa, xh, xm, xl⟩, ⟨rfl, rfl, rfl, rfl, rfl, rfl, mk, ma, mh, mm, ml⟩, rfl, S, U, V, Z⟩ := R
  obtain ⟨hP2, hP, hn, hW, hK, hH, hM, hL, hho⟩ := id T
  unfold fX7_holds fX8_holds
  rcases cShelf p0 with ⟨k, hk, rfl, a1, a2⟩ | ⟨a1, a2⟩
  · rcases S k hk with ⟨h1, h2, h3⟩ | ⟨t, m, ht, hm, h1, h2, h3, h4, h5, h6⟩ | ⟨t, ht, h1, h2, h3, h4⟩
    · simp only [a1, a2, bo1, bo2, bo3, bo4, bo5, bo6, bo7, bo12, jo0, jo1, vlet, i10, i00, if_true, if_false, ite_self, if_n (nin (k := k) (N := 8) (by omega) (by omega)), if_n (nin2 (k := k) (N := 8) (by omega) (by omega)), nc (n := k) (by omega), h1, h3]
      exact ⟨_, rfl, rfl, R0⟩
    · simp only [a1, a2, bo1, bo2, bo3, bo4, bo5, bo6, bo7, bo12, jo0, jo1, vlet, i10, i00, if_true, if_false, ite_self, if_n (nin (k := k) (N := 8) (by omega) (by omega)), if_n (nin2 (k := k) (N := 8) (by omega) (by omega)), nc (n := k) (by omega), h1, h3, i112, h4]
      exact ⟨_, rfl, rfl, R0⟩
    · simp only [a1, a2, bo1, bo2, bo3, bo4, bo5, bo6, bo7, bo12, jo0, jo1, vlet, i10, i00, if_true, if_false, ite_self, if_n (nin (k := k) (N := 8) (by omega) (by omega)), if_n (nin2 (k := k) (N := 8) (by omega) (by omega)), nc (n := k) (by omega), h1, h3, i20, i21, h4, show (10 : Int32) + nI t = nI (10 + t) from nI_add 10 t]
      exact ⟨_, rfl, rfl, R0⟩
  · simp only [a1, a2, bo1, bo2, bo3, bo4, bo5, bo6, bo7, bo12, jo0, jo1, vlet, i10, i00, if_true, if_false, ite_self]
    exact ⟨_, rfl, rfl, R0⟩
theorem tt_set {x_now_places : Int32} {x_now_people : Int32} {x_now_hour : Int32} {x_now_chance : Int32} {x_now_seed : Int32} {x_now_ways : Nat → Int32} {x_now_distances : Nat → Int32} {x_now_kind : Nat → Int32} {x_now_a : Nat → Int32} {x_now_home : Nat → Int32} {x_now_aim : Nat → Int32} {x_now_at : Nat → Int32} {x_kept_places : Int32} {x_kept_people : Int32} {x_kept_hour : Int32} {x_kept_chance : Int32} {x_kept_seed : Int32} {x_kept_ways : Nat → Int32} {x_kept_distances : Nat → Int32} {x_kept_kind : Nat → Int32} {x_kept_a : Nat → Int32} {x_kept_home : Nat → Int32} {x_kept_aim : Nat → Int32} {x_kept_at : Nat → Int32} {x_isKept : Int32} {x_shelves_c : Nat → Int32} {x_shelves_z : Nat → Int32} {x_shelves_e : Nat → Nat → Int64} {x_tape_size : Int32} {x_tape_bytes : Nat → Int32} {x_refusals : Nat → Int32} {m_places : Int32} {m_people : Int32} {m_hour : Int32} {m_chance : Int32} {m_seed : Int32} {m_ways : Nat → Int32} {m_kind : Nat → Int32} {m_by : Nat → Int32} {m_home : Nat → Int32} {m_aim : Nat → Int32} {m_at0 : Nat → Int32} {m_shelf : Nat → Int32} {m_rowSort : Nat → Int32} {m_rowSize : Nat → Int32} {m_rows : Nat → Nat → Int64} {m_shown : Nat → Int32} {m_tape : Nat → Int32} {m_tapeSize : Int32} {m_refused : Nat → Int32} {m_gone : Int32} {m_kept_places : Int32} {m_kept_people : Int32} {m_kept_hour : Int32} {m_kept_chance : Int32} {m_kept_seed : Int32} {m_kept_ways : Nat → Int32} {m_kept_kind : Nat → Int32} {m_kept_by : Nat → Int32} {m_kept_home : Nat → Int32} {m_kept_aim : Nat → Int32} {m_kept_at0 : Nat → Int32} {kb : Bool} (p0 : Int32) (p1 : Int32) (p2 : Int64) (R : Rel kb x_now_places x_now_people x_now_hour x_now_chance x_now_seed x_now_ways x_now_distances x_now_kind x_now_a x_now_home x_now_aim x_now_at x_kept_places x_kept_people x_kept_hour x_kept_chance x_kept_seed x_kept_ways x_kept_distances x_kept_kind x_kept_a x_kept_home x_kept_aim x_kept_at x_isKept x_shelves_c x_shelves_z x_shelves_e x_tape_size x_tape_bytes x_refusals m_places m_people m_hour m_chance m_seed m_ways m_kind m_by m_home m_aim m_at0 m_shelf m_rowSort m_rowSize m_rows m_shown m_tape m_tapeSize m_refused m_gone m_kept_places m_kept_people m_kept_hour m_kept_chance m_kept_seed m_kept_ways m_kept_kind m_kept_by m_kept_home m_kept_aim m_kept_at0) : ∃ (r : Int32) (y_refusals : Nat → Int32) (y_shelves_e : Nat → Nat → Int64) (z_refused : Nat → Int32) (z_rows : Nat → Nat → Int64), fX7_set x_refusals x_shelves_c x_shelves_z x_shelves_e p0 p1 p2 = some (r, y_refusals, y_shelves_e) ∧ fX8_set m_shelf m_rowSort m_rowSize m_refused m_rows p0 p1 p2 = some (r, z_refused, z_rows) ∧ Rel kb x_now_places x_now_people x_now_hour x_now_chance x_now_seed x_now_ways x_now_distances x_now_kind x_now_a x_now_home x_now_aim x_now_at x_kept_places x_kept_people x_kept_hour x_kept_chance x_kept_seed x_kept_ways x_kept_distances x_kept_kind x_kept_a x_kept_home x_kept_aim x_kept_at x_isKept x_shelves_c x_shelves_z y_shelves_e x_tape_size x_tape_bytes y_refusals m_places m_people m_hour m_chance m_seed m_ways m_kind m_by m_home m_aim m_at0 m_shelf m_rowSort m_rowSize z_rows m_shown m_tape m_tapeSize z_refused m_gone m_kept_places m_kept_people m_kept_hour m_kept_chance m_kept_seed m_kept_ways m_kept_kind m_kept_by m_kept_home m_kept_aim m_kept_at0 := by
  have R0 := R
  obtain ⟨P, n, h, c, s, W, K, A, H, M, L, T, ⟨rfl, rfl, rfl, rfl, rfl, rfl, xd, xk, xa, xh, xm, xl⟩, ⟨rfl, rfl, rfl, rfl, rfl, rfl, mk, ma, mh, mm, ml⟩, rfl, S, U, V, Z⟩ := R
  obtain ⟨hP2, hP, hn, hW, hK, hH, hM, hL, hho⟩ := id T
  unfold fX7_set fX8_set
  rcases cShelf p0 with ⟨k, hk, rfl, a1, a2⟩ | ⟨a1, a2⟩
  · rcases p_rowReason hn hk S with ⟨h1, h2, h3, g⟩ | ⟨t, m, ht, hm, h1, h2, h3, h4, h5, h6, g⟩ | ⟨t, ht, h1, h2, h3, h4, g⟩
    · obtain ⟨x2, m2, e1, e2, q⟩ := rf4 V
      unfold fX8_noRow
      simp only [a2, g, bo1, bo2, bo3, bo4, bo5, bo6, bo7, bo12, jo0, jo1, vlet, i10, i00, if_true, if_false, ite_self, if_n (nin (k := k) (N := 8) (by omega) (by omega)), if_n (nin2 (k := k) (N := 8) (by omega) (by omega)), nc (n := k) (by omega), h3, i02, e1, e2, im40]
      exact ⟨_, _, _, _, _, rfl, rfl, R0.rf q⟩
    · obtain ⟨x2, m2, e1, e2, q⟩ := rf2 V
      unfold fX8_noRow fX2_hasElement
      simp only [a2, g, bo1, bo2, bo3, bo4, bo5, bo6, bo7, bo12, jo0, jo1, vlet, i10, i00, if_true, if_false, ite_self, if_n (nin (k := k) (N := 8) (by omega) (by omega)), if_n (nin2 (k := k) (N := 8) (by omega) (by omega)), nc (n := k) (by omega), h3, i12, h2, h5]
      rcases cR m (by omega) p1 with ⟨j, hj, rfl, b⟩ | ⟨b1, b⟩
      · have hst : ∃ v, fX2_store (nI t) (x_shelves_e k) (nI j) p2 = some (vp_updL (x_shelves_e k) j v) ∧ fX8_fit (nI t) p2 = some v := by
          unfold fX2_store fX8_fit
          simp only [bo1, bo2, bo3, bo4, bo5, bo6, bo7, bo12, jo0, jo1, vlet, i10, i00, if_true, if_false, ite_self, if_n (nin (k := j) (N := 40) (by omega) (by omega)), if_n (nin2 (k := j) (N := 40) (by omega) (by omega)), nc (n := j) (by omega)]
          match t, ht with
          | 0, _ => exact ⟨_, rfl, rfl⟩
          | 1, _ => exact ⟨_, rfl, rfl⟩
          | 2, _ => exact ⟨_, rfl, rfl⟩
          | 3, _ => exact ⟨_, rfl, rfl⟩
          | 4, _ =>
            by_cases q0 : lg_cmp p2 (0 : Int64) = 0
            · simp only [q0, if_true]; exact ⟨_, rfl, rfl⟩
            · simp only [q0, if_false]; exact ⟨_, rfl, rfl⟩
          | t + 5, h => exact absurd h (by omega)
        obtain ⟨v, s1, s2⟩ := hst
        simp only [b, bo1, bo2, bo3, bo4, bo5, bo6, bo7, bo12, jo0, jo1, vlet, i10, i00, if_true, if_false, ite_self, if_n (nin (k := j) (N := 40) (by omega) (by omega)), if_n (nin2 (k := j) (N := 40) (by omega) (by omega)), nc (n := j) (by omega), if_neg (nI_pos (n := j) (by omega)), nle (a := m) (b := j) (by omega) (by omega), show ¬ m ≤ j from by omega, h1, h4, s1, s2]
        refine ⟨_, _, _, _, _, rfl, rfl, R0.sh (fun n' _ _ S' => shr_set (k := k) S' (fun i hi => ⟨rfl, rfl, va_up_ne _ _ hi, rfl, rfl, rfl, va_up_ne _ _ hi, rfl⟩) (Or.inr (Or.inl ⟨t, m, ht, hm, h1, h2, h3, h4, h5, fun i hi => ?_⟩)))⟩
        rw [va_up_self, va_up_self]
        unfold vp_updL
        by_cases e : i = j
        · rw [if_pos e, if_pos e]
        · rw [if_neg e, if_neg e]; exact h6 i hi
      · rcases b1 with b1 | b1
        · simp only [b, bo1, bo2, bo3, bo4, bo5, bo6, bo7, bo12, jo0, jo1, vlet, i10, i00, if_true, if_false, ite_self, if_pos b1, e1, e2, im20]
          exact ⟨_, _, _, _, _, rfl, rfl, R0.rf q⟩
        · simp only [b, bo1, bo2, bo3, bo4, bo5, bo6, bo7, bo12, jo0, jo1, vlet, i10, i00, if_true, if_false, ite_self, if_pos b1, e1, e2, im20]
          exact ⟨_, _, _, _, _, rfl, rfl, R0.rf q⟩
    · obtain ⟨x2, m2, e1, e2, q⟩ := rf3 V
      unfold fX8_noRow
      simp only [a2, g, bo1, bo2, bo3, bo4, bo5, bo6, bo7, bo12, jo0, jo1, vlet, i10, i00, if_true, if_false, ite_self, if_n (nin (k := k) (N := 8) (by omega) (by omega)), if_n (nin2 (k := k) (N := 8) (by omega) (by omega)), nc (n := k) (by omega), h3, i22, e1, e2, im30]
      exact ⟨_, _, _, _, _, rfl, rfl, R0.rf q⟩
  · obtain ⟨x2, m2, e1, e2, q⟩ := rf2 V
    unfold fX7_rowReason fX8_noRow
    simp only [a1, a2, bo1, bo2, bo3, bo4, bo5, bo6, bo7, bo12, jo0, jo1, vlet, i10, i00, if_true, if_false, ite_self, e1, e2, im20]
    exact ⟨_, _, _, _, _, rfl, rfl, R0.rf q⟩
theorem tt_show {x_now_places : Int32} {x_now_people : Int32} {x_now_hour : Int32} {x_now_chance : Int32} {x_now_seed : Int32} {x_now_ways : Nat → Int32} {x_now_distances : Nat → Int32} {x_now_kind : Nat → Int32} {x_now_a : Nat → Int32} {x_now_home : Nat → Int32} {x_now_aim : Nat → Int32} {x_now_at : Nat → Int32} {x_kept_places : Int32} {x_kept_people : Int32} {x_kept_hour : Int32} {x_kept_chance : Int32} {x_kept_seed : Int32} {x_kept_ways : Nat → Int32} {x_kept_distances : Nat → Int32} {x_kept_kind : Nat → Int32} {x_kept_a : Nat → Int32} {x_kept_home : Nat → Int32} {x_kept_aim : Nat → Int32} {x_kept_at : Nat → Int32} {x_isKept : Int32} {x_shelves_c : Nat → Int32} {x_shelves_z : Nat → Int32} {x_shelves_e : Nat → Nat → Int64} {x_tape_size : Int32} {x_tape_bytes : Nat → Int32} {x_refusals : Nat → Int32} {m_places : Int32} {m_people : Int32} {m_hour : Int32} {m_chance : Int32} {m_seed : Int32} {m_ways : Nat → Int32} {m_kind : Nat → Int32} {m_by : Nat → Int32} {m_home : Nat → Int32} {m_aim : Nat → Int32} {m_at0 : Nat → Int32} {m_shelf : Nat → Int32} {m_rowSort : Nat → Int32} {m_rowSize : Nat → Int32} {m_rows : Nat → Nat → Int64} {m_shown : Nat → Int32} {m_tape : Nat → Int32} {m_tapeSize : Int32} {m_refused : Nat → Int32} {m_gone : Int32} {m_kept_places : Int32} {m_kept_people : Int32} {m_kept_hour : Int32} {m_kept_chance : Int32} {m_kept_seed : Int32} {m_kept_ways : Nat → Int32} {m_kept_kind : Nat → Int32} {m_kept_by : Nat → Int32} {m_kept_home : Nat → Int32} {m_kept_aim : Nat → Int32} {m_kept_at0 : Nat → Int32} {kb : Bool} (p0 : Int32) (p1 : Int32) (R : Rel kb x_now_places x_now_people x_now_hour x_now_chance x_now_seed x_now_ways x_now_distances x_now_kind x_now_a x_now_home x_now_aim x_now_at x_kept_places x_kept_people x_kept_hour x_kept_chance x_kept_seed x_kept_ways x_kept_distances x_kept_kind x_kept_a x_kept_home x_kept_aim x_kept_at x_isKept x_shelves_c x_shelves_z x_shelves_e x_tape_size x_tape_bytes x_refusals m_places m_people m_hour m_chance m_seed m_ways m_kind m_by m_home m_aim m_at0 m_shelf m_rowSort m_rowSize m_rows m_shown m_tape m_tapeSize m_refused m_gone m_kept_places m_kept_people m_kept_hour m_kept_chance m_kept_seed m_kept_ways m_kept_kind m_kept_by m_kept_home m_kept_aim m_kept_at0) : ∃ (r : Int32) (y_refusals : Nat → Int32) (y_shelves_c : Nat → Int32) (y_shelves_z : Nat → Int32) (z_shelf : Nat → Int32) (z_shown : Nat → Int32) (z_refused : Nat → Int32), fX7_show x_now_people x_refusals x_shelves_c x_shelves_z p0 p1 = some (r, y_refusals, y_shelves_c, y_shelves_z) ∧ fX8_show m_people m_shelf m_shown m_refused p0 p1 = some (r, z_shelf, z_shown, z_refused) ∧ Rel kb x_now_places x_now_people x_now_hour x_now_chance x_now_seed x_now_ways x_now_distances x_now_kind x_now_a x_now_home x_now_aim x_now_at x_kept_places x_kept_people x_kept_hour x_kept_chance x_kept_seed x_kept_ways x_kept_distances x_kept_kind x_kept_a x_kept_home x_kept_aim x_kept_at x_isKept y_shelves_c y_shelves_z x_shelves_e x_tape_size x_tape_bytes y_refusals m_places m_people m_hour m_chance m_seed m_ways m_kind m_by m_home m_aim m_at0 z_shelf m_rowSort m_rowSize m_rows z_shown m_tape m_tapeSize z_refused m_gone m_kept_places m_kept_people m_kept_hour m_kept_chance m_kept_seed m_kept_ways m_kept_kind m_kept_by m_kept_home m_kept_aim m_kept_at0 := by
  have R0 := R
  obtain ⟨P, n, h, c, s, W, K, A, H, M, L, T, ⟨rfl, rfl, rfl, rfl, rfl, rfl, xd, xk, xa, xh, xm, xl⟩, ⟨rfl, rfl, rfl, rfl, rfl, rfl, mk, ma, mh, mm, ml⟩, rfl, S, U, V, Z⟩ := R
  obtain ⟨hP2, hP, hn, hW, hK, hH, hM, hL, hho⟩ := id T
  obtain ⟨x2, m2, e1, e2, q⟩ := rf2 V
  unfold fX7_show fX8_show
  rcases cShelf p0 with ⟨k, hk, rfl, a1, a2⟩ | ⟨a1, a2⟩
  · by_cases g : p1 = (-1 : Int32)
    · subst g
      simp only [a1, a2, bo1, bo2, bo3, bo4, bo5, bo6, bo7, bo12, jo0, jo1, vlet, i10, i00, if_true, if_false, ite_self, if_n (nin (k := k) (N := 8) (by omega) (by omega)), if_n (nin2 (k := k) (N := 8) (by omega) (by omega)), nc (n := k) (by omega), hmm, fX2_takeNothing]
      exact ⟨_, _, _, _, _, _, _, rfl, rfl, R0.sh (fun n' _ _ S' => shr_set (k := k) S' (fun j hj => ⟨va_up_ne _ _ hj, va_up_ne _ _ hj, rfl, pk_un hj, rfl, rfl, rfl, pk_un hj⟩) (Or.inl ⟨va_up_self _ _ _, va_up_self _ _ _, pk_us⟩))⟩
    · rcases cPerson n hn p1 with ⟨t, ht, rfl, b1, b2⟩ | ⟨b1, b2⟩
      · simp only [a1, a2, b1, b2, bo1, bo2, bo3, bo4, bo5, bo6, bo7, bo12, jo0, jo1, vlet, i10, i00, if_true, if_false, ite_self, if_n (nin (k := k) (N := 8) (by omega) (by omega)), if_n (nin2 (k := k) (N := 8) (by omega) (by omega)), nc (n := k) (by omega), g, fX2_takePerson]
        refine ⟨_, _, _, _, _, _, _, rfl, rfl, R0.sh (fun n' en hn' S' => shr_set (k := k) S' (fun j hj => ⟨va_up_ne _ _ hj, va_up_ne _ _ hj, rfl, pk_un hj, rfl, rfl, rfl, pk_un hj⟩) (Or.inr (Or.inr ⟨t, ?_, ?_, va_up_self _ _ _, pk_us, pk_us⟩)))⟩
        · rw [neq (by omega) (by omega)] at en; omega
        · rw [va_up_self]; exact nI_add 10 t
      · simp only [a1, a2, b1, b2, bo1, bo2, bo3, bo4, bo5, bo6, bo7, bo12, jo0, jo1, vlet, i10, i00, if_true, if_false, ite_self, g, e1, e2]
        exact ⟨_, _, _, _, _, _, _, rfl, rfl, R0.rf q⟩
  · simp only [a1, a2, bo1, bo2, bo3, bo4, bo5, bo6, bo7, bo12, jo0, jo1, vlet, i10, i00, if_true, if_false, ite_self, e1, e2]
    exact ⟨_, _, _, _, _, _, _, rfl, rfl, R0.rf q⟩
