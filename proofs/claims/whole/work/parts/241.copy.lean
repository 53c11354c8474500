/-! ===== copies between rows ===== -/
theorem l40 (x : Nat → Int64) (y : Nat → Int64) : True := trivial
/-- n of f from sp put into g from dp, the first i of them -/
theorem cpy_s {f g : Nat → Int64} {sp dp i : Nat} : vp_updL (va_cpy f g sp dp i) (dp + i) (f (sp + i)) = va_cpy f g sp dp (i + 1) := by
  funext j
  by_cases e : j = dp + i
  · subst e
    rw [pk_uLs, pk_cpy_in (by omega) (by omega)]
    congr 1
    omega
  · rw [pk_uLn e]
    by_cases h : dp ≤ j ∧ j < dp + i
    · rw [pk_cpy_in h.1 h.2, pk_cpy_in h.1 (by omega)]
    · rw [pk_cpy_out (by omega), pk_cpy_out (by omega)]
theorem cpy_0 (f g : Nat → Int64) (sp dp : Nat) : va_cpy f g sp dp 0 = g := by
  funext j
  exact pk_cpy_out (by omega)
theorem vup_self (u : Nat → Nat → Int64) (k : Nat) (x : Nat → Int64) : va_up u k x k = x := va_up_self _ _ _
theorem vup_up (u : Nat → Nat → Int64) (k : Nat) (x y : Nat → Int64) : va_up (va_up u k x) k y = va_up u k y := by
  funext j
  by_cases e : j = k
  · subst e; rw [va_up_self, va_up_self]
  · rw [va_up_ne _ _ e, va_up_ne _ _ e, va_up_ne _ _ e]
theorem vup_id (u : Nat → Nat → Int64) (k : Nat) : va_up u k (u k) = u := by
  funext j
  by_cases e : j = k
  · subst e; rw [va_up_self]
  · rw [va_up_ne _ _ e]
/-- sizes, asked on both sides: where, where to, how many -/
theorem c_sizes (s t : Nat) (hs : s ≤ 40) (ht : t ≤ 40) (x y z : Int32) : (∃ i j m, i + m ≤ s ∧ j + m ≤ t ∧ x = nI i ∧ y = nI j ∧ z = nI m ∧ fX2_hasElements (nI s) x z = some 1 ∧ fX2_hasElements (nI t) y z = some 1 ∧ (z < 0) = False ∧ (x < 0) = False ∧ (y < 0) = False ∧ (nI s < z) = False ∧ (nI t < z) = False ∧ ((nI s - z) < x) = False ∧ (y ≤ (nI t - z)) = True) ∨ ((fX2_hasElements (nI s) x z = some 0 ∨ (fX2_hasElements (nI s) x z = some 1 ∧ fX2_hasElements (nI t) y z = some 0)) ∧ ((z < 0) = True ∨ ((z < 0) = False ∧ ((x < 0) = True ∨ ((x < 0) = False ∧ ((y < 0) = True ∨ ((y < 0) = False ∧ ((nI s < z) = True ∨ ((nI s < z) = False ∧ ((nI t < z) = True ∨ ((nI t < z) = False ∧ (((nI s - z) < x) = True ∨ (((nI s - z) < x) = False ∧ (y ≤ (nI t - z)) = False))))))))))))) := by
  unfold fX2_hasElements
  by_cases hz : z < 0
  · right
    refine ⟨Or.inl ?_, Or.inl (eq_true hz)⟩
    by_cases hx : x < 0
    · rw [if_pos hx]
    · rw [if_neg hx, if_pos hz]
  · have hz' := eq_false hz
    by_cases hx : x < 0
    · right
      exact ⟨Or.inl (if_pos hx), Or.inr ⟨hz', Or.inl (eq_true hx)⟩⟩
    · have hx' := eq_false hx
      obtain ⟨m, hm, rfl⟩ := nx hz
      obtain ⟨i, hi, rfl⟩ := nx hx
      by_cases hy : y < 0
      · right
        refine ⟨?_, Or.inr ⟨hz', Or.inr ⟨hx', Or.inl (eq_true hy)⟩⟩⟩
        rw [if_neg hx, if_neg hz, if_pos hy]
        by_cases g1 : nI s < nI m
        · exact Or.inl (if_pos g1)
        · rw [if_neg g1]
          by_cases g2 : nI s - nI m < nI i
          · exact Or.inl (if_pos g2)
          · exact Or.inr ⟨if_neg g2, rfl⟩
      · have hy' := eq_false hy
        obtain ⟨j, hj, rfl⟩ := nx hy
        rw [if_neg hx, if_neg hz, if_neg hy, if_neg hz]
        by_cases g1 : s < m
        · right
          have g1' : nI s < nI m := by rw [nI_ltI (by omega) (by omega)]; exact g1
          exact ⟨Or.inl (if_pos g1'), Or.inr ⟨hz', Or.inr ⟨hx', Or.inr ⟨hy', Or.inl (eq_true g1')⟩⟩⟩⟩
        · have g1' : ¬ nI s < nI m := by rw [nI_ltI (by omega) (by omega)]; exact g1
          rw [if_neg g1']
          have es : nI s - nI m = nI (s - m) := pk_sub (by omega)
          rw [es]
          by_cases g2 : t < m
          · right
            have g2' : nI t < nI m := by rw [nI_ltI (by omega) (by omega)]; exact g2
            refine ⟨?_, Or.inr ⟨hz', Or.inr ⟨hx', Or.inr ⟨hy', Or.inr ⟨eq_false g1', Or.inl (eq_true g2')⟩⟩⟩⟩⟩
            by_cases g3 : nI (s - m) < nI i
            · exact Or.inl (if_pos g3)
            · exact Or.inr ⟨if_neg g3, if_pos g2'⟩
          · have g2' : ¬ nI t < nI m := by rw [nI_ltI (by omega) (by omega)]; exact g2
            rw [if_neg g2']
            have et : nI t - nI m = nI (t - m) := pk_sub (by omega)
            rw [et]
            by_cases g3 : s - m < i
            · right
              have g3' : nI (s - m) < nI i := by rw [nI_ltI (by omega) (by omega)]; exact g3
              exact ⟨Or.inl (if_pos g3'), Or.inr ⟨hz', Or.inr ⟨hx', Or.inr ⟨hy', Or.inr ⟨eq_false g1', Or.inr ⟨eq_false g2', Or.inl (eq_true g3')⟩⟩⟩⟩⟩⟩
            · have g3' : ¬ nI (s - m) < nI i := by rw [nI_ltI (by omega) (by omega)]; exact g3
              by_cases g4 : t - m < j
              · right
                have g4' : nI (t - m) < nI j := by rw [nI_ltI (by omega) (by omega)]; exact g4
                refine ⟨Or.inr ⟨if_neg g3', if_pos g4'⟩, Or.inr ⟨hz', Or.inr ⟨hx', Or.inr ⟨hy', Or.inr ⟨eq_false g1', Or.inr ⟨eq_false g2', Or.inr ⟨eq_false g3', eq_false ?_⟩⟩⟩⟩⟩⟩⟩
                rw [nI_leI (by omega) (by omega)]; omega
              · left
                have g4' : ¬ nI (t - m) < nI j := by rw [nI_ltI (by omega) (by omega)]; exact g4
                refine ⟨i, j, m, by omega, by omega, rfl, rfl, rfl, if_neg g3', if_neg g4', hz', hx', hy', eq_false g1', eq_false g2', eq_false g3', eq_true ?_⟩
                rw [nI_leI (by omega) (by omega)]; omega
theorem ic42 : ((-4 : Int32) = (-2 : Int32)) = False := by decide
theorem ic43 : ((-4 : Int32) = (-3 : Int32)) = False := by decide
theorem ic44 : ((-4 : Int32) = (-4 : Int32)) = True := by decide
theorem ic32 : ((-3 : Int32) = (-2 : Int32)) = False := by decide
theorem ic33 : ((-3 : Int32) = (-3 : Int32)) = True := by decide
theorem ic22 : ((-2 : Int32) = (-2 : Int32)) = True := by decide
theorem ic02 : ((0 : Int32) = (-2 : Int32)) = False := by decide
theorem ic03 : ((0 : Int32) = (-3 : Int32)) = False := by decide
theorem ic04 : ((0 : Int32) = (-4 : Int32)) = False := by decide
theorem rr_bad {c : Nat → Int32} {x : Int32} (h : fX7_isShelf x = some 0) : fX7_rowReason c x = some (-2) := by
  unfold fX7_rowReason
  rw [h]
  rfl
/-- the reason, on both sides -/
theorem p_two {n : Nat} {c z : Nat → Int32} {e : Nat → Nat → Int64} {f s r : Nat → Int32} {w : Nat → Nat → Int64} {o : Nat → Int32} (hn : n ≤ 8) (S : shr n c z e f s r w o) (p0 p1 : Int32) : (fX7_twoRowsReason c p0 p1 = some (-2) ∧ (fX8_in p0.toInt64 (0 : Int64) (7 : Int64) = some 0 ∨ (fX8_in p0.toInt64 (0 : Int64) (7 : Int64) = some 1 ∧ fX8_in p1.toInt64 (0 : Int64) (7 : Int64) = some 0))) ∨ (∃ a b, a < 8 ∧ b < 8 ∧ p0 = nI a ∧ p1 = nI b ∧ fX8_in p0.toInt64 (0 : Int64) (7 : Int64) = some 1 ∧ fX8_in p1.toInt64 (0 : Int64) (7 : Int64) = some 1 ∧ ((fX7_twoRowsReason c p0 p1 = some (-3) ∧ (f a = 2 ∨ ((f a = 2) = False ∧ (f b = 2 ∨ ((f b = 2) = False ∧ f a = 1 ∧ f b = 1 ∧ (s a = s b) = False))))) ∨ (fX7_twoRowsReason c p0 p1 = some (-4) ∧ (f a = 2) = False ∧ (f b = 2) = False ∧ (f a = 0 ∨ (f a = 1 ∧ f b = 0))) ∨ (fX7_twoRowsReason c p0 p1 = some 0 ∧ f a = 1 ∧ f b = 1 ∧ s a = s b ∧ ∃ sa sb, sa ≤ 40 ∧ sb ≤ 40 ∧ z a = nI sa ∧ z b = nI sb ∧ r a = nI sa ∧ r b = nI sb ∧ (∀ j, j < 40 → e a j = w a j) ∧ (∀ j, j < 40 → e b j = w b j)))) := by
  rcases cShelf p0 with ⟨a, ha, rfl, a1, a2⟩ | ⟨a1, a2⟩
  · rcases cShelf p1 with ⟨b, hb, rfl, b1, b2⟩ | ⟨b1, b2⟩
    · right
      refine ⟨a, b, ha, hb, rfl, rfl, a2, b2, ?_⟩
      unfold fX7_twoRowsReason
      rcases p_rowReason hn ha S with ⟨h1, h2, h3, gr⟩ | ⟨t, sz, ht, hsz, h1, h2, h3, h4, h5, h6, gr⟩ | ⟨t, ht, h1, h2, h3, h4, gr⟩
      · rcases p_rowReason hn hb S with ⟨k1, k2, k3, kr⟩ | ⟨t', sz', ht', hsz', k1, k2, k3, k4, k5, k6, kr⟩ | ⟨t', ht', k1, k2, k3, k4, kr⟩
        · right; left
          simp only [gr, kr, ic42, ic43, ic44, bo1, bo2, bo3, bo4, bo5, bo6, bo7, bo12, jo0, jo1, vlet, i10, i00, if_true, if_false, ite_self, n1z, n0z, h3, k3, i02]
          exact ⟨trivial, trivial, trivial, Or.inl trivial⟩
        · right; left
          simp only [gr, kr, ic42, ic43, ic44, ic02, ic03, ic04, bo1, bo2, bo3, bo4, bo5, bo6, bo7, bo12, jo0, jo1, vlet, i10, i00, if_true, if_false, ite_self, n1z, n0z, h3, k3, i02, i12]
          exact ⟨trivial, trivial, trivial, Or.inl trivial⟩
        · left
          simp only [gr, kr, ic42, ic43, ic44, ic32, ic33, bo1, bo2, bo3, bo4, bo5, bo6, bo7, bo12, jo0, jo1, vlet, i10, i00, if_true, if_false, ite_self, n1z, n0z, h3, k3, i02]
          exact ⟨trivial, Or.inr ⟨trivial, Or.inl trivial⟩⟩
      · rcases p_rowReason hn hb S with ⟨k1, k2, k3, kr⟩ | ⟨t', sz', ht', hsz', k1, k2, k3, k4, k5, k6, kr⟩ | ⟨t', ht', k1, k2, k3, k4, kr⟩
        · right; left
          simp only [gr, kr, ic42, ic43, ic44, ic02, ic03, ic04, bo1, bo2, bo3, bo4, bo5, bo6, bo7, bo12, jo0, jo1, vlet, i10, i00, if_true, if_false, ite_self, n1z, n0z, h3, k3, i02, i12]
          exact ⟨trivial, trivial, trivial, Or.inr ⟨trivial, trivial⟩⟩
        · by_cases q : t = t'
          · subst q
            right; right
            simp only [gr, kr, ic02, ic03, ic04, bo1, bo2, bo3, bo4, bo5, bo6, bo7, bo12, jo0, jo1, vlet, i10, i00, if_true, if_false, ite_self, n1z, n0z, h3, k3, h4, k4, h1, k1, if_n (nin (k := a) (N := 8) (by omega) (by omega)), if_n (nin2 (k := a) (N := 8) (by omega) (by omega)), nc (n := a) (by omega), if_n (nin (k := b) (N := 8) (by omega) (by omega)), if_n (nin2 (k := b) (N := 8) (by omega) (by omega)), nc (n := b) (by omega)]
            exact ⟨trivial, trivial, trivial, trivial, sz, sz', hsz, hsz', h2, k2, h5, k5, h6, k6⟩
          · left
            simp only [gr, kr, ic02, ic03, ic04, bo1, bo2, bo3, bo4, bo5, bo6, bo7, bo12, jo0, jo1, vlet, i10, i00, if_true, if_false, ite_self, n1z, n0z, h3, k3, h4, k4, h1, k1, if_n (nin (k := a) (N := 8) (by omega) (by omega)), if_n (nin2 (k := a) (N := 8) (by omega) (by omega)), nc (n := a) (by omega), if_n (nin (k := b) (N := 8) (by omega) (by omega)), if_n (nin2 (k := b) (N := 8) (by omega) (by omega)), nc (n := b) (by omega), i12, neq (a := t) (b := t') (by omega) (by omega), q]
            exact ⟨trivial, Or.inr ⟨trivial, Or.inr ⟨trivial, trivial, trivial, trivial⟩⟩⟩
        · left
          simp only [gr, kr, ic32, ic33, ic02, ic03, ic04, bo1, bo2, bo3, bo4, bo5, bo6, bo7, bo12, jo0, jo1, vlet, i10, i00, if_true, if_false, ite_self, n1z, n0z, h3, k3, i12]
          exact ⟨trivial, Or.inr ⟨trivial, Or.inl trivial⟩⟩
      · left
        rcases p_rowReason hn hb S with ⟨k1, k2, k3, kr⟩ | ⟨t', sz', ht', hsz', k1, k2, k3, k4, k5, k6, kr⟩ | ⟨t', ht', k1, k2, k3, k4, kr⟩
        · simp only [gr, kr, ic42, ic32, ic33, bo1, bo2, bo3, bo4, bo5, bo6, bo7, bo12, jo0, jo1, vlet, i10, i00, if_true, if_false, ite_self, n1z, n0z, h3]
          exact ⟨trivial, Or.inl trivial⟩
        · simp only [gr, kr, ic02, ic32, ic33, bo1, bo2, bo3, bo4, bo5, bo6, bo7, bo12, jo0, jo1, vlet, i10, i00, if_true, if_false, ite_self, n1z, n0z, h3]
          exact ⟨trivial, Or.inl trivial⟩
        · simp only [gr, kr, ic32, ic33, bo1, bo2, bo3, bo4, bo5, bo6, bo7, bo12, jo0, jo1, vlet, i10, i00, if_true, if_false, ite_self, n1z, n0z, h3]
          exact ⟨trivial, Or.inl trivial⟩
    · left
      refine ⟨?_, Or.inr ⟨a2, b2⟩⟩
      unfold fX7_twoRowsReason
      rw [rr_bad b1]
      rcases p_rowReason hn ha S with ⟨h1, h2, h3, gr⟩ | ⟨t, sz, ht, hsz, h1, h2, h3, h4, h5, h6, gr⟩ | ⟨t, ht, h1, h2, h3, h4, gr⟩
      · rw [gr]; rfl
      · rw [gr]; rfl
      · rw [gr]; rfl
  · left
    refine ⟨?_, Or.inl a2⟩
    unfold fX7_twoRowsReason
    rw [rr_bad a1]
    rcases cShelf p1 with ⟨b, hb, rfl, b1, b2⟩ | ⟨b1, b2⟩
    · rcases p_rowReason hn hb S with ⟨h1, h2, h3, gr⟩ | ⟨t, sz, ht, hsz, h1, h2, h3, h4, h5, h6, gr⟩ | ⟨t, ht, h1, h2, h3, h4, gr⟩
      · rw [gr]; rfl
      · rw [gr]; rfl
      · rw [gr]; rfl
    · rw [rr_bad b1]; rfl
theorem n_addlt {i k : Nat} : nI i + nI k = nI (i + k) := nI_add i k
theorem tt_copy {x_now_places : Int32} {x_now_people : Int32} {x_now_hour : Int32} {x_now_chance : Int32} {x_now_seed : Int32} {x_now_ways : Nat → Int32} {x_now_distances : Nat → Int32} {x_now_kind : Nat → Int32} {x_now_a : Nat → Int32} {x_now_home : Nat → Int32} {x_now_aim : Nat → Int32} {x_now_at : Nat → Int32} {x_kept_places : Int32} {x_kept_people : Int32} {x_kept_hour : Int32} {x_kept_chance : Int32} {x_kept_seed : Int32} {x_kept_ways : Nat → Int32} {x_kept_distances : Nat → Int32} {x_kept_kind : Nat → Int32} {x_kept_a : Nat → Int32} {x_kept_home : Nat → Int32} {x_kept_aim : Nat → Int32} {x_kept_at : Nat → Int32} {x_isKept : Int32} {x_shelves_c : Nat → Int32} {x_shelves_z : Nat → Int32} {x_shelves_e : Nat → Nat → Int64} {x_tape_size : Int32} {x_tape_bytes : Nat → Int32} {x_refusals : Nat → Int32} {m_places : Int32} {m_people : Int32} {m_hour : Int32} {m_chance : Int32} {m_seed : Int32} {m_ways : Nat → Int32} {m_kind : Nat → Int32} {m_by : Nat → Int32} {m_home : Nat → Int32} {m_aim : Nat → Int32} {m_at0 : Nat → Int32} {m_shelf : Nat → Int32} {m_rowSort : Nat → Int32} {m_rowSize : Nat → Int32} {m_rows : Nat → Nat → Int64} {m_shown : Nat → Int32} {m_tape : Nat → Int32} {m_tapeSize : Int32} {m_refused : Nat → Int32} {m_gone : Int32} {m_kept_places : Int32} {m_kept_people : Int32} {m_kept_hour : Int32} {m_kept_chance : Int32} {m_kept_seed : Int32} {m_kept_ways : Nat → Int32} {m_kept_kind : Nat → Int32} {m_kept_by : Nat → Int32} {m_kept_home : Nat → Int32} {m_kept_aim : Nat → Int32} {m_kept_at0 : Nat → Int32} {kb : Bool} (m_moved : Nat → Int64) (p0 : Int32) (p1 : Int32) (p2 : Int32) (p3 : Int32) (p4 : Int32) (R : Rel kb x_now_places x_now_people x_now_hour x_now_chance x_now_seed x_now_ways x_now_distances x_now_kind x_now_a x_now_home x_now_aim x_now_at x_kept_places x_kept_people x_kept_hour x_kept_chance x_kept_seed x_kept_ways x_kept_distances x_kept_kind x_kept_a x_kept_home x_kept_aim x_kept_at x_isKept x_shelves_c x_shelves_z x_shelves_e x_tape_size x_tape_bytes x_refusals m_places m_people m_hour m_chance m_seed m_ways m_kind m_by m_home m_aim m_at0 m_shelf m_rowSort m_rowSize m_rows m_shown m_tape m_tapeSize m_refused m_gone m_kept_places m_kept_people m_kept_hour m_kept_chance m_kept_seed m_kept_ways m_kept_kind m_kept_by m_kept_home m_kept_aim m_kept_at0) : ∃ (r : Int32) (y_refusals : Nat → Int32) (y_shelves_e : Nat → Nat → Int64) (z_moved : Nat → Int64) (z_refused : Nat → Int32) (z_rows : Nat → Nat → Int64), fX7_copy x_refusals x_shelves_c x_shelves_z x_shelves_e p0 p1 p2 p3 p4 = some (r, y_refusals, y_shelves_e) ∧ fX8_copy m_shelf m_rowSort m_rowSize m_moved m_refused m_rows p0 p1 p2 p3 p4 = some (r, z_moved, z_refused, z_rows) ∧ Rel kb x_now_places x_now_people x_now_hour x_now_chance x_now_seed x_now_ways x_now_distances x_now_kind x_now_a x_now_home x_now_aim x_now_at x_kept_places x_kept_people x_kept_hour x_kept_chance x_kept_seed x_kept_ways x_kept_distances x_kept_kind x_kept_a x_kept_home x_kept_aim x_kept_at x_isKept x_shelves_c x_shelves_z y_shelves_e x_tape_size x_tape_bytes y_refusals m_places m_people m_hour m_chance m_seed m_ways m_kind m_by m_home m_aim m_at0 m_shelf m_rowSort m_rowSize z_rows m_shown m_tape m_tapeSize z_refused m_gone m_kept_places m_kept_people m_kept_hour m_kept_chance m_kept_seed m_kept_ways m_kept_kind m_kept_by m_kept_home m_kept_aim m_kept_at0 := by
  have R0 := R
  obtain ⟨P, n, h, c, s, W, K, A, H, M, L, T, ⟨rfl, rfl, rfl, rfl, rfl, rfl, xd, xk, xa, xh, xm, xl⟩, ⟨rfl, rfl, rfl, rfl, rfl, rfl, mk, ma, mh, mm, ml⟩, rfl, S, U, V, Z⟩ := R
  obtain ⟨hP2, hP, hn, hW, hK, hH, hM, hL, hho⟩ := id T
  obtain ⟨x2, m2, e1, e2, q2⟩ := rf2 V
  obtain ⟨x3, m3, e3, e4, q3⟩ := rf3 V
  obtain ⟨x4, m4, e5, e6, q4⟩ := rf4 V
  have hxb : ∀ why xr', (why = 0) = False → fX7_twoRowsReason x_shelves_c p0 p1 = some why → fX7_refuse x_refusals why = some (why, xr') → fX7_copy x_refusals x_shelves_c x_shelves_z x_shelves_e p0 p1 p2 p3 p4 = some (why, xr', x_shelves_e) := by
    intro why xr' y0 h1 h2
    have hy : ¬ why = 0 := by rw [y0]; exact id
    unfold fX7_copy
    rw [h1, bo1N, jo1N, if_neg hy]
    dsimp only
    rw [if_neg hy, h2, bo2N]
  rcases p_two hn S p0 p1 with ⟨r1, bad⟩ | ⟨a, b, ha, hb, rfl, rfl, a2, b2, ⟨r1, bad⟩ | ⟨r1, n2a, n2b, bad⟩ | ⟨r1, fa, fb, sab, sa, sb, hsa, hsb, za, zb, ra_, rb_, ea, eb⟩⟩
  · rw [hxb (-2) x2 im2 r1 e1]
    have hm : fX8_copy m_shelf m_rowSort m_rowSize m_moved m_refused m_rows p0 p1 p2 p3 p4 = some (-2, m_moved, m2, m_rows) := by
      unfold fX8_copy
      rcases bad with a2 | ⟨a2, b2⟩
      · rw [a2, bo1N, jo0N, if_pos rfl, e2, bo2N]
      · rw [a2, b2, bo1N, jo0N, if_neg (by decide), bo1N, if_pos rfl, e2, bo2N]
    rw [hm]
    exact ⟨_, _, _, _, _, _, rfl, rfl, R0.rf q2⟩
  · rw [hxb (-3) x3 im3 r1 e3]
    have hm : fX8_copy m_shelf m_rowSort m_rowSize m_moved m_refused m_rows (nI a) (nI b) p2 p3 p4 = some (-3, m_moved, m3, m_rows) := by
      unfold fX8_copy
      rw [a2, b2, bo1N, jo0N, if_neg (by decide), bo1N, if_neg (by decide)]
      simp only [if_n (nin (k := a) (N := 8) (by omega) (by omega)), if_n (nin2 (k := a) (N := 8) (by omega) (by omega)), nc (n := a) (by omega), if_n (nin (k := b) (N := 8) (by omega) (by omega)), if_n (nin2 (k := b) (N := 8) (by omega) (by omega)), nc (n := b) (by omega)]
      rw [jo0N, e4, bo2N]
      rcases bad with fa | ⟨fa, fb | ⟨fb, fa1, fb1, sab⟩⟩
      · rw [if_pos fa]
      · rw [if_neg (by rw [fa]; exact id), if_pos fb]
      · rw [if_neg (by rw [fa]; exact id), if_neg (by rw [fb]; exact id), jo0N, if_pos fa1, if_pos fb1, if_neg (by rw [sab]; exact id)]
    rw [hm]
    exact ⟨_, _, _, _, _, _, rfl, rfl, R0.rf q3⟩
  · rw [hxb (-4) x4 im4 r1 e5]
    have hm : fX8_copy m_shelf m_rowSort m_rowSize m_moved m_refused m_rows (nI a) (nI b) p2 p3 p4 = some (-4, m_moved, m4, m_rows) := by
      unfold fX8_copy
      rw [a2, b2, bo1N, jo0N, if_neg (by decide), bo1N, if_neg (by decide)]
      simp only [if_n (nin (k := a) (N := 8) (by omega) (by omega)), if_n (nin2 (k := a) (N := 8) (by omega) (by omega)), nc (n := a) (by omega), if_n (nin (k := b) (N := 8) (by omega) (by omega)), if_n (nin2 (k := b) (N := 8) (by omega) (by omega)), nc (n := b) (by omega)]
      rw [jo0N, if_neg (by rw [n2a]; exact id), if_neg (by rw [n2b]; exact id), jo0N, jo0N, e6, bo2N]
      rcases bad with fa | ⟨fa, fb⟩
      · rw [if_pos fa, if_neg (by rw [fa]; decide)]
      · rw [if_pos fa, if_neg (by rw [fb]; decide), if_neg (by rw [fa]; decide), if_pos fb]
    rw [hm]
    exact ⟨_, _, _, _, _, _, rfl, rfl, R0.rf q4⟩
  · rcases c_sizes sa sb hsa hsb p2 p3 p4 with ⟨i, j, m, him, hjm, rfl, rfl, rfl, g1, g2, l1, l2, l3, l4, l5, l6, l7⟩ | ⟨g, l⟩
    · have hx : fX7_copy x_refusals x_shelves_c x_shelves_z x_shelves_e (nI a) (nI b) (nI i) (nI j) (nI m) = some (nI m, x_refusals, va_up x_shelves_e b (va_cpy (x_shelves_e a) (x_shelves_e b) i j m)) := by
        unfold fX7_copy
        simp only [r1, n1z, n0z, bo1N, bo2N, bo3N, bo4N, bo5N, bo6N, bo12N, jo0N, jo1N, jo2N, vletN, i10, i00, if_true, if_false, ite_self, if_n (nin (k := a) (N := 8) (by omega) (by omega)), if_n (nin2 (k := a) (N := 8) (by omega) (by omega)), nc (n := a) (by omega), if_n (nin (k := b) (N := 8) (by omega) (by omega)), if_n (nin2 (k := b) (N := 8) (by omega) (by omega)), nc (n := b) (by omega), za, zb, g1, g2, nc (n := i) (by omega), nc (n := j) (by omega), nc (n := m) (by omega)]
        rw [if_neg ?_]
        intro h
        rcases h with h | h | h | h | h
        · exact nI_pos (by omega) h
        · exact nI_pos (by omega) h
        · exact nI_pos (by omega) h
        · omega
        · omega
      have hm : fX8_copy m_shelf m_rowSort m_rowSize m_moved m_refused m_rows (nI a) (nI b) (nI i) (nI j) (nI m) = some (nI m, va_cpy (m_rows a) m_moved i 0 m, m_refused, va_up m_rows b (va_cpy (va_cpy (m_rows a) m_moved i 0 m) (m_rows b) 0 j m)) := by
        unfold fX8_copy
        rw [a2, b2, bo1N, jo0N, if_neg (by decide), bo1N, if_neg (by decide)]
        simp only [if_n (nin (k := a) (N := 8) (by omega) (by omega)), if_n (nin2 (k := a) (N := 8) (by omega) (by omega)), nc (n := a) (by omega), if_n (nin (k := b) (N := 8) (by omega) (by omega)), if_n (nin2 (k := b) (N := 8) (by omega) (by omega)), nc (n := b) (by omega), ra_, rb_]
        rw [jo0N, if_neg (by rw [fa]; decide), if_neg (by rw [fb]; decide), jo0N, if_pos fa, if_pos fb, if_pos sab, jo0N, if_neg (by rw [fa]; decide), if_neg (by rw [fb]; decide), jo0N, if_neg (by rw [l1]; exact id), if_neg (by rw [l2]; exact id), if_neg (by rw [l3]; exact id), if_neg (by rw [l4]; exact id), if_neg (by rw [l5]; exact id), if_neg (by rw [l6]; exact id), if_pos (by rw [l7]; exact trivial)]
        refine lq2 (fun k => nI k) (fun k => va_cpy (m_rows a) m_moved i 0 k) m rfl (cpy_0 _ _ _ _).symm (fun k hk g => ?_) (fun g => ?_) 400 (by omega)
        · have hs := cpy_s (f := m_rows a) (g := m_moved) (sp := i) (dp := 0) (i := k)
          rw [Nat.zero_add] at hs
          simp only [nle (a := m) (b := k) (by omega) (by omega), show ¬ m ≤ k from by omega, n1z, n0z, bo1N, bo2N, bo3N, bo4N, bo5N, bo6N, bo12N, jo0N, jo1N, jo2N, vletN, i10, i00, if_true, if_false, ite_self, nI_add, if_n (nin (k := (i + k)) (N := 40) (by omega) (by omega)), if_n (nin2 (k := (i + k)) (N := 40) (by omega) (by omega)), nc (n := (i + k)) (by omega), if_n (nin (k := k) (N := 40) (by omega) (by omega)), if_n (nin2 (k := k) (N := 40) (by omega) (by omega)), nc (n := k) (by omega), hs, nI_1]
        · rw [if_pos (Int32.le_refl _)]
          refine lq2 (fun k => nI k) (fun k => va_up m_rows b (va_cpy (va_cpy (m_rows a) m_moved i 0 m) (m_rows b) 0 j k)) m rfl (by rw [cpy_0, vup_id]) (fun k hk g => ?_) (fun g => ?_) 400 (by omega)
          · have hs := cpy_s (f := va_cpy (m_rows a) m_moved i 0 m) (g := m_rows b) (sp := 0) (dp := j) (i := k)
            rw [Nat.zero_add] at hs
            simp only [nle (a := m) (b := k) (by omega) (by omega), show ¬ m ≤ k from by omega, n1z, n0z, bo1N, bo2N, bo3N, bo4N, bo5N, bo6N, bo12N, jo0N, jo1N, jo2N, vletN, i10, i00, if_true, if_false, ite_self, nI_add, if_n (nin (k := (j + k)) (N := 40) (by omega) (by omega)), if_n (nin2 (k := (j + k)) (N := 40) (by omega) (by omega)), nc (n := (j + k)) (by omega), if_n (nin (k := k) (N := 40) (by omega) (by omega)), if_n (nin2 (k := k) (N := 40) (by omega) (by omega)), nc (n := k) (by omega), vup_self, vup_up, hs, nI_1]
          · rw [if_pos (Int32.le_refl _)]
      rw [hx, hm]
      refine ⟨_, _, _, _, _, _, rfl, rfl, R0.sh (fun n' _ _ S' => shr_set (k := b) S' (fun t ht => ⟨rfl, rfl, va_up_ne _ _ ht, rfl, rfl, rfl, va_up_ne _ _ ht, rfl⟩) ?_)⟩
      rcases S b hb with ⟨h1, h2, h3⟩ | ⟨t, mm', ht, hmm', h1, h2, h3, h4, h5, h6⟩ | ⟨t, ht, h1, h2, h3, h4⟩
      · rw [h3] at fb; exact absurd fb (by decide)
      · refine Or.inr (Or.inl ⟨t, mm', ht, hmm', h1, h2, h3, h4, h5, fun y hy => ?_⟩)
        rw [va_up_self, va_up_self]
        by_cases c : j ≤ y ∧ y < j + m
        · rw [pk_cpy_in c.1 c.2, pk_cpy_in c.1 c.2, pk_cpy_in (by omega) (by omega), ea _ (by omega)]
          congr 1
          omega
        · rw [pk_cpy_out (by omega), pk_cpy_out (by omega), eb y hy]
      · rw [h3] at fb; exact absurd fb (by decide)
    · have hx : fX7_copy x_refusals x_shelves_c x_shelves_z x_shelves_e (nI a) (nI b) p2 p3 p4 = some (-2, x2, x_shelves_e) := by
        unfold fX7_copy
        rcases g with g | ⟨g1, g2⟩
        · simp only [r1, n1z, n0z, bo1N, bo2N, bo3N, bo4N, bo5N, bo6N, bo12N, jo0N, jo1N, jo2N, vletN, i10, i00, if_true, if_false, ite_self, if_n (nin (k := a) (N := 8) (by omega) (by omega)), if_n (nin2 (k := a) (N := 8) (by omega) (by omega)), nc (n := a) (by omega), if_n (nin (k := b) (N := 8) (by omega) (by omega)), if_n (nin2 (k := b) (N := 8) (by omega) (by omega)), nc (n := b) (by omega), za, zb, g, im2, e1]
        · simp only [r1, n1z, n0z, bo1N, bo2N, bo3N, bo4N, bo5N, bo6N, bo12N, jo0N, jo1N, jo2N, vletN, i10, i00, if_true, if_false, ite_self, if_n (nin (k := a) (N := 8) (by omega) (by omega)), if_n (nin2 (k := a) (N := 8) (by omega) (by omega)), nc (n := a) (by omega), if_n (nin (k := b) (N := 8) (by omega) (by omega)), if_n (nin2 (k := b) (N := 8) (by omega) (by omega)), nc (n := b) (by omega), za, zb, g1, g2, im2, e1]
      have hm : fX8_copy m_shelf m_rowSort m_rowSize m_moved m_refused m_rows (nI a) (nI b) p2 p3 p4 = some (-2, m_moved, m2, m_rows) := by
        unfold fX8_copy
        rw [a2, b2, bo1N, jo0N, if_neg (by decide), bo1N, if_neg (by decide)]
        simp only [if_n (nin (k := a) (N := 8) (by omega) (by omega)), if_n (nin2 (k := a) (N := 8) (by omega) (by omega)), nc (n := a) (by omega), if_n (nin (k := b) (N := 8) (by omega) (by omega)), if_n (nin2 (k := b) (N := 8) (by omega) (by omega)), nc (n := b) (by omega), ra_, rb_]
        rw [jo0N, if_neg (by rw [fa]; decide), if_neg (by rw [fb]; decide), jo0N, if_pos fa, if_pos fb, if_pos sab, jo0N, if_neg (by rw [fa]; decide), if_neg (by rw [fb]; decide), jo0N, e2, bo2N]
        rcases l with l1 | ⟨l1, l2 | ⟨l2, l3 | ⟨l3, l4 | ⟨l4, l5 | ⟨l5, l6 | ⟨l6, l7⟩⟩⟩⟩⟩⟩
        · rw [if_pos (by rw [l1]; exact trivial)]
        · rw [if_neg (by rw [l1]; exact id), if_pos (by rw [l2]; exact trivial)]
        · rw [if_neg (by rw [l1]; exact id), if_neg (by rw [l2]; exact id), if_pos (by rw [l3]; exact trivial)]
        · rw [if_neg (by rw [l1]; exact id), if_neg (by rw [l2]; exact id), if_neg (by rw [l3]; exact id), if_pos (by rw [l4]; exact trivial)]
        · rw [if_neg (by rw [l1]; exact id), if_neg (by rw [l2]; exact id), if_neg (by rw [l3]; exact id), if_neg (by rw [l4]; exact id), if_pos (by rw [l5]; exact trivial)]
        · rw [if_neg (by rw [l1]; exact id), if_neg (by rw [l2]; exact id), if_neg (by rw [l3]; exact id), if_neg (by rw [l4]; exact id), if_neg (by rw [l5]; exact id), if_pos (by rw [l6]; exact trivial)]
        · rw [if_neg (by rw [l1]; exact id), if_neg (by rw [l2]; exact id), if_neg (by rw [l3]; exact id), if_neg (by rw [l4]; exact id), if_neg (by rw [l5]; exact id), if_neg (by rw [l6]; exact id), if_neg (by rw [l7]; exact id)]
      rw [hx, hm]
      exact ⟨_, _, _, _, _, _, rfl, rfl, R0.rf q2⟩
