/-! ===== told watches ===== -/
theorem c40 (x : Int32) : (∃ k, k ≤ 40 ∧ x = nI k ∧ (x < 0) = False ∧ ((40 : Int32) < x) = False ∧ fX8_in x.toInt64 (0 : Int64) (40 : Int64) = some 1) ∨ (((x < 0) = True ∨ ((x < 0) = False ∧ ((40 : Int32) < x) = True)) ∧ fX8_in x.toInt64 (0 : Int64) (40 : Int64) = some 0) := by
  rcases cIn 0 40 0 40 (by decide) (by decide) (by omega) (by omega) x with ⟨k, -, hk, rfl, e⟩ | ⟨h, e⟩
  · left
    exact ⟨k, hk, rfl, eq_false (nI_pos (by omega)), eq_false (by rw [show (40 : Int32) = nI 40 from rfl, nlt (by omega) (by omega)]; omega), e⟩
  · right
    refine ⟨?_, e⟩
    by_cases g : x < 0
    · exact Or.inl (eq_true g)
    · refine Or.inr ⟨eq_false g, ?_⟩
      rcases h with h | h
      · exact absurd h g
      · exact eq_true h
theorem im2 : ((-2 : Int32) = 0) = False := by decide
theorem im3 : ((-3 : Int32) = 0) = False := by decide
theorem im4 : ((-4 : Int32) = 0) = False := by decide
theorem p_watch {n : Nat} {c z : Nat → Int32} {e : Nat → Nat → Int64} {f s r : Nat → Int32} {w : Nat → Nat → Int64} {o xr mr : Nat → Int32} (hn : n ≤ 8) (S : shr n c z e f s r w o) (V : rfr xr mr) (p0 p1 fl : Int32) : (∃ k m sz, k < 8 ∧ m ≤ sz ∧ sz ≤ 40 ∧ p0 = nI k ∧ p1 = nI m ∧ fl ≠ 0 ∧ z k = nI sz ∧ (∀ j, j < 40 → e k j = w k j) ∧ fX7_watchReason c z p0 p1 fl = some 0 ∧ fX8_noWatch f r mr p0 p1 fl = some (0, mr)) ∨ (∃ why x2 m2, (why = 0) = False ∧ fX7_watchReason c z p0 p1 fl = some why ∧ fX7_refuse xr why = some (why, x2) ∧ fX8_noWatch f r mr p0 p1 fl = some (why, m2) ∧ rfr x2 m2) := by
  obtain ⟨x2, m2, e1, e2, q2⟩ := rf2 V
  obtain ⟨x3, m3, e3, e4, q3⟩ := rf3 V
  obtain ⟨x4, m4, e5, e6, q4⟩ := rf4 V
  unfold fX7_watchReason fX8_noWatch
  rcases c40 p1 with ⟨m, hm, rfl, b1, b2, b3⟩ | ⟨b1, b3⟩
  · by_cases g : fl = 0
    · right
      refine ⟨-2, x2, m2, im2, ?_, e1, ?_, q2⟩
      · simp only [b1, b2, g, bo1, bo2, bo3, bo4, bo5, bo6, bo7, bo12, jo0, jo1, vlet, i10, i00, if_true, if_false, ite_self, n1z, n0z]
      · rcases cShelf p0 with ⟨k, hk, e0, a1, a2⟩ | ⟨a1, a2⟩ <;> simp only [a2, b3, g, e2, bo1, bo2, bo3, bo4, bo5, bo6, bo7, bo12, jo0, jo1, vlet, i10, i00, if_true, if_false, ite_self, n1z, n0z]
    · rcases cShelf p0 with ⟨k, hk, rfl, a1, a2⟩ | ⟨a1, a2⟩
      · unfold fX8_noRow
        rcases p_rowReason hn hk S with ⟨h1, h2, h3, gr⟩ | ⟨t, sz, ht, hsz, h1, h2, h3, h4, h5, h6, gr⟩ | ⟨t, ht, h1, h2, h3, h4, gr⟩
        · right
          refine ⟨-4, x4, m4, im4, ?_, e5, ?_, q4⟩
          · simp only [b1, b2, g, gr, im4, bo1, bo2, bo3, bo4, bo5, bo6, bo7, bo12, jo0, jo1, vlet, i10, i00, if_true, if_false, ite_self, n1z, n0z]
          · simp only [b3, a2, g, bo1, bo2, bo3, bo4, bo5, bo6, bo7, bo12, jo0, jo1, vlet, i10, i00, if_true, if_false, ite_self, n1z, n0z, if_n (nin (k := k) (N := 8) (by omega) (by omega)), if_n (nin2 (k := k) (N := 8) (by omega) (by omega)), nc (n := k) (by omega), h3, i02, e6, im4]
        · by_cases hle : m ≤ sz
          · left
            refine ⟨k, m, sz, hk, hle, hsz, rfl, rfl, g, h2, h6, ?_, ?_⟩
            · simp only [b1, b2, g, gr, bo1, bo2, bo3, bo4, bo5, bo6, bo7, bo12, jo0, jo1, vlet, i10, i00, if_true, if_false, ite_self, n1z, n0z, if_n (nin (k := k) (N := 8) (by omega) (by omega)), if_n (nin2 (k := k) (N := 8) (by omega) (by omega)), nc (n := k) (by omega), h2, nlt (a := sz) (b := m) (by omega) (by omega), show ¬ sz < m from by omega]
            · simp only [b3, a2, g, bo1, bo2, bo3, bo4, bo5, bo6, bo7, bo12, jo0, jo1, vlet, i10, i00, if_true, if_false, ite_self, n1z, n0z, if_n (nin (k := k) (N := 8) (by omega) (by omega)), if_n (nin2 (k := k) (N := 8) (by omega) (by omega)), nc (n := k) (by omega), h3, i12, h5, nle (a := m) (b := sz) (by omega) (by omega), hle]
          · right
            refine ⟨-2, x2, m2, im2, ?_, e1, ?_, q2⟩
            · simp only [b1, b2, g, gr, bo1, bo2, bo3, bo4, bo5, bo6, bo7, bo12, jo0, jo1, vlet, i10, i00, if_true, if_false, ite_self, n1z, n0z, if_n (nin (k := k) (N := 8) (by omega) (by omega)), if_n (nin2 (k := k) (N := 8) (by omega) (by omega)), nc (n := k) (by omega), h2, nlt (a := sz) (b := m) (by omega) (by omega), show sz < m from by omega]
            · simp only [b3, a2, g, bo1, bo2, bo3, bo4, bo5, bo6, bo7, bo12, jo0, jo1, vlet, i10, i00, if_true, if_false, ite_self, n1z, n0z, if_n (nin (k := k) (N := 8) (by omega) (by omega)), if_n (nin2 (k := k) (N := 8) (by omega) (by omega)), nc (n := k) (by omega), h3, i12, h5, nle (a := m) (b := sz) (by omega) (by omega), hle, e2]
        · right
          refine ⟨-3, x3, m3, im3, ?_, e3, ?_, q3⟩
          · simp only [b1, b2, g, gr, im3, bo1, bo2, bo3, bo4, bo5, bo6, bo7, bo12, jo0, jo1, vlet, i10, i00, if_true, if_false, ite_self, n1z, n0z]
          · simp only [b3, a2, g, bo1, bo2, bo3, bo4, bo5, bo6, bo7, bo12, jo0, jo1, vlet, i10, i00, if_true, if_false, ite_self, n1z, n0z, if_n (nin (k := k) (N := 8) (by omega) (by omega)), if_n (nin2 (k := k) (N := 8) (by omega) (by omega)), nc (n := k) (by omega), h3, i22, e4, im3]
      · right
        refine ⟨-2, x2, m2, im2, ?_, e1, ?_, q2⟩
        · unfold fX7_rowReason
          simp only [b1, b2, g, a1, im2, bo1, bo2, bo3, bo4, bo5, bo6, bo7, bo12, jo0, jo1, vlet, i10, i00, if_true, if_false, ite_self, n1z, n0z]
        · simp only [a2, e2, bo1, bo2, bo3, bo4, bo5, bo6, bo7, bo12, jo0, jo1, vlet, i10, i00, if_true, if_false, ite_self, n1z, n0z]
  · right
    refine ⟨-2, x2, m2, im2, ?_, e1, ?_, q2⟩
    · rcases b1 with b1 | ⟨b1, b2⟩
      · simp only [b1, bo1, bo2, bo3, bo4, bo5, bo6, bo7, bo12, jo0, jo1, vlet, i10, i00, if_true, if_false, ite_self, n1z, n0z]
      · simp only [b1, b2, bo1, bo2, bo3, bo4, bo5, bo6, bo7, bo12, jo0, jo1, vlet, i10, i00, if_true, if_false, ite_self, n1z, n0z]
    · rcases cShelf p0 with ⟨k, hk, e0, a1, a2⟩ | ⟨a1, a2⟩ <;> simp only [a2, b3, e2, bo1, bo2, bo3, bo4, bo5, bo6, bo7, bo12, jo0, jo1, vlet, i10, i00, if_true, if_false, ite_self, n1z, n0z]
/-- the first hour at which the watch is wrong -/
def wv (W : Nat → Nat) (P n : Nat) (K H M : Nat → Nat) (h : Nat) (L : Nat → Nat) (w : Nat → Int64) (m : Nat) : Option Nat := ff (fun i => !decide (lg_cmp (w i) (nI (ltm P (dkm (fun p => dk (K p)) (lc W P n K H M (fun p => dk (K p)) h L i) n))).toInt64 = 0)) m 0
theorem wv_bd {W : Nat → Nat} {P n : Nat} {K H M : Nat → Nat} {h : Nat} {L : Nat → Nat} {w : Nat → Int64} {m : Nat} (hm : m ≤ 40) : ∀ c, wv W P n K H M h L w m = some c → c ≤ 100000 := fun c e => by
  have := (ff_some e).2.1
  omega
theorem p_hasEl {sz i : Nat} (hs : sz ≤ 40) (hi : i < sz) : fX2_hasElement (nI sz) (nI i) = some 1 := by
  unfold fX2_hasElement
  rw [if_neg (nI_pos (by omega)), if_neg (by rw [nle (by omega) (by omega)]; omega)]
theorem p_firstWrong {P n h m sz : Nat} {W K H M L : Nat → Nat} {d kf hf mf af : Nat → Int32} {e w : Nat → Int64} (T : tok P n W K H M L h) (hd : dok W d) (hk : ag n kf K) (hh : ag n hf H) (hm : ag n mf M) (hl : ag n af L) (hms : m ≤ sz) (hs : sz ≤ 40) (he : ∀ j, j < 40 → e j = w j) : ∃ hr af', fX7_firstWrong (nI P) (nI n) (nI h) (nf W) d kf hf mf af (nI sz) e (nI m) = some (dv (wv W P n K H M h L w m), hr, af') := by
  obtain ⟨hP2, hP, hn, hW, hK, hH, hM, hL, hho⟩ := id T
  unfold fX7_firstWrong
  refine lfh3 (Φ := fun o => ∃ hr af', o = some (dv (wv W P n K H M h L w m), hr, af')) (fun i x u v => x = nI i ∧ u = nI (hc h i) ∧ ag n v (lc W P n K H M (fun p => dk (K p)) h L i)) (fun i => !decide (lg_cmp (w i) (nI (ltm P (dkm (fun p => dk (K p)) (lc W P n K H M (fun p => dk (K p)) h L i) n))).toInt64 = 0)) m ⟨rfl, rfl, hl⟩ (fun i hi qi x u v z => ?_) (fun i hi qi fi x u v z g => ?_) (fun fi x u v z g => ?_) 400 (by omega)
  · obtain ⟨rfl, rfl, z⟩ := z
    obtain ⟨af', f1, f2⟩ := p_pass1 T hd hk hh hm i z
    have Ti := T.at (fun p => dk (K p)) i
    have qi' : lg_cmp (w i) (nI (ltm P (dkm (fun p => dk (K p)) (lc W P n K H M (fun p => dk (K p)) h L i) n))).toInt64 = 0 := by simpa using qi
    refine ⟨_, _, _, ⟨rfl, rfl, f2⟩, fun g => ?_⟩
    simp only [nle (a := m) (b := i) (by omega) (by omega), show ¬ m ≤ i from by omega, bo1, bo2, bo3, bo4, bo5, bo6, bo7, bo12, jo0, jo1, vlet, i10, i00, if_true, if_false, ite_self, n1z, n0z, p_hasEl hs (show i < sz by omega), if_n (nin (k := i) (N := 40) (by omega) (by omega)), if_n (nin2 (k := i) (N := 40) (by omega) (by omega)), nc (n := i) (by omega), p_shiningPlaces hP hn hk z hK Ti.lt, he i (by omega), qi', f1, nI_1]
  · obtain ⟨rfl, rfl, z⟩ := z
    have Ti := T.at (fun p => dk (K p)) i
    have qi' : (lg_cmp (w i) (nI (ltm P (dkm (fun p => dk (K p)) (lc W P n K H M (fun p => dk (K p)) h L i) n))).toInt64 = 0) = False := eq_false (by simpa using qi)
    refine ⟨nI (hc h i), v, ?_⟩
    rw [show wv W P n K H M h L w m = some i from fi]
    simp only [nle (a := m) (b := i) (by omega) (by omega), show ¬ m ≤ i from by omega, bo1, bo2, bo3, bo4, bo5, bo6, bo7, bo12, jo0, jo1, vlet, i10, i00, if_true, if_false, ite_self, n1z, n0z, p_hasEl hs (show i < sz by omega), if_n (nin (k := i) (N := 40) (by omega) (by omega)), if_n (nin2 (k := i) (N := 40) (by omega) (by omega)), nc (n := i) (by omega), p_shiningPlaces hP hn hk z hK Ti.lt, he i (by omega), qi'] <;> rfl
  · obtain ⟨rfl, rfl, z⟩ := z
    refine ⟨nI (hc h m), v, ?_⟩
    rw [show wv W P n K H M h L w m = none from fi]
    exact if_pos (Int32.le_refl _)
theorem p_wrongIn {P n h m k : Nat} {W K H M L : Nat → Nat} {kf hf mf af s0 p0 t0 : Nat → Int32} {rw_ : Nat → Nat → Int64} (T : tok P n W K H M L h) (hk : ag n kf K) (hh : ag n hf H) (hm : ag n mf M) (hl : ag n af L) (hms : m ≤ 40) (hk8 : k < 8) : ∃ nw st sp tt, fX8_wrongIn (nI P) (nI n) (nI h) (-1) (nf W) kf hf mf af s0 p0 t0 rw_ (nI k) (nI m) = some (dv (wv W P n K H M h L (rw_ k) m), nw, st, sp, tt) := by
  obtain ⟨hP2, hP, hn, hW, hK, hH, hM, hL, hho⟩ := id T
  obtain ⟨s1, g1, g2⟩ := p_begin (hh := nI h) (s0 := p0) hn hl
  unfold fX8_wrongIn
  simp only [g1, n1z, n0z, bo1, bo2, bo3, bo4, bo5, bo6, bo7, bo12, jo0, i10, i00, if_true, if_false, ite_self]
  refine lfh5 (Φ := fun o => ∃ nw st sp tt, o = some (dv (wv W P n K H M h L (rw_ k) m), nw, st, sp, tt)) (fun i x u _ v _ => x = nI i ∧ u = nI (hc h i) ∧ ag n v (lc W P n K H M (fun p => dk (K p)) h L i)) (fun i => !decide (lg_cmp (rw_ k i) (nI (ltm P (dkm (fun p => dk (K p)) (lc W P n K H M (fun p => dk (K p)) h L i) n))).toInt64 = 0)) m ⟨rfl, rfl, g2⟩ (fun i hi qi x u s v t z => ?_) (fun i hi qi fi x u s v t z g => ?_) (fun fi x u s v t z g => ?_) 400 (by omega)
  · obtain ⟨rfl, rfl, z⟩ := z
    obtain ⟨st, sp, tt, f1, f2⟩ := p_mgo0 (s0 := s) (t0 := t) T hk hh hm i z
    have Ti := T.at (fun p => dk (K p)) i
    have qi' : lg_cmp (rw_ k i) (nI (ltm P (dkm (fun p => dk (K p)) (lc W P n K H M (fun p => dk (K p)) h L i) n))).toInt64 = 0 := by simpa using qi
    refine ⟨_, _, st, sp, tt, ⟨rfl, rfl, f2⟩, fun g => ?_⟩
    simp only [nle (a := m) (b := i) (by omega) (by omega), show ¬ m ≤ i from by omega, bo1, bo2, bo3, bo4, bo5, bo6, bo7, bo12, jo0, jo1, vlet, i10, i00, if_true, if_false, ite_self, n1z, n0z, if_n (nin (k := k) (N := 8) (by omega) (by omega)), if_n (nin2 (k := k) (N := 8) (by omega) (by omega)), nc (n := k) (by omega), if_n (nin (k := i) (N := 40) (by omega) (by omega)), if_n (nin2 (k := i) (N := 40) (by omega) (by omega)), nc (n := i) (by omega), p_mlight0 hP hn hk z hK Ti.lt, qi', f1, nI_1]
  · obtain ⟨rfl, rfl, z⟩ := z
    have Ti := T.at (fun p => dk (K p)) i
    have qi' : (lg_cmp (rw_ k i) (nI (ltm P (dkm (fun p => dk (K p)) (lc W P n K H M (fun p => dk (K p)) h L i) n))).toInt64 = 0) = False := eq_false (by simpa using qi)
    refine ⟨nI (hc h i), s, v, t, ?_⟩
    rw [show wv W P n K H M h L (rw_ k) m = some i from fi]
    simp only [nle (a := m) (b := i) (by omega) (by omega), show ¬ m ≤ i from by omega, bo1, bo2, bo3, bo4, bo5, bo6, bo7, bo12, jo0, jo1, vlet, i10, i00, if_true, if_false, ite_self, n1z, n0z, if_n (nin (k := k) (N := 8) (by omega) (by omega)), if_n (nin2 (k := k) (N := 8) (by omega) (by omega)), nc (n := k) (by omega), if_n (nin (k := i) (N := 40) (by omega) (by omega)), if_n (nin2 (k := i) (N := 40) (by omega) (by omega)), nc (n := i) (by omega), p_mlight0 hP hn hk z hK Ti.lt, qi'] <;> rfl
  · obtain ⟨rfl, rfl, z⟩ := z
    refine ⟨nI (hc h m), s, v, t, ?_⟩
    rw [show wv W P n K H M h L (rw_ k) m = none from fi]
    exact if_pos (Int32.le_refl _)
theorem tt_judge {x_now_places : Int32} {x_now_people : Int32} {x_now_hour : Int32} {x_now_chance : Int32} {x_now_seed : Int32} {x_now_ways : Nat → Int32} {x_now_distances : Nat → Int32} {x_now_kind : Nat → Int32} {x_now_a : Nat → Int32} {x_now_home : Nat → Int32} {x_now_aim : Nat → Int32} {x_now_at : Nat → Int32} {x_kept_places : Int32} {x_kept_people : Int32} {x_kept_hour : Int32} {x_kept_chance : Int32} {x_kept_seed : Int32} {x_kept_ways : Nat → Int32} {x_kept_distances : Nat → Int32} {x_kept_kind : Nat → Int32} {x_kept_a : Nat → Int32} {x_kept_home : Nat → Int32} {x_kept_aim : Nat → Int32} {x_kept_at : Nat → Int32} {x_isKept : Int32} {x_shelves_c : Nat → Int32} {x_shelves_z : Nat → Int32} {x_shelves_e : Nat → Nat → Int64} {x_tape_size : Int32} {x_tape_bytes : Nat → Int32} {x_refusals : Nat → Int32} {m_places : Int32} {m_people : Int32} {m_hour : Int32} {m_chance : Int32} {m_seed : Int32} {m_ways : Nat → Int32} {m_kind : Nat → Int32} {m_by : Nat → Int32} {m_home : Nat → Int32} {m_aim : Nat → Int32} {m_at0 : Nat → Int32} {m_shelf : Nat → Int32} {m_rowSort : Nat → Int32} {m_rowSize : Nat → Int32} {m_rows : Nat → Nat → Int64} {m_shown : Nat → Int32} {m_tape : Nat → Int32} {m_tapeSize : Int32} {m_refused : Nat → Int32} {m_gone : Int32} {m_kept_places : Int32} {m_kept_people : Int32} {m_kept_hour : Int32} {m_kept_chance : Int32} {m_kept_seed : Int32} {m_kept_ways : Nat → Int32} {m_kept_kind : Nat → Int32} {m_kept_by : Nat → Int32} {m_kept_home : Nat → Int32} {m_kept_aim : Nat → Int32} {m_kept_at0 : Nat → Int32} {kb : Bool} (x_future_places : Int32) (x_future_people : Int32) (x_future_hour : Int32) (x_future_chance : Int32) (x_future_seed : Int32) (x_future_ways : Nat → Int32) (x_future_distances : Nat → Int32) (x_future_kind : Nat → Int32) (x_future_a : Nat → Int32) (x_future_home : Nat → Int32) (x_future_aim : Nat → Int32) (x_future_at : Nat → Int32) (m_now : Int32) (m_steps : Nat → Int32) (m_spot : Nat → Int32) (m_then : Nat → Int32) (p0 : Int32) (p1 : Int32) (R : Rel kb x_now_places x_now_people x_now_hour x_now_chance x_now_seed x_now_ways x_now_distances x_now_kind x_now_a x_now_home x_now_aim x_now_at x_kept_places x_kept_people x_kept_hour x_kept_chance x_kept_seed x_kept_ways x_kept_distances x_kept_kind x_kept_a x_kept_home x_kept_aim x_kept_at x_isKept x_shelves_c x_shelves_z x_shelves_e x_tape_size x_tape_bytes x_refusals m_places m_people m_hour m_chance m_seed m_ways m_kind m_by m_home m_aim m_at0 m_shelf m_rowSort m_rowSize m_rows m_shown m_tape m_tapeSize m_refused m_gone m_kept_places m_kept_people m_kept_hour m_kept_chance m_kept_seed m_kept_ways m_kept_kind m_kept_by m_kept_home m_kept_aim m_kept_at0) : ∃ (r : Int32) (y_future_places : Int32) (y_future_people : Int32) (y_future_hour : Int32) (y_future_chance : Int32) (y_future_seed : Int32) (y_future_ways : Nat → Int32) (y_future_distances : Nat → Int32) (y_future_kind : Nat → Int32) (y_future_a : Nat → Int32) (y_future_home : Nat → Int32) (y_future_aim : Nat → Int32) (y_future_at : Nat → Int32) (y_refusals : Nat → Int32) (z_now : Int32) (z_refused : Nat → Int32) (z_steps : Nat → Int32) (z_spot : Nat → Int32) (z_then : Nat → Int32), fX7_judge x_now_places x_now_people x_now_hour x_now_chance x_now_seed x_now_ways x_now_distances x_now_kind x_now_a x_now_home x_now_aim x_now_at x_future_places x_future_people x_future_hour x_future_chance x_future_seed x_future_ways x_future_distances x_future_kind x_future_a x_future_home x_future_aim x_future_at x_refusals x_shelves_c x_shelves_z x_shelves_e p0 p1 = some (r, y_future_places, y_future_people, y_future_hour, y_future_chance, y_future_seed, y_future_ways, y_future_distances, y_future_kind, y_future_a, y_future_home, y_future_aim, y_future_at, y_refusals) ∧ fX8_judge m_places m_people m_hour m_now m_gone m_shelf m_rowSize m_refused m_ways m_kind m_home m_aim m_at0 m_steps m_spot m_then m_rows p0 p1 = some (r, z_now, z_refused, z_steps, z_spot, z_then) ∧ Rel kb x_now_places x_now_people x_now_hour x_now_chance x_now_seed x_now_ways x_now_distances x_now_kind x_now_a x_now_home x_now_aim x_now_at x_kept_places x_kept_people x_kept_hour x_kept_chance x_kept_seed x_kept_ways x_kept_distances x_kept_kind x_kept_a x_kept_home x_kept_aim x_kept_at x_isKept x_shelves_c x_shelves_z x_shelves_e x_tape_size x_tape_bytes y_refusals m_places m_people m_hour m_chance m_seed m_ways m_kind m_by m_home m_aim m_at0 m_shelf m_rowSort m_rowSize m_rows m_shown m_tape m_tapeSize z_refused m_gone m_kept_places m_kept_people m_kept_hour m_kept_chance m_kept_seed m_kept_ways m_kept_kind m_kept_by m_kept_home m_kept_aim m_kept_at0 := by
  have R0 := R
  obtain ⟨P, n, h, c, s, W, K, A, H, M, L, T, ⟨rfl, rfl, rfl, rfl, rfl, rfl, xd, xk, xa, xh, xm, xl⟩, ⟨rfl, rfl, rfl, rfl, rfl, rfl, mk, ma, mh, mm, ml⟩, rfl, S, U, V, Z⟩ := R
  obtain ⟨hP2, hP, hn, hW, hK, hH, hM, hL, hho⟩ := id T
  rcases p_watch hn S V p0 p1 1 with ⟨k, m, sz, hk, hms, hsz, rfl, rfl, -, zk, he, w1, w2⟩ | ⟨why, x2, m2, y0, w1, w2, w3, q⟩
  · obtain ⟨hr, af, f1⟩ := p_firstWrong T xd xk xh xm xl hms hsz he
    obtain ⟨nw, st, sp, tt, f2⟩ := p_wrongIn (s0 := m_steps) (p0 := m_spot) (t0 := m_then) (rw_ := m_rows) T mk mh mm ml (show m ≤ 40 by omega) hk
    unfold fX7_judge fX8_judge
    simp only [w1, w2, n1z, n0z, bo1, bo2, bo3, bo4, bo5, bo6, bo7, bo12, jo0, i10, i00, if_true, if_false, ite_self, p_become, if_n (nin (k := k) (N := 8) (by omega) (by omega)), if_n (nin2 (k := k) (N := 8) (by omega) (by omega)), nc (n := k) (by omega), zk, f1, f2]
    exact ⟨_, _, _, _, _, _, _, _, _, _, _, _, _, _, _, _, _, _, _, rfl, rfl, R0⟩
  · have hy : ¬ why = 0 := by rw [y0]; exact id
    unfold fX7_judge fX8_judge
    rw [w1, w3, bo1N, bo2N, if_neg hy, if_neg hy, w2, bo2N]
    exact ⟨_, _, _, _, _, _, _, _, _, _, _, _, _, _, _, _, _, _, _, rfl, rfl, R0.rf q⟩
theorem tok.kind {P n h : Nat} {W K H M L : Nat → Nat} (T : tok P n W K H M L h) (p j : Nat) (hj : j < 6) : tok P n W (nup K p j) H M L h := by
  obtain ⟨hP2, hP, hn, hW, hK, hH, hM, hL, hho⟩ := T
  exact ⟨hP2, hP, hn, hW, nup_lt hK hj, hH, hM, hL, hho⟩
theorem fl_ok {n : Nat} (hn : n ≤ 8) (x : Int32) : (∃ p, p < n ∧ x = nI p ∧ fX7_isPerson (nI n) x = some 1 ∧ fX8_isPerson (nI n) x = some 1) ∨ (fX7_isPerson (nI n) x = some 0 ∧ fX8_isPerson (nI n) x = some 0) := cPerson n hn x
theorem tt_starts {x_now_places : Int32} {x_now_people : Int32} {x_now_hour : Int32} {x_now_chance : Int32} {x_now_seed : Int32} {x_now_ways : Nat → Int32} {x_now_distances : Nat → Int32} {x_now_kind : Nat → Int32} {x_now_a : Nat → Int32} {x_now_home : Nat → Int32} {x_now_aim : Nat → Int32} {x_now_at : Nat → Int32} {x_kept_places : Int32} {x_kept_people : Int32} {x_kept_hour : Int32} {x_kept_chance : Int32} {x_kept_seed : Int32} {x_kept_ways : Nat → Int32} {x_kept_distances : Nat → Int32} {x_kept_kind : Nat → Int32} {x_kept_a : Nat → Int32} {x_kept_home : Nat → Int32} {x_kept_aim : Nat → Int32} {x_kept_at : Nat → Int32} {x_isKept : Int32} {x_shelves_c : Nat → Int32} {x_shelves_z : Nat → Int32} {x_shelves_e : Nat → Nat → Int64} {x_tape_size : Int32} {x_tape_bytes : Nat → Int32} {x_refusals : Nat → Int32} {m_places : Int32} {m_people : Int32} {m_hour : Int32} {m_chance : Int32} {m_seed : Int32} {m_ways : Nat → Int32} {m_kind : Nat → Int32} {m_by : Nat → Int32} {m_home : Nat → Int32} {m_aim : Nat → Int32} {m_at0 : Nat → Int32} {m_shelf : Nat → Int32} {m_rowSort : Nat → Int32} {m_rowSize : Nat → Int32} {m_rows : Nat → Nat → Int64} {m_shown : Nat → Int32} {m_tape : Nat → Int32} {m_tapeSize : Int32} {m_refused : Nat → Int32} {m_gone : Int32} {m_kept_places : Int32} {m_kept_people : Int32} {m_kept_hour : Int32} {m_kept_chance : Int32} {m_kept_seed : Int32} {m_kept_ways : Nat → Int32} {m_kept_kind : Nat → Int32} {m_kept_by : Nat → Int32} {m_kept_home : Nat → Int32} {m_kept_aim : Nat → Int32} {m_kept_at0 : Nat → Int32} {kb : Bool} (x_future_places : Int32) (x_future_people : Int32) (x_future_hour : Int32) (x_future_chance : Int32) (x_future_seed : Int32) (x_future_ways : Nat → Int32) (x_future_distances : Nat → Int32) (x_future_kind : Nat → Int32) (x_future_a : Nat → Int32) (x_future_home : Nat → Int32) (x_future_aim : Nat → Int32) (x_future_at : Nat → Int32) (m_now : Int32) (m_steps : Nat → Int32) (m_spot : Nat → Int32) (m_then : Nat → Int32) (p0 : Int32) (p1 : Int32) (p2 : Int32) (R : Rel kb x_now_places x_now_people x_now_hour x_now_chance x_now_seed x_now_ways x_now_distances x_now_kind x_now_a x_now_home x_now_aim x_now_at x_kept_places x_kept_people x_kept_hour x_kept_chance x_kept_seed x_kept_ways x_kept_distances x_kept_kind x_kept_a x_kept_home x_kept_aim x_kept_at x_isKept x_shelves_c x_shelves_z x_shelves_e x_tape_size x_tape_bytes x_refusals m_places m_people m_hour m_chance m_seed m_ways m_kind m_by m_home m_aim m_at0 m_shelf m_rowSort m_rowSize m_rows m_shown m_tape m_tapeSize m_refused m_gone m_kept_places m_kept_people m_kept_hour m_kept_chance m_kept_seed m_kept_ways m_kept_kind m_kept_by m_kept_home m_kept_aim m_kept_at0) : ∃ (r : Int32) (y_future_places : Int32) (y_future_people : Int32) (y_future_hour : Int32) (y_future_chance : Int32) (y_future_seed : Int32) (y_future_ways : Nat → Int32) (y_future_distances : Nat → Int32) (y_future_kind : Nat → Int32) (y_future_a : Nat → Int32) (y_future_home : Nat → Int32) (y_future_aim : Nat → Int32) (y_future_at : Nat → Int32) (y_refusals : Nat → Int32) (z_now : Int32) (z_refused : Nat → Int32) (z_at0 : Nat → Int32) (z_steps : Nat → Int32) (z_spot : Nat → Int32) (z_then : Nat → Int32), fX7_starts x_now_places x_now_people x_now_hour x_now_chance x_now_seed x_now_ways x_now_distances x_now_kind x_now_a x_now_home x_now_aim x_now_at x_future_places x_future_people x_future_hour x_future_chance x_future_seed x_future_ways x_future_distances x_future_kind x_future_a x_future_home x_future_aim x_future_at x_refusals x_shelves_c x_shelves_z x_shelves_e p0 p1 p2 = some (r, y_future_places, y_future_people, y_future_hour, y_future_chance, y_future_seed, y_future_ways, y_future_distances, y_future_kind, y_future_a, y_future_home, y_future_aim, y_future_at, y_refusals) ∧ fX8_starts m_places m_people m_hour m_now m_gone m_shelf m_rowSize m_refused m_ways m_kind m_home m_aim m_at0 m_steps m_spot m_then m_rows p0 p1 p2 = some (r, z_now, z_refused, z_at0, z_steps, z_spot, z_then) ∧ Rel kb x_now_places x_now_people x_now_hour x_now_chance x_now_seed x_now_ways x_now_distances x_now_kind x_now_a x_now_home x_now_aim x_now_at x_kept_places x_kept_people x_kept_hour x_kept_chance x_kept_seed x_kept_ways x_kept_distances x_kept_kind x_kept_a x_kept_home x_kept_aim x_kept_at x_isKept x_shelves_c x_shelves_z x_shelves_e x_tape_size x_tape_bytes y_refusals m_places m_people m_hour m_chance m_seed m_ways m_kind m_by m_home m_aim z_at0 m_shelf m_rowSort m_rowSize m_rows m_shown m_tape m_tapeSize z_refused m_gone m_kept_places m_kept_people m_kept_hour m_kept_chance m_kept_seed m_kept_ways m_kept_kind m_kept_by m_kept_home m_kept_aim m_kept_at0 := by
  have R0 := R
  obtain ⟨P, n, h, c, s, W, K, A, H, M, L, T, ⟨rfl, rfl, rfl, rfl, rfl, rfl, xd, xk, xa, xh, xm, xl⟩, ⟨rfl, rfl, rfl, rfl, rfl, rfl, mk, ma, mh, mm, ml⟩, rfl, S, U, V, Z⟩ := R
  obtain ⟨hP2, hP, hn, hW, hK, hH, hM, hL, hho⟩ := id T
  rcases cPerson n hn p2 with ⟨p, hp, rfl, a1, a2⟩ | ⟨a1, a2⟩
  · rcases p_watch hn S V p0 p1 1 with ⟨k, m, sz, hk, hms, hsz, rfl, rfl, -, zk, he, w1, w2⟩ | ⟨why, x2, m2, y0, w1, w2, w3, q⟩
    · have hx : (fun o => ∃ f1 f2 f3 f4 f5 f6 f7 f8 f9 f10 f11 f12, o = some (nI (pm (fun j => (wv W P n K H M h (nup L p j) (m_rows k) m).isNone) P), f1, f2, f3, f4, f5, f6, f7, f8, f9, f10, f11, f12, x_refusals)) (fX7_starts (nI P) (nI n) (nI h) m_chance m_seed (nf W) x_now_distances x_now_kind x_now_a x_now_home x_now_aim x_now_at x_future_places x_future_people x_future_hour x_future_chance x_future_seed x_future_ways x_future_distances x_future_kind x_future_a x_future_home x_future_aim x_future_at x_refusals x_shelves_c x_shelves_z x_shelves_e (nI k) (nI m) (nI p)) := by
        unfold fX7_starts
        simp only [a1, w1, n1z, n0z, bo1, bo2, bo3, bo4, bo5, bo6, bo7, bo12, jo0, i10, i00, if_true, if_false, ite_self, p_become]
        refine lph14 (Φ := fun o => ∃ f1 f2 f3 f4 f5 f6 f7 f8 f9 f10 f11 f12, o = some (nI (pm (fun j => (wv W P n K H M h (nup L p j) (m_rows k) m).isNone) P), f1, f2, f3, f4, f5, f6, f7, f8, f9, f10, f11, f12, x_refusals)) (fun i a b _ _ _ _ _ _ _ _ _ _ _ _ => a = nI (pm (fun j => (wv W P n K H M h (nup L p j) (m_rows k) m).isNone) i) ∧ b = nI i) P ⟨rfl, rfl⟩ (fun i hi a b f1 f2 f3 f4 f5 f6 f7 f8 f9 f10 f11 f12 z => ?_) (fun a b f1 f2 f3 f4 f5 f6 f7 f8 f9 f10 f11 f12 z g => ?_) 400 (by omega)
        · obtain ⟨rfl, rfl⟩ := z
          have T' := T.put p i hi
          obtain ⟨hr, af, u1⟩ := p_firstWrong T' xd xk xh xm (ag_up xl p i) hms hsz he
          have hb := wv_bd (W := W) (P := P) (n := n) (K := K) (H := H) (M := M) (h := h) (L := nup L p i) (w := m_rows k) (m := m) (by omega)
          refine ⟨_, _, nI P, nI n, hr, m_chance, m_seed, nf W, x_now_distances, x_now_kind, x_now_a, x_now_home, x_now_aim, af, ⟨rfl, rfl⟩, fun g => ?_⟩
          simp only [nle (a := P) (b := i) (by omega) (by omega), show ¬ P ≤ i from by omega, bo1, bo2, bo3, bo4, bo5, bo6, bo7, bo12, jo0, jo1, vlet, i10, i00, if_true, if_false, ite_self, n1z, n0z, if_n (nin (k := p) (N := 8) (by omega) (by omega)), if_n (nin2 (k := p) (N := 8) (by omega) (by omega)), nc (n := p) (by omega), if_n (nin (k := k) (N := 8) (by omega) (by omega)), if_n (nin2 (k := k) (N := 8) (by omega) (by omega)), nc (n := k) (by omega), zk, u1, dv_no hb, n_pw (k := i) (by omega), n_or, nI_1, pm_s]
          cases wv W P n K H M h (nup L p i) (m_rows k) m with
          | none => simp only [bo1, bo2, bo3, bo4, bo5, bo6, bo7, bo12, jo0, jo1, vlet, i10, i00, if_true, if_false, ite_self, n1z, n0z, Option.isNone_none]
          | some r => simp only [bo1, bo2, bo3, bo4, bo5, bo6, bo7, bo12, jo0, jo1, vlet, i10, i00, if_true, if_false, ite_self, n1z, n0z, Option.isNone_some, reduceCtorEq]
        · obtain ⟨rfl, rfl⟩ := z
          exact ⟨_, _, _, _, _, _, _, _, _, _, _, _, if_pos (Int32.le_refl _)⟩
      have hm : (fun o => ∃ (nw : Int32) (st sp tt : Nat → Int32), o = some (nI (pm (fun j => (wv W P n K H M h (nup L p j) (m_rows k) m).isNone) P), nw, m_refused, m_at0, st, sp, tt)) (fX8_starts (nI P) (nI n) (nI h) m_now (-1) m_shelf m_rowSize m_refused (nf W) m_kind m_home m_aim m_at0 m_steps m_spot m_then m_rows (nI k) (nI m) (nI p)) := by
        unfold fX8_starts
        simp only [jo1_ite]
        simp only [a2, w2, n1z, n0z, bo1, bo2, bo3, bo4, bo5, bo6, bo7, bo12, jo0, i10, i00, if_true, if_false, ite_self, vlet, if_n (nin (k := p) (N := 8) (by omega) (by omega)), if_n (nin2 (k := p) (N := 8) (by omega) (by omega)), nc (n := p) (by omega)]
        refine lph7 (Φ := fun o => ∃ (nw : Int32) (st sp tt : Nat → Int32), o = some (nI (pm (fun j => (wv W P n K H M h (nup L p j) (m_rows k) m).isNone) P), nw, m_refused, m_at0, st, sp, tt)) (fun i a b _ a0 _ _ _ => a = nI (pm (fun j => (wv W P n K H M h (nup L p j) (m_rows k) m).isNone) i) ∧ b = nI i ∧ ∀ v, upd a0 p v = upd m_at0 p v) P ⟨rfl, rfl, fun _ => rfl⟩ (fun i hi a b u a0 s v t1 z => ?_) (fun a b u a0 s v t1 z g => ?_) 400 (by omega)
        · obtain ⟨rfl, rfl, z⟩ := z
          have T' := T.put p i hi
          obtain ⟨nw, st, sp, tt, u1⟩ := p_wrongIn (s0 := s) (p0 := v) (t0 := t1) (rw_ := m_rows) T' mk mh mm (ag_up ml p i) (show m ≤ 40 by omega) hk
          have hb := wv_bd (W := W) (P := P) (n := n) (K := K) (H := H) (M := M) (h := h) (L := nup L p i) (w := m_rows k) (m := m) (by omega)
          refine ⟨_, _, nw, upd a0 p (nI i), st, sp, tt, ⟨rfl, rfl, fun v => by rw [upd_upd]; exact z v⟩, fun g => ?_⟩
          simp only [nle (a := P) (b := i) (by omega) (by omega), show ¬ P ≤ i from by omega, bo1, bo2, bo3, bo4, bo5, bo6, bo7, bo12, jo0, jo1, vlet, i10, i00, if_true, if_false, ite_self, n1z, n0z, z, u1, dv_no hb, n_pw (k := i) (by omega), nI_1, pm_s]
          cases wv W P n K H M h (nup L p i) (m_rows k) m with
          | none => simp only [bo1, bo2, bo3, bo4, bo5, bo6, bo7, bo12, jo0, jo1, vlet, i10, i00, if_true, if_false, ite_self, n1z, n0z, Option.isNone_none, n_or]
          | some r => simp only [bo1, bo2, bo3, bo4, bo5, bo6, bo7, bo12, jo0, jo1, vlet, i10, i00, if_true, if_false, ite_self, n1z, n0z, Option.isNone_some, reduceCtorEq, n_or0, Bool.false_eq_true]
        · obtain ⟨rfl, rfl, z⟩ := z
          refine ⟨u, s, v, t1, ?_⟩
          rw [if_pos (Int32.le_refl _), z, upd_id]
      obtain ⟨f1, f2, f3, f4, f5, f6, f7, f8, f9, f10, f11, f12, hx⟩ := hx
      obtain ⟨z1, z2, z3, z4, hm⟩ := hm
      rw [hx, hm]
      exact ⟨_, _, _, _, _, _, _, _, _, _, _, _, _, _, _, _, _, _, _, _, rfl, rfl, R0⟩
    · have hy : ¬ why = 0 := by rw [y0]; exact id
      unfold fX7_starts fX8_starts
      rw [a1, a2, bo1N, bo1N, w1, w3, bo1N, bo2N, if_neg hy, if_neg hy, w2, bo2N]
      exact ⟨_, _, _, _, _, _, _, _, _, _, _, _, _, _, _, _, _, _, _, _, rfl, rfl, R0.rf q⟩
  · rcases p_watch hn S V p0 p1 0 with ⟨k, m, sz, hk, hms, hsz, rfl, rfl, fz, zk, he, w1, w2⟩ | ⟨why, x2, m2, y0, w1, w2, w3, q⟩
    · exact absurd rfl fz
    · have hy : ¬ why = 0 := by rw [y0]; exact id
      unfold fX7_starts fX8_starts
      rw [a1, a2, bo1N, bo1N, w1, w3, bo1N, bo2N, if_neg hy, if_neg hy, w2, bo2N]
      exact ⟨_, _, _, _, _, _, _, _, _, _, _, _, _, _, _, _, _, _, _, _, rfl, rfl, R0.rf q⟩
theorem tt_kinds {x_now_places : Int32} {x_now_people : Int32} {x_now_hour : Int32} {x_now_chance : Int32} {x_now_seed : Int32} {x_now_ways : Nat → Int32} {x_now_distances : Nat → Int32} {x_now_kind : Nat → Int32} {x_now_a : Nat → Int32} {x_now_home : Nat → Int32} {x_now_aim : Nat → Int32} {x_now_at : Nat → Int32} {x_kept_places : Int32} {x_kept_people : Int32} {x_kept_hour : Int32} {x_kept_chance : Int32} {x_kept_seed : Int32} {x_kept_ways : Nat → Int32} {x_kept_distances : Nat → Int32} {x_kept_kind : Nat → Int32} {x_kept_a : Nat → Int32} {x_kept_home : Nat → Int32} {x_kept_aim : Nat → Int32} {x_kept_at : Nat → Int32} {x_isKept : Int32} {x_shelves_c : Nat → Int32} {x_shelves_z : Nat → Int32} {x_shelves_e : Nat → Nat → Int64} {x_tape_size : Int32} {x_tape_bytes : Nat → Int32} {x_refusals : Nat → Int32} {m_places : Int32} {m_people : Int32} {m_hour : Int32} {m_chance : Int32} {m_seed : Int32} {m_ways : Nat → Int32} {m_kind : Nat → Int32} {m_by : Nat → Int32} {m_home : Nat → Int32} {m_aim : Nat → Int32} {m_at0 : Nat → Int32} {m_shelf : Nat → Int32} {m_rowSort : Nat → Int32} {m_rowSize : Nat → Int32} {m_rows : Nat → Nat → Int64} {m_shown : Nat → Int32} {m_tape : Nat → Int32} {m_tapeSize : Int32} {m_refused : Nat → Int32} {m_gone : Int32} {m_kept_places : Int32} {m_kept_people : Int32} {m_kept_hour : Int32} {m_kept_chance : Int32} {m_kept_seed : Int32} {m_kept_ways : Nat → Int32} {m_kept_kind : Nat → Int32} {m_kept_by : Nat → Int32} {m_kept_home : Nat → Int32} {m_kept_aim : Nat → Int32} {m_kept_at0 : Nat → Int32} {kb : Bool} (x_future_places : Int32) (x_future_people : Int32) (x_future_hour : Int32) (x_future_chance : Int32) (x_future_seed : Int32) (x_future_ways : Nat → Int32) (x_future_distances : Nat → Int32) (x_future_kind : Nat → Int32) (x_future_a : Nat → Int32) (x_future_home : Nat → Int32) (x_future_aim : Nat → Int32) (x_future_at : Nat → Int32) (m_now : Int32) (m_steps : Nat → Int32) (m_spot : Nat → Int32) (m_then : Nat → Int32) (p0 : Int32) (p1 : Int32) (p2 : Int32) (R : Rel kb x_now_places x_now_people x_now_hour x_now_chance x_now_seed x_now_ways x_now_distances x_now_kind x_now_a x_now_home x_now_aim x_now_at x_kept_places x_kept_people x_kept_hour x_kept_chance x_kept_seed x_kept_ways x_kept_distances x_kept_kind x_kept_a x_kept_home x_kept_aim x_kept_at x_isKept x_shelves_c x_shelves_z x_shelves_e x_tape_size x_tape_bytes x_refusals m_places m_people m_hour m_chance m_seed m_ways m_kind m_by m_home m_aim m_at0 m_shelf m_rowSort m_rowSize m_rows m_shown m_tape m_tapeSize m_refused m_gone m_kept_places m_kept_people m_kept_hour m_kept_chance m_kept_seed m_kept_ways m_kept_kind m_kept_by m_kept_home m_kept_aim m_kept_at0) : ∃ (r : Int32) (y_future_places : Int32) (y_future_people : Int32) (y_future_hour : Int32) (y_future_chance : Int32) (y_future_seed : Int32) (y_future_ways : Nat → Int32) (y_future_distances : Nat → Int32) (y_future_kind : Nat → Int32) (y_future_a : Nat → Int32) (y_future_home : Nat → Int32) (y_future_aim : Nat → Int32) (y_future_at : Nat → Int32) (y_refusals : Nat → Int32) (z_now : Int32) (z_refused : Nat → Int32) (z_kind : Nat → Int32) (z_steps : Nat → Int32) (z_spot : Nat → Int32) (z_then : Nat → Int32), fX7_kinds x_now_places x_now_people x_now_hour x_now_chance x_now_seed x_now_ways x_now_distances x_now_kind x_now_a x_now_home x_now_aim x_now_at x_future_places x_future_people x_future_hour x_future_chance x_future_seed x_future_ways x_future_distances x_future_kind x_future_a x_future_home x_future_aim x_future_at x_refusals x_shelves_c x_shelves_z x_shelves_e p0 p1 p2 = some (r, y_future_places, y_future_people, y_future_hour, y_future_chance, y_future_seed, y_future_ways, y_future_distances, y_future_kind, y_future_a, y_future_home, y_future_aim, y_future_at, y_refusals) ∧ fX8_kinds m_places m_people m_hour m_now m_gone m_shelf m_rowSize m_refused m_ways m_kind m_home m_aim m_at0 m_steps m_spot m_then m_rows p0 p1 p2 = some (r, z_now, z_refused, z_kind, z_steps, z_spot, z_then) ∧ Rel kb x_now_places x_now_people x_now_hour x_now_chance x_now_seed x_now_ways x_now_distances x_now_kind x_now_a x_now_home x_now_aim x_now_at x_kept_places x_kept_people x_kept_hour x_kept_chance x_kept_seed x_kept_ways x_kept_distances x_kept_kind x_kept_a x_kept_home x_kept_aim x_kept_at x_isKept x_shelves_c x_shelves_z x_shelves_e x_tape_size x_tape_bytes y_refusals m_places m_people m_hour m_chance m_seed m_ways z_kind m_by m_home m_aim m_at0 m_shelf m_rowSort m_rowSize m_rows m_shown m_tape m_tapeSize z_refused m_gone m_kept_places m_kept_people m_kept_hour m_kept_chance m_kept_seed m_kept_ways m_kept_kind m_kept_by m_kept_home m_kept_aim m_kept_at0 := by
  have R0 := R
  obtain ⟨P, n, h, c, s, W, K, A, H, M, L, T, ⟨rfl, rfl, rfl, rfl, rfl, rfl, xd, xk, xa, xh, xm, xl⟩, ⟨rfl, rfl, rfl, rfl, rfl, rfl, mk, ma, mh, mm, ml⟩, rfl, S, U, V, Z⟩ := R
  obtain ⟨hP2, hP, hn, hW, hK, hH, hM, hL, hho⟩ := id T
  rcases cPerson n hn p2 with ⟨p, hp, rfl, a1, a2⟩ | ⟨a1, a2⟩
  · rcases p_watch hn S V p0 p1 1 with ⟨k, m, sz, hk, hms, hsz, rfl, rfl, -, zk, he, w1, w2⟩ | ⟨why, x2, m2, y0, w1, w2, w3, q⟩
    · have hx : (fun o => ∃ f1 f2 f3 f4 f5 f6 f7 f8 f9 f10 f11 f12, o = some (nI (pm (fun j => (wv W P n (nup K p j) H M h L (m_rows k) m).isNone) 6), f1, f2, f3, f4, f5, f6, f7, f8, f9, f10, f11, f12, x_refusals)) (fX7_kinds (nI P) (nI n) (nI h) m_chance m_seed (nf W) x_now_distances x_now_kind x_now_a x_now_home x_now_aim x_now_at x_future_places x_future_people x_future_hour x_future_chance x_future_seed x_future_ways x_future_distances x_future_kind x_future_a x_future_home x_future_aim x_future_at x_refusals x_shelves_c x_shelves_z x_shelves_e (nI k) (nI m) (nI p)) := by
        unfold fX7_kinds
        simp only [a1, w1, n1z, n0z, bo1, bo2, bo3, bo4, bo5, bo6, bo7, bo12, jo0, i10, i00, if_true, if_false, ite_self, p_become]
        refine lph14 (Φ := fun o => ∃ f1 f2 f3 f4 f5 f6 f7 f8 f9 f10 f11 f12, o = some (nI (pm (fun j => (wv W P n (nup K p j) H M h L (m_rows k) m).isNone) 6), f1, f2, f3, f4, f5, f6, f7, f8, f9, f10, f11, f12, x_refusals)) (fun i a b _ _ _ _ _ _ _ _ _ _ _ _ => a = nI (pm (fun j => (wv W P n (nup K p j) H M h L (m_rows k) m).isNone) i) ∧ b = nI i) 6 ⟨rfl, rfl⟩ (fun i hi a b f1 f2 f3 f4 f5 f6 f7 f8 f9 f10 f11 f12 z => ?_) (fun a b f1 f2 f3 f4 f5 f6 f7 f8 f9 f10 f11 f12 z g => ?_) 400 (by omega)
        · obtain ⟨rfl, rfl⟩ := z
          have T' := T.kind p i hi
          obtain ⟨hr, af, u1⟩ := p_firstWrong T' xd (ag_up xk p i) xh xm xl hms hsz he
          have hb := wv_bd (W := W) (P := P) (n := n) (K := nup K p i) (H := H) (M := M) (h := h) (L := L) (w := m_rows k) (m := m) (by omega)
          refine ⟨_, _, nI P, nI n, hr, m_chance, m_seed, nf W, x_now_distances, upd x_now_kind p (nI i), x_now_a, x_now_home, x_now_aim, af, ⟨rfl, rfl⟩, fun g => ?_⟩
          simp only [show ((6 : Int32) ≤ nI i) = False from eq_false (by rw [show (6 : Int32) = nI 6 from rfl, nle (by omega) (by omega)]; omega), bo1, bo2, bo3, bo4, bo5, bo6, bo7, bo12, jo0, jo1, vlet, i10, i00, if_true, if_false, ite_self, n1z, n0z, if_n (nin (k := p) (N := 8) (by omega) (by omega)), if_n (nin2 (k := p) (N := 8) (by omega) (by omega)), nc (n := p) (by omega), if_n (nin (k := k) (N := 8) (by omega) (by omega)), if_n (nin2 (k := k) (N := 8) (by omega) (by omega)), nc (n := k) (by omega), zk, u1, dv_no hb, n_pw (k := i) (by omega), n_or, nI_1, pm_s]
          cases wv W P n (nup K p i) H M h L (m_rows k) m with
          | none => simp only [bo1, bo2, bo3, bo4, bo5, bo6, bo7, bo12, jo0, jo1, vlet, i10, i00, if_true, if_false, ite_self, n1z, n0z, Option.isNone_none]
          | some r => simp only [bo1, bo2, bo3, bo4, bo5, bo6, bo7, bo12, jo0, jo1, vlet, i10, i00, if_true, if_false, ite_self, n1z, n0z, Option.isNone_some, reduceCtorEq]
        · obtain ⟨za, zb⟩ := z
          rw [za, zb]
          exact ⟨_, _, _, _, _, _, _, _, _, _, _, _, if_pos (by decide)⟩
      have hm : (fun o => ∃ (nw : Int32) (st sp tt : Nat → Int32), o = some (nI (pm (fun j => (wv W P n (nup K p j) H M h L (m_rows k) m).isNone) 6), nw, m_refused, m_kind, st, sp, tt)) (fX8_kinds (nI P) (nI n) (nI h) m_now (-1) m_shelf m_rowSize m_refused (nf W) m_kind m_home m_aim m_at0 m_steps m_spot m_then m_rows (nI k) (nI m) (nI p)) := by
        unfold fX8_kinds
        simp only [jo1_ite]
        simp only [a2, w2, n1z, n0z, bo1, bo2, bo3, bo4, bo5, bo6, bo7, bo12, jo0, i10, i00, if_true, if_false, ite_self, vlet, if_n (nin (k := p) (N := 8) (by omega) (by omega)), if_n (nin2 (k := p) (N := 8) (by omega) (by omega)), nc (n := p) (by omega)]
        refine lph7 (Φ := fun o => ∃ (nw : Int32) (st sp tt : Nat → Int32), o = some (nI (pm (fun j => (wv W P n (nup K p j) H M h L (m_rows k) m).isNone) 6), nw, m_refused, m_kind, st, sp, tt)) (fun i a b _ a0 _ _ _ => a = nI (pm (fun j => (wv W P n (nup K p j) H M h L (m_rows k) m).isNone) i) ∧ b = nI i ∧ ∀ v, upd a0 p v = upd m_kind p v) 6 ⟨rfl, rfl, fun _ => rfl⟩ (fun i hi a b u a0 s v t1 z => ?_) (fun a b u a0 s v t1 z g => ?_) 400 (by omega)
        · obtain ⟨rfl, rfl, z⟩ := z
          have T' := T.kind p i hi
          obtain ⟨nw, st, sp, tt, u1⟩ := p_wrongIn (s0 := s) (p0 := v) (t0 := t1) (rw_ := m_rows) T' (ag_up mk p i) mh mm ml (show m ≤ 40 by omega) hk
          have hb := wv_bd (W := W) (P := P) (n := n) (K := nup K p i) (H := H) (M := M) (h := h) (L := L) (w := m_rows k) (m := m) (by omega)
          refine ⟨_, _, nw, upd a0 p (nI i), st, sp, tt, ⟨rfl, rfl, fun v => by rw [upd_upd]; exact z v⟩, fun g => ?_⟩
          simp only [show ((5 : Int32) < nI i) = False from eq_false (by rw [show (5 : Int32) = nI 5 from rfl, nlt (by omega) (by omega)]; omega), bo1, bo2, bo3, bo4, bo5, bo6, bo7, bo12, jo0, jo1, vlet, i10, i00, if_true, if_false, ite_self, n1z, n0z, z, u1, dv_no hb, n_pw (k := i) (by omega), nI_1, pm_s]
          cases wv W P n (nup K p i) H M h L (m_rows k) m with
          | none => simp only [bo1, bo2, bo3, bo4, bo5, bo6, bo7, bo12, jo0, jo1, vlet, i10, i00, if_true, if_false, ite_self, n1z, n0z, Option.isNone_none, n_or]
          | some r => simp only [bo1, bo2, bo3, bo4, bo5, bo6, bo7, bo12, jo0, jo1, vlet, i10, i00, if_true, if_false, ite_self, n1z, n0z, Option.isNone_some, reduceCtorEq, n_or0, Bool.false_eq_true]
        · obtain ⟨za, zb, z⟩ := z
          refine ⟨u, s, v, t1, ?_⟩
          rw [za, zb, if_pos (show (5 : Int32) < nI 6 from by decide), z, upd_id]
      obtain ⟨f1, f2, f3, f4, f5, f6, f7, f8, f9, f10, f11, f12, hx⟩ := hx
      obtain ⟨z1, z2, z3, z4, hm⟩ := hm
      rw [hx, hm]
      exact ⟨_, _, _, _, _, _, _, _, _, _, _, _, _, _, _, _, _, _, _, _, rfl, rfl, R0⟩
    · have hy : ¬ why = 0 := by rw [y0]; exact id
      unfold fX7_kinds fX8_kinds
      rw [a1, a2, bo1N, bo1N, w1, w3, bo1N, bo2N, if_neg hy, if_neg hy, w2, bo2N]
      exact ⟨_, _, _, _, _, _, _, _, _, _, _, _, _, _, _, _, _, _, _, _, rfl, rfl, R0.rf q⟩
  · rcases p_watch hn S V p0 p1 0 with ⟨k, m, sz, hk, hms, hsz, rfl, rfl, fz, zk, he, w1, w2⟩ | ⟨why, x2, m2, y0, w1, w2, w3, q⟩
    · exact absurd rfl fz
    · have hy : ¬ why = 0 := by rw [y0]; exact id
      unfold fX7_kinds fX8_kinds
      rw [a1, a2, bo1N, bo1N, w1, w3, bo1N, bo2N, if_neg hy, if_neg hy, w2, bo2N]
      exact ⟨_, _, _, _, _, _, _, _, _, _, _, _, _, _, _, _, _, _, _, _, rfl, rfl, R0.rf q⟩
