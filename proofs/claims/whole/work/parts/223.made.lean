/-! ===== the town is made ===== -/
theorem upd_id (f : Nat → Int32) (k : Nat) : upd f k (f k) = f := upd_self rfl
theorem ag_up {n : Nat} {f : Nat → Int32} {K : Nat → Nat} (h : ag n f K) (k v : Nat) : ag n (upd f k (nI v)) (nup K k v) := by
  intro p hp
  unfold nup
  by_cases e : p = k
  · subst e; rw [pk_us, if_pos rfl]
  · rw [pk_un e, if_neg e]; exact h p hp
theorem ag_up1 {n : Nat} {f : Nat → Int32} {K : Nat → Nat} (h : ag n f K) (v : Nat) : ag (n + 1) (upd f n (nI v)) (nup K n v) := by
  intro p hp
  unfold nup
  by_cases e : p = n
  · subst e; rw [pk_us, if_pos rfl]
  · rw [pk_un e, if_neg e]; exact h p (by omega)
theorem nup_lt {n k v B : Nat} {K : Nat → Nat} (h : ∀ p, p < n → K p < B) (hv : v < B) : ∀ p, p < n → nup K k v p < B := by
  intro p hp
  unfold nup
  by_cases e : p = k
  · rw [if_pos e]; exact hv
  · rw [if_neg e]; exact h p hp
theorem nup_lt1 {n v B : Nat} {K : Nat → Nat} (h : ∀ p, p < n → K p < B) (hv : v < B) : ∀ p, p < n + 1 → nup K n v p < B := by
  intro p hp
  unfold nup
  by_cases e : p = n
  · rw [if_pos e]; exact hv
  · rw [if_neg e]; exact h p (by omega)
theorem wok.mono {P Q : Nat} {W : Nat → Nat} (h : wok P W) (q : P ≤ Q) : wok Q W := ⟨fun p => Nat.lt_of_lt_of_le (h.1 p) (Nat.pow_le_pow_right (by decide) q), h.2⟩
theorem shr.mono {n m : Nat} {c z : Nat → Int32} {e : Nat → Nat → Int64} {f s r : Nat → Int32} {w : Nat → Nat → Int64} {o : Nat → Int32} (S : shr n c z e f s r w o) (h : n ≤ m) : shr m c z e f s r w o := by
  intro j hj
  rcases S j hj with a | a | ⟨t, ht, a⟩
  · exact Or.inl a
  · exact Or.inr (Or.inl a)
  · exact Or.inr (Or.inr ⟨t, by omega, a⟩)
/-- a way made, a way taken away -/
def swt (W : Nat → Nat) (p q : Nat) : Nat → Nat := nup (nup W p (W p ||| 2 ^ q)) q (W q ||| 2 ^ p)
def swf (W : Nat → Nat) (p q : Nat) : Nat → Nat := nup (nup W p (nd (W p) (2 ^ q))) q (nd (W q) (2 ^ p))
theorem nup_self (W : Nat → Nat) (p v : Nat) : nup W p v p = v := if_pos rfl
theorem nup_ne {W : Nat → Nat} {p v i : Nat} (h : i ≠ p) : nup W p v i = W i := if_neg h
theorem swt_bit {W : Nat → Nat} {p q : Nat} (h : p ≠ q) (i j : Nat) : (swt W p q i).testBit j = ((W i).testBit j || (decide (i = p ∧ j = q) || decide (i = q ∧ j = p))) := by
  unfold swt
  by_cases e : i = q
  · subst e
    rw [nup_self, Nat.testBit_or, Nat.testBit_two_pow]
    congr 1
    apply bool_ext
    simp only [Bool.or_eq_true, decide_eq_true_eq, true_and]
    omega
  · rw [nup_ne e]
    by_cases e2 : i = p
    · subst e2
      rw [nup_self, Nat.testBit_or, Nat.testBit_two_pow]
      congr 1
      apply bool_ext
      simp only [Bool.or_eq_true, decide_eq_true_eq, true_and]
      omega
    · rw [nup_ne e2]
      simp [e, e2]
theorem swf_bit {W : Nat → Nat} {p q : Nat} (h : p ≠ q) (i j : Nat) : (swf W p q i).testBit j = ((W i).testBit j && !(decide (i = p ∧ j = q) || decide (i = q ∧ j = p))) := by
  unfold swf
  by_cases e : i = q
  · subst e
    rw [nup_self, nd_bit, Nat.testBit_two_pow]
    congr 2
    apply bool_ext
    simp only [Bool.or_eq_true, decide_eq_true_eq, true_and]
    omega
  · rw [nup_ne e]
    by_cases e2 : i = p
    · subst e2
      rw [nup_self, nd_bit, Nat.testBit_two_pow]
      congr 2
      apply bool_ext
      simp only [Bool.or_eq_true, decide_eq_true_eq, true_and]
      omega
    · rw [nup_ne e2]
      simp [e, e2]
theorem pw_lt2 {p P : Nat} (h : p < P) : 2 ^ p < 2 ^ P := Nat.pow_lt_pow_right (by decide) h
theorem nup_all {W : Nat → Nat} {k v B : Nat} (h : ∀ p, W p < B) (hv : v < B) : ∀ p, nup W k v p < B := by
  intro p
  unfold nup
  by_cases e : p = k
  · rw [if_pos e]; exact hv
  · rw [if_neg e]; exact h p
theorem swt_wok {W : Nat → Nat} {P p q : Nat} (hW : wok P W) (hp : p < P) (hq : q < P) (h : p ≠ q) : wok P (swt W p q) := by
  refine ⟨?_, fun i j => ?_, fun i => ?_⟩
  · exact nup_all (nup_all hW.1 (or_lt (hW.1 p) (pw_lt2 hq))) (or_lt (hW.1 q) (pw_lt2 hp))
  · rw [swt_bit h, swt_bit h, hW.2.1 i j]
    congr 1
    apply bool_ext
    simp only [Bool.or_eq_true, decide_eq_true_eq, true_and]
    omega
  · rw [swt_bit h, hW.2.2 i]
    simp
    omega
theorem swf_wok {W : Nat → Nat} {P p q : Nat} (hW : wok P W) (h : p ≠ q) : wok P (swf W p q) := by
  refine ⟨?_, fun i j => ?_, fun i => ?_⟩
  · exact nup_all (nup_all hW.1 (nd_lt (hW.1 p))) (nd_lt (hW.1 q))
  · rw [swf_bit h, swf_bit h, hW.2.1 i j]
    congr 2
    apply bool_ext
    simp only [Bool.or_eq_true, decide_eq_true_eq, true_and]
    omega
  · rw [swf_bit h, hW.2.2 i]
    simp
/-- one or the other -/
def sw (W : Nat → Nat) (p q : Nat) (b : Int32) : Nat → Nat := if b = 0 then swf W p q else swt W p q
theorem sw_wok {W : Nat → Nat} {P p q : Nat} {b : Int32} (hW : wok P W) (hp : p < P) (hq : q < P) (h : p ≠ q) : wok P (sw W p q b) := by
  unfold sw
  by_cases e : b = 0
  · rw [if_pos e]; exact swf_wok hW h
  · rw [if_neg e]; exact swt_wok hW hp hq h
theorem nf_un {F : Nat → Nat} {k v i : Nat} (h : i ≠ k) : upd (nf F) k (nI v) i = nI (F i) := by rw [pk_un h]; rfl
theorem p_setWay {W : Nat → Nat} {p q : Nat} {b : Int32} (hp : p < 12) (hq : q < 12) (h : p ≠ q) : fX5_setWay (nf W) (nI p) (nI q) b = some (nf (sw W p q b)) := by
  unfold fX5_setWay
  simp only [if_n (nin (k := p) (N := 12) (by omega) (by omega)), if_n (nin2 (k := p) (N := 12) (by omega) (by omega)), nc (n := p) (by omega), if_n (nin (k := q) (N := 12) (by omega) (by omega)), if_n (nin2 (k := q) (N := 12) (by omega) (by omega)), nc (n := q) (by omega), nf_ap, n_pw (k := q) (by omega), n_pw (k := p) (by omega), n_not, n_or, nf_un (show q ≠ p from Ne.symm h), nf_upd]
  unfold sw
  by_cases e : b = 0
  · rw [if_pos e, if_pos e]; rfl
  · rw [if_neg e, if_neg e]; rfl
theorem p_msetWay {W : Nat → Nat} {p q : Nat} {b : Int32} (hp : p < 12) (hq : q < 12) (h : p ≠ q) : fX8_setWay (nf W) (nI p) (nI q) b = some (nf (sw W p q b)) := by
  unfold fX8_setWay
  simp only [if_n (nin (k := p) (N := 12) (by omega) (by omega)), if_n (nin2 (k := p) (N := 12) (by omega) (by omega)), nc (n := p) (by omega), if_n (nin (k := q) (N := 12) (by omega) (by omega)), if_n (nin2 (k := q) (N := 12) (by omega) (by omega)), nc (n := q) (by omega), jo1, nf_ap, n_pw (k := q) (by omega), n_pw (k := p) (by omega), n_not, n_or, nf_un (show q ≠ p from Ne.symm h), nf_upd]
  unfold sw
  by_cases e : b = 0
  · rw [if_pos e, if_pos e, if_pos e]; rfl
  · rw [if_neg e, if_neg e, if_neg e]; rfl
theorem c2Places (P : Nat) (hP : P ≤ 12) (x y : Int32) : (∃ p q, p < P ∧ q < P ∧ p ≠ q ∧ x = nI p ∧ y = nI q ∧ fX7_areTwoPlaces (nI P) x y = some 1 ∧ fX8_areTwo (nI P) x y = some 1) ∨ (fX7_areTwoPlaces (nI P) x y = some 0 ∧ fX8_areTwo (nI P) x y = some 0) := by
  unfold fX7_areTwoPlaces fX8_areTwo
  rcases cPlace P hP x with ⟨p, hp, rfl, a1, a2⟩ | ⟨a1, a2⟩
  · rcases cPlace P hP y with ⟨q, hq, rfl, b1, b2⟩ | ⟨b1, b2⟩
    · simp only [a1, a2, b1, b2, bo1, bo2, bo3, bo4, bo5, bo6, bo7, bo12, jo0, jo1, vlet, i10, i00, if_true, if_false, ite_self, neq (a := p) (b := q) (by omega) (by omega)]
      by_cases e : p = q
      · right; simp [e]
      · left; exact ⟨p, q, hp, hq, e, rfl, rfl, by simp [e], by simp [e]⟩
    · right; simp only [a1, a2, b1, b2, bo1, bo2, bo3, bo4, bo5, bo6, bo7, bo12, jo0, jo1, vlet, i10, i00, if_true, if_false, ite_self]; exact ⟨trivial, trivial⟩
  · right; simp only [a1, a2, bo1, bo2, bo3, bo4, bo5, bo6, bo7, bo12, jo0, jo1, vlet, i10, i00, if_true, if_false, ite_self]; exact ⟨trivial, trivial⟩
theorem tt_places {x_now_places : Int32} {x_now_people : Int32} {x_now_hour : Int32} {x_now_chance : Int32} {x_now_seed : Int32} {x_now_ways : Nat → Int32} {x_now_distances : Nat → Int32} {x_now_kind : Nat → Int32} {x_now_a : Nat → Int32} {x_now_home : Nat → Int32} {x_now_aim : Nat → Int32} {x_now_at : Nat → Int32} {x_kept_places : Int32} {x_kept_people : Int32} {x_kept_hour : Int32} {x_kept_chance : Int32} {x_kept_seed : Int32} {x_kept_ways : Nat → Int32} {x_kept_distances : Nat → Int32} {x_kept_kind : Nat → Int32} {x_kept_a : Nat → Int32} {x_kept_home : Nat → Int32} {x_kept_aim : Nat → Int32} {x_kept_at : Nat → Int32} {x_isKept : Int32} {x_shelves_c : Nat → Int32} {x_shelves_z : Nat → Int32} {x_shelves_e : Nat → Nat → Int64} {x_tape_size : Int32} {x_tape_bytes : Nat → Int32} {x_refusals : Nat → Int32} {m_places : Int32} {m_people : Int32} {m_hour : Int32} {m_chance : Int32} {m_seed : Int32} {m_ways : Nat → Int32} {m_kind : Nat → Int32} {m_by : Nat → Int32} {m_home : Nat → Int32} {m_aim : Nat → Int32} {m_at0 : Nat → Int32} {m_shelf : Nat → Int32} {m_rowSort : Nat → Int32} {m_rowSize : Nat → Int32} {m_rows : Nat → Nat → Int64} {m_shown : Nat → Int32} {m_tape : Nat → Int32} {m_tapeSize : Int32} {m_refused : Nat → Int32} {m_gone : Int32} {m_kept_places : Int32} {m_kept_people : Int32} {m_kept_hour : Int32} {m_kept_chance : Int32} {m_kept_seed : Int32} {m_kept_ways : Nat → Int32} {m_kept_kind : Nat → Int32} {m_kept_by : Nat → Int32} {m_kept_home : Nat → Int32} {m_kept_aim : Nat → Int32} {m_kept_at0 : Nat → Int32} {kb : Bool} (p0 : Int32) (R : Rel kb x_now_places x_now_people x_now_hour x_now_chance x_now_seed x_now_ways x_now_distances x_now_kind x_now_a x_now_home x_now_aim x_now_at x_kept_places x_kept_people x_kept_hour x_kept_chance x_kept_seed x_kept_ways x_kept_distances x_kept_kind x_kept_a x_kept_home x_kept_aim x_kept_at x_isKept x_shelves_c x_shelves_z x_shelves_e x_tape_size x_tape_bytes x_refusals m_places m_people m_hour m_chance m_seed m_ways m_kind m_by m_home m_aim m_at0 m_shelf m_rowSort m_rowSize m_rows m_shown m_tape m_tapeSize m_refused m_gone m_kept_places m_kept_people m_kept_hour m_kept_chance m_kept_seed m_kept_ways m_kept_kind m_kept_by m_kept_home m_kept_aim m_kept_at0) : ∃ (r : Int32) (y_now_places : Int32) (y_refusals : Nat → Int32) (z_places : Int32) (z_refused : Nat → Int32), fX7_places x_now_places x_refusals p0 = some (r, y_now_places, y_refusals) ∧ fX8_places m_places m_refused p0 = some (r, z_places, z_refused) ∧ Rel kb y_now_places x_now_people x_now_hour x_now_chance x_now_seed x_now_ways x_now_distances x_now_kind x_now_a x_now_home x_now_aim x_now_at x_kept_places x_kept_people x_kept_hour x_kept_chance x_kept_seed x_kept_ways x_kept_distances x_kept_kind x_kept_a x_kept_home x_kept_aim x_kept_at x_isKept x_shelves_c x_shelves_z x_shelves_e x_tape_size x_tape_bytes y_refusals z_places m_people m_hour m_chance m_seed m_ways m_kind m_by m_home m_aim m_at0 m_shelf m_rowSort m_rowSize m_rows m_shown m_tape m_tapeSize z_refused m_gone m_kept_places m_kept_people m_kept_hour m_kept_chance m_kept_seed m_kept_ways m_kept_kind m_kept_by m_kept_home m_kept_aim m_kept_at0 := by
  have R0 := R
  obtain ⟨P, n, h, c, s, W, K, A, H, M, L, T, ⟨rfl, rfl, rfl, rfl, rfl, rfl, xd, xk, xa, xh, xm, xl⟩, ⟨rfl, rfl, rfl, rfl, rfl, rfl, mk, ma, mh, mm, ml⟩, rfl, S, U, V, Z⟩ := R
  obtain ⟨hP2, hP, hn, hW, hK, hH, hM, hL, hho⟩ := id T
  obtain ⟨x2, m2, e1, e2, q⟩ := rf2 V
  unfold fX7_places fX8_places
  rcases cIn P 12 (nI P).toInt64 12 rfl (by decide) (by omega) (by omega) p0 with ⟨k, h1, hk, rfl, b2⟩ | ⟨b1, b2⟩
  · simp only [b2, bo1, bo2, bo3, bo4, bo5, bo6, bo7, bo12, jo0, jo1, vlet, i10, i00, if_true, if_false, ite_self, show (12 : Int32) = nI 12 from rfl, nlt (a := k) (b := P) (by omega) (by omega), nle (a := k) (b := 12) (by omega) (by omega), show ¬ k < P from by omega, hk]
    exact ⟨_, _, _, _, _, rfl, rfl, ⟨k, n, h, _, _, W, K, A, H, M, L, ⟨by omega, by omega, hn, hW.mono h1, hK, fun p hp => Nat.lt_of_lt_of_le (hH p hp) h1, fun p hp => Nat.lt_of_lt_of_le (hM p hp) h1, fun p hp => Nat.lt_of_lt_of_le (hL p hp) h1, hho⟩, ⟨rfl, rfl, rfl, rfl, rfl, rfl, xd, xk, xa, xh, xm, xl⟩, ⟨rfl, rfl, rfl, rfl, rfl, rfl, mk, ma, mh, mm, ml⟩, rfl, S, U, V, Z⟩⟩
  · rcases b1 with b1 | b1
    · simp only [b2, e1, e2, bo1, bo2, bo3, bo4, bo5, bo6, bo7, bo12, jo0, jo1, vlet, i10, i00, if_true, if_false, ite_self, if_pos b1]
      exact ⟨_, _, _, _, _, rfl, rfl, R0.rf q⟩
    · simp only [b2, e1, e2, bo1, bo2, bo3, bo4, bo5, bo6, bo7, bo12, jo0, jo1, vlet, i10, i00, if_true, if_false, ite_self, if_neg (Int32.not_le.mpr (show (12 : Int32) < p0 from b1))]
      exact ⟨_, _, _, _, _, rfl, rfl, R0.rf q⟩
theorem tt_way {x_now_places : Int32} {x_now_people : Int32} {x_now_hour : Int32} {x_now_chance : Int32} {x_now_seed : Int32} {x_now_ways : Nat → Int32} {x_now_distances : Nat → Int32} {x_now_kind : Nat → Int32} {x_now_a : Nat → Int32} {x_now_home : Nat → Int32} {x_now_aim : Nat → Int32} {x_now_at : Nat → Int32} {x_kept_places : Int32} {x_kept_people : Int32} {x_kept_hour : Int32} {x_kept_chance : Int32} {x_kept_seed : Int32} {x_kept_ways : Nat → Int32} {x_kept_distances : Nat → Int32} {x_kept_kind : Nat → Int32} {x_kept_a : Nat → Int32} {x_kept_home : Nat → Int32} {x_kept_aim : Nat → Int32} {x_kept_at : Nat → Int32} {x_isKept : Int32} {x_shelves_c : Nat → Int32} {x_shelves_z : Nat → Int32} {x_shelves_e : Nat → Nat → Int64} {x_tape_size : Int32} {x_tape_bytes : Nat → Int32} {x_refusals : Nat → Int32} {m_places : Int32} {m_people : Int32} {m_hour : Int32} {m_chance : Int32} {m_seed : Int32} {m_ways : Nat → Int32} {m_kind : Nat → Int32} {m_by : Nat → Int32} {m_home : Nat → Int32} {m_aim : Nat → Int32} {m_at0 : Nat → Int32} {m_shelf : Nat → Int32} {m_rowSort : Nat → Int32} {m_rowSize : Nat → Int32} {m_rows : Nat → Nat → Int64} {m_shown : Nat → Int32} {m_tape : Nat → Int32} {m_tapeSize : Int32} {m_refused : Nat → Int32} {m_gone : Int32} {m_kept_places : Int32} {m_kept_people : Int32} {m_kept_hour : Int32} {m_kept_chance : Int32} {m_kept_seed : Int32} {m_kept_ways : Nat → Int32} {m_kept_kind : Nat → Int32} {m_kept_by : Nat → Int32} {m_kept_home : Nat → Int32} {m_kept_aim : Nat → Int32} {m_kept_at0 : Nat → Int32} {kb : Bool} (p0 : Int32) (p1 : Int32) (p2 : Int32) (R : Rel kb x_now_places x_now_people x_now_hour x_now_chance x_now_seed x_now_ways x_now_distances x_now_kind x_now_a x_now_home x_now_aim x_now_at x_kept_places x_kept_people x_kept_hour x_kept_chance x_kept_seed x_kept_ways x_kept_distances x_kept_kind x_kept_a x_kept_home x_kept_aim x_kept_at x_isKept x_shelves_c x_shelves_z x_shelves_e x_tape_size x_tape_bytes x_refusals m_places m_people m_hour m_chance m_seed m_ways m_kind m_by m_home m_aim m_at0 m_shelf m_rowSort m_rowSize m_rows m_shown m_tape m_tapeSize m_refused m_gone m_kept_places m_kept_people m_kept_hour m_kept_chance m_kept_seed m_kept_ways m_kept_kind m_kept_by m_kept_home m_kept_aim m_kept_at0) : ∃ (r : Int32) (y_now_ways : Nat → Int32) (y_now_distances : Nat → Int32) (y_refusals : Nat → Int32) (z_refused : Nat → Int32) (z_ways : Nat → Int32), fX7_way x_now_places x_now_ways x_now_distances x_refusals p0 p1 p2 = some (r, y_now_ways, y_now_distances, y_refusals) ∧ fX8_way m_places m_refused m_ways p0 p1 p2 = some (r, z_refused, z_ways) ∧ Rel kb x_now_places x_now_people x_now_hour x_now_chance x_now_seed y_now_ways y_now_distances x_now_kind x_now_a x_now_home x_now_aim x_now_at x_kept_places x_kept_people x_kept_hour x_kept_chance x_kept_seed x_kept_ways x_kept_distances x_kept_kind x_kept_a x_kept_home x_kept_aim x_kept_at x_isKept x_shelves_c x_shelves_z x_shelves_e x_tape_size x_tape_bytes y_refusals m_places m_people m_hour m_chance m_seed z_ways m_kind m_by m_home m_aim m_at0 m_shelf m_rowSort m_rowSize m_rows m_shown m_tape m_tapeSize z_refused m_gone m_kept_places m_kept_people m_kept_hour m_kept_chance m_kept_seed m_kept_ways m_kept_kind m_kept_by m_kept_home m_kept_aim m_kept_at0 := by
  have R0 := R
  obtain ⟨P, n, h, c, s, W, K, A, H, M, L, T, ⟨rfl, rfl, rfl, rfl, rfl, rfl, xd, xk, xa, xh, xm, xl⟩, ⟨rfl, rfl, rfl, rfl, rfl, rfl, mk, ma, mh, mm, ml⟩, rfl, S, U, V, Z⟩ := R
  obtain ⟨hP2, hP, hn, hW, hK, hH, hM, hL, hho⟩ := id T
  obtain ⟨x2, m2, e1, e2, q⟩ := rf2 V
  unfold fX7_way fX8_way
  rcases c2Places P hP p0 p1 with ⟨a, b, ha, hb, hab, rfl, rfl, c1, c2⟩ | ⟨c1, c2⟩
  · have hWs := sw_wok (b := p2) hW ha hb hab
    simp only [c1, c2, bo1, bo2, bo3, bo4, bo5, bo6, bo7, bo12, jo0, jo1, vlet, i10, i00, if_true, if_false, ite_self, p_hasWay hW hP (show a < 12 by omega) (show b < 31 by omega), p_setWay (W := W) (b := p2) (show a < 12 by omega) (show b < 12 by omega) hab, p_msetWay (W := W) (b := p2) (show a < 12 by omega) (show b < 12 by omega) hab, p_measure hWs hP, if_n (nin (k := a) (N := 12) (by omega) (by omega)), if_n (nin2 (k := a) (N := 12) (by omega) (by omega)), nc (n := a) (by omega), nf_ap, n_bit (m := W a) (k := b) (by have := hW.lt hP a; omega) (by omega), b01]
    cases hbit : (W a).testBit b with
    | false =>
      simp only [if_true, Bool.false_eq_true, if_false]
      exact ⟨_, _, _, _, _, _, rfl, rfl, ⟨P, n, h, _, _, sw W a b p2, K, A, H, M, L, ⟨hP2, hP, hn, hWs, hK, hH, hM, hL, hho⟩, ⟨rfl, rfl, rfl, rfl, rfl, rfl, md_dok _ _, xk, xa, xh, xm, xl⟩, ⟨rfl, rfl, rfl, rfl, rfl, rfl, mk, ma, mh, mm, ml⟩, rfl, S, U, V, Z⟩⟩
    | true =>
      simp only [if_true, Bool.true_eq_false, if_false]
      exact ⟨_, _, _, _, _, _, rfl, rfl, ⟨P, n, h, _, _, sw W a b p2, K, A, H, M, L, ⟨hP2, hP, hn, hWs, hK, hH, hM, hL, hho⟩, ⟨rfl, rfl, rfl, rfl, rfl, rfl, md_dok _ _, xk, xa, xh, xm, xl⟩, ⟨rfl, rfl, rfl, rfl, rfl, rfl, mk, ma, mh, mm, ml⟩, rfl, S, U, V, Z⟩⟩
  · simp only [c1, c2, e1, e2, bo1, bo2, bo3, bo4, bo5, bo6, bo7, bo12, jo0, jo1, vlet, i10, i00, if_true, if_false, ite_self]
    exact ⟨_, _, _, _, _, _, rfl, rfl, R0.rf q⟩
theorem tt_isWay {x_now_places : Int32} {x_now_people : Int32} {x_now_hour : Int32} {x_now_chance : Int32} {x_now_seed : Int32} {x_now_ways : Nat → Int32} {x_now_distances : Nat → Int32} {x_now_kind : Nat → Int32} {x_now_a : Nat → Int32} {x_now_home : Nat → Int32} {x_now_aim : Nat → Int32} {x_now_at : Nat → Int32} {x_kept_places : Int32} {x_kept_people : Int32} {x_kept_hour : Int32} {x_kept_chance : Int32} {x_kept_seed : Int32} {x_kept_ways : Nat → Int32} {x_kept_distances : Nat → Int32} {x_kept_kind : Nat → Int32} {x_kept_a : Nat → Int32} {x_kept_home : Nat → Int32} {x_kept_aim : Nat → Int32} {x_kept_at : Nat → Int32} {x_isKept : Int32} {x_shelves_c : Nat → Int32} {x_shelves_z : Nat → Int32} {x_shelves_e : Nat → Nat → Int64} {x_tape_size : Int32} {x_tape_bytes : Nat → Int32} {x_refusals : Nat → Int32} {m_places : Int32} {m_people : Int32} {m_hour : Int32} {m_chance : Int32} {m_seed : Int32} {m_ways : Nat → Int32} {m_kind : Nat → Int32} {m_by : Nat → Int32} {m_home : Nat → Int32} {m_aim : Nat → Int32} {m_at0 : Nat → Int32} {m_shelf : Nat → Int32} {m_rowSort : Nat → Int32} {m_rowSize : Nat → Int32} {m_rows : Nat → Nat → Int64} {m_shown : Nat → Int32} {m_tape : Nat → Int32} {m_tapeSize : Int32} {m_refused : Nat → Int32} {m_gone : Int32} {m_kept_places : Int32} {m_kept_people : Int32} {m_kept_hour : Int32} {m_kept_chance : Int32} {m_kept_seed : Int32} {m_kept_ways : Nat → Int32} {m_kept_kind : Nat → Int32} {m_kept_by : Nat → Int32} {m_kept_home : Nat → Int32} {m_kept_aim : Nat → Int32} {m_kept_at0 : Nat → Int32} {kb : Bool} (p0 : Int32) (p1 : Int32) (R : Rel kb x_now_places x_now_people x_now_hour x_now_chance x_now_seed x_now_ways x_now_distances x_now_kind x_now_a x_now_home x_now_aim x_now_at x_kept_places x_kept_people x_kept_hour x_kept_chance x_kept_seed x_kept_ways x_kept_distances x_kept_kind x_kept_a x_kept_home x_kept_aim x_kept_at x_isKept x_shelves_c x_shelves_z x_shelves_e x_tape_size x_tape_bytes x_refusals m_places m_people m_hour m_chance m_seed m_ways m_kind m_by m_home m_aim m_at0 m_shelf m_rowSort m_rowSize m_rows m_shown m_tape m_tapeSize m_refused m_gone m_kept_places m_kept_people m_kept_hour m_kept_chance m_kept_seed m_kept_ways m_kept_kind m_kept_by m_kept_home m_kept_aim m_kept_at0) : ∃ (r : Int32) (y_refusals : Nat → Int32) (z_refused : Nat → Int32), fX7_isWay x_now_places x_now_ways x_refusals p0 p1 = some (r, y_refusals) ∧ fX8_isWay m_places m_refused m_ways p0 p1 = some (r, z_refused) ∧ Rel kb x_now_places x_now_people x_now_hour x_now_chance x_now_seed x_now_ways x_now_distances x_now_kind x_now_a x_now_home x_now_aim x_now_at x_kept_places x_kept_people x_kept_hour x_kept_chance x_kept_seed x_kept_ways x_kept_distances x_kept_kind x_kept_a x_kept_home x_kept_aim x_kept_at x_isKept x_shelves_c x_shelves_z x_shelves_e x_tape_size x_tape_bytes y_refusals m_places m_people m_hour m_chance m_seed m_ways m_kind m_by m_home m_aim m_at0 m_shelf m_rowSort m_rowSize m_rows m_shown m_tape m_tapeSize z_refused m_gone m_kept_places m_kept_people m_kept_hour m_kept_chance m_kept_seed m_kept_ways m_kept_kind m_kept_by m_kept_home m_kept_aim m_kept_at0 := by
  have R0 := R
  obtain ⟨P, n, h, c, s, W, K, A, H, M, L, T, ⟨rfl, rfl, rfl, rfl, rfl, rfl, xd, xk, xa, xh, xm, xl⟩, ⟨rfl, rfl, rfl, rfl, rfl, rfl, mk, ma, mh, mm, ml⟩, rfl, S, U, V, Z⟩ := R
  obtain ⟨hP2, hP, hn, hW, hK, hH, hM, hL, hho⟩ := id T
  obtain ⟨x2, m2, e1, e2, q⟩ := rf2 V
  unfold fX7_isWay fX8_isWay
  rcases c2Places P hP p0 p1 with ⟨a, b, ha, hb, hab, rfl, rfl, c1, c2⟩ | ⟨c1, c2⟩
  · simp only [c1, c2, bo1, bo2, bo3, bo4, bo5, bo6, bo7, bo12, jo0, jo1, vlet, i10, i00, if_true, if_false, ite_self, p_hasWay hW hP (show a < 12 by omega) (show b < 31 by omega), if_n (nin (k := a) (N := 12) (by omega) (by omega)), if_n (nin2 (k := a) (N := 12) (by omega) (by omega)), nc (n := a) (by omega), nf_ap, n_bit (m := W a) (k := b) (by have := hW.lt hP a; omega) (by omega), b01]
    cases hbit : (W a).testBit b with
    | false =>
      simp only [if_true, Bool.false_eq_true, if_false]
      exact ⟨_, _, _, rfl, rfl, R0⟩
    | true =>
      simp only [if_true, Bool.true_eq_false, if_false]
      exact ⟨_, _, _, rfl, rfl, R0⟩
  · simp only [c1, c2, e1, e2, bo1, bo2, bo3, bo4, bo5, bo6, bo7, bo12, jo0, jo1, vlet, i10, i00, if_true, if_false, ite_self]
    exact ⟨_, _, _, rfl, rfl, R0.rf q⟩
theorem tt_far {x_now_places : Int32} {x_now_people : Int32} {x_now_hour : Int32} {x_now_chance : Int32} {x_now_seed : Int32} {x_now_ways : Nat → Int32} {x_now_distances : Nat → Int32} {x_now_kind : Nat → Int32} {x_now_a : Nat → Int32} {x_now_home : Nat → Int32} {x_now_aim : Nat → Int32} {x_now_at : Nat → Int32} {x_kept_places : Int32} {x_kept_people : Int32} {x_kept_hour : Int32} {x_kept_chance : Int32} {x_kept_seed : Int32} {x_kept_ways : Nat → Int32} {x_kept_distances : Nat → Int32} {x_kept_kind : Nat → Int32} {x_kept_a : Nat → Int32} {x_kept_home : Nat → Int32} {x_kept_aim : Nat → Int32} {x_kept_at : Nat → Int32} {x_isKept : Int32} {x_shelves_c : Nat → Int32} {x_shelves_z : Nat → Int32} {x_shelves_e : Nat → Nat → Int64} {x_tape_size : Int32} {x_tape_bytes : Nat → Int32} {x_refusals : Nat → Int32} {m_places : Int32} {m_people : Int32} {m_hour : Int32} {m_chance : Int32} {m_seed : Int32} {m_ways : Nat → Int32} {m_kind : Nat → Int32} {m_by : Nat → Int32} {m_home : Nat → Int32} {m_aim : Nat → Int32} {m_at0 : Nat → Int32} {m_shelf : Nat → Int32} {m_rowSort : Nat → Int32} {m_rowSize : Nat → Int32} {m_rows : Nat → Nat → Int64} {m_shown : Nat → Int32} {m_tape : Nat → Int32} {m_tapeSize : Int32} {m_refused : Nat → Int32} {m_gone : Int32} {m_kept_places : Int32} {m_kept_people : Int32} {m_kept_hour : Int32} {m_kept_chance : Int32} {m_kept_seed : Int32} {m_kept_ways : Nat → Int32} {m_kept_kind : Nat → Int32} {m_kept_by : Nat → Int32} {m_kept_home : Nat → Int32} {m_kept_aim : Nat → Int32} {m_kept_at0 : Nat → Int32} {kb : Bool} (m_steps : Nat → Int32) (p0 : Int32) (p1 : Int32) (R : Rel kb x_now_places x_now_people x_now_hour x_now_chance x_now_seed x_now_ways x_now_distances x_now_kind x_now_a x_now_home x_now_aim x_now_at x_kept_places x_kept_people x_kept_hour x_kept_chance x_kept_seed x_kept_ways x_kept_distances x_kept_kind x_kept_a x_kept_home x_kept_aim x_kept_at x_isKept x_shelves_c x_shelves_z x_shelves_e x_tape_size x_tape_bytes x_refusals m_places m_people m_hour m_chance m_seed m_ways m_kind m_by m_home m_aim m_at0 m_shelf m_rowSort m_rowSize m_rows m_shown m_tape m_tapeSize m_refused m_gone m_kept_places m_kept_people m_kept_hour m_kept_chance m_kept_seed m_kept_ways m_kept_kind m_kept_by m_kept_home m_kept_aim m_kept_at0) : ∃ (r : Int32) (y_refusals : Nat → Int32) (z_refused : Nat → Int32) (z_steps : Nat → Int32), fX7_far x_now_places x_now_distances x_refusals p0 p1 = some (r, y_refusals) ∧ fX8_far m_places m_refused m_ways m_steps p0 p1 = some (r, z_refused, z_steps) ∧ Rel kb x_now_places x_now_people x_now_hour x_now_chance x_now_seed x_now_ways x_now_distances x_now_kind x_now_a x_now_home x_now_aim x_now_at x_kept_places x_kept_people x_kept_hour x_kept_chance x_kept_seed x_kept_ways x_kept_distances x_kept_kind x_kept_a x_kept_home x_kept_aim x_kept_at x_isKept x_shelves_c x_shelves_z x_shelves_e x_tape_size x_tape_bytes y_refusals m_places m_people m_hour m_chance m_seed m_ways m_kind m_by m_home m_aim m_at0 m_shelf m_rowSort m_rowSize m_rows m_shown m_tape m_tapeSize z_refused m_gone m_kept_places m_kept_people m_kept_hour m_kept_chance m_kept_seed m_kept_ways m_kept_kind m_kept_by m_kept_home m_kept_aim m_kept_at0 := by
  have R0 := R
  obtain ⟨P, n, h, c, s, W, K, A, H, M, L, T, ⟨rfl, rfl, rfl, rfl, rfl, rfl, xd, xk, xa, xh, xm, xl⟩, ⟨rfl, rfl, rfl, rfl, rfl, rfl, mk, ma, mh, mm, ml⟩, rfl, S, U, V, Z⟩ := R
  obtain ⟨hP2, hP, hn, hW, hK, hH, hM, hL, hho⟩ := id T
  obtain ⟨x2, m2, e1, e2, q⟩ := rf2 V
  unfold fX7_far fX8_far
  rcases cPlace P hP p0 with ⟨a, ha, rfl, a1, a2⟩ | ⟨a1, a2⟩
  · rcases cPlace P hP p1 with ⟨b, hb, rfl, b1, b2⟩ | ⟨b1, b2⟩
    · obtain ⟨st, f1, f2⟩ := p_findFar (s0 := m_steps) hW hP hP2 ha
      simp only [a1, a2, b1, b2, bo1, bo2, bo3, bo4, bo5, bo6, bo7, bo12, jo0, jo1, vlet, i10, i00, if_true, if_false, ite_self, p_distance xd (show a < 12 by omega) (show b < 12 by omega), f1, if_n (nin (k := b) (N := 12) (by omega) (by omega)), if_n (nin2 (k := b) (N := 12) (by omega) (by omega)), nc (n := b) (by omega), f2 b hb]
      exact ⟨_, _, _, _, rfl, rfl, R0⟩
    · simp only [a1, a2, b1, b2, e1, e2, bo1, bo2, bo3, bo4, bo5, bo6, bo7, bo12, jo0, jo1, vlet, i10, i00, if_true, if_false, ite_self]
      exact ⟨_, _, _, _, rfl, rfl, R0.rf q⟩
  · simp only [a1, a2, e1, e2, bo1, bo2, bo3, bo4, bo5, bo6, bo7, bo12, jo0, jo1, vlet, i10, i00, if_true, if_false, ite_self]
    exact ⟨_, _, _, _, rfl, rfl, R0.rf q⟩
theorem tt_seed {x_now_places : Int32} {x_now_people : Int32} {x_now_hour : Int32} {x_now_chance : Int32} {x_now_seed : Int32} {x_now_ways : Nat → Int32} {x_now_distances : Nat → Int32} {x_now_kind : Nat → Int32} {x_now_a : Nat → Int32} {x_now_home : Nat → Int32} {x_now_aim : Nat → Int32} {x_now_at : Nat → Int32} {x_kept_places : Int32} {x_kept_people : Int32} {x_kept_hour : Int32} {x_kept_chance : Int32} {x_kept_seed : Int32} {x_kept_ways : Nat → Int32} {x_kept_distances : Nat → Int32} {x_kept_kind : Nat → Int32} {x_kept_a : Nat → Int32} {x_kept_home : Nat → Int32} {x_kept_aim : Nat → Int32} {x_kept_at : Nat → Int32} {x_isKept : Int32} {x_shelves_c : Nat → Int32} {x_shelves_z : Nat → Int32} {x_shelves_e : Nat → Nat → Int64} {x_tape_size : Int32} {x_tape_bytes : Nat → Int32} {x_refusals : Nat → Int32} {m_places : Int32} {m_people : Int32} {m_hour : Int32} {m_chance : Int32} {m_seed : Int32} {m_ways : Nat → Int32} {m_kind : Nat → Int32} {m_by : Nat → Int32} {m_home : Nat → Int32} {m_aim : Nat → Int32} {m_at0 : Nat → Int32} {m_shelf : Nat → Int32} {m_rowSort : Nat → Int32} {m_rowSize : Nat → Int32} {m_rows : Nat → Nat → Int64} {m_shown : Nat → Int32} {m_tape : Nat → Int32} {m_tapeSize : Int32} {m_refused : Nat → Int32} {m_gone : Int32} {m_kept_places : Int32} {m_kept_people : Int32} {m_kept_hour : Int32} {m_kept_chance : Int32} {m_kept_seed : Int32} {m_kept_ways : Nat → Int32} {m_kept_kind : Nat → Int32} {m_kept_by : Nat → Int32} {m_kept_home : Nat → Int32} {m_kept_aim : Nat → Int32} {m_kept_at0 : Nat → Int32} {kb : Bool} (p0 : Int32) (R : Rel kb x_now_places x_now_people x_now_hour x_now_chance x_now_seed x_now_ways x_now_distances x_now_kind x_now_a x_now_home x_now_aim x_now_at x_kept_places x_kept_people x_kept_hour x_kept_chance x_kept_seed x_kept_ways x_kept_distances x_kept_kind x_kept_a x_kept_home x_kept_aim x_kept_at x_isKept x_shelves_c x_shelves_z x_shelves_e x_tape_size x_tape_bytes x_refusals m_places m_people m_hour m_chance m_seed m_ways m_kind m_by m_home m_aim m_at0 m_shelf m_rowSort m_rowSize m_rows m_shown m_tape m_tapeSize m_refused m_gone m_kept_places m_kept_people m_kept_hour m_kept_chance m_kept_seed m_kept_ways m_kept_kind m_kept_by m_kept_home m_kept_aim m_kept_at0) : ∃ (r : Int32) (y_now_seed : Int32) (z_seed : Int32), fX7_seed x_now_seed p0 = some (r, y_now_seed) ∧ fX8_seed m_seed p0 = some (r, z_seed) ∧ Rel kb x_now_places x_now_people x_now_hour x_now_chance y_now_seed x_now_ways x_now_distances x_now_kind x_now_a x_now_home x_now_aim x_now_at x_kept_places x_kept_people x_kept_hour x_kept_chance x_kept_seed x_kept_ways x_kept_distances x_kept_kind x_kept_a x_kept_home x_kept_aim x_kept_at x_isKept x_shelves_c x_shelves_z x_shelves_e x_tape_size x_tape_bytes x_refusals m_places m_people m_hour m_chance z_seed m_ways m_kind m_by m_home m_aim m_at0 m_shelf m_rowSort m_rowSize m_rows m_shown m_tape m_tapeSize m_refused m_gone m_kept_places m_kept_people m_kept_hour m_kept_chance m_kept_seed m_kept_ways m_kept_kind m_kept_by m_kept_home m_kept_aim m_kept_at0 := by
  have R0 := R
  obtain ⟨P, n, h, c, s, W, K, A, H, M, L, T, ⟨rfl, rfl, rfl, rfl, rfl, rfl, xd, xk, xa, xh, xm, xl⟩, ⟨rfl, rfl, rfl, rfl, rfl, rfl, mk, ma, mh, mm, ml⟩, rfl, S, U, V, Z⟩ := R
  obtain ⟨hP2, hP, hn, hW, hK, hH, hM, hL, hho⟩ := id T
  unfold fX7_seed fX8_seed
  exact ⟨_, _, _, rfl, rfl, ⟨P, n, h, _, _, W, K, A, H, M, L, T, ⟨rfl, rfl, rfl, rfl, rfl, rfl, xd, xk, xa, xh, xm, xl⟩, ⟨rfl, rfl, rfl, rfl, rfl, rfl, mk, ma, mh, mm, ml⟩, rfl, S, U, V, Z⟩⟩
theorem tt_wipe {x_now_places : Int32} {x_now_people : Int32} {x_now_hour : Int32} {x_now_chance : Int32} {x_now_seed : Int32} {x_now_ways : Nat → Int32} {x_now_distances : Nat → Int32} {x_now_kind : Nat → Int32} {x_now_a : Nat → Int32} {x_now_home : Nat → Int32} {x_now_aim : Nat → Int32} {x_now_at : Nat → Int32} {x_kept_places : Int32} {x_kept_people : Int32} {x_kept_hour : Int32} {x_kept_chance : Int32} {x_kept_seed : Int32} {x_kept_ways : Nat → Int32} {x_kept_distances : Nat → Int32} {x_kept_kind : Nat → Int32} {x_kept_a : Nat → Int32} {x_kept_home : Nat → Int32} {x_kept_aim : Nat → Int32} {x_kept_at : Nat → Int32} {x_isKept : Int32} {x_shelves_c : Nat → Int32} {x_shelves_z : Nat → Int32} {x_shelves_e : Nat → Nat → Int64} {x_tape_size : Int32} {x_tape_bytes : Nat → Int32} {x_refusals : Nat → Int32} {m_places : Int32} {m_people : Int32} {m_hour : Int32} {m_chance : Int32} {m_seed : Int32} {m_ways : Nat → Int32} {m_kind : Nat → Int32} {m_by : Nat → Int32} {m_home : Nat → Int32} {m_aim : Nat → Int32} {m_at0 : Nat → Int32} {m_shelf : Nat → Int32} {m_rowSort : Nat → Int32} {m_rowSize : Nat → Int32} {m_rows : Nat → Nat → Int64} {m_shown : Nat → Int32} {m_tape : Nat → Int32} {m_tapeSize : Int32} {m_refused : Nat → Int32} {m_gone : Int32} {m_kept_places : Int32} {m_kept_people : Int32} {m_kept_hour : Int32} {m_kept_chance : Int32} {m_kept_seed : Int32} {m_kept_ways : Nat → Int32} {m_kept_kind : Nat → Int32} {m_kept_by : Nat → Int32} {m_kept_home : Nat → Int32} {m_kept_aim : Nat → Int32} {m_kept_at0 : Nat → Int32} {kb : Bool} (R : Rel kb x_now_places x_now_people x_now_hour x_now_chance x_now_seed x_now_ways x_now_distances x_now_kind x_now_a x_now_home x_now_aim x_now_at x_kept_places x_kept_people x_kept_hour x_kept_chance x_kept_seed x_kept_ways x_kept_distances x_kept_kind x_kept_a x_kept_home x_kept_aim x_kept_at x_isKept x_shelves_c x_shelves_z x_shelves_e x_tape_size x_tape_bytes x_refusals m_places m_people m_hour m_chance m_seed m_ways m_kind m_by m_home m_aim m_at0 m_shelf m_rowSort m_rowSize m_rows m_shown m_tape m_tapeSize m_refused m_gone m_kept_places m_kept_people m_kept_hour m_kept_chance m_kept_seed m_kept_ways m_kept_kind m_kept_by m_kept_home m_kept_aim m_kept_at0) : ∃ (r : Int32) (y_tape_size : Int32) (z_tapeSize : Int32), fX7_wipe x_tape_size = some (r, y_tape_size) ∧ fX8_wipe m_tapeSize = some (r, z_tapeSize) ∧ Rel kb x_now_places x_now_people x_now_hour x_now_chance x_now_seed x_now_ways x_now_distances x_now_kind x_now_a x_now_home x_now_aim x_now_at x_kept_places x_kept_people x_kept_hour x_kept_chance x_kept_seed x_kept_ways x_kept_distances x_kept_kind x_kept_a x_kept_home x_kept_aim x_kept_at x_isKept x_shelves_c x_shelves_z x_shelves_e y_tape_size x_tape_bytes x_refusals m_places m_people m_hour m_chance m_seed m_ways m_kind m_by m_home m_aim m_at0 m_shelf m_rowSort m_rowSize m_rows m_shown m_tape z_tapeSize m_refused m_gone m_kept_places m_kept_people m_kept_hour m_kept_chance m_kept_seed m_kept_ways m_kept_kind m_kept_by m_kept_home m_kept_aim m_kept_at0 := by
  have R0 := R
  obtain ⟨P, n, h, c, s, W, K, A, H, M, L, T, ⟨rfl, rfl, rfl, rfl, rfl, rfl, xd, xk, xa, xh, xm, xl⟩, ⟨rfl, rfl, rfl, rfl, rfl, rfl, mk, ma, mh, mm, ml⟩, rfl, S, U, V, Z⟩ := R
  obtain ⟨hP2, hP, hn, hW, hK, hH, hM, hL, hho⟩ := id T
  obtain ⟨k, B, hk, rfl, rfl, hB, b1, b2⟩ := U
  unfold fX7_wipe fX8_wipe
  exact ⟨_, _, _, rfl, rfl, R0.tp ⟨0, B, by omega, rfl, rfl, fun i hi => absurd hi (by omega), fun i hi => absurd hi (by omega), fun i hi => absurd hi (by omega)⟩⟩
theorem tt_feed {x_now_places : Int32} {x_now_people : Int32} {x_now_hour : Int32} {x_now_chance : Int32} {x_now_seed : Int32} {x_now_ways : Nat → Int32} {x_now_distances : Nat → Int32} {x_now_kind : Nat → Int32} {x_now_a : Nat → Int32} {x_now_home : Nat → Int32} {x_now_aim : Nat → Int32} {x_now_at : Nat → Int32} {x_kept_places : Int32} {x_kept_people : Int32} {x_kept_hour : Int32} {x_kept_chance : Int32} {x_kept_seed : Int32} {x_kept_ways : Nat → Int32} {x_kept_distances : Nat → Int32} {x_kept_kind : Nat → Int32} {x_kept_a : Nat → Int32} {x_kept_home : Nat → Int32} {x_kept_aim : Nat → Int32} {x_kept_at : Nat → Int32} {x_isKept : Int32} {x_shelves_c : Nat → Int32} {x_shelves_z : Nat → Int32} {x_shelves_e : Nat → Nat → Int64} {x_tape_size : Int32} {x_tape_bytes : Nat → Int32} {x_refusals : Nat → Int32} {m_places : Int32} {m_people : Int32} {m_hour : Int32} {m_chance : Int32} {m_seed : Int32} {m_ways : Nat → Int32} {m_kind : Nat → Int32} {m_by : Nat → Int32} {m_home : Nat → Int32} {m_aim : Nat → Int32} {m_at0 : Nat → Int32} {m_shelf : Nat → Int32} {m_rowSort : Nat → Int32} {m_rowSize : Nat → Int32} {m_rows : Nat → Nat → Int64} {m_shown : Nat → Int32} {m_tape : Nat → Int32} {m_tapeSize : Int32} {m_refused : Nat → Int32} {m_gone : Int32} {m_kept_places : Int32} {m_kept_people : Int32} {m_kept_hour : Int32} {m_kept_chance : Int32} {m_kept_seed : Int32} {m_kept_ways : Nat → Int32} {m_kept_kind : Nat → Int32} {m_kept_by : Nat → Int32} {m_kept_home : Nat → Int32} {m_kept_aim : Nat → Int32} {m_kept_at0 : Nat → Int32} {kb : Bool} (p0 : Int32) (R : Rel kb x_now_places x_now_people x_now_hour x_now_chance x_now_seed x_now_ways x_now_distances x_now_kind x_now_a x_now_home x_now_aim x_now_at x_kept_places x_kept_people x_kept_hour x_kept_chance x_kept_seed x_kept_ways x_kept_distances x_kept_kind x_kept_a x_kept_home x_kept_aim x_kept_at x_isKept x_shelves_c x_shelves_z x_shelves_e x_tape_size x_tape_bytes x_refusals m_places m_people m_hour m_chance m_seed m_ways m_kind m_by m_home m_aim m_at0 m_shelf m_rowSort m_rowSize m_rows m_shown m_tape m_tapeSize m_refused m_gone m_kept_places m_kept_people m_kept_hour m_kept_chance m_kept_seed m_kept_ways m_kept_kind m_kept_by m_kept_home m_kept_aim m_kept_at0) : ∃ (r : Int32) (y_tape_size : Int32) (y_tape_bytes : Nat → Int32) (y_refusals : Nat → Int32) (z_tapeSize : Int32) (z_tape : Nat → Int32) (z_refused : Nat → Int32), fX7_feed x_tape_size x_tape_bytes x_refusals p0 = some (r, y_tape_size, y_tape_bytes, y_refusals) ∧ fX8_feed m_tapeSize m_tape m_refused p0 = some (r, z_tapeSize, z_tape, z_refused) ∧ Rel kb x_now_places x_now_people x_now_hour x_now_chance x_now_seed x_now_ways x_now_distances x_now_kind x_now_a x_now_home x_now_aim x_now_at x_kept_places x_kept_people x_kept_hour x_kept_chance x_kept_seed x_kept_ways x_kept_distances x_kept_kind x_kept_a x_kept_home x_kept_aim x_kept_at x_isKept x_shelves_c x_shelves_z x_shelves_e y_tape_size y_tape_bytes y_refusals m_places m_people m_hour m_chance m_seed m_ways m_kind m_by m_home m_aim m_at0 m_shelf m_rowSort m_rowSize m_rows m_shown z_tape z_tapeSize z_refused m_gone m_kept_places m_kept_people m_kept_hour m_kept_chance m_kept_seed m_kept_ways m_kept_kind m_kept_by m_kept_home m_kept_aim m_kept_at0 := by
  have R0 := R
  obtain ⟨P, n, h, c, s, W, K, A, H, M, L, T, ⟨rfl, rfl, rfl, rfl, rfl, rfl, xd, xk, xa, xh, xm, xl⟩, ⟨rfl, rfl, rfl, rfl, rfl, rfl, mk, ma, mh, mm, ml⟩, rfl, S, U, V, Z⟩ := R
  obtain ⟨hP2, hP, hn, hW, hK, hH, hM, hL, hho⟩ := id T
  obtain ⟨k, B, hk, rfl, rfl, hB, b1, b2⟩ := U
  unfold fX7_feed fX8_feed fX4_append
  rcases cIn 0 255 0 255 (by decide) (by decide) (by omega) (by omega) p0 with ⟨t, -, ht, rfl, a2⟩ | ⟨a1, a2⟩
  · by_cases g : k = 250
    · obtain ⟨x2, m2, e1, e2, q⟩ := rf6 V
      subst g
      simp only [a2, e1, e2, bo1, bo2, bo3, bo4, bo5, bo6, bo7, bo12, jo0, jo1, vlet, i10, i00, if_true, if_false, ite_self, show (255 : Int32) = nI 255 from rfl, show (250 : Int32) = nI 250 from rfl, nle (a := t) (b := 255) (by omega) (by omega), if_neg (nI_pos (n := t) (by omega)), ht, nlt (a := 250) (b := 250) (by omega) (by omega), show ¬ 250 < 250 from by omega]
      exact ⟨_, _, _, _, _, _, _, rfl, rfl, R0.rf q⟩
    · simp only [a2, bo1, bo2, bo3, bo4, bo5, bo6, bo7, bo12, jo0, jo1, vlet, i10, i00, if_true, if_false, ite_self, show (255 : Int32) = nI 255 from rfl, show (250 : Int32) = nI 250 from rfl, nle (a := t) (b := 255) (by omega) (by omega), if_neg (nI_pos (n := t) (by omega)), ht, nlt (a := k) (b := 250) (by omega) (by omega), neq (a := k) (b := 250) (by omega) (by omega), nle (a := 250) (b := k) (by omega) (by omega), if_n (nin (k := k) (N := 250) (by omega) (by omega)), if_n (nin2 (k := k) (N := 250) (by omega) (by omega)), nc (n := k) (by omega)]
      simp only [show k < 250 from by omega, show ¬ 250 ≤ k from by omega, g, bo1, bo2, bo3, bo4, bo5, bo6, bo7, bo12, jo0, jo1, vlet, i10, i00, if_true, if_false, ite_self, nI_1]
      exact ⟨_, _, _, _, _, _, _, rfl, rfl, R0.tp ⟨k + 1, nup B k t, by omega, rfl, rfl, fun i hi => Nat.le_of_lt_succ (nup_lt1 (B := 256) (fun p hp => Nat.lt_succ_of_le (hB p hp)) (by omega) i hi), ag_up1 b1 t, ag_up1 b2 t⟩⟩
  · obtain ⟨x2, m2, e1, e2, q⟩ := rf2 V
    rcases a1 with a1 | a1
    · simp only [a2, e1, e2, bo1, bo2, bo3, bo4, bo5, bo6, bo7, bo12, jo0, jo1, vlet, i10, i00, if_true, if_false, ite_self, if_pos (show p0 < 0 from a1)]
      exact ⟨_, _, _, _, _, _, _, rfl, rfl, R0.rf q⟩
    · simp only [a2, e1, e2, bo1, bo2, bo3, bo4, bo5, bo6, bo7, bo12, jo0, jo1, vlet, i10, i00, if_true, if_false, ite_self, if_neg (Int32.not_le.mpr (show (255 : Int32) < p0 from a1))]
      exact ⟨_, _, _, _, _, _, _, rfl, rfl, R0.rf q⟩
theorem l9999 : (9999 : Int64) = (nI 9999).toInt64 := by rw [nI_l (by omega)]; rfl
theorem g9999 {x : Int32} (h : nI 9999 < x) : (9999 : Int32) < x := h
theorem e9999 : (9999 : Int32) = nI 9999 := rfl
theorem c9999 (x : Int32) : (∃ k, 0 ≤ k ∧ k ≤ 9999 ∧ x = nI k ∧ fX8_in x.toInt64 0 9999 = some 1) ∨ ((x < nI 0 ∨ nI 9999 < x) ∧ fX8_in x.toInt64 0 9999 = some 0) := cIn 0 9999 0 9999 (by decide) l9999 (by omega) (by omega) x
theorem in11 : fX8_in (1 : Int32).toInt64 (0 : Int64) (1 : Int64) = some 1 := by decide
theorem in01 : fX8_in (0 : Int32).toInt64 (0 : Int64) (1 : Int64) = some 1 := by decide
theorem mtell1 (hh cc : Int32) (rr : Nat → Int32) (p1 : Int32) : fX8_tell hh cc rr (1 : Int32) p1 = bo1 (fX8_in p1.toInt64 (0 : Int64) (12 : Int64)) fun r9 => if r9 = 0 then bo2 (fX8_refuse rr (-2 : Int32)) fun r4 u5 => some (r4, hh, cc, u5) else some (cc, hh, p1, rr) := by
  unfold fX8_tell
  rw [in11]
  simp only [bo1, jo0, jo1, i10, i112, if_true, if_false]
theorem mtell0 (hh cc : Int32) (rr : Nat → Int32) (p1 : Int32) : fX8_tell hh cc rr (0 : Int32) p1 = bo1 (fX8_in p1.toInt64 (0 : Int64) (9999 : Int64)) fun r9 => if r9 = 0 then bo2 (fX8_refuse rr (-2 : Int32)) fun r4 u5 => some (r4, hh, cc, u5) else some (hh, p1, cc, rr) := by
  unfold fX8_tell
  rw [in01]
  simp only [bo1, jo0, jo1, i10, i00, i012, if_true, if_false]
theorem xtell1 (hh cc : Int32) (rr : Nat → Int32) (p0 p1 : Int32) (h0 : ¬ p0 = 0) (h1 : p0 = (1 : Int32)) : fX7_tell hh cc rr p0 p1 = if p1 < 0 then (bo2 (fX7_refuse rr (-2 : Int32)) fun r3 u4 => some (r3, hh, cc, u4)) else if (12 : Int32) < p1 then (bo2 (fX7_refuse rr (-2 : Int32)) fun r3 u4 => some (r3, hh, cc, u4)) else some (cc, hh, p1, rr) := by
  unfold fX7_tell
  simp only [jo0]
  rw [if_neg h0, if_pos h1]
theorem xtell0 (hh cc : Int32) (rr : Nat → Int32) (p1 : Int32) : fX7_tell hh cc rr (0 : Int32) p1 = if p1 < 0 then (bo2 (fX7_refuse rr (-2 : Int32)) fun r3 u4 => some (r3, hh, cc, u4)) else if (9999 : Int32) < p1 then (bo2 (fX7_refuse rr (-2 : Int32)) fun r3 u4 => some (r3, hh, cc, u4)) else some (hh, p1, cc, rr) := by
  unfold fX7_tell
  simp only [jo0, i00, i012, if_true, if_false]
theorem tt_tell {x_now_places : Int32} {x_now_people : Int32} {x_now_hour : Int32} {x_now_chance : Int32} {x_now_seed : Int32} {x_now_ways : Nat → Int32} {x_now_distances : Nat → Int32} {x_now_kind : Nat → Int32} {x_now_a : Nat → Int32} {x_now_home : Nat → Int32} {x_now_aim : Nat → Int32} {x_now_at : Nat → Int32} {x_kept_places : Int32} {x_kept_people : Int32} {x_kept_hour : Int32} {x_kept_chance : Int32} {x_kept_seed : Int32} {x_kept_ways : Nat → Int32} {x_kept_distances : Nat → Int32} {x_kept_kind : Nat → Int32} {x_kept_a : Nat → Int32} {x_kept_home : Nat → Int32} {x_kept_aim : Nat → Int32} {x_kept_at : Nat → Int32} {x_isKept : Int32} {x_shelves_c : Nat → Int32} {x_shelves_z : Nat → Int32} {x_shelves_e : Nat → Nat → Int64} {x_tape_size : Int32} {x_tape_bytes : Nat → Int32} {x_refusals : Nat → Int32} {m_places : Int32} {m_people : Int32} {m_hour : Int32} {m_chance : Int32} {m_seed : Int32} {m_ways : Nat → Int32} {m_kind : Nat → Int32} {m_by : Nat → Int32} {m_home : Nat → Int32} {m_aim : Nat → Int32} {m_at0 : Nat → Int32} {m_shelf : Nat → Int32} {m_rowSort : Nat → Int32} {m_rowSize : Nat → Int32} {m_rows : Nat → Nat → Int64} {m_shown : Nat → Int32} {m_tape : Nat → Int32} {m_tapeSize : Int32} {m_refused : Nat → Int32} {m_gone : Int32} {m_kept_places : Int32} {m_kept_people : Int32} {m_kept_hour : Int32} {m_kept_chance : Int32} {m_kept_seed : Int32} {m_kept_ways : Nat → Int32} {m_kept_kind : Nat → Int32} {m_kept_by : Nat → Int32} {m_kept_home : Nat → Int32} {m_kept_aim : Nat → Int32} {m_kept_at0 : Nat → Int32} {kb : Bool} (p0 : Int32) (p1 : Int32) (R : Rel kb x_now_places x_now_people x_now_hour x_now_chance x_now_seed x_now_ways x_now_distances x_now_kind x_now_a x_now_home x_now_aim x_now_at x_kept_places x_kept_people x_kept_hour x_kept_chance x_kept_seed x_kept_ways x_kept_distances x_kept_kind x_kept_a x_kept_home x_kept_aim x_kept_at x_isKept x_shelves_c x_shelves_z x_shelves_e x_tape_size x_tape_bytes x_refusals m_places m_people m_hour m_chance m_seed m_ways m_kind m_by m_home m_aim m_at0 m_shelf m_rowSort m_rowSize m_rows m_shown m_tape m_tapeSize m_refused m_gone m_kept_places m_kept_people m_kept_hour m_kept_chance m_kept_seed m_kept_ways m_kept_kind m_kept_by m_kept_home m_kept_aim m_kept_at0) : ∃ (r : Int32) (y_now_hour : Int32) (y_now_chance : Int32) (y_refusals : Nat → Int32) (z_hour : Int32) (z_chance : Int32) (z_refused : Nat → Int32), fX7_tell x_now_hour x_now_chance x_refusals p0 p1 = some (r, y_now_hour, y_now_chance, y_refusals) ∧ fX8_tell m_hour m_chance m_refused p0 p1 = some (r, z_hour, z_chance, z_refused) ∧ Rel kb x_now_places x_now_people y_now_hour y_now_chance x_now_seed x_now_ways x_now_distances x_now_kind x_now_a x_now_home x_now_aim x_now_at x_kept_places x_kept_people x_kept_hour x_kept_chance x_kept_seed x_kept_ways x_kept_distances x_kept_kind x_kept_a x_kept_home x_kept_aim x_kept_at x_isKept x_shelves_c x_shelves_z x_shelves_e x_tape_size x_tape_bytes y_refusals m_places m_people z_hour z_chance m_seed m_ways m_kind m_by m_home m_aim m_at0 m_shelf m_rowSort m_rowSize m_rows m_shown m_tape m_tapeSize z_refused m_gone m_kept_places m_kept_people m_kept_hour m_kept_chance m_kept_seed m_kept_ways m_kept_kind m_kept_by m_kept_home m_kept_aim m_kept_at0 := by
  have R0 := R
  obtain ⟨P, n, h, c, s, W, K, A, H, M, L, T, ⟨rfl, rfl, rfl, rfl, rfl, rfl, xd, xk, xa, xh, xm, xl⟩, ⟨rfl, rfl, rfl, rfl, rfl, rfl, mk, ma, mh, mm, ml⟩, rfl, S, U, V, Z⟩ := R
  obtain ⟨hP2, hP, hn, hW, hK, hH, hM, hL, hho⟩ := id T
  obtain ⟨x2, m2, e1, e2, q⟩ := rf2 V
  rcases cIn 0 1 0 1 (by decide) (by decide) (by omega) (by omega) p0 with ⟨t, -, ht, rfl, a2⟩ | ⟨a1, a2⟩
  · rcases (show t = 0 ∨ t = 1 by omega) with rfl | rfl
    · rw [show nI 0 = (0 : Int32) from rfl, mtell0, xtell0]
      rcases c9999 p1 with ⟨v, -, hv, rfl, b2⟩ | ⟨b1, b2⟩
      · simp only [b2, bo1, bo2, bo3, bo4, bo5, bo6, bo7, bo12, jo0, jo1, vlet, i10, i00, if_true, if_false, ite_self, i012, if_neg (nI_pos (n := v) (by omega)), e9999, nlt (a := 9999) (b := v) (by omega) (by omega), show ¬ 9999 < v from by omega]
        exact ⟨_, _, _, _, _, _, _, rfl, rfl, ⟨P, n, v, _, _, W, K, A, H, M, L, ⟨hP2, hP, hn, hW, hK, hH, hM, hL, hv⟩, ⟨rfl, rfl, rfl, rfl, rfl, rfl, xd, xk, xa, xh, xm, xl⟩, ⟨rfl, rfl, rfl, rfl, rfl, rfl, mk, ma, mh, mm, ml⟩, rfl, S, U, V, Z⟩⟩
      · rcases b1 with b1 | b1
        · simp only [b2, e1, e2, bo1, bo2, bo3, bo4, bo5, bo6, bo7, bo12, jo0, jo1, vlet, i10, i00, if_true, if_false, ite_self, i012, if_pos (show p1 < 0 from b1)]
          exact ⟨_, _, _, _, _, _, _, rfl, rfl, R0.rf q⟩
        · simp only [b2, e1, e2, bo1, bo2, bo3, bo4, bo5, bo6, bo7, bo12, jo0, jo1, vlet, i10, i00, if_true, if_false, ite_self, i012, if_pos (g9999 b1)]
          exact ⟨_, _, _, _, _, _, _, rfl, rfl, R0.rf q⟩
    · rw [show nI 1 = (1 : Int32) from rfl, mtell1, xtell1 _ _ _ _ _ (show ¬ (1 : Int32) = 0 by decide) (show (1 : Int32) = (1 : Int32) from rfl)]
      rcases cIn 0 12 0 12 (by decide) (by decide) (by omega) (by omega) p1 with ⟨v, -, hv, rfl, b2⟩ | ⟨b1, b2⟩
      · simp only [b2, bo1, bo2, bo3, bo4, bo5, bo6, bo7, bo12, jo0, jo1, vlet, i10, i00, if_true, if_false, ite_self, i112, if_neg (nI_pos (n := v) (by omega)), show (12 : Int32) = nI 12 from rfl, nlt (a := 12) (b := v) (by omega) (by omega), show ¬ 12 < v from by omega]
        exact ⟨_, _, _, _, _, _, _, rfl, rfl, ⟨P, n, h, _, _, W, K, A, H, M, L, T, ⟨rfl, rfl, rfl, rfl, rfl, rfl, xd, xk, xa, xh, xm, xl⟩, ⟨rfl, rfl, rfl, rfl, rfl, rfl, mk, ma, mh, mm, ml⟩, rfl, S, U, V, Z⟩⟩
      · rcases b1 with b1 | b1
        · simp only [b2, e1, e2, bo1, bo2, bo3, bo4, bo5, bo6, bo7, bo12, jo0, jo1, vlet, i10, i00, if_true, if_false, ite_self, i112, if_pos (show p1 < 0 from b1)]
          exact ⟨_, _, _, _, _, _, _, rfl, rfl, R0.rf q⟩
        · simp only [b2, e1, e2, bo1, bo2, bo3, bo4, bo5, bo6, bo7, bo12, jo0, jo1, vlet, i10, i00, if_true, if_false, ite_self, i112, if_pos (show (12 : Int32) < p1 from b1)]
          exact ⟨_, _, _, _, _, _, _, rfl, rfl, R0.rf q⟩
  · have n0 : ¬ p0 = 0 := by
      rintro rfl
      rcases a1 with a | a
      · exact absurd a (by decide)
      · exact absurd a (by decide)
    have n1 : ¬ p0 = 1 := by
      rintro rfl
      rcases a1 with a | a
      · exact absurd a (by decide)
      · exact absurd a (by decide)
    unfold fX7_tell fX8_tell
    simp only [a2, e1, e2, bo1, bo2, bo3, bo4, bo5, bo6, bo7, bo12, jo0, jo1, vlet, i10, i00, if_true, if_false, ite_self, n0, n1]
    exact ⟨_, _, _, _, _, _, _, rfl, rfl, R0.rf q⟩
