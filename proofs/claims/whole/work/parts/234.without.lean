/-! ===== without one ===== -/
def shf (q : Nat) (K : Nat → Nat) : Nat → Nat := fun p => if p < q then K p else K (p + 1)
theorem dkm_shf {q n : Nat} (hq : q ≤ n) (D : Nat → Bool) (L : Nat → Nat) : dkm (fun p => if p < q then D p else D (p + 1)) (shf q L) n = dkm (fun p => !(p == q) && D p) L (n + 1) := by
  apply Nat.eq_of_testBit_eq
  intro x
  apply bool_ext
  rw [dkm_bit, dkm_bit]
  constructor
  · rintro ⟨p, h1, h2, h3⟩
    unfold shf at h3
    by_cases e : p < q
    · rw [if_pos e] at h2 h3
      exact ⟨p, by omega, by simp [h2]; omega, h3⟩
    · rw [if_neg e] at h2 h3
      exact ⟨p + 1, by omega, by simp [h2]; omega, h3⟩
  · rintro ⟨p, h1, h2, h3⟩
    simp only [Bool.and_eq_true, Bool.not_eq_true', beq_eq_false_iff_ne] at h2
    by_cases e : p < q
    · exact ⟨p, by omega, by rw [if_pos e]; exact h2.2, by unfold shf; rw [if_pos e]; exact h3⟩
    · refine ⟨p - 1, by omega, ?_, ?_⟩
      · rw [if_neg (by omega), show p - 1 + 1 = p by omega]; exact h2.2
      · unfold shf; rw [if_neg (by omega), show p - 1 + 1 = p by omega]; exact h3
theorem shf_dk (q : Nat) (K : Nat → Nat) : (fun p => dk (shf q K p)) = (fun p => if p < q then dk (K p) else dk (K (p + 1))) := by
  funext p
  unfold shf
  by_cases e : p < q
  · rw [if_pos e, if_pos e]
  · rw [if_neg e, if_neg e]
theorem lc_shf {q n : Nat} (hq : q ≤ n) (W : Nat → Nat) (P : Nat) (K H M L : Nat → Nat) (h t : Nat) : lc W P n (shf q K) (shf q H) (shf q M) (fun p => dk (shf q K p)) h (shf q L) t = shf q (lc W P (n + 1) K H M (fun p => !(p == q) && dk (K p)) h L t) := by
  induction t with
  | zero => rfl
  | succ t ih =>
    show nxt W P n (shf q K) (shf q H) (shf q M) (fun p => dk (shf q K p)) (hc h t) (lc W P n (shf q K) (shf q H) (shf q M) (fun p => dk (shf q K p)) h (shf q L) t) = shf q (nxt W P (n + 1) K H M (fun p => !(p == q) && dk (K p)) (hc h t) (lc W P (n + 1) K H M (fun p => !(p == q) && dk (K p)) h L t))
    rw [ih]
    generalize lc W P (n + 1) K H M (fun p => !(p == q) && dk (K p)) h L t = Lc
    funext p
    unfold nxt
    rw [shf_dk, dkm_shf hq (fun p => dk (K p)) Lc]
    unfold shf
    by_cases e : p < q
    · simp only [e, if_true]
    · simp only [e, if_false]
theorem dkm_shf2 {q n : Nat} (hq : q ≤ n) (K L : Nat → Nat) : dkm (fun p => dk (shf q K p)) (shf q L) n = dkm (fun p => !(p == q) && dk (K p)) L (n + 1) := by
  rw [shf_dk]
  exact dkm_shf hq (fun p => dk (K p)) L
theorem shf_lt {q n B : Nat} {K : Nat → Nat} (h : ∀ p, p < n + 1 → K p < B) : ∀ p, p < n → shf q K p < B := by
  intro p hp
  unfold shf
  by_cases e : p < q
  · rw [if_pos e]; exact h p (by omega)
  · rw [if_neg e]; exact h (p + 1) (by omega)
theorem tok.rem {P n h q : Nat} {W K H M L : Nat → Nat} (T : tok P (n + 1) W K H M L h) : tok P n W (shf q K) (shf q H) (shf q M) (shf q L) h := by
  obtain ⟨hP2, hP, hn, hW, hK, hH, hM, hL, hho⟩ := T
  exact ⟨hP2, hP, by omega, hW, shf_lt hK, shf_lt hH, shf_lt hM, shf_lt hL, hho⟩
/-- an array behind j steps of the taking away -/
def sfi (q j : Nat) (f : Nat → Int32) : Nat → Int32 := fun p => if q ≤ p ∧ p < q + j then f (p + 1) else f p
theorem sfi_0 (q : Nat) (f : Nat → Int32) : sfi q 0 f = f := by
  funext p; unfold sfi; rw [if_neg (by omega)]
theorem sfi_s (q j : Nat) (f : Nat → Int32) : upd (sfi q j f) (q + j) (sfi q j f (q + j + 1)) = sfi q (j + 1) f := by
  funext p
  by_cases e : p = q + j
  · subst e
    rw [pk_us]
    unfold sfi
    rw [if_neg (by omega), if_pos (by omega)]
  · rw [pk_un e]
    unfold sfi
    by_cases g : q ≤ p ∧ p < q + j
    · rw [if_pos g, if_pos (by omega)]
    · rw [if_neg g, if_neg (by omega)]
theorem sfi_ag {q n : Nat} {f : Nat → Int32} {K : Nat → Nat} (hq : q ≤ n) (h : ag (n + 1) f K) : ag n (sfi q (n - q) f) (shf q K) := by
  intro p hp
  unfold sfi shf
  by_cases e : p < q
  · rw [if_neg (by omega), if_pos e]; exact h p (by omega)
  · rw [if_pos (by omega), if_neg e]; exact h (p + 1) (by omega)
theorem p_removePerson {n q : Nat} {kf bf hf mf af : Nat → Int32} (hn : n + 1 ≤ 8) (hq : q ≤ n) : fX5_removePerson (nI (n + 1)) kf bf hf mf af (nI q) = some (nI n, sfi q (n - q) kf, sfi q (n - q) bf, sfi q (n - q) hf, sfi q (n - q) mf, sfi q (n - q) af) := by
  unfold fX5_removePerson
  refine lq6 (fun j => nI (q + j)) (fun j => sfi q j kf) (fun j => sfi q j bf) (fun j => sfi q j hf) (fun j => sfi q j mf) (fun j => sfi q j af) (n - q) rfl (sfi_0 _ _).symm (sfi_0 _ _).symm (sfi_0 _ _).symm (sfi_0 _ _).symm (sfi_0 _ _).symm (fun j hj g => ?_) (fun g => ?_) 400 (by omega)
  · simp only [nI_1, nle (a := n + 1) (b := q + j + 1) (by omega) (by omega), show ¬ n + 1 ≤ q + j + 1 from by omega, bo1, bo2, bo3, bo4, bo5, bo6, bo7, bo12, jo0, jo1, vlet, i10, i00, if_true, if_false, ite_self, n1z, n0z, if_n (nin (k := (q + j + 1)) (N := 8) (by omega) (by omega)), if_n (nin2 (k := (q + j + 1)) (N := 8) (by omega) (by omega)), nc (n := (q + j + 1)) (by omega), if_n (nin (k := (q + j)) (N := 8) (by omega) (by omega)), if_n (nin2 (k := (q + j)) (N := 8) (by omega) (by omega)), nc (n := (q + j)) (by omega), sfi_s]
    rfl
  · simp only [nI_1, nle (a := n + 1) (b := q + (n - q) + 1) (by omega) (by omega), show n + 1 ≤ q + (n - q) + 1 from by omega, bo1, bo2, bo3, bo4, bo5, bo6, bo7, bo12, jo0, jo1, vlet, i10, i00, if_true, if_false, ite_self, n1z, n0z, n_sub1 (show 0 < n + 1 by omega), Nat.add_sub_cancel]
theorem tt_without {x_now_places : Int32} {x_now_people : Int32} {x_now_hour : Int32} {x_now_chance : Int32} {x_now_seed : Int32} {x_now_ways : Nat → Int32} {x_now_distances : Nat → Int32} {x_now_kind : Nat → Int32} {x_now_a : Nat → Int32} {x_now_home : Nat → Int32} {x_now_aim : Nat → Int32} {x_now_at : Nat → Int32} {x_kept_places : Int32} {x_kept_people : Int32} {x_kept_hour : Int32} {x_kept_chance : Int32} {x_kept_seed : Int32} {x_kept_ways : Nat → Int32} {x_kept_distances : Nat → Int32} {x_kept_kind : Nat → Int32} {x_kept_a : Nat → Int32} {x_kept_home : Nat → Int32} {x_kept_aim : Nat → Int32} {x_kept_at : Nat → Int32} {x_isKept : Int32} {x_shelves_c : Nat → Int32} {x_shelves_z : Nat → Int32} {x_shelves_e : Nat → Nat → Int64} {x_tape_size : Int32} {x_tape_bytes : Nat → Int32} {x_refusals : Nat → Int32} {m_places : Int32} {m_people : Int32} {m_hour : Int32} {m_chance : Int32} {m_seed : Int32} {m_ways : Nat → Int32} {m_kind : Nat → Int32} {m_by : Nat → Int32} {m_home : Nat → Int32} {m_aim : Nat → Int32} {m_at0 : Nat → Int32} {m_shelf : Nat → Int32} {m_rowSort : Nat → Int32} {m_rowSize : Nat → Int32} {m_rows : Nat → Nat → Int64} {m_shown : Nat → Int32} {m_tape : Nat → Int32} {m_tapeSize : Int32} {m_refused : Nat → Int32} {m_gone : Int32} {m_kept_places : Int32} {m_kept_people : Int32} {m_kept_hour : Int32} {m_kept_chance : Int32} {m_kept_seed : Int32} {m_kept_ways : Nat → Int32} {m_kept_kind : Nat → Int32} {m_kept_by : Nat → Int32} {m_kept_home : Nat → Int32} {m_kept_aim : Nat → Int32} {m_kept_at0 : Nat → Int32} {kb : Bool} (x_future_places : Int32) (x_future_people : Int32) (x_future_hour : Int32) (x_future_chance : Int32) (x_future_seed : Int32) (x_future_ways : Nat → Int32) (x_future_distances : Nat → Int32) (x_future_kind : Nat → Int32) (x_future_a : Nat → Int32) (x_future_home : Nat → Int32) (x_future_aim : Nat → Int32) (x_future_at : Nat → Int32) (x_choice_found : Int32) (x_choice_worth : Int32) (m_now : Int32) (m_steps : Nat → Int32) (m_spot : Nat → Int32) (m_then : Nat → Int32) (p0 : Int32) (R : Rel kb x_now_places x_now_people x_now_hour x_now_chance x_now_seed x_now_ways x_now_distances x_now_kind x_now_a x_now_home x_now_aim x_now_at x_kept_places x_kept_people x_kept_hour x_kept_chance x_kept_seed x_kept_ways x_kept_distances x_kept_kind x_kept_a x_kept_home x_kept_aim x_kept_at x_isKept x_shelves_c x_shelves_z x_shelves_e x_tape_size x_tape_bytes x_refusals m_places m_people m_hour m_chance m_seed m_ways m_kind m_by m_home m_aim m_at0 m_shelf m_rowSort m_rowSize m_rows m_shown m_tape m_tapeSize m_refused m_gone m_kept_places m_kept_people m_kept_hour m_kept_chance m_kept_seed m_kept_ways m_kept_kind m_kept_by m_kept_home m_kept_aim m_kept_at0) : ∃ (r : Int32) (y_future_places : Int32) (y_future_people : Int32) (y_future_hour : Int32) (y_future_chance : Int32) (y_future_seed : Int32) (y_future_ways : Nat → Int32) (y_future_distances : Nat → Int32) (y_future_kind : Nat → Int32) (y_future_a : Nat → Int32) (y_future_home : Nat → Int32) (y_future_aim : Nat → Int32) (y_future_at : Nat → Int32) (y_choice_found : Int32) (y_choice_worth : Int32) (y_refusals : Nat → Int32) (z_now : Int32) (z_gone : Int32) (z_refused : Nat → Int32) (z_steps : Nat → Int32) (z_spot : Nat → Int32) (z_then : Nat → Int32), fX7_without x_now_places x_now_people x_now_hour x_now_chance x_now_seed x_now_ways x_now_distances x_now_kind x_now_a x_now_home x_now_aim x_now_at x_future_places x_future_people x_future_hour x_future_chance x_future_seed x_future_ways x_future_distances x_future_kind x_future_a x_future_home x_future_aim x_future_at x_choice_found x_choice_worth x_refusals p0 = some (r, y_future_places, y_future_people, y_future_hour, y_future_chance, y_future_seed, y_future_ways, y_future_distances, y_future_kind, y_future_a, y_future_home, y_future_aim, y_future_at, y_choice_found, y_choice_worth, y_refusals) ∧ fX8_without m_places m_people m_hour m_now m_gone m_refused m_ways m_kind m_home m_aim m_at0 m_steps m_spot m_then p0 = some (r, z_now, z_gone, z_refused, z_steps, z_spot, z_then) ∧ Rel kb x_now_places x_now_people x_now_hour x_now_chance x_now_seed x_now_ways x_now_distances x_now_kind x_now_a x_now_home x_now_aim x_now_at x_kept_places x_kept_people x_kept_hour x_kept_chance x_kept_seed x_kept_ways x_kept_distances x_kept_kind x_kept_a x_kept_home x_kept_aim x_kept_at x_isKept x_shelves_c x_shelves_z x_shelves_e x_tape_size x_tape_bytes y_refusals m_places m_people m_hour m_chance m_seed m_ways m_kind m_by m_home m_aim m_at0 m_shelf m_rowSort m_rowSize m_rows m_shown m_tape m_tapeSize z_refused z_gone m_kept_places m_kept_people m_kept_hour m_kept_chance m_kept_seed m_kept_ways m_kept_kind m_kept_by m_kept_home m_kept_aim m_kept_at0 := by
  have R0 := R
  obtain ⟨P, n, h, c, s, W, K, A, H, M, L, T, ⟨rfl, rfl, rfl, rfl, rfl, rfl, xd, xk, xa, xh, xm, xl⟩, ⟨rfl, rfl, rfl, rfl, rfl, rfl, mk, ma, mh, mm, ml⟩, rfl, S, U, V, Z⟩ := R
  obtain ⟨hP2, hP, hn, hW, hK, hH, hM, hL, hho⟩ := id T
  obtain ⟨x2, m2, e1, e2, q⟩ := rf2 V
  obtain ⟨x5, m5, e5, e6, q5⟩ := rf5 V
  rcases cTime p0 with ⟨t, ht, rfl, b1, b2⟩ | ⟨b1, b2⟩
  · by_cases n0 : n = 0
    · subst n0
      unfold fX7_without fX8_without
      simp only [b1, b2, e5, e6, n1z, n0z, bo1, bo2, bo3, bo4, bo5, bo6, bo7, bo12, jo0, i10, i00, if_true, if_false, ite_self]
      exact ⟨_, _, _, _, _, _, _, _, _, _, _, _, _, _, _, _, _, _, _, _, _, _, rfl, rfl, R0.rf q5⟩
    · obtain ⟨n', rfl⟩ : ∃ n', n = n' + 1 := ⟨n - 1, by omega⟩
      have hx : (fun o => ∃ f1 f2 f3 f4 f5 f6 f7 f8 f9 f10 f11 f12 f13 f14, o = some (bsI (fun j => pc (ltm P (dkm (fun p => !(p == j) && dk (K p)) (lc W P (n' + 1) K H M (fun p => !(p == j) && dk (K p)) h L t) (n' + 1))) 12) (n' + 1), f1, f2, f3, f4, f5, f6, f7, f8, f9, f10, f11, f12, f13, f14, x_refusals)) (fX7_without (nI P) (nI (n' + 1)) (nI h) m_chance m_seed (nf W) x_now_distances x_now_kind x_now_a x_now_home x_now_aim x_now_at x_future_places x_future_people x_future_hour x_future_chance x_future_seed x_future_ways x_future_distances x_future_kind x_future_a x_future_home x_future_aim x_future_at x_choice_found x_choice_worth x_refusals (nI t)) := by
        unfold fX7_without fX0_begin
        simp only [b1, n1z, n0z, bo1, bo2, bo3, bo4, bo5, bo6, bo7, bo12, jo0, i10, i00, if_true, if_false, ite_self, p_become, neq (a := n' + 1) (b := 0) (by omega) (by omega), show (nI (n' + 1) = 0) = False from eq_false (by rw [show (0 : Int32) = nI 0 from rfl, nI_eq (by omega) (by omega)]; omega)]
        refine lph15 (Φ := fun o => ∃ f1 f2 f3 f4 f5 f6 f7 f8 f9 f10 f11 f12 f13 f14, o = some (bsI (fun j => pc (ltm P (dkm (fun p => !(p == j) && dk (K p)) (lc W P (n' + 1) K H M (fun p => !(p == j) && dk (K p)) h L t) (n' + 1))) 12) (n' + 1), f1, f2, f3, f4, f5, f6, f7, f8, f9, f10, f11, f12, f13, f14, x_refusals)) (fun i b _ _ _ _ _ _ _ _ _ _ _ _ x y => b = nI i ∧ x = bsI (fun j => pc (ltm P (dkm (fun p => !(p == j) && dk (K p)) (lc W P (n' + 1) K H M (fun p => !(p == j) && dk (K p)) h L t) (n' + 1))) 12) i ∧ y = bwI (fun j => pc (ltm P (dkm (fun p => !(p == j) && dk (K p)) (lc W P (n' + 1) K H M (fun p => !(p == j) && dk (K p)) h L t) (n' + 1))) 12) i) (n' + 1) ⟨rfl, rfl, rfl⟩ (fun i hi b f1 f2 f3 f4 f5 f6 f7 f8 f9 f10 f11 f12 x y z => ?_) (fun b f1 f2 f3 f4 f5 f6 f7 f8 f9 f10 f11 f12 x y z g => ?_) 400 (by omega)
        · obtain ⟨rfl, rfl, rfl⟩ := z
          have T' := T.rem (q := i)
          have r1 := p_removePerson (kf := x_now_kind) (bf := x_now_a) (hf := x_now_home) (mf := x_now_aim) (af := x_now_at) hn (show i ≤ n' by omega)
          have k1 := sfi_ag (q := i) (by omega) xk
          obtain ⟨af, u1, u2⟩ := p_passHours T' xd k1 (sfi_ag (q := i) (by omega) xh) (sfi_ag (q := i) (by omega) xm) (sfi_ag (q := i) (by omega) xl) ht
          have Ti := T'.at (fun p => dk (shf i K p)) t
          have sc := p_shiningCount hP (show n' ≤ 8 by omega) k1 u2 (shf_lt hK) Ti.lt
          rw [lc_shf (by omega), dkm_shf2 (by omega)] at sc
          refine ⟨_, nI P, nI n', nI (hc h t), m_chance, m_seed, nf W, x_now_distances, sfi i (n' - i) x_now_kind, sfi i (n' - i) x_now_a, sfi i (n' - i) x_now_home, sfi i (n' - i) x_now_aim, af, _, _, ⟨rfl, rfl, rfl⟩, fun g => ?_⟩
          simp only [nle (a := n' + 1) (b := i) (by omega) (by omega), show ¬ n' + 1 ≤ i from by omega, bo1, bo2, bo3, bo4, bo5, bo6, bo7, bo12, jo0, jo1, vlet, i10, i00, if_true, if_false, ite_self, n1z, n0z, r1, u1, sc, p_offer, bsI_s, bwI_s, nI_1]
        · obtain ⟨rfl, rfl, rfl⟩ := z
          exact ⟨_, _, _, _, _, _, _, _, _, _, _, _, _, _, if_pos (Int32.le_refl _)⟩
      have hm : (fun o => ∃ (nw : Int32) (st sp tt : Nat → Int32), o = some (bsI (fun j => pc (ltm P (dkm (fun p => !(p == j) && dk (K p)) (lc W P (n' + 1) K H M (fun p => !(p == j) && dk (K p)) h L t) (n' + 1))) 12) (n' + 1), nw, (-1 : Int32), m_refused, st, sp, tt)) (fX8_without (nI P) (nI (n' + 1)) (nI h) m_now (-1) m_refused (nf W) m_kind m_home m_aim m_at0 m_steps m_spot m_then (nI t)) := by
        unfold fX8_without
        simp only [jo1_ite]
        simp only [b2, n1z, n0z, bo1, bo2, bo3, bo4, bo5, bo6, bo7, bo12, jo0, i10, i00, if_true, if_false, ite_self, show (nI (n' + 1) = 0) = False from eq_false (by rw [show (0 : Int32) = nI 0 from rfl, nI_eq (by omega) (by omega)]; omega)]
        refine lph8 (Φ := fun o => ∃ (nw : Int32) (st sp tt : Nat → Int32), o = some (bsI (fun j => pc (ltm P (dkm (fun p => !(p == j) && dk (K p)) (lc W P (n' + 1) K H M (fun p => !(p == j) && dk (K p)) h L t) (n' + 1))) 12) (n' + 1), nw, (-1 : Int32), m_refused, st, sp, tt)) (fun i x y b _ _ _ _ _ => b = nI i ∧ x = bsI (fun j => pc (ltm P (dkm (fun p => !(p == j) && dk (K p)) (lc W P (n' + 1) K H M (fun p => !(p == j) && dk (K p)) h L t) (n' + 1))) 12) i ∧ y = bwI (fun j => pc (ltm P (dkm (fun p => !(p == j) && dk (K p)) (lc W P (n' + 1) K H M (fun p => !(p == j) && dk (K p)) h L t) (n' + 1))) 12) i) (n' + 1) ⟨rfl, rfl, rfl⟩ (fun i hi x y b u gg s v t1 z => ?_) (fun x y b u gg s v t1 z g => ?_) 400 (by omega)
        · obtain ⟨rfl, rfl, rfl⟩ := z
          have hg := gn_one (show i < 8 by omega)
          obtain ⟨st, sp, tt, u1, u2⟩ := p_goesOn (s0 := s) (p0 := v) (t0 := t1) T hg mk mh mm ml ht
          have Ti := T.at (fun p => !(p == i) && dk (K p)) t
          have lm := p_mlight hP hn hg mk u2 hK Ti.lt
          refine ⟨_, _, _, nI (hc h t), nI i, st, sp, tt, ⟨rfl, rfl, rfl⟩, fun g => ?_⟩
          simp only [nle (a := n' + 1) (b := i) (by omega) (by omega), show ¬ n' + 1 ≤ i from by omega, bo1, bo2, bo3, bo4, bo5, bo6, bo7, bo12, jo0, jo1, vlet, i10, i00, if_true, if_false, ite_self, n1z, n0z, u1, lm, p_bits _ (lt_lt hP), bsI_s, bwI_s, nI_1]
        · obtain ⟨rfl, rfl, rfl⟩ := z
          exact ⟨_, _, _, _, if_pos (Int32.le_refl _)⟩
      obtain ⟨f1, f2, f3, f4, f5, f6, f7, f8, f9, f10, f11, f12, f13, f14, hx⟩ := hx
      obtain ⟨z1, z2, z3, z4, hm⟩ := hm
      rw [hx, hm]
      exact ⟨_, _, _, _, _, _, _, _, _, _, _, _, _, _, _, _, _, _, _, _, _, _, rfl, rfl, R0⟩
  · unfold fX7_without fX8_without
    simp only [b1, b2, e1, e2, n1z, n0z, bo1, bo2, bo3, bo4, bo5, bo6, bo7, bo12, jo0, i10, i00, if_true, if_false, ite_self]
    exact ⟨_, _, _, _, _, _, _, _, _, _, _, _, _, _, _, _, _, _, _, _, _, _, rfl, rfl, R0.rf q⟩
