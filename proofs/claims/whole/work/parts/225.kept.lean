/-! ===== image and back ===== -/
def cpd (N : Nat) (f d : Nat → Int32) : Nat → Int32 := fun i => if i < N then f i else d i
theorem p_copied (f d : Nat → Int32) (N : Nat) (hN : N ≤ 12) : fX8_copied f d N N = some (cpd N f d) := by
  unfold fX8_copied
  refine lq2 (fun i => nI i) (fun i => cpd i f d) N rfl (by funext i; unfold cpd; rw [if_neg (by omega)]) (fun i hi g => ?_) (fun g => ?_) 400 (by omega)
  · rw [show Int32.ofNat N = nI N from rfl]
    simp only [nle (a := N) (b := i) (by omega) (by omega), show ¬ N ≤ i from by omega, bo1, bo2, bo3, bo4, bo5, bo6, bo7, bo12, jo0, jo1, vlet, i10, i00, if_true, if_false, ite_self, if_n (nin (k := i) (N := N) hi (by omega)), if_n (nin2 (k := i) (N := N) hi (by omega)), nc (n := i) (by omega), nI_1, if_n (show ¬ (nI i < 0 ∨ False) from by rintro (q | q); exact nI_pos (by omega) q; exact q)]
    congr 1
    funext j
    unfold cpd
    by_cases e : j = i
    · subst e; rw [pk_us, if_pos (by omega)]
    · rw [pk_un e]
      by_cases g2 : j < i
      · rw [if_pos g2, if_pos (by omega)]
      · rw [if_neg g2, if_neg (by omega)]
  · rw [show Int32.ofNat N = nI N from rfl, if_pos (Int32.le_refl _)]
theorem cpd_w {P : Nat} {W : Nat → Nat} {d : Nat → Int32} (hW : wok P W) (hP : P ≤ 12) (hd : ∀ i, 12 ≤ i → d i = 0) : cpd 12 (nf W) d = nf W := by
  funext i
  unfold cpd
  by_cases e : i < 12
  · rw [if_pos e]
  · rw [if_neg e, hd i (by omega), nf_ap, hW.zero (by omega)]; rfl
theorem nf_hi {P : Nat} {W : Nat → Nat} (hW : wok P W) (hP : P ≤ 12) : ∀ i, 12 ≤ i → nf W i = 0 := by
  intro i hi
  rw [nf_ap, hW.zero (by omega)]; rfl
theorem cpd_ag {n : Nat} {f d : Nat → Int32} {K : Nat → Nat} (hn : n ≤ 8) (h : ag n f K) : ag n (cpd 8 f d) K := by
  intro p hp
  unfold cpd
  rw [if_pos (by omega)]; exact h p hp
theorem p_takeFrom {P : Nat} {W : Nat → Nat} {w k b h m a : Nat → Int32} {p1 p2 p3 p4 p5 : Int32} {sk sb sh sm sa : Nat → Int32} (hW : wok P W) (hP : P ≤ 12) (hw : ∀ i, 12 ≤ i → w i = 0) : fX8_takeFrom w k b h m a p1 p2 p3 p4 p5 (nf W) sk sb sh sm sa = some (p1, p2, p3, p4, p5, nf W, cpd 8 sk k, cpd 8 sb b, cpd 8 sh h, cpd 8 sm m, cpd 8 sa a) := by
  unfold fX8_takeFrom
  simp only [p_copied _ _ 12 (by omega), p_copied _ _ 8 (by omega), bo1, cpd_w hW hP hw]
theorem tt_imageN {x_now_places : Int32} {x_now_people : Int32} {x_now_hour : Int32} {x_now_chance : Int32} {x_now_seed : Int32} {x_now_ways : Nat → Int32} {x_now_distances : Nat → Int32} {x_now_kind : Nat → Int32} {x_now_a : Nat → Int32} {x_now_home : Nat → Int32} {x_now_aim : Nat → Int32} {x_now_at : Nat → Int32} {x_kept_places : Int32} {x_kept_people : Int32} {x_kept_hour : Int32} {x_kept_chance : Int32} {x_kept_seed : Int32} {x_kept_ways : Nat → Int32} {x_kept_distances : Nat → Int32} {x_kept_kind : Nat → Int32} {x_kept_a : Nat → Int32} {x_kept_home : Nat → Int32} {x_kept_aim : Nat → Int32} {x_kept_at : Nat → Int32} {x_isKept : Int32} {x_shelves_c : Nat → Int32} {x_shelves_z : Nat → Int32} {x_shelves_e : Nat → Nat → Int64} {x_tape_size : Int32} {x_tape_bytes : Nat → Int32} {x_refusals : Nat → Int32} {m_places : Int32} {m_people : Int32} {m_hour : Int32} {m_chance : Int32} {m_seed : Int32} {m_ways : Nat → Int32} {m_kind : Nat → Int32} {m_by : Nat → Int32} {m_home : Nat → Int32} {m_aim : Nat → Int32} {m_at0 : Nat → Int32} {m_shelf : Nat → Int32} {m_rowSort : Nat → Int32} {m_rowSize : Nat → Int32} {m_rows : Nat → Nat → Int64} {m_shown : Nat → Int32} {m_tape : Nat → Int32} {m_tapeSize : Int32} {m_refused : Nat → Int32} {m_gone : Int32} {m_kept_places : Int32} {m_kept_people : Int32} {m_kept_hour : Int32} {m_kept_chance : Int32} {m_kept_seed : Int32} {m_kept_ways : Nat → Int32} {m_kept_kind : Nat → Int32} {m_kept_by : Nat → Int32} {m_kept_home : Nat → Int32} {m_kept_aim : Nat → Int32} {m_kept_at0 : Nat → Int32} (R : Rel false x_now_places x_now_people x_now_hour x_now_chance x_now_seed x_now_ways x_now_distances x_now_kind x_now_a x_now_home x_now_aim x_now_at x_kept_places x_kept_people x_kept_hour x_kept_chance x_kept_seed x_kept_ways x_kept_distances x_kept_kind x_kept_a x_kept_home x_kept_aim x_kept_at x_isKept x_shelves_c x_shelves_z x_shelves_e x_tape_size x_tape_bytes x_refusals m_places m_people m_hour m_chance m_seed m_ways m_kind m_by m_home m_aim m_at0 m_shelf m_rowSort m_rowSize m_rows m_shown m_tape m_tapeSize m_refused m_gone m_kept_places m_kept_people m_kept_hour m_kept_chance m_kept_seed m_kept_ways m_kept_kind m_kept_by m_kept_home m_kept_aim m_kept_at0) : ∃ (r : Int32) (y_isKept : Int32) (y_kept_places : Int32) (y_kept_people : Int32) (y_kept_hour : Int32) (y_kept_chance : Int32) (y_kept_seed : Int32) (y_kept_ways : Nat → Int32) (y_kept_distances : Nat → Int32) (y_kept_kind : Nat → Int32) (y_kept_a : Nat → Int32) (y_kept_home : Nat → Int32) (y_kept_aim : Nat → Int32) (y_kept_at : Nat → Int32) (z_kept_places : Int32) (z_kept_people : Int32) (z_kept_hour : Int32) (z_kept_chance : Int32) (z_kept_seed : Int32) (z_kept_ways : Nat → Int32) (z_kept_kind : Nat → Int32) (z_kept_by : Nat → Int32) (z_kept_home : Nat → Int32) (z_kept_aim : Nat → Int32) (z_kept_at0 : Nat → Int32), fX7_image x_now_places x_now_people x_now_hour x_now_chance x_now_seed x_now_ways x_now_distances x_now_kind x_now_a x_now_home x_now_aim x_now_at = some (r, y_isKept, y_kept_places, y_kept_people, y_kept_hour, y_kept_chance, y_kept_seed, y_kept_ways, y_kept_distances, y_kept_kind, y_kept_a, y_kept_home, y_kept_aim, y_kept_at) ∧ fX8_imageN m_places m_people m_hour m_chance m_seed m_ways m_kind m_by m_home m_aim m_at0 = some (r, z_kept_places, z_kept_people, z_kept_hour, z_kept_chance, z_kept_seed, z_kept_ways, z_kept_kind, z_kept_by, z_kept_home, z_kept_aim, z_kept_at0) ∧ Rel true x_now_places x_now_people x_now_hour x_now_chance x_now_seed x_now_ways x_now_distances x_now_kind x_now_a x_now_home x_now_aim x_now_at y_kept_places y_kept_people y_kept_hour y_kept_chance y_kept_seed y_kept_ways y_kept_distances y_kept_kind y_kept_a y_kept_home y_kept_aim y_kept_at y_isKept x_shelves_c x_shelves_z x_shelves_e x_tape_size x_tape_bytes x_refusals m_places m_people m_hour m_chance m_seed m_ways m_kind m_by m_home m_aim m_at0 m_shelf m_rowSort m_rowSize m_rows m_shown m_tape m_tapeSize m_refused m_gone z_kept_places z_kept_people z_kept_hour z_kept_chance z_kept_seed z_kept_ways z_kept_kind z_kept_by z_kept_home z_kept_aim z_kept_at0 := by
  have R0 := R
  obtain ⟨P, n, h, c, s, W, K, A, H, M, L, T, ⟨rfl, rfl, rfl, rfl, rfl, rfl, xd, xk, xa, xh, xm, xl⟩, ⟨rfl, rfl, rfl, rfl, rfl, rfl, mk, ma, mh, mm, ml⟩, rfl, S, U, V, Z⟩ := R
  obtain ⟨hP2, hP, hn, hW, hK, hH, hM, hL, hho⟩ := id T
  unfold fX7_image fX8_imageN fX5_become
  rw [p_takeFrom hW hP (fun _ _ => rfl)]
  simp only [bo1, bo2, bo3, bo4, bo5, bo6, bo7, bo12, jo0, jo1, vlet, i10, i00, if_true, if_false, ite_self, bo11]
  exact ⟨_, _, _, _, _, _, _, _, _, _, _, _, _, _, _, _, _, _, _, _, _, _, _, _, _, rfl, rfl, ⟨P, n, h, _, _, W, K, A, H, M, L, T, ⟨rfl, rfl, rfl, rfl, rfl, rfl, xd, xk, xa, xh, xm, xl⟩, ⟨rfl, rfl, rfl, rfl, rfl, rfl, mk, ma, mh, mm, ml⟩, rfl, S, U, V, Or.inl ⟨rfl, rfl, P, n, h, _, _, W, K, A, H, M, L, T, ⟨rfl, rfl, rfl, rfl, rfl, rfl, xd, xk, xa, xh, xm, xl⟩, ⟨rfl, rfl, rfl, rfl, rfl, rfl, cpd_ag hn mk, cpd_ag hn ma, cpd_ag hn mh, cpd_ag hn mm, cpd_ag hn ml⟩⟩⟩⟩
theorem tt_imageR {x_now_places : Int32} {x_now_people : Int32} {x_now_hour : Int32} {x_now_chance : Int32} {x_now_seed : Int32} {x_now_ways : Nat → Int32} {x_now_distances : Nat → Int32} {x_now_kind : Nat → Int32} {x_now_a : Nat → Int32} {x_now_home : Nat → Int32} {x_now_aim : Nat → Int32} {x_now_at : Nat → Int32} {x_kept_places : Int32} {x_kept_people : Int32} {x_kept_hour : Int32} {x_kept_chance : Int32} {x_kept_seed : Int32} {x_kept_ways : Nat → Int32} {x_kept_distances : Nat → Int32} {x_kept_kind : Nat → Int32} {x_kept_a : Nat → Int32} {x_kept_home : Nat → Int32} {x_kept_aim : Nat → Int32} {x_kept_at : Nat → Int32} {x_isKept : Int32} {x_shelves_c : Nat → Int32} {x_shelves_z : Nat → Int32} {x_shelves_e : Nat → Nat → Int64} {x_tape_size : Int32} {x_tape_bytes : Nat → Int32} {x_refusals : Nat → Int32} {m_places : Int32} {m_people : Int32} {m_hour : Int32} {m_chance : Int32} {m_seed : Int32} {m_ways : Nat → Int32} {m_kind : Nat → Int32} {m_by : Nat → Int32} {m_home : Nat → Int32} {m_aim : Nat → Int32} {m_at0 : Nat → Int32} {m_shelf : Nat → Int32} {m_rowSort : Nat → Int32} {m_rowSize : Nat → Int32} {m_rows : Nat → Nat → Int64} {m_shown : Nat → Int32} {m_tape : Nat → Int32} {m_tapeSize : Int32} {m_refused : Nat → Int32} {m_gone : Int32} {m_kept_places : Int32} {m_kept_people : Int32} {m_kept_hour : Int32} {m_kept_chance : Int32} {m_kept_seed : Int32} {m_kept_ways : Nat → Int32} {m_kept_kind : Nat → Int32} {m_kept_by : Nat → Int32} {m_kept_home : Nat → Int32} {m_kept_aim : Nat → Int32} {m_kept_at0 : Nat → Int32} (R : Rel true x_now_places x_now_people x_now_hour x_now_chance x_now_seed x_now_ways x_now_distances x_now_kind x_now_a x_now_home x_now_aim x_now_at x_kept_places x_kept_people x_kept_hour x_kept_chance x_kept_seed x_kept_ways x_kept_distances x_kept_kind x_kept_a x_kept_home x_kept_aim x_kept_at x_isKept x_shelves_c x_shelves_z x_shelves_e x_tape_size x_tape_bytes x_refusals m_places m_people m_hour m_chance m_seed m_ways m_kind m_by m_home m_aim m_at0 m_shelf m_rowSort m_rowSize m_rows m_shown m_tape m_tapeSize m_refused m_gone m_kept_places m_kept_people m_kept_hour m_kept_chance m_kept_seed m_kept_ways m_kept_kind m_kept_by m_kept_home m_kept_aim m_kept_at0) : ∃ (r : Int32) (y_isKept : Int32) (y_kept_places : Int32) (y_kept_people : Int32) (y_kept_hour : Int32) (y_kept_chance : Int32) (y_kept_seed : Int32) (y_kept_ways : Nat → Int32) (y_kept_distances : Nat → Int32) (y_kept_kind : Nat → Int32) (y_kept_a : Nat → Int32) (y_kept_home : Nat → Int32) (y_kept_aim : Nat → Int32) (y_kept_at : Nat → Int32) (z_kept_places : Int32) (z_kept_people : Int32) (z_kept_hour : Int32) (z_kept_chance : Int32) (z_kept_seed : Int32) (z_kept_ways : Nat → Int32) (z_kept_kind : Nat → Int32) (z_kept_by : Nat → Int32) (z_kept_home : Nat → Int32) (z_kept_aim : Nat → Int32) (z_kept_at0 : Nat → Int32), fX7_image x_now_places x_now_people x_now_hour x_now_chance x_now_seed x_now_ways x_now_distances x_now_kind x_now_a x_now_home x_now_aim x_now_at = some (r, y_isKept, y_kept_places, y_kept_people, y_kept_hour, y_kept_chance, y_kept_seed, y_kept_ways, y_kept_distances, y_kept_kind, y_kept_a, y_kept_home, y_kept_aim, y_kept_at) ∧ fX8_imageR m_places m_people m_hour m_chance m_seed m_ways m_kind m_by m_home m_aim m_at0 m_kept_ways m_kept_kind m_kept_by m_kept_home m_kept_aim m_kept_at0 = some (r, z_kept_places, z_kept_people, z_kept_hour, z_kept_chance, z_kept_seed, z_kept_ways, z_kept_kind, z_kept_by, z_kept_home, z_kept_aim, z_kept_at0) ∧ Rel true x_now_places x_now_people x_now_hour x_now_chance x_now_seed x_now_ways x_now_distances x_now_kind x_now_a x_now_home x_now_aim x_now_at y_kept_places y_kept_people y_kept_hour y_kept_chance y_kept_seed y_kept_ways y_kept_distances y_kept_kind y_kept_a y_kept_home y_kept_aim y_kept_at y_isKept x_shelves_c x_shelves_z x_shelves_e x_tape_size x_tape_bytes x_refusals m_places m_people m_hour m_chance m_seed m_ways m_kind m_by m_home m_aim m_at0 m_shelf m_rowSort m_rowSize m_rows m_shown m_tape m_tapeSize m_refused m_gone z_kept_places z_kept_people z_kept_hour z_kept_chance z_kept_seed z_kept_ways z_kept_kind z_kept_by z_kept_home z_kept_aim z_kept_at0 := by
  have R0 := R
  obtain ⟨P, n, h, c, s, W, K, A, H, M, L, T, ⟨rfl, rfl, rfl, rfl, rfl, rfl, xd, xk, xa, xh, xm, xl⟩, ⟨rfl, rfl, rfl, rfl, rfl, rfl, mk, ma, mh, mm, ml⟩, rfl, S, U, V, Z⟩ := R
  obtain ⟨hP2, hP, hn, hW, hK, hH, hM, hL, hho⟩ := id T
  rcases Z with ⟨-, rfl, P', n', h', c', s', W', K', A', H', M', L', T', ⟨rfl, rfl, rfl, rfl, rfl, rfl, xd', xk', xa', xh', xm', xl'⟩, ⟨rfl, rfl, rfl, rfl, rfl, rfl, mk', ma', mh', mm', ml'⟩⟩ | ⟨z, -⟩
  · unfold fX7_image fX8_imageR fX5_become
    rw [p_takeFrom hW hP (nf_hi T'.2.2.2.1 T'.2.1)]
    simp only [bo1, bo2, bo3, bo4, bo5, bo6, bo7, bo12, jo0, jo1, vlet, i10, i00, if_true, if_false, ite_self, bo11]
    exact ⟨_, _, _, _, _, _, _, _, _, _, _, _, _, _, _, _, _, _, _, _, _, _, _, _, _, rfl, rfl, ⟨P, n, h, _, _, W, K, A, H, M, L, T, ⟨rfl, rfl, rfl, rfl, rfl, rfl, xd, xk, xa, xh, xm, xl⟩, ⟨rfl, rfl, rfl, rfl, rfl, rfl, mk, ma, mh, mm, ml⟩, rfl, S, U, V, Or.inl ⟨rfl, rfl, P, n, h, _, _, W, K, A, H, M, L, T, ⟨rfl, rfl, rfl, rfl, rfl, rfl, xd, xk, xa, xh, xm, xl⟩, ⟨rfl, rfl, rfl, rfl, rfl, rfl, cpd_ag hn mk, cpd_ag hn ma, cpd_ag hn mh, cpd_ag hn mm, cpd_ag hn ml⟩⟩⟩⟩
  · cases z
theorem tt_backN {x_now_places : Int32} {x_now_people : Int32} {x_now_hour : Int32} {x_now_chance : Int32} {x_now_seed : Int32} {x_now_ways : Nat → Int32} {x_now_distances : Nat → Int32} {x_now_kind : Nat → Int32} {x_now_a : Nat → Int32} {x_now_home : Nat → Int32} {x_now_aim : Nat → Int32} {x_now_at : Nat → Int32} {x_kept_places : Int32} {x_kept_people : Int32} {x_kept_hour : Int32} {x_kept_chance : Int32} {x_kept_seed : Int32} {x_kept_ways : Nat → Int32} {x_kept_distances : Nat → Int32} {x_kept_kind : Nat → Int32} {x_kept_a : Nat → Int32} {x_kept_home : Nat → Int32} {x_kept_aim : Nat → Int32} {x_kept_at : Nat → Int32} {x_isKept : Int32} {x_shelves_c : Nat → Int32} {x_shelves_z : Nat → Int32} {x_shelves_e : Nat → Nat → Int64} {x_tape_size : Int32} {x_tape_bytes : Nat → Int32} {x_refusals : Nat → Int32} {m_places : Int32} {m_people : Int32} {m_hour : Int32} {m_chance : Int32} {m_seed : Int32} {m_ways : Nat → Int32} {m_kind : Nat → Int32} {m_by : Nat → Int32} {m_home : Nat → Int32} {m_aim : Nat → Int32} {m_at0 : Nat → Int32} {m_shelf : Nat → Int32} {m_rowSort : Nat → Int32} {m_rowSize : Nat → Int32} {m_rows : Nat → Nat → Int64} {m_shown : Nat → Int32} {m_tape : Nat → Int32} {m_tapeSize : Int32} {m_refused : Nat → Int32} {m_gone : Int32} {m_kept_places : Int32} {m_kept_people : Int32} {m_kept_hour : Int32} {m_kept_chance : Int32} {m_kept_seed : Int32} {m_kept_ways : Nat → Int32} {m_kept_kind : Nat → Int32} {m_kept_by : Nat → Int32} {m_kept_home : Nat → Int32} {m_kept_aim : Nat → Int32} {m_kept_at0 : Nat → Int32} (R : Rel false x_now_places x_now_people x_now_hour x_now_chance x_now_seed x_now_ways x_now_distances x_now_kind x_now_a x_now_home x_now_aim x_now_at x_kept_places x_kept_people x_kept_hour x_kept_chance x_kept_seed x_kept_ways x_kept_distances x_kept_kind x_kept_a x_kept_home x_kept_aim x_kept_at x_isKept x_shelves_c x_shelves_z x_shelves_e x_tape_size x_tape_bytes x_refusals m_places m_people m_hour m_chance m_seed m_ways m_kind m_by m_home m_aim m_at0 m_shelf m_rowSort m_rowSize m_rows m_shown m_tape m_tapeSize m_refused m_gone m_kept_places m_kept_people m_kept_hour m_kept_chance m_kept_seed m_kept_ways m_kept_kind m_kept_by m_kept_home m_kept_aim m_kept_at0) : ∃ (r : Int32) (y_now_places : Int32) (y_now_people : Int32) (y_now_hour : Int32) (y_now_chance : Int32) (y_now_seed : Int32) (y_now_ways : Nat → Int32) (y_now_distances : Nat → Int32) (y_now_kind : Nat → Int32) (y_now_a : Nat → Int32) (y_now_home : Nat → Int32) (y_now_aim : Nat → Int32) (y_now_at : Nat → Int32) (y_refusals : Nat → Int32) (y_shelves_c : Nat → Int32) (y_shelves_z : Nat → Int32) (z_refused : Nat → Int32), fX7_back x_isKept x_now_places x_now_people x_now_hour x_now_chance x_now_seed x_now_ways x_now_distances x_now_kind x_now_a x_now_home x_now_aim x_now_at x_kept_places x_kept_people x_kept_hour x_kept_chance x_kept_seed x_kept_ways x_kept_distances x_kept_kind x_kept_a x_kept_home x_kept_aim x_kept_at x_refusals x_shelves_c x_shelves_z = some (r, y_now_places, y_now_people, y_now_hour, y_now_chance, y_now_seed, y_now_ways, y_now_distances, y_now_kind, y_now_a, y_now_home, y_now_aim, y_now_at, y_refusals, y_shelves_c, y_shelves_z) ∧ fX8_backN m_refused = some (r, z_refused) ∧ Rel false y_now_places y_now_people y_now_hour y_now_chance y_now_seed y_now_ways y_now_distances y_now_kind y_now_a y_now_home y_now_aim y_now_at x_kept_places x_kept_people x_kept_hour x_kept_chance x_kept_seed x_kept_ways x_kept_distances x_kept_kind x_kept_a x_kept_home x_kept_aim x_kept_at x_isKept y_shelves_c y_shelves_z x_shelves_e x_tape_size x_tape_bytes y_refusals m_places m_people m_hour m_chance m_seed m_ways m_kind m_by m_home m_aim m_at0 m_shelf m_rowSort m_rowSize m_rows m_shown m_tape m_tapeSize z_refused m_gone m_kept_places m_kept_people m_kept_hour m_kept_chance m_kept_seed m_kept_ways m_kept_kind m_kept_by m_kept_home m_kept_aim m_kept_at0 := by
  have R0 := R
  obtain ⟨P, n, h, c, s, W, K, A, H, M, L, T, ⟨rfl, rfl, rfl, rfl, rfl, rfl, xd, xk, xa, xh, xm, xl⟩, ⟨rfl, rfl, rfl, rfl, rfl, rfl, mk, ma, mh, mm, ml⟩, rfl, S, U, V, Z⟩ := R
  obtain ⟨hP2, hP, hn, hW, hK, hH, hM, hL, hho⟩ := id T
  rcases Z with ⟨z, -⟩ | ⟨-, rfl⟩
  · cases z
  · obtain ⟨x2, m2, e1, e2, q⟩ := rf5 V
    unfold fX7_back fX8_backN
    simp only [e1, e2, bo1, bo2, bo3, bo4, bo5, bo6, bo7, bo12, jo0, jo1, vlet, i10, i00, if_true, if_false, ite_self]
    exact ⟨_, _, _, _, _, _, _, _, _, _, _, _, _, _, _, _, _, rfl, rfl, R0.rf q⟩
/-- who is shown there is no more -/
def prn (n' : Nat) (c : Int32) : Bool := decide (nI (10 + n') ≤ c)
theorem p_back {P' n' : Nat} {u1 u3 u4 u5 : Int32} {u6 u7 u8 u9 u10 u11 u12 r c z : Nat → Int32} (hn' : n' ≤ 8) (hc : ∀ s, s < 8 → c s = -1 ∨ (∃ k, k ≤ 4 ∧ c s = nI k) ∨ ∃ k, k < 8 ∧ c s = nI (10 + k)) : ∃ c2 z2, lo3 (fun g17 (x14 : Int32) (u15 : Nat → Int32) (u16 : Nat → Int32) => if (8 : Int32) ≤ x14 then some ((1 : Int32), u1, nI n', u3, u4, u5, u6, u7, u8, u9, u10, u11, u12, r, u15, u16) else if x14 < 0 ∨ 8 ≤ x14.toNatClampNeg then none else bo1 (fX2_holdsPerson (u15 x14.toNatClampNeg)) fun r20 => jo2 (fun (u22 : Nat → Int32) (u23 : Nat → Int32) => vlet (x14 + (1 : Int32)) fun x25 => g17 x25 u22 u23) fun k24 => if r20 = 0 then k24 u15 u16 else if x14 < 0 ∨ 8 ≤ x14.toNatClampNeg then none else bo1 (fX2_personNumber (u15 x14.toNatClampNeg)) fun r28 => bo1 (fX7_isPerson (nI n') r28) fun r30 => if r30 = 0 then if x14 < 0 ∨ 8 ≤ x14.toNatClampNeg then none else bo2 (fX2_takeNothing) fun u34 u35 => k24 (va_up u15 x14.toNatClampNeg u34) (va_up u16 x14.toNatClampNeg u35) else k24 u15 u16) 400 (0 : Int32) c z = some ((1 : Int32), u1, nI n', u3, u4, u5, u6, u7, u8, u9, u10, u11, u12, r, c2, z2) ∧ ∀ s, s < 8 → c2 s = (if prn n' (c s) then -1 else c s) ∧ z2 s = (if prn n' (c s) then 0 else z s) := by
  refine lph3 (Φ := fun o => ∃ c2 z2 : Nat → Int32, o = some ((1 : Int32), u1, nI n', u3, u4, u5, u6, u7, u8, u9, u10, u11, u12, r, c2, z2) ∧ ∀ s, s < 8 → c2 s = (if prn n' (c s) then -1 else c s) ∧ z2 s = (if prn n' (c s) then 0 else z s)) (fun i x (u v : Nat → Int32) => x = nI i ∧ ∀ s, u s = (if s < i ∧ prn n' (c s) = true then -1 else c s) ∧ v s = (if s < i ∧ prn n' (c s) = true then 0 else z s)) 8 ⟨rfl, fun s => ⟨by rw [if_neg (by omega)], by rw [if_neg (by omega)]⟩⟩ (fun i hi x u v h => ?_) (fun x u v h ag => ?_) 400 (by omega)
  · obtain ⟨rfl, h⟩ := h
    have h1 : u i = c i := by rw [(h i).1, if_neg (by omega)]
    have keep : prn n' (c i) = false → ∀ s, u s = (if s < i + 1 ∧ prn n' (c s) = true then -1 else c s) ∧ v s = (if s < i + 1 ∧ prn n' (c s) = true then 0 else z s) := by
      intro hp s
      have he : (s < i + 1 ∧ prn n' (c s) = true) = (s < i ∧ prn n' (c s) = true) := by
        apply propext
        constructor
        · rintro ⟨a, b⟩
          refine ⟨?_, b⟩
          by_cases e : s = i
          · subst e; rw [hp] at b; cases b
          · omega
        · rintro ⟨a, b⟩; exact ⟨by omega, b⟩
      simp only [he]
      exact h s
    simp only [show (8 : Int32) = nI 8 from rfl, nle (a := 8) (b := i) (by omega) (by omega), show ¬ 8 ≤ i from by omega, if_n (nin (k := i) (N := 8) hi (by omega)), nc (n := i) (by omega), bo1, bo2, bo3, bo4, bo5, bo6, bo7, bo12, jo0, jo1, vlet, i10, i00, if_true, if_false, ite_self, jo2, nI_1, h1, if_n (show ¬ (nI i < 0 ∨ False) from by rintro (q | q); exact nI_pos (by omega) q; exact q)]
    unfold fX2_holdsPerson fX2_personNumber fX2_takeNothing
    rcases hc i hi with q | ⟨k, hk, q⟩ | ⟨k, hk, q⟩
    · refine ⟨_, _, _, ⟨rfl, keep ?_⟩, fun ag => ?_⟩
      · rw [q]; unfold prn
        rw [decide_eq_false_iff_not, Int32.le_iff_toInt_le, nI_toInt (by omega), show ((-1 : Int32).toInt) = -1 from by decide]; omega
      · simp only [q, hm10, bo1, bo2, bo3, bo4, bo5, bo6, bo7, bo12, jo0, jo1, vlet, i10, i00, if_true, if_false, ite_self]
    · refine ⟨_, _, _, ⟨rfl, keep ?_⟩, fun ag => ?_⟩
      · rw [q]; unfold prn
        rw [decide_eq_false_iff_not, nle (by omega) (by omega)]; omega
      · simp only [q, h10 hk, bo1, bo2, bo3, bo4, bo5, bo6, bo7, bo12, jo0, jo1, vlet, i10, i00, if_true, if_false, ite_self]
    · have hk10 : nI (10 + k) - (10 : Int32) = nI k := by rw [show (10 : Int32) = nI 10 from rfl, pk_sub (a := 10 + k) (b := 10) (by omega)]; congr 1; omega
      by_cases g : k < n'
      · refine ⟨_, _, _, ⟨rfl, keep ?_⟩, fun ag => ?_⟩
        · rw [q]; unfold prn
          rw [decide_eq_false_iff_not, nle (by omega) (by omega)]; omega
        · unfold fX7_isPerson
          simp only [q, h10' hk, bo1, bo2, bo3, bo4, bo5, bo6, bo7, bo12, jo0, jo1, vlet, i10, i00, if_true, if_false, ite_self, hk10, if_neg (nI_pos (n := k) (by omega)), nle (a := n') (b := k) (by omega) (by omega), show ¬ n' ≤ k from by omega]
      · refine ⟨_, va_up u i (-1), va_up v i 0, ⟨rfl, fun s => ?_⟩, fun ag => ?_⟩
        · have hp : prn n' (c i) = true := by
            rw [q]; unfold prn
            rw [decide_eq_true_eq, nle (by omega) (by omega)]; omega
          by_cases e : s = i
          · subst e
            rw [va_up_self, va_up_self, if_pos ⟨by omega, hp⟩, if_pos ⟨by omega, hp⟩]
            exact ⟨rfl, rfl⟩
          · rw [va_up_ne _ _ e, va_up_ne _ _ e]
            have he : (s < i + 1 ∧ prn n' (c s) = true) = (s < i ∧ prn n' (c s) = true) := by
              apply propext
              constructor
              · rintro ⟨a, b⟩; exact ⟨by omega, b⟩
              · rintro ⟨a, b⟩; exact ⟨by omega, b⟩
            simp only [he]
            exact h s
        · unfold fX7_isPerson
          simp only [q, h10' hk, bo1, bo2, bo3, bo4, bo5, bo6, bo7, bo12, jo0, jo1, vlet, i10, i00, if_true, if_false, ite_self, hk10, if_neg (nI_pos (n := k) (by omega)), nle (a := n') (b := k) (by omega) (by omega), show n' ≤ k from by omega]
  · obtain ⟨rfl, h⟩ := h
    refine ⟨u, v, rfl, fun s hs => ?_⟩
    obtain ⟨g1, g2⟩ := h s
    rw [g1, g2]
    simp only [hs, true_and]
theorem p_mback {n' : Nat} {u1 u3 u4 u5 : Int32} {u6 u7 u8 u9 u10 u11 f o : Nat → Int32} {p : Nat → Bool} (hn' : n' ≤ 8) (hp : ∀ s, s < 8 → (p s = true ↔ f s = 2 ∧ ¬ o s < nI n')) : ∃ f2, lo2 (fun g15 (x13 : Int32) (u14 : Nat → Int32) => if (8 : Int32) ≤ x13 then some ((1 : Int32), u1, nI n', u3, u4, u5, u14, u6, u7, u8, u9, u10, u11) else if x13 < 0 ∨ 8 ≤ x13.toNatClampNeg then none else jo1 (fun (u17 : Nat → Int32) => vlet (x13 + (1 : Int32)) fun x19 => g15 x19 u17) fun k18 => if (u14 x13.toNatClampNeg) = (2 : Int32) then if x13 < 0 ∨ 8 ≤ x13.toNatClampNeg then none else if (o x13.toNatClampNeg) < nI n' then k18 u14 else if x13 < 0 ∨ 8 ≤ x13.toNatClampNeg then none else k18 (upd u14 x13.toNatClampNeg (0 : Int32)) else k18 u14) 400 (0 : Int32) f = some ((1 : Int32), u1, nI n', u3, u4, u5, f2, u6, u7, u8, u9, u10, u11) ∧ ∀ s, s < 8 → f2 s = (if p s then 0 else f s) := by
  refine lph2 (Φ := fun q => ∃ f2 : Nat → Int32, q = some ((1 : Int32), u1, nI n', u3, u4, u5, f2, u6, u7, u8, u9, u10, u11) ∧ ∀ s, s < 8 → f2 s = (if p s then 0 else f s)) (fun i x (u : Nat → Int32) => x = nI i ∧ ∀ s, u s = (if s < i ∧ p s = true then 0 else f s)) 8 ⟨rfl, fun s => by rw [if_neg (by omega)]⟩ (fun i hi x u h => ?_) (fun x u h ag => ?_) 400 (by omega)
  · obtain ⟨rfl, h⟩ := h
    have h1 : u i = f i := by rw [h i, if_neg (by omega)]
    simp only [show (8 : Int32) = nI 8 from rfl, nle (a := 8) (b := i) (by omega) (by omega), show ¬ 8 ≤ i from by omega, if_n (nin (k := i) (N := 8) hi (by omega)), nc (n := i) (by omega), bo1, bo2, bo3, bo4, bo5, bo6, bo7, bo12, jo0, jo1, vlet, i10, i00, if_true, if_false, ite_self, nI_1, h1, if_n (show ¬ (nI i < 0 ∨ False) from by rintro (q | q); exact nI_pos (by omega) q; exact q)]
    by_cases hb : p i = true
    · obtain ⟨q1, q2⟩ := (hp i hi).mp hb
      refine ⟨_, upd u i 0, ⟨rfl, fun s => ?_⟩, fun ag => by simp only [q1, q2, bo1, bo2, bo3, bo4, bo5, bo6, bo7, bo12, jo0, jo1, vlet, i10, i00, if_true, if_false, ite_self]⟩
      by_cases e : s = i
      · subst e; rw [pk_us, if_pos ⟨by omega, hb⟩]
      · rw [pk_un e]
        have he : (s < i + 1 ∧ p s = true) = (s < i ∧ p s = true) := by
          apply propext
          constructor
          · rintro ⟨a, b⟩; exact ⟨by omega, b⟩
          · rintro ⟨a, b⟩; exact ⟨by omega, b⟩
        simp only [he]
        exact h s
    · refine ⟨_, u, ⟨rfl, fun s => ?_⟩, fun ag => ?_⟩
      · have he : (s < i + 1 ∧ p s = true) = (s < i ∧ p s = true) := by
          apply propext
          constructor
          · rintro ⟨a, b⟩
            refine ⟨?_, b⟩
            by_cases e : s = i
            · subst e; exact absurd b hb
            · omega
          · rintro ⟨a, b⟩; exact ⟨by omega, b⟩
        simp only [he]
        exact h s
      · by_cases q1 : f i = 2
        · have q2 : o i < nI n' := by
            by_cases q3 : o i < nI n'
            · exact q3
            · exact absurd ((hp i hi).mpr ⟨q1, q3⟩) hb
          simp only [q1, q2, bo1, bo2, bo3, bo4, bo5, bo6, bo7, bo12, jo0, jo1, vlet, i10, i00, if_true, if_false, ite_self]
        · simp only [q1, bo1, bo2, bo3, bo4, bo5, bo6, bo7, bo12, jo0, jo1, vlet, i10, i00, if_true, if_false, ite_self]
  · obtain ⟨rfl, h⟩ := h
    refine ⟨u, rfl, fun s hs => ?_⟩
    rw [h s]
    simp only [hs, true_and]
theorem tt_backR {x_now_places : Int32} {x_now_people : Int32} {x_now_hour : Int32} {x_now_chance : Int32} {x_now_seed : Int32} {x_now_ways : Nat → Int32} {x_now_distances : Nat → Int32} {x_now_kind : Nat → Int32} {x_now_a : Nat → Int32} {x_now_home : Nat → Int32} {x_now_aim : Nat → Int32} {x_now_at : Nat → Int32} {x_kept_places : Int32} {x_kept_people : Int32} {x_kept_hour : Int32} {x_kept_chance : Int32} {x_kept_seed : Int32} {x_kept_ways : Nat → Int32} {x_kept_distances : Nat → Int32} {x_kept_kind : Nat → Int32} {x_kept_a : Nat → Int32} {x_kept_home : Nat → Int32} {x_kept_aim : Nat → Int32} {x_kept_at : Nat → Int32} {x_isKept : Int32} {x_shelves_c : Nat → Int32} {x_shelves_z : Nat → Int32} {x_shelves_e : Nat → Nat → Int64} {x_tape_size : Int32} {x_tape_bytes : Nat → Int32} {x_refusals : Nat → Int32} {m_places : Int32} {m_people : Int32} {m_hour : Int32} {m_chance : Int32} {m_seed : Int32} {m_ways : Nat → Int32} {m_kind : Nat → Int32} {m_by : Nat → Int32} {m_home : Nat → Int32} {m_aim : Nat → Int32} {m_at0 : Nat → Int32} {m_shelf : Nat → Int32} {m_rowSort : Nat → Int32} {m_rowSize : Nat → Int32} {m_rows : Nat → Nat → Int64} {m_shown : Nat → Int32} {m_tape : Nat → Int32} {m_tapeSize : Int32} {m_refused : Nat → Int32} {m_gone : Int32} {m_kept_places : Int32} {m_kept_people : Int32} {m_kept_hour : Int32} {m_kept_chance : Int32} {m_kept_seed : Int32} {m_kept_ways : Nat → Int32} {m_kept_kind : Nat → Int32} {m_kept_by : Nat → Int32} {m_kept_home : Nat → Int32} {m_kept_aim : Nat → Int32} {m_kept_at0 : Nat → Int32} (R : Rel true x_now_places x_now_people x_now_hour x_now_chance x_now_seed x_now_ways x_now_distances x_now_kind x_now_a x_now_home x_now_aim x_now_at x_kept_places x_kept_people x_kept_hour x_kept_chance x_kept_seed x_kept_ways x_kept_distances x_kept_kind x_kept_a x_kept_home x_kept_aim x_kept_at x_isKept x_shelves_c x_shelves_z x_shelves_e x_tape_size x_tape_bytes x_refusals m_places m_people m_hour m_chance m_seed m_ways m_kind m_by m_home m_aim m_at0 m_shelf m_rowSort m_rowSize m_rows m_shown m_tape m_tapeSize m_refused m_gone m_kept_places m_kept_people m_kept_hour m_kept_chance m_kept_seed m_kept_ways m_kept_kind m_kept_by m_kept_home m_kept_aim m_kept_at0) : ∃ (r : Int32) (y_now_places : Int32) (y_now_people : Int32) (y_now_hour : Int32) (y_now_chance : Int32) (y_now_seed : Int32) (y_now_ways : Nat → Int32) (y_now_distances : Nat → Int32) (y_now_kind : Nat → Int32) (y_now_a : Nat → Int32) (y_now_home : Nat → Int32) (y_now_aim : Nat → Int32) (y_now_at : Nat → Int32) (y_refusals : Nat → Int32) (y_shelves_c : Nat → Int32) (y_shelves_z : Nat → Int32) (z_places : Int32) (z_people : Int32) (z_hour : Int32) (z_chance : Int32) (z_seed : Int32) (z_shelf : Nat → Int32) (z_ways : Nat → Int32) (z_kind : Nat → Int32) (z_by : Nat → Int32) (z_home : Nat → Int32) (z_aim : Nat → Int32) (z_at0 : Nat → Int32), fX7_back x_isKept x_now_places x_now_people x_now_hour x_now_chance x_now_seed x_now_ways x_now_distances x_now_kind x_now_a x_now_home x_now_aim x_now_at x_kept_places x_kept_people x_kept_hour x_kept_chance x_kept_seed x_kept_ways x_kept_distances x_kept_kind x_kept_a x_kept_home x_kept_aim x_kept_at x_refusals x_shelves_c x_shelves_z = some (r, y_now_places, y_now_people, y_now_hour, y_now_chance, y_now_seed, y_now_ways, y_now_distances, y_now_kind, y_now_a, y_now_home, y_now_aim, y_now_at, y_refusals, y_shelves_c, y_shelves_z) ∧ fX8_backR m_shelf m_shown m_ways m_kind m_by m_home m_aim m_at0 m_kept_places m_kept_people m_kept_hour m_kept_chance m_kept_seed m_kept_ways m_kept_kind m_kept_by m_kept_home m_kept_aim m_kept_at0 = some (r, z_places, z_people, z_hour, z_chance, z_seed, z_shelf, z_ways, z_kind, z_by, z_home, z_aim, z_at0) ∧ Rel true y_now_places y_now_people y_now_hour y_now_chance y_now_seed y_now_ways y_now_distances y_now_kind y_now_a y_now_home y_now_aim y_now_at x_kept_places x_kept_people x_kept_hour x_kept_chance x_kept_seed x_kept_ways x_kept_distances x_kept_kind x_kept_a x_kept_home x_kept_aim x_kept_at x_isKept y_shelves_c y_shelves_z x_shelves_e x_tape_size x_tape_bytes y_refusals z_places z_people z_hour z_chance z_seed z_ways z_kind z_by z_home z_aim z_at0 z_shelf m_rowSort m_rowSize m_rows m_shown m_tape m_tapeSize m_refused m_gone m_kept_places m_kept_people m_kept_hour m_kept_chance m_kept_seed m_kept_ways m_kept_kind m_kept_by m_kept_home m_kept_aim m_kept_at0 := by
  have R0 := R
  obtain ⟨P, n, h, c, s, W, K, A, H, M, L, T, ⟨rfl, rfl, rfl, rfl, rfl, rfl, xd, xk, xa, xh, xm, xl⟩, ⟨rfl, rfl, rfl, rfl, rfl, rfl, mk, ma, mh, mm, ml⟩, rfl, S, U, V, Z⟩ := R
  obtain ⟨hP2, hP, hn, hW, hK, hH, hM, hL, hho⟩ := id T
  rcases Z with ⟨-, rfl, P', n', h', c', s', W', K', A', H', M', L', T', ⟨rfl, rfl, rfl, rfl, rfl, rfl, xd', xk', xa', xh', xm', xl'⟩, ⟨rfl, rfl, rfl, rfl, rfl, rfl, mk', ma', mh', mm', ml'⟩⟩ | ⟨z, -⟩
  · have hn' := T'.2.2.1
    have hp : ∀ s, s < 8 → (prn n' (x_shelves_c s) = true ↔ m_shelf s = 2 ∧ ¬ m_shown s < nI n') := by
      intro s hs
      rcases S s hs with ⟨h1, h2, h3⟩ | ⟨t, m, ht, hm, h1, h2, h3, h4, h5, h6⟩ | ⟨t, ht, h1, h2, h3, h4⟩
      · rw [h1, h3]
        constructor
        · intro q
          unfold prn at q
          rw [decide_eq_true_eq, Int32.le_iff_toInt_le, nI_toInt (by omega), show ((-1 : Int32).toInt) = -1 from by decide] at q
          omega
        · rintro ⟨q, -⟩; exact absurd q (by decide)
      · rw [h1, h3]
        constructor
        · intro q
          unfold prn at q
          rw [decide_eq_true_eq, nle (by omega) (by omega)] at q
          omega
        · rintro ⟨q, -⟩; exact absurd q (by decide)
      · rw [h1, h3, h4]
        unfold prn
        rw [decide_eq_true_eq, nle (by omega) (by omega), nlt (by omega) (by omega)]
        constructor
        · intro q; exact ⟨rfl, by omega⟩
        · rintro ⟨-, q⟩; omega
    obtain ⟨c2, z2, f1, f2⟩ := p_back (P' := P') (n' := n') (u1 := nI P') (u3 := nI h') (u4 := m_kept_chance) (u5 := m_kept_seed) (u6 := nf W') (u7 := x_kept_distances) (u8 := x_kept_kind) (u9 := x_kept_a) (u10 := x_kept_home) (u11 := x_kept_aim) (u12 := x_kept_at) (r := x_refusals) (c := x_shelves_c) (z := x_shelves_z) hn' (fun s hs => by
      rcases S s hs with ⟨h1, -⟩ | ⟨t, m, ht, hm, h1, -⟩ | ⟨t, ht, h1, -⟩
      · exact Or.inl h1
      · exact Or.inr (Or.inl ⟨t, ht, h1⟩)
      · exact Or.inr (Or.inr ⟨t, by omega, h1⟩))
    obtain ⟨g2, f3, f4⟩ := p_mback (n' := n') (u1 := nI P') (u3 := nI h') (u4 := m_kept_chance) (u5 := m_kept_seed) (u6 := nf W') (u7 := cpd 8 m_kept_kind m_kind) (u8 := cpd 8 m_kept_by m_by) (u9 := cpd 8 m_kept_home m_home) (u10 := cpd 8 m_kept_aim m_aim) (u11 := cpd 8 m_kept_at0 m_at0) (f := m_shelf) (o := m_shown) (p := fun s => prn n' (x_shelves_c s)) hn' hp
    unfold fX7_back fX8_backR fX5_become
    rw [p_takeFrom T'.2.2.2.1 T'.2.1 (nf_hi hW hP)]
    simp only [bo11, bo12, if_neg (show ¬ (1 : Int32) = 0 by decide)]
    rw [f1, f3]
    refine ⟨_, _, _, _, _, _, _, _, _, _, _, _, _, _, _, _, _, _, _, _, _, _, _, _, _, _, _, _, rfl, rfl, ⟨P', n', h', _, _, W', K', A', H', M', L', T', ⟨rfl, rfl, rfl, rfl, rfl, rfl, xd', xk', xa', xh', xm', xl'⟩, ⟨rfl, rfl, rfl, rfl, rfl, rfl, cpd_ag hn' mk', cpd_ag hn' ma', cpd_ag hn' mh', cpd_ag hn' mm', cpd_ag hn' ml'⟩, rfl, ?_, U, V, Or.inl ⟨rfl, rfl, P', n', h', _, _, W', K', A', H', M', L', T', ⟨rfl, rfl, rfl, rfl, rfl, rfl, xd', xk', xa', xh', xm', xl'⟩, ⟨rfl, rfl, rfl, rfl, rfl, rfl, mk', ma', mh', mm', ml'⟩⟩⟩⟩
    intro s hs
    obtain ⟨k1, k2⟩ := f2 s hs
    have k3 := f4 s hs
    rw [k1, k2, k3]
    by_cases hb : prn n' (x_shelves_c s) = true
    · rw [if_pos hb, if_pos hb, if_pos hb]
      exact Or.inl ⟨rfl, rfl, rfl⟩
    · rw [if_neg hb, if_neg hb, if_neg hb]
      rcases S s hs with h1 | h1 | ⟨t, ht, h1, h2, h3, h4⟩
      · exact Or.inl h1
      · exact Or.inr (Or.inl h1)
      · refine Or.inr (Or.inr ⟨t, ?_, h1, h2, h3, h4⟩)
        by_cases g : t < n'
        · exact g
        · exfalso
          apply hb
          rw [h1]; unfold prn
          rw [decide_eq_true_eq, nle (by omega) (by omega)]; omega
  · cases z
