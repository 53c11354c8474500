/-! ===== what hangs together ===== -/
def Cn (W : Nat → Nat) (x y : Nat) : Prop := ∃ d, (rcm W x d).testBit y = true
theorem Cn.rfl' (W : Nat → Nat) (x : Nat) : Cn W x x := ⟨0, Nat.testBit_two_pow_self⟩
theorem Cn.edge {W : Nat → Nat} {x y z : Nat} (h : Cn W x y) (hy : y < 12) (e : (W y).testBit z = true) : Cn W x z := by
  obtain ⟨d, h⟩ := h
  exact ⟨d + 1, rcm_step hy h e⟩
theorem Cn.ind {W : Nat → Nat} {x : Nat} {Q : Nat → Prop} (h0 : Q x) (hs : ∀ y z, y < 12 → Cn W x y → Q y → (W y).testBit z = true → Q z) {y : Nat} (h : Cn W x y) : Q y := by
  obtain ⟨d, h⟩ := h
  induction d generalizing y with
  | zero =>
    have h' : (2 ^ x).testBit y = true := h
    rw [Nat.testBit_two_pow, decide_eq_true_eq] at h'
    rw [← h']; exact h0
  | succ d ih =>
    have h' : (spk W (rcm W x d) 12).testBit y = true := h
    rw [spk_bit] at h'
    rcases h' with h' | ⟨r, hr, h1, h2⟩
    · exact ih h'
    · exact hs r y hr ⟨d, h1⟩ (ih h1) h2
theorem Cn.trans {W : Nat → Nat} {x y z : Nat} (h : Cn W x y) (g : Cn W y z) : Cn W x z :=
  Cn.ind (Q := fun z => Cn W x z) h (fun _ _ hy _ q e => q.edge hy e) g
theorem Cn.symm {W : Nat → Nat} {P x y : Nat} (hW : wok P W) (hP : P ≤ 12) (h : Cn W x y) : Cn W y x := by
  obtain ⟨d, h⟩ := h
  exact ⟨d, rcm_sym1 hW hP h⟩
theorem Cn.lt {W : Nat → Nat} {P x y : Nat} (hW : wok P W) (hx : x < P) (h : Cn W x y) : y < P := by
  obtain ⟨d, h⟩ := h
  apply Nat.lt_of_not_le
  intro g
  rw [Nat.testBit_lt_two_pow (Nat.lt_of_lt_of_le (rcm_lt hW hx) (Nat.pow_le_pow_right (by decide) g))] at h
  cases h
theorem ds_cn {W : Nat → Nat} {P x y : Nat} (hW : wok P W) (hP : P ≤ 12) (hx : x < P) : (ds W x y).isSome = true ↔ Cn W x y := by
  constructor
  · intro h
    cases e : ds W x y with
    | none => rw [e] at h; cases h
    | some k => exact ⟨k, (ff_some e).2.2.1⟩
  · rintro ⟨d, h⟩
    obtain ⟨D, h0, hD, hz⟩ := edg_stop hW hx
    have hk : ∃ k, k < D ∧ (rcm W x k).testBit y = true := by
      by_cases g : d < D
      · exact ⟨d, g, h⟩
      · obtain ⟨j, rfl⟩ : ∃ j, d = D + j := ⟨d - D, by omega⟩
        rw [rcm_stop hz h0] at h
        have := edg_bit W x D y
        rw [hz, Nat.zero_testBit, h] at this
        have h2 : (rbe W x D).testBit y = true := by simpa using this.symm
        exact rbe_bit.1 h2
    obtain ⟨k, hk, hb⟩ := hk
    cases e : ds W x y with
    | some _ => rfl
    | none =>
      have := ff_none e k (Nat.zero_le _) (by omega)
      rw [hb] at this; cases this
theorem ds_no {W : Nat → Nat} {x y : Nat} : (dv (ds W x y) = (-1 : Int32)) = ((ds W x y).isSome = false) := by
  rw [dv_none ds_obd (by omega)]
  cases ds W x y <;> simp
/-- the first of its part -/
def fs (W : Nat → Nat) (x : Nat) : Bool := (ff (fun y => (ds W x y).isSome) x 0).isNone
theorem fs_iff {W : Nat → Nat} {P x : Nat} (hW : wok P W) (hP : P ≤ 12) (hx : x < P) : fs W x = true ↔ ∀ y, y < x → ¬ Cn W x y := by
  unfold fs
  rw [Option.isNone_iff_eq_none]
  constructor
  · intro h y hy hc
    have := ff_none h y (Nat.zero_le _) (by omega)
    rw [(ds_cn hW hP hx).2 hc] at this
    cases this
  · intro h
    apply ff_non
    intro y _ hy
    apply Bool.eq_false_iff.2
    intro g
    exact h y (by omega) ((ds_cn hW hP hx).1 g)
theorem p_isFirst {W : Nat → Nat} {x : Nat} {d : Nat → Int32} (hd : dok W d) (hx : x < 12) : fX5_isFirstOfPart d (nI x) = some (nI (if fs W x then 1 else 0)) := by
  unfold fX5_isFirstOfPart
  refine Eq.trans (lsk (fun y => (ds W x y).isSome) (fun _ => some (nI 0)) (some (nI 1)) 0 x (fun i h1 h2 g => ?_) (fun g => ?_) 400 (by omega)) ?_
  · simp only [nle (a := x) (b := i) (by omega) (by omega), show ¬ x ≤ i from by omega, bo1, bo2, bo3, bo4, bo5, bo6, bo7, bo12, jo0, jo1, vlet, i10, i00, if_true, if_false, ite_self, n1z, n0z, p_distance hd hx (show i < 12 by omega), ds_no, nI_1]
    by_cases e : (ds W x i).isSome = true
    · simp only [e, Bool.true_eq_false, bo1, bo2, bo3, bo4, bo5, bo6, bo7, bo12, jo0, jo1, vlet, i10, i00, if_true, if_false, ite_self, n1z, n0z]; rfl
    · have e' : (ds W x i).isSome = false := by simpa using e
      simp only [e', Bool.false_eq_true, bo1, bo2, bo3, bo4, bo5, bo6, bo7, bo12, jo0, jo1, vlet, i10, i00, if_true, if_false, ite_self, n1z, n0z]
  · rw [Nat.zero_add, if_pos (Int32.le_refl _)]; rfl
  · unfold fs
    cases ff (fun y => (ds W x y).isSome) x 0 <;> rfl
/-- what was seen from the first i -/
def snm (W : Nat → Nat) (P i : Nat) : Nat := pm (fun q => (ff (fun y => (ds W y q).isSome) i 0).isSome) P
theorem ff_ex {p : Nat → Bool} {k : Nat} : (ff p k 0).isSome = true ↔ ∃ y, y < k ∧ p y = true := by
  constructor
  · intro h
    cases e : ff p k 0 with
    | none => rw [e] at h; cases h
    | some q => obtain ⟨-, h2, h3, -⟩ := ff_some e; exact ⟨q, by omega, h3⟩
  · rintro ⟨y, h1, h2⟩
    cases e : ff p k 0 with
    | some _ => rfl
    | none => have := ff_none e y (Nat.zero_le _) (by omega); rw [h2] at this; cases this
theorem snm_bit {W : Nat → Nat} {P i q : Nat} (hW : wok P W) (hP : P ≤ 12) (hi : i ≤ P) : (snm W P i).testBit q = true ↔ q < P ∧ ∃ y, y < i ∧ Cn W y q := by
  unfold snm
  rw [pm_bit, Bool.and_eq_true, decide_eq_true_eq, ff_ex]
  constructor
  · rintro ⟨h1, y, h2, h3⟩; exact ⟨h1, y, h2, (ds_cn hW hP (by omega)).1 h3⟩
  · rintro ⟨h1, y, h2, h3⟩; exact ⟨h1, y, h2, (ds_cn hW hP (by omega)).2 h3⟩
theorem snm_fs {W : Nat → Nat} {P i : Nat} (hW : wok P W) (hP : P ≤ 12) (hi : i < P) : (snm W P i).testBit i = !fs W i := by
  apply bool_ext
  rw [snm_bit hW hP (by omega), Bool.not_eq_true', ← Bool.not_eq_true, fs_iff hW hP hi]
  constructor
  · rintro ⟨h1, y, h2, h3⟩ g
    exact g y h2 (h3.symm hW hP)
  · intro g
    refine ⟨hi, ?_⟩
    apply Classical.byContradiction
    intro c
    exact g (fun y hy hc => c ⟨y, hy, hc.symm hW hP⟩)
theorem snm_s1 {W : Nat → Nat} {P i : Nat} (hW : wok P W) (hP : P ≤ 12) (hi : i < P) (h : fs W i = true) : snm W P (i + 1) = snm W P i ||| pm (fun q => (ds W i q).isSome) P := by
  apply Nat.eq_of_testBit_eq
  intro q
  apply bool_ext
  rw [Nat.testBit_or, Bool.or_eq_true, snm_bit hW hP (by omega), snm_bit hW hP (by omega), pm_bit, Bool.and_eq_true, decide_eq_true_eq, ds_cn hW hP hi]
  constructor
  · rintro ⟨h1, y, h2, h3⟩
    by_cases e : y = i
    · subst e; exact Or.inr ⟨h1, h3⟩
    · exact Or.inl ⟨h1, y, by omega, h3⟩
  · rintro (⟨h1, y, h2, h3⟩ | ⟨h1, h3⟩)
    · exact ⟨h1, y, by omega, h3⟩
    · exact ⟨h1, i, by omega, h3⟩
theorem snm_s0 {W : Nat → Nat} {P i : Nat} (hW : wok P W) (hP : P ≤ 12) (hi : i < P) (h : fs W i = false) : snm W P (i + 1) = snm W P i := by
  apply Nat.eq_of_testBit_eq
  intro q
  apply bool_ext
  rw [snm_bit hW hP (by omega), snm_bit hW hP (by omega)]
  constructor
  · rintro ⟨h1, y, h2, h3⟩
    by_cases e : y = i
    · subst e
      have hb := snm_fs hW hP hi
      rw [h, Bool.not_false, snm_bit hW hP (by omega)] at hb
      obtain ⟨-, z, hz, hc⟩ := hb
      exact ⟨h1, z, hz, hc.trans h3⟩
    · exact ⟨h1, y, by omega, h3⟩
  · rintro ⟨h1, y, h2, h3⟩
    exact ⟨h1, y, by omega, h3⟩
theorem snm_lt {W : Nat → Nat} {P i : Nat} (hP : P ≤ 12) : snm W P i < 4096 := Nat.lt_of_lt_of_le (pm_lt _ _) (pw_lt hP)
theorem p_countParts {W : Nat → Nat} {P : Nat} {s0 : Nat → Int32} (hW : wok P W) (hP : P ≤ 12) (hP2 : 2 ≤ P) : ∃ st, fX8_countParts (nI P) (nf W) s0 = some (nI (cnt (fs W) P), st) := by
  unfold fX8_countParts
  refine lph4 (Φ := fun o => ∃ st, o = some (nI (cnt (fs W) P), st)) (fun i a b x _ => a = nI (snm W P i) ∧ b = nI (cnt (fs W) i) ∧ x = nI i) P ⟨?_, rfl, rfl⟩ (fun i hi a b x s z => ?_) (fun a b x s z g => ?_) 400 (by omega)
  · have : snm W P 0 = 0 := by
      apply Nat.eq_of_testBit_eq
      intro q
      apply bool_ext
      rw [snm_bit hW hP (by omega), Nat.zero_testBit]
      constructor
      · rintro ⟨-, y, h, -⟩; omega
      · intro h; cases h
    rw [this]; rfl
  · obtain ⟨rfl, rfl, rfl⟩ := z
    have hs := snm_lt (W := W) (P := P) (i := i) hP
    have hb := snm_fs hW hP hi
    by_cases e : fs W i = true
    · obtain ⟨st, f1, f2⟩ := p_findFar (s0 := s) hW hP hP2 hi
      refine ⟨_, _, _, st, ⟨rfl, rfl, rfl⟩, fun g => ?_⟩
      rw [snm_s1 hW hP hi e, cnt_s, if_pos e]
      simp only [nle (a := P) (b := i) (by omega) (by omega), show ¬ P ≤ i from by omega, bo1, bo2, bo3, bo4, bo5, bo6, bo7, bo12, jo0, jo1, vlet, i10, i00, if_true, if_false, ite_self, n1z, n0z, jo3, n_bit0 (m := snm W P i) (k := i) (by omega) (by omega), hb, e, Bool.not_true, f1]
      refine lq2 (fun j => nI (snm W P i ||| pm (fun q => (ds W i q).isSome) j)) (fun j => nI j) P ?_ rfl (fun j hj g2 => ?_) (fun g2 => ?_) 400 (by omega)
      · show nI (snm W P i) = nI (snm W P i ||| 0)
        rw [Nat.or_zero]
      · simp only [nle (a := P) (b := j) (by omega) (by omega), show ¬ P ≤ j from by omega, bo1, bo2, bo3, bo4, bo5, bo6, bo7, bo12, jo0, jo1, vlet, i10, i00, if_true, if_false, ite_self, n1z, n0z, if_n (nin (k := j) (N := 12) (by omega) (by omega)), if_n (nin2 (k := j) (N := 12) (by omega) (by omega)), nc (n := j) (by omega), f2 j hj, ds_no, n_pw (k := j) (by omega), n_or, n_or0, nI_1, pm_s]
        by_cases e2 : (ds W i j).isSome = true
        · simp only [e2, Bool.true_eq_false, bo1, bo2, bo3, bo4, bo5, bo6, bo7, bo12, jo0, jo1, vlet, i10, i00, if_true, if_false, ite_self, n1z, n0z, Nat.or_assoc]
        · have e3 : (ds W i j).isSome = false := by simpa using e2
          simp only [e3, Bool.false_eq_true, bo1, bo2, bo3, bo4, bo5, bo6, bo7, bo12, jo0, jo1, vlet, i10, i00, if_true, if_false, ite_self, n1z, n0z]
      · simp only [Int32.le_refl, bo1, bo2, bo3, bo4, bo5, bo6, bo7, bo12, jo0, jo1, vlet, i10, i00, if_true, if_false, ite_self, n1z, n0z, nI_1]
    · have e' : fs W i = false := by simpa using e
      refine ⟨_, _, _, s, ⟨rfl, rfl, rfl⟩, fun g => ?_⟩
      rw [snm_s0 hW hP hi e', cnt_s, if_neg e]
      simp only [nle (a := P) (b := i) (by omega) (by omega), show ¬ P ≤ i from by omega, bo1, bo2, bo3, bo4, bo5, bo6, bo7, bo12, jo0, jo1, vlet, i10, i00, if_true, if_false, ite_self, n1z, n0z, jo3, n_bit0 (m := snm W P i) (k := i) (by omega) (by omega), hb, e', Bool.not_false, Bool.true_eq_false, nI_1, Nat.add_zero]
  · obtain ⟨rfl, rfl, rfl⟩ := z
    exact ⟨s, if_pos (Int32.le_refl _)⟩
theorem tt_parts {x_now_places : Int32} {x_now_people : Int32} {x_now_hour : Int32} {x_now_chance : Int32} {x_now_seed : Int32} {x_now_ways : Nat → Int32} {x_now_distances : Nat → Int32} {x_now_kind : Nat → Int32} {x_now_a : Nat → Int32} {x_now_home : Nat → Int32} {x_now_aim : Nat → Int32} {x_now_at : Nat → Int32} {x_kept_places : Int32} {x_kept_people : Int32} {x_kept_hour : Int32} {x_kept_chance : Int32} {x_kept_seed : Int32} {x_kept_ways : Nat → Int32} {x_kept_distances : Nat → Int32} {x_kept_kind : Nat → Int32} {x_kept_a : Nat → Int32} {x_kept_home : Nat → Int32} {x_kept_aim : Nat → Int32} {x_kept_at : Nat → Int32} {x_isKept : Int32} {x_shelves_c : Nat → Int32} {x_shelves_z : Nat → Int32} {x_shelves_e : Nat → Nat → Int64} {x_tape_size : Int32} {x_tape_bytes : Nat → Int32} {x_refusals : Nat → Int32} {m_places : Int32} {m_people : Int32} {m_hour : Int32} {m_chance : Int32} {m_seed : Int32} {m_ways : Nat → Int32} {m_kind : Nat → Int32} {m_by : Nat → Int32} {m_home : Nat → Int32} {m_aim : Nat → Int32} {m_at0 : Nat → Int32} {m_shelf : Nat → Int32} {m_rowSort : Nat → Int32} {m_rowSize : Nat → Int32} {m_rows : Nat → Nat → Int64} {m_shown : Nat → Int32} {m_tape : Nat → Int32} {m_tapeSize : Int32} {m_refused : Nat → Int32} {m_gone : Int32} {m_kept_places : Int32} {m_kept_people : Int32} {m_kept_hour : Int32} {m_kept_chance : Int32} {m_kept_seed : Int32} {m_kept_ways : Nat → Int32} {m_kept_kind : Nat → Int32} {m_kept_by : Nat → Int32} {m_kept_home : Nat → Int32} {m_kept_aim : Nat → Int32} {m_kept_at0 : Nat → Int32} {kb : Bool} (m_steps : Nat → Int32) (R : Rel kb x_now_places x_now_people x_now_hour x_now_chance x_now_seed x_now_ways x_now_distances x_now_kind x_now_a x_now_home x_now_aim x_now_at x_kept_places x_kept_people x_kept_hour x_kept_chance x_kept_seed x_kept_ways x_kept_distances x_kept_kind x_kept_a x_kept_home x_kept_aim x_kept_at x_isKept x_shelves_c x_shelves_z x_shelves_e x_tape_size x_tape_bytes x_refusals m_places m_people m_hour m_chance m_seed m_ways m_kind m_by m_home m_aim m_at0 m_shelf m_rowSort m_rowSize m_rows m_shown m_tape m_tapeSize m_refused m_gone m_kept_places m_kept_people m_kept_hour m_kept_chance m_kept_seed m_kept_ways m_kept_kind m_kept_by m_kept_home m_kept_aim m_kept_at0) : ∃ (r : Int32) (z_steps : Nat → Int32), fX7_parts x_now_places x_now_distances = some r ∧ fX8_parts m_places m_ways m_steps = some (r, z_steps) ∧ Rel kb x_now_places x_now_people x_now_hour x_now_chance x_now_seed x_now_ways x_now_distances x_now_kind x_now_a x_now_home x_now_aim x_now_at x_kept_places x_kept_people x_kept_hour x_kept_chance x_kept_seed x_kept_ways x_kept_distances x_kept_kind x_kept_a x_kept_home x_kept_aim x_kept_at x_isKept x_shelves_c x_shelves_z x_shelves_e x_tape_size x_tape_bytes x_refusals m_places m_people m_hour m_chance m_seed m_ways m_kind m_by m_home m_aim m_at0 m_shelf m_rowSort m_rowSize m_rows m_shown m_tape m_tapeSize m_refused m_gone m_kept_places m_kept_people m_kept_hour m_kept_chance m_kept_seed m_kept_ways m_kept_kind m_kept_by m_kept_home m_kept_aim m_kept_at0 := by
  have R0 := R
  obtain ⟨P, n, h, c, s, W, K, A, H, M, L, T, ⟨rfl, rfl, rfl, rfl, rfl, rfl, xd, xk, xa, xh, xm, xl⟩, ⟨rfl, rfl, rfl, rfl, rfl, rfl, mk, ma, mh, mm, ml⟩, rfl, S, U, V, Z⟩ := R
  obtain ⟨hP2, hP, hn, hW, hK, hH, hM, hL, hho⟩ := id T
  obtain ⟨st, f1⟩ := p_countParts (s0 := m_steps) hW hP hP2
  have hx : fX7_parts (nI P) x_now_distances = some (nI (cnt (fs W) P)) := by
    unfold fX7_parts
    refine lr2 (fun i => nI (cnt (fs W) i)) (fun i => nI i) P (fun i hi g => ?_) (fun g => ?_) 400 (by omega)
    · simp only [nle (a := P) (b := i) (by omega) (by omega), show ¬ P ≤ i from by omega, bo1, bo2, bo3, bo4, bo5, bo6, bo7, bo12, jo0, jo1, vlet, i10, i00, if_true, if_false, ite_self, n1z, n0z, p_isFirst xd (show i < 12 by omega), b01, nI_1, cnt_s]
      by_cases e : fs W i = true
      · simp only [e, Bool.true_eq_false, bo1, bo2, bo3, bo4, bo5, bo6, bo7, bo12, jo0, jo1, vlet, i10, i00, if_true, if_false, ite_self, n1z, n0z]
      · have e' : fs W i = false := by simpa using e
        simp only [e', Bool.false_eq_true, Nat.add_zero, bo1, bo2, bo3, bo4, bo5, bo6, bo7, bo12, jo0, jo1, vlet, i10, i00, if_true, if_false, ite_self, n1z, n0z]
    · rw [if_pos (Int32.le_refl _)]
  rw [hx]
  unfold fX8_parts
  simp only [f1, n1z, n0z, bo1, bo2, bo3, bo4, bo5, bo6, bo7, bo12, jo0, i10, i00, if_true, if_false, ite_self]
  exact ⟨_, _, rfl, rfl, R0⟩
