theorem p_mgoesTo {P n h p : Nat} {W K H M L : Nat → Nat} {g : Int32} {G : Nat → Bool} {kf hf mf af s0 : Nat → Int32} (T : tok P n W K H M L h) (hg : gn g G) (hk : ag n kf K) (hh : ag n hf H) (hm : ag n mf M) (hl : ag n af L) (hp : p < n) : ∃ st, fX8_goesTo (nI P) (nI n) (nI h) g (nf W) kf hf mf s0 af (nI p) = some (nI (gto W P (K p) (H p) (M p) (L p) h (dkm (fun p => !G p && dk (K p)) L n)), st) := by
  obtain ⟨hP2, hP, hn, hW, hK, hH, hM, hL, hho⟩ := T
  have hLp := hL p hp
  have hw := wr_lt (W := W) hLp
  have hL12 : ∀ p, p < n → L p < 12 := fun p h => Nat.lt_of_lt_of_le (hL p h) hP
  obtain ⟨st1, hs1⟩ := p_mstepToward (s0 := s0) hW hP hP2 hLp (hH p hp)
  obtain ⟨st2, hs2⟩ := p_mstepToward (s0 := s0) hW hP hP2 hLp (hM p hp)
  have hdark : wr W P (L p) ≠ L p → (ff (fun o => !(o == p) && (L o == wr W P (L p)) && (!G o && dk (K o))) n 0).isSome = (dkm (fun p => !G p && dk (K p)) L n).testBit (wr W P (L p)) := by
    intro hne
    apply bool_ext
    rw [dkm_bit]
    constructor
    · intro e
      cases e2 : ff (fun o => !(o == p) && (L o == wr W P (L p)) && (!G o && dk (K o))) n 0 with
      | none => rw [e2] at e; cases e
      | some o =>
        obtain ⟨-, h2, h3, -⟩ := ff_some e2
        simp only [Bool.and_eq_true, beq_iff_eq] at h3
        exact ⟨o, by omega, by simp [h3.2.1, h3.2.2], h3.1.2⟩
    · rintro ⟨o, h1, h2, h3⟩
      cases e2 : ff (fun o => !(o == p) && (L o == wr W P (L p)) && (!G o && dk (K o))) n 0 with
      | some o => rfl
      | none =>
        have := ff_none e2 o (Nat.zero_le _) (by omega)
        have hop : o ≠ p := fun q => by rw [q] at h3; exact hne h3.symm
        simp only [h3, h2, Bool.and_true, beq_self_eq_true, Bool.not_eq_false', beq_iff_eq] at this
        exact absurd this hop
  unfold fX8_goesTo
  simp only [if_n (nin (k := p) (N := 8) (by omega) (by omega)), jo0, jo1]
  rw [nc (n := p) (by omega), hl p hp, hk p hp, hh p hp, hm p hp, p_mday hho, p_nextRound hW hP hLp]
  simp only [bo1, b01]
  rw [p_isDarkBut (P := P) (g0 := 0) hn hg hk hl hK hL12 hp (by omega), hs1, hs2]
  simp only [bo1, bo2, b01]
  have hk6 := hK p hp
  obtain ⟨e0, e1, e2, e3, e4, e5⟩ := k6 hk6
  simp only [e0, e1, e2, e3, e4, e5]
  unfold gto
  generalize K p = k at hk6 ⊢
  match k, hk6 with
  | 0, _ => cases day h <;> simp
  | 1, _ => simp
  | 2, _ => simp
  | 3, _ => simp
  | 4, _ =>
    by_cases hne : wr W P (L p) = L p
    · rw [hne]
      simp
    · rw [hdark hne]
      cases (dkm (fun p => !G p && dk (K p)) L n).testBit (wr W P (L p)) <;> simp
  | 5, _ => cases day h <;> simp
  | k + 6, h => exact absurd h (by omega)
/-- an hour later: where all are, the hour -/
def nxt (W : Nat → Nat) (P n : Nat) (K H M : Nat → Nat) (D : Nat → Bool) (h : Nat) (L : Nat → Nat) : Nat → Nat := fun p => gto W P (K p) (H p) (M p) (L p) h (dkm D L n)
def nh (h : Nat) : Nat := if h < 9999 then h + 1 else 9999
theorem nh_le (h : Nat) : nh h ≤ 9999 := by unfold nh; by_cases g : h < 9999 <;> simp [g] <;> omega
theorem p_endHour {h : Nat} (hh : h ≤ 9999) : fX5_endHour (nI h) = some (nI (nh h)) := by
  unfold fX5_endHour nh
  rw [nI_1]
  simp only [show (9999 : Int32) = nI 9999 from rfl, nlt (a := 9999) (b := h + 1) (by omega) (by omega)]
  by_cases g : h < 9999
  · rw [if_pos g, if_neg (by omega)]
  · rw [if_neg g, if_pos (by omega)]
/-- an array, its first n places anew -/
def ov (n : Nat) (f : Nat → Int32) (N : Nat → Nat) : Nat → Int32 := fun p => if p < n then nI (N p) else f p
theorem ov_0 (f : Nat → Int32) (N : Nat → Nat) : ov 0 f N = f := by funext p; unfold ov; rw [if_neg (by omega)]
theorem ov_s (n : Nat) (f : Nat → Int32) (N : Nat → Nat) : upd (ov n f N) n (nI (N n)) = ov (n + 1) f N := by
  funext p
  by_cases g : p = n
  · subst g; rw [pk_us]; unfold ov; rw [if_pos (by omega)]
  · rw [pk_un g]
    unfold ov
    by_cases h : p < n
    · rw [if_pos h, if_pos (by omega)]
    · rw [if_neg h, if_neg (by omega)]
theorem ov_ag (n : Nat) (f : Nat → Int32) (N : Nat → Nat) : ag n (ov n f N) N := fun p hp => by unfold ov; rw [if_pos hp]
/-- whether one of the first i went -/
def wnt (L N : Nat → Nat) : Nat → Bool
  | 0 => false
  | i + 1 => wnt L N i || !(N i == L i)
theorem p_passHour {P n h : Nat} {W K H M L : Nat → Nat} {d kf hf mf af : Nat → Int32} (T : tok P n W K H M L h) (hd : dok W d) (hk : ag n kf K) (hh : ag n hf H) (hm : ag n mf M) (hl : ag n af L) : fX5_passHour (nI P) (nI n) (nI h) (nf W) d kf hf mf af = some (nI (if wnt L (nxt W P n K H M (fun p => dk (K p)) h L) n then 1 else 0), nI (nh h), ov n af (nxt W P n K H M (fun p => dk (K p)) h L)) := by
  have T0 := T
  obtain ⟨hP2, hP, hn, hW, hK, hH, hM, hL, hho⟩ := T
  have hL12 : ∀ p, p < n → L p < 12 := fun p h => Nat.lt_of_lt_of_le (hL p h) hP
  unfold fX5_passHour
  rw [p_darkPlaces hn hk hl hK hL12]
  simp only [bo1]
  refine lq3 (fun i => nI (if wnt L (nxt W P n K H M (fun p => dk (K p)) h L) i then 1 else 0)) (fun i => nI i) (fun i => ov i af (nxt W P n K H M (fun p => dk (K p)) h L)) n rfl rfl (ov_0 _ _).symm (fun i hi ag2 => ?_) (fun ag2 => ?_) 400 (by omega)
  · rw [if_neg (by rw [nle (by omega) (by omega)]; omega)]
    simp only [if_n (nin (k := i) (N := 8) (by omega) (by omega)), vlet, jo1]
    have hai : ov i af (nxt W P n K H M (fun p => dk (K p)) h L) i = nI (L i) := by unfold ov; rw [if_neg (by omega)]; exact hl i hi
    rw [p_goesTo T0 hd hk hh hm hai hi (Nat.lt_of_lt_of_le (dkm_lt hL) (pw_lt hP))]
    simp only [bo1]
    rw [nc (n := i) (by omega), hai, pk_us, nI_1]
    have hNi : nI (gto W P (K i) (H i) (M i) (L i) h (dkm (fun p => dk (K p)) L n)) = nI (nxt W P n K H M (fun p => dk (K p)) h L i) := rfl
    rw [hNi, ov_s]
    have hlt := gto_lt (W := W) (k := K i) (hm := H i) (am := M i) (h := h) (dark := dkm (fun p => dk (K p)) L n) (hL i hi)
    have hLi := hL i hi
    simp only [show (nI (nxt W P n K H M (fun p => dk (K p)) h L i) = nI (L i)) = (nxt W P n K H M (fun p => dk (K p)) h L i = L i) from neq (by show gto W P (K i) (H i) (M i) (L i) h (dkm (fun p => dk (K p)) L n) ≤ _; omega) (by omega)]
    by_cases e : nxt W P n K H M (fun p => dk (K p)) h L i = L i
    · rw [if_pos e]
      simp only [wnt, e, beq_self_eq_true, Bool.not_true, Bool.or_false]
      cases wnt L (nxt W P n K H M (fun p => dk (K p)) h L) i <;> rfl
    · rw [if_neg e]
      have e2 : (nxt W P n K H M (fun p => dk (K p)) h L i == L i) = false := by simpa using e
      simp only [wnt, e2, Bool.not_false, Bool.or_true]
      cases wnt L (nxt W P n K H M (fun p => dk (K p)) h L) i <;> rfl
  · rw [if_pos (by rw [nle (by omega) (by omega)]; omega), p_endHour hho]
    simp only [bo1]
    rw [if_n]
    cases wnt L (nxt W P n K H M (fun p => dk (K p)) h L) n <;> decide
theorem p_mgoes {P n h : Nat} {W K H M L : Nat → Nat} {g : Int32} {G : Nat → Bool} {kf hf mf af s0 t0 : Nat → Int32} (T : tok P n W K H M L h) (hg : gn g G) (hk : ag n kf K) (hh : ag n hf H) (hm : ag n mf M) (hl : ag n af L) : ∃ st tt, fX8_goes (nI P) (nI n) (nI h) g (nf W) kf hf mf s0 af t0 = some (nI (nh h), st, ov n af (nxt W P n K H M (fun p => !G p && dk (K p)) h L), tt) := by
  obtain ⟨hP2, hP, hn, hW, hK, hH, hM, hL, hho⟩ := id T
  -- the steps row behind i people
  have hst : ∃ sq : Nat → (Nat → Int32), sq 0 = s0 ∧ ∀ i, i < n → fX8_goesTo (nI P) (nI n) (nI h) g (nf W) kf hf mf (sq i) af (nI i) = some (nI (nxt W P n K H M (fun p => !G p && dk (K p)) h L i), sq (i + 1)) := by
    have hc : ∀ (s : Nat → Int32) (i : Nat), ∃ s', i < n → fX8_goesTo (nI P) (nI n) (nI h) g (nf W) kf hf mf s af (nI i) = some (nI (nxt W P n K H M (fun p => !G p && dk (K p)) h L i), s') := by
      intro s i
      by_cases hi : i < n
      · obtain ⟨st, e⟩ := p_mgoesTo (s0 := s) T hg hk hh hm hl hi
        exact ⟨st, fun _ => e⟩
      · exact ⟨s, fun q => absurd q hi⟩
    refine ⟨fun i => Nat.rec s0 (fun j s => Classical.choose (hc s j)) i, rfl, fun i hi => ?_⟩
    exact Classical.choose_spec (hc _ i) hi
  obtain ⟨sq, hs0, hsq⟩ := hst
  refine ⟨sq n, ov n t0 (nxt W P n K H M (fun p => !G p && dk (K p)) h L), ?_⟩
  unfold fX8_goes
  refine lq3 (fun i => nI i) sq (fun i => ov i t0 (nxt W P n K H M (fun p => !G p && dk (K p)) h L)) n rfl hs0.symm (ov_0 _ _).symm (fun i hi ag2 => ?_) (fun ag2 => ?_) 400 (by omega)
  · rw [if_neg (by rw [nle (by omega) (by omega)]; omega), hsq i hi]
    simp only [bo2, vlet]
    rw [if_n (nin (k := i) (N := 8) (by omega) (by omega)), nc (n := i) (by omega), nI_1, ov_s]
  · rw [if_pos (by rw [nle (by omega) (by omega)]; omega)]
    refine lq2 (fun i => nI i) (fun i => ov i af (nxt W P n K H M (fun p => !G p && dk (K p)) h L)) n rfl (ov_0 _ _).symm (fun i hi ag3 => ?_) (fun ag3 => ?_) 400 (by omega)
    · rw [if_neg (by rw [nle (by omega) (by omega)]; omega)]
      simp only [if_n (nin (k := i) (N := 8) (by omega) (by omega)), vlet]
      rw [nc (n := i) (by omega), nI_1, ov_ag n t0 _ i hi, ov_s]
    · rw [if_pos (by rw [nle (by omega) (by omega)]; omega)]
      simp only [jo1]
      unfold nh
      rw [nI_1]
      simp only [show (9999 : Int32) = nI 9999 from rfl, nle (a := 9999) (b := h) (by omega) (by omega)]
      by_cases q : h < 9999
      · rw [if_neg (by omega), if_pos q]
      · rw [if_pos (by omega), if_neg q]
theorem tok.next {P n h : Nat} {W K H M L : Nat → Nat} (T : tok P n W K H M L h) (D : Nat → Bool) : tok P n W K H M (nxt W P n K H M D h L) (nh h) := by
  obtain ⟨hP2, hP, hn, hW, hK, hH, hM, hL, hho⟩ := T
  exact ⟨hP2, hP, hn, hW, hK, hH, hM, fun p hp => gto_lt (hL p hp), nh_le h⟩
