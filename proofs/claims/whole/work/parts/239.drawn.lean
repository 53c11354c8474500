/-! ===== hours by draws ===== -/
theorem vletN {α ρ : Type} (e : α) (k : α → ρ) : vlet e k = k e := Eq.trans rfl rfl
theorem jo0N {ρ : Type} (K : Option ρ) (B : Option ρ → Option ρ) : jo0 K B = B K := Eq.trans rfl rfl
theorem jo1N {A1 ρ : Type} (K : A1 → Option ρ) (B : (A1 → Option ρ) → Option ρ) : jo1 K B = B K := Eq.trans rfl rfl
theorem jo2N {A1 A2 ρ : Type} (K : A1 → A2 → Option ρ) (B : (A1 → A2 → Option ρ) → Option ρ) : jo2 K B = B K := Eq.trans rfl rfl
theorem bo1N {A1 ρ : Type} (a1 : A1) (f : A1 → Option ρ) : bo1 (some (a1)) f = f a1 := Eq.trans rfl rfl
theorem bo2N {A1 A2 ρ : Type} (a1 : A1) (a2 : A2) (f : A1 → A2 → Option ρ) : bo2 (some (a1, a2)) f = f a1 a2 := Eq.trans rfl rfl
theorem bo3N {A1 A2 A3 ρ : Type} (a1 : A1) (a2 : A2) (a3 : A3) (f : A1 → A2 → A3 → Option ρ) : bo3 (some (a1, a2, a3)) f = f a1 a2 a3 := Eq.trans rfl rfl
theorem bo4N {A1 A2 A3 A4 ρ : Type} (a1 : A1) (a2 : A2) (a3 : A3) (a4 : A4) (f : A1 → A2 → A3 → A4 → Option ρ) : bo4 (some (a1, a2, a3, a4)) f = f a1 a2 a3 a4 := Eq.trans rfl rfl
theorem bo5N {A1 A2 A3 A4 A5 ρ : Type} (a1 : A1) (a2 : A2) (a3 : A3) (a4 : A4) (a5 : A5) (f : A1 → A2 → A3 → A4 → A5 → Option ρ) : bo5 (some (a1, a2, a3, a4, a5)) f = f a1 a2 a3 a4 a5 := Eq.trans rfl rfl
theorem bo6N {A1 A2 A3 A4 A5 A6 ρ : Type} (a1 : A1) (a2 : A2) (a3 : A3) (a4 : A4) (a5 : A5) (a6 : A6) (f : A1 → A2 → A3 → A4 → A5 → A6 → Option ρ) : bo6 (some (a1, a2, a3, a4, a5, a6)) f = f a1 a2 a3 a4 a5 a6 := Eq.trans rfl rfl
theorem bo12N {A1 A2 A3 A4 A5 A6 A7 A8 A9 A10 A11 A12 ρ : Type} (a1 : A1) (a2 : A2) (a3 : A3) (a4 : A4) (a5 : A5) (a6 : A6) (a7 : A7) (a8 : A8) (a9 : A9) (a10 : A10) (a11 : A11) (a12 : A12) (f : A1 → A2 → A3 → A4 → A5 → A6 → A7 → A8 → A9 → A10 → A11 → A12 → Option ρ) : bo12 (some (a1, a2, a3, a4, a5, a6, a7, a8, a9, a10, a11, a12)) f = f a1 a2 a3 a4 a5 a6 a7 a8 a9 a10 a11 a12 := Eq.trans rfl rfl
def nxs (s : Int32) : Int32 := (s * (1103515245 : Int32)) + (12345 : Int32)
def ra (s : Int32) : Nat := ((nxs s).toUInt32 >>> ((16 : Int32).toUInt32 &&& Int32.toUInt32 31)).toNat
theorem ra_lt (s : Int32) : ra s < 65536 := by
  unfold ra
  rw [show ((16 : Int32).toUInt32 &&& Int32.toUInt32 31) = (16 : UInt32) from by decide, UInt32.toNat_shiftRight, Nat.shiftRight_eq_div_pow]
  have h := UInt32.toNat_lt (nxs s).toUInt32
  have h2 : (16 : UInt32).toNat % 32 = 16 := by decide
  rw [h2]
  omega
theorem ra_int (s : Int32) : ((nxs s).toUInt32 >>> ((16 : Int32).toUInt32 &&& Int32.toUInt32 31)).toInt32 = nI (ra s) := by
  unfold ra
  generalize ((nxs s).toUInt32 >>> ((16 : Int32).toUInt32 &&& Int32.toUInt32 31)) = u
  apply Int32.toBitVec_inj.1
  show u.toBitVec = BitVec.ofNat 32 u.toBitVec.toNat
  simp
theorem n_rem {a c : Nat} (ha : a < 65536) (hc : 0 < c) (hc2 : c ≤ 1000) : nI a - nI a / nI c * nI c = nI (a % c) := by
  rw [pk_div (by omega) hc (by omega), pk_mul]
  have h := Nat.div_add_mod a c
  rw [Nat.mul_comm] at h
  rw [pk_sub (by omega)]
  congr 1
  omega
theorem p_below {s : Int32} {c : Nat} (hc : 0 < c) (hc2 : c ≤ 1000) : fX8_below s (nI c) = some (nI (ra s % c), nxs s) := by
  unfold fX8_below
  rw [if_neg (by rw [show (0 : Int32) = nI 0 from rfl, nI_eq (by omega) (by omega)]; omega)]
  show some (((nxs s).toUInt32 >>> ((16 : Int32).toUInt32 &&& Int32.toUInt32 31)).toInt32 - ((nxs s).toUInt32 >>> ((16 : Int32).toUInt32 &&& Int32.toUInt32 31)).toInt32 / nI c * nI c, nxs s) = _
  rw [ra_int, n_rem (ra_lt s) hc hc2]
theorem p_draw {s : Int32} {c : Nat} (hc : 0 < c) (hc2 : c ≤ 1000) : fX5_draw s (nI c) = some (nI (ra s % c), nxs s) := by
  unfold fX5_draw
  rw [if_pos (by rw [show (1 : Int32) = nI 1 from rfl, nI_leI (by omega) (by omega)]; exact hc), if_neg (by rw [show (0 : Int32) = nI 0 from rfl, nI_eq (by omega) (by omega)]; omega)]
  show some (((nxs s).toUInt32 >>> ((16 : Int32).toUInt32 &&& Int32.toUInt32 31)).toInt32 - ((nxs s).toUInt32 >>> ((16 : Int32).toUInt32 &&& Int32.toUInt32 31)).toInt32 / nI c * nI c, nxs s) = _
  rw [ra_int, n_rem (ra_lt s) hc hc2]
/-! the r-th bit of m -/
theorem cnt_le2 {Q : Nat → Bool} {a b : Nat} (h : a ≤ b) : cnt Q a ≤ cnt Q b := by
  induction b with
  | zero => rw [show a = 0 by omega]; exact Nat.le_refl _
  | succ b ih =>
    by_cases e : a = b + 1
    · rw [e]; exact Nat.le_refl _
    · have := ih (by omega)
      rw [cnt_s]; omega
theorem cnt_lt2 {Q : Nat → Bool} {a b : Nat} (h : a < b) (hq : Q a = true) : cnt Q a + 1 ≤ cnt Q b := by
  have := cnt_le2 (Q := Q) (show a + 1 ≤ b by omega)
  rw [cnt_s, if_pos hq] at this
  exact this
theorem cnt_nth {Q : Nat → Bool} {l r : Nat} (h : r < cnt Q l) : ∃ j, j < l ∧ Q j = true ∧ cnt Q j = r := by
  induction l with
  | zero => exact absurd h (Nat.not_lt_zero _)
  | succ l ih =>
    by_cases g : r < cnt Q l
    · obtain ⟨j, h1, h2, h3⟩ := ih g
      exact ⟨j, by omega, h2, h3⟩
    · rw [cnt_s] at h
      by_cases hq : Q l = true
      · rw [if_pos hq] at h
        exact ⟨l, by omega, hq, by omega⟩
      · rw [if_neg hq] at h; omega
def clr (m : Nat) : Nat → Nat
  | 0 => m
  | r + 1 => clr m r &&& (clr m r - 1)
theorem and_pred : ∀ m, m < 4096 → m &&& (m - 1) = nd m (2 ^ ((ff (fun i => m.testBit i) 12 0).getD 0)) := split64 (Q := fun m => m &&& (m - 1) = nd m (2 ^ ((ff (fun i => m.testBit i) 12 0).getD 0))) (by decide +kernel)
theorem clr_lt {m : Nat} (hm : m < 4096) (r : Nat) : clr m r < 4096 := by
  induction r with
  | zero => exact hm
  | succ r ih => exact Nat.lt_of_le_of_lt Nat.and_le_left ih
theorem clr_bit {m : Nat} (hm : m < 4096) (r i : Nat) : (clr m r).testBit i = true ↔ m.testBit i = true ∧ r ≤ cnt (fun j => m.testBit j) i := by
  induction r generalizing i with
  | zero => simp [clr]
  | succ r ih =>
    have hr := clr_lt hm r
    rw [clr, and_pred _ hr]
    by_cases z : clr m r = 0
    · have hno : ∀ i, ¬ (m.testBit i = true ∧ r ≤ cnt (fun j => m.testBit j) i) := fun i g => by
        have := (ih i).2 g
        rw [z, Nat.zero_testBit] at this; cases this
      rw [z, nd_bit, Nat.zero_testBit]
      constructor
      · intro h; simp at h
      · rintro ⟨h1, h2⟩; exact absurd ⟨h1, by omega⟩ (hno i)
    · obtain ⟨l, hl, l1, l2⟩ := low_bit z hr
      rw [ff_eq (q := l) (Nat.zero_le _) (by omega) l1 (fun j _ hj => l2 j hj)]
      show (nd (clr m r) (2 ^ l)).testBit i = true ↔ _
      rw [nd_bit, Nat.testBit_two_pow, Bool.and_eq_true, Bool.not_eq_true', decide_eq_false_iff_not, ih i]
      have hl2 := (ih l).1 l1
      constructor
      · rintro ⟨⟨h1, h2⟩, h3⟩
        refine ⟨h1, ?_⟩
        rcases Nat.lt_trichotomy l i with g | g | g
        · have := cnt_lt2 (Q := fun j => m.testBit j) g hl2.1
          omega
        · exact absurd g h3
        · have := l2 i g
          rw [(ih i).2 ⟨h1, h2⟩] at this; cases this
      · rintro ⟨h1, h2⟩
        refine ⟨⟨h1, by omega⟩, ?_⟩
        rintro rfl
        obtain ⟨j, j1, j2, j3⟩ := cnt_nth (Q := fun j => m.testBit j) (r := r) (l := l) (by omega)
        have := l2 j j1
        rw [(ih j).2 ⟨j2, by omega⟩] at this; cases this
def sel (m r : Nat) : Nat := (ff (fun i => m.testBit i && (cnt (fun j => m.testBit j) i == r)) 12 0).getD 0
theorem sel_ok {m r : Nat} (h : r < pc m 12) : sel m r < 12 ∧ m.testBit (sel m r) = true ∧ cnt (fun j => m.testBit j) (sel m r) = r := by
  rw [pc_cnt] at h
  obtain ⟨j, j1, j2, j3⟩ := cnt_nth h
  unfold sel
  cases e : ff (fun i => m.testBit i && (cnt (fun j => m.testBit j) i == r)) 12 0 with
  | none =>
    have := ff_none e j (Nat.zero_le _) (by omega)
    simp only [j3, beq_self_eq_true, Bool.and_true] at this
    rw [this] at j2; cases j2
  | some q =>
    obtain ⟨-, h2, h3, -⟩ := ff_some e
    simp only [Bool.and_eq_true, beq_iff_eq] at h3
    exact ⟨by show q < 12; omega, h3.1, h3.2⟩
/-- one's draw: the next number, where one is then -/
def dr1 (W : Nat → Nat) (ch s : Int32) (x : Nat) : Int32 × Nat := if ch ≤ nI (ra s % 12) then (nxs s, x) else if W x = 0 then (nxs s, x) else (nxs (nxs s), sel (W x) (ra (nxs s) % pc (W x) 12))
theorem pc_pos {m : Nat} (h : m ≠ 0) (hm : m < 4096) : 0 < pc m 12 := by
  obtain ⟨l, hl, l1, -⟩ := low_bit h hm
  rw [pc_cnt]
  have := cnt_lt2 (Q := fun j => m.testBit j) hl l1
  omega
theorem dr1_lt {W : Nat → Nat} {P x : Nat} {ch s : Int32} (hW : wok P W) (hP : P ≤ 12) (hx : x < P) : (dr1 W ch s x).2 < P := by
  unfold dr1
  by_cases a : ch ≤ nI (ra s % 12)
  · rw [if_pos a]; exact hx
  · rw [if_neg a]
    by_cases b : W x = 0
    · rw [if_pos b]; exact hx
    · rw [if_neg b]
      have hm := hW.lt hP x
      have h := (sel_ok (Nat.mod_lt (ra (nxs s)) (pc_pos b (by omega)))).2.1
      apply Nat.lt_of_not_le
      intro g
      rw [Nat.testBit_lt_two_pow (Nat.lt_of_lt_of_le (hW.1 x) (Nat.pow_le_pow_right (by decide) g))] at h
      cases h
theorem i12c : (12 : Int32) = nI 12 := rfl
theorem p_drawPlace {W L : Nat → Nat} {P n p : Nat} {ch s : Int32} {af : Nat → Int32} (hW : wok P W) (hP : P ≤ 12) (hn : n ≤ 8) (hp : p < n) (hl : af p = nI (L p)) (hL : L p < P) : fX5_drawPlace (nI P) ch s (nf W) af (nI p) = some ((dr1 W ch s (L p)).1, upd af p (nI (dr1 W ch s (L p)).2)) := by
  have hm := hW.lt hP (L p)
  unfold fX5_drawPlace
  have d12 : fX5_draw s (12 : Int32) = some (nI (ra s % 12), nxs s) := p_draw (c := 12) (by omega) (by omega)
  have pz := neq (a := pc (W (L p)) 12) (b := 0) (Nat.le_trans (pc_12 _) (by omega)) (by omega)
  have pz' : (nI (pc (W (L p)) 12) = 0) = (pc (W (L p)) 12 = 0) := pz
  simp only [n1z, n0z, bo1N, bo2N, bo3N, bo4N, bo5N, bo6N, bo12N, jo0N, jo1N, jo2N, vletN, i10, i00, if_true, if_false, ite_self, if_n (nin (k := p) (N := 8) (by omega) (by omega)), if_n (nin2 (k := p) (N := 8) (by omega) (by omega)), nc (n := p) (by omega), hl, if_n (nin (k := (L p)) (N := 12) (by omega) (by omega)), if_n (nin2 (k := (L p)) (N := 12) (by omega) (by omega)), nc (n := (L p)) (by omega), nf_ap, p_bitCount (W (L p)) (by omega), d12, pz']
  unfold dr1
  by_cases a : ch ≤ nI (ra s % 12)
  · rw [if_pos a, if_pos a, upd_self hl]
  · rw [if_neg a, if_neg a]
    by_cases b : W (L p) = 0
    · rw [if_pos b, if_pos (by rw [b]; decide), upd_self hl]
    · have hpc := pc_pos b (by omega)
      have hpc2 := pc_12 (W (L p))
      rw [if_neg b, if_neg (by omega), p_draw hpc (by omega)]
      have hr := Nat.mod_lt (ra (nxs s)) hpc
      generalize ra (nxs s) % pc (W (L p)) 12 = r at hr ⊢
      obtain ⟨s1, s2, s3⟩ := sel_ok hr
      have hs : sel (W (L p)) r < P := by
        apply Nat.lt_of_not_le
        intro g
        rw [Nat.testBit_lt_two_pow (Nat.lt_of_lt_of_le (hW.1 (L p)) (Nat.pow_le_pow_right (by decide) g))] at s2
        cases s2
      rw [bo2N]
      refine lq2 (fun i => nI (r - cnt (fun j => (W (L p)).testBit j) i)) (fun i => nI i) (sel (W (L p)) r) (by rw [show cnt (fun j => (W (L p)).testBit j) 0 = 0 from rfl, Nat.sub_zero]) rfl (fun i hi g => ?_) (fun g => ?_) 400 (by omega)
      · simp only [nle (a := P) (b := i) (by omega) (by omega), show ¬ P ≤ i from by omega, bo1, bo2, bo3, bo4, bo5, bo6, bo7, bo12, jo0, jo1, vlet, i10, i00, if_true, if_false, ite_self, n1z, n0z, p_hasWay hW hP (show L p < 12 by omega) (show i < 31 by omega), b01, nI_1]
        rw [cnt_s]
        by_cases c : (W (L p)).testBit i = true
        · have := cnt_lt2 (Q := fun j => (W (L p)).testBit j) hi c
          obtain ⟨k, hk⟩ : ∃ k, r - cnt (fun j => (W (L p)).testBit j) i = k + 1 := ⟨r - cnt (fun j => (W (L p)).testBit j) i - 1, by omega⟩
          have kz : (nI (k + 1) = 0) = False := eq_false (by rw [show (0 : Int32) = nI 0 from rfl, nI_eq (by omega) (by omega)]; omega)
          simp only [c, Bool.true_eq_false, bo1, bo2, bo3, bo4, bo5, bo6, bo7, bo12, jo0, jo1, vlet, i10, i00, if_true, if_false, ite_self, n1z, n0z, hk, kz, pk_m1]
          congr 2
          omega
        · have c' : (W (L p)).testBit i = false := by simpa using c
          simp only [c', Bool.false_eq_true, bo1, bo2, bo3, bo4, bo5, bo6, bo7, bo12, jo0, jo1, vlet, i10, i00, if_true, if_false, ite_self, n1z, n0z, Nat.add_zero]
      · simp only [nle (a := P) (b := sel (W (L p)) r) (by omega) (by omega), show ¬ P ≤ sel (W (L p)) r from by omega, bo1, bo2, bo3, bo4, bo5, bo6, bo7, bo12, jo0, jo1, vlet, i10, i00, if_true, if_false, ite_self, n1z, n0z, p_hasWay hW hP (show L p < 12 by omega) (show sel (W (L p)) r < 31 by omega), b01, s2, Bool.true_eq_false, s3, Nat.sub_self, if_n (nin (k := p) (N := 8) (by omega) (by omega)), if_n (nin2 (k := p) (N := 8) (by omega) (by omega)), nc (n := p) (by omega)]
theorem p_strays {W K L : Nat → Nat} {P n p : Nat} {ch s : Int32} {kf sp : Nat → Int32} (hW : wok P W) (hP : P ≤ 12) (hn : n ≤ 8) (hp : p < n) (hk : kf p = nI (K p)) (hK : K p < 6) (hl : sp p = nI (L p)) (hL : L p < P) : fX8_strays ch s (nf W) kf sp (nI p) = if K p = 1 ∨ K p = 3 then some (s, sp) else some ((dr1 W ch s (L p)).1, upd sp p (nI (dr1 W ch s (L p)).2)) := by
  have hm := hW.lt hP (L p)
  unfold fX8_strays
  have d12 : fX8_below s (12 : Int32) = some (nI (ra s % 12), nxs s) := p_below (c := 12) (by omega) (by omega)
  have k1 : (nI (K p) = (1 : Int32)) = (K p = 1) := neq (b := 1) (by omega) (by omega)
  have k3 : (nI (K p) = (3 : Int32)) = (K p = 3) := neq (b := 3) (by omega) (by omega)
  have wz : (nI (W (L p)) = 0) = (W (L p) = 0) := neq (b := 0) (by omega) (by omega)
  simp only [n1z, n0z, bo1N, bo2N, bo3N, bo4N, bo5N, bo6N, bo12N, jo0N, jo1N, jo2N, vletN, i10, i00, if_true, if_false, ite_self, if_n (nin (k := p) (N := 8) (by omega) (by omega)), if_n (nin2 (k := p) (N := 8) (by omega) (by omega)), nc (n := p) (by omega), hk, k1, k3]
  by_cases e : K p = 1
  · rw [if_pos e, if_pos (Or.inl e)]
  · by_cases e3 : K p = 3
    · rw [if_neg e, if_pos e3, if_pos (Or.inr e3)]
    · rw [if_neg e, if_neg e3, if_neg (fun g => g.elim e e3)]
      simp only [n1z, n0z, bo1N, bo2N, bo3N, bo4N, bo5N, bo6N, bo12N, jo0N, jo1N, jo2N, vletN, i10, i00, if_true, if_false, ite_self, hl, if_n (nin (k := (L p)) (N := 12) (by omega) (by omega)), if_n (nin2 (k := (L p)) (N := 12) (by omega) (by omega)), nc (n := (L p)) (by omega), nf_ap, d12, wz]
      unfold dr1
      by_cases a : ch ≤ nI (ra s % 12)
      · rw [if_pos a, if_pos a, upd_self hl]
      · rw [if_neg a, if_neg a]
        by_cases b : W (L p) = 0
        · rw [if_pos b, if_pos b, upd_self hl]
        · have hpc := pc_pos b (by omega)
          have hpc2 := pc_12 (W (L p))
          rw [if_neg b, if_neg b, p_bits _ (by omega)]
          rw [bo1N, p_below hpc (by omega)]
          have hr := Nat.mod_lt (ra (nxs s)) hpc
          generalize ra (nxs s) % pc (W (L p)) 12 = r at hr ⊢
          obtain ⟨s1, s2, s3⟩ := sel_ok hr
          have hc : ∀ i, i ≤ r → (clr (W (L p)) i).testBit (sel (W (L p)) r) = true := fun i hi => (clr_bit (by omega) i _).2 ⟨s2, by omega⟩
          rw [bo2N]
          refine lq2 (fun i => nI (clr (W (L p)) i)) (fun i => nI i) r rfl rfl (fun i hi g => ?_) (fun g => ?_) 400 (by omega)
          · have h0 : 0 < clr (W (L p)) i := Nat.pos_of_ne_zero (fun z => by
              have := hc i (by omega)
              rw [z, Nat.zero_testBit] at this; cases this)
            simp only [nle (a := r) (b := i) (by omega) (by omega), show ¬ r ≤ i from by omega, bo1, bo2, bo3, bo4, bo5, bo6, bo7, bo12, jo0, jo1, vlet, i10, i00, if_true, if_false, ite_self, n1z, n0z, n_sub1 h0, n_and, nI_1, clr]
          · rw [if_pos (Int32.le_refl _)]
            have hcl := clr_lt (m := W (L p)) (by omega) r
            refine lsf (fun j => (clr (W (L p)) r).testBit j) (fun j => some (nxs (nxs s), upd sp p (nI j))) 0 (sel (W (L p)) r) (Nat.zero_le _) (hc r (Nat.le_refl _)) (fun j _ hj => ?_) (fun i _ hi g => ?_) 400 (by omega)
            · apply Bool.eq_false_iff.2
              intro c
              obtain ⟨c1, c2⟩ := (clr_bit (by omega) r j).1 c
              have := cnt_lt2 (Q := fun j => (W (L p)).testBit j) hj c1
              omega
            · simp only [n_bit0 (m := clr (W (L p)) r) (k := i) (by omega) (by omega), vlet_e, nI_1, if_n (nin (k := p) (N := 8) (by omega) (by omega)), nc (n := p) (by omega)]
              by_cases c : (clr (W (L p)) r).testBit i = true
              · simp only [c, Bool.true_eq_false, bo1, bo2, bo3, bo4, bo5, bo6, bo7, bo12, jo0, jo1, vlet, i10, i00, if_true, if_false, ite_self, n1z, n0z, if_n (nin (k := p) (N := 8) (by omega) (by omega)), if_n (nin2 (k := p) (N := 8) (by omega) (by omega)), nc (n := p) (by omega)]
              · have c' : (clr (W (L p)) r).testBit i = false := by simpa using c
                simp only [c', Bool.false_eq_true, bo1, bo2, bo3, bo4, bo5, bo6, bo7, bo12, jo0, jo1, vlet, i10, i00, if_true, if_false, ite_self, n1z, n0z]
/-- behind i people: the number, where all are -/
def dst (W K : Nat → Nat) (ch s : Int32) (L : Nat → Nat) : Nat → Int32 × (Nat → Nat)
  | 0 => (s, L)
  | i + 1 => if K i = 1 ∨ K i = 3 then dst W K ch s L i else ((dr1 W ch (dst W K ch s L i).1 ((dst W K ch s L i).2 i)).1, nup (dst W K ch s L i).2 i (dr1 W ch (dst W K ch s L i).1 ((dst W K ch s L i).2 i)).2)
theorem dst_s (W K : Nat → Nat) (ch s : Int32) (L : Nat → Nat) (i : Nat) : dst W K ch s L (i + 1) = if K i = 1 ∨ K i = 3 then dst W K ch s L i else ((dr1 W ch (dst W K ch s L i).1 ((dst W K ch s L i).2 i)).1, nup (dst W K ch s L i).2 i (dr1 W ch (dst W K ch s L i).1 ((dst W K ch s L i).2 i)).2) := rfl
def dsa (W K : Nat → Nat) (ch s : Int32) (L : Nat → Nat) (f : Nat → Int32) : Nat → (Nat → Int32)
  | 0 => f
  | i + 1 => if K i = 1 ∨ K i = 3 then dsa W K ch s L f i else upd (dsa W K ch s L f i) i (nI (dr1 W ch (dst W K ch s L i).1 ((dst W K ch s L i).2 i)).2)
theorem dsa_s (W K : Nat → Nat) (ch s : Int32) (L : Nat → Nat) (f : Nat → Int32) (i : Nat) : dsa W K ch s L f (i + 1) = if K i = 1 ∨ K i = 3 then dsa W K ch s L f i else upd (dsa W K ch s L f i) i (nI (dr1 W ch (dst W K ch s L i).1 ((dst W K ch s L i).2 i)).2) := rfl
theorem dst_lt {W K L : Nat → Nat} {P n : Nat} {ch s : Int32} (hW : wok P W) (hP : P ≤ 12) (hL : ∀ p, p < n → L p < P) : ∀ i, i ≤ n → ∀ p, p < n → (dst W K ch s L i).2 p < P := by
  intro i
  induction i with
  | zero => intro _; exact hL
  | succ i ih =>
    intro hi
    rw [dst_s]
    by_cases e : K i = 1 ∨ K i = 3
    · rw [if_pos e]; exact ih (by omega)
    · rw [if_neg e]
      exact nup_lt (ih (by omega)) (dr1_lt hW hP (ih (by omega) i (by omega)))
theorem dsa_ag {W K L : Nat → Nat} {n : Nat} {ch s : Int32} {f : Nat → Int32} (hl : ag n f L) (i : Nat) : ag n (dsa W K ch s L f i) (dst W K ch s L i).2 := by
  induction i with
  | zero => exact hl
  | succ i ih =>
    rw [dst_s, dsa_s]
    by_cases e : K i = 1 ∨ K i = 3
    · rw [if_pos e, if_pos e]; exact ih
    · rw [if_neg e, if_neg e]; exact ag_up ih i _
theorem p_passDrawn {W K L : Nat → Nat} {P n h : Nat} {ch s : Int32} {kf af : Nat → Int32} (hW : wok P W) (hP : P ≤ 12) (hn : n ≤ 8) (hh : h ≤ 9999) (hk : ag n kf K) (hK : ∀ p, p < n → K p < 6) (hl : ag n af L) (hL : ∀ p, p < n → L p < P) : fX5_passDrawnHour (nI P) (nI n) (nI h) ch s (nf W) kf af = some (nI (nh h), (dst W K ch s L n).1, dsa W K ch s L af n) := by
  unfold fX5_passDrawnHour
  refine lq3 (fun i => nI i) (fun i => (dst W K ch s L i).1) (fun i => dsa W K ch s L af i) n rfl rfl rfl (fun i hi g => ?_) (fun g => ?_) 400 (by omega)
  · have hKi := hK i hi
    have k1 : (nI (K i) = (1 : Int32)) = (K i = 1) := neq (b := 1) (by omega) (by omega)
    have k3 : (nI (K i) = (3 : Int32)) = (K i = 3) := neq (b := 3) (by omega) (by omega)
    have ha := dsa_ag (W := W) (K := K) (ch := ch) (s := s) hl i i hi
    have hb := dst_lt (K := K) (ch := ch) (s := s) hW hP hL i (by omega) i hi
    have hd := p_drawPlace (ch := ch) (s := (dst W K ch s L i).1) hW hP hn hi ha hb
    rw [dst_s, dsa_s]
    generalize dst W K ch s L i = D at ha hb hd ⊢
    generalize dsa W K ch s L af i = f at ha hd ⊢
    generalize dr1 W ch D.1 (D.2 i) = R at hd ⊢
    obtain ⟨D1, D2⟩ := D
    obtain ⟨R1, R2⟩ := R
    simp only at ha hb hd ⊢
    rw [if_neg (by rw [nle (by omega) (by omega)]; omega)]
    simp only [n1z, n0z, bo1N, bo2N, bo3N, bo4N, bo5N, bo6N, bo12N, jo0N, jo1N, jo2N, vletN, i10, i00, if_true, if_false, ite_self, if_n (nin (k := i) (N := 8) (by omega) (by omega)), if_n (nin2 (k := i) (N := 8) (by omega) (by omega)), nc (n := i) (by omega), hk i hi, k1, k3, hd, nI_1]
    by_cases e : K i = 1
    · rw [if_pos e, if_pos (Or.inl e), if_pos (Or.inl e)]
    · by_cases e3 : K i = 3
      · rw [if_neg e, if_pos e3, if_pos (Or.inr e3), if_pos (Or.inr e3)]
      · rw [if_neg e, if_neg e3, if_neg (fun g => g.elim e e3), if_neg (fun g => g.elim e e3)]
  · rw [if_pos (Int32.le_refl _), p_endHour hh]
    rfl
/-- hour by hour -/
def hst (W K : Nat → Nat) (n : Nat) (ch s : Int32) (L : Nat → Nat) : Nat → Int32 × (Nat → Nat)
  | 0 => (s, L)
  | t + 1 => dst W K ch (hst W K n ch s L t).1 (hst W K n ch s L t).2 n
def hsa (W K : Nat → Nat) (n : Nat) (ch s : Int32) (L : Nat → Nat) (f : Nat → Int32) : Nat → (Nat → Int32)
  | 0 => f
  | t + 1 => dsa W K ch (hst W K n ch s L t).1 (hst W K n ch s L t).2 (hsa W K n ch s L f t) n
theorem hst_lt {W K L : Nat → Nat} {P n : Nat} {ch s : Int32} (hW : wok P W) (hP : P ≤ 12) (hL : ∀ p, p < n → L p < P) : ∀ t, ∀ p, p < n → (hst W K n ch s L t).2 p < P := by
  intro t
  induction t with
  | zero => exact hL
  | succ t ih => exact dst_lt hW hP ih n (Nat.le_refl _)
theorem hsa_ag {W K L : Nat → Nat} {n : Nat} {ch s : Int32} {f : Nat → Int32} (hl : ag n f L) (t : Nat) : ag n (hsa W K n ch s L f t) (hst W K n ch s L t).2 := by
  induction t with
  | zero => exact hl
  | succ t ih => exact dsa_ag ih n
theorem hc_le {h : Nat} (hh : h ≤ 9999) : ∀ t, hc h t ≤ 9999 := by
  intro t
  cases t with
  | zero => exact hh
  | succ t => exact nh_le _
/-- how many shine, all hours together -/
def sml (W K : Nat → Nat) (P n : Nat) (ch s : Int32) (L : Nat → Nat) : Nat → Nat
  | 0 => 0
  | t + 1 => sml W K P n ch s L t + pc (ltm P (dkm (fun p => dk (K p)) (hst W K n ch s L (t + 1)).2 n)) 12
theorem n_9999 {h : Nat} (hh : h ≤ 9999) : (if (9999 : Int32) ≤ nI h then (9999 : Int32) else nI h + 1) = nI (nh h) := by
  unfold nh
  rw [nI_1]
  simp only [show (9999 : Int32) = nI 9999 from rfl, nle (a := 9999) (b := h) (by omega) (by omega)]
  by_cases q : h < 9999
  · rw [if_neg (by omega), if_pos q]
  · rw [if_pos (by omega), if_neg q]
theorem tt_drawn {x_now_places : Int32} {x_now_people : Int32} {x_now_hour : Int32} {x_now_chance : Int32} {x_now_seed : Int32} {x_now_ways : Nat → Int32} {x_now_distances : Nat → Int32} {x_now_kind : Nat → Int32} {x_now_a : Nat → Int32} {x_now_home : Nat → Int32} {x_now_aim : Nat → Int32} {x_now_at : Nat → Int32} {x_kept_places : Int32} {x_kept_people : Int32} {x_kept_hour : Int32} {x_kept_chance : Int32} {x_kept_seed : Int32} {x_kept_ways : Nat → Int32} {x_kept_distances : Nat → Int32} {x_kept_kind : Nat → Int32} {x_kept_a : Nat → Int32} {x_kept_home : Nat → Int32} {x_kept_aim : Nat → Int32} {x_kept_at : Nat → Int32} {x_isKept : Int32} {x_shelves_c : Nat → Int32} {x_shelves_z : Nat → Int32} {x_shelves_e : Nat → Nat → Int64} {x_tape_size : Int32} {x_tape_bytes : Nat → Int32} {x_refusals : Nat → Int32} {m_places : Int32} {m_people : Int32} {m_hour : Int32} {m_chance : Int32} {m_seed : Int32} {m_ways : Nat → Int32} {m_kind : Nat → Int32} {m_by : Nat → Int32} {m_home : Nat → Int32} {m_aim : Nat → Int32} {m_at0 : Nat → Int32} {m_shelf : Nat → Int32} {m_rowSort : Nat → Int32} {m_rowSize : Nat → Int32} {m_rows : Nat → Nat → Int64} {m_shown : Nat → Int32} {m_tape : Nat → Int32} {m_tapeSize : Int32} {m_refused : Nat → Int32} {m_gone : Int32} {m_kept_places : Int32} {m_kept_people : Int32} {m_kept_hour : Int32} {m_kept_chance : Int32} {m_kept_seed : Int32} {m_kept_ways : Nat → Int32} {m_kept_kind : Nat → Int32} {m_kept_by : Nat → Int32} {m_kept_home : Nat → Int32} {m_kept_aim : Nat → Int32} {m_kept_at0 : Nat → Int32} {kb : Bool} (m_now : Int32) (m_spot : Nat → Int32) (p0 : Int32) (R : Rel kb x_now_places x_now_people x_now_hour x_now_chance x_now_seed x_now_ways x_now_distances x_now_kind x_now_a x_now_home x_now_aim x_now_at x_kept_places x_kept_people x_kept_hour x_kept_chance x_kept_seed x_kept_ways x_kept_distances x_kept_kind x_kept_a x_kept_home x_kept_aim x_kept_at x_isKept x_shelves_c x_shelves_z x_shelves_e x_tape_size x_tape_bytes x_refusals m_places m_people m_hour m_chance m_seed m_ways m_kind m_by m_home m_aim m_at0 m_shelf m_rowSort m_rowSize m_rows m_shown m_tape m_tapeSize m_refused m_gone m_kept_places m_kept_people m_kept_hour m_kept_chance m_kept_seed m_kept_ways m_kept_kind m_kept_by m_kept_home m_kept_aim m_kept_at0) : ∃ (r : Int32) (y_now_hour : Int32) (y_now_seed : Int32) (y_now_at : Nat → Int32) (y_refusals : Nat → Int32) (z_hour : Int32) (z_seed : Int32) (z_now : Int32) (z_refused : Nat → Int32) (z_at0 : Nat → Int32) (z_spot : Nat → Int32), fX7_drawn x_now_places x_now_people x_now_hour x_now_chance x_now_seed x_now_ways x_now_kind x_now_at x_refusals p0 = some (r, y_now_hour, y_now_seed, y_now_at, y_refusals) ∧ fX8_drawn m_places m_people m_hour m_chance m_seed m_now m_gone m_refused m_ways m_kind m_at0 m_spot p0 = some (r, z_hour, z_seed, z_now, z_refused, z_at0, z_spot) ∧ Rel kb x_now_places x_now_people y_now_hour x_now_chance y_now_seed x_now_ways x_now_distances x_now_kind x_now_a x_now_home x_now_aim y_now_at x_kept_places x_kept_people x_kept_hour x_kept_chance x_kept_seed x_kept_ways x_kept_distances x_kept_kind x_kept_a x_kept_home x_kept_aim x_kept_at x_isKept x_shelves_c x_shelves_z x_shelves_e x_tape_size x_tape_bytes y_refusals m_places m_people z_hour m_chance z_seed m_ways m_kind m_by m_home m_aim z_at0 m_shelf m_rowSort m_rowSize m_rows m_shown m_tape m_tapeSize z_refused m_gone m_kept_places m_kept_people m_kept_hour m_kept_chance m_kept_seed m_kept_ways m_kept_kind m_kept_by m_kept_home m_kept_aim m_kept_at0 := by
  have R0 := R
  obtain ⟨P, n, h, c, s, W, K, A, H, M, L, T, ⟨rfl, rfl, rfl, rfl, rfl, rfl, xd, xk, xa, xh, xm, xl⟩, ⟨rfl, rfl, rfl, rfl, rfl, rfl, mk, ma, mh, mm, ml⟩, rfl, S, U, V, Z⟩ := R
  obtain ⟨hP2, hP, hn, hW, hK, hH, hM, hL, hho⟩ := id T
  obtain ⟨x2, m2, e1, e2, q⟩ := rf2 V
  rcases cSpan p0 with ⟨t, h1, ht, rfl, b1, b2⟩ | ⟨b1, b2⟩
  · have hx : fX7_drawn (nI P) (nI n) (nI h) m_chance m_seed (nf W) x_now_kind x_now_at x_refusals (nI t) = some (nI (sml W K P n m_chance m_seed L t), nI (hc h t), (hst W K n m_chance m_seed L t).1, hsa W K n m_chance m_seed L x_now_at t, x_refusals) := by
      unfold fX7_drawn
      simp only [b1, n1z, n0z, bo1, bo2, bo3, bo4, bo5, bo6, bo7, bo12, jo0, i10, i00, if_true, if_false, ite_self]
      refine lq5 (fun i => nI (sml W K P n m_chance m_seed L i)) (fun i => nI i) (fun i => nI (hc h i)) (fun i => (hst W K n m_chance m_seed L i).1) (fun i => hsa W K n m_chance m_seed L x_now_at i) t rfl rfl rfl rfl rfl (fun i hi g => ?_) (fun g => ?_) 400 (by omega)
      · have hl2 := hst_lt (K := K) (n := n) (ch := m_chance) (s := m_seed) hW hP hL i
        have hl3 := hst_lt (K := K) (n := n) (ch := m_chance) (s := m_seed) hW hP hL (i + 1)
        have ha := hsa_ag (W := W) (K := K) (ch := m_chance) (s := m_seed) xl i
        have ha2 := hsa_ag (W := W) (K := K) (ch := m_chance) (s := m_seed) xl (i + 1)
        have hp := p_passDrawn (ch := m_chance) (s := (hst W K n m_chance m_seed L i).1) hW hP hn (hc_le hho i) xk hK ha hl2
        have hp' : fX5_passDrawnHour (nI P) (nI n) (nI (hc h i)) m_chance (hst W K n m_chance m_seed L i).1 (nf W) x_now_kind (hsa W K n m_chance m_seed L x_now_at i) = some (nI (hc h (i + 1)), (hst W K n m_chance m_seed L (i + 1)).1, hsa W K n m_chance m_seed L x_now_at (i + 1)) := hp
        simp only [nle (a := t) (b := i) (by omega) (by omega), show ¬ t ≤ i from by omega, bo1, bo2, bo3, bo4, bo5, bo6, bo7, bo12, jo0, jo1, vlet, i10, i00, if_true, if_false, ite_self, n1z, n0z, hp', p_shiningCount hP hn xk ha2 hK (fun p hp => Nat.lt_of_lt_of_le (hl3 p hp) hP), nI_add, nI_1, sml]
      · rw [if_pos (Int32.le_refl _)]
    obtain ⟨s1, g1, g2⟩ := p_begin (hh := nI h) (s0 := m_spot) hn ml
    have hm : fX8_drawn (nI P) (nI n) (nI h) m_chance m_seed m_now (-1) m_refused (nf W) m_kind m_at0 m_spot (nI t) = some (nI (sml W K P n m_chance m_seed L t), nI (hc h t), (hst W K n m_chance m_seed L t).1, nI (hc h t), m_refused, ov n m_at0 (hst W K n m_chance m_seed L t).2, hsa W K n m_chance m_seed L s1 t) := by
      unfold fX8_drawn
      simp only [jo1_ite]
      simp only [b2, n1z, n0z, bo1, bo2, bo3, bo4, bo5, bo6, bo7, bo12, jo0, i10, i00, if_true, if_false, ite_self, g1]
      refine lq5 (fun i => nI (sml W K P n m_chance m_seed L i)) (fun i => nI i) (fun i => (hst W K n m_chance m_seed L i).1) (fun i => nI (hc h i)) (fun i => hsa W K n m_chance m_seed L s1 i) t rfl rfl rfl rfl rfl (fun i hi g => ?_) (fun g => ?_) 400 (by omega)
      · have hl2 := hst_lt (K := K) (n := n) (ch := m_chance) (s := m_seed) hW hP hL i
        have hl3 := hst_lt (K := K) (n := n) (ch := m_chance) (s := m_seed) hW hP hL (i + 1)
        have ha := hsa_ag (W := W) (K := K) (ch := m_chance) (s := m_seed) g2 i
        have ha2 := hsa_ag (W := W) (K := K) (ch := m_chance) (s := m_seed) g2 (i + 1)
        rw [if_neg (by rw [nle (by omega) (by omega)]; omega)]
        refine lq3 (fun j => nI j) (fun j => (dst W K m_chance (hst W K n m_chance m_seed L i).1 (hst W K n m_chance m_seed L i).2 j).1) (fun j => dsa W K m_chance (hst W K n m_chance m_seed L i).1 (hst W K n m_chance m_seed L i).2 (hsa W K n m_chance m_seed L s1 i) j) n rfl rfl rfl (fun j hj g3 => ?_) (fun g3 => ?_) 400 (by omega)
        · have hj1 := dsa_ag (W := W) (K := K) (ch := m_chance) (s := (hst W K n m_chance m_seed L i).1) ha j j hj
          have hj2 := dst_lt (K := K) (ch := m_chance) (s := (hst W K n m_chance m_seed L i).1) hW hP hl2 j (by omega) j hj
          have hs := p_strays (ch := m_chance) (s := (dst W K m_chance (hst W K n m_chance m_seed L i).1 (hst W K n m_chance m_seed L i).2 j).1) hW hP hn hj (mk j hj) (hK j hj) hj1 hj2
          rw [dst_s, dsa_s]
          generalize dst W K m_chance (hst W K n m_chance m_seed L i).1 (hst W K n m_chance m_seed L i).2 j = D at hj1 hj2 hs ⊢
          generalize dsa W K m_chance (hst W K n m_chance m_seed L i).1 (hst W K n m_chance m_seed L i).2 (hsa W K n m_chance m_seed L s1 i) j = f at hj1 hs ⊢
          generalize dr1 W m_chance D.1 (D.2 j) = R at hs ⊢
          obtain ⟨D1, D2⟩ := D
          obtain ⟨R1, R2⟩ := R
          simp only at hj1 hj2 hs ⊢
          rw [if_neg (by rw [nle (by omega) (by omega)]; omega), hs]
          by_cases e : K j = 1 ∨ K j = 3
          · rw [if_pos e, if_pos e, if_pos e]
            simp only [vletN, nI_1]
          · rw [if_neg e, if_neg e, if_neg e]
            simp only [vletN, nI_1]
        · rw [if_pos (Int32.le_refl _)]
          have hlt := p_mlight0 hP hn mk ha2 hK (fun p hp => Nat.lt_of_lt_of_le (hl3 p hp) hP)
          have hlt' : fX8_light (nI P) (nI n) (-1) m_kind (dsa W K m_chance (hst W K n m_chance m_seed L i).1 (hst W K n m_chance m_seed L i).2 (hsa W K n m_chance m_seed L s1 i) n) = some (nI (ltm P (dkm (fun p => dk (K p)) (hst W K n m_chance m_seed L (i + 1)).2 n))) := hlt
          rw [n_9999 (hc_le hho i), hlt']
          simp only [bo1, bo2, bo3, bo4, bo5, bo6, bo7, bo12, jo0, jo1, vlet, i10, i00, if_true, if_false, ite_self, n1z, n0z, p_bits _ (lt_lt hP), nI_add, nI_1, sml]
          rfl
      · have ha := hsa_ag (W := W) (K := K) (ch := m_chance) (s := m_seed) g2 t
        rw [if_pos (Int32.le_refl _), p_stays hn ha]
    rw [hx, hm]
    exact ⟨_, _, _, _, _, _, _, _, _, _, _, rfl, rfl, ⟨P, n, hc h t, _, _, W, K, A, H, M, (hst W K n m_chance m_seed L t).2, ⟨hP2, hP, hn, hW, hK, hH, hM, hst_lt hW hP hL t, hc_le hho t⟩, ⟨rfl, rfl, rfl, rfl, rfl, rfl, xd, xk, xa, xh, xm, hsa_ag xl t⟩, ⟨rfl, rfl, rfl, rfl, rfl, rfl, mk, ma, mh, mm, ov_ag _ _ _⟩, rfl, S, U, V, Z⟩⟩
  · unfold fX7_drawn fX8_drawn
    simp only [b1, b2, e1, e2, n1z, n0z, bo1, bo2, bo3, bo4, bo5, bo6, bo7, bo12, jo0, i10, i00, if_true, if_false, ite_self]
    exact ⟨_, _, _, _, _, _, _, _, _, _, _, rfl, rfl, R0.rf q⟩
