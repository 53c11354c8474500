/-! ===== ways that stay in others' dark ===== -/
def rea (W D : Nat → Nat) (f : Nat) : Nat → Nat
  | 0 => 2 ^ f &&& D 0
  | t + 1 => spr W (rea W D f t) &&& D (t + 1)
def cb (W D : Nat → Nat) (T to : Nat) : Nat → Nat
  | 0 => 2 ^ to
  | j + 1 => spr W (cb W D T to j) &&& D (T - (j + 1))
def xb (W D : Nat → Nat) (f T to : Nat) : Nat → Nat
  | 0 => 2 ^ to
  | j + 1 => rea W D f (T - (j + 1)) &&& spr W (xb W D f T to j)
theorem spr_bit (W : Nat → Nat) (m q : Nat) : (spr W m).testBit q = true ↔ m.testBit q = true ∨ ∃ r, r < 12 ∧ m.testBit r = true ∧ (W r).testBit q = true := spk_bit W m 12 q
theorem and_b (a b q : Nat) : (a &&& b).testBit q = true ↔ a.testBit q = true ∧ b.testBit q = true := by rw [Nat.testBit_and, Bool.and_eq_true]
theorem and_lt1 {a b k : Nat} (h : a < 2 ^ k) : a &&& b < 2 ^ k := Nat.lt_of_le_of_lt Nat.and_le_left h
theorem and_lt2 {a b k : Nat} (h : b < 2 ^ k) : a &&& b < 2 ^ k := Nat.lt_of_le_of_lt Nat.and_le_right h
theorem bit_lt {m P q : Nat} (h : m < 2 ^ P) (hq : m.testBit q = true) : q < P := by
  apply Nat.lt_of_not_le
  intro g
  rw [Nat.testBit_lt_two_pow (Nat.lt_of_lt_of_le h (Nat.pow_le_pow_right (by decide) g))] at hq
  cases hq
theorem rea_lt {W D : Nat → Nat} {P f : Nat} (hD : ∀ t, D t < 2 ^ P) (t : Nat) : rea W D f t < 2 ^ P := by
  cases t with
  | zero => exact and_lt2 (hD 0)
  | succ t => exact and_lt2 (hD (t + 1))
theorem rea_D {W D : Nat → Nat} {f t q : Nat} (h : (rea W D f t).testBit q = true) : (D t).testBit q = true := by
  cases t with
  | zero => exact ((and_b _ _ _).1 h).2
  | succ t => exact ((and_b _ _ _).1 h).2
theorem cb_lt {W D : Nat → Nat} {P T to : Nat} (hD : ∀ t, D t < 2 ^ P) (hto : to < P) (j : Nat) : cb W D T to j < 2 ^ P := by
  cases j with
  | zero => exact pw_lt2 hto
  | succ j => exact and_lt2 (hD _)
theorem xb_lt {W D : Nat → Nat} {P f T to : Nat} (hD : ∀ t, D t < 2 ^ P) (hto : to < P) (j : Nat) : xb W D f T to j < 2 ^ P := by
  cases j with
  | zero => exact pw_lt2 hto
  | succ j => exact and_lt1 (rea_lt hD _)
/-- both ways: what one still can, of what one reached -/
theorem xb_cb {W D : Nat → Nat} {P f T to : Nat} (hW : wok P W) (hP : P ≤ 12) (hD : ∀ t, D t < 2 ^ P) (hT : (rea W D f T).testBit to = true) : ∀ j, j ≤ T → (∀ q, (cb W D T to j).testBit q = true → (D (T - j)).testBit q = true) ∧ (∀ q, (xb W D f T to j).testBit q = true ↔ (rea W D f (T - j)).testBit q = true ∧ (cb W D T to j).testBit q = true) := by
  intro j
  induction j with
  | zero =>
    intro _
    have e : ∀ q, (2 ^ to).testBit q = true ↔ to = q := fun q => by rw [Nat.testBit_two_pow, decide_eq_true_eq]
    refine ⟨fun q h => ?_, fun q => ?_⟩
    · have := (e q).1 h
      subst this
      exact rea_D hT
    · show (2 ^ to).testBit q = true ↔ (rea W D f T).testBit q = true ∧ (2 ^ to).testBit q = true
      constructor
      · intro h
        have := (e q).1 h
        subst this
        exact ⟨hT, h⟩
      · exact fun h => h.2
  | succ j ih =>
    intro hj
    obtain ⟨h1, h2⟩ := ih (by omega)
    refine ⟨fun q h => ((and_b _ _ _).1 h).2, fun q => ?_⟩
    show (rea W D f (T - (j + 1)) &&& spr W (xb W D f T to j)).testBit q = true ↔ _ ∧ (spr W (cb W D T to j) &&& D (T - (j + 1))).testBit q = true
    rw [and_b, and_b, spr_bit, spr_bit]
    have hs : T - j = (T - (j + 1)) + 1 := by omega
    constructor
    · rintro ⟨a, b⟩
      refine ⟨a, ?_, rea_D a⟩
      rcases b with b | ⟨r, hr, b1, b2⟩
      · exact Or.inl ((h2 q).1 b).2
      · exact Or.inr ⟨r, hr, ((h2 r).1 b1).2, b2⟩
    · rintro ⟨a, b, c⟩
      refine ⟨a, ?_⟩
      have hq : q < 12 := by have := bit_lt (rea_lt (W := W) (f := f) hD _) a; omega
      rcases b with b | ⟨r, hr, b1, b2⟩
      · refine Or.inl ((h2 q).2 ⟨?_, b⟩)
        rw [hs]
        exact (and_b _ _ _).2 ⟨(spr_bit _ _ _).2 (Or.inl a), by rw [← hs]; exact h1 q b⟩
      · refine Or.inr ⟨r, hr, (h2 r).2 ⟨?_, b1⟩, b2⟩
        rw [hs]
        exact (and_b _ _ _).2 ⟨(spr_bit _ _ _).2 (Or.inr ⟨q, hq, a, by rw [hW.2.1]; exact b2⟩), by rw [← hs]; exact h1 r b1⟩
theorem meet_ne {W D : Nat → Nat} {P f T to : Nat} (hW : wok P W) (hP : P ≤ 12) (hD : ∀ t, D t < 2 ^ P) (hto : to < P) (hT : (rea W D f T).testBit to = true) : ∀ j, j ≤ T → ∃ q, (rea W D f (T - j)).testBit q = true ∧ (cb W D T to j).testBit q = true := by
  intro j
  induction j with
  | zero => intro _; exact ⟨to, hT, Nat.testBit_two_pow_self⟩
  | succ j ih =>
    intro hj
    obtain ⟨y, y1, y2⟩ := ih (by omega)
    rw [show T - j = (T - (j + 1)) + 1 by omega] at y1
    obtain ⟨y3, -⟩ := (and_b _ _ _).1 y1
    have hy : y < 12 := by have := bit_lt (cb_lt (W := W) (T := T) hD hto j) y2; omega
    rcases (spr_bit _ _ _).1 y3 with b | ⟨r, hr, b1, b2⟩
    · exact ⟨y, b, (and_b _ _ _).2 ⟨(spr_bit _ _ _).2 (Or.inl y2), rea_D b⟩⟩
    · exact ⟨r, b1, (and_b _ _ _).2 ⟨(spr_bit _ _ _).2 (Or.inr ⟨y, hy, y2, by rw [hW.2.1]; exact b2⟩), rea_D b1⟩⟩
/-- the way itself -/
def lowb (m : Nat) : Nat := (ff (fun i => m.testBit i) 12 0).getD 0
theorem lowb_ok {m q : Nat} (hq : q < 12) (h : m.testBit q = true) : m.testBit (lowb m) = true ∧ lowb m < 12 ∧ ff (fun i => m.testBit i) 12 0 = some (lowb m) := by
  unfold lowb
  cases e : ff (fun i => m.testBit i) 12 0 with
  | none =>
    have : m.testBit q = false := ff_none e q (Nat.zero_le _) (by omega)
    rw [h] at this; cases this
  | some r => obtain ⟨-, h2, h3, -⟩ := ff_some e; exact ⟨h3, by show r < 12; omega, rfl⟩
def plc (W D : Nat → Nat) (f T to : Nat) : Nat → Nat
  | 0 => f
  | k + 1 => lowb (spr W (2 ^ plc W D f T to k) &&& cb W D T to (T - (k + 1)))
theorem pw_bit (p q : Nat) : (2 ^ p).testBit q = true ↔ p = q := by rw [Nat.testBit_two_pow, decide_eq_true_eq]
theorem plc_ok {W D : Nat → Nat} {P f T to : Nat} (hW : wok P W) (hP : P ≤ 12) (hD : ∀ t, D t < 2 ^ P) (hf : f < P) (hto : to < P) (hT : (rea W D f T).testBit to = true) : ∀ k, k ≤ T → plc W D f T to k < P ∧ (rea W D f k).testBit (plc W D f T to k) = true ∧ (cb W D T to (T - k)).testBit (plc W D f T to k) = true := by
  intro k
  induction k with
  | zero =>
    intro _
    obtain ⟨q, q1, q2⟩ := meet_ne hW hP hD hto hT T (Nat.le_refl _)
    rw [Nat.sub_self] at q1
    have : f = q := (pw_bit f q).1 ((and_b _ _ _).1 q1).1
    subst this
    exact ⟨hf, q1, q2⟩
  | succ k ih =>
    intro hk
    obtain ⟨p1, p2, p3⟩ := ih (by omega)
    rw [show T - k = (T - (k + 1)) + 1 by omega] at p3
    obtain ⟨p4, -⟩ := (and_b _ _ _).1 p3
    have hne : ∃ y, y < 12 ∧ (spr W (2 ^ plc W D f T to k) &&& cb W D T to (T - (k + 1))).testBit y = true := by
      rcases (spr_bit _ _ _).1 p4 with b | ⟨r, hr, b1, b2⟩
      · exact ⟨_, by omega, (and_b _ _ _).2 ⟨(spr_bit _ _ _).2 (Or.inl ((pw_bit _ _).2 rfl)), b⟩⟩
      · exact ⟨r, hr, (and_b _ _ _).2 ⟨(spr_bit _ _ _).2 (Or.inr ⟨_, by omega, (pw_bit _ _).2 rfl, by rw [hW.2.1]; exact b2⟩), b1⟩⟩
    obtain ⟨y, y1, y2⟩ := hne
    obtain ⟨l1, -, -⟩ := lowb_ok y1 y2
    obtain ⟨l2, l3⟩ := (and_b _ _ _).1 l1
    have hcd := (xb_cb hW hP hD hT (T - (k + 1)) (by omega)).1 _ l3
    rw [show T - (T - (k + 1)) = k + 1 by omega] at hcd
    refine ⟨bit_lt (cb_lt hD hto _) l3, ?_, l3⟩
    refine (and_b _ _ _).2 ⟨(spr_bit _ _ _).2 ?_, hcd⟩
    rcases (spr_bit _ _ _).1 l2 with b | ⟨r, hr, b1, b2⟩
    · have := (pw_bit _ _).1 b
      show (rea W D f k).testBit (lowb (spr W (2 ^ plc W D f T to k) &&& cb W D T to (T - (k + 1)))) = true ∨ _
      rw [← this]; exact Or.inl p2
    · have := (pw_bit _ _).1 b1
      subst this
      exact Or.inr ⟨_, hr, p2, b2⟩
/-- what the walker sees is the same on both sides -/
theorem plc_x {W D : Nat → Nat} {P f T to k : Nat} (hW : wok P W) (hP : P ≤ 12) (hD : ∀ t, D t < 2 ^ P) (hf : f < P) (hto : to < P) (hT : (rea W D f T).testBit to = true) (hk : k < T) : spr W (2 ^ plc W D f T to k) &&& xb W D f T to (T - (k + 1)) = spr W (2 ^ plc W D f T to k) &&& cb W D T to (T - (k + 1)) := by
  obtain ⟨p1, p2, p3⟩ := plc_ok hW hP hD hf hto hT k (by omega)
  obtain ⟨c1, c2⟩ := xb_cb hW hP hD hT (T - (k + 1)) (by omega)
  apply Nat.eq_of_testBit_eq
  intro q
  apply bool_ext
  rw [and_b, and_b, c2]
  constructor
  · rintro ⟨a, b, c⟩; exact ⟨a, c⟩
  · rintro ⟨a, c⟩
    refine ⟨a, ?_, c⟩
    have hcd := c1 _ c
    rw [show T - (T - (k + 1)) = k + 1 by omega] at hcd ⊢
    refine (and_b _ _ _).2 ⟨(spr_bit _ _ _).2 ?_, hcd⟩
    rcases (spr_bit _ _ _).1 a with b | ⟨r, hr, b1, b2⟩
    · have := (pw_bit _ _).1 b
      rw [← this]; exact Or.inl p2
    · have := (pw_bit _ _).1 b1
      subst this
      exact Or.inr ⟨_, hr, p2, b2⟩
theorem rea_z {W D : Nat → Nat} {f t : Nat} (h : rea W D f t = 0) : ∀ j, rea W D f (t + j) = 0 := by
  intro j
  induction j with
  | zero => exact h
  | succ j ih =>
    show spr W (rea W D f (t + j)) &&& D (t + j + 1) = 0
    rw [ih]
    apply Nat.eq_of_testBit_eq
    intro q
    rw [Nat.zero_testBit]
    apply Bool.eq_false_iff.2
    intro e
    rcases (spr_bit _ _ _).1 ((and_b _ _ _).1 e).1 with b | ⟨r, hr, b1, b2⟩
    · rw [Nat.zero_testBit] at b; cases b
    · rw [Nat.zero_testBit] at b1; cases b1
/-! the class -/
theorem n24 (i : Nat) (h : i ≤ 1000) : ((24 : Int32) < nI i) = (24 < i) := nlt (a := 24) (by omega) (by omega)
theorem n_m1b {T j : Nat} (hj : j < T) : nI (T - j) - (1 : Int32) = nI (T - j - 1) := n_sub1 (by omega)
theorem p_keepOnly {W D : Nat → Nat} {P f T to : Nat} {s : Nat → Int32} (hP : P ≤ 12) (hD : ∀ t, D t < 2 ^ P) (hto : to < P) (hT : T < 25) (hs : ∀ k, k < T → s k = nI (rea W D f k)) : ∃ s', fX1_keepOnlyWaysTo (nI T) s (nf W) (nI to) = some s' ∧ ∀ k, k ≤ T → s' k = nI (xb W D f T to (T - k)) := by
  unfold fX1_keepOnlyWaysTo
  rw [if_n (nin (k := T) (N := 25) hT (by omega)), vletN, nc (n := T) (by omega), n_pw (k := to) (by omega)]
  refine lph2 (Φ := fun o => ∃ s' : Nat → Int32, o = some s' ∧ ∀ k, k ≤ T → s' k = nI (xb W D f T to (T - k))) (fun j x (u : Nat → Int32) => x = nI (T - j) - (1 : Int32) ∧ (∀ k, k < T - j → u k = nI (rea W D f k)) ∧ ∀ k, T - j ≤ k → k ≤ T → u k = nI (xb W D f T to (T - k))) T ⟨rfl, fun k hk => by rw [pk_un (by omega)]; exact hs k hk, fun k h1 h2 => by rw [show k = T by omega, pk_us, Nat.sub_self]; rfl⟩ (fun j hj x u z => ?_) (fun x u z g => ?_) 400 (by omega)
  · obtain ⟨rfl, z1, z2⟩ := z
    refine ⟨_, upd u (T - j - 1) (nI (rea W D f (T - j - 1) &&& spr W (xb W D f T to j))), ⟨rfl, fun k hk => ?_, fun k h1 h2 => ?_⟩, fun g => ?_⟩
    · rw [pk_un (by omega)]; exact z1 k (by omega)
    · by_cases e : k = T - j - 1
      · subst e
        rw [pk_us]
        rw [show T - (T - j - 1) = j + 1 by omega]
        show _ = nI (rea W D f (T - (j + 1)) &&& spr W (xb W D f T to j))
        rw [show T - (j + 1) = T - j - 1 by omega]
      · rw [pk_un e]; exact z2 k (by omega) h2
    · have z3 := z2 (T - j) (by omega) (by omega)
      rw [show T - (T - j) = j by omega] at z3
      have e1 : nI (T - j - 1) + (1 : Int32) = nI (T - j) := by rw [nI_1]; congr 1; omega
      have e2 : nI (T - j - 1) + (-1 : Int32) = nI (T - (j + 1)) - (1 : Int32) := by
        rw [show T - (j + 1) = T - j - 1 by omega, Int32.sub_eq_add_neg]
      simp only [n_m1b hj, if_neg (nI_pos (n := T - j - 1) (by omega)), n1z, n0z, bo1N, bo2N, bo3N, bo4N, bo5N, bo6N, bo12N, jo0N, jo1N, jo2N, vletN, i10, i00, if_true, if_false, ite_self, e1, e2, if_n (nin (k := (T - j - 1)) (N := 25) (by omega) (by omega)), if_n (nin2 (k := (T - j - 1)) (N := 25) (by omega) (by omega)), nc (n := (T - j - 1)) (by omega), if_n (nin (k := (T - j)) (N := 25) (by omega) (by omega)), if_n (nin2 (k := (T - j)) (N := 25) (by omega) (by omega)), nc (n := (T - j)) (by omega), z3, p_spread hP (xb_lt (W := W) (f := f) (T := T) hD hto j), z1 (T - j - 1) (by omega), n_and]
  · obtain ⟨rfl, z1, z2⟩ := z
    refine ⟨u, ?_, fun k hk => z2 k (by omega) hk⟩
    rw [Nat.sub_self, if_pos (by decide)]
theorem p_seek {P n h f to : Nat} {W K H M L : Nat → Nat} {d kf hf mf af s0 : Nat → Int32} (T : tok P n W K H M L h) (hd : dok W d) (hk : ag n kf K) (hh : ag n hf H) (hm : ag n mf M) (hl : ag n af L) (hfP : f < P) (hto : to < P) : match ff (fun t => (rea W (fun t => dkm (fun p => dk (K p)) (lc W P n K H M (fun p => dk (K p)) h L t) n) f t).testBit to) 25 0 with
    | none => ∃ s' hr af', fX1_seek s0 (nI P) (nI n) (nI h) (nf W) d kf hf mf af (nI f) (nI to) = some (-1, s', hr, af')
    | some t => ∃ s' hr af', fX1_seek s0 (nI P) (nI n) (nI h) (nf W) d kf hf mf af (nI f) (nI to) = some (nI t, s', hr, af') ∧ ∀ k, k ≤ t → s' k = nI (xb W (fun t => dkm (fun p => dk (K p)) (lc W P n K H M (fun p => dk (K p)) h L t) n) f t to (t - k)) := by
  obtain ⟨hP2, hP, hn, hW, hK, hH, hM, hL, hho⟩ := id T
  have hD : ∀ t, (fun t => dkm (fun p => dk (K p)) (lc W P n K H M (fun p => dk (K p)) h L t) n) t < 2 ^ P := fun t => dkm_lt (T.at (fun p => dk (K p)) t).2.2.2.2.2.2.2.1
  have hpass := fun i v (z : ag n v (lc W P n K H M (fun p => dk (K p)) h L i)) => p_pass1 T hd hk hh hm i z
  have hdk := fun i v (z : ag n v (lc W P n K H M (fun p => dk (K p)) h L i)) => p_darkPlaces hn hk z hK (T.at (fun p => dk (K p)) i).lt
  have hl0 : ag n af (lc W P n K H M (fun p => dk (K p)) h L 0) := hl
  have hh0 : nI h = nI (hc h 0) := rfl
  generalize lc W P n K H M (fun p => dk (K p)) h L = Lt at *
  rw [hh0]
  generalize hc h = Ht at *
  have hr12 : ∀ t, rea W (fun t => dkm (fun p => dk (K p)) (Lt t) n) f t < 4096 := fun t => Nat.lt_of_lt_of_le (rea_lt hD t) (pw_lt hP)
  have hdk' : ∀ i v, ag n v (Lt i) → fX5_darkPlaces (nI n) kf v = some (nI ((fun t => dkm (fun p => dk (K p)) (Lt t) n) i)) := hdk
  generalize (fun t => dkm (fun p => dk (K p)) (Lt t) n) = D at *
  unfold fX1_seek
  rw [hdk' 0 af hl0, bo1N, vletN, n_pw (k := f) (by omega), n_and]
  cases e : ff (fun t => (rea W D f t).testBit to) 25 0 with
  | none =>
    refine lfh5 (Φ := fun o => ∃ s' hr af', o = some (-1, s', hr, af')) (fun i x y u v w => x = nI (rea W D f i) ∧ y = nI i ∧ v = nI (Ht i) ∧ ag n w (Lt i)) (fun t => rea W D f t == 0) 25 ⟨rfl, rfl, rfl, hl0⟩ (fun i hi qi x y u v w z => ?_) (fun i hi qi fi x y u v w z g => ?_) (fun fi x y u v w z g => ?_) 400 (by omega)
    · obtain ⟨rfl, rfl, rfl, z⟩ := z
      obtain ⟨af', f1, f2⟩ := hpass i w z
      have h0 : ¬ rea W D f i = 0 := by simpa using qi
      have hb : (rea W D f i).testBit to = false := ff_none e i (Nat.zero_le _) (by omega)
      have h1 := hr12 i
      refine ⟨_, _, upd u i (nI (rea W D f i)), _, af', ⟨rfl, rfl, rfl, f2⟩, fun g => ?_⟩
      simp only [n24 i (by omega), show ¬ 24 < i from by omega, n1z, n0z, bo1N, bo2N, bo3N, bo4N, bo5N, bo6N, bo12N, jo0N, jo1N, jo2N, vletN, i10, i00, if_true, if_false, ite_self, n_ne0 (m := rea W D f i) (by omega), h0, if_n (nin (k := i) (N := 25) (by omega) (by omega)), if_n (nin2 (k := i) (N := 25) (by omega) (by omega)), nc (n := i) (by omega), p_hasBit (m := rea W D f i) (k := to) (by omega) (by omega), hb, Bool.false_eq_true, f1, p_spread hP (rea_lt (W := W) (f := f) hD i), hdk' (i + 1) af' f2, n_and, nI_1, rea]
    · obtain ⟨rfl, rfl, rfl, z⟩ := z
      have h0 : rea W D f i = 0 := by simpa using qi
      refine ⟨u, nI (Ht i), w, ?_⟩
      simp only [n24 i (by omega), show ¬ 24 < i from by omega, n1z, n0z, bo1N, bo2N, bo3N, bo4N, bo5N, bo6N, bo12N, jo0N, jo1N, jo2N, vletN, i10, i00, if_true, if_false, ite_self, h0]
    · obtain ⟨zx, zy, zv, z⟩ := z
      refine ⟨u, v, w, ?_⟩
      rw [zy, if_pos (by decide)]
  | some t0 =>
    obtain ⟨-, t1, t2, t3⟩ := ff_some e
    have t2' : (rea W D f t0).testBit to = true := t2
    refine lph5 (Φ := fun o => ∃ (s' : Nat → Int32) (hr : Int32) (af' : Nat → Int32), o = some (nI t0, s', hr, af') ∧ ∀ k, k ≤ t0 → s' k = nI (xb W D f t0 to (t0 - k))) (fun i x y (u : Nat → Int32) v w => x = nI (rea W D f i) ∧ y = nI i ∧ v = nI (Ht i) ∧ ag n w (Lt i) ∧ ∀ k, k < i → u k = nI (rea W D f k)) t0 ⟨rfl, rfl, rfl, hl0, fun k h => absurd h (by omega)⟩ (fun i hi x y u v w z => ?_) (fun x y u v w z g => ?_) 400 (by omega)
    · obtain ⟨rfl, rfl, rfl, z, z2⟩ := z
      obtain ⟨af', f1, f2⟩ := hpass i w z
      have h0 : ¬ rea W D f i = 0 := fun hz => by
        have := rea_z hz (t0 - i)
        rw [show i + (t0 - i) = t0 by omega] at this
        rw [this, Nat.zero_testBit] at t2'; cases t2'
      have hb : (rea W D f i).testBit to = false := t3 i (Nat.zero_le _) hi
      have h1 := hr12 i
      refine ⟨_, _, upd u i (nI (rea W D f i)), _, af', ⟨rfl, rfl, rfl, f2, fun k hk => ?_⟩, fun g => ?_⟩
      · by_cases q : k = i
        · subst q; rw [pk_us]
        · rw [pk_un q]; exact z2 k (by omega)
      · simp only [n24 i (by omega), show ¬ 24 < i from by omega, n1z, n0z, bo1N, bo2N, bo3N, bo4N, bo5N, bo6N, bo12N, jo0N, jo1N, jo2N, vletN, i10, i00, if_true, if_false, ite_self, n_ne0 (m := rea W D f i) (by omega), h0, if_n (nin (k := i) (N := 25) (by omega) (by omega)), if_n (nin2 (k := i) (N := 25) (by omega) (by omega)), nc (n := i) (by omega), p_hasBit (m := rea W D f i) (k := to) (by omega) (by omega), hb, Bool.false_eq_true, f1, p_spread hP (rea_lt (W := W) (f := f) hD i), hdk' (i + 1) af' f2, n_and, nI_1, rea]
    · obtain ⟨rfl, rfl, rfl, z, z2⟩ := z
      have h0 : ¬ rea W D f t0 = 0 := fun hz => by rw [hz, Nat.zero_testBit] at t2'; cases t2'
      have h1 := hr12 t0
      obtain ⟨s', k1, k2⟩ := p_keepOnly (W := W) (D := D) (f := f) (T := t0) (to := to) (s := upd u t0 (nI (rea W D f t0))) hP hD hto (by omega) (fun k hk => by rw [pk_un (by omega)]; exact z2 k hk)
      refine ⟨s', nI (Ht t0), w, ?_, k2⟩
      simp only [n24 t0 (by omega), show ¬ 24 < t0 from by omega, n1z, n0z, bo1N, bo2N, bo3N, bo4N, bo5N, bo6N, bo12N, jo0N, jo1N, jo2N, vletN, i10, i00, if_true, if_false, ite_self, n_ne0 (m := rea W D f t0) (by omega), h0, if_n (nin (k := t0) (N := 25) (by omega) (by omega)), if_n (nin2 (k := t0) (N := 25) (by omega) (by omega)), nc (n := t0) (by omega), p_hasBit (m := rea W D f t0) (k := to) (by omega) (by omega), t2', k1]
/-- the next place is the least of those that may be -/
theorem meet_q {W D : Nat → Nat} {P f T to k : Nat} (hW : wok P W) (hP : P ≤ 12) (hD : ∀ t, D t < 2 ^ P) (hf : f < P) (hto : to < P) (hT : (rea W D f T).testBit to = true) (hk : k < T) : (spr W (2 ^ plc W D f T to k) &&& cb W D T to (T - (k + 1))).testBit (plc W D f T to (k + 1)) = true ∧ plc W D f T to (k + 1) < 12 ∧ ∀ j, j < plc W D f T to (k + 1) → (spr W (2 ^ plc W D f T to k) &&& cb W D T to (T - (k + 1))).testBit j = false := by
  obtain ⟨p1, p2, p3⟩ := plc_ok hW hP hD hf hto hT k (by omega)
  rw [show T - k = (T - (k + 1)) + 1 by omega] at p3
  obtain ⟨p4, -⟩ := (and_b _ _ _).1 p3
  have hne : ∃ y, y < 12 ∧ (spr W (2 ^ plc W D f T to k) &&& cb W D T to (T - (k + 1))).testBit y = true := by
    rcases (spr_bit _ _ _).1 p4 with b | ⟨r, hr, b1, b2⟩
    · exact ⟨_, by omega, (and_b _ _ _).2 ⟨(spr_bit _ _ _).2 (Or.inl ((pw_bit _ _).2 rfl)), b⟩⟩
    · exact ⟨r, hr, (and_b _ _ _).2 ⟨(spr_bit _ _ _).2 (Or.inr ⟨_, by omega, (pw_bit _ _).2 rfl, by rw [hW.2.1]; exact b2⟩), b1⟩⟩
  obtain ⟨y, y1, y2⟩ := hne
  obtain ⟨l1, l2, l3⟩ := lowb_ok y1 y2
  exact ⟨l1, l2, fun j hj => (ff_some l3).2.2.2 j (Nat.zero_le _) hj⟩
/-! the Model -/
theorem p_mhid {P n h f to : Nat} {W K H M L : Nat → Nat} {kf hf mf af s0 p0 t0 dA0 cn0 : Nat → Int32} (T : tok P n W K H M L h) (hk : ag n kf K) (hh : ag n hf H) (hm : ag n mf M) (hl : ag n af L) (hfP : f < P) (hto : to < P) : match ff (fun t => (rea W (fun t => dkm (fun p => dk (K p)) (lc W P n K H M (fun p => dk (K p)) h L t) n) f t).testBit to) 25 0 with
    | none => ∃ nw st sp tt dA cn, fX8_hiddenHours (nI P) (nI n) (nI h) (-1) (nf W) kf hf mf af s0 p0 t0 dA0 cn0 (nI f) (nI to) = some (-1, nw, st, sp, tt, dA, cn)
    | some t => ∃ nw st sp tt dA cn, fX8_hiddenHours (nI P) (nI n) (nI h) (-1) (nf W) kf hf mf af s0 p0 t0 dA0 cn0 (nI f) (nI to) = some (nI t, nw, st, sp, tt, dA, cn) ∧ ∀ k, k ≤ t → cn k = nI (cb W (fun t => dkm (fun p => dk (K p)) (lc W P n K H M (fun p => dk (K p)) h L t) n) t to (t - k)) := by
  obtain ⟨hP2, hP, hn, hW, hK, hH, hM, hL, hho⟩ := id T
  have hD : ∀ t, (fun t => dkm (fun p => dk (K p)) (lc W P n K H M (fun p => dk (K p)) h L t) n) t < 2 ^ P := fun t => dkm_lt (T.at (fun p => dk (K p)) t).2.2.2.2.2.2.2.1
  have hpass := fun i s v t (z : ag n v (lc W P n K H M (fun p => dk (K p)) h L i)) => p_mgo0 (s0 := s) (t0 := t) T hk hh hm i z
  have hdk := fun i v (z : ag n v (lc W P n K H M (fun p => dk (K p)) h L i)) => p_mdark0 hP hn hk z hK (T.at (fun p => dk (K p)) i).2.2.2.2.2.2.2.1
  obtain ⟨s1, g1, g2⟩ := p_begin (hh := nI h) (s0 := p0) hn hl
  have hl0 : ag n s1 (lc W P n K H M (fun p => dk (K p)) h L 0) := g2
  have hh0 : nI h = nI (hc h 0) := rfl
  unfold fX8_hiddenHours
  rw [g1, bo2N, hh0]
  generalize lc W P n K H M (fun p => dk (K p)) h L = Lt at *
  generalize hc h = Ht at *
  have hdk' : ∀ i v, ag n v (Lt i) → fX8_dark (nI P) (nI n) (-1) kf v = some (nI ((fun t => dkm (fun p => dk (K p)) (Lt t) n) i)) := hdk
  generalize (fun t => dkm (fun p => dk (K p)) (Lt t) n) = D at *
  have hr12 : ∀ t, rea W D f t < 4096 := fun t => Nat.lt_of_lt_of_le (rea_lt hD t) (pw_lt hP)
  have hstep : ∀ (Φ : Option (Int32 × Int32 × (Nat → Int32) × (Nat → Int32) × (Nat → Int32) × (Nat → Int32) × (Nat → Int32)) → Prop) (E : Int32 → (Nat → Int32) → (Nat → Int32) → (Nat → Int32) → (Nat → Int32) → Option (Int32 × Int32 × (Nat → Int32) × (Nat → Int32) × (Nat → Int32) × (Nat → Int32) × (Nat → Int32))), (∀ u st v tt dA, (∀ k, k < 25 → dA k = nI (D k)) → Φ (E u st v tt dA)) → Φ (lo6 (fun g10 (x4 : Int32) (u5 : Int32) (u6 : Nat → Int32) (u7 : Nat → Int32) (u8 : Nat → Int32) (u9 : Nat → Int32) => if (24 : Int32) < x4 then E u5 u6 u7 u8 u9 else bo1 (fX8_dark (nI P) (nI n) (-1) kf u7) fun r36 => if x4 < 0 ∨ 25 ≤ x4.toNatClampNeg then none else bo4 (fX8_goes (nI P) (nI n) u5 (-1) (nf W) kf hf mf u6 u7 u8) fun u39 u40 u41 u42 => vlet (x4 + (1 : Int32)) fun x44 => g10 x44 u39 u40 u41 u42 (upd u9 x4.toNatClampNeg r36)) 400 (0 : Int32) (nI (Ht 0)) s0 s1 t0 dA0) := by
    intro Φ E hE
    refine lph6 (Φ := Φ) (fun i x u _ v _ (dA : Nat → Int32) => x = nI i ∧ u = nI (Ht i) ∧ ag n v (Lt i) ∧ ∀ k, k < i → dA k = nI (D k)) 25 ⟨rfl, rfl, hl0, fun k h => absurd h (by omega)⟩ (fun i hi x u st v tt dA z => ?_) (fun x u st v tt dA z g => ?_) 400 (by omega)
    · obtain ⟨rfl, rfl, z, z2⟩ := z
      obtain ⟨st', sp', tt', f1, f2⟩ := hpass i st v tt z
      refine ⟨_, _, st', sp', tt', upd dA i (nI (D i)), ⟨rfl, rfl, f2, fun k hk => ?_⟩, fun g => ?_⟩
      · by_cases q : k = i
        · subst q; rw [pk_us]
        · rw [pk_un q]; exact z2 k (by omega)
      · rw [if_neg (by rw [n24 i (by omega)]; omega), hdk' i v z, bo1N, if_n (nin (k := i) (N := 25) (by omega) (by omega)), f1, bo4N, vletN, nI_1, nc (n := i) (by omega)]
    · obtain ⟨zx, zu, z, z2⟩ := z
      rw [zx, if_pos (by decide)]
      exact hE u st v tt dA z2
  cases e : ff (fun t => (rea W D f t).testBit to) 25 0 with
  | none =>
    refine hstep (fun o => ∃ nw st sp tt dA cn, o = some (-1, nw, st, sp, tt, dA, cn)) _ (fun u st v tt dA hdA => ?_)
    rw [show (0 : Int32).toNatClampNeg = 0 from rfl, hdA 0 (by omega), n_pw (k := f) (by omega), n_and, vletN]
    refine lph2 (Φ := fun o => ∃ nw st sp tt dA cn, o = some (-1, nw, st, sp, tt, dA, cn)) (fun i x y => x = nI (rea W D f i) ∧ y = nI i) 24 ⟨rfl, rfl⟩ (fun i hi x y z => ?_) (fun x y z g => ?_) 400 (by omega)
    · obtain ⟨rfl, rfl⟩ := z
      have hb : (rea W D f i).testBit to = false := ff_none e i (Nat.zero_le _) (by omega)
      have h1 := hr12 i
      refine ⟨_, _, ⟨rfl, rfl⟩, fun g => ?_⟩
      rw [jo0N, if_pos (by rw [n_bit0 (by omega) (by omega)]; exact hb), if_neg (by rw [show (24 : Int32) = nI 24 from rfl, nle (by omega) (by omega)]; omega), vletN, p_besides hP (rea_lt (W := W) (f := f) hD i), bo1N, nI_1, if_n (nin (k := i + 1) (N := 25) (by omega) (by omega)), nc (n := i + 1) (by omega), hdA (i + 1) (by omega), n_and, vletN]
      rfl
    · obtain ⟨zx, zy⟩ := z
      have hb : (rea W D f 24).testBit to = false := ff_none e 24 (Nat.zero_le _) (by omega)
      have h1 := hr12 24
      rw [zx, zy, jo0N, if_pos (by rw [n_bit0 (by omega) (by omega)]; exact hb), if_pos (by decide), if_pos (by rw [n_bit0 (by omega) (by omega)]; exact hb)]
      exact ⟨_, _, _, _, _, _, rfl⟩
  | some t1 =>
    obtain ⟨-, t2, t3, t4⟩ := ff_some e
    have t3' : (rea W D f t1).testBit to = true := t3
    refine hstep (fun o => ∃ (nw : Int32) (st sp tt dA cn : Nat → Int32), o = some (nI t1, nw, st, sp, tt, dA, cn) ∧ ∀ k, k ≤ t1 → cn k = nI (cb W D t1 to (t1 - k))) _ (fun u st v tt dA hdA => ?_)
    rw [show (0 : Int32).toNatClampNeg = 0 from rfl, hdA 0 (by omega), n_pw (k := f) (by omega), n_and, vletN]
    refine lph2 (Φ := fun o => ∃ (nw : Int32) (st sp tt dA cn : Nat → Int32), o = some (nI t1, nw, st, sp, tt, dA, cn) ∧ ∀ k, k ≤ t1 → cn k = nI (cb W D t1 to (t1 - k))) (fun i x y => x = nI (rea W D f i) ∧ y = nI i) t1 ⟨rfl, rfl⟩ (fun i hi x y z => ?_) (fun x y z g => ?_) 400 (by omega)
    · obtain ⟨rfl, rfl⟩ := z
      have hb : (rea W D f i).testBit to = false := t4 i (Nat.zero_le _) hi
      have h1 := hr12 i
      refine ⟨_, _, ⟨rfl, rfl⟩, fun g => ?_⟩
      rw [jo0N, if_pos (by rw [n_bit0 (by omega) (by omega)]; exact hb), if_neg (by rw [show (24 : Int32) = nI 24 from rfl, nle (by omega) (by omega)]; omega), vletN, p_besides hP (rea_lt (W := W) (f := f) hD i), bo1N, nI_1, if_n (nin (k := i + 1) (N := 25) (by omega) (by omega)), nc (n := i + 1) (by omega), hdA (i + 1) (by omega), n_and, vletN]
      rfl
    · obtain ⟨rfl, rfl⟩ := z
      have h1 := hr12 t1
      have nb : ¬ (nI (rea W D f t1) >>> (nI to &&& 31)) &&& (1 : Int32) = 0 := by rw [n_bit0 (by omega) (by omega), t3']; decide
      rw [jo0N, if_neg nb, if_neg nb, if_n (nin (k := t1) (N := 25) (by omega) (by omega)), vletN, nc (n := t1) (by omega), n_pw (k := to) (by omega)]
      refine lph2 (Φ := fun o => ∃ (nw : Int32) (st sp tt dA cn : Nat → Int32), o = some (nI t1, nw, st, sp, tt, dA, cn) ∧ ∀ k, k ≤ t1 → cn k = nI (cb W D t1 to (t1 - k))) (fun j x (w : Nat → Int32) => x = nI (t1 - j) - (1 : Int32) ∧ ∀ k, t1 - j ≤ k → k ≤ t1 → w k = nI (cb W D t1 to (t1 - k))) t1 ⟨rfl, fun k h1 h2 => by rw [show k = t1 by omega, pk_us, Nat.sub_self]; rfl⟩ (fun j hj x w z => ?_) (fun x w z g => ?_) 400 (by omega)
      · obtain ⟨rfl, z2⟩ := z
        refine ⟨_, upd w (t1 - j - 1) (nI (spr W (cb W D t1 to j) &&& D (t1 - j - 1))), ⟨rfl, fun k h1 h2 => ?_⟩, fun g => ?_⟩
        · by_cases q : k = t1 - j - 1
          · subst q
            rw [pk_us]
            rw [show t1 - (t1 - j - 1) = j + 1 by omega]
            show _ = nI (spr W (cb W D t1 to j) &&& D (t1 - (j + 1)))
            rw [show t1 - (j + 1) = t1 - j - 1 by omega]
          · rw [pk_un q]; exact z2 k (by omega) h2
        · have z3 := z2 (t1 - j) (by omega) (by omega)
          rw [show t1 - (t1 - j) = j by omega] at z3
          have e1 : nI (t1 - j - 1) + (1 : Int32) = nI (t1 - j) := by rw [nI_1]; congr 1; omega
          have e2 : nI (t1 - j - 1) + (-1 : Int32) = nI (t1 - (j + 1)) - (1 : Int32) := by
            rw [show t1 - (j + 1) = t1 - j - 1 by omega, Int32.sub_eq_add_neg]
          simp only [n_m1b hj, if_neg (nI_pos (n := t1 - j - 1) (by omega)), n1z, n0z, bo1N, bo2N, bo3N, bo4N, bo5N, bo6N, bo12N, jo0N, jo1N, jo2N, vletN, i10, i00, if_true, if_false, ite_self, e1, e2, if_n (nin (k := (t1 - j - 1)) (N := 25) (by omega) (by omega)), if_n (nin2 (k := (t1 - j - 1)) (N := 25) (by omega) (by omega)), nc (n := (t1 - j - 1)) (by omega), if_n (nin (k := (t1 - j)) (N := 25) (by omega) (by omega)), if_n (nin2 (k := (t1 - j)) (N := 25) (by omega) (by omega)), nc (n := (t1 - j)) (by omega), z3, p_besides hP (cb_lt (W := W) (T := t1) hD hto j), hdA (t1 - j - 1) (by omega), n_and]
      · obtain ⟨rfl, z2⟩ := z
        refine ⟨u, st, v, tt, dA, w, ?_, fun k hk => z2 k (by omega) hk⟩
        rw [Nat.sub_self, if_pos (by decide)]
theorem p_leastOf {m q : Nat} {x : Int32} (hm : m < 4096) (hq : q < 12) (h : m.testBit q = true) : fX1_leastOf (nI m) x = some (nI (lowb m)) := by
  obtain ⟨-, -, l3⟩ := lowb_ok hq h
  unfold fX1_leastOf
  refine Eq.trans (lsk (fun i => m.testBit i) (fun i => some (nI i)) (some x) 0 12 (fun i h1 h2 g => ?_) (fun g => ?_) 400 (by omega)) ?_
  · simp only [show ((12 : Int32) ≤ nI i) = False from eq_false (by rw [show (12 : Int32) = nI 12 from rfl, nle (by omega) (by omega)]; omega), bo1, bo2, bo3, bo4, bo5, bo6, bo7, bo12, jo0, jo1, vlet, i10, i00, if_true, if_false, ite_self, n1z, n0z, p_hasBit (m := m) (k := i) (by omega) (by omega), b01, nI_1]
    by_cases e : m.testBit i = true
    · simp only [e, Bool.true_eq_false, bo1, bo2, bo3, bo4, bo5, bo6, bo7, bo12, jo0, jo1, vlet, i10, i00, if_true, if_false, ite_self, n1z, n0z]
    · have e' : m.testBit i = false := by simpa using e
      simp only [e', Bool.false_eq_true, bo1, bo2, bo3, bo4, bo5, bo6, bo7, bo12, jo0, jo1, vlet, i10, i00, if_true, if_false, ite_self, n1z, n0z]
  · rw [Nat.zero_add, if_pos (by decide)]
  · rw [l3]
theorem tt_hidden {x_now_places : Int32} {x_now_people : Int32} {x_now_hour : Int32} {x_now_chance : Int32} {x_now_seed : Int32} {x_now_ways : Nat → Int32} {x_now_distances : Nat → Int32} {x_now_kind : Nat → Int32} {x_now_a : Nat → Int32} {x_now_home : Nat → Int32} {x_now_aim : Nat → Int32} {x_now_at : Nat → Int32} {x_kept_places : Int32} {x_kept_people : Int32} {x_kept_hour : Int32} {x_kept_chance : Int32} {x_kept_seed : Int32} {x_kept_ways : Nat → Int32} {x_kept_distances : Nat → Int32} {x_kept_kind : Nat → Int32} {x_kept_a : Nat → Int32} {x_kept_home : Nat → Int32} {x_kept_aim : Nat → Int32} {x_kept_at : Nat → Int32} {x_isKept : Int32} {x_shelves_c : Nat → Int32} {x_shelves_z : Nat → Int32} {x_shelves_e : Nat → Nat → Int64} {x_tape_size : Int32} {x_tape_bytes : Nat → Int32} {x_refusals : Nat → Int32} {m_places : Int32} {m_people : Int32} {m_hour : Int32} {m_chance : Int32} {m_seed : Int32} {m_ways : Nat → Int32} {m_kind : Nat → Int32} {m_by : Nat → Int32} {m_home : Nat → Int32} {m_aim : Nat → Int32} {m_at0 : Nat → Int32} {m_shelf : Nat → Int32} {m_rowSort : Nat → Int32} {m_rowSize : Nat → Int32} {m_rows : Nat → Nat → Int64} {m_shown : Nat → Int32} {m_tape : Nat → Int32} {m_tapeSize : Int32} {m_refused : Nat → Int32} {m_gone : Int32} {m_kept_places : Int32} {m_kept_people : Int32} {m_kept_hour : Int32} {m_kept_chance : Int32} {m_kept_seed : Int32} {m_kept_ways : Nat → Int32} {m_kept_kind : Nat → Int32} {m_kept_by : Nat → Int32} {m_kept_home : Nat → Int32} {m_kept_aim : Nat → Int32} {m_kept_at0 : Nat → Int32} {kb : Bool} (x_future_places : Int32) (x_future_people : Int32) (x_future_hour : Int32) (x_future_chance : Int32) (x_future_seed : Int32) (x_future_ways : Nat → Int32) (x_future_distances : Nat → Int32) (x_future_kind : Nat → Int32) (x_future_a : Nat → Int32) (x_future_home : Nat → Int32) (x_future_aim : Nat → Int32) (x_future_at : Nat → Int32) (x_hiddenWay_length : Int32) (x_hiddenWay_steps : Nat → Int32) (m_now : Int32) (m_steps : Nat → Int32) (m_spot : Nat → Int32) (m_then : Nat → Int32) (m_darkAt : Nat → Int32) (m_can : Nat → Int32) (p0 : Int32) (p1 : Int32) (p2 : Int32) (R : Rel kb x_now_places x_now_people x_now_hour x_now_chance x_now_seed x_now_ways x_now_distances x_now_kind x_now_a x_now_home x_now_aim x_now_at x_kept_places x_kept_people x_kept_hour x_kept_chance x_kept_seed x_kept_ways x_kept_distances x_kept_kind x_kept_a x_kept_home x_kept_aim x_kept_at x_isKept x_shelves_c x_shelves_z x_shelves_e x_tape_size x_tape_bytes x_refusals m_places m_people m_hour m_chance m_seed m_ways m_kind m_by m_home m_aim m_at0 m_shelf m_rowSort m_rowSize m_rows m_shown m_tape m_tapeSize m_refused m_gone m_kept_places m_kept_people m_kept_hour m_kept_chance m_kept_seed m_kept_ways m_kept_kind m_kept_by m_kept_home m_kept_aim m_kept_at0) : ∃ (r : Int32) (y_future_places : Int32) (y_future_people : Int32) (y_future_hour : Int32) (y_future_chance : Int32) (y_future_seed : Int32) (y_future_ways : Nat → Int32) (y_future_distances : Nat → Int32) (y_future_kind : Nat → Int32) (y_future_a : Nat → Int32) (y_future_home : Nat → Int32) (y_future_aim : Nat → Int32) (y_future_at : Nat → Int32) (y_hiddenWay_length : Int32) (y_hiddenWay_steps : Nat → Int32) (y_refusals : Nat → Int32) (z_now : Int32) (z_refused : Nat → Int32) (z_steps : Nat → Int32) (z_spot : Nat → Int32) (z_then : Nat → Int32) (z_darkAt : Nat → Int32) (z_can : Nat → Int32), fX7_hidden x_now_places x_now_people x_now_hour x_now_chance x_now_seed x_now_ways x_now_distances x_now_kind x_now_a x_now_home x_now_aim x_now_at x_future_places x_future_people x_future_hour x_future_chance x_future_seed x_future_ways x_future_distances x_future_kind x_future_a x_future_home x_future_aim x_future_at x_hiddenWay_length x_hiddenWay_steps x_refusals p0 p1 p2 = some (r, y_future_places, y_future_people, y_future_hour, y_future_chance, y_future_seed, y_future_ways, y_future_distances, y_future_kind, y_future_a, y_future_home, y_future_aim, y_future_at, y_hiddenWay_length, y_hiddenWay_steps, y_refusals) ∧ fX8_hidden m_places m_people m_hour m_now m_gone m_refused m_ways m_kind m_home m_aim m_at0 m_steps m_spot m_then m_darkAt m_can p0 p1 p2 = some (r, z_now, z_refused, z_steps, z_spot, z_then, z_darkAt, z_can) ∧ Rel kb x_now_places x_now_people x_now_hour x_now_chance x_now_seed x_now_ways x_now_distances x_now_kind x_now_a x_now_home x_now_aim x_now_at x_kept_places x_kept_people x_kept_hour x_kept_chance x_kept_seed x_kept_ways x_kept_distances x_kept_kind x_kept_a x_kept_home x_kept_aim x_kept_at x_isKept x_shelves_c x_shelves_z x_shelves_e x_tape_size x_tape_bytes y_refusals m_places m_people m_hour m_chance m_seed m_ways m_kind m_by m_home m_aim m_at0 m_shelf m_rowSort m_rowSize m_rows m_shown m_tape m_tapeSize z_refused m_gone m_kept_places m_kept_people m_kept_hour m_kept_chance m_kept_seed m_kept_ways m_kept_kind m_kept_by m_kept_home m_kept_aim m_kept_at0 := by
  have R0 := R
  obtain ⟨P, n, h, c, s, W, K, A, H, M, L, T, ⟨rfl, rfl, rfl, rfl, rfl, rfl, xd, xk, xa, xh, xm, xl⟩, ⟨rfl, rfl, rfl, rfl, rfl, rfl, mk, ma, mh, mm, ml⟩, rfl, S, U, V, Z⟩ := R
  obtain ⟨hP2, hP, hn, hW, hK, hH, hM, hL, hho⟩ := id T
  obtain ⟨x2, m2, e1, e2, q⟩ := rf2 V
  obtain ⟨x5, m5, e5, e6, q5⟩ := rf5 V
  rcases cPlace P hP p0 with ⟨f, hf, rfl, a1, a2⟩ | ⟨a1, a2⟩
  · rcases cPlace P hP p1 with ⟨to, hto, rfl, b1, b2⟩ | ⟨b1, b2⟩
    · by_cases hp2 : (-1 : Int32) ≤ p2
      · have hD : ∀ t, (fun t => (dkm (fun p => dk (K p)) (lc W P n K H M (fun p => dk (K p)) h L (t)) n)) t < 2 ^ P := fun t => dkm_lt (T.at (fun p => dk (K p)) t).2.2.2.2.2.2.2.1
        have hX := p_seek (s0 := x_hiddenWay_steps) T xd xk xh xm xl hf hto
        have hM := p_mhid (s0 := m_steps) (p0 := m_spot) (t0 := m_then) (dA0 := m_darkAt) (cn0 := m_can) T mk mh mm ml hf hto
        generalize (fun t => (dkm (fun p => dk (K p)) (lc W P n K H M (fun p => dk (K p)) h L (t)) n)) = D at hD hX hM
        unfold fX7_hidden fX8_hidden
        rw [a1, a2, b1, b2, bo1N, jo0N, if_neg (by decide), bo1N, if_neg (by decide), if_pos hp2, p_become, bo12N, bo1N, jo0N, if_neg (by decide), bo1N, if_neg (by decide), if_pos hp2]
        cases e : ff (fun t => (rea W D f t).testBit to) 25 0 with
        | none =>
          rw [e] at hX hM
          obtain ⟨s', hr, af', k1⟩ := hX
          obtain ⟨nw, st, sp, tt, dA, cn, k2⟩ := hM
          rw [k1, k2, bo4N]
          simp only [bo7]
          by_cases c : p2 = (-1 : Int32)
          · rw [if_pos c, if_pos c]
            exact ⟨_, _, _, _, _, _, _, _, _, _, _, _, _, _, _, _, _, _, _, _, _, _, _, rfl, rfl, R0⟩
          · have c2 : ¬ p2 ≤ (-1 : Int32) := fun g => c (Int32.le_antisymm g hp2)
            rw [if_neg c, if_neg c2, if_neg c, if_neg c2, e5, e6, bo2N, bo2N]
            exact ⟨_, _, _, _, _, _, _, _, _, _, _, _, _, _, _, _, _, _, _, _, _, _, _, rfl, rfl, R0.rf q5⟩
        | some t1 =>
          rw [e] at hX hM
          obtain ⟨-, t2, t3, t4⟩ := ff_some e
          have t3' : (rea W D f t1).testBit to = true := t3
          obtain ⟨s', hr, af', k1, k3⟩ := hX
          obtain ⟨nw, st, sp, tt, dA, cn, k2, k4⟩ := hM
          rw [k1, k2, bo4N]
          simp only [bo7]
          by_cases c : p2 = (-1 : Int32)
          · rw [if_pos c, if_pos c]
            exact ⟨_, _, _, _, _, _, _, _, _, _, _, _, _, _, _, _, _, _, _, _, _, _, _, rfl, rfl, R0⟩
          · have c0 : ¬ p2 < 0 := fun g => by
              apply c
              apply Int32.le_antisymm ?_ hp2
              rw [Int32.lt_iff_toInt_lt] at g
              rw [Int32.le_iff_toInt_le]
              have : (0 : Int32).toInt = 0 := by decide
              have : (-1 : Int32).toInt = -1 := by decide
              omega
            obtain ⟨i, hi, rfl⟩ := nx c0
            by_cases c2 : i ≤ t1
            · have c3 : nI i ≤ nI t1 := by rw [nI_leI (by omega) (by omega)]; exact c2
              have pa : fX1_placeAt (nI t1) s' (nf W) (nI f) (nI i) = some (nI (plc W D f t1 to i)) := by
                unfold fX1_placeAt
                refine lq2 (fun k => nI (plc W D f t1 to k)) (fun k => nI (k + 1)) i rfl rfl (fun k hk g => ?_) (fun g => ?_) 400 (by omega)
                · obtain ⟨p1, p2, p3⟩ := plc_ok hW hP hD hf hto t3' k (by omega)
                  obtain ⟨r1, r2, r3⟩ := plc_ok hW hP hD hf hto t3' (k + 1) (by omega)
                  have hx := plc_x hW hP hD hf hto t3' (show k < t1 by omega)
                  have hb : (spr W (2 ^ plc W D f t1 to k) &&& cb W D t1 to (t1 - (k + 1))).testBit (plc W D f t1 to (k + 1)) = true := by
                    obtain ⟨q1, -, -⟩ := meet_q hW hP hD hf hto t3' (show k < t1 by omega)
                    exact q1
                  have hlt : spr W (2 ^ plc W D f t1 to k) &&& cb W D t1 to (t1 - (k + 1)) < 4096 := Nat.lt_of_lt_of_le (and_lt2 (cb_lt hD hto _)) (pw_lt hP)
                  rw [if_neg (by rw [nlt (by omega) (by omega)]; omega), if_neg (by rw [nlt (by omega) (by omega)]; omega), n_pw (k := plc W D f t1 to k) (by omega), p_spread hP (pw_lt2 p1), bo1N, if_n (nin (k := k + 1) (N := 25) (by omega) (by omega)), nc (n := k + 1) (by omega), k3 (k + 1) (by omega), n_and, hx, p_leastOf hlt (show plc W D f t1 to (k + 1) < 12 by omega) hb, bo1N, vletN, nI_1]
                  rfl
                · rw [if_pos (by rw [nlt (by omega) (by omega)]; omega)]
              have hm : ∀ {ρ : Type} (A : Int32 → Option ρ), lo2 (fun g19 (x17 : Int32) (x18 : Int32) => if nI i < x18 then A x17 else bo1 (fX8_besides (nI P) (nf W) ((1 : Int32) <<< (x17 &&& 31))) fun r20 => if x18 < 0 ∨ 25 ≤ x18.toNatClampNeg then none else vlet (r20 &&& (cn x18.toNatClampNeg)) fun x23 => lo1 (fun g25 (x24 : Int32) => if ((x23 >>> (x24 &&& 31)) &&& (1 : Int32)) = 0 then vlet (x24 + (1 : Int32)) fun x27 => g25 x27 else vlet (x18 + (1 : Int32)) fun x26 => g19 x24 x26) 400 (0 : Int32)) 400 (nI f) (1 : Int32) = A (nI (plc W D f t1 to i)) := by
                intro ρ A
                refine lq2 (fun k => nI (plc W D f t1 to k)) (fun k => nI (k + 1)) i rfl rfl (fun k hk g => ?_) (fun g => ?_) 400 (by omega)
                · obtain ⟨p1, p2, p3⟩ := plc_ok hW hP hD hf hto t3' k (by omega)
                  obtain ⟨q1, q2, q3⟩ := meet_q hW hP hD hf hto t3' (show k < t1 by omega)
                  have hlt : spr W (2 ^ plc W D f t1 to k) &&& cb W D t1 to (t1 - (k + 1)) < 4096 := Nat.lt_of_lt_of_le (and_lt2 (cb_lt hD hto _)) (pw_lt hP)
                  rw [if_neg (by rw [nlt (by omega) (by omega)]; omega), n_pw (k := plc W D f t1 to k) (by omega), p_besides hP (pw_lt2 p1), bo1N, if_n (nin (k := k + 1) (N := 25) (by omega) (by omega)), nc (n := k + 1) (by omega), k4 (k + 1) (by omega), n_and, vletN]
                  refine lsf (fun j => (spr W (2 ^ plc W D f t1 to k) &&& cb W D t1 to (t1 - (k + 1))).testBit j) (fun j => g (nI j) (nI (k + 1 + 1))) 0 (plc W D f t1 to (k + 1)) (Nat.zero_le _) q1 (fun j _ hj => q3 j hj) (fun j _ hj g2 => ?_) 400 (by omega)
                  simp only [n_bit0 (m := spr W (2 ^ plc W D f t1 to k) &&& cb W D t1 to (t1 - (k + 1))) (k := j) (by omega) (by omega), vletN, nI_1]
                  by_cases w : (spr W (2 ^ plc W D f t1 to k) &&& cb W D t1 to (t1 - (k + 1))).testBit j = true
                  · simp only [w, Bool.true_eq_false, if_true, if_false]
                  · have w' : (spr W (2 ^ plc W D f t1 to k) &&& cb W D t1 to (t1 - (k + 1))).testBit j = false := by simpa using w
                    simp only [w', Bool.false_eq_true, if_true, if_false]
                · rw [if_pos (by rw [nlt (by omega) (by omega)]; omega)]
              rw [if_neg c, if_pos c3, pa, bo1N, if_neg c, if_pos c3, hm]
              exact ⟨_, _, _, _, _, _, _, _, _, _, _, _, _, _, _, _, _, _, _, _, _, _, _, rfl, rfl, R0⟩
            · have c3 : ¬ nI i ≤ nI t1 := by rw [nI_leI (by omega) (by omega)]; exact c2
              rw [if_neg c, if_neg c3, if_neg c, if_neg c3, e5, e6, bo2N, bo2N]
              exact ⟨_, _, _, _, _, _, _, _, _, _, _, _, _, _, _, _, _, _, _, _, _, _, _, rfl, rfl, R0.rf q5⟩
      · unfold fX7_hidden fX8_hidden
        rw [a1, a2, b1, b2, bo1N, jo0N, if_neg (by decide), bo1N, if_neg (by decide), if_neg hp2, bo1N, jo0N, if_neg (by decide), bo1N, if_neg (by decide), if_neg hp2, e1, e2, bo2N, bo2N]
        exact ⟨_, _, _, _, _, _, _, _, _, _, _, _, _, _, _, _, _, _, _, _, _, _, _, rfl, rfl, R0.rf q⟩
    · unfold fX7_hidden fX8_hidden
      rw [a1, a2, b1, b2, bo1N, jo0N, if_neg (by decide), bo1N, if_pos rfl, bo1N, jo0N, if_neg (by decide), bo1N, if_pos rfl, e1, e2, bo2N, bo2N]
      exact ⟨_, _, _, _, _, _, _, _, _, _, _, _, _, _, _, _, _, _, _, _, _, _, _, rfl, rfl, R0.rf q⟩
  · unfold fX7_hidden fX8_hidden
    rw [a1, a2, bo1N, jo0N, if_pos rfl, bo1N, jo0N, if_pos rfl, e1, e2, bo2N, bo2N]
    exact ⟨_, _, _, _, _, _, _, _, _, _, _, _, _, _, _, _, _, _, _, _, _, _, _, rfl, rfl, R0.rf q⟩
