/-! ===== who darkens; dark and shining places ===== -/
def dk (k : Nat) : Bool := !(k == 3) && !(k == 5)
def dkm (D : Nat → Bool) (L : Nat → Nat) : Nat → Nat
  | 0 => 0
  | n + 1 => if D n then dkm D L n ||| 2 ^ (L n) else dkm D L n
theorem dkm_bit (D : Nat → Bool) (L : Nat → Nat) (n q : Nat) : (dkm D L n).testBit q = true ↔ ∃ p, p < n ∧ D p = true ∧ L p = q := by
  induction n with
  | zero => simp [dkm]
  | succ n ih =>
    unfold dkm
    by_cases h : D n = true
    · rw [if_pos h, Nat.testBit_or, Bool.or_eq_true, ih, Nat.testBit_two_pow, decide_eq_true_eq]
      constructor
      · rintro (⟨p, h1, h2, h3⟩ | h1)
        · exact ⟨p, by omega, h2, h3⟩
        · exact ⟨n, by omega, h, h1⟩
      · rintro ⟨p, h1, h2, h3⟩
        by_cases e : p = n
        · subst e; exact Or.inr h3
        · exact Or.inl ⟨p, by omega, h2, h3⟩
    · rw [if_neg h, ih]
      constructor
      · rintro ⟨p, h1, h2, h3⟩; exact ⟨p, by omega, h2, h3⟩
      · rintro ⟨p, h1, h2, h3⟩
        by_cases e : p = n
        · subst e; exact absurd h2 h
        · exact ⟨p, by omega, h2, h3⟩
theorem dkm_lt {D : Nat → Bool} {L : Nat → Nat} {n P : Nat} (h : ∀ p, p < n → L p < P) : dkm D L n < 2 ^ P := by
  apply Nat.lt_pow_two_of_testBit
  intro q hq
  cases hb : (dkm D L n).testBit q with
  | false => rfl
  | true =>
    obtain ⟨p, h1, -, h3⟩ := (dkm_bit D L n q).mp hb
    have := h p h1
    omega
theorem dkm_congr {D D' : Nat → Bool} {L L' : Nat → Nat} {n : Nat} (hD : ∀ p, p < n → D p = D' p) (hL : ∀ p, p < n → L p = L' p) : dkm D L n = dkm D' L' n := by
  induction n with
  | zero => rfl
  | succ n ih =>
    unfold dkm
    rw [ih (fun p h => hD p (by omega)) (fun p h => hL p (by omega)), hD n (by omega), hL n (by omega)]
theorem b01 (b : Bool) : (nI (if b then 1 else 0) = 0) = (b = false) := by cases b <;> simp <;> decide
/-- an array holds K below n -/
def ag (n : Nat) (f : Nat → Int32) (K : Nat → Nat) : Prop := ∀ p, p < n → f p = nI (K p)
theorem ag_nf (n : Nat) (K : Nat → Nat) : ag n (nf K) K := fun _ _ => rfl
theorem n35 (k : Nat) (h : k < 6) : (nI k = (3 : Int32)) = (k = 3) ∧ (nI k = (5 : Int32)) = (k = 5) := by
  match k, h with
  | 0, _ => decide
  | 1, _ => decide
  | 2, _ => decide
  | 3, _ => decide
  | 4, _ => decide
  | 5, _ => decide
  | k + 6, h => exact absurd h (by omega)
theorem p_darkens {kf : Nat → Int32} {K : Nat → Nat} {n p : Nat} (hn : n ≤ 8) (hp : p < n) (hk : ag n kf K) (hK : ∀ p, p < n → K p < 6) : fX5_darkens kf (nI p) = some (nI (if dk (K p) then 1 else 0)) := by
  unfold fX5_darkens
  simp only [if_n (nin (k := p) (N := 8) (by omega) (by omega))]
  simp only [nc (n := p) (by omega), hk p hp, (n35 (K p) (hK p hp)).1, (n35 (K p) (hK p hp)).2]
  by_cases h3 : K p = 3
  · simp [h3, dk]; rfl
  · by_cases h5 : K p = 5
    · simp [h5, dk]; rfl
    · simp [h3, h5, dk]; rfl
theorem p_darkPlaces {kf af : Nat → Int32} {K L : Nat → Nat} {n : Nat} (hn : n ≤ 8) (hk : ag n kf K) (hl : ag n af L) (hK : ∀ p, p < n → K p < 6) (hL : ∀ p, p < n → L p < 12) : fX5_darkPlaces (nI n) kf af = some (nI (dkm (fun p => dk (K p)) L n)) := by
  unfold fX5_darkPlaces
  refine lr2 (fun i => nI (dkm (fun p => dk (K p)) L i)) (fun i => nI i) n (fun i hi ag => ?_) (fun ag => ?_) 400 (by omega)
  · rw [if_neg (by rw [nle (by omega) (by omega)]; omega), p_darkens hn hi hk hK]
    simp only [bo1, jo1, vlet, b01]
    rw [if_n (nin (k := i) (N := 8) (by omega) (by omega)), nc (n := i) (by omega), hl i hi, n_pw (by have := hL i hi; omega), n_or, nI_1]
    simp only [dkm]
    by_cases hb : dk (K i) = true
    · simp [hb]
    · simp [hb]
  · rw [if_pos (by rw [nle (by omega) (by omega)]; omega)]
/-- what shines: of P places those that aren't dark -/
def ltm (P m : Nat) : Nat := nd (2 ^ P - 1) m
theorem ltm_bit (P m q : Nat) : (ltm P m).testBit q = (decide (q < P) && !m.testBit q) := by
  unfold ltm
  rw [nd_bit, full_bit]
theorem ltm_lt {P m : Nat} : ltm P m < 2 ^ P := nd_lt (Nat.sub_lt (pw_pos P) (by decide))
theorem p_shiningPlaces {kf af : Nat → Int32} {K L : Nat → Nat} {P n : Nat} (hP : P ≤ 12) (hn : n ≤ 8) (hk : ag n kf K) (hl : ag n af L) (hK : ∀ p, p < n → K p < 6) (hL : ∀ p, p < n → L p < 12) : fX5_shiningPlaces (nI P) (nI n) kf af = some (nI (ltm P (dkm (fun p => dk (K p)) L n))) := by
  unfold fX5_shiningPlaces
  rw [p_darkPlaces hn hk hl hK hL]
  simp only [bo1]
  rw [n_full hP, n_not]
  rfl
theorem p_shiningCount {kf af : Nat → Int32} {K L : Nat → Nat} {P n : Nat} (hP : P ≤ 12) (hn : n ≤ 8) (hk : ag n kf K) (hl : ag n af L) (hK : ∀ p, p < n → K p < 6) (hL : ∀ p, p < n → L p < 12) : fX5_shiningCount (nI P) (nI n) kf af = some (nI (pc (ltm P (dkm (fun p => dk (K p)) L n)) 12)) := by
  unfold fX5_shiningCount
  rw [p_shiningPlaces hP hn hk hl hK hL]
  simp only [bo1]
  rw [p_bitCount _ (Nat.lt_of_lt_of_le ltm_lt (pw_lt hP))]
/-! ===== the same in the Model; who is gone (in thought) doesn't darken ===== -/
/-- nobody is gone, or one of the people -/
def gn (g : Int32) (G : Nat → Bool) : Prop := ∀ p, p < 8 → ((nI p = g) = (G p = true))
theorem gn_no : gn (-1) (fun _ => false) := by
  intro p hp
  rw [show (nI p = (-1 : Int32)) = False from by
    apply propext
    constructor
    · intro h
      have h1 := congrArg Int32.toInt h
      rw [nI_toInt (by omega), show ((-1 : Int32).toInt) = -1 from by decide] at h1
      omega
    · exact False.elim]
  simp
theorem gn_one {g : Nat} (hg : g < 8) : gn (nI g) (fun p => p == g) := by
  intro p hp
  rw [neq (by omega) (by omega)]
  simp
theorem p_mdarkens {kf : Nat → Int32} {K : Nat → Nat} {g : Int32} {G : Nat → Bool} {n p : Nat} (hn : n ≤ 8) (hp : p < n) (hg : gn g G) (hk : ag n kf K) (hK : ∀ p, p < n → K p < 6) : fX8_darkens g kf (nI p) = some (nI (if !G p && dk (K p) then 1 else 0)) := by
  unfold fX8_darkens
  simp only [hg p (by omega), if_n (nin (k := p) (N := 8) (by omega) (by omega))]
  simp only [nc (n := p) (by omega), hk p hp, (n35 (K p) (hK p hp)).1, (n35 (K p) (hK p hp)).2]
  by_cases h : G p = true
  · simp [h]; rfl
  · by_cases h3 : K p = 3
    · simp [h, h3, dk]; rfl
    · by_cases h5 : K p = 5
      · simp [h, h5, dk]; rfl
      · simp [h, h3, h5, dk]; rfl
theorem p_mlight {kf af : Nat → Int32} {K L : Nat → Nat} {g : Int32} {G : Nat → Bool} {P n : Nat} (hP : P ≤ 12) (hn : n ≤ 8) (hg : gn g G) (hk : ag n kf K) (hl : ag n af L) (hK : ∀ p, p < n → K p < 6) (hL : ∀ p, p < n → L p < 12) : fX8_light (nI P) (nI n) g kf af = some (nI (ltm P (dkm (fun p => !G p && dk (K p)) L n))) := by
  unfold fX8_light
  simp only [vlet]
  rw [n_full hP]
  have e0 : ltm P (dkm (fun p => !G p && dk (K p)) L 0) = 2 ^ P - 1 := by simp [ltm, dkm, nd]
  refine Eq.trans (congrArg (fun x => lo2 _ 400 x _) (congrArg nI e0.symm)) ?_
  refine lr2 (fun i => nI (ltm P (dkm (fun p => !G p && dk (K p)) L i))) (fun i => nI i) n (fun i hi ag => ?_) (fun ag => ?_) 400 (by omega)
  · rw [if_neg (by rw [nle (by omega) (by omega)]; omega), p_mdarkens hn hi hg hk hK]
    simp only [bo1, jo1, b01]
    rw [if_n (nin (k := i) (N := 8) (by omega) (by omega)), nc (n := i) (by omega), hl i hi, n_pw (by have := hL i hi; omega), nI_1]
    have e1 : ∀ x : Int32, x &&& (-1) = x := by
      intro x
      apply Int32.toBitVec_inj.1
      show x.toBitVec &&& BitVec.ofInt 32 (-1) = x.toBitVec
      rw [show BitVec.ofInt 32 (-1) = BitVec.allOnes 32 from by decide]
      exact BitVec.and_allOnes
    rw [n_not, e1]
    cases hb : (!G i && dk (K i)) with
    | false => simp [dkm, hb]
    | true =>
      simp only [dkm, hb, if_true, Bool.true_eq_false, if_false]
      congr 2
      apply Nat.eq_of_testBit_eq
      intro q
      rw [nd_bit, ltm_bit, ltm_bit, Nat.testBit_or]
      cases decide (q < P) <;> cases (dkm (fun p => !G p && dk (K p)) L i).testBit q <;> cases (2 ^ L i).testBit q <;> rfl
  · rw [if_pos (by rw [nle (by omega) (by omega)]; omega)]
