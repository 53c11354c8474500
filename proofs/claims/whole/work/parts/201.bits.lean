/-! ===== masks: natural numbers by their bits ===== -/
theorem n_and (a b : Nat) : nI a &&& nI b = nI (a &&& b) := by
  apply Int32.toBitVec_inj.1
  show BitVec.ofNat 32 a &&& BitVec.ofNat 32 b = BitVec.ofNat 32 (a &&& b)
  apply BitVec.eq_of_getLsbD_eq
  intro i hi
  simp [hi]
theorem n_or (a b : Nat) : nI a ||| nI b = nI (a ||| b) := by
  apply Int32.toBitVec_inj.1
  show BitVec.ofNat 32 a ||| BitVec.ofNat 32 b = BitVec.ofNat 32 (a ||| b)
  apply BitVec.eq_of_getLsbD_eq
  intro i hi
  simp [hi]
theorem n_xor (a b : Nat) : nI a ^^^ nI b = nI (a ^^^ b) := by
  apply Int32.toBitVec_inj.1
  show BitVec.ofNat 32 a ^^^ BitVec.ofNat 32 b = BitVec.ofNat 32 (a ^^^ b)
  apply BitVec.eq_of_getLsbD_eq
  intro i hi
  simp [hi]
/-- what is in a and not in b -/
def nd (a b : Nat) : Nat := a ^^^ (a &&& b)
theorem nd_bit (a b i : Nat) : (nd a b).testBit i = (a.testBit i && !b.testBit i) := by
  unfold nd
  rw [Nat.testBit_xor, Nat.testBit_and]
  cases a.testBit i <;> cases b.testBit i <;> rfl
theorem n_m1 : (-1 : Int32) = nI 4294967295 := by decide
theorem n_not (a b : Nat) : nI a &&& (nI b ^^^ (-1)) = nI (nd a b) := by
  apply Int32.toBitVec_inj.1
  rw [n_m1]
  show BitVec.ofNat 32 a &&& (BitVec.ofNat 32 b ^^^ BitVec.ofNat 32 4294967295) = BitVec.ofNat 32 (nd a b)
  apply BitVec.eq_of_getLsbD_eq
  intro i hi
  have h1 : Nat.testBit 4294967295 i = true := by
    rw [show (4294967295 : Nat) = 2 ^ 32 - 1 from rfl, Nat.testBit_two_pow_sub_one]
    exact decide_eq_true hi
  simp only [BitVec.getLsbD_and, BitVec.getLsbD_xor, BitVec.getLsbD_ofNat, hi, decide_true, Bool.true_and, h1, nd_bit]
  cases a.testBit i <;> cases b.testBit i <;> rfl
theorem s_l : ∀ n, n < 31 → ((nI n &&& 31).toBitVec.smod 32).toNat = n := by decide +kernel
theorem n_pw {k : Nat} (h : k < 31) : (1 : Int32) <<< (nI k &&& 31) = nI (2 ^ k) := by
  have := pk_shlN (n := 1) (nI k &&& 31) k (s_l k h) (by rw [Nat.one_mul]; exact Nat.pow_lt_pow_right (by decide) (by omega))
  rw [Nat.one_mul] at this
  exact this
theorem n_shr {m k : Nat} (hm : m < 2147483648) (h : k < 31) : nI m >>> (nI k &&& 31) = nI (m / 2 ^ k) := pk_shrN hm _ k (s_l k h)
theorem n_bit {m k : Nat} (hm : m < 2147483648) (h : k < 31) : (nI m >>> (nI k &&& 31)) &&& (1 : Int32) = nI (if m.testBit k then 1 else 0) := by
  rw [n_shr hm h, show (1 : Int32) = nI 1 from rfl, n_and]
  congr 1
  rw [Nat.testBit_eq_decide_div_mod_eq, Nat.and_one_is_mod]
  rcases Nat.mod_two_eq_zero_or_one (m / 2 ^ k) with h | h <;> simp [h]
theorem n_bit0 {m k : Nat} (hm : m < 2147483648) (h : k < 31) : ((nI m >>> (nI k &&& 31)) &&& (1 : Int32) = 0) = (m.testBit k = false) := by
  rw [n_bit hm h]
  cases m.testBit k <;> simp <;> decide
theorem n_bit1 {m k : Nat} (hm : m < 2147483648) (h : k < 31) : ((nI m >>> (nI k &&& 31)) &&& (1 : Int32) = 1) = (m.testBit k = true) := by
  rw [n_bit hm h]
  cases m.testBit k <;> simp <;> decide
theorem p_hasBit {m k : Nat} (hm : m < 2147483648) (h : k < 31) : fX7_hasBit (nI m) (nI k) = some (nI (if m.testBit k then 1 else 0)) := by
  unfold fX7_hasBit
  rw [n_bit hm h]
  cases m.testBit k <;> rfl
/-- all of n places -/
theorem full_bit (n i : Nat) : (2 ^ n - 1).testBit i = decide (i < n) := Nat.testBit_two_pow_sub_one n i
theorem n_sub1 {a : Nat} (h : 0 < a) : nI a - (1 : Int32) = nI (a - 1) := pk_sub (a := a) (b := 1) h
theorem pw_lt {k : Nat} (h : k ≤ 12) : 2 ^ k ≤ 4096 := Nat.pow_le_pow_right (by decide) h
theorem pw_pos (k : Nat) : 0 < 2 ^ k := Nat.two_pow_pos k
theorem n_full {P : Nat} (h : P ≤ 12) : ((1 : Int32) <<< (nI P &&& 31)) - (1 : Int32) = nI (2 ^ P - 1) := by
  rw [n_pw (by omega), n_sub1 (pw_pos P)]
theorem or_lt {a b k : Nat} (ha : a < 2 ^ k) (hb : b < 2 ^ k) : a ||| b < 2 ^ k := Nat.or_lt_two_pow ha hb
theorem nd_lt {a b k : Nat} (ha : a < 2 ^ k) : nd a b < 2 ^ k := by
  apply Nat.lt_pow_two_of_testBit
  intro i hi
  rw [nd_bit, Nat.testBit_lt_two_pow (Nat.lt_of_lt_of_le ha (Nat.pow_le_pow_right (by decide) hi))]
  rfl
/-! ===== how many bits ===== -/
def pc : Nat → Nat → Nat
  | _, 0 => 0
  | m, k + 1 => pc m k + (if m.testBit k then 1 else 0)
theorem split64 {Q : Nat → Prop} (h : ∀ a, a < 64 → ∀ b, b < 64 → Q (64 * a + b)) : ∀ m, m < 4096 → Q m := by
  intro m hm
  have := h (m / 64) (by omega) (m % 64) (by omega)
  rwa [show 64 * (m / 64) + m % 64 = m from by omega] at this
theorem p_bitCount : ∀ m, m < 4096 → fJ6_bitCount_0f7a4 (nI m) = some (nI (pc m 12)) := split64 (Q := fun m => fJ6_bitCount_0f7a4 (nI m) = some (nI (pc m 12))) (by decide +kernel)
theorem p_bits : ∀ m, m < 4096 → fX8_bits (nI m) = some (nI (pc m 12)) := split64 (Q := fun m => fX8_bits (nI m) = some (nI (pc m 12))) (by decide +kernel)
