/-! ===== checks of arguments, both sides at once ===== -/
theorem nx {x : Int32} (h : ¬ x < 0) : ∃ k, k < 2147483648 ∧ x = nI k := by
  have h0 : 0 ≤ x.toInt := by
    have := Int32.not_lt.mp h
    rw [Int32.le_iff_toInt_le] at this
    exact this
  have h1 := Int32.toInt_lt x
  refine ⟨x.toInt.toNat, by omega, ?_⟩
  apply Int32.toInt_inj.1
  rw [nI_toInt (by omega)]
  omega
theorem i10 : ((1 : Int32) = 0) = False := by decide
theorem i00 : ((0 : Int32) = 0) = True := by decide
theorem i01 : (¬ ((0 : Int32) = 0 ∨ (0 : Int32) = 1)) = False := by decide
theorem i11 : (¬ ((1 : Int32) = 0 ∨ (1 : Int32) = 1)) = False := by decide
/-- from .. to, as the Model asks -/
theorem cIn (lo hi : Nat) (l u : Int64) (hl : l = (nI lo).toInt64) (hu : u = (nI hi).toInt64) (h1 : lo ≤ 100000) (h2 : hi ≤ 100000) (x : Int32) : (∃ k, lo ≤ k ∧ k ≤ hi ∧ x = nI k ∧ fX8_in x.toInt64 l u = some 1) ∨ ((x < nI lo ∨ nI hi < x) ∧ fX8_in x.toInt64 l u = some 0) := by
  rw [hl, hu, p_in]
  by_cases g1 : x < nI lo
  · refine Or.inr ⟨Or.inl g1, ?_⟩
    rw [if_neg (fun q => Int32.not_lt.mpr q.1 g1)]; rfl
  · by_cases g2 : nI hi < x
    · refine Or.inr ⟨Or.inr g2, ?_⟩
      rw [if_neg (fun q => Int32.not_lt.mpr q.2 g2)]; rfl
    · left
      have g0 : ¬ x < 0 := by
        intro q
        apply g1
        rw [Int32.lt_iff_toInt_lt] at q ⊢
        rw [nI_toInt (by omega)]
        have : (0 : Int32).toInt = 0 := by decide
        omega
      obtain ⟨k, hk, rfl⟩ := nx g0
      refine ⟨k, ?_, ?_, rfl, ?_⟩
      · have := Int32.not_lt.mp g1
        rw [nI_leI (by omega) (by omega)] at this
        exact this
      · have := Int32.not_lt.mp g2
        rw [nI_leI (by omega) (by omega)] at this
        exact this
      · rw [if_pos ⟨Int32.not_lt.mp g1, Int32.not_lt.mp g2⟩]; rfl
theorem n_m (n : Nat) (h : 0 < n) : nI n - (1 : Int32) = nI (n - 1) := n_sub1 h
/-- one of n, as the Model asks -/
theorem cR (n : Nat) (hn : n ≤ 1000) (x : Int32) : (∃ k, k < n ∧ x = nI k ∧ fX8_in x.toInt64 (0 : Int64) ((nI n - (1 : Int32)).toInt64) = some 1) ∨ ((x < 0 ∨ nI n ≤ x) ∧ fX8_in x.toInt64 (0 : Int64) ((nI n - (1 : Int32)).toInt64) = some 0) := by
  by_cases g1 : x < 0
  · refine Or.inr ⟨Or.inl g1, ?_⟩
    rw [show (0 : Int64) = (0 : Int32).toInt64 from by decide, p_in, if_neg (fun q => Int32.not_lt.mpr q.1 g1)]; rfl
  · obtain ⟨k, hk, rfl⟩ := nx g1
    by_cases g2 : k < n
    · left
      refine ⟨k, g2, rfl, ?_⟩
      have q : nI k ≤ nI (n - 1) := (nI_leI (by omega) (by omega)).mpr (by omega)
      rw [n_m n (by omega), show (0 : Int64) = (0 : Int32).toInt64 from by decide, p_in, if_pos ⟨Int32.not_lt.mp g1, q⟩]
      rfl
    · right
      refine ⟨Or.inr ?_, ?_⟩
      · rw [nI_leI (by omega) (by omega)]; omega
      · rw [show (0 : Int64) = (0 : Int32).toInt64 from by decide, p_in, if_neg ?_]
        · rfl
        · rintro ⟨-, q⟩
          by_cases n0 : n = 0
          · subst n0
            rw [Int32.le_iff_toInt_le, nI_toInt (by omega)] at q
            have : (nI 0 - (1 : Int32)).toInt = -1 := by decide
            omega
          · rw [n_m n (by omega), nI_leI (by omega) (by omega)] at q
            omega
theorem cPerson (n : Nat) (hn : n ≤ 8) (x : Int32) : (∃ k, k < n ∧ x = nI k ∧ fX7_isPerson (nI n) x = some 1 ∧ fX8_isPerson (nI n) x = some 1) ∨ (fX7_isPerson (nI n) x = some 0 ∧ fX8_isPerson (nI n) x = some 0) := by
  unfold fX7_isPerson fX8_isPerson
  rcases cR n (by omega) x with ⟨k, hk, rfl, e⟩ | ⟨h, e⟩
  · left
    refine ⟨k, hk, rfl, ?_, ?_⟩
    · rw [if_neg (nI_pos (by omega)), if_neg (by rw [nle (by omega) (by omega)]; omega)]
    · rw [e]; rfl
  · right
    refine ⟨?_, ?_⟩
    · rcases h with h | h
      · rw [if_pos h]
      · simp only [h, if_true, ite_self]
    · rw [e]; rfl
theorem cPlace (n : Nat) (hn : n ≤ 12) (x : Int32) : (∃ k, k < n ∧ x = nI k ∧ fX7_isPlace (nI n) x = some 1 ∧ fX8_isPlace (nI n) x = some 1) ∨ (fX7_isPlace (nI n) x = some 0 ∧ fX8_isPlace (nI n) x = some 0) := by
  unfold fX7_isPlace fX8_isPlace
  rcases cR n (by omega) x with ⟨k, hk, rfl, e⟩ | ⟨h, e⟩
  · left
    refine ⟨k, hk, rfl, ?_, ?_⟩
    · rw [if_neg (nI_pos (by omega)), if_neg (by rw [nle (by omega) (by omega)]; omega)]
    · rw [e]; rfl
  · right
    refine ⟨?_, ?_⟩
    · rcases h with h | h
      · rw [if_pos h]
      · simp only [h, if_true, ite_self]
    · rw [e]; rfl
theorem cTime (x : Int32) : (∃ k, k ≤ 48 ∧ x = nI k ∧ fX7_isAhead x = some 1 ∧ fX8_isTime x = some 1) ∨ (fX7_isAhead x = some 0 ∧ fX8_isTime x = some 0) := by
  unfold fX7_isAhead fX8_isTime
  rcases cIn 0 48 0 48 (by decide) (by decide) (by omega) (by omega) x with ⟨k, -, hk, rfl, e⟩ | ⟨h, e⟩
  · left
    refine ⟨k, hk, rfl, ?_, ?_⟩
    · rw [if_neg (nI_pos (by omega)), if_neg (by rw [show (48 : Int32) = nI 48 from rfl, nlt (by omega) (by omega)]; omega)]
    · rw [e]; rfl
  · right
    refine ⟨?_, ?_⟩
    · rcases h with h | h
      · exact if_pos h
      · simp only [show (48 : Int32) < x from h, if_true, ite_self]
    · rw [e]; rfl
theorem cSpan (x : Int32) : (∃ k, 1 ≤ k ∧ k ≤ 48 ∧ x = nI k ∧ fX7_isSpan x = some 1 ∧ fX8_in x.toInt64 (1 : Int64) (48 : Int64) = some 1) ∨ (fX7_isSpan x = some 0 ∧ fX8_in x.toInt64 (1 : Int64) (48 : Int64) = some 0) := by
  unfold fX7_isSpan
  rcases cIn 1 48 1 48 (by decide) (by decide) (by omega) (by omega) x with ⟨k, h1, hk, rfl, e⟩ | ⟨h, e⟩
  · left
    refine ⟨k, h1, hk, rfl, ?_, e⟩
    rw [if_neg (by rw [show (1 : Int32) = nI 1 from rfl, nlt (by omega) (by omega)]; omega), if_neg (by rw [show (48 : Int32) = nI 48 from rfl, nlt (by omega) (by omega)]; omega)]
  · right
    refine ⟨?_, e⟩
    rcases h with h | h
    · exact if_pos h
    · simp only [show (48 : Int32) < x from h, if_true, ite_self]
theorem cShelf (x : Int32) : (∃ k, k < 8 ∧ x = nI k ∧ fX7_isShelf x = some 1 ∧ fX8_in x.toInt64 (0 : Int64) (7 : Int64) = some 1) ∨ (fX7_isShelf x = some 0 ∧ fX8_in x.toInt64 (0 : Int64) (7 : Int64) = some 0) := by
  unfold fX7_isShelf
  rcases cIn 0 7 0 7 (by decide) (by decide) (by omega) (by omega) x with ⟨k, h1, hk, rfl, e⟩ | ⟨h, e⟩
  · left
    refine ⟨k, by omega, rfl, ?_, e⟩
    rw [if_neg (nI_pos (by omega)), if_neg (by rw [show (8 : Int32) = nI 8 from rfl, nle (by omega) (by omega)]; omega)]
  · right
    refine ⟨?_, e⟩
    rcases h with h | h
    · exact if_pos h
    · by_cases g : x < 0
      · rw [if_pos g]
      · obtain ⟨k, hk, rfl⟩ := nx g
        rw [nI_ltI (by omega) (by omega)] at h
        rw [if_neg g, if_pos (by rw [show (8 : Int32) = nI 8 from rfl, nI_leI (by omega) (by omega)]; omega)]
theorem cKind (x : Int32) : (∃ k, k < 6 ∧ x = nI k ∧ fX7_isKind x = some 1 ∧ fX8_in x.toInt64 (0 : Int64) (5 : Int64) = some 1) ∨ (fX7_isKind x = some 0 ∧ fX8_in x.toInt64 (0 : Int64) (5 : Int64) = some 0) := by
  unfold fX7_isKind
  rcases cIn 0 5 0 5 (by decide) (by decide) (by omega) (by omega) x with ⟨k, h1, hk, rfl, e⟩ | ⟨h, e⟩
  · left
    refine ⟨k, by omega, rfl, ?_, e⟩
    rw [if_neg (nI_pos (by omega)), if_neg (by rw [show (6 : Int32) = nI 6 from rfl, nle (by omega) (by omega)]; omega)]
  · right
    refine ⟨?_, e⟩
    rcases h with h | h
    · exact if_pos h
    · by_cases g : x < 0
      · rw [if_pos g]
      · obtain ⟨k, hk, rfl⟩ := nx g
        rw [nI_ltI (by omega) (by omega)] at h
        rw [if_neg g, if_pos (by rw [show (6 : Int32) = nI 6 from rfl, nI_leI (by omega) (by omega)]; omega)]
/-! ===== refusals ===== -/
theorem rf_k {xr mr : Nat → Int32} (q : rfr xr mr) (k : Nat) (hk : k < 5) : rfr (upd xr k (xr k + 1)) (upd mr (k + 2) (mr (k + 2) + 1)) := by
  intro j hj
  by_cases e : j = k
  · subst e
    rw [pk_us, pk_us, q j hj]
  · rw [pk_un e, pk_un (by omega : j + 2 ≠ k + 2), q j hj]
theorem rf2 {xr mr : Nat → Int32} (q : rfr xr mr) : ∃ x2 m2, fX7_refuse xr (-2) = some (-2, x2) ∧ fX8_refuse mr (-2) = some (-2, m2) ∧ rfr x2 m2 := ⟨_, _, rfl, rfl, rf_k q 0 (by omega)⟩
theorem rf3 {xr mr : Nat → Int32} (q : rfr xr mr) : ∃ x2 m2, fX7_refuse xr (-3) = some (-3, x2) ∧ fX8_refuse mr (-3) = some (-3, m2) ∧ rfr x2 m2 := ⟨_, _, rfl, rfl, rf_k q 1 (by omega)⟩
theorem rf4 {xr mr : Nat → Int32} (q : rfr xr mr) : ∃ x2 m2, fX7_refuse xr (-4) = some (-4, x2) ∧ fX8_refuse mr (-4) = some (-4, m2) ∧ rfr x2 m2 := ⟨_, _, rfl, rfl, rf_k q 2 (by omega)⟩
theorem rf5 {xr mr : Nat → Int32} (q : rfr xr mr) : ∃ x2 m2, fX7_refuse xr (-5) = some (-5, x2) ∧ fX8_refuse mr (-5) = some (-5, m2) ∧ rfr x2 m2 := ⟨_, _, rfl, rfl, rf_k q 3 (by omega)⟩
theorem rf6 {xr mr : Nat → Int32} (q : rfr xr mr) : ∃ x2 m2, fX7_refuse xr (-6) = some (-6, x2) ∧ fX8_refuse mr (-6) = some (-6, m2) ∧ rfr x2 m2 := ⟨_, _, rfl, rfl, rf_k q 4 (by omega)⟩
