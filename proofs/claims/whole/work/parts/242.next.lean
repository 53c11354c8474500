/-! ===== loops by an invariant, the rest as a thought ===== -/
theorem lk1 {A1 ρ : Type} {Φ : Option ρ → Prop} {F : (A1 → Option ρ) → A1 → Option ρ} {a1 : A1} (I : Nat → A1 → Prop) (N : Nat) (h0 : I 0 a1) (hs : ∀ i, i < N → ∀ x1, I i x1 → ∀ ag, (∀ y1, I (i + 1) y1 → Φ (ag y1)) → Φ (F ag x1)) (he : ∀ z1, I N z1 → ∀ ag, Φ (F ag z1)) (n : Nat) (hn : N < n) : Φ (lo1 F n a1) := by
  have key : ∀ (m i n : Nat), i + m = N → m < n → ∀ b1, I i b1 → Φ (lo1 F n b1) := by
    intro m
    induction m with
    | zero =>
      intro i n hi hn b1 hb
      have : i = N := by omega
      subst this
      cases n with
      | zero => exact absurd hn (by omega)
      | succ n => exact he b1 hb _
    | succ m ih =>
      intro i n hi hn b1 hb
      cases n with
      | zero => exact absurd hn (by omega)
      | succ n => exact hs i (by omega) b1 hb _ (fun y1 hy => ih (i + 1) n (by omega) (by omega) y1 hy)
  exact key N 0 n (by omega) hn a1 h0
theorem lk2 {A1 A2 ρ : Type} {Φ : Option ρ → Prop} {F : (A1 → A2 → Option ρ) → A1 → A2 → Option ρ} {a1 : A1} {a2 : A2} (I : Nat → A1 → A2 → Prop) (N : Nat) (h0 : I 0 a1 a2) (hs : ∀ i, i < N → ∀ x1 x2, I i x1 x2 → ∀ ag, (∀ y1 y2, I (i + 1) y1 y2 → Φ (ag y1 y2)) → Φ (F ag x1 x2)) (he : ∀ z1 z2, I N z1 z2 → ∀ ag, Φ (F ag z1 z2)) (n : Nat) (hn : N < n) : Φ (lo2 F n a1 a2) := by
  have key : ∀ (m i n : Nat), i + m = N → m < n → ∀ b1 b2, I i b1 b2 → Φ (lo2 F n b1 b2) := by
    intro m
    induction m with
    | zero =>
      intro i n hi hn b1 b2 hb
      have : i = N := by omega
      subst this
      cases n with
      | zero => exact absurd hn (by omega)
      | succ n => exact he b1 b2 hb _
    | succ m ih =>
      intro i n hi hn b1 b2 hb
      cases n with
      | zero => exact absurd hn (by omega)
      | succ n => exact hs i (by omega) b1 b2 hb _ (fun y1 y2 hy => ih (i + 1) n (by omega) (by omega) y1 y2 hy)
  exact key N 0 n (by omega) hn a1 a2 h0
theorem lk3 {A1 A2 A3 ρ : Type} {Φ : Option ρ → Prop} {F : (A1 → A2 → A3 → Option ρ) → A1 → A2 → A3 → Option ρ} {a1 : A1} {a2 : A2} {a3 : A3} (I : Nat → A1 → A2 → A3 → Prop) (N : Nat) (h0 : I 0 a1 a2 a3) (hs : ∀ i, i < N → ∀ x1 x2 x3, I i x1 x2 x3 → ∀ ag, (∀ y1 y2 y3, I (i + 1) y1 y2 y3 → Φ (ag y1 y2 y3)) → Φ (F ag x1 x2 x3)) (he : ∀ z1 z2 z3, I N z1 z2 z3 → ∀ ag, Φ (F ag z1 z2 z3)) (n : Nat) (hn : N < n) : Φ (lo3 F n a1 a2 a3) := by
  have key : ∀ (m i n : Nat), i + m = N → m < n → ∀ b1 b2 b3, I i b1 b2 b3 → Φ (lo3 F n b1 b2 b3) := by
    intro m
    induction m with
    | zero =>
      intro i n hi hn b1 b2 b3 hb
      have : i = N := by omega
      subst this
      cases n with
      | zero => exact absurd hn (by omega)
      | succ n => exact he b1 b2 b3 hb _
    | succ m ih =>
      intro i n hi hn b1 b2 b3 hb
      cases n with
      | zero => exact absurd hn (by omega)
      | succ n => exact hs i (by omega) b1 b2 b3 hb _ (fun y1 y2 y3 hy => ih (i + 1) n (by omega) (by omega) y1 y2 y3 hy)
  exact key N 0 n (by omega) hn a1 a2 a3 h0
theorem lk4 {A1 A2 A3 A4 ρ : Type} {Φ : Option ρ → Prop} {F : (A1 → A2 → A3 → A4 → Option ρ) → A1 → A2 → A3 → A4 → Option ρ} {a1 : A1} {a2 : A2} {a3 : A3} {a4 : A4} (I : Nat → A1 → A2 → A3 → A4 → Prop) (N : Nat) (h0 : I 0 a1 a2 a3 a4) (hs : ∀ i, i < N → ∀ x1 x2 x3 x4, I i x1 x2 x3 x4 → ∀ ag, (∀ y1 y2 y3 y4, I (i + 1) y1 y2 y3 y4 → Φ (ag y1 y2 y3 y4)) → Φ (F ag x1 x2 x3 x4)) (he : ∀ z1 z2 z3 z4, I N z1 z2 z3 z4 → ∀ ag, Φ (F ag z1 z2 z3 z4)) (n : Nat) (hn : N < n) : Φ (lo4 F n a1 a2 a3 a4) := by
  have key : ∀ (m i n : Nat), i + m = N → m < n → ∀ b1 b2 b3 b4, I i b1 b2 b3 b4 → Φ (lo4 F n b1 b2 b3 b4) := by
    intro m
    induction m with
    | zero =>
      intro i n hi hn b1 b2 b3 b4 hb
      have : i = N := by omega
      subst this
      cases n with
      | zero => exact absurd hn (by omega)
      | succ n => exact he b1 b2 b3 b4 hb _
    | succ m ih =>
      intro i n hi hn b1 b2 b3 b4 hb
      cases n with
      | zero => exact absurd hn (by omega)
      | succ n => exact hs i (by omega) b1 b2 b3 b4 hb _ (fun y1 y2 y3 y4 hy => ih (i + 1) n (by omega) (by omega) y1 y2 y3 y4 hy)
  exact key N 0 n (by omega) hn a1 a2 a3 a4 h0
theorem lk5 {A1 A2 A3 A4 A5 ρ : Type} {Φ : Option ρ → Prop} {F : (A1 → A2 → A3 → A4 → A5 → Option ρ) → A1 → A2 → A3 → A4 → A5 → Option ρ} {a1 : A1} {a2 : A2} {a3 : A3} {a4 : A4} {a5 : A5} (I : Nat → A1 → A2 → A3 → A4 → A5 → Prop) (N : Nat) (h0 : I 0 a1 a2 a3 a4 a5) (hs : ∀ i, i < N → ∀ x1 x2 x3 x4 x5, I i x1 x2 x3 x4 x5 → ∀ ag, (∀ y1 y2 y3 y4 y5, I (i + 1) y1 y2 y3 y4 y5 → Φ (ag y1 y2 y3 y4 y5)) → Φ (F ag x1 x2 x3 x4 x5)) (he : ∀ z1 z2 z3 z4 z5, I N z1 z2 z3 z4 z5 → ∀ ag, Φ (F ag z1 z2 z3 z4 z5)) (n : Nat) (hn : N < n) : Φ (lo5 F n a1 a2 a3 a4 a5) := by
  have key : ∀ (m i n : Nat), i + m = N → m < n → ∀ b1 b2 b3 b4 b5, I i b1 b2 b3 b4 b5 → Φ (lo5 F n b1 b2 b3 b4 b5) := by
    intro m
    induction m with
    | zero =>
      intro i n hi hn b1 b2 b3 b4 b5 hb
      have : i = N := by omega
      subst this
      cases n with
      | zero => exact absurd hn (by omega)
      | succ n => exact he b1 b2 b3 b4 b5 hb _
    | succ m ih =>
      intro i n hi hn b1 b2 b3 b4 b5 hb
      cases n with
      | zero => exact absurd hn (by omega)
      | succ n => exact hs i (by omega) b1 b2 b3 b4 b5 hb _ (fun y1 y2 y3 y4 y5 hy => ih (i + 1) n (by omega) (by omega) y1 y2 y3 y4 y5 hy)
  exact key N 0 n (by omega) hn a1 a2 a3 a4 a5 h0
theorem lk6 {A1 A2 A3 A4 A5 A6 ρ : Type} {Φ : Option ρ → Prop} {F : (A1 → A2 → A3 → A4 → A5 → A6 → Option ρ) → A1 → A2 → A3 → A4 → A5 → A6 → Option ρ} {a1 : A1} {a2 : A2} {a3 : A3} {a4 : A4} {a5 : A5} {a6 : A6} (I : Nat → A1 → A2 → A3 → A4 → A5 → A6 → Prop) (N : Nat) (h0 : I 0 a1 a2 a3 a4 a5 a6) (hs : ∀ i, i < N → ∀ x1 x2 x3 x4 x5 x6, I i x1 x2 x3 x4 x5 x6 → ∀ ag, (∀ y1 y2 y3 y4 y5 y6, I (i + 1) y1 y2 y3 y4 y5 y6 → Φ (ag y1 y2 y3 y4 y5 y6)) → Φ (F ag x1 x2 x3 x4 x5 x6)) (he : ∀ z1 z2 z3 z4 z5 z6, I N z1 z2 z3 z4 z5 z6 → ∀ ag, Φ (F ag z1 z2 z3 z4 z5 z6)) (n : Nat) (hn : N < n) : Φ (lo6 F n a1 a2 a3 a4 a5 a6) := by
  have key : ∀ (m i n : Nat), i + m = N → m < n → ∀ b1 b2 b3 b4 b5 b6, I i b1 b2 b3 b4 b5 b6 → Φ (lo6 F n b1 b2 b3 b4 b5 b6) := by
    intro m
    induction m with
    | zero =>
      intro i n hi hn b1 b2 b3 b4 b5 b6 hb
      have : i = N := by omega
      subst this
      cases n with
      | zero => exact absurd hn (by omega)
      | succ n => exact he b1 b2 b3 b4 b5 b6 hb _
    | succ m ih =>
      intro i n hi hn b1 b2 b3 b4 b5 b6 hb
      cases n with
      | zero => exact absurd hn (by omega)
      | succ n => exact hs i (by omega) b1 b2 b3 b4 b5 b6 hb _ (fun y1 y2 y3 y4 y5 y6 hy => ih (i + 1) n (by omega) (by omega) y1 y2 y3 y4 y5 y6 hy)
  exact key N 0 n (by omega) hn a1 a2 a3 a4 a5 a6 h0
theorem lk7 {A1 A2 A3 A4 A5 A6 A7 ρ : Type} {Φ : Option ρ → Prop} {F : (A1 → A2 → A3 → A4 → A5 → A6 → A7 → Option ρ) → A1 → A2 → A3 → A4 → A5 → A6 → A7 → Option ρ} {a1 : A1} {a2 : A2} {a3 : A3} {a4 : A4} {a5 : A5} {a6 : A6} {a7 : A7} (I : Nat → A1 → A2 → A3 → A4 → A5 → A6 → A7 → Prop) (N : Nat) (h0 : I 0 a1 a2 a3 a4 a5 a6 a7) (hs : ∀ i, i < N → ∀ x1 x2 x3 x4 x5 x6 x7, I i x1 x2 x3 x4 x5 x6 x7 → ∀ ag, (∀ y1 y2 y3 y4 y5 y6 y7, I (i + 1) y1 y2 y3 y4 y5 y6 y7 → Φ (ag y1 y2 y3 y4 y5 y6 y7)) → Φ (F ag x1 x2 x3 x4 x5 x6 x7)) (he : ∀ z1 z2 z3 z4 z5 z6 z7, I N z1 z2 z3 z4 z5 z6 z7 → ∀ ag, Φ (F ag z1 z2 z3 z4 z5 z6 z7)) (n : Nat) (hn : N < n) : Φ (lo7 F n a1 a2 a3 a4 a5 a6 a7) := by
  have key : ∀ (m i n : Nat), i + m = N → m < n → ∀ b1 b2 b3 b4 b5 b6 b7, I i b1 b2 b3 b4 b5 b6 b7 → Φ (lo7 F n b1 b2 b3 b4 b5 b6 b7) := by
    intro m
    induction m with
    | zero =>
      intro i n hi hn b1 b2 b3 b4 b5 b6 b7 hb
      have : i = N := by omega
      subst this
      cases n with
      | zero => exact absurd hn (by omega)
      | succ n => exact he b1 b2 b3 b4 b5 b6 b7 hb _
    | succ m ih =>
      intro i n hi hn b1 b2 b3 b4 b5 b6 b7 hb
      cases n with
      | zero => exact absurd hn (by omega)
      | succ n => exact hs i (by omega) b1 b2 b3 b4 b5 b6 b7 hb _ (fun y1 y2 y3 y4 y5 y6 y7 hy => ih (i + 1) n (by omega) (by omega) y1 y2 y3 y4 y5 y6 y7 hy)
  exact key N 0 n (by omega) hn a1 a2 a3 a4 a5 a6 a7 h0
theorem lk8 {A1 A2 A3 A4 A5 A6 A7 A8 ρ : Type} {Φ : Option ρ → Prop} {F : (A1 → A2 → A3 → A4 → A5 → A6 → A7 → A8 → Option ρ) → A1 → A2 → A3 → A4 → A5 → A6 → A7 → A8 → Option ρ} {a1 : A1} {a2 : A2} {a3 : A3} {a4 : A4} {a5 : A5} {a6 : A6} {a7 : A7} {a8 : A8} (I : Nat → A1 → A2 → A3 → A4 → A5 → A6 → A7 → A8 → Prop) (N : Nat) (h0 : I 0 a1 a2 a3 a4 a5 a6 a7 a8) (hs : ∀ i, i < N → ∀ x1 x2 x3 x4 x5 x6 x7 x8, I i x1 x2 x3 x4 x5 x6 x7 x8 → ∀ ag, (∀ y1 y2 y3 y4 y5 y6 y7 y8, I (i + 1) y1 y2 y3 y4 y5 y6 y7 y8 → Φ (ag y1 y2 y3 y4 y5 y6 y7 y8)) → Φ (F ag x1 x2 x3 x4 x5 x6 x7 x8)) (he : ∀ z1 z2 z3 z4 z5 z6 z7 z8, I N z1 z2 z3 z4 z5 z6 z7 z8 → ∀ ag, Φ (F ag z1 z2 z3 z4 z5 z6 z7 z8)) (n : Nat) (hn : N < n) : Φ (lo8 F n a1 a2 a3 a4 a5 a6 a7 a8) := by
  have key : ∀ (m i n : Nat), i + m = N → m < n → ∀ b1 b2 b3 b4 b5 b6 b7 b8, I i b1 b2 b3 b4 b5 b6 b7 b8 → Φ (lo8 F n b1 b2 b3 b4 b5 b6 b7 b8) := by
    intro m
    induction m with
    | zero =>
      intro i n hi hn b1 b2 b3 b4 b5 b6 b7 b8 hb
      have : i = N := by omega
      subst this
      cases n with
      | zero => exact absurd hn (by omega)
      | succ n => exact he b1 b2 b3 b4 b5 b6 b7 b8 hb _
    | succ m ih =>
      intro i n hi hn b1 b2 b3 b4 b5 b6 b7 b8 hb
      cases n with
      | zero => exact absurd hn (by omega)
      | succ n => exact hs i (by omega) b1 b2 b3 b4 b5 b6 b7 b8 hb _ (fun y1 y2 y3 y4 y5 y6 y7 y8 hy => ih (i + 1) n (by omega) (by omega) y1 y2 y3 y4 y5 y6 y7 y8 hy)
  exact key N 0 n (by omega) hn a1 a2 a3 a4 a5 a6 a7 a8 h0
theorem lk14 {A1 A2 A3 A4 A5 A6 A7 A8 A9 A10 A11 A12 A13 A14 ρ : Type} {Φ : Option ρ → Prop} {F : (A1 → A2 → A3 → A4 → A5 → A6 → A7 → A8 → A9 → A10 → A11 → A12 → A13 → A14 → Option ρ) → A1 → A2 → A3 → A4 → A5 → A6 → A7 → A8 → A9 → A10 → A11 → A12 → A13 → A14 → Option ρ} {a1 : A1} {a2 : A2} {a3 : A3} {a4 : A4} {a5 : A5} {a6 : A6} {a7 : A7} {a8 : A8} {a9 : A9} {a10 : A10} {a11 : A11} {a12 : A12} {a13 : A13} {a14 : A14} (I : Nat → A1 → A2 → A3 → A4 → A5 → A6 → A7 → A8 → A9 → A10 → A11 → A12 → A13 → A14 → Prop) (N : Nat) (h0 : I 0 a1 a2 a3 a4 a5 a6 a7 a8 a9 a10 a11 a12 a13 a14) (hs : ∀ i, i < N → ∀ x1 x2 x3 x4 x5 x6 x7 x8 x9 x10 x11 x12 x13 x14, I i x1 x2 x3 x4 x5 x6 x7 x8 x9 x10 x11 x12 x13 x14 → ∀ ag, (∀ y1 y2 y3 y4 y5 y6 y7 y8 y9 y10 y11 y12 y13 y14, I (i + 1) y1 y2 y3 y4 y5 y6 y7 y8 y9 y10 y11 y12 y13 y14 → Φ (ag y1 y2 y3 y4 y5 y6 y7 y8 y9 y10 y11 y12 y13 y14)) → Φ (F ag x1 x2 x3 x4 x5 x6 x7 x8 x9 x10 x11 x12 x13 x14)) (he : ∀ z1 z2 z3 z4 z5 z6 z7 z8 z9 z10 z11 z12 z13 z14, I N z1 z2 z3 z4 z5 z6 z7 z8 z9 z10 z11 z12 z13 z14 → ∀ ag, Φ (F ag z1 z2 z3 z4 z5 z6 z7 z8 z9 z10 z11 z12 z13 z14)) (n : Nat) (hn : N < n) : Φ (lo14 F n a1 a2 a3 a4 a5 a6 a7 a8 a9 a10 a11 a12 a13 a14) := by
  have key : ∀ (m i n : Nat), i + m = N → m < n → ∀ b1 b2 b3 b4 b5 b6 b7 b8 b9 b10 b11 b12 b13 b14, I i b1 b2 b3 b4 b5 b6 b7 b8 b9 b10 b11 b12 b13 b14 → Φ (lo14 F n b1 b2 b3 b4 b5 b6 b7 b8 b9 b10 b11 b12 b13 b14) := by
    intro m
    induction m with
    | zero =>
      intro i n hi hn b1 b2 b3 b4 b5 b6 b7 b8 b9 b10 b11 b12 b13 b14 hb
      have : i = N := by omega
      subst this
      cases n with
      | zero => exact absurd hn (by omega)
      | succ n => exact he b1 b2 b3 b4 b5 b6 b7 b8 b9 b10 b11 b12 b13 b14 hb _
    | succ m ih =>
      intro i n hi hn b1 b2 b3 b4 b5 b6 b7 b8 b9 b10 b11 b12 b13 b14 hb
      cases n with
      | zero => exact absurd hn (by omega)
      | succ n => exact hs i (by omega) b1 b2 b3 b4 b5 b6 b7 b8 b9 b10 b11 b12 b13 b14 hb _ (fun y1 y2 y3 y4 y5 y6 y7 y8 y9 y10 y11 y12 y13 y14 hy => ih (i + 1) n (by omega) (by omega) y1 y2 y3 y4 y5 y6 y7 y8 y9 y10 y11 y12 y13 y14 hy)
  exact key N 0 n (by omega) hn a1 a2 a3 a4 a5 a6 a7 a8 a9 a10 a11 a12 a13 a14 h0
/-! ===== which hour to look at next ===== -/
theorem n_idx (t j : Nat) : (nI t * (12 : Int32)) + nI j = nI (t * 12 + j) := by rw [n_mul12, nI_add]
theorem p_xwatch {P n h j : Nat} {W K H M L : Nat → Nat} {d kf hf mf af s0 : Nat → Int32} (T : tok P n W K H M L h) (hd : dok W d) (hk : ag n kf K) (hh : ag n hf H) (hm : ag n mf M) (hl : ag n af L) (hj : j < 12) : ∃ s' hr af', fX3_watch s0 (nI P) (nI n) (nI h) (nf W) d kf hf mf af (nI j) = some (s', hr, af') ∧ (∀ t, t < 25 → s' (t * 12 + j) = nI (ltm P (dkm (fun p => dk (K p)) (lc W P n K H M (fun p => dk (K p)) h L t) n))) ∧ (∀ t j', j' < 12 → j' ≠ j → s' (t * 12 + j') = s0 (t * 12 + j')) := by
  obtain ⟨hP2, hP, hn, hW, hK, hH, hM, hL, hho⟩ := id T
  unfold fX3_watch
  refine lph4 (Φ := fun o => ∃ (s' : Nat → Int32) (hr : Int32) (af' : Nat → Int32), o = some (s', hr, af') ∧ (∀ t, t < 25 → s' (t * 12 + j) = nI (ltm P (dkm (fun p => dk (K p)) (lc W P n K H M (fun p => dk (K p)) h L t) n))) ∧ (∀ t j', j' < 12 → j' ≠ j → s' (t * 12 + j') = s0 (t * 12 + j'))) (fun i x (s : Nat → Int32) u v => x = nI i ∧ u = nI (hc h i) ∧ ag n v (lc W P n K H M (fun p => dk (K p)) h L i) ∧ (∀ t, t < i → s (t * 12 + j) = nI (ltm P (dkm (fun p => dk (K p)) (lc W P n K H M (fun p => dk (K p)) h L t) n))) ∧ (∀ t j', j' < 12 → j' ≠ j → s (t * 12 + j') = s0 (t * 12 + j'))) 25 ⟨rfl, rfl, hl, fun t ht => absurd ht (by omega), fun _ _ _ _ => rfl⟩ (fun i hi x s u v z => ?_) (fun x s u v z g => ?_) 400 (by omega)
  · obtain ⟨rfl, rfl, z, z1, z2⟩ := z
    obtain ⟨af', f1, f2⟩ := p_pass1 T hd hk hh hm i z
    have Ti := T.at (fun p => dk (K p)) i
    refine ⟨_, upd s (i * 12 + j) (nI (ltm P (dkm (fun p => dk (K p)) (lc W P n K H M (fun p => dk (K p)) h L i) n))), _, _, ⟨rfl, rfl, f2, fun t ht => ?_, fun t j' h1 h2 => ?_⟩, fun g => ?_⟩
    · by_cases e : t = i
      · subst e; rw [pk_us]
      · rw [pk_un (by omega)]; exact z1 t (by omega)
    · rw [pk_un (by omega)]; exact z2 t j' h1 h2
    · simp only [show ((24 : Int32) < nI i) = False from eq_false (by rw [show (24 : Int32) = nI 24 from rfl, nlt (by omega) (by omega)]; omega), bo1, bo2, bo3, bo4, bo5, bo6, bo7, bo12, jo0, jo1, vlet, i10, i00, if_true, if_false, ite_self, n1z, n0z, p_shiningPlaces hP hn hk z hK Ti.lt, n_idx, if_n (nin (k := (i * 12 + j)) (N := 300) (by omega) (by omega)), if_n (nin2 (k := (i * 12 + j)) (N := 300) (by omega) (by omega)), nc (n := (i * 12 + j)) (by omega), f1, nI_1]
  · obtain ⟨zx, zu, z, z1, z2⟩ := z
    refine ⟨s, u, v, ?_, z1, z2⟩
    rw [zx, if_pos (by decide)]
/-- the most of a row -/
def mxa (c : Nat → Nat) : Nat → Nat
  | 0 => 0
  | i + 1 => if mxa c i < c i then c i else mxa c i
theorem mxa_s (c : Nat → Nat) (i : Nat) : mxa c (i + 1) = if mxa c i < c i then c i else mxa c i := rfl
theorem mxa_le {c : Nat → Nat} {B : Nat} (h : ∀ j, c j ≤ B) (i : Nat) : mxa c i ≤ B := by
  induction i with
  | zero => exact Nat.zero_le _
  | succ i ih => rw [mxa_s]; by_cases g : mxa c i < c i <;> simp [g, ih, h]
theorem p_countAlike {P t v : Nat} {s : Nat → Int32} {G : Nat → Nat → Nat} (hP : P ≤ 12) (ht : t < 25) (hs : ∀ j, j < P → s (t * 12 + j) = nI (G j t)) (hG : ∀ j t, G j t < 4096) (hv : v < 4096) : fX3_countAlike s (nI t) (nI P) (nI v) = some (nI (cnt (fun q => G q t == v) P)) := by
  unfold fX3_countAlike
  refine lr2 (fun i => nI (cnt (fun q => G q t == v) i)) (fun i => nI i) P (fun i hi g => ?_) (fun g => ?_) 400 (by omega)
  · have := hG i t
    simp only [nle (a := P) (b := i) (by omega) (by omega), show ¬ P ≤ i from by omega, bo1, bo2, bo3, bo4, bo5, bo6, bo7, bo12, jo0, jo1, vlet, i10, i00, if_true, if_false, ite_self, n1z, n0z, n_idx, if_n (nin (k := (t * 12 + i)) (N := 300) (by omega) (by omega)), if_n (nin2 (k := (t * 12 + i)) (N := 300) (by omega) (by omega)), nc (n := (t * 12 + i)) (by omega), hs i hi, neq (a := G i t) (b := v) (by omega) (by omega), nI_1, cnt_s]
    by_cases e : G i t = v
    · simp only [e, beq_self_eq_true, bo1, bo2, bo3, bo4, bo5, bo6, bo7, bo12, jo0, jo1, vlet, i10, i00, if_true, if_false, ite_self, n1z, n0z]
    · have e2 : (G i t == v) = false := by simpa using e
      simp only [e, e2, Bool.false_eq_true, Nat.add_zero, bo1, bo2, bo3, bo4, bo5, bo6, bo7, bo12, jo0, jo1, vlet, i10, i00, if_true, if_false, ite_self, n1z, n0z]
  · rw [if_pos (Int32.le_refl _)]
theorem p_mostAlike {P t : Nat} {s : Nat → Int32} {G : Nat → Nat → Nat} (hP : P ≤ 12) (ht : t < 25) (hs : ∀ j, j < P → s (t * 12 + j) = nI (G j t)) (hG : ∀ j t, G j t < 4096) : fX3_mostAlike s (nI t) (nI P) = some (nI (mxa (fun x => cnt (fun q => G q t == G x t) P) P)) := by
  have hc : ∀ x, (fun x => cnt (fun q => G q t == G x t) P) x ≤ 12 := fun x => Nat.le_trans (cnt_le _ _) hP
  unfold fX3_mostAlike
  refine lr2 (fun i => nI (mxa (fun x => cnt (fun q => G q t == G x t) P) i)) (fun i => nI i) P (fun i hi g => ?_) (fun g => ?_) 400 (by omega)
  · have h1 := hc i
    have h2 := mxa_le hc i
    have h1' : cnt (fun q => G q t == G i t) P ≤ 12 := h1
    simp only [nle (a := P) (b := i) (by omega) (by omega), show ¬ P ≤ i from by omega, bo1, bo2, bo3, bo4, bo5, bo6, bo7, bo12, jo0, jo1, vlet, i10, i00, if_true, if_false, ite_self, n1z, n0z, n_idx, if_n (nin (k := (t * 12 + i)) (N := 300) (by omega) (by omega)), if_n (nin2 (k := (t * 12 + i)) (N := 300) (by omega) (by omega)), nc (n := (t * 12 + i)) (by omega), hs i hi, p_countAlike hP ht hs hG (hG i t), nlt (a := mxa (fun x => cnt (fun q => G q t == G x t) P) i) (b := cnt (fun q => G q t == G i t) P) (by omega) (by omega), nI_1, mxa_s]
    by_cases e : mxa (fun x => cnt (fun q => G q t == G x t) P) i < cnt (fun q => G q t == G i t) P
    · simp only [e, bo1, bo2, bo3, bo4, bo5, bo6, bo7, bo12, jo0, jo1, vlet, i10, i00, if_true, if_false, ite_self, n1z, n0z]
    · simp only [e, bo1, bo2, bo3, bo4, bo5, bo6, bo7, bo12, jo0, jo1, vlet, i10, i00, if_true, if_false, ite_self, n1z, n0z]
  · rw [if_pos (Int32.le_refl _)]
theorem p_worstAt {P t : Nat} {s : Nat → Nat → Int32} {G : Nat → Nat → Nat} (hP : P ≤ 12) (ht : t < 25) (hs : ∀ j, j < P → s j t = nI (G j t)) (hG : ∀ j t, G j t < 4096) : fX8_worstAt (nI P) s (nI t) = some (nI (mxa (fun x => cnt (fun q => G q t == G x t) P) P)) := by
  have hc : ∀ x, (fun x => cnt (fun q => G q t == G x t) P) x ≤ 12 := fun x => Nat.le_trans (cnt_le _ _) hP
  unfold fX8_worstAt
  simp only [jo1_ite]
  refine lr2 (fun i => nI (mxa (fun x => cnt (fun q => G q t == G x t) P) i)) (fun i => nI i) P (fun i hi g => ?_) (fun g => ?_) 400 (by omega)
  · have h1 := hc i
    have h2 := mxa_le hc i
    have h1' : cnt (fun q => G q t == G i t) P ≤ 12 := h1
    rw [if_neg (by rw [nle (by omega) (by omega)]; omega)]
    refine lq2 (fun q => nI (cnt (fun q => G q t == G i t) q)) (fun q => nI q) P rfl rfl (fun q hq g2 => ?_) (fun g2 => ?_) 400 (by omega)
    · have g1 := hG q t
      have g3 := hG i t
      simp only [nle (a := P) (b := q) (by omega) (by omega), show ¬ P ≤ q from by omega, bo1, bo2, bo3, bo4, bo5, bo6, bo7, bo12, jo0, jo1, vlet, i10, i00, if_true, if_false, ite_self, n1z, n0z, if_n (nin (k := q) (N := 12) (by omega) (by omega)), if_n (nin2 (k := q) (N := 12) (by omega) (by omega)), nc (n := q) (by omega), if_n (nin (k := i) (N := 12) (by omega) (by omega)), if_n (nin2 (k := i) (N := 12) (by omega) (by omega)), nc (n := i) (by omega), if_n (nin (k := t) (N := 25) (by omega) (by omega)), if_n (nin2 (k := t) (N := 25) (by omega) (by omega)), nc (n := t) (by omega), hs q hq, hs i hi, neq (a := G q t) (b := G i t) (by omega) (by omega), nI_1, cnt_s]
      by_cases e : G q t = G i t
      · simp only [e, beq_self_eq_true, bo1, bo2, bo3, bo4, bo5, bo6, bo7, bo12, jo0, jo1, vlet, i10, i00, if_true, if_false, ite_self, n1z, n0z, nI_1]
      · have e2 : (G q t == G i t) = false := by simpa using e
        simp only [e, e2, Bool.false_eq_true, Nat.add_zero, Int32.add_zero, bo1, bo2, bo3, bo4, bo5, bo6, bo7, bo12, jo0, jo1, vlet, i10, i00, if_true, if_false, ite_self, n1z, n0z]
    · rw [if_pos (Int32.le_refl _)]
      simp only [bo1, bo2, bo3, bo4, bo5, bo6, bo7, bo12, jo0, jo1, vlet, i10, i00, if_true, if_false, ite_self, n1z, n0z, nle (a := cnt (fun q => G q t == G i t) P) (b := mxa (fun x => cnt (fun q => G q t == G x t) P) i) (by omega) (by omega), nI_1, mxa_s]
      by_cases e : mxa (fun x => cnt (fun q => G q t == G x t) P) i < cnt (fun q => G q t == G i t) P
      · simp only [e, show ¬ cnt (fun q => G q t == G i t) P ≤ mxa (fun x => cnt (fun q => G q t == G x t) P) i from by omega, bo1, bo2, bo3, bo4, bo5, bo6, bo7, bo12, jo0, jo1, vlet, i10, i00, if_true, if_false, ite_self, n1z, n0z]
      · simp only [e, show cnt (fun q => G q t == G i t) P ≤ mxa (fun x => cnt (fun q => G q t == G x t) P) i from by omega, bo1, bo2, bo3, bo4, bo5, bo6, bo7, bo12, jo0, jo1, vlet, i10, i00, if_true, if_false, ite_self, n1z, n0z]
  · rw [if_pos (Int32.le_refl _)]
/-- the least so far, and when -/
def lsn (c : Nat → Nat) (P : Nat) : Nat → Nat
  | 0 => P
  | t + 1 => if lsn c P t ≤ c t then lsn c P t else c t
def lsb (c : Nat → Nat) (P : Nat) : Nat → Int32
  | 0 => -1
  | t + 1 => if lsn c P t ≤ c t then lsb c P t else nI t
theorem lsn_s (c : Nat → Nat) (P t : Nat) : lsn c P (t + 1) = if lsn c P t ≤ c t then lsn c P t else c t := rfl
theorem lsb_s (c : Nat → Nat) (P t : Nat) : lsb c P (t + 1) = if lsn c P t ≤ c t then lsb c P t else nI t := rfl
theorem lsn_le {c : Nat → Nat} {P B : Nat} (hP : P ≤ B) (h : ∀ j, c j ≤ B) (t : Nat) : lsn c P t ≤ B := by
  induction t with
  | zero => exact hP
  | succ t ih => rw [lsn_s]; by_cases g : lsn c P t ≤ c t <;> simp [g, ih, h]
def sgt (W : Nat → Nat) (P n : Nat) (K H M : Nat → Nat) (h : Nat) (L : Nat → Nat) (p j t : Nat) : Nat := ltm P (dkm (fun p => dk (K p)) (lc W P n K H M (fun p => dk (K p)) h (nup L p j) t) n)
def msa (G : Nat → Nat → Nat) (P t : Nat) : Nat := mxa (fun x => cnt (fun q => G q t == G x t) P) P
theorem tt_next {x_now_places : Int32} {x_now_people : Int32} {x_now_hour : Int32} {x_now_chance : Int32} {x_now_seed : Int32} {x_now_ways : Nat → Int32} {x_now_distances : Nat → Int32} {x_now_kind : Nat → Int32} {x_now_a : Nat → Int32} {x_now_home : Nat → Int32} {x_now_aim : Nat → Int32} {x_now_at : Nat → Int32} {x_kept_places : Int32} {x_kept_people : Int32} {x_kept_hour : Int32} {x_kept_chance : Int32} {x_kept_seed : Int32} {x_kept_ways : Nat → Int32} {x_kept_distances : Nat → Int32} {x_kept_kind : Nat → Int32} {x_kept_a : Nat → Int32} {x_kept_home : Nat → Int32} {x_kept_aim : Nat → Int32} {x_kept_at : Nat → Int32} {x_isKept : Int32} {x_shelves_c : Nat → Int32} {x_shelves_z : Nat → Int32} {x_shelves_e : Nat → Nat → Int64} {x_tape_size : Int32} {x_tape_bytes : Nat → Int32} {x_refusals : Nat → Int32} {m_places : Int32} {m_people : Int32} {m_hour : Int32} {m_chance : Int32} {m_seed : Int32} {m_ways : Nat → Int32} {m_kind : Nat → Int32} {m_by : Nat → Int32} {m_home : Nat → Int32} {m_aim : Nat → Int32} {m_at0 : Nat → Int32} {m_shelf : Nat → Int32} {m_rowSort : Nat → Int32} {m_rowSize : Nat → Int32} {m_rows : Nat → Nat → Int64} {m_shown : Nat → Int32} {m_tape : Nat → Int32} {m_tapeSize : Int32} {m_refused : Nat → Int32} {m_gone : Int32} {m_kept_places : Int32} {m_kept_people : Int32} {m_kept_hour : Int32} {m_kept_chance : Int32} {m_kept_seed : Int32} {m_kept_ways : Nat → Int32} {m_kept_kind : Nat → Int32} {m_kept_by : Nat → Int32} {m_kept_home : Nat → Int32} {m_kept_aim : Nat → Int32} {m_kept_at0 : Nat → Int32} {kb : Bool} (x_future_places : Int32) (x_future_people : Int32) (x_future_hour : Int32) (x_future_chance : Int32) (x_future_seed : Int32) (x_future_ways : Nat → Int32) (x_future_distances : Nat → Int32) (x_future_kind : Nat → Int32) (x_future_a : Nat → Int32) (x_future_home : Nat → Int32) (x_future_aim : Nat → Int32) (x_future_at : Nat → Int32) (x_sights_shone : Nat → Int32) (x_choice_found : Int32) (x_choice_worth : Int32) (m_now : Int32) (m_steps : Nat → Int32) (m_spot : Nat → Int32) (m_then : Nat → Int32) (m_sights : Nat → Nat → Int32) (p0 : Int32) (R : Rel kb x_now_places x_now_people x_now_hour x_now_chance x_now_seed x_now_ways x_now_distances x_now_kind x_now_a x_now_home x_now_aim x_now_at x_kept_places x_kept_people x_kept_hour x_kept_chance x_kept_seed x_kept_ways x_kept_distances x_kept_kind x_kept_a x_kept_home x_kept_aim x_kept_at x_isKept x_shelves_c x_shelves_z x_shelves_e x_tape_size x_tape_bytes x_refusals m_places m_people m_hour m_chance m_seed m_ways m_kind m_by m_home m_aim m_at0 m_shelf m_rowSort m_rowSize m_rows m_shown m_tape m_tapeSize m_refused m_gone m_kept_places m_kept_people m_kept_hour m_kept_chance m_kept_seed m_kept_ways m_kept_kind m_kept_by m_kept_home m_kept_aim m_kept_at0) : ∃ (r : Int32) (y_future_places : Int32) (y_future_people : Int32) (y_future_hour : Int32) (y_future_chance : Int32) (y_future_seed : Int32) (y_future_ways : Nat → Int32) (y_future_distances : Nat → Int32) (y_future_kind : Nat → Int32) (y_future_a : Nat → Int32) (y_future_home : Nat → Int32) (y_future_aim : Nat → Int32) (y_future_at : Nat → Int32) (y_sights_shone : Nat → Int32) (y_choice_found : Int32) (y_choice_worth : Int32) (y_refusals : Nat → Int32) (z_now : Int32) (z_refused : Nat → Int32) (z_at0 : Nat → Int32) (z_steps : Nat → Int32) (z_spot : Nat → Int32) (z_then : Nat → Int32) (z_sights : Nat → Nat → Int32), fX7_next x_now_places x_now_people x_now_hour x_now_chance x_now_seed x_now_ways x_now_distances x_now_kind x_now_a x_now_home x_now_aim x_now_at x_future_places x_future_people x_future_hour x_future_chance x_future_seed x_future_ways x_future_distances x_future_kind x_future_a x_future_home x_future_aim x_future_at x_sights_shone x_choice_found x_choice_worth x_refusals p0 = some (r, y_future_places, y_future_people, y_future_hour, y_future_chance, y_future_seed, y_future_ways, y_future_distances, y_future_kind, y_future_a, y_future_home, y_future_aim, y_future_at, y_sights_shone, y_choice_found, y_choice_worth, y_refusals) ∧ fX8_next m_places m_people m_hour m_now m_gone m_refused m_ways m_kind m_home m_aim m_at0 m_steps m_spot m_then m_sights p0 = some (r, z_now, z_refused, z_at0, z_steps, z_spot, z_then, z_sights) ∧ Rel kb x_now_places x_now_people x_now_hour x_now_chance x_now_seed x_now_ways x_now_distances x_now_kind x_now_a x_now_home x_now_aim x_now_at x_kept_places x_kept_people x_kept_hour x_kept_chance x_kept_seed x_kept_ways x_kept_distances x_kept_kind x_kept_a x_kept_home x_kept_aim x_kept_at x_isKept x_shelves_c x_shelves_z x_shelves_e x_tape_size x_tape_bytes y_refusals m_places m_people m_hour m_chance m_seed m_ways m_kind m_by m_home m_aim z_at0 m_shelf m_rowSort m_rowSize m_rows m_shown m_tape m_tapeSize z_refused m_gone m_kept_places m_kept_people m_kept_hour m_kept_chance m_kept_seed m_kept_ways m_kept_kind m_kept_by m_kept_home m_kept_aim m_kept_at0 := by
  have R0 := R
  obtain ⟨P, n, h, c, s, W, K, A, H, M, L, T, ⟨rfl, rfl, rfl, rfl, rfl, rfl, xd, xk, xa, xh, xm, xl⟩, ⟨rfl, rfl, rfl, rfl, rfl, rfl, mk, ma, mh, mm, ml⟩, rfl, S, U, V, Z⟩ := R
  obtain ⟨hP2, hP, hn, hW, hK, hH, hM, hL, hho⟩ := id T
  obtain ⟨x2, m2, e1, e2, q⟩ := rf2 V
  rcases cPerson n hn p0 with ⟨p, hp, rfl, a1, a2⟩ | ⟨a1, a2⟩
  · have hG : ∀ j t, sgt W P n K H M h L p j t < 4096 := fun j t => lt_lt hP
    have hms : ∀ t, msa (sgt W P n K H M h L p) P t ≤ 12 := fun t => mxa_le (fun x => Nat.le_trans (cnt_le _ _) hP) P
    have hls := lsn_le (c := msa (sgt W P n K H M h L p) P) (P := P) (B := 12) hP hms
    have hx : (fun o => ∃ f1 f2 f3 f4 f5 f6 f7 f8 f9 f10 f11 f12 f13 f14 f15, o = some (lsb (msa (sgt W P n K H M h L p) P) P 25, f1, f2, f3, f4, f5, f6, f7, f8, f9, f10, f11, f12, f13, f14, f15, x_refusals)) (fX7_next (nI P) (nI n) (nI h) m_chance m_seed (nf W) x_now_distances x_now_kind x_now_a x_now_home x_now_aim x_now_at x_future_places x_future_people x_future_hour x_future_chance x_future_seed x_future_ways x_future_distances x_future_kind x_future_a x_future_home x_future_aim x_future_at x_sights_shone x_choice_found x_choice_worth x_refusals (nI p)) := by
      unfold fX7_next fX0_begin
      rw [a1, bo1N, if_neg (by decide)]
      refine lk14 (Φ := fun o => ∃ f1 f2 f3 f4 f5 f6 f7 f8 f9 f10 f11 f12 f13 f14 f15, o = some (lsb (msa (sgt W P n K H M h L p) P) P 25, f1, f2, f3, f4, f5, f6, f7, f8, f9, f10, f11, f12, f13, f14, f15, x_refusals)) (fun i b _ _ _ _ _ _ _ _ _ _ _ _ (s : Nat → Int32) => b = nI i ∧ ∀ j t, j < i → t < 25 → s (t * 12 + j) = nI (sgt W P n K H M h L p j t)) P ⟨rfl, fun j t hj => absurd hj (by omega)⟩ (fun i hi b f1 f2 f3 f4 f5 f6 f7 f8 f9 f10 f11 f12 s z g hg => ?_) (fun b f1 f2 f3 f4 f5 f6 f7 f8 f9 f10 f11 f12 s z g => ?_) 400 (by omega)
      · obtain ⟨rfl, z⟩ := z
        have T' := T.put p i hi
        obtain ⟨s', hr, af', u1, u2, u3⟩ := p_xwatch (s0 := s) (j := i) T' xd xk xh xm (ag_up xl p i) (by omega)
        rw [if_neg (by rw [nle (by omega) (by omega)]; omega), p_become, bo12N, if_n (nin (k := p) (N := 8) (by omega) (by omega)), nc (n := p) (by omega), u1, bo3N, vletN, nI_1]
        apply hg
        refine ⟨rfl, fun j t hj ht => ?_⟩
        by_cases e : j = i
        · subst e; exact u2 t ht
        · rw [u3 t j (by omega) e]; exact z j t (by omega) ht
      · obtain ⟨rfl, z⟩ := z
        rw [if_pos (Int32.le_refl _), bo2N]
        refine lph3 (Φ := fun o => ∃ f1 f2 f3 f4 f5 f6 f7 f8 f9 f10 f11 f12 f13 f14 f15, o = some (lsb (msa (sgt W P n K H M h L p) P) P 25, f1, f2, f3, f4, f5, f6, f7, f8, f9, f10, f11, f12, f13, f14, f15, x_refusals)) (fun t x y w => x = nI t ∧ y = lsb (msa (sgt W P n K H M h L p) P) P t ∧ w = -nI (lsn (msa (sgt W P n K H M h L p) P) P t)) 25 ⟨rfl, rfl, rfl⟩ (fun t ht x y w z2 => ?_) (fun x y w z2 g2 => ?_) 400 (by omega)
        · obtain ⟨rfl, rfl, rfl⟩ := z2
          have ma := p_mostAlike (s := s) (G := sgt W P n K H M h L p) hP ht (fun j hj => z j t hj ht) hG
          have ma' : fX3_mostAlike s (nI t) (nI P) = some (nI (msa (sgt W P n K H M h L p) P t)) := ma
          have h1 := hms t
          have h2 := hls t
          refine ⟨_, _, _, ⟨rfl, rfl, rfl⟩, fun g2 => ?_⟩
          simp only [show ((24 : Int32) < nI t) = False from eq_false (by rw [show (24 : Int32) = nI 24 from rfl, nlt (by omega) (by omega)]; omega), bo1, bo2, bo3, bo4, bo5, bo6, bo7, bo12, jo0, jo1, vlet, i10, i00, if_true, if_false, ite_self, n1z, n0z, ma', p_offer, n_negle (a := msa (sgt W P n K H M h L p) P t) (b := lsn (msa (sgt W P n K H M h L p) P) P t) (by omega) (by omega), nI_1, lsb_s, lsn_s]
          by_cases e : lsn (msa (sgt W P n K H M h L p) P) P t ≤ msa (sgt W P n K H M h L p) P t
          · simp only [e, bo1, bo2, bo3, bo4, bo5, bo6, bo7, bo12, jo0, jo1, vlet, i10, i00, if_true, if_false, ite_self, n1z, n0z]
          · simp only [e, bo1, bo2, bo3, bo4, bo5, bo6, bo7, bo12, jo0, jo1, vlet, i10, i00, if_true, if_false, ite_self, n1z, n0z]
        · obtain ⟨za, zb, zc⟩ := z2
          rw [za, zb, zc, if_pos (by decide)]
          exact ⟨_, _, _, _, _, _, _, _, _, _, _, _, _, _, _, rfl⟩
    have hm : (fun o => ∃ (nw : Int32) (st sp tt : Nat → Int32) (sg : Nat → Nat → Int32), o = some (lsb (msa (sgt W P n K H M h L p) P) P 25, nw, m_refused, m_at0, st, sp, tt, sg)) (fX8_next (nI P) (nI n) (nI h) m_now (-1) m_refused (nf W) m_kind m_home m_aim m_at0 m_steps m_spot m_then m_sights (nI p)) := by
      unfold fX8_next
      simp only [jo1_ite]
      rw [a2, bo1N, if_neg (by decide), if_n (nin (k := p) (N := 8) (by omega) (by omega)), vletN, nc (n := p) (by omega)]
      refine lk7 (Φ := fun o => ∃ (nw : Int32) (st sp tt : Nat → Int32) (sg : Nat → Nat → Int32), o = some (lsb (msa (sgt W P n K H M h L p) P) P 25, nw, m_refused, m_at0, st, sp, tt, sg)) (fun i b _ a0 _ _ _ (s : Nat → Nat → Int32) => b = nI i ∧ (∀ v, upd a0 p v = upd m_at0 p v) ∧ ∀ j t, j < i → t < 25 → s j t = nI (sgt W P n K H M h L p j t)) P ⟨rfl, fun _ => rfl, fun j t hj => absurd hj (by omega)⟩ (fun i hi b u a0 st sp tt s z g hg => ?_) (fun b u a0 st sp tt s z g => ?_) 400 (by omega)
      · obtain ⟨rfl, z0, z⟩ := z
        have T' := T.put p i hi
        obtain ⟨s1, g1, g2⟩ := p_begin (hh := nI h) (s0 := sp) hn (ag_up ml p i)
        rw [if_neg (by rw [nle (by omega) (by omega)]; omega), if_n (nin2 (k := p) (N := 8) (by omega) (by omega)), z0, g1, bo2N]
        refine lph6 (Φ := fun o => ∃ (nw : Int32) (st sp tt : Nat → Int32) (sg : Nat → Nat → Int32), o = some (lsb (msa (sgt W P n K H M h L p) P) P 25, nw, m_refused, m_at0, st, sp, tt, sg)) (fun t x u _ v _ (w : Nat → Nat → Int32) => x = nI t ∧ u = nI (hc h t) ∧ ag n v (lc W P n K H M (fun p => dk (K p)) h (nup L p i) t) ∧ (∀ t', t' < t → w i t' = nI (sgt W P n K H M h L p i t')) ∧ ∀ j, j ≠ i → w j = s j) 25 ⟨rfl, rfl, g2, fun t' h => absurd h (by omega), fun _ _ => rfl⟩ (fun t ht x u st2 v tt2 w z2 => ?_) (fun x u st2 v tt2 w z2 g3 => ?_) 400 (by omega)
        · obtain ⟨rfl, rfl, z2, z3, z4⟩ := z2
          obtain ⟨st3, sp3, tt3, f1, f2⟩ := p_mgo0 (s0 := st2) (t0 := tt2) T' mk mh mm t z2
          have Ti := T'.at (fun p => dk (K p)) t
          have lm := p_mlight0 hP hn mk z2 hK Ti.lt
          refine ⟨_, _, st3, sp3, tt3, va_up w i (upd (w i) t (nI (sgt W P n K H M h L p i t))), ⟨rfl, rfl, f2, fun t' ht' => ?_, fun j hj => ?_⟩, fun g3 => ?_⟩
          · rw [va_up_self]
            by_cases e : t' = t
            · subst e; rw [pk_us]
            · rw [pk_un e]; exact z3 t' (by omega)
          · rw [va_up_ne _ _ hj]; exact z4 j hj
          · have lm' : fX8_light (nI P) (nI n) (-1) m_kind v = some (nI (sgt W P n K H M h L p i t)) := lm
            simp only [show ((24 : Int32) < nI t) = False from eq_false (by rw [show (24 : Int32) = nI 24 from rfl, nlt (by omega) (by omega)]; omega), bo1, bo2, bo3, bo4, bo5, bo6, bo7, bo12, jo0, jo1, vlet, i10, i00, if_true, if_false, ite_self, n1z, n0z, if_n (nin (k := i) (N := 12) (by omega) (by omega)), if_n (nin2 (k := i) (N := 12) (by omega) (by omega)), nc (n := i) (by omega), if_n (nin (k := t) (N := 25) (by omega) (by omega)), if_n (nin2 (k := t) (N := 25) (by omega) (by omega)), nc (n := t) (by omega), lm', f1, nI_1]
        · obtain ⟨za, zb, z2, z3, z4⟩ := z2
          rw [za, if_pos (by decide), vletN, nI_1]
          apply hg
          refine ⟨rfl, fun v => by rw [upd_upd], fun j t hj ht => ?_⟩
          by_cases e : j = i
          · subst e; exact z3 t ht
          · rw [z4 j e]; exact z j t (by omega) ht
      · obtain ⟨rfl, z0, z⟩ := z
        rw [if_pos (Int32.le_refl _), if_n (nin2 (k := p) (N := 8) (by omega) (by omega)), z0, upd_id]
        refine lph3 (Φ := fun o => ∃ (nw : Int32) (st sp tt : Nat → Int32) (sg : Nat → Nat → Int32), o = some (lsb (msa (sgt W P n K H M h L p) P) P 25, nw, m_refused, m_at0, st, sp, tt, sg)) (fun t y w x => x = nI t ∧ y = lsb (msa (sgt W P n K H M h L p) P) P t ∧ w = nI (lsn (msa (sgt W P n K H M h L p) P) P t)) 25 ⟨rfl, rfl, rfl⟩ (fun t ht y w x z2 => ?_) (fun y w x z2 g2 => ?_) 400 (by omega)
        · obtain ⟨rfl, rfl, rfl⟩ := z2
          have ma := p_worstAt (s := s) (G := sgt W P n K H M h L p) hP ht (fun j hj => z j t hj ht) hG
          have ma' : fX8_worstAt (nI P) s (nI t) = some (nI (msa (sgt W P n K H M h L p) P t)) := ma
          have h1 := hms t
          have h2 := hls t
          refine ⟨_, _, _, ⟨rfl, rfl, rfl⟩, fun g2 => ?_⟩
          simp only [show ((24 : Int32) < nI t) = False from eq_false (by rw [show (24 : Int32) = nI 24 from rfl, nlt (by omega) (by omega)]; omega), bo1, bo2, bo3, bo4, bo5, bo6, bo7, bo12, jo0, jo1, vlet, i10, i00, if_true, if_false, ite_self, n1z, n0z, ma', nle (a := lsn (msa (sgt W P n K H M h L p) P) P t) (b := msa (sgt W P n K H M h L p) P t) (by omega) (by omega), nI_1, lsb_s, lsn_s]
          by_cases e : lsn (msa (sgt W P n K H M h L p) P) P t ≤ msa (sgt W P n K H M h L p) P t
          · simp only [e, bo1, bo2, bo3, bo4, bo5, bo6, bo7, bo12, jo0, jo1, vlet, i10, i00, if_true, if_false, ite_self, n1z, n0z]
          · simp only [e, bo1, bo2, bo3, bo4, bo5, bo6, bo7, bo12, jo0, jo1, vlet, i10, i00, if_true, if_false, ite_self, n1z, n0z]
        · obtain ⟨za, zb, zc⟩ := z2
          rw [za, zb, if_pos (by decide)]
          exact ⟨_, _, _, _, _, rfl⟩
    obtain ⟨f1, f2, f3, f4, f5, f6, f7, f8, f9, f10, f11, f12, f13, f14, f15, hx⟩ := hx
    obtain ⟨z1, z2, z3, z4, z5, hm⟩ := hm
    rw [hx, hm]
    exact ⟨_, _, _, _, _, _, _, _, _, _, _, _, _, _, _, _, _, _, _, _, _, _, _, _, rfl, rfl, R0⟩
  · unfold fX7_next fX8_next
    rw [a1, a2, bo1N, bo1N, if_pos rfl, if_pos rfl, e1, e2, bo2N, bo2N]
    exact ⟨_, _, _, _, _, _, _, _, _, _, _, _, _, _, _, _, _, _, _, _, _, _, _, _, rfl, rfl, R0.rf q⟩
