/-! ===== loops by an invariant ===== -/
theorem lx1 {A1 ρ : Type} {F : (A1 → Option ρ) → A1 → Option ρ} {a1 : A1} (I : Nat → A1 → Prop) (N : Nat) (h0 : I 0 a1) (hs : ∀ i, i < N → ∀ x1, I i x1 → ∃ y1, I (i + 1) y1 ∧ ∀ ag, F ag x1 = ag y1) (n : Nat) (hn : N < n) : ∃ z1 m, I N z1 ∧ lo1 F n a1 = F (lo1 F m) z1 := by
  have key : ∀ (m i n : Nat), i + m = N → m < n → ∀ b1, I i b1 → ∃ z1 m, I N z1 ∧ lo1 F n b1 = F (lo1 F m) z1 := by
    intro m
    induction m with
    | zero =>
      intro i n hi hn b1 hb
      have : i = N := by omega
      subst this
      cases n with
      | zero => exact absurd hn (by omega)
      | succ n => exact ⟨b1, n, hb, rfl⟩
    | succ m ih =>
      intro i n hi hn b1 hb
      cases n with
      | zero => exact absurd hn (by omega)
      | succ n =>
        obtain ⟨y1, hy, e⟩ := hs i (by omega) b1 hb
        obtain ⟨z1, w, hz, e2⟩ := ih (i + 1) n (by omega) (by omega) y1 hy
        refine ⟨z1, w, hz, ?_⟩
        show F (lo1 F n) b1 = _
        rw [e]
        exact e2
  exact key N 0 n (by omega) hn a1 h0
theorem lph1 {A1 ρ : Type} {Φ : Option ρ → Prop} {F : (A1 → Option ρ) → A1 → Option ρ} {a1 : A1} (I : Nat → A1 → Prop) (N : Nat) (h0 : I 0 a1) (hs : ∀ i, i < N → ∀ x1, I i x1 → ∃ y1, I (i + 1) y1 ∧ ∀ ag, F ag x1 = ag y1) (he : ∀ z1, I N z1 → ∀ ag, Φ (F ag z1)) (n : Nat) (hn : N < n) : Φ (lo1 F n a1) := by
  obtain ⟨z1, m, hz, e⟩ := lx1 (F := F) I N h0 hs n hn
  rw [e]
  exact he z1 hz _
theorem lfh1 {A1 ρ : Type} {Φ : Option ρ → Prop} {F : (A1 → Option ρ) → A1 → Option ρ} {a1 : A1} (I : Nat → A1 → Prop) (Q : Nat → Bool) (N : Nat) (h0 : I 0 a1) (hs : ∀ i, i < N → Q i = false → ∀ x1, I i x1 → ∃ y1, I (i + 1) y1 ∧ ∀ ag, F ag x1 = ag y1) (hq : ∀ i, i < N → Q i = true → ff Q N 0 = some i → ∀ z1, I i z1 → ∀ ag, Φ (F ag z1)) (he : ff Q N 0 = none → ∀ z1, I N z1 → ∀ ag, Φ (F ag z1)) (n : Nat) (hn : N < n) : Φ (lo1 F n a1) := by
  cases e : ff Q N 0 with
  | none => exact lph1 I N h0 (fun i hi => hs i hi (ff_none e i (Nat.zero_le _) (by omega))) (he e) n hn
  | some q =>
    obtain ⟨-, h2, h3, h4⟩ := ff_some e
    exact lph1 I q h0 (fun i hi => hs i (by omega) (h4 i (Nat.zero_le _) hi)) (hq q (by omega) h3 e) n (by omega)
theorem lx2 {A1 A2 ρ : Type} {F : (A1 → A2 → Option ρ) → A1 → A2 → Option ρ} {a1 : A1} {a2 : A2} (I : Nat → A1 → A2 → Prop) (N : Nat) (h0 : I 0 a1 a2) (hs : ∀ i, i < N → ∀ x1 x2, I i x1 x2 → ∃ y1 y2, I (i + 1) y1 y2 ∧ ∀ ag, F ag x1 x2 = ag y1 y2) (n : Nat) (hn : N < n) : ∃ z1 z2 m, I N z1 z2 ∧ lo2 F n a1 a2 = F (lo2 F m) z1 z2 := by
  have key : ∀ (m i n : Nat), i + m = N → m < n → ∀ b1 b2, I i b1 b2 → ∃ z1 z2 m, I N z1 z2 ∧ lo2 F n b1 b2 = F (lo2 F m) z1 z2 := by
    intro m
    induction m with
    | zero =>
      intro i n hi hn b1 b2 hb
      have : i = N := by omega
      subst this
      cases n with
      | zero => exact absurd hn (by omega)
      | succ n => exact ⟨b1, b2, n, hb, rfl⟩
    | succ m ih =>
      intro i n hi hn b1 b2 hb
      cases n with
      | zero => exact absurd hn (by omega)
      | succ n =>
        obtain ⟨y1, y2, hy, e⟩ := hs i (by omega) b1 b2 hb
        obtain ⟨z1, z2, w, hz, e2⟩ := ih (i + 1) n (by omega) (by omega) y1 y2 hy
        refine ⟨z1, z2, w, hz, ?_⟩
        show F (lo2 F n) b1 b2 = _
        rw [e]
        exact e2
  exact key N 0 n (by omega) hn a1 a2 h0
theorem lph2 {A1 A2 ρ : Type} {Φ : Option ρ → Prop} {F : (A1 → A2 → Option ρ) → A1 → A2 → Option ρ} {a1 : A1} {a2 : A2} (I : Nat → A1 → A2 → Prop) (N : Nat) (h0 : I 0 a1 a2) (hs : ∀ i, i < N → ∀ x1 x2, I i x1 x2 → ∃ y1 y2, I (i + 1) y1 y2 ∧ ∀ ag, F ag x1 x2 = ag y1 y2) (he : ∀ z1 z2, I N z1 z2 → ∀ ag, Φ (F ag z1 z2)) (n : Nat) (hn : N < n) : Φ (lo2 F n a1 a2) := by
  obtain ⟨z1, z2, m, hz, e⟩ := lx2 (F := F) I N h0 hs n hn
  rw [e]
  exact he z1 z2 hz _
theorem lfh2 {A1 A2 ρ : Type} {Φ : Option ρ → Prop} {F : (A1 → A2 → Option ρ) → A1 → A2 → Option ρ} {a1 : A1} {a2 : A2} (I : Nat → A1 → A2 → Prop) (Q : Nat → Bool) (N : Nat) (h0 : I 0 a1 a2) (hs : ∀ i, i < N → Q i = false → ∀ x1 x2, I i x1 x2 → ∃ y1 y2, I (i + 1) y1 y2 ∧ ∀ ag, F ag x1 x2 = ag y1 y2) (hq : ∀ i, i < N → Q i = true → ff Q N 0 = some i → ∀ z1 z2, I i z1 z2 → ∀ ag, Φ (F ag z1 z2)) (he : ff Q N 0 = none → ∀ z1 z2, I N z1 z2 → ∀ ag, Φ (F ag z1 z2)) (n : Nat) (hn : N < n) : Φ (lo2 F n a1 a2) := by
  cases e : ff Q N 0 with
  | none => exact lph2 I N h0 (fun i hi => hs i hi (ff_none e i (Nat.zero_le _) (by omega))) (he e) n hn
  | some q =>
    obtain ⟨-, h2, h3, h4⟩ := ff_some e
    exact lph2 I q h0 (fun i hi => hs i (by omega) (h4 i (Nat.zero_le _) hi)) (hq q (by omega) h3 e) n (by omega)
theorem lx3 {A1 A2 A3 ρ : Type} {F : (A1 → A2 → A3 → Option ρ) → A1 → A2 → A3 → Option ρ} {a1 : A1} {a2 : A2} {a3 : A3} (I : Nat → A1 → A2 → A3 → Prop) (N : Nat) (h0 : I 0 a1 a2 a3) (hs : ∀ i, i < N → ∀ x1 x2 x3, I i x1 x2 x3 → ∃ y1 y2 y3, I (i + 1) y1 y2 y3 ∧ ∀ ag, F ag x1 x2 x3 = ag y1 y2 y3) (n : Nat) (hn : N < n) : ∃ z1 z2 z3 m, I N z1 z2 z3 ∧ lo3 F n a1 a2 a3 = F (lo3 F m) z1 z2 z3 := by
  have key : ∀ (m i n : Nat), i + m = N → m < n → ∀ b1 b2 b3, I i b1 b2 b3 → ∃ z1 z2 z3 m, I N z1 z2 z3 ∧ lo3 F n b1 b2 b3 = F (lo3 F m) z1 z2 z3 := by
    intro m
    induction m with
    | zero =>
      intro i n hi hn b1 b2 b3 hb
      have : i = N := by omega
      subst this
      cases n with
      | zero => exact absurd hn (by omega)
      | succ n => exact ⟨b1, b2, b3, n, hb, rfl⟩
    | succ m ih =>
      intro i n hi hn b1 b2 b3 hb
      cases n with
      | zero => exact absurd hn (by omega)
      | succ n =>
        obtain ⟨y1, y2, y3, hy, e⟩ := hs i (by omega) b1 b2 b3 hb
        obtain ⟨z1, z2, z3, w, hz, e2⟩ := ih (i + 1) n (by omega) (by omega) y1 y2 y3 hy
        refine ⟨z1, z2, z3, w, hz, ?_⟩
        show F (lo3 F n) b1 b2 b3 = _
        rw [e]
        exact e2
  exact key N 0 n (by omega) hn a1 a2 a3 h0
theorem lph3 {A1 A2 A3 ρ : Type} {Φ : Option ρ → Prop} {F : (A1 → A2 → A3 → Option ρ) → A1 → A2 → A3 → Option ρ} {a1 : A1} {a2 : A2} {a3 : A3} (I : Nat → A1 → A2 → A3 → Prop) (N : Nat) (h0 : I 0 a1 a2 a3) (hs : ∀ i, i < N → ∀ x1 x2 x3, I i x1 x2 x3 → ∃ y1 y2 y3, I (i + 1) y1 y2 y3 ∧ ∀ ag, F ag x1 x2 x3 = ag y1 y2 y3) (he : ∀ z1 z2 z3, I N z1 z2 z3 → ∀ ag, Φ (F ag z1 z2 z3)) (n : Nat) (hn : N < n) : Φ (lo3 F n a1 a2 a3) := by
  obtain ⟨z1, z2, z3, m, hz, e⟩ := lx3 (F := F) I N h0 hs n hn
  rw [e]
  exact he z1 z2 z3 hz _
theorem lfh3 {A1 A2 A3 ρ : Type} {Φ : Option ρ → Prop} {F : (A1 → A2 → A3 → Option ρ) → A1 → A2 → A3 → Option ρ} {a1 : A1} {a2 : A2} {a3 : A3} (I : Nat → A1 → A2 → A3 → Prop) (Q : Nat → Bool) (N : Nat) (h0 : I 0 a1 a2 a3) (hs : ∀ i, i < N → Q i = false → ∀ x1 x2 x3, I i x1 x2 x3 → ∃ y1 y2 y3, I (i + 1) y1 y2 y3 ∧ ∀ ag, F ag x1 x2 x3 = ag y1 y2 y3) (hq : ∀ i, i < N → Q i = true → ff Q N 0 = some i → ∀ z1 z2 z3, I i z1 z2 z3 → ∀ ag, Φ (F ag z1 z2 z3)) (he : ff Q N 0 = none → ∀ z1 z2 z3, I N z1 z2 z3 → ∀ ag, Φ (F ag z1 z2 z3)) (n : Nat) (hn : N < n) : Φ (lo3 F n a1 a2 a3) := by
  cases e : ff Q N 0 with
  | none => exact lph3 I N h0 (fun i hi => hs i hi (ff_none e i (Nat.zero_le _) (by omega))) (he e) n hn
  | some q =>
    obtain ⟨-, h2, h3, h4⟩ := ff_some e
    exact lph3 I q h0 (fun i hi => hs i (by omega) (h4 i (Nat.zero_le _) hi)) (hq q (by omega) h3 e) n (by omega)
theorem lx4 {A1 A2 A3 A4 ρ : Type} {F : (A1 → A2 → A3 → A4 → Option ρ) → A1 → A2 → A3 → A4 → Option ρ} {a1 : A1} {a2 : A2} {a3 : A3} {a4 : A4} (I : Nat → A1 → A2 → A3 → A4 → Prop) (N : Nat) (h0 : I 0 a1 a2 a3 a4) (hs : ∀ i, i < N → ∀ x1 x2 x3 x4, I i x1 x2 x3 x4 → ∃ y1 y2 y3 y4, I (i + 1) y1 y2 y3 y4 ∧ ∀ ag, F ag x1 x2 x3 x4 = ag y1 y2 y3 y4) (n : Nat) (hn : N < n) : ∃ z1 z2 z3 z4 m, I N z1 z2 z3 z4 ∧ lo4 F n a1 a2 a3 a4 = F (lo4 F m) z1 z2 z3 z4 := by
  have key : ∀ (m i n : Nat), i + m = N → m < n → ∀ b1 b2 b3 b4, I i b1 b2 b3 b4 → ∃ z1 z2 z3 z4 m, I N z1 z2 z3 z4 ∧ lo4 F n b1 b2 b3 b4 = F (lo4 F m) z1 z2 z3 z4 := by
    intro m
    induction m with
    | zero =>
      intro i n hi hn b1 b2 b3 b4 hb
      have : i = N := by omega
      subst this
      cases n with
      | zero => exact absurd hn (by omega)
      | succ n => exact ⟨b1, b2, b3, b4, n, hb, rfl⟩
    | succ m ih =>
      intro i n hi hn b1 b2 b3 b4 hb
      cases n with
      | zero => exact absurd hn (by omega)
      | succ n =>
        obtain ⟨y1, y2, y3, y4, hy, e⟩ := hs i (by omega) b1 b2 b3 b4 hb
        obtain ⟨z1, z2, z3, z4, w, hz, e2⟩ := ih (i + 1) n (by omega) (by omega) y1 y2 y3 y4 hy
        refine ⟨z1, z2, z3, z4, w, hz, ?_⟩
        show F (lo4 F n) b1 b2 b3 b4 = _
        rw [e]
        exact e2
  exact key N 0 n (by omega) hn a1 a2 a3 a4 h0
theorem lph4 {A1 A2 A3 A4 ρ : Type} {Φ : Option ρ → Prop} {F : (A1 → A2 → A3 → A4 → Option ρ) → A1 → A2 → A3 → A4 → Option ρ} {a1 : A1} {a2 : A2} {a3 : A3} {a4 : A4} (I : Nat → A1 → A2 → A3 → A4 → Prop) (N : Nat) (h0 : I 0 a1 a2 a3 a4) (hs : ∀ i, i < N → ∀ x1 x2 x3 x4, I i x1 x2 x3 x4 → ∃ y1 y2 y3 y4, I (i + 1) y1 y2 y3 y4 ∧ ∀ ag, F ag x1 x2 x3 x4 = ag y1 y2 y3 y4) (he : ∀ z1 z2 z3 z4, I N z1 z2 z3 z4 → ∀ ag, Φ (F ag z1 z2 z3 z4)) (n : Nat) (hn : N < n) : Φ (lo4 F n a1 a2 a3 a4) := by
  obtain ⟨z1, z2, z3, z4, m, hz, e⟩ := lx4 (F := F) I N h0 hs n hn
  rw [e]
  exact he z1 z2 z3 z4 hz _
theorem lfh4 {A1 A2 A3 A4 ρ : Type} {Φ : Option ρ → Prop} {F : (A1 → A2 → A3 → A4 → Option ρ) → A1 → A2 → A3 → A4 → Option ρ} {a1 : A1} {a2 : A2} {a3 : A3} {a4 : A4} (I : Nat → A1 → A2 → A3 → A4 → Prop) (Q : Nat → Bool) (N : Nat) (h0 : I 0 a1 a2 a3 a4) (hs : ∀ i, i < N → Q i = false → ∀ x1 x2 x3 x4, I i x1 x2 x3 x4 → ∃ y1 y2 y3 y4, I (i + 1) y1 y2 y3 y4 ∧ ∀ ag, F ag x1 x2 x3 x4 = ag y1 y2 y3 y4) (hq : ∀ i, i < N → Q i = true → ff Q N 0 = some i → ∀ z1 z2 z3 z4, I i z1 z2 z3 z4 → ∀ ag, Φ (F ag z1 z2 z3 z4)) (he : ff Q N 0 = none → ∀ z1 z2 z3 z4, I N z1 z2 z3 z4 → ∀ ag, Φ (F ag z1 z2 z3 z4)) (n : Nat) (hn : N < n) : Φ (lo4 F n a1 a2 a3 a4) := by
  cases e : ff Q N 0 with
  | none => exact lph4 I N h0 (fun i hi => hs i hi (ff_none e i (Nat.zero_le _) (by omega))) (he e) n hn
  | some q =>
    obtain ⟨-, h2, h3, h4⟩ := ff_some e
    exact lph4 I q h0 (fun i hi => hs i (by omega) (h4 i (Nat.zero_le _) hi)) (hq q (by omega) h3 e) n (by omega)
theorem lx5 {A1 A2 A3 A4 A5 ρ : Type} {F : (A1 → A2 → A3 → A4 → A5 → Option ρ) → A1 → A2 → A3 → A4 → A5 → Option ρ} {a1 : A1} {a2 : A2} {a3 : A3} {a4 : A4} {a5 : A5} (I : Nat → A1 → A2 → A3 → A4 → A5 → Prop) (N : Nat) (h0 : I 0 a1 a2 a3 a4 a5) (hs : ∀ i, i < N → ∀ x1 x2 x3 x4 x5, I i x1 x2 x3 x4 x5 → ∃ y1 y2 y3 y4 y5, I (i + 1) y1 y2 y3 y4 y5 ∧ ∀ ag, F ag x1 x2 x3 x4 x5 = ag y1 y2 y3 y4 y5) (n : Nat) (hn : N < n) : ∃ z1 z2 z3 z4 z5 m, I N z1 z2 z3 z4 z5 ∧ lo5 F n a1 a2 a3 a4 a5 = F (lo5 F m) z1 z2 z3 z4 z5 := by
  have key : ∀ (m i n : Nat), i + m = N → m < n → ∀ b1 b2 b3 b4 b5, I i b1 b2 b3 b4 b5 → ∃ z1 z2 z3 z4 z5 m, I N z1 z2 z3 z4 z5 ∧ lo5 F n b1 b2 b3 b4 b5 = F (lo5 F m) z1 z2 z3 z4 z5 := by
    intro m
    induction m with
    | zero =>
      intro i n hi hn b1 b2 b3 b4 b5 hb
      have : i = N := by omega
      subst this
      cases n with
      | zero => exact absurd hn (by omega)
      | succ n => exact ⟨b1, b2, b3, b4, b5, n, hb, rfl⟩
    | succ m ih =>
      intro i n hi hn b1 b2 b3 b4 b5 hb
      cases n with
      | zero => exact absurd hn (by omega)
      | succ n =>
        obtain ⟨y1, y2, y3, y4, y5, hy, e⟩ := hs i (by omega) b1 b2 b3 b4 b5 hb
        obtain ⟨z1, z2, z3, z4, z5, w, hz, e2⟩ := ih (i + 1) n (by omega) (by omega) y1 y2 y3 y4 y5 hy
        refine ⟨z1, z2, z3, z4, z5, w, hz, ?_⟩
        show F (lo5 F n) b1 b2 b3 b4 b5 = _
        rw [e]
        exact e2
  exact key N 0 n (by omega) hn a1 a2 a3 a4 a5 h0
theorem lph5 {A1 A2 A3 A4 A5 ρ : Type} {Φ : Option ρ → Prop} {F : (A1 → A2 → A3 → A4 → A5 → Option ρ) → A1 → A2 → A3 → A4 → A5 → Option ρ} {a1 : A1} {a2 : A2} {a3 : A3} {a4 : A4} {a5 : A5} (I : Nat → A1 → A2 → A3 → A4 → A5 → Prop) (N : Nat) (h0 : I 0 a1 a2 a3 a4 a5) (hs : ∀ i, i < N → ∀ x1 x2 x3 x4 x5, I i x1 x2 x3 x4 x5 → ∃ y1 y2 y3 y4 y5, I (i + 1) y1 y2 y3 y4 y5 ∧ ∀ ag, F ag x1 x2 x3 x4 x5 = ag y1 y2 y3 y4 y5) (he : ∀ z1 z2 z3 z4 z5, I N z1 z2 z3 z4 z5 → ∀ ag, Φ (F ag z1 z2 z3 z4 z5)) (n : Nat) (hn : N < n) : Φ (lo5 F n a1 a2 a3 a4 a5) := by
  obtain ⟨z1, z2, z3, z4, z5, m, hz, e⟩ := lx5 (F := F) I N h0 hs n hn
  rw [e]
  exact he z1 z2 z3 z4 z5 hz _
theorem lfh5 {A1 A2 A3 A4 A5 ρ : Type} {Φ : Option ρ → Prop} {F : (A1 → A2 → A3 → A4 → A5 → Option ρ) → A1 → A2 → A3 → A4 → A5 → Option ρ} {a1 : A1} {a2 : A2} {a3 : A3} {a4 : A4} {a5 : A5} (I : Nat → A1 → A2 → A3 → A4 → A5 → Prop) (Q : Nat → Bool) (N : Nat) (h0 : I 0 a1 a2 a3 a4 a5) (hs : ∀ i, i < N → Q i = false → ∀ x1 x2 x3 x4 x5, I i x1 x2 x3 x4 x5 → ∃ y1 y2 y3 y4 y5, I (i + 1) y1 y2 y3 y4 y5 ∧ ∀ ag, F ag x1 x2 x3 x4 x5 = ag y1 y2 y3 y4 y5) (hq : ∀ i, i < N → Q i = true → ff Q N 0 = some i → ∀ z1 z2 z3 z4 z5, I i z1 z2 z3 z4 z5 → ∀ ag, Φ (F ag z1 z2 z3 z4 z5)) (he : ff Q N 0 = none → ∀ z1 z2 z3 z4 z5, I N z1 z2 z3 z4 z5 → ∀ ag, Φ (F ag z1 z2 z3 z4 z5)) (n : Nat) (hn : N < n) : Φ (lo5 F n a1 a2 a3 a4 a5) := by
  cases e : ff Q N 0 with
  | none => exact lph5 I N h0 (fun i hi => hs i hi (ff_none e i (Nat.zero_le _) (by omega))) (he e) n hn
  | some q =>
    obtain ⟨-, h2, h3, h4⟩ := ff_some e
    exact lph5 I q h0 (fun i hi => hs i (by omega) (h4 i (Nat.zero_le _) hi)) (hq q (by omega) h3 e) n (by omega)
theorem lx6 {A1 A2 A3 A4 A5 A6 ρ : Type} {F : (A1 → A2 → A3 → A4 → A5 → A6 → Option ρ) → A1 → A2 → A3 → A4 → A5 → A6 → Option ρ} {a1 : A1} {a2 : A2} {a3 : A3} {a4 : A4} {a5 : A5} {a6 : A6} (I : Nat → A1 → A2 → A3 → A4 → A5 → A6 → Prop) (N : Nat) (h0 : I 0 a1 a2 a3 a4 a5 a6) (hs : ∀ i, i < N → ∀ x1 x2 x3 x4 x5 x6, I i x1 x2 x3 x4 x5 x6 → ∃ y1 y2 y3 y4 y5 y6, I (i + 1) y1 y2 y3 y4 y5 y6 ∧ ∀ ag, F ag x1 x2 x3 x4 x5 x6 = ag y1 y2 y3 y4 y5 y6) (n : Nat) (hn : N < n) : ∃ z1 z2 z3 z4 z5 z6 m, I N z1 z2 z3 z4 z5 z6 ∧ lo6 F n a1 a2 a3 a4 a5 a6 = F (lo6 F m) z1 z2 z3 z4 z5 z6 := by
  have key : ∀ (m i n : Nat), i + m = N → m < n → ∀ b1 b2 b3 b4 b5 b6, I i b1 b2 b3 b4 b5 b6 → ∃ z1 z2 z3 z4 z5 z6 m, I N z1 z2 z3 z4 z5 z6 ∧ lo6 F n b1 b2 b3 b4 b5 b6 = F (lo6 F m) z1 z2 z3 z4 z5 z6 := by
    intro m
    induction m with
    | zero =>
      intro i n hi hn b1 b2 b3 b4 b5 b6 hb
      have : i = N := by omega
      subst this
      cases n with
      | zero => exact absurd hn (by omega)
      | succ n => exact ⟨b1, b2, b3, b4, b5, b6, n, hb, rfl⟩
    | succ m ih =>
      intro i n hi hn b1 b2 b3 b4 b5 b6 hb
      cases n with
      | zero => exact absurd hn (by omega)
      | succ n =>
        obtain ⟨y1, y2, y3, y4, y5, y6, hy, e⟩ := hs i (by omega) b1 b2 b3 b4 b5 b6 hb
        obtain ⟨z1, z2, z3, z4, z5, z6, w, hz, e2⟩ := ih (i + 1) n (by omega) (by omega) y1 y2 y3 y4 y5 y6 hy
        refine ⟨z1, z2, z3, z4, z5, z6, w, hz, ?_⟩
        show F (lo6 F n) b1 b2 b3 b4 b5 b6 = _
        rw [e]
        exact e2
  exact key N 0 n (by omega) hn a1 a2 a3 a4 a5 a6 h0
theorem lph6 {A1 A2 A3 A4 A5 A6 ρ : Type} {Φ : Option ρ → Prop} {F : (A1 → A2 → A3 → A4 → A5 → A6 → Option ρ) → A1 → A2 → A3 → A4 → A5 → A6 → Option ρ} {a1 : A1} {a2 : A2} {a3 : A3} {a4 : A4} {a5 : A5} {a6 : A6} (I : Nat → A1 → A2 → A3 → A4 → A5 → A6 → Prop) (N : Nat) (h0 : I 0 a1 a2 a3 a4 a5 a6) (hs : ∀ i, i < N → ∀ x1 x2 x3 x4 x5 x6, I i x1 x2 x3 x4 x5 x6 → ∃ y1 y2 y3 y4 y5 y6, I (i + 1) y1 y2 y3 y4 y5 y6 ∧ ∀ ag, F ag x1 x2 x3 x4 x5 x6 = ag y1 y2 y3 y4 y5 y6) (he : ∀ z1 z2 z3 z4 z5 z6, I N z1 z2 z3 z4 z5 z6 → ∀ ag, Φ (F ag z1 z2 z3 z4 z5 z6)) (n : Nat) (hn : N < n) : Φ (lo6 F n a1 a2 a3 a4 a5 a6) := by
  obtain ⟨z1, z2, z3, z4, z5, z6, m, hz, e⟩ := lx6 (F := F) I N h0 hs n hn
  rw [e]
  exact he z1 z2 z3 z4 z5 z6 hz _
theorem lfh6 {A1 A2 A3 A4 A5 A6 ρ : Type} {Φ : Option ρ → Prop} {F : (A1 → A2 → A3 → A4 → A5 → A6 → Option ρ) → A1 → A2 → A3 → A4 → A5 → A6 → Option ρ} {a1 : A1} {a2 : A2} {a3 : A3} {a4 : A4} {a5 : A5} {a6 : A6} (I : Nat → A1 → A2 → A3 → A4 → A5 → A6 → Prop) (Q : Nat → Bool) (N : Nat) (h0 : I 0 a1 a2 a3 a4 a5 a6) (hs : ∀ i, i < N → Q i = false → ∀ x1 x2 x3 x4 x5 x6, I i x1 x2 x3 x4 x5 x6 → ∃ y1 y2 y3 y4 y5 y6, I (i + 1) y1 y2 y3 y4 y5 y6 ∧ ∀ ag, F ag x1 x2 x3 x4 x5 x6 = ag y1 y2 y3 y4 y5 y6) (hq : ∀ i, i < N → Q i = true → ff Q N 0 = some i → ∀ z1 z2 z3 z4 z5 z6, I i z1 z2 z3 z4 z5 z6 → ∀ ag, Φ (F ag z1 z2 z3 z4 z5 z6)) (he : ff Q N 0 = none → ∀ z1 z2 z3 z4 z5 z6, I N z1 z2 z3 z4 z5 z6 → ∀ ag, Φ (F ag z1 z2 z3 z4 z5 z6)) (n : Nat) (hn : N < n) : Φ (lo6 F n a1 a2 a3 a4 a5 a6) := by
  cases e : ff Q N 0 with
  | none => exact lph6 I N h0 (fun i hi => hs i hi (ff_none e i (Nat.zero_le _) (by omega))) (he e) n hn
  | some q =>
    obtain ⟨-, h2, h3, h4⟩ := ff_some e
    exact lph6 I q h0 (fun i hi => hs i (by omega) (h4 i (Nat.zero_le _) hi)) (hq q (by omega) h3 e) n (by omega)
theorem lx7 {A1 A2 A3 A4 A5 A6 A7 ρ : Type} {F : (A1 → A2 → A3 → A4 → A5 → A6 → A7 → Option ρ) → A1 → A2 → A3 → A4 → A5 → A6 → A7 → Option ρ} {a1 : A1} {a2 : A2} {a3 : A3} {a4 : A4} {a5 : A5} {a6 : A6} {a7 : A7} (I : Nat → A1 → A2 → A3 → A4 → A5 → A6 → A7 → Prop) (N : Nat) (h0 : I 0 a1 a2 a3 a4 a5 a6 a7) (hs : ∀ i, i < N → ∀ x1 x2 x3 x4 x5 x6 x7, I i x1 x2 x3 x4 x5 x6 x7 → ∃ y1 y2 y3 y4 y5 y6 y7, I (i + 1) y1 y2 y3 y4 y5 y6 y7 ∧ ∀ ag, F ag x1 x2 x3 x4 x5 x6 x7 = ag y1 y2 y3 y4 y5 y6 y7) (n : Nat) (hn : N < n) : ∃ z1 z2 z3 z4 z5 z6 z7 m, I N z1 z2 z3 z4 z5 z6 z7 ∧ lo7 F n a1 a2 a3 a4 a5 a6 a7 = F (lo7 F m) z1 z2 z3 z4 z5 z6 z7 := by
  have key : ∀ (m i n : Nat), i + m = N → m < n → ∀ b1 b2 b3 b4 b5 b6 b7, I i b1 b2 b3 b4 b5 b6 b7 → ∃ z1 z2 z3 z4 z5 z6 z7 m, I N z1 z2 z3 z4 z5 z6 z7 ∧ lo7 F n b1 b2 b3 b4 b5 b6 b7 = F (lo7 F m) z1 z2 z3 z4 z5 z6 z7 := by
    intro m
    induction m with
    | zero =>
      intro i n hi hn b1 b2 b3 b4 b5 b6 b7 hb
      have : i = N := by omega
      subst this
      cases n with
      | zero => exact absurd hn (by omega)
      | succ n => exact ⟨b1, b2, b3, b4, b5, b6, b7, n, hb, rfl⟩
    | succ m ih =>
      intro i n hi hn b1 b2 b3 b4 b5 b6 b7 hb
      cases n with
      | zero => exact absurd hn (by omega)
      | succ n =>
        obtain ⟨y1, y2, y3, y4, y5, y6, y7, hy, e⟩ := hs i (by omega) b1 b2 b3 b4 b5 b6 b7 hb
        obtain ⟨z1, z2, z3, z4, z5, z6, z7, w, hz, e2⟩ := ih (i + 1) n (by omega) (by omega) y1 y2 y3 y4 y5 y6 y7 hy
        refine ⟨z1, z2, z3, z4, z5, z6, z7, w, hz, ?_⟩
        show F (lo7 F n) b1 b2 b3 b4 b5 b6 b7 = _
        rw [e]
        exact e2
  exact key N 0 n (by omega) hn a1 a2 a3 a4 a5 a6 a7 h0
theorem lph7 {A1 A2 A3 A4 A5 A6 A7 ρ : Type} {Φ : Option ρ → Prop} {F : (A1 → A2 → A3 → A4 → A5 → A6 → A7 → Option ρ) → A1 → A2 → A3 → A4 → A5 → A6 → A7 → Option ρ} {a1 : A1} {a2 : A2} {a3 : A3} {a4 : A4} {a5 : A5} {a6 : A6} {a7 : A7} (I : Nat → A1 → A2 → A3 → A4 → A5 → A6 → A7 → Prop) (N : Nat) (h0 : I 0 a1 a2 a3 a4 a5 a6 a7) (hs : ∀ i, i < N → ∀ x1 x2 x3 x4 x5 x6 x7, I i x1 x2 x3 x4 x5 x6 x7 → ∃ y1 y2 y3 y4 y5 y6 y7, I (i + 1) y1 y2 y3 y4 y5 y6 y7 ∧ ∀ ag, F ag x1 x2 x3 x4 x5 x6 x7 = ag y1 y2 y3 y4 y5 y6 y7) (he : ∀ z1 z2 z3 z4 z5 z6 z7, I N z1 z2 z3 z4 z5 z6 z7 → ∀ ag, Φ (F ag z1 z2 z3 z4 z5 z6 z7)) (n : Nat) (hn : N < n) : Φ (lo7 F n a1 a2 a3 a4 a5 a6 a7) := by
  obtain ⟨z1, z2, z3, z4, z5, z6, z7, m, hz, e⟩ := lx7 (F := F) I N h0 hs n hn
  rw [e]
  exact he z1 z2 z3 z4 z5 z6 z7 hz _
theorem lfh7 {A1 A2 A3 A4 A5 A6 A7 ρ : Type} {Φ : Option ρ → Prop} {F : (A1 → A2 → A3 → A4 → A5 → A6 → A7 → Option ρ) → A1 → A2 → A3 → A4 → A5 → A6 → A7 → Option ρ} {a1 : A1} {a2 : A2} {a3 : A3} {a4 : A4} {a5 : A5} {a6 : A6} {a7 : A7} (I : Nat → A1 → A2 → A3 → A4 → A5 → A6 → A7 → Prop) (Q : Nat → Bool) (N : Nat) (h0 : I 0 a1 a2 a3 a4 a5 a6 a7) (hs : ∀ i, i < N → Q i = false → ∀ x1 x2 x3 x4 x5 x6 x7, I i x1 x2 x3 x4 x5 x6 x7 → ∃ y1 y2 y3 y4 y5 y6 y7, I (i + 1) y1 y2 y3 y4 y5 y6 y7 ∧ ∀ ag, F ag x1 x2 x3 x4 x5 x6 x7 = ag y1 y2 y3 y4 y5 y6 y7) (hq : ∀ i, i < N → Q i = true → ff Q N 0 = some i → ∀ z1 z2 z3 z4 z5 z6 z7, I i z1 z2 z3 z4 z5 z6 z7 → ∀ ag, Φ (F ag z1 z2 z3 z4 z5 z6 z7)) (he : ff Q N 0 = none → ∀ z1 z2 z3 z4 z5 z6 z7, I N z1 z2 z3 z4 z5 z6 z7 → ∀ ag, Φ (F ag z1 z2 z3 z4 z5 z6 z7)) (n : Nat) (hn : N < n) : Φ (lo7 F n a1 a2 a3 a4 a5 a6 a7) := by
  cases e : ff Q N 0 with
  | none => exact lph7 I N h0 (fun i hi => hs i hi (ff_none e i (Nat.zero_le _) (by omega))) (he e) n hn
  | some q =>
    obtain ⟨-, h2, h3, h4⟩ := ff_some e
    exact lph7 I q h0 (fun i hi => hs i (by omega) (h4 i (Nat.zero_le _) hi)) (hq q (by omega) h3 e) n (by omega)
theorem lx8 {A1 A2 A3 A4 A5 A6 A7 A8 ρ : Type} {F : (A1 → A2 → A3 → A4 → A5 → A6 → A7 → A8 → Option ρ) → A1 → A2 → A3 → A4 → A5 → A6 → A7 → A8 → Option ρ} {a1 : A1} {a2 : A2} {a3 : A3} {a4 : A4} {a5 : A5} {a6 : A6} {a7 : A7} {a8 : A8} (I : Nat → A1 → A2 → A3 → A4 → A5 → A6 → A7 → A8 → Prop) (N : Nat) (h0 : I 0 a1 a2 a3 a4 a5 a6 a7 a8) (hs : ∀ i, i < N → ∀ x1 x2 x3 x4 x5 x6 x7 x8, I i x1 x2 x3 x4 x5 x6 x7 x8 → ∃ y1 y2 y3 y4 y5 y6 y7 y8, I (i + 1) y1 y2 y3 y4 y5 y6 y7 y8 ∧ ∀ ag, F ag x1 x2 x3 x4 x5 x6 x7 x8 = ag y1 y2 y3 y4 y5 y6 y7 y8) (n : Nat) (hn : N < n) : ∃ z1 z2 z3 z4 z5 z6 z7 z8 m, I N z1 z2 z3 z4 z5 z6 z7 z8 ∧ lo8 F n a1 a2 a3 a4 a5 a6 a7 a8 = F (lo8 F m) z1 z2 z3 z4 z5 z6 z7 z8 := by
  have key : ∀ (m i n : Nat), i + m = N → m < n → ∀ b1 b2 b3 b4 b5 b6 b7 b8, I i b1 b2 b3 b4 b5 b6 b7 b8 → ∃ z1 z2 z3 z4 z5 z6 z7 z8 m, I N z1 z2 z3 z4 z5 z6 z7 z8 ∧ lo8 F n b1 b2 b3 b4 b5 b6 b7 b8 = F (lo8 F m) z1 z2 z3 z4 z5 z6 z7 z8 := by
    intro m
    induction m with
    | zero =>
      intro i n hi hn b1 b2 b3 b4 b5 b6 b7 b8 hb
      have : i = N := by omega
      subst this
      cases n with
      | zero => exact absurd hn (by omega)
      | succ n => exact ⟨b1, b2, b3, b4, b5, b6, b7, b8, n, hb, rfl⟩
    | succ m ih =>
      intro i n hi hn b1 b2 b3 b4 b5 b6 b7 b8 hb
      cases n with
      | zero => exact absurd hn (by omega)
      | succ n =>
        obtain ⟨y1, y2, y3, y4, y5, y6, y7, y8, hy, e⟩ := hs i (by omega) b1 b2 b3 b4 b5 b6 b7 b8 hb
        obtain ⟨z1, z2, z3, z4, z5, z6, z7, z8, w, hz, e2⟩ := ih (i + 1) n (by omega) (by omega) y1 y2 y3 y4 y5 y6 y7 y8 hy
        refine ⟨z1, z2, z3, z4, z5, z6, z7, z8, w, hz, ?_⟩
        show F (lo8 F n) b1 b2 b3 b4 b5 b6 b7 b8 = _
        rw [e]
        exact e2
  exact key N 0 n (by omega) hn a1 a2 a3 a4 a5 a6 a7 a8 h0
theorem lph8 {A1 A2 A3 A4 A5 A6 A7 A8 ρ : Type} {Φ : Option ρ → Prop} {F : (A1 → A2 → A3 → A4 → A5 → A6 → A7 → A8 → Option ρ) → A1 → A2 → A3 → A4 → A5 → A6 → A7 → A8 → Option ρ} {a1 : A1} {a2 : A2} {a3 : A3} {a4 : A4} {a5 : A5} {a6 : A6} {a7 : A7} {a8 : A8} (I : Nat → A1 → A2 → A3 → A4 → A5 → A6 → A7 → A8 → Prop) (N : Nat) (h0 : I 0 a1 a2 a3 a4 a5 a6 a7 a8) (hs : ∀ i, i < N → ∀ x1 x2 x3 x4 x5 x6 x7 x8, I i x1 x2 x3 x4 x5 x6 x7 x8 → ∃ y1 y2 y3 y4 y5 y6 y7 y8, I (i + 1) y1 y2 y3 y4 y5 y6 y7 y8 ∧ ∀ ag, F ag x1 x2 x3 x4 x5 x6 x7 x8 = ag y1 y2 y3 y4 y5 y6 y7 y8) (he : ∀ z1 z2 z3 z4 z5 z6 z7 z8, I N z1 z2 z3 z4 z5 z6 z7 z8 → ∀ ag, Φ (F ag z1 z2 z3 z4 z5 z6 z7 z8)) (n : Nat) (hn : N < n) : Φ (lo8 F n a1 a2 a3 a4 a5 a6 a7 a8) := by
  obtain ⟨z1, z2, z3, z4, z5, z6, z7, z8, m, hz, e⟩ := lx8 (F := F) I N h0 hs n hn
  rw [e]
  exact he z1 z2 z3 z4 z5 z6 z7 z8 hz _
theorem lfh8 {A1 A2 A3 A4 A5 A6 A7 A8 ρ : Type} {Φ : Option ρ → Prop} {F : (A1 → A2 → A3 → A4 → A5 → A6 → A7 → A8 → Option ρ) → A1 → A2 → A3 → A4 → A5 → A6 → A7 → A8 → Option ρ} {a1 : A1} {a2 : A2} {a3 : A3} {a4 : A4} {a5 : A5} {a6 : A6} {a7 : A7} {a8 : A8} (I : Nat → A1 → A2 → A3 → A4 → A5 → A6 → A7 → A8 → Prop) (Q : Nat → Bool) (N : Nat) (h0 : I 0 a1 a2 a3 a4 a5 a6 a7 a8) (hs : ∀ i, i < N → Q i = false → ∀ x1 x2 x3 x4 x5 x6 x7 x8, I i x1 x2 x3 x4 x5 x6 x7 x8 → ∃ y1 y2 y3 y4 y5 y6 y7 y8, I (i + 1) y1 y2 y3 y4 y5 y6 y7 y8 ∧ ∀ ag, F ag x1 x2 x3 x4 x5 x6 x7 x8 = ag y1 y2 y3 y4 y5 y6 y7 y8) (hq : ∀ i, i < N → Q i = true → ff Q N 0 = some i → ∀ z1 z2 z3 z4 z5 z6 z7 z8, I i z1 z2 z3 z4 z5 z6 z7 z8 → ∀ ag, Φ (F ag z1 z2 z3 z4 z5 z6 z7 z8)) (he : ff Q N 0 = none → ∀ z1 z2 z3 z4 z5 z6 z7 z8, I N z1 z2 z3 z4 z5 z6 z7 z8 → ∀ ag, Φ (F ag z1 z2 z3 z4 z5 z6 z7 z8)) (n : Nat) (hn : N < n) : Φ (lo8 F n a1 a2 a3 a4 a5 a6 a7 a8) := by
  cases e : ff Q N 0 with
  | none => exact lph8 I N h0 (fun i hi => hs i hi (ff_none e i (Nat.zero_le _) (by omega))) (he e) n hn
  | some q =>
    obtain ⟨-, h2, h3, h4⟩ := ff_some e
    exact lph8 I q h0 (fun i hi => hs i (by omega) (h4 i (Nat.zero_le _) hi)) (hq q (by omega) h3 e) n (by omega)
theorem lx9 {A1 A2 A3 A4 A5 A6 A7 A8 A9 ρ : Type} {F : (A1 → A2 → A3 → A4 → A5 → A6 → A7 → A8 → A9 → Option ρ) → A1 → A2 → A3 → A4 → A5 → A6 → A7 → A8 → A9 → Option ρ} {a1 : A1} {a2 : A2} {a3 : A3} {a4 : A4} {a5 : A5} {a6 : A6} {a7 : A7} {a8 : A8} {a9 : A9} (I : Nat → A1 → A2 → A3 → A4 → A5 → A6 → A7 → A8 → A9 → Prop) (N : Nat) (h0 : I 0 a1 a2 a3 a4 a5 a6 a7 a8 a9) (hs : ∀ i, i < N → ∀ x1 x2 x3 x4 x5 x6 x7 x8 x9, I i x1 x2 x3 x4 x5 x6 x7 x8 x9 → ∃ y1 y2 y3 y4 y5 y6 y7 y8 y9, I (i + 1) y1 y2 y3 y4 y5 y6 y7 y8 y9 ∧ ∀ ag, F ag x1 x2 x3 x4 x5 x6 x7 x8 x9 = ag y1 y2 y3 y4 y5 y6 y7 y8 y9) (n : Nat) (hn : N < n) : ∃ z1 z2 z3 z4 z5 z6 z7 z8 z9 m, I N z1 z2 z3 z4 z5 z6 z7 z8 z9 ∧ lo9 F n a1 a2 a3 a4 a5 a6 a7 a8 a9 = F (lo9 F m) z1 z2 z3 z4 z5 z6 z7 z8 z9 := by
  have key : ∀ (m i n : Nat), i + m = N → m < n → ∀ b1 b2 b3 b4 b5 b6 b7 b8 b9, I i b1 b2 b3 b4 b5 b6 b7 b8 b9 → ∃ z1 z2 z3 z4 z5 z6 z7 z8 z9 m, I N z1 z2 z3 z4 z5 z6 z7 z8 z9 ∧ lo9 F n b1 b2 b3 b4 b5 b6 b7 b8 b9 = F (lo9 F m) z1 z2 z3 z4 z5 z6 z7 z8 z9 := by
    intro m
    induction m with
    | zero =>
      intro i n hi hn b1 b2 b3 b4 b5 b6 b7 b8 b9 hb
      have : i = N := by omega
      subst this
      cases n with
      | zero => exact absurd hn (by omega)
      | succ n => exact ⟨b1, b2, b3, b4, b5, b6, b7, b8, b9, n, hb, rfl⟩
    | succ m ih =>
      intro i n hi hn b1 b2 b3 b4 b5 b6 b7 b8 b9 hb
      cases n with
      | zero => exact absurd hn (by omega)
      | succ n =>
        obtain ⟨y1, y2, y3, y4, y5, y6, y7, y8, y9, hy, e⟩ := hs i (by omega) b1 b2 b3 b4 b5 b6 b7 b8 b9 hb
        obtain ⟨z1, z2, z3, z4, z5, z6, z7, z8, z9, w, hz, e2⟩ := ih (i + 1) n (by omega) (by omega) y1 y2 y3 y4 y5 y6 y7 y8 y9 hy
        refine ⟨z1, z2, z3, z4, z5, z6, z7, z8, z9, w, hz, ?_⟩
        show F (lo9 F n) b1 b2 b3 b4 b5 b6 b7 b8 b9 = _
        rw [e]
        exact e2
  exact key N 0 n (by omega) hn a1 a2 a3 a4 a5 a6 a7 a8 a9 h0
theorem lph9 {A1 A2 A3 A4 A5 A6 A7 A8 A9 ρ : Type} {Φ : Option ρ → Prop} {F : (A1 → A2 → A3 → A4 → A5 → A6 → A7 → A8 → A9 → Option ρ) → A1 → A2 → A3 → A4 → A5 → A6 → A7 → A8 → A9 → Option ρ} {a1 : A1} {a2 : A2} {a3 : A3} {a4 : A4} {a5 : A5} {a6 : A6} {a7 : A7} {a8 : A8} {a9 : A9} (I : Nat → A1 → A2 → A3 → A4 → A5 → A6 → A7 → A8 → A9 → Prop) (N : Nat) (h0 : I 0 a1 a2 a3 a4 a5 a6 a7 a8 a9) (hs : ∀ i, i < N → ∀ x1 x2 x3 x4 x5 x6 x7 x8 x9, I i x1 x2 x3 x4 x5 x6 x7 x8 x9 → ∃ y1 y2 y3 y4 y5 y6 y7 y8 y9, I (i + 1) y1 y2 y3 y4 y5 y6 y7 y8 y9 ∧ ∀ ag, F ag x1 x2 x3 x4 x5 x6 x7 x8 x9 = ag y1 y2 y3 y4 y5 y6 y7 y8 y9) (he : ∀ z1 z2 z3 z4 z5 z6 z7 z8 z9, I N z1 z2 z3 z4 z5 z6 z7 z8 z9 → ∀ ag, Φ (F ag z1 z2 z3 z4 z5 z6 z7 z8 z9)) (n : Nat) (hn : N < n) : Φ (lo9 F n a1 a2 a3 a4 a5 a6 a7 a8 a9) := by
  obtain ⟨z1, z2, z3, z4, z5, z6, z7, z8, z9, m, hz, e⟩ := lx9 (F := F) I N h0 hs n hn
  rw [e]
  exact he z1 z2 z3 z4 z5 z6 z7 z8 z9 hz _
theorem lfh9 {A1 A2 A3 A4 A5 A6 A7 A8 A9 ρ : Type} {Φ : Option ρ → Prop} {F : (A1 → A2 → A3 → A4 → A5 → A6 → A7 → A8 → A9 → Option ρ) → A1 → A2 → A3 → A4 → A5 → A6 → A7 → A8 → A9 → Option ρ} {a1 : A1} {a2 : A2} {a3 : A3} {a4 : A4} {a5 : A5} {a6 : A6} {a7 : A7} {a8 : A8} {a9 : A9} (I : Nat → A1 → A2 → A3 → A4 → A5 → A6 → A7 → A8 → A9 → Prop) (Q : Nat → Bool) (N : Nat) (h0 : I 0 a1 a2 a3 a4 a5 a6 a7 a8 a9) (hs : ∀ i, i < N → Q i = false → ∀ x1 x2 x3 x4 x5 x6 x7 x8 x9, I i x1 x2 x3 x4 x5 x6 x7 x8 x9 → ∃ y1 y2 y3 y4 y5 y6 y7 y8 y9, I (i + 1) y1 y2 y3 y4 y5 y6 y7 y8 y9 ∧ ∀ ag, F ag x1 x2 x3 x4 x5 x6 x7 x8 x9 = ag y1 y2 y3 y4 y5 y6 y7 y8 y9) (hq : ∀ i, i < N → Q i = true → ff Q N 0 = some i → ∀ z1 z2 z3 z4 z5 z6 z7 z8 z9, I i z1 z2 z3 z4 z5 z6 z7 z8 z9 → ∀ ag, Φ (F ag z1 z2 z3 z4 z5 z6 z7 z8 z9)) (he : ff Q N 0 = none → ∀ z1 z2 z3 z4 z5 z6 z7 z8 z9, I N z1 z2 z3 z4 z5 z6 z7 z8 z9 → ∀ ag, Φ (F ag z1 z2 z3 z4 z5 z6 z7 z8 z9)) (n : Nat) (hn : N < n) : Φ (lo9 F n a1 a2 a3 a4 a5 a6 a7 a8 a9) := by
  cases e : ff Q N 0 with
  | none => exact lph9 I N h0 (fun i hi => hs i hi (ff_none e i (Nat.zero_le _) (by omega))) (he e) n hn
  | some q =>
    obtain ⟨-, h2, h3, h4⟩ := ff_some e
    exact lph9 I q h0 (fun i hi => hs i (by omega) (h4 i (Nat.zero_le _) hi)) (hq q (by omega) h3 e) n (by omega)
theorem lx10 {A1 A2 A3 A4 A5 A6 A7 A8 A9 A10 ρ : Type} {F : (A1 → A2 → A3 → A4 → A5 → A6 → A7 → A8 → A9 → A10 → Option ρ) → A1 → A2 → A3 → A4 → A5 → A6 → A7 → A8 → A9 → A10 → Option ρ} {a1 : A1} {a2 : A2} {a3 : A3} {a4 : A4} {a5 : A5} {a6 : A6} {a7 : A7} {a8 : A8} {a9 : A9} {a10 : A10} (I : Nat → A1 → A2 → A3 → A4 → A5 → A6 → A7 → A8 → A9 → A10 → Prop) (N : Nat) (h0 : I 0 a1 a2 a3 a4 a5 a6 a7 a8 a9 a10) (hs : ∀ i, i < N → ∀ x1 x2 x3 x4 x5 x6 x7 x8 x9 x10, I i x1 x2 x3 x4 x5 x6 x7 x8 x9 x10 → ∃ y1 y2 y3 y4 y5 y6 y7 y8 y9 y10, I (i + 1) y1 y2 y3 y4 y5 y6 y7 y8 y9 y10 ∧ ∀ ag, F ag x1 x2 x3 x4 x5 x6 x7 x8 x9 x10 = ag y1 y2 y3 y4 y5 y6 y7 y8 y9 y10) (n : Nat) (hn : N < n) : ∃ z1 z2 z3 z4 z5 z6 z7 z8 z9 z10 m, I N z1 z2 z3 z4 z5 z6 z7 z8 z9 z10 ∧ lo10 F n a1 a2 a3 a4 a5 a6 a7 a8 a9 a10 = F (lo10 F m) z1 z2 z3 z4 z5 z6 z7 z8 z9 z10 := by
  have key : ∀ (m i n : Nat), i + m = N → m < n → ∀ b1 b2 b3 b4 b5 b6 b7 b8 b9 b10, I i b1 b2 b3 b4 b5 b6 b7 b8 b9 b10 → ∃ z1 z2 z3 z4 z5 z6 z7 z8 z9 z10 m, I N z1 z2 z3 z4 z5 z6 z7 z8 z9 z10 ∧ lo10 F n b1 b2 b3 b4 b5 b6 b7 b8 b9 b10 = F (lo10 F m) z1 z2 z3 z4 z5 z6 z7 z8 z9 z10 := by
    intro m
    induction m with
    | zero =>
      intro i n hi hn b1 b2 b3 b4 b5 b6 b7 b8 b9 b10 hb
      have : i = N := by omega
      subst this
      cases n with
      | zero => exact absurd hn (by omega)
      | succ n => exact ⟨b1, b2, b3, b4, b5, b6, b7, b8, b9, b10, n, hb, rfl⟩
    | succ m ih =>
      intro i n hi hn b1 b2 b3 b4 b5 b6 b7 b8 b9 b10 hb
      cases n with
      | zero => exact absurd hn (by omega)
      | succ n =>
        obtain ⟨y1, y2, y3, y4, y5, y6, y7, y8, y9, y10, hy, e⟩ := hs i (by omega) b1 b2 b3 b4 b5 b6 b7 b8 b9 b10 hb
        obtain ⟨z1, z2, z3, z4, z5, z6, z7, z8, z9, z10, w, hz, e2⟩ := ih (i + 1) n (by omega) (by omega) y1 y2 y3 y4 y5 y6 y7 y8 y9 y10 hy
        refine ⟨z1, z2, z3, z4, z5, z6, z7, z8, z9, z10, w, hz, ?_⟩
        show F (lo10 F n) b1 b2 b3 b4 b5 b6 b7 b8 b9 b10 = _
        rw [e]
        exact e2
  exact key N 0 n (by omega) hn a1 a2 a3 a4 a5 a6 a7 a8 a9 a10 h0
theorem lph10 {A1 A2 A3 A4 A5 A6 A7 A8 A9 A10 ρ : Type} {Φ : Option ρ → Prop} {F : (A1 → A2 → A3 → A4 → A5 → A6 → A7 → A8 → A9 → A10 → Option ρ) → A1 → A2 → A3 → A4 → A5 → A6 → A7 → A8 → A9 → A10 → Option ρ} {a1 : A1} {a2 : A2} {a3 : A3} {a4 : A4} {a5 : A5} {a6 : A6} {a7 : A7} {a8 : A8} {a9 : A9} {a10 : A10} (I : Nat → A1 → A2 → A3 → A4 → A5 → A6 → A7 → A8 → A9 → A10 → Prop) (N : Nat) (h0 : I 0 a1 a2 a3 a4 a5 a6 a7 a8 a9 a10) (hs : ∀ i, i < N → ∀ x1 x2 x3 x4 x5 x6 x7 x8 x9 x10, I i x1 x2 x3 x4 x5 x6 x7 x8 x9 x10 → ∃ y1 y2 y3 y4 y5 y6 y7 y8 y9 y10, I (i + 1) y1 y2 y3 y4 y5 y6 y7 y8 y9 y10 ∧ ∀ ag, F ag x1 x2 x3 x4 x5 x6 x7 x8 x9 x10 = ag y1 y2 y3 y4 y5 y6 y7 y8 y9 y10) (he : ∀ z1 z2 z3 z4 z5 z6 z7 z8 z9 z10, I N z1 z2 z3 z4 z5 z6 z7 z8 z9 z10 → ∀ ag, Φ (F ag z1 z2 z3 z4 z5 z6 z7 z8 z9 z10)) (n : Nat) (hn : N < n) : Φ (lo10 F n a1 a2 a3 a4 a5 a6 a7 a8 a9 a10) := by
  obtain ⟨z1, z2, z3, z4, z5, z6, z7, z8, z9, z10, m, hz, e⟩ := lx10 (F := F) I N h0 hs n hn
  rw [e]
  exact he z1 z2 z3 z4 z5 z6 z7 z8 z9 z10 hz _
theorem lfh10 {A1 A2 A3 A4 A5 A6 A7 A8 A9 A10 ρ : Type} {Φ : Option ρ → Prop} {F : (A1 → A2 → A3 → A4 → A5 → A6 → A7 → A8 → A9 → A10 → Option ρ) → A1 → A2 → A3 → A4 → A5 → A6 → A7 → A8 → A9 → A10 → Option ρ} {a1 : A1} {a2 : A2} {a3 : A3} {a4 : A4} {a5 : A5} {a6 : A6} {a7 : A7} {a8 : A8} {a9 : A9} {a10 : A10} (I : Nat → A1 → A2 → A3 → A4 → A5 → A6 → A7 → A8 → A9 → A10 → Prop) (Q : Nat → Bool) (N : Nat) (h0 : I 0 a1 a2 a3 a4 a5 a6 a7 a8 a9 a10) (hs : ∀ i, i < N → Q i = false → ∀ x1 x2 x3 x4 x5 x6 x7 x8 x9 x10, I i x1 x2 x3 x4 x5 x6 x7 x8 x9 x10 → ∃ y1 y2 y3 y4 y5 y6 y7 y8 y9 y10, I (i + 1) y1 y2 y3 y4 y5 y6 y7 y8 y9 y10 ∧ ∀ ag, F ag x1 x2 x3 x4 x5 x6 x7 x8 x9 x10 = ag y1 y2 y3 y4 y5 y6 y7 y8 y9 y10) (hq : ∀ i, i < N → Q i = true → ff Q N 0 = some i → ∀ z1 z2 z3 z4 z5 z6 z7 z8 z9 z10, I i z1 z2 z3 z4 z5 z6 z7 z8 z9 z10 → ∀ ag, Φ (F ag z1 z2 z3 z4 z5 z6 z7 z8 z9 z10)) (he : ff Q N 0 = none → ∀ z1 z2 z3 z4 z5 z6 z7 z8 z9 z10, I N z1 z2 z3 z4 z5 z6 z7 z8 z9 z10 → ∀ ag, Φ (F ag z1 z2 z3 z4 z5 z6 z7 z8 z9 z10)) (n : Nat) (hn : N < n) : Φ (lo10 F n a1 a2 a3 a4 a5 a6 a7 a8 a9 a10) := by
  cases e : ff Q N 0 with
  | none => exact lph10 I N h0 (fun i hi => hs i hi (ff_none e i (Nat.zero_le _) (by omega))) (he e) n hn
  | some q =>
    obtain ⟨-, h2, h3, h4⟩ := ff_some e
    exact lph10 I q h0 (fun i hi => hs i (by omega) (h4 i (Nat.zero_le _) hi)) (hq q (by omega) h3 e) n (by omega)
theorem lx11 {A1 A2 A3 A4 A5 A6 A7 A8 A9 A10 A11 ρ : Type} {F : (A1 → A2 → A3 → A4 → A5 → A6 → A7 → A8 → A9 → A10 → A11 → Option ρ) → A1 → A2 → A3 → A4 → A5 → A6 → A7 → A8 → A9 → A10 → A11 → Option ρ} {a1 : A1} {a2 : A2} {a3 : A3} {a4 : A4} {a5 : A5} {a6 : A6} {a7 : A7} {a8 : A8} {a9 : A9} {a10 : A10} {a11 : A11} (I : Nat → A1 → A2 → A3 → A4 → A5 → A6 → A7 → A8 → A9 → A10 → A11 → Prop) (N : Nat) (h0 : I 0 a1 a2 a3 a4 a5 a6 a7 a8 a9 a10 a11) (hs : ∀ i, i < N → ∀ x1 x2 x3 x4 x5 x6 x7 x8 x9 x10 x11, I i x1 x2 x3 x4 x5 x6 x7 x8 x9 x10 x11 → ∃ y1 y2 y3 y4 y5 y6 y7 y8 y9 y10 y11, I (i + 1) y1 y2 y3 y4 y5 y6 y7 y8 y9 y10 y11 ∧ ∀ ag, F ag x1 x2 x3 x4 x5 x6 x7 x8 x9 x10 x11 = ag y1 y2 y3 y4 y5 y6 y7 y8 y9 y10 y11) (n : Nat) (hn : N < n) : ∃ z1 z2 z3 z4 z5 z6 z7 z8 z9 z10 z11 m, I N z1 z2 z3 z4 z5 z6 z7 z8 z9 z10 z11 ∧ lo11 F n a1 a2 a3 a4 a5 a6 a7 a8 a9 a10 a11 = F (lo11 F m) z1 z2 z3 z4 z5 z6 z7 z8 z9 z10 z11 := by
  have key : ∀ (m i n : Nat), i + m = N → m < n → ∀ b1 b2 b3 b4 b5 b6 b7 b8 b9 b10 b11, I i b1 b2 b3 b4 b5 b6 b7 b8 b9 b10 b11 → ∃ z1 z2 z3 z4 z5 z6 z7 z8 z9 z10 z11 m, I N z1 z2 z3 z4 z5 z6 z7 z8 z9 z10 z11 ∧ lo11 F n b1 b2 b3 b4 b5 b6 b7 b8 b9 b10 b11 = F (lo11 F m) z1 z2 z3 z4 z5 z6 z7 z8 z9 z10 z11 := by
    intro m
    induction m with
    | zero =>
      intro i n hi hn b1 b2 b3 b4 b5 b6 b7 b8 b9 b10 b11 hb
      have : i = N := by omega
      subst this
      cases n with
      | zero => exact absurd hn (by omega)
      | succ n => exact ⟨b1, b2, b3, b4, b5, b6, b7, b8, b9, b10, b11, n, hb, rfl⟩
    | succ m ih =>
      intro i n hi hn b1 b2 b3 b4 b5 b6 b7 b8 b9 b10 b11 hb
      cases n with
      | zero => exact absurd hn (by omega)
      | succ n =>
        obtain ⟨y1, y2, y3, y4, y5, y6, y7, y8, y9, y10, y11, hy, e⟩ := hs i (by omega) b1 b2 b3 b4 b5 b6 b7 b8 b9 b10 b11 hb
        obtain ⟨z1, z2, z3, z4, z5, z6, z7, z8, z9, z10, z11, w, hz, e2⟩ := ih (i + 1) n (by omega) (by omega) y1 y2 y3 y4 y5 y6 y7 y8 y9 y10 y11 hy
        refine ⟨z1, z2, z3, z4, z5, z6, z7, z8, z9, z10, z11, w, hz, ?_⟩
        show F (lo11 F n) b1 b2 b3 b4 b5 b6 b7 b8 b9 b10 b11 = _
        rw [e]
        exact e2
  exact key N 0 n (by omega) hn a1 a2 a3 a4 a5 a6 a7 a8 a9 a10 a11 h0
theorem lph11 {A1 A2 A3 A4 A5 A6 A7 A8 A9 A10 A11 ρ : Type} {Φ : Option ρ → Prop} {F : (A1 → A2 → A3 → A4 → A5 → A6 → A7 → A8 → A9 → A10 → A11 → Option ρ) → A1 → A2 → A3 → A4 → A5 → A6 → A7 → A8 → A9 → A10 → A11 → Option ρ} {a1 : A1} {a2 : A2} {a3 : A3} {a4 : A4} {a5 : A5} {a6 : A6} {a7 : A7} {a8 : A8} {a9 : A9} {a10 : A10} {a11 : A11} (I : Nat → A1 → A2 → A3 → A4 → A5 → A6 → A7 → A8 → A9 → A10 → A11 → Prop) (N : Nat) (h0 : I 0 a1 a2 a3 a4 a5 a6 a7 a8 a9 a10 a11) (hs : ∀ i, i < N → ∀ x1 x2 x3 x4 x5 x6 x7 x8 x9 x10 x11, I i x1 x2 x3 x4 x5 x6 x7 x8 x9 x10 x11 → ∃ y1 y2 y3 y4 y5 y6 y7 y8 y9 y10 y11, I (i + 1) y1 y2 y3 y4 y5 y6 y7 y8 y9 y10 y11 ∧ ∀ ag, F ag x1 x2 x3 x4 x5 x6 x7 x8 x9 x10 x11 = ag y1 y2 y3 y4 y5 y6 y7 y8 y9 y10 y11) (he : ∀ z1 z2 z3 z4 z5 z6 z7 z8 z9 z10 z11, I N z1 z2 z3 z4 z5 z6 z7 z8 z9 z10 z11 → ∀ ag, Φ (F ag z1 z2 z3 z4 z5 z6 z7 z8 z9 z10 z11)) (n : Nat) (hn : N < n) : Φ (lo11 F n a1 a2 a3 a4 a5 a6 a7 a8 a9 a10 a11) := by
  obtain ⟨z1, z2, z3, z4, z5, z6, z7, z8, z9, z10, z11, m, hz, e⟩ := lx11 (F := F) I N h0 hs n hn
  rw [e]
  exact he z1 z2 z3 z4 z5 z6 z7 z8 z9 z10 z11 hz _
theorem lfh11 {A1 A2 A3 A4 A5 A6 A7 A8 A9 A10 A11 ρ : Type} {Φ : Option ρ → Prop} {F : (A1 → A2 → A3 → A4 → A5 → A6 → A7 → A8 → A9 → A10 → A11 → Option ρ) → A1 → A2 → A3 → A4 → A5 → A6 → A7 → A8 → A9 → A10 → A11 → Option ρ} {a1 : A1} {a2 : A2} {a3 : A3} {a4 : A4} {a5 : A5} {a6 : A6} {a7 : A7} {a8 : A8} {a9 : A9} {a10 : A10} {a11 : A11} (I : Nat → A1 → A2 → A3 → A4 → A5 → A6 → A7 → A8 → A9 → A10 → A11 → Prop) (Q : Nat → Bool) (N : Nat) (h0 : I 0 a1 a2 a3 a4 a5 a6 a7 a8 a9 a10 a11) (hs : ∀ i, i < N → Q i = false → ∀ x1 x2 x3 x4 x5 x6 x7 x8 x9 x10 x11, I i x1 x2 x3 x4 x5 x6 x7 x8 x9 x10 x11 → ∃ y1 y2 y3 y4 y5 y6 y7 y8 y9 y10 y11, I (i + 1) y1 y2 y3 y4 y5 y6 y7 y8 y9 y10 y11 ∧ ∀ ag, F ag x1 x2 x3 x4 x5 x6 x7 x8 x9 x10 x11 = ag y1 y2 y3 y4 y5 y6 y7 y8 y9 y10 y11) (hq : ∀ i, i < N → Q i = true → ff Q N 0 = some i → ∀ z1 z2 z3 z4 z5 z6 z7 z8 z9 z10 z11, I i z1 z2 z3 z4 z5 z6 z7 z8 z9 z10 z11 → ∀ ag, Φ (F ag z1 z2 z3 z4 z5 z6 z7 z8 z9 z10 z11)) (he : ff Q N 0 = none → ∀ z1 z2 z3 z4 z5 z6 z7 z8 z9 z10 z11, I N z1 z2 z3 z4 z5 z6 z7 z8 z9 z10 z11 → ∀ ag, Φ (F ag z1 z2 z3 z4 z5 z6 z7 z8 z9 z10 z11)) (n : Nat) (hn : N < n) : Φ (lo11 F n a1 a2 a3 a4 a5 a6 a7 a8 a9 a10 a11) := by
  cases e : ff Q N 0 with
  | none => exact lph11 I N h0 (fun i hi => hs i hi (ff_none e i (Nat.zero_le _) (by omega))) (he e) n hn
  | some q =>
    obtain ⟨-, h2, h3, h4⟩ := ff_some e
    exact lph11 I q h0 (fun i hi => hs i (by omega) (h4 i (Nat.zero_le _) hi)) (hq q (by omega) h3 e) n (by omega)
theorem lx12 {A1 A2 A3 A4 A5 A6 A7 A8 A9 A10 A11 A12 ρ : Type} {F : (A1 → A2 → A3 → A4 → A5 → A6 → A7 → A8 → A9 → A10 → A11 → A12 → Option ρ) → A1 → A2 → A3 → A4 → A5 → A6 → A7 → A8 → A9 → A10 → A11 → A12 → Option ρ} {a1 : A1} {a2 : A2} {a3 : A3} {a4 : A4} {a5 : A5} {a6 : A6} {a7 : A7} {a8 : A8} {a9 : A9} {a10 : A10} {a11 : A11} {a12 : A12} (I : Nat → A1 → A2 → A3 → A4 → A5 → A6 → A7 → A8 → A9 → A10 → A11 → A12 → Prop) (N : Nat) (h0 : I 0 a1 a2 a3 a4 a5 a6 a7 a8 a9 a10 a11 a12) (hs : ∀ i, i < N → ∀ x1 x2 x3 x4 x5 x6 x7 x8 x9 x10 x11 x12, I i x1 x2 x3 x4 x5 x6 x7 x8 x9 x10 x11 x12 → ∃ y1 y2 y3 y4 y5 y6 y7 y8 y9 y10 y11 y12, I (i + 1) y1 y2 y3 y4 y5 y6 y7 y8 y9 y10 y11 y12 ∧ ∀ ag, F ag x1 x2 x3 x4 x5 x6 x7 x8 x9 x10 x11 x12 = ag y1 y2 y3 y4 y5 y6 y7 y8 y9 y10 y11 y12) (n : Nat) (hn : N < n) : ∃ z1 z2 z3 z4 z5 z6 z7 z8 z9 z10 z11 z12 m, I N z1 z2 z3 z4 z5 z6 z7 z8 z9 z10 z11 z12 ∧ lo12 F n a1 a2 a3 a4 a5 a6 a7 a8 a9 a10 a11 a12 = F (lo12 F m) z1 z2 z3 z4 z5 z6 z7 z8 z9 z10 z11 z12 := by
  have key : ∀ (m i n : Nat), i + m = N → m < n → ∀ b1 b2 b3 b4 b5 b6 b7 b8 b9 b10 b11 b12, I i b1 b2 b3 b4 b5 b6 b7 b8 b9 b10 b11 b12 → ∃ z1 z2 z3 z4 z5 z6 z7 z8 z9 z10 z11 z12 m, I N z1 z2 z3 z4 z5 z6 z7 z8 z9 z10 z11 z12 ∧ lo12 F n b1 b2 b3 b4 b5 b6 b7 b8 b9 b10 b11 b12 = F (lo12 F m) z1 z2 z3 z4 z5 z6 z7 z8 z9 z10 z11 z12 := by
    intro m
    induction m with
    | zero =>
      intro i n hi hn b1 b2 b3 b4 b5 b6 b7 b8 b9 b10 b11 b12 hb
      have : i = N := by omega
      subst this
      cases n with
      | zero => exact absurd hn (by omega)
      | succ n => exact ⟨b1, b2, b3, b4, b5, b6, b7, b8, b9, b10, b11, b12, n, hb, rfl⟩
    | succ m ih =>
      intro i n hi hn b1 b2 b3 b4 b5 b6 b7 b8 b9 b10 b11 b12 hb
      cases n with
      | zero => exact absurd hn (by omega)
      | succ n =>
        obtain ⟨y1, y2, y3, y4, y5, y6, y7, y8, y9, y10, y11, y12, hy, e⟩ := hs i (by omega) b1 b2 b3 b4 b5 b6 b7 b8 b9 b10 b11 b12 hb
        obtain ⟨z1, z2, z3, z4, z5, z6, z7, z8, z9, z10, z11, z12, w, hz, e2⟩ := ih (i + 1) n (by omega) (by omega) y1 y2 y3 y4 y5 y6 y7 y8 y9 y10 y11 y12 hy
        refine ⟨z1, z2, z3, z4, z5, z6, z7, z8, z9, z10, z11, z12, w, hz, ?_⟩
        show F (lo12 F n) b1 b2 b3 b4 b5 b6 b7 b8 b9 b10 b11 b12 = _
        rw [e]
        exact e2
  exact key N 0 n (by omega) hn a1 a2 a3 a4 a5 a6 a7 a8 a9 a10 a11 a12 h0
theorem lph12 {A1 A2 A3 A4 A5 A6 A7 A8 A9 A10 A11 A12 ρ : Type} {Φ : Option ρ → Prop} {F : (A1 → A2 → A3 → A4 → A5 → A6 → A7 → A8 → A9 → A10 → A11 → A12 → Option ρ) → A1 → A2 → A3 → A4 → A5 → A6 → A7 → A8 → A9 → A10 → A11 → A12 → Option ρ} {a1 : A1} {a2 : A2} {a3 : A3} {a4 : A4} {a5 : A5} {a6 : A6} {a7 : A7} {a8 : A8} {a9 : A9} {a10 : A10} {a11 : A11} {a12 : A12} (I : Nat → A1 → A2 → A3 → A4 → A5 → A6 → A7 → A8 → A9 → A10 → A11 → A12 → Prop) (N : Nat) (h0 : I 0 a1 a2 a3 a4 a5 a6 a7 a8 a9 a10 a11 a12) (hs : ∀ i, i < N → ∀ x1 x2 x3 x4 x5 x6 x7 x8 x9 x10 x11 x12, I i x1 x2 x3 x4 x5 x6 x7 x8 x9 x10 x11 x12 → ∃ y1 y2 y3 y4 y5 y6 y7 y8 y9 y10 y11 y12, I (i + 1) y1 y2 y3 y4 y5 y6 y7 y8 y9 y10 y11 y12 ∧ ∀ ag, F ag x1 x2 x3 x4 x5 x6 x7 x8 x9 x10 x11 x12 = ag y1 y2 y3 y4 y5 y6 y7 y8 y9 y10 y11 y12) (he : ∀ z1 z2 z3 z4 z5 z6 z7 z8 z9 z10 z11 z12, I N z1 z2 z3 z4 z5 z6 z7 z8 z9 z10 z11 z12 → ∀ ag, Φ (F ag z1 z2 z3 z4 z5 z6 z7 z8 z9 z10 z11 z12)) (n : Nat) (hn : N < n) : Φ (lo12 F n a1 a2 a3 a4 a5 a6 a7 a8 a9 a10 a11 a12) := by
  obtain ⟨z1, z2, z3, z4, z5, z6, z7, z8, z9, z10, z11, z12, m, hz, e⟩ := lx12 (F := F) I N h0 hs n hn
  rw [e]
  exact he z1 z2 z3 z4 z5 z6 z7 z8 z9 z10 z11 z12 hz _
theorem lfh12 {A1 A2 A3 A4 A5 A6 A7 A8 A9 A10 A11 A12 ρ : Type} {Φ : Option ρ → Prop} {F : (A1 → A2 → A3 → A4 → A5 → A6 → A7 → A8 → A9 → A10 → A11 → A12 → Option ρ) → A1 → A2 → A3 → A4 → A5 → A6 → A7 → A8 → A9 → A10 → A11 → A12 → Option ρ} {a1 : A1} {a2 : A2} {a3 : A3} {a4 : A4} {a5 : A5} {a6 : A6} {a7 : A7} {a8 : A8} {a9 : A9} {a10 : A10} {a11 : A11} {a12 : A12} (I : Nat → A1 → A2 → A3 → A4 → A5 → A6 → A7 → A8 → A9 → A10 → A11 → A12 → Prop) (Q : Nat → Bool) (N : Nat) (h0 : I 0 a1 a2 a3 a4 a5 a6 a7 a8 a9 a10 a11 a12) (hs : ∀ i, i < N → Q i = false → ∀ x1 x2 x3 x4 x5 x6 x7 x8 x9 x10 x11 x12, I i x1 x2 x3 x4 x5 x6 x7 x8 x9 x10 x11 x12 → ∃ y1 y2 y3 y4 y5 y6 y7 y8 y9 y10 y11 y12, I (i + 1) y1 y2 y3 y4 y5 y6 y7 y8 y9 y10 y11 y12 ∧ ∀ ag, F ag x1 x2 x3 x4 x5 x6 x7 x8 x9 x10 x11 x12 = ag y1 y2 y3 y4 y5 y6 y7 y8 y9 y10 y11 y12) (hq : ∀ i, i < N → Q i = true → ff Q N 0 = some i → ∀ z1 z2 z3 z4 z5 z6 z7 z8 z9 z10 z11 z12, I i z1 z2 z3 z4 z5 z6 z7 z8 z9 z10 z11 z12 → ∀ ag, Φ (F ag z1 z2 z3 z4 z5 z6 z7 z8 z9 z10 z11 z12)) (he : ff Q N 0 = none → ∀ z1 z2 z3 z4 z5 z6 z7 z8 z9 z10 z11 z12, I N z1 z2 z3 z4 z5 z6 z7 z8 z9 z10 z11 z12 → ∀ ag, Φ (F ag z1 z2 z3 z4 z5 z6 z7 z8 z9 z10 z11 z12)) (n : Nat) (hn : N < n) : Φ (lo12 F n a1 a2 a3 a4 a5 a6 a7 a8 a9 a10 a11 a12) := by
  cases e : ff Q N 0 with
  | none => exact lph12 I N h0 (fun i hi => hs i hi (ff_none e i (Nat.zero_le _) (by omega))) (he e) n hn
  | some q =>
    obtain ⟨-, h2, h3, h4⟩ := ff_some e
    exact lph12 I q h0 (fun i hi => hs i (by omega) (h4 i (Nat.zero_le _) hi)) (hq q (by omega) h3 e) n (by omega)
theorem lx13 {A1 A2 A3 A4 A5 A6 A7 A8 A9 A10 A11 A12 A13 ρ : Type} {F : (A1 → A2 → A3 → A4 → A5 → A6 → A7 → A8 → A9 → A10 → A11 → A12 → A13 → Option ρ) → A1 → A2 → A3 → A4 → A5 → A6 → A7 → A8 → A9 → A10 → A11 → A12 → A13 → Option ρ} {a1 : A1} {a2 : A2} {a3 : A3} {a4 : A4} {a5 : A5} {a6 : A6} {a7 : A7} {a8 : A8} {a9 : A9} {a10 : A10} {a11 : A11} {a12 : A12} {a13 : A13} (I : Nat → A1 → A2 → A3 → A4 → A5 → A6 → A7 → A8 → A9 → A10 → A11 → A12 → A13 → Prop) (N : Nat) (h0 : I 0 a1 a2 a3 a4 a5 a6 a7 a8 a9 a10 a11 a12 a13) (hs : ∀ i, i < N → ∀ x1 x2 x3 x4 x5 x6 x7 x8 x9 x10 x11 x12 x13, I i x1 x2 x3 x4 x5 x6 x7 x8 x9 x10 x11 x12 x13 → ∃ y1 y2 y3 y4 y5 y6 y7 y8 y9 y10 y11 y12 y13, I (i + 1) y1 y2 y3 y4 y5 y6 y7 y8 y9 y10 y11 y12 y13 ∧ ∀ ag, F ag x1 x2 x3 x4 x5 x6 x7 x8 x9 x10 x11 x12 x13 = ag y1 y2 y3 y4 y5 y6 y7 y8 y9 y10 y11 y12 y13) (n : Nat) (hn : N < n) : ∃ z1 z2 z3 z4 z5 z6 z7 z8 z9 z10 z11 z12 z13 m, I N z1 z2 z3 z4 z5 z6 z7 z8 z9 z10 z11 z12 z13 ∧ lo13 F n a1 a2 a3 a4 a5 a6 a7 a8 a9 a10 a11 a12 a13 = F (lo13 F m) z1 z2 z3 z4 z5 z6 z7 z8 z9 z10 z11 z12 z13 := by
  have key : ∀ (m i n : Nat), i + m = N → m < n → ∀ b1 b2 b3 b4 b5 b6 b7 b8 b9 b10 b11 b12 b13, I i b1 b2 b3 b4 b5 b6 b7 b8 b9 b10 b11 b12 b13 → ∃ z1 z2 z3 z4 z5 z6 z7 z8 z9 z10 z11 z12 z13 m, I N z1 z2 z3 z4 z5 z6 z7 z8 z9 z10 z11 z12 z13 ∧ lo13 F n b1 b2 b3 b4 b5 b6 b7 b8 b9 b10 b11 b12 b13 = F (lo13 F m) z1 z2 z3 z4 z5 z6 z7 z8 z9 z10 z11 z12 z13 := by
    intro m
    induction m with
    | zero =>
      intro i n hi hn b1 b2 b3 b4 b5 b6 b7 b8 b9 b10 b11 b12 b13 hb
      have : i = N := by omega
      subst this
      cases n with
      | zero => exact absurd hn (by omega)
      | succ n => exact ⟨b1, b2, b3, b4, b5, b6, b7, b8, b9, b10, b11, b12, b13, n, hb, rfl⟩
    | succ m ih =>
      intro i n hi hn b1 b2 b3 b4 b5 b6 b7 b8 b9 b10 b11 b12 b13 hb
      cases n with
      | zero => exact absurd hn (by omega)
      | succ n =>
        obtain ⟨y1, y2, y3, y4, y5, y6, y7, y8, y9, y10, y11, y12, y13, hy, e⟩ := hs i (by omega) b1 b2 b3 b4 b5 b6 b7 b8 b9 b10 b11 b12 b13 hb
        obtain ⟨z1, z2, z3, z4, z5, z6, z7, z8, z9, z10, z11, z12, z13, w, hz, e2⟩ := ih (i + 1) n (by omega) (by omega) y1 y2 y3 y4 y5 y6 y7 y8 y9 y10 y11 y12 y13 hy
        refine ⟨z1, z2, z3, z4, z5, z6, z7, z8, z9, z10, z11, z12, z13, w, hz, ?_⟩
        show F (lo13 F n) b1 b2 b3 b4 b5 b6 b7 b8 b9 b10 b11 b12 b13 = _
        rw [e]
        exact e2
  exact key N 0 n (by omega) hn a1 a2 a3 a4 a5 a6 a7 a8 a9 a10 a11 a12 a13 h0
theorem lph13 {A1 A2 A3 A4 A5 A6 A7 A8 A9 A10 A11 A12 A13 ρ : Type} {Φ : Option ρ → Prop} {F : (A1 → A2 → A3 → A4 → A5 → A6 → A7 → A8 → A9 → A10 → A11 → A12 → A13 → Option ρ) → A1 → A2 → A3 → A4 → A5 → A6 → A7 → A8 → A9 → A10 → A11 → A12 → A13 → Option ρ} {a1 : A1} {a2 : A2} {a3 : A3} {a4 : A4} {a5 : A5} {a6 : A6} {a7 : A7} {a8 : A8} {a9 : A9} {a10 : A10} {a11 : A11} {a12 : A12} {a13 : A13} (I : Nat → A1 → A2 → A3 → A4 → A5 → A6 → A7 → A8 → A9 → A10 → A11 → A12 → A13 → Prop) (N : Nat) (h0 : I 0 a1 a2 a3 a4 a5 a6 a7 a8 a9 a10 a11 a12 a13) (hs : ∀ i, i < N → ∀ x1 x2 x3 x4 x5 x6 x7 x8 x9 x10 x11 x12 x13, I i x1 x2 x3 x4 x5 x6 x7 x8 x9 x10 x11 x12 x13 → ∃ y1 y2 y3 y4 y5 y6 y7 y8 y9 y10 y11 y12 y13, I (i + 1) y1 y2 y3 y4 y5 y6 y7 y8 y9 y10 y11 y12 y13 ∧ ∀ ag, F ag x1 x2 x3 x4 x5 x6 x7 x8 x9 x10 x11 x12 x13 = ag y1 y2 y3 y4 y5 y6 y7 y8 y9 y10 y11 y12 y13) (he : ∀ z1 z2 z3 z4 z5 z6 z7 z8 z9 z10 z11 z12 z13, I N z1 z2 z3 z4 z5 z6 z7 z8 z9 z10 z11 z12 z13 → ∀ ag, Φ (F ag z1 z2 z3 z4 z5 z6 z7 z8 z9 z10 z11 z12 z13)) (n : Nat) (hn : N < n) : Φ (lo13 F n a1 a2 a3 a4 a5 a6 a7 a8 a9 a10 a11 a12 a13) := by
  obtain ⟨z1, z2, z3, z4, z5, z6, z7, z8, z9, z10, z11, z12, z13, m, hz, e⟩ := lx13 (F := F) I N h0 hs n hn
  rw [e]
  exact he z1 z2 z3 z4 z5 z6 z7 z8 z9 z10 z11 z12 z13 hz _
theorem lfh13 {A1 A2 A3 A4 A5 A6 A7 A8 A9 A10 A11 A12 A13 ρ : Type} {Φ : Option ρ → Prop} {F : (A1 → A2 → A3 → A4 → A5 → A6 → A7 → A8 → A9 → A10 → A11 → A12 → A13 → Option ρ) → A1 → A2 → A3 → A4 → A5 → A6 → A7 → A8 → A9 → A10 → A11 → A12 → A13 → Option ρ} {a1 : A1} {a2 : A2} {a3 : A3} {a4 : A4} {a5 : A5} {a6 : A6} {a7 : A7} {a8 : A8} {a9 : A9} {a10 : A10} {a11 : A11} {a12 : A12} {a13 : A13} (I : Nat → A1 → A2 → A3 → A4 → A5 → A6 → A7 → A8 → A9 → A10 → A11 → A12 → A13 → Prop) (Q : Nat → Bool) (N : Nat) (h0 : I 0 a1 a2 a3 a4 a5 a6 a7 a8 a9 a10 a11 a12 a13) (hs : ∀ i, i < N → Q i = false → ∀ x1 x2 x3 x4 x5 x6 x7 x8 x9 x10 x11 x12 x13, I i x1 x2 x3 x4 x5 x6 x7 x8 x9 x10 x11 x12 x13 → ∃ y1 y2 y3 y4 y5 y6 y7 y8 y9 y10 y11 y12 y13, I (i + 1) y1 y2 y3 y4 y5 y6 y7 y8 y9 y10 y11 y12 y13 ∧ ∀ ag, F ag x1 x2 x3 x4 x5 x6 x7 x8 x9 x10 x11 x12 x13 = ag y1 y2 y3 y4 y5 y6 y7 y8 y9 y10 y11 y12 y13) (hq : ∀ i, i < N → Q i = true → ff Q N 0 = some i → ∀ z1 z2 z3 z4 z5 z6 z7 z8 z9 z10 z11 z12 z13, I i z1 z2 z3 z4 z5 z6 z7 z8 z9 z10 z11 z12 z13 → ∀ ag, Φ (F ag z1 z2 z3 z4 z5 z6 z7 z8 z9 z10 z11 z12 z13)) (he : ff Q N 0 = none → ∀ z1 z2 z3 z4 z5 z6 z7 z8 z9 z10 z11 z12 z13, I N z1 z2 z3 z4 z5 z6 z7 z8 z9 z10 z11 z12 z13 → ∀ ag, Φ (F ag z1 z2 z3 z4 z5 z6 z7 z8 z9 z10 z11 z12 z13)) (n : Nat) (hn : N < n) : Φ (lo13 F n a1 a2 a3 a4 a5 a6 a7 a8 a9 a10 a11 a12 a13) := by
  cases e : ff Q N 0 with
  | none => exact lph13 I N h0 (fun i hi => hs i hi (ff_none e i (Nat.zero_le _) (by omega))) (he e) n hn
  | some q =>
    obtain ⟨-, h2, h3, h4⟩ := ff_some e
    exact lph13 I q h0 (fun i hi => hs i (by omega) (h4 i (Nat.zero_le _) hi)) (hq q (by omega) h3 e) n (by omega)
theorem lx14 {A1 A2 A3 A4 A5 A6 A7 A8 A9 A10 A11 A12 A13 A14 ρ : Type} {F : (A1 → A2 → A3 → A4 → A5 → A6 → A7 → A8 → A9 → A10 → A11 → A12 → A13 → A14 → Option ρ) → A1 → A2 → A3 → A4 → A5 → A6 → A7 → A8 → A9 → A10 → A11 → A12 → A13 → A14 → Option ρ} {a1 : A1} {a2 : A2} {a3 : A3} {a4 : A4} {a5 : A5} {a6 : A6} {a7 : A7} {a8 : A8} {a9 : A9} {a10 : A10} {a11 : A11} {a12 : A12} {a13 : A13} {a14 : A14} (I : Nat → A1 → A2 → A3 → A4 → A5 → A6 → A7 → A8 → A9 → A10 → A11 → A12 → A13 → A14 → Prop) (N : Nat) (h0 : I 0 a1 a2 a3 a4 a5 a6 a7 a8 a9 a10 a11 a12 a13 a14) (hs : ∀ i, i < N → ∀ x1 x2 x3 x4 x5 x6 x7 x8 x9 x10 x11 x12 x13 x14, I i x1 x2 x3 x4 x5 x6 x7 x8 x9 x10 x11 x12 x13 x14 → ∃ y1 y2 y3 y4 y5 y6 y7 y8 y9 y10 y11 y12 y13 y14, I (i + 1) y1 y2 y3 y4 y5 y6 y7 y8 y9 y10 y11 y12 y13 y14 ∧ ∀ ag, F ag x1 x2 x3 x4 x5 x6 x7 x8 x9 x10 x11 x12 x13 x14 = ag y1 y2 y3 y4 y5 y6 y7 y8 y9 y10 y11 y12 y13 y14) (n : Nat) (hn : N < n) : ∃ z1 z2 z3 z4 z5 z6 z7 z8 z9 z10 z11 z12 z13 z14 m, I N z1 z2 z3 z4 z5 z6 z7 z8 z9 z10 z11 z12 z13 z14 ∧ lo14 F n a1 a2 a3 a4 a5 a6 a7 a8 a9 a10 a11 a12 a13 a14 = F (lo14 F m) z1 z2 z3 z4 z5 z6 z7 z8 z9 z10 z11 z12 z13 z14 := by
  have key : ∀ (m i n : Nat), i + m = N → m < n → ∀ b1 b2 b3 b4 b5 b6 b7 b8 b9 b10 b11 b12 b13 b14, I i b1 b2 b3 b4 b5 b6 b7 b8 b9 b10 b11 b12 b13 b14 → ∃ z1 z2 z3 z4 z5 z6 z7 z8 z9 z10 z11 z12 z13 z14 m, I N z1 z2 z3 z4 z5 z6 z7 z8 z9 z10 z11 z12 z13 z14 ∧ lo14 F n b1 b2 b3 b4 b5 b6 b7 b8 b9 b10 b11 b12 b13 b14 = F (lo14 F m) z1 z2 z3 z4 z5 z6 z7 z8 z9 z10 z11 z12 z13 z14 := by
    intro m
    induction m with
    | zero =>
      intro i n hi hn b1 b2 b3 b4 b5 b6 b7 b8 b9 b10 b11 b12 b13 b14 hb
      have : i = N := by omega
      subst this
      cases n with
      | zero => exact absurd hn (by omega)
      | succ n => exact ⟨b1, b2, b3, b4, b5, b6, b7, b8, b9, b10, b11, b12, b13, b14, n, hb, rfl⟩
    | succ m ih =>
      intro i n hi hn b1 b2 b3 b4 b5 b6 b7 b8 b9 b10 b11 b12 b13 b14 hb
      cases n with
      | zero => exact absurd hn (by omega)
      | succ n =>
        obtain ⟨y1, y2, y3, y4, y5, y6, y7, y8, y9, y10, y11, y12, y13, y14, hy, e⟩ := hs i (by omega) b1 b2 b3 b4 b5 b6 b7 b8 b9 b10 b11 b12 b13 b14 hb
        obtain ⟨z1, z2, z3, z4, z5, z6, z7, z8, z9, z10, z11, z12, z13, z14, w, hz, e2⟩ := ih (i + 1) n (by omega) (by omega) y1 y2 y3 y4 y5 y6 y7 y8 y9 y10 y11 y12 y13 y14 hy
        refine ⟨z1, z2, z3, z4, z5, z6, z7, z8, z9, z10, z11, z12, z13, z14, w, hz, ?_⟩
        show F (lo14 F n) b1 b2 b3 b4 b5 b6 b7 b8 b9 b10 b11 b12 b13 b14 = _
        rw [e]
        exact e2
  exact key N 0 n (by omega) hn a1 a2 a3 a4 a5 a6 a7 a8 a9 a10 a11 a12 a13 a14 h0
theorem lph14 {A1 A2 A3 A4 A5 A6 A7 A8 A9 A10 A11 A12 A13 A14 ρ : Type} {Φ : Option ρ → Prop} {F : (A1 → A2 → A3 → A4 → A5 → A6 → A7 → A8 → A9 → A10 → A11 → A12 → A13 → A14 → Option ρ) → A1 → A2 → A3 → A4 → A5 → A6 → A7 → A8 → A9 → A10 → A11 → A12 → A13 → A14 → Option ρ} {a1 : A1} {a2 : A2} {a3 : A3} {a4 : A4} {a5 : A5} {a6 : A6} {a7 : A7} {a8 : A8} {a9 : A9} {a10 : A10} {a11 : A11} {a12 : A12} {a13 : A13} {a14 : A14} (I : Nat → A1 → A2 → A3 → A4 → A5 → A6 → A7 → A8 → A9 → A10 → A11 → A12 → A13 → A14 → Prop) (N : Nat) (h0 : I 0 a1 a2 a3 a4 a5 a6 a7 a8 a9 a10 a11 a12 a13 a14) (hs : ∀ i, i < N → ∀ x1 x2 x3 x4 x5 x6 x7 x8 x9 x10 x11 x12 x13 x14, I i x1 x2 x3 x4 x5 x6 x7 x8 x9 x10 x11 x12 x13 x14 → ∃ y1 y2 y3 y4 y5 y6 y7 y8 y9 y10 y11 y12 y13 y14, I (i + 1) y1 y2 y3 y4 y5 y6 y7 y8 y9 y10 y11 y12 y13 y14 ∧ ∀ ag, F ag x1 x2 x3 x4 x5 x6 x7 x8 x9 x10 x11 x12 x13 x14 = ag y1 y2 y3 y4 y5 y6 y7 y8 y9 y10 y11 y12 y13 y14) (he : ∀ z1 z2 z3 z4 z5 z6 z7 z8 z9 z10 z11 z12 z13 z14, I N z1 z2 z3 z4 z5 z6 z7 z8 z9 z10 z11 z12 z13 z14 → ∀ ag, Φ (F ag z1 z2 z3 z4 z5 z6 z7 z8 z9 z10 z11 z12 z13 z14)) (n : Nat) (hn : N < n) : Φ (lo14 F n a1 a2 a3 a4 a5 a6 a7 a8 a9 a10 a11 a12 a13 a14) := by
  obtain ⟨z1, z2, z3, z4, z5, z6, z7, z8, z9, z10, z11, z12, z13, z14, m, hz, e⟩ := lx14 (F := F) I N h0 hs n hn
  rw [e]
  exact he z1 z2 z3 z4 z5 z6 z7 z8 z9 z10 z11 z12 z13 z14 hz _
theorem lfh14 {A1 A2 A3 A4 A5 A6 A7 A8 A9 A10 A11 A12 A13 A14 ρ : Type} {Φ : Option ρ → Prop} {F : (A1 → A2 → A3 → A4 → A5 → A6 → A7 → A8 → A9 → A10 → A11 → A12 → A13 → A14 → Option ρ) → A1 → A2 → A3 → A4 → A5 → A6 → A7 → A8 → A9 → A10 → A11 → A12 → A13 → A14 → Option ρ} {a1 : A1} {a2 : A2} {a3 : A3} {a4 : A4} {a5 : A5} {a6 : A6} {a7 : A7} {a8 : A8} {a9 : A9} {a10 : A10} {a11 : A11} {a12 : A12} {a13 : A13} {a14 : A14} (I : Nat → A1 → A2 → A3 → A4 → A5 → A6 → A7 → A8 → A9 → A10 → A11 → A12 → A13 → A14 → Prop) (Q : Nat → Bool) (N : Nat) (h0 : I 0 a1 a2 a3 a4 a5 a6 a7 a8 a9 a10 a11 a12 a13 a14) (hs : ∀ i, i < N → Q i = false → ∀ x1 x2 x3 x4 x5 x6 x7 x8 x9 x10 x11 x12 x13 x14, I i x1 x2 x3 x4 x5 x6 x7 x8 x9 x10 x11 x12 x13 x14 → ∃ y1 y2 y3 y4 y5 y6 y7 y8 y9 y10 y11 y12 y13 y14, I (i + 1) y1 y2 y3 y4 y5 y6 y7 y8 y9 y10 y11 y12 y13 y14 ∧ ∀ ag, F ag x1 x2 x3 x4 x5 x6 x7 x8 x9 x10 x11 x12 x13 x14 = ag y1 y2 y3 y4 y5 y6 y7 y8 y9 y10 y11 y12 y13 y14) (hq : ∀ i, i < N → Q i = true → ff Q N 0 = some i → ∀ z1 z2 z3 z4 z5 z6 z7 z8 z9 z10 z11 z12 z13 z14, I i z1 z2 z3 z4 z5 z6 z7 z8 z9 z10 z11 z12 z13 z14 → ∀ ag, Φ (F ag z1 z2 z3 z4 z5 z6 z7 z8 z9 z10 z11 z12 z13 z14)) (he : ff Q N 0 = none → ∀ z1 z2 z3 z4 z5 z6 z7 z8 z9 z10 z11 z12 z13 z14, I N z1 z2 z3 z4 z5 z6 z7 z8 z9 z10 z11 z12 z13 z14 → ∀ ag, Φ (F ag z1 z2 z3 z4 z5 z6 z7 z8 z9 z10 z11 z12 z13 z14)) (n : Nat) (hn : N < n) : Φ (lo14 F n a1 a2 a3 a4 a5 a6 a7 a8 a9 a10 a11 a12 a13 a14) := by
  cases e : ff Q N 0 with
  | none => exact lph14 I N h0 (fun i hi => hs i hi (ff_none e i (Nat.zero_le _) (by omega))) (he e) n hn
  | some q =>
    obtain ⟨-, h2, h3, h4⟩ := ff_some e
    exact lph14 I q h0 (fun i hi => hs i (by omega) (h4 i (Nat.zero_le _) hi)) (hq q (by omega) h3 e) n (by omega)
theorem lx15 {A1 A2 A3 A4 A5 A6 A7 A8 A9 A10 A11 A12 A13 A14 A15 ρ : Type} {F : (A1 → A2 → A3 → A4 → A5 → A6 → A7 → A8 → A9 → A10 → A11 → A12 → A13 → A14 → A15 → Option ρ) → A1 → A2 → A3 → A4 → A5 → A6 → A7 → A8 → A9 → A10 → A11 → A12 → A13 → A14 → A15 → Option ρ} {a1 : A1} {a2 : A2} {a3 : A3} {a4 : A4} {a5 : A5} {a6 : A6} {a7 : A7} {a8 : A8} {a9 : A9} {a10 : A10} {a11 : A11} {a12 : A12} {a13 : A13} {a14 : A14} {a15 : A15} (I : Nat → A1 → A2 → A3 → A4 → A5 → A6 → A7 → A8 → A9 → A10 → A11 → A12 → A13 → A14 → A15 → Prop) (N : Nat) (h0 : I 0 a1 a2 a3 a4 a5 a6 a7 a8 a9 a10 a11 a12 a13 a14 a15) (hs : ∀ i, i < N → ∀ x1 x2 x3 x4 x5 x6 x7 x8 x9 x10 x11 x12 x13 x14 x15, I i x1 x2 x3 x4 x5 x6 x7 x8 x9 x10 x11 x12 x13 x14 x15 → ∃ y1 y2 y3 y4 y5 y6 y7 y8 y9 y10 y11 y12 y13 y14 y15, I (i + 1) y1 y2 y3 y4 y5 y6 y7 y8 y9 y10 y11 y12 y13 y14 y15 ∧ ∀ ag, F ag x1 x2 x3 x4 x5 x6 x7 x8 x9 x10 x11 x12 x13 x14 x15 = ag y1 y2 y3 y4 y5 y6 y7 y8 y9 y10 y11 y12 y13 y14 y15) (n : Nat) (hn : N < n) : ∃ z1 z2 z3 z4 z5 z6 z7 z8 z9 z10 z11 z12 z13 z14 z15 m, I N z1 z2 z3 z4 z5 z6 z7 z8 z9 z10 z11 z12 z13 z14 z15 ∧ lo15 F n a1 a2 a3 a4 a5 a6 a7 a8 a9 a10 a11 a12 a13 a14 a15 = F (lo15 F m) z1 z2 z3 z4 z5 z6 z7 z8 z9 z10 z11 z12 z13 z14 z15 := by
  have key : ∀ (m i n : Nat), i + m = N → m < n → ∀ b1 b2 b3 b4 b5 b6 b7 b8 b9 b10 b11 b12 b13 b14 b15, I i b1 b2 b3 b4 b5 b6 b7 b8 b9 b10 b11 b12 b13 b14 b15 → ∃ z1 z2 z3 z4 z5 z6 z7 z8 z9 z10 z11 z12 z13 z14 z15 m, I N z1 z2 z3 z4 z5 z6 z7 z8 z9 z10 z11 z12 z13 z14 z15 ∧ lo15 F n b1 b2 b3 b4 b5 b6 b7 b8 b9 b10 b11 b12 b13 b14 b15 = F (lo15 F m) z1 z2 z3 z4 z5 z6 z7 z8 z9 z10 z11 z12 z13 z14 z15 := by
    intro m
    induction m with
    | zero =>
      intro i n hi hn b1 b2 b3 b4 b5 b6 b7 b8 b9 b10 b11 b12 b13 b14 b15 hb
      have : i = N := by omega
      subst this
      cases n with
      | zero => exact absurd hn (by omega)
      | succ n => exact ⟨b1, b2, b3, b4, b5, b6, b7, b8, b9, b10, b11, b12, b13, b14, b15, n, hb, rfl⟩
    | succ m ih =>
      intro i n hi hn b1 b2 b3 b4 b5 b6 b7 b8 b9 b10 b11 b12 b13 b14 b15 hb
      cases n with
      | zero => exact absurd hn (by omega)
      | succ n =>
        obtain ⟨y1, y2, y3, y4, y5, y6, y7, y8, y9, y10, y11, y12, y13, y14, y15, hy, e⟩ := hs i (by omega) b1 b2 b3 b4 b5 b6 b7 b8 b9 b10 b11 b12 b13 b14 b15 hb
        obtain ⟨z1, z2, z3, z4, z5, z6, z7, z8, z9, z10, z11, z12, z13, z14, z15, w, hz, e2⟩ := ih (i + 1) n (by omega) (by omega) y1 y2 y3 y4 y5 y6 y7 y8 y9 y10 y11 y12 y13 y14 y15 hy
        refine ⟨z1, z2, z3, z4, z5, z6, z7, z8, z9, z10, z11, z12, z13, z14, z15, w, hz, ?_⟩
        show F (lo15 F n) b1 b2 b3 b4 b5 b6 b7 b8 b9 b10 b11 b12 b13 b14 b15 = _
        rw [e]
        exact e2
  exact key N 0 n (by omega) hn a1 a2 a3 a4 a5 a6 a7 a8 a9 a10 a11 a12 a13 a14 a15 h0
theorem lph15 {A1 A2 A3 A4 A5 A6 A7 A8 A9 A10 A11 A12 A13 A14 A15 ρ : Type} {Φ : Option ρ → Prop} {F : (A1 → A2 → A3 → A4 → A5 → A6 → A7 → A8 → A9 → A10 → A11 → A12 → A13 → A14 → A15 → Option ρ) → A1 → A2 → A3 → A4 → A5 → A6 → A7 → A8 → A9 → A10 → A11 → A12 → A13 → A14 → A15 → Option ρ} {a1 : A1} {a2 : A2} {a3 : A3} {a4 : A4} {a5 : A5} {a6 : A6} {a7 : A7} {a8 : A8} {a9 : A9} {a10 : A10} {a11 : A11} {a12 : A12} {a13 : A13} {a14 : A14} {a15 : A15} (I : Nat → A1 → A2 → A3 → A4 → A5 → A6 → A7 → A8 → A9 → A10 → A11 → A12 → A13 → A14 → A15 → Prop) (N : Nat) (h0 : I 0 a1 a2 a3 a4 a5 a6 a7 a8 a9 a10 a11 a12 a13 a14 a15) (hs : ∀ i, i < N → ∀ x1 x2 x3 x4 x5 x6 x7 x8 x9 x10 x11 x12 x13 x14 x15, I i x1 x2 x3 x4 x5 x6 x7 x8 x9 x10 x11 x12 x13 x14 x15 → ∃ y1 y2 y3 y4 y5 y6 y7 y8 y9 y10 y11 y12 y13 y14 y15, I (i + 1) y1 y2 y3 y4 y5 y6 y7 y8 y9 y10 y11 y12 y13 y14 y15 ∧ ∀ ag, F ag x1 x2 x3 x4 x5 x6 x7 x8 x9 x10 x11 x12 x13 x14 x15 = ag y1 y2 y3 y4 y5 y6 y7 y8 y9 y10 y11 y12 y13 y14 y15) (he : ∀ z1 z2 z3 z4 z5 z6 z7 z8 z9 z10 z11 z12 z13 z14 z15, I N z1 z2 z3 z4 z5 z6 z7 z8 z9 z10 z11 z12 z13 z14 z15 → ∀ ag, Φ (F ag z1 z2 z3 z4 z5 z6 z7 z8 z9 z10 z11 z12 z13 z14 z15)) (n : Nat) (hn : N < n) : Φ (lo15 F n a1 a2 a3 a4 a5 a6 a7 a8 a9 a10 a11 a12 a13 a14 a15) := by
  obtain ⟨z1, z2, z3, z4, z5, z6, z7, z8, z9, z10, z11, z12, z13, z14, z15, m, hz, e⟩ := lx15 (F := F) I N h0 hs n hn
  rw [e]
  exact he z1 z2 z3 z4 z5 z6 z7 z8 z9 z10 z11 z12 z13 z14 z15 hz _
theorem lfh15 {A1 A2 A3 A4 A5 A6 A7 A8 A9 A10 A11 A12 A13 A14 A15 ρ : Type} {Φ : Option ρ → Prop} {F : (A1 → A2 → A3 → A4 → A5 → A6 → A7 → A8 → A9 → A10 → A11 → A12 → A13 → A14 → A15 → Option ρ) → A1 → A2 → A3 → A4 → A5 → A6 → A7 → A8 → A9 → A10 → A11 → A12 → A13 → A14 → A15 → Option ρ} {a1 : A1} {a2 : A2} {a3 : A3} {a4 : A4} {a5 : A5} {a6 : A6} {a7 : A7} {a8 : A8} {a9 : A9} {a10 : A10} {a11 : A11} {a12 : A12} {a13 : A13} {a14 : A14} {a15 : A15} (I : Nat → A1 → A2 → A3 → A4 → A5 → A6 → A7 → A8 → A9 → A10 → A11 → A12 → A13 → A14 → A15 → Prop) (Q : Nat → Bool) (N : Nat) (h0 : I 0 a1 a2 a3 a4 a5 a6 a7 a8 a9 a10 a11 a12 a13 a14 a15) (hs : ∀ i, i < N → Q i = false → ∀ x1 x2 x3 x4 x5 x6 x7 x8 x9 x10 x11 x12 x13 x14 x15, I i x1 x2 x3 x4 x5 x6 x7 x8 x9 x10 x11 x12 x13 x14 x15 → ∃ y1 y2 y3 y4 y5 y6 y7 y8 y9 y10 y11 y12 y13 y14 y15, I (i + 1) y1 y2 y3 y4 y5 y6 y7 y8 y9 y10 y11 y12 y13 y14 y15 ∧ ∀ ag, F ag x1 x2 x3 x4 x5 x6 x7 x8 x9 x10 x11 x12 x13 x14 x15 = ag y1 y2 y3 y4 y5 y6 y7 y8 y9 y10 y11 y12 y13 y14 y15) (hq : ∀ i, i < N → Q i = true → ff Q N 0 = some i → ∀ z1 z2 z3 z4 z5 z6 z7 z8 z9 z10 z11 z12 z13 z14 z15, I i z1 z2 z3 z4 z5 z6 z7 z8 z9 z10 z11 z12 z13 z14 z15 → ∀ ag, Φ (F ag z1 z2 z3 z4 z5 z6 z7 z8 z9 z10 z11 z12 z13 z14 z15)) (he : ff Q N 0 = none → ∀ z1 z2 z3 z4 z5 z6 z7 z8 z9 z10 z11 z12 z13 z14 z15, I N z1 z2 z3 z4 z5 z6 z7 z8 z9 z10 z11 z12 z13 z14 z15 → ∀ ag, Φ (F ag z1 z2 z3 z4 z5 z6 z7 z8 z9 z10 z11 z12 z13 z14 z15)) (n : Nat) (hn : N < n) : Φ (lo15 F n a1 a2 a3 a4 a5 a6 a7 a8 a9 a10 a11 a12 a13 a14 a15) := by
  cases e : ff Q N 0 with
  | none => exact lph15 I N h0 (fun i hi => hs i hi (ff_none e i (Nat.zero_le _) (by omega))) (he e) n hn
  | some q =>
    obtain ⟨-, h2, h3, h4⟩ := ff_some e
    exact lph15 I q h0 (fun i hi => hs i (by omega) (h4 i (Nat.zero_le _) hi)) (hq q (by omega) h3 e) n (by omega)
theorem lx16 {A1 A2 A3 A4 A5 A6 A7 A8 A9 A10 A11 A12 A13 A14 A15 A16 ρ : Type} {F : (A1 → A2 → A3 → A4 → A5 → A6 → A7 → A8 → A9 → A10 → A11 → A12 → A13 → A14 → A15 → A16 → Option ρ) → A1 → A2 → A3 → A4 → A5 → A6 → A7 → A8 → A9 → A10 → A11 → A12 → A13 → A14 → A15 → A16 → Option ρ} {a1 : A1} {a2 : A2} {a3 : A3} {a4 : A4} {a5 : A5} {a6 : A6} {a7 : A7} {a8 : A8} {a9 : A9} {a10 : A10} {a11 : A11} {a12 : A12} {a13 : A13} {a14 : A14} {a15 : A15} {a16 : A16} (I : Nat → A1 → A2 → A3 → A4 → A5 → A6 → A7 → A8 → A9 → A10 → A11 → A12 → A13 → A14 → A15 → A16 → Prop) (N : Nat) (h0 : I 0 a1 a2 a3 a4 a5 a6 a7 a8 a9 a10 a11 a12 a13 a14 a15 a16) (hs : ∀ i, i < N → ∀ x1 x2 x3 x4 x5 x6 x7 x8 x9 x10 x11 x12 x13 x14 x15 x16, I i x1 x2 x3 x4 x5 x6 x7 x8 x9 x10 x11 x12 x13 x14 x15 x16 → ∃ y1 y2 y3 y4 y5 y6 y7 y8 y9 y10 y11 y12 y13 y14 y15 y16, I (i + 1) y1 y2 y3 y4 y5 y6 y7 y8 y9 y10 y11 y12 y13 y14 y15 y16 ∧ ∀ ag, F ag x1 x2 x3 x4 x5 x6 x7 x8 x9 x10 x11 x12 x13 x14 x15 x16 = ag y1 y2 y3 y4 y5 y6 y7 y8 y9 y10 y11 y12 y13 y14 y15 y16) (n : Nat) (hn : N < n) : ∃ z1 z2 z3 z4 z5 z6 z7 z8 z9 z10 z11 z12 z13 z14 z15 z16 m, I N z1 z2 z3 z4 z5 z6 z7 z8 z9 z10 z11 z12 z13 z14 z15 z16 ∧ lo16 F n a1 a2 a3 a4 a5 a6 a7 a8 a9 a10 a11 a12 a13 a14 a15 a16 = F (lo16 F m) z1 z2 z3 z4 z5 z6 z7 z8 z9 z10 z11 z12 z13 z14 z15 z16 := by
  have key : ∀ (m i n : Nat), i + m = N → m < n → ∀ b1 b2 b3 b4 b5 b6 b7 b8 b9 b10 b11 b12 b13 b14 b15 b16, I i b1 b2 b3 b4 b5 b6 b7 b8 b9 b10 b11 b12 b13 b14 b15 b16 → ∃ z1 z2 z3 z4 z5 z6 z7 z8 z9 z10 z11 z12 z13 z14 z15 z16 m, I N z1 z2 z3 z4 z5 z6 z7 z8 z9 z10 z11 z12 z13 z14 z15 z16 ∧ lo16 F n b1 b2 b3 b4 b5 b6 b7 b8 b9 b10 b11 b12 b13 b14 b15 b16 = F (lo16 F m) z1 z2 z3 z4 z5 z6 z7 z8 z9 z10 z11 z12 z13 z14 z15 z16 := by
    intro m
    induction m with
    | zero =>
      intro i n hi hn b1 b2 b3 b4 b5 b6 b7 b8 b9 b10 b11 b12 b13 b14 b15 b16 hb
      have : i = N := by omega
      subst this
      cases n with
      | zero => exact absurd hn (by omega)
      | succ n => exact ⟨b1, b2, b3, b4, b5, b6, b7, b8, b9, b10, b11, b12, b13, b14, b15, b16, n, hb, rfl⟩
    | succ m ih =>
      intro i n hi hn b1 b2 b3 b4 b5 b6 b7 b8 b9 b10 b11 b12 b13 b14 b15 b16 hb
      cases n with
      | zero => exact absurd hn (by omega)
      | succ n =>
        obtain ⟨y1, y2, y3, y4, y5, y6, y7, y8, y9, y10, y11, y12, y13, y14, y15, y16, hy, e⟩ := hs i (by omega) b1 b2 b3 b4 b5 b6 b7 b8 b9 b10 b11 b12 b13 b14 b15 b16 hb
        obtain ⟨z1, z2, z3, z4, z5, z6, z7, z8, z9, z10, z11, z12, z13, z14, z15, z16, w, hz, e2⟩ := ih (i + 1) n (by omega) (by omega) y1 y2 y3 y4 y5 y6 y7 y8 y9 y10 y11 y12 y13 y14 y15 y16 hy
        refine ⟨z1, z2, z3, z4, z5, z6, z7, z8, z9, z10, z11, z12, z13, z14, z15, z16, w, hz, ?_⟩
        show F (lo16 F n) b1 b2 b3 b4 b5 b6 b7 b8 b9 b10 b11 b12 b13 b14 b15 b16 = _
        rw [e]
        exact e2
  exact key N 0 n (by omega) hn a1 a2 a3 a4 a5 a6 a7 a8 a9 a10 a11 a12 a13 a14 a15 a16 h0
theorem lph16 {A1 A2 A3 A4 A5 A6 A7 A8 A9 A10 A11 A12 A13 A14 A15 A16 ρ : Type} {Φ : Option ρ → Prop} {F : (A1 → A2 → A3 → A4 → A5 → A6 → A7 → A8 → A9 → A10 → A11 → A12 → A13 → A14 → A15 → A16 → Option ρ) → A1 → A2 → A3 → A4 → A5 → A6 → A7 → A8 → A9 → A10 → A11 → A12 → A13 → A14 → A15 → A16 → Option ρ} {a1 : A1} {a2 : A2} {a3 : A3} {a4 : A4} {a5 : A5} {a6 : A6} {a7 : A7} {a8 : A8} {a9 : A9} {a10 : A10} {a11 : A11} {a12 : A12} {a13 : A13} {a14 : A14} {a15 : A15} {a16 : A16} (I : Nat → A1 → A2 → A3 → A4 → A5 → A6 → A7 → A8 → A9 → A10 → A11 → A12 → A13 → A14 → A15 → A16 → Prop) (N : Nat) (h0 : I 0 a1 a2 a3 a4 a5 a6 a7 a8 a9 a10 a11 a12 a13 a14 a15 a16) (hs : ∀ i, i < N → ∀ x1 x2 x3 x4 x5 x6 x7 x8 x9 x10 x11 x12 x13 x14 x15 x16, I i x1 x2 x3 x4 x5 x6 x7 x8 x9 x10 x11 x12 x13 x14 x15 x16 → ∃ y1 y2 y3 y4 y5 y6 y7 y8 y9 y10 y11 y12 y13 y14 y15 y16, I (i + 1) y1 y2 y3 y4 y5 y6 y7 y8 y9 y10 y11 y12 y13 y14 y15 y16 ∧ ∀ ag, F ag x1 x2 x3 x4 x5 x6 x7 x8 x9 x10 x11 x12 x13 x14 x15 x16 = ag y1 y2 y3 y4 y5 y6 y7 y8 y9 y10 y11 y12 y13 y14 y15 y16) (he : ∀ z1 z2 z3 z4 z5 z6 z7 z8 z9 z10 z11 z12 z13 z14 z15 z16, I N z1 z2 z3 z4 z5 z6 z7 z8 z9 z10 z11 z12 z13 z14 z15 z16 → ∀ ag, Φ (F ag z1 z2 z3 z4 z5 z6 z7 z8 z9 z10 z11 z12 z13 z14 z15 z16)) (n : Nat) (hn : N < n) : Φ (lo16 F n a1 a2 a3 a4 a5 a6 a7 a8 a9 a10 a11 a12 a13 a14 a15 a16) := by
  obtain ⟨z1, z2, z3, z4, z5, z6, z7, z8, z9, z10, z11, z12, z13, z14, z15, z16, m, hz, e⟩ := lx16 (F := F) I N h0 hs n hn
  rw [e]
  exact he z1 z2 z3 z4 z5 z6 z7 z8 z9 z10 z11 z12 z13 z14 z15 z16 hz _
theorem lfh16 {A1 A2 A3 A4 A5 A6 A7 A8 A9 A10 A11 A12 A13 A14 A15 A16 ρ : Type} {Φ : Option ρ → Prop} {F : (A1 → A2 → A3 → A4 → A5 → A6 → A7 → A8 → A9 → A10 → A11 → A12 → A13 → A14 → A15 → A16 → Option ρ) → A1 → A2 → A3 → A4 → A5 → A6 → A7 → A8 → A9 → A10 → A11 → A12 → A13 → A14 → A15 → A16 → Option ρ} {a1 : A1} {a2 : A2} {a3 : A3} {a4 : A4} {a5 : A5} {a6 : A6} {a7 : A7} {a8 : A8} {a9 : A9} {a10 : A10} {a11 : A11} {a12 : A12} {a13 : A13} {a14 : A14} {a15 : A15} {a16 : A16} (I : Nat → A1 → A2 → A3 → A4 → A5 → A6 → A7 → A8 → A9 → A10 → A11 → A12 → A13 → A14 → A15 → A16 → Prop) (Q : Nat → Bool) (N : Nat) (h0 : I 0 a1 a2 a3 a4 a5 a6 a7 a8 a9 a10 a11 a12 a13 a14 a15 a16) (hs : ∀ i, i < N → Q i = false → ∀ x1 x2 x3 x4 x5 x6 x7 x8 x9 x10 x11 x12 x13 x14 x15 x16, I i x1 x2 x3 x4 x5 x6 x7 x8 x9 x10 x11 x12 x13 x14 x15 x16 → ∃ y1 y2 y3 y4 y5 y6 y7 y8 y9 y10 y11 y12 y13 y14 y15 y16, I (i + 1) y1 y2 y3 y4 y5 y6 y7 y8 y9 y10 y11 y12 y13 y14 y15 y16 ∧ ∀ ag, F ag x1 x2 x3 x4 x5 x6 x7 x8 x9 x10 x11 x12 x13 x14 x15 x16 = ag y1 y2 y3 y4 y5 y6 y7 y8 y9 y10 y11 y12 y13 y14 y15 y16) (hq : ∀ i, i < N → Q i = true → ff Q N 0 = some i → ∀ z1 z2 z3 z4 z5 z6 z7 z8 z9 z10 z11 z12 z13 z14 z15 z16, I i z1 z2 z3 z4 z5 z6 z7 z8 z9 z10 z11 z12 z13 z14 z15 z16 → ∀ ag, Φ (F ag z1 z2 z3 z4 z5 z6 z7 z8 z9 z10 z11 z12 z13 z14 z15 z16)) (he : ff Q N 0 = none → ∀ z1 z2 z3 z4 z5 z6 z7 z8 z9 z10 z11 z12 z13 z14 z15 z16, I N z1 z2 z3 z4 z5 z6 z7 z8 z9 z10 z11 z12 z13 z14 z15 z16 → ∀ ag, Φ (F ag z1 z2 z3 z4 z5 z6 z7 z8 z9 z10 z11 z12 z13 z14 z15 z16)) (n : Nat) (hn : N < n) : Φ (lo16 F n a1 a2 a3 a4 a5 a6 a7 a8 a9 a10 a11 a12 a13 a14 a15 a16) := by
  cases e : ff Q N 0 with
  | none => exact lph16 I N h0 (fun i hi => hs i hi (ff_none e i (Nat.zero_le _) (by omega))) (he e) n hn
  | some q =>
    obtain ⟨-, h2, h3, h4⟩ := ff_some e
    exact lph16 I q h0 (fun i hi => hs i (by omega) (h4 i (Nat.zero_le _) hi)) (hq q (by omega) h3 e) n (by omega)
