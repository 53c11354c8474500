/-! ===== a new way ===== -/
theorem Cn.mono {W W' : Nat → Nat} {x y : Nat} (h : ∀ i j, (W i).testBit j = true → (W' i).testBit j = true) (c : Cn W x y) : Cn W' x y :=
  Cn.ind (Q := fun y => Cn W' x y) (Cn.rfl' _ _) (fun y z hy _ q e => q.edge hy (h y z e)) c
theorem Cn_swt {W : Nat → Nat} {p q x y : Nat} (hpq : p ≠ q) (hp : p < 12) (hq : q < 12) : Cn (swt W p q) x y ↔ Cn W x y ∨ (Cn W x p ∧ Cn W q y) ∨ (Cn W x q ∧ Cn W p y) := by
  constructor
  · intro c
    refine Cn.ind (Q := fun y => Cn W x y ∨ (Cn W x p ∧ Cn W q y) ∨ (Cn W x q ∧ Cn W p y)) (Or.inl (Cn.rfl' _ _)) (fun y z hy _ hQ e => ?_) c
    rw [swt_bit hpq, Bool.or_eq_true, Bool.or_eq_true, decide_eq_true_eq, decide_eq_true_eq] at e
    rcases e with e | ⟨rfl, rfl⟩ | ⟨rfl, rfl⟩
    · rcases hQ with h | ⟨h1, h2⟩ | ⟨h1, h2⟩
      · exact Or.inl (h.edge hy e)
      · exact Or.inr (Or.inl ⟨h1, h2.edge hy e⟩)
      · exact Or.inr (Or.inr ⟨h1, h2.edge hy e⟩)
    · rcases hQ with h | ⟨h1, h2⟩ | ⟨h1, h2⟩
      · exact Or.inr (Or.inl ⟨h, Cn.rfl' _ _⟩)
      · exact Or.inr (Or.inl ⟨h1, Cn.rfl' _ _⟩)
      · exact Or.inl h1
    · rcases hQ with h | ⟨h1, h2⟩ | ⟨h1, h2⟩
      · exact Or.inr (Or.inr ⟨h, Cn.rfl' _ _⟩)
      · exact Or.inl h1
      · exact Or.inr (Or.inr ⟨h1, Cn.rfl' _ _⟩)
  · have mono : ∀ i j, (W i).testBit j = true → (swt W p q i).testBit j = true := fun i j h => by rw [swt_bit hpq, h, Bool.true_or]
    have e1 : (swt W p q p).testBit q = true := by rw [swt_bit hpq]; simp
    have e2 : (swt W p q q).testBit p = true := by rw [swt_bit hpq]; simp
    rintro (h | ⟨h1, h2⟩ | ⟨h1, h2⟩)
    · exact h.mono mono
    · exact ((h1.mono mono).edge hp e1).trans (h2.mono mono)
    · exact ((h1.mono mono).edge hq e2).trans (h2.mono mono)
theorem cnt_rem {Q : Nat → Bool} {m n : Nat} (hm : m < n) (h : Q m = true) : cnt (fun x => Q x && !(x == m)) n + 1 = cnt Q n := by
  induction n with
  | zero => omega
  | succ n ih =>
    rw [cnt_s, cnt_s]
    by_cases e : m = n
    · subst e
      have : cnt (fun x => Q x && !(x == m)) m = cnt Q m := cnt_congr (fun p hp => by
        have : (p == m) = false := by simp; omega
        rw [this]; simp)
      rw [this, h]
      simp
    · have := ih (by omega)
      have e2 : (n == m) = false := by simp; omega
      rw [e2]
      simp only [Bool.not_false, Bool.and_true]
      omega
/-- the first of a part -/
theorem low_of {W : Nat → Nat} {P p : Nat} (hW : wok P W) (hP : P ≤ 12) (hp : p < P) : ∃ a, a < P ∧ Cn W p a ∧ ∀ y, Cn W p y → a ≤ y := by
  have key : ∀ k, ∀ y, y ≤ k → Cn W p y → ∃ a, Cn W p a ∧ ∀ z, Cn W p z → a ≤ z := by
    intro k
    induction k with
    | zero => intro y hy hc; exact ⟨y, hc, fun z _ => by omega⟩
    | succ k ih =>
      intro y hy hc
      by_cases h : ∃ z, z ≤ k ∧ Cn W p z
      · obtain ⟨z, h1, h2⟩ := h
        exact ih z h1 h2
      · refine ⟨y, hc, fun z hz => ?_⟩
        apply Nat.le_of_not_lt
        intro g
        exact h ⟨z, by omega, hz⟩
  obtain ⟨a, h1, h2⟩ := key p p (Nat.le_refl _) (Cn.rfl' _ _)
  exact ⟨a, h1.lt hW hp, h1, h2⟩
theorem parts_new {W : Nat → Nat} {P p q : Nat} (hW : wok P W) (hP : P ≤ 12) (hp : p < P) (hq : q < P) (hpq : p ≠ q) : cnt (fs (swt W p q)) P = if (ds W p q).isSome then cnt (fs W) P else cnt (fs W) P - 1 := by
  have hW' := swt_wok hW hp hq hpq
  by_cases c : (ds W p q).isSome = true
  · rw [if_pos c]
    rw [ds_cn hW hP hp] at c
    apply cnt_congr
    intro x hx
    apply bool_ext
    rw [fs_iff hW' hP hx, fs_iff hW hP hx]
    have : ∀ y, Cn (swt W p q) x y ↔ Cn W x y := by
      intro y
      rw [Cn_swt hpq (by omega) (by omega)]
      constructor
      · rintro (h | ⟨h1, h2⟩ | ⟨h1, h2⟩)
        · exact h
        · exact (h1.trans c).trans h2
        · exact (h1.trans (c.symm hW hP)).trans h2
      · exact Or.inl
    constructor
    · intro h y hy g; exact h y hy ((this y).2 g)
    · intro h y hy g; exact h y hy ((this y).1 g)
  · rw [if_neg c]
    have nc : ¬ Cn W p q := fun g => c ((ds_cn hW hP hp).2 g)
    obtain ⟨a, ha, a1, a2⟩ := low_of hW hP hp
    obtain ⟨b, hb, b1, b2⟩ := low_of hW hP hq
    have hab : a ≠ b := by
      rintro rfl
      exact nc (a1.trans (b1.symm hW hP))
    have hm : ∃ m, m < P ∧ fs W m = true ∧ ∀ x, x < P → fs (swt W p q) x = (fs W x && !(x == m)) := by
      refine ⟨if a < b then b else a, ?_, ?_, ?_⟩
      · by_cases g : a < b
        · rw [if_pos g]; exact hb
        · rw [if_neg g]; exact ha
      · by_cases g : a < b
        · rw [if_pos g, fs_iff hW hP hb]
          intro y hy hc
          have := b2 y (b1.trans hc)
          omega
        · rw [if_neg g, fs_iff hW hP ha]
          intro y hy hc
          have := a2 y (a1.trans hc)
          omega
      · intro x hx
        apply bool_ext
        rw [Bool.and_eq_true, fs_iff hW' hP hx, fs_iff hW hP hx, Bool.not_eq_true', beq_eq_false_iff_ne]
        by_cases xp : Cn W x p
        · -- in p's part
          have ax := a2 x (xp.symm hW hP)
          constructor
          · intro h
            refine ⟨fun y hy g => h y hy ((Cn_swt hpq (by omega) (by omega)).2 (Or.inl g)), ?_⟩
            intro e
            by_cases g : a < b
            · rw [if_pos g] at e
              subst e
              exact nc ((b1.trans xp).symm hW hP)
            · rw [if_neg g] at e
              subst e
              exact h b (by omega) ((Cn_swt hpq (by omega) (by omega)).2 (Or.inr (Or.inl ⟨xp, b1⟩)))
          · rintro ⟨h1, h2⟩ y hy g
            have xa : x = a := by
              rcases Nat.lt_or_ge a x with l | l
              · exact absurd (xp.trans a1) (h1 a l)
              · omega
            rw [Cn_swt hpq (by omega) (by omega)] at g
            rcases g with g | ⟨g1, g2⟩ | ⟨g1, g2⟩
            · exact h1 y hy g
            · have := b2 y g2
              by_cases l : a < b
              · omega
              · rw [if_neg l] at h2; exact h2 xa
            · exact nc ((xp.symm hW hP).trans g1)
        · by_cases xq : Cn W x q
          · have bx := b2 x (xq.symm hW hP)
            constructor
            · intro h
              refine ⟨fun y hy g => h y hy ((Cn_swt hpq (by omega) (by omega)).2 (Or.inl g)), ?_⟩
              intro e
              by_cases g : a < b
              · rw [if_pos g] at e
                subst e
                exact h a (by omega) ((Cn_swt hpq (by omega) (by omega)).2 (Or.inr (Or.inr ⟨xq, a1⟩)))
              · rw [if_neg g] at e
                subst e
                exact nc (a1.trans xq)
            · rintro ⟨h1, h2⟩ y hy g
              have xb : x = b := by
                rcases Nat.lt_or_ge b x with l | l
                · exact absurd (xq.trans b1) (h1 b l)
                · omega
              rw [Cn_swt hpq (by omega) (by omega)] at g
              rcases g with g | ⟨g1, g2⟩ | ⟨g1, g2⟩
              · exact h1 y hy g
              · exact xp g1
              · have := a2 y g2
                by_cases l : a < b
                · rw [if_pos l] at h2; exact h2 xb
                · omega
          · constructor
            · intro h
              refine ⟨fun y hy g => h y hy ((Cn_swt hpq (by omega) (by omega)).2 (Or.inl g)), ?_⟩
              intro e
              by_cases g : a < b
              · rw [if_pos g] at e; subst e; exact xq (b1.symm hW hP)
              · rw [if_neg g] at e; subst e; exact xp (a1.symm hW hP)
            · rintro ⟨h1, h2⟩ y hy g
              rw [Cn_swt hpq (by omega) (by omega)] at g
              rcases g with g | ⟨g1, g2⟩ | ⟨g1, g2⟩
              · exact h1 y hy g
              · exact xp g1
              · exact xq g1
    obtain ⟨m, m1, m2, m3⟩ := hm
    rw [cnt_congr m3]
    have := cnt_rem m1 m2
    omega
theorem parts_pos {W : Nat → Nat} {P : Nat} (hP : 0 < P) : 0 < cnt (fs W) P := by
  have h0 : fs W 0 = true := rfl
  have := cnt_rem hP h0
  omega
theorem swf_swt {W : Nat → Nat} {p q : Nat} (hpq : p ≠ q) (h : (W p).testBit q = false) (h2 : (W q).testBit p = false) : swf (swt W p q) p q = W := by
  funext i
  apply Nat.eq_of_testBit_eq
  intro j
  rw [swf_bit hpq, swt_bit hpq]
  by_cases a : i = p ∧ j = q
  · obtain ⟨rfl, rfl⟩ := a
    rw [h]; simp
  · by_cases b : i = q ∧ j = p
    · obtain ⟨rfl, rfl⟩ := b
      rw [h2]; simp
    · rw [decide_eq_false a, decide_eq_false b]; simp
/-- the first pair such, row by row: in the rows before p, and the first j of row p -/
def f2 (Q : Nat → Nat → Bool) (P : Nat) : Nat → Option Nat
  | 0 => none
  | p + 1 => match f2 Q P p with
    | some c => some c
    | none => (ff (fun j => Q p (p + 1 + j)) (P - (p + 1)) 0).map (fun j => 100 * p + (p + 1 + j))
def pr (Q : Nat → Nat → Bool) (P p j : Nat) : Option Nat := match f2 Q P p with
  | some c => some c
  | none => (ff (fun j => Q p (p + 1 + j)) j 0).map (fun j => 100 * p + (p + 1 + j))
theorem pr_0 (Q : Nat → Nat → Bool) (P p : Nat) : pr Q P p 0 = f2 Q P p := by
  unfold pr
  cases f2 Q P p <;> rfl
theorem pr_end (Q : Nat → Nat → Bool) (P p : Nat) : pr Q P p (P - (p + 1)) = f2 Q P (p + 1) := by
  unfold pr
  rw [f2]
theorem pr_s (Q : Nat → Nat → Bool) (P p j : Nat) : pr Q P p (j + 1) = (match pr Q P p j with | some c => some c | none => if Q p (p + 1 + j) then some (100 * p + (p + 1 + j)) else none) := by
  unfold pr
  cases f2 Q P p with
  | some c => rfl
  | none =>
    simp only
    rw [ff_s]
    cases ff (fun j => Q p (p + 1 + j)) j 0 with
    | some r => rfl
    | none => by_cases h : Q p (p + 1 + j) = true <;> simp [h]
theorem ff_map_bd {Q : Nat → Bool} {P p j c : Nat} (hp : p < P) (hj : j ≤ P - (p + 1)) (h : (ff Q j 0).map (fun j => 100 * p + (p + 1 + j)) = some c) : c ≤ 101 * P := by
  cases e : ff Q j 0 with
  | none => rw [e] at h; cases h
  | some r =>
    have := (ff_some e).2.1
    rw [e] at h
    have h' : 100 * p + (p + 1 + r) = c := by simpa using h
    omega
theorem f2_bd {Q : Nat → Nat → Bool} {P : Nat} : ∀ p, p ≤ P → ∀ c, f2 Q P p = some c → c ≤ 101 * P := by
  intro p
  induction p with
  | zero => intro _ c h; cases h
  | succ p ih =>
    intro hp c h
    rw [f2] at h
    cases e : f2 Q P p with
    | some d =>
      rw [e] at h
      have h' : d = c := by simpa using h
      rw [← h']
      exact ih (by omega) d e
    | none =>
      rw [e] at h
      exact ff_map_bd (by omega) (Nat.le_refl _) h
theorem pr_bd {Q : Nat → Nat → Bool} {P p j c : Nat} (hp : p < P) (hj : j ≤ P - (p + 1)) (h : pr Q P p j = some c) : c ≤ 101 * P := by
  unfold pr at h
  cases e : f2 Q P p with
  | some d =>
    rw [e] at h
    have h' : d = c := by simpa using h
    rw [← h']
    exact f2_bd p (by omega) d e
  | none =>
    rw [e] at h
    exact ff_map_bd hp hj h
theorem f2_none {Q : Nat → Nat → Bool} {P p : Nat} (h : ff (fun p => (ff (fun j => Q p (p + 1 + j)) (P - (p + 1)) 0).isSome) p 0 = none) : f2 Q P p = none := by
  induction p with
  | zero => rfl
  | succ p ih =>
    rw [ff_s] at h
    cases e : ff (fun p => (ff (fun j => Q p (p + 1 + j)) (P - (p + 1)) 0).isSome) p 0 with
    | some r => rw [e] at h; cases h
    | none =>
      rw [e] at h
      rw [f2, ih e]
      cases e2 : ff (fun j => Q p (p + 1 + j)) (P - (p + 1)) 0 with
      | none => rfl
      | some r => rw [e2] at h; simp at h
theorem f2_some {Q : Nat → Nat → Bool} {P p r j : Nat} (h : ff (fun p => (ff (fun j => Q p (p + 1 + j)) (P - (p + 1)) 0).isSome) p 0 = some r) (hj : ff (fun j => Q r (r + 1 + j)) (P - (r + 1)) 0 = some j) : f2 Q P p = some (100 * r + (r + 1 + j)) := by
  induction p with
  | zero => cases h
  | succ p ih =>
    rw [ff_s] at h
    cases e : ff (fun p => (ff (fun j => Q p (p + 1 + j)) (P - (p + 1)) 0).isSome) p 0 with
    | some r' =>
      rw [e] at h
      have h' : r' = r := by simpa using h
      subst h'
      rw [f2, ih e]
    | none =>
      rw [e] at h
      by_cases g : (ff (fun j => Q p (p + 1 + j)) (P - (p + 1)) 0).isSome = true
      · simp only [g, if_true] at h
        have h' : p = r := by simpa using h
        subst h'
        rw [f2, f2_none e, hj]
        rfl
      · simp only [g] at h
        cases h
theorem dv_no {o : Option Nat} (h : ∀ c, o = some c → c ≤ 100000) : (dv o = (-1 : Int32)) = (o = none) := by
  cases o with
  | none => simp [dv]
  | some k =>
    have := n_neg1 (k := k) (h k rfl)
    show (nI k = (-1 : Int32)) = _
    rw [this]; simp
theorem n_code (p q : Nat) : ((100 : Int32) * nI p) + nI q = nI (100 * p + q) := by
  rw [show (100 : Int32) * nI p = nI (100 * p) from pk_mul 100 p, nI_add]
def cmb (a b : Option Nat) : Option Nat := match a with
  | some c => some c
  | none => b
theorem sw_1 (W : Nat → Nat) (p q : Nat) : sw W p q 1 = swt W p q := if_neg (by decide)
theorem sw_0 (W : Nat → Nat) (p q : Nat) : sw W p q 0 = swf W p q := if_pos rfl
def cst (W : Nat → Nat) (P : Nat) (s : Nat → Int32) : Nat → Int32 := match fX8_countParts (nI P) (nf W) s with
  | some (_, st) => st
  | none => s
theorem p_countParts' {W : Nat → Nat} {P : Nat} {s0 : Nat → Int32} (hW : wok P W) (hP : P ≤ 12) (hP2 : 2 ≤ P) : fX8_countParts (nI P) (nf W) s0 = some (nI (cnt (fs W) P), cst W P s0) := by
  obtain ⟨st, e⟩ := p_countParts (s0 := s0) hW hP hP2
  unfold cst
  rw [e]
/-- the steps row behind j of row p -/
def sqj (W : Nat → Nat) (P p : Nat) (s : Nat → Int32) : Nat → (Nat → Int32)
  | 0 => s
  | j + 1 => if (W p).testBit (p + 1 + j) then sqj W P p s j else cst (swt W p (p + 1 + j)) P (sqj W P p s j)
theorem sqj_s (W : Nat → Nat) (P p : Nat) (s : Nat → Int32) (j : Nat) : sqj W P p s (j + 1) = if (W p).testBit (p + 1 + j) then sqj W P p s j else cst (swt W p (p + 1 + j)) P (sqj W P p s j) := rfl
def few (c0 : Nat) (a b : Option Nat) : Int32 := match cmb a b with
  | none => 0
  | some _ => nI (if a.isSome then c0 - 1 else c0)
theorem nw_x {W : Nat → Nat} {P p j : Nat} {d : Nat → Int32} {ρ : Type} (hW : wok P W) (hP : P ≤ 12) (hd : dok W d) (hp : p < P) (hj : j < P - (p + 1)) (hc : (ds W p (p + 1 + j)).isSome = true) (A : Option ρ) (R : Int32 → Option ρ) (g : Int32 → Int32 → Option ρ) :
    (if nI P ≤ nI (p + 1 + j) then A else bo1 (fX5_distance d (nI p) (nI (p + 1 + j))) fun r9 => if r9 = (-1 : Int32) then R r9 else jo1 (fun (x11 : Int32) => vlet (nI (p + 1 + j) + (1 : Int32)) fun x13 => g x11 x13) fun k12 => if dv (pr (fun p q => !(W p).testBit q) P p j) = (-1 : Int32) then bo1 (fX5_hasWay (nf W) (nI p) (nI (p + 1 + j))) fun r14 => if r14 = 0 then vlet (((100 : Int32) * nI p) + nI (p + 1 + j)) fun x16 => k12 x16 else k12 (dv (pr (fun p q => !(W p).testBit q) P p j)) else k12 (dv (pr (fun p q => !(W p).testBit q) P p j))) = g (dv (pr (fun p q => !(W p).testBit q) P p (j + 1))) (nI (p + 1 + (j + 1))) := by
  have hb : ∀ c, pr (fun p q => !(W p).testBit q) P p j = some c → c ≤ 100000 := fun c h => Nat.le_trans (pr_bd hp (by omega) h) (by omega)
  simp only [nle (a := P) (b := p + 1 + j) (by omega) (by omega), show ¬ P ≤ p + 1 + j from by omega, bo1, bo2, bo3, bo4, bo5, bo6, bo7, bo12, jo0, jo1, vlet, i10, i00, if_true, if_false, ite_self, n1z, n0z, p_distance hd (show p < 12 by omega) (show p + 1 + j < 12 by omega), ds_no, hc, Bool.true_eq_false, dv_no hb, p_hasWay hW hP (show p < 12 by omega) (show p + 1 + j < 31 by omega), b01, n_code, nI_1, pr_s]
  cases e : pr (fun p q => !(W p).testBit q) P p j with
  | some c =>
    rw [if_neg (by simp)]
    rfl
  | none =>
    rw [if_pos rfl]
    by_cases h : (W p).testBit (p + 1 + j) = true
    · simp only [h, Bool.true_eq_false, Bool.not_true, Bool.false_eq_true, bo1, bo2, bo3, bo4, bo5, bo6, bo7, bo12, jo0, jo1, vlet, i10, i00, if_true, if_false, ite_self, n1z, n0z]
      rfl
    · have h' : (W p).testBit (p + 1 + j) = false := by simpa using h
      simp only [h', Bool.not_false, bo1, bo2, bo3, bo4, bo5, bo6, bo7, bo12, jo0, jo1, vlet, i10, i00, if_true, if_false, ite_self, n1z, n0z]
      rfl
theorem tt_newWay {x_now_places : Int32} {x_now_people : Int32} {x_now_hour : Int32} {x_now_chance : Int32} {x_now_seed : Int32} {x_now_ways : Nat → Int32} {x_now_distances : Nat → Int32} {x_now_kind : Nat → Int32} {x_now_a : Nat → Int32} {x_now_home : Nat → Int32} {x_now_aim : Nat → Int32} {x_now_at : Nat → Int32} {x_kept_places : Int32} {x_kept_people : Int32} {x_kept_hour : Int32} {x_kept_chance : Int32} {x_kept_seed : Int32} {x_kept_ways : Nat → Int32} {x_kept_distances : Nat → Int32} {x_kept_kind : Nat → Int32} {x_kept_a : Nat → Int32} {x_kept_home : Nat → Int32} {x_kept_aim : Nat → Int32} {x_kept_at : Nat → Int32} {x_isKept : Int32} {x_shelves_c : Nat → Int32} {x_shelves_z : Nat → Int32} {x_shelves_e : Nat → Nat → Int64} {x_tape_size : Int32} {x_tape_bytes : Nat → Int32} {x_refusals : Nat → Int32} {m_places : Int32} {m_people : Int32} {m_hour : Int32} {m_chance : Int32} {m_seed : Int32} {m_ways : Nat → Int32} {m_kind : Nat → Int32} {m_by : Nat → Int32} {m_home : Nat → Int32} {m_aim : Nat → Int32} {m_at0 : Nat → Int32} {m_shelf : Nat → Int32} {m_rowSort : Nat → Int32} {m_rowSize : Nat → Int32} {m_rows : Nat → Nat → Int64} {m_shown : Nat → Int32} {m_tape : Nat → Int32} {m_tapeSize : Int32} {m_refused : Nat → Int32} {m_gone : Int32} {m_kept_places : Int32} {m_kept_people : Int32} {m_kept_hour : Int32} {m_kept_chance : Int32} {m_kept_seed : Int32} {m_kept_ways : Nat → Int32} {m_kept_kind : Nat → Int32} {m_kept_by : Nat → Int32} {m_kept_home : Nat → Int32} {m_kept_aim : Nat → Int32} {m_kept_at0 : Nat → Int32} {kb : Bool} (m_steps : Nat → Int32) (R : Rel kb x_now_places x_now_people x_now_hour x_now_chance x_now_seed x_now_ways x_now_distances x_now_kind x_now_a x_now_home x_now_aim x_now_at x_kept_places x_kept_people x_kept_hour x_kept_chance x_kept_seed x_kept_ways x_kept_distances x_kept_kind x_kept_a x_kept_home x_kept_aim x_kept_at x_isKept x_shelves_c x_shelves_z x_shelves_e x_tape_size x_tape_bytes x_refusals m_places m_people m_hour m_chance m_seed m_ways m_kind m_by m_home m_aim m_at0 m_shelf m_rowSort m_rowSize m_rows m_shown m_tape m_tapeSize m_refused m_gone m_kept_places m_kept_people m_kept_hour m_kept_chance m_kept_seed m_kept_ways m_kept_kind m_kept_by m_kept_home m_kept_aim m_kept_at0) : ∃ (r : Int32) (z_ways : Nat → Int32) (z_steps : Nat → Int32), fX7_newWay x_now_places x_now_ways x_now_distances = some r ∧ fX8_newWay m_places m_ways m_steps = some (r, z_ways, z_steps) ∧ Rel kb x_now_places x_now_people x_now_hour x_now_chance x_now_seed x_now_ways x_now_distances x_now_kind x_now_a x_now_home x_now_aim x_now_at x_kept_places x_kept_people x_kept_hour x_kept_chance x_kept_seed x_kept_ways x_kept_distances x_kept_kind x_kept_a x_kept_home x_kept_aim x_kept_at x_isKept x_shelves_c x_shelves_z x_shelves_e x_tape_size x_tape_bytes x_refusals m_places m_people m_hour m_chance m_seed z_ways m_kind m_by m_home m_aim m_at0 m_shelf m_rowSort m_rowSize m_rows m_shown m_tape m_tapeSize m_refused m_gone m_kept_places m_kept_people m_kept_hour m_kept_chance m_kept_seed m_kept_ways m_kept_kind m_kept_by m_kept_home m_kept_aim m_kept_at0 := by
  have R0 := R
  obtain ⟨P, n, h, c, s, W, K, A, H, M, L, T, ⟨rfl, rfl, rfl, rfl, rfl, rfl, xd, xk, xa, xh, xm, xl⟩, ⟨rfl, rfl, rfl, rfl, rfl, rfl, mk, ma, mh, mm, ml⟩, rfl, S, U, V, Z⟩ := R
  obtain ⟨hP2, hP, hn, hW, hK, hH, hM, hL, hho⟩ := id T
  have hx : fX7_newWay (nI P) (nf W) x_now_distances = some (dv (cmb (f2 (fun p q => !(ds W p q).isSome) P P) (f2 (fun p q => !(W p).testBit q) P P))) := by
    unfold fX7_newWay
    refine lfh2 (Φ := fun o => o = some (dv (cmb (f2 (fun p q => !(ds W p q).isSome) P P) (f2 (fun p q => !(W p).testBit q) P P)))) (fun p a b => a = dv (f2 (fun p q => !(W p).testBit q) P p) ∧ b = nI p) (fun p => (ff (fun j => !(ds W p (p + 1 + j)).isSome) (P - (p + 1)) 0).isSome) P ⟨rfl, rfl⟩ (fun p hp qp a b z => ?_) (fun p hp qp fp a b z g => ?_) (fun fp a b z g => ?_) 400 (by omega)
    · obtain ⟨rfl, rfl⟩ := z
      have hall : ∀ j, j < P - (p + 1) → (ds W p (p + 1 + j)).isSome = true := by
        intro j hj
        cases e : ff (fun j => !(ds W p (p + 1 + j)).isSome) (P - (p + 1)) 0 with
        | some r => rw [e] at qp; cases qp
        | none =>
          have := ff_none e j (Nat.zero_le _) (by omega)
          simpa using this
      refine ⟨_, _, ⟨rfl, rfl⟩, fun g => ?_⟩
      simp only [nle (a := P) (b := p) (by omega) (by omega), show ¬ P ≤ p from by omega, vlet_e, if_false, nI_1 p]
      refine lq2 (fun j => dv (pr (fun p q => !(W p).testBit q) P p j)) (fun j => nI (p + 1 + j)) (P - (p + 1)) (by rw [pr_0]) rfl (fun j hj g2 => ?_) (fun g2 => ?_) 400 (by omega)
      · exact nw_x hW hP xd hp hj (hall j hj) _ _ _
      · rw [if_pos (by rw [nle (by omega) (by omega)]; omega), pr_end]
    · obtain ⟨rfl, rfl⟩ := z
      cases e : ff (fun j => !(ds W p (p + 1 + j)).isSome) (P - (p + 1)) 0 with
      | none => rw [e] at qp; cases qp
      | some j0 =>
        have ha := f2_some (Q := fun p q => !(ds W p q).isSome) fp e
        simp only [nle (a := P) (b := p) (by omega) (by omega), show ¬ P ≤ p from by omega, vlet_e, if_false, nI_1 p]
        refine lfh2 (Φ := fun o => o = some (dv (cmb (f2 (fun p q => !(ds W p q).isSome) P P) (f2 (fun p q => !(W p).testBit q) P P)))) (fun j a b => a = dv (pr (fun p q => !(W p).testBit q) P p j) ∧ b = nI (p + 1 + j)) (fun j => !(ds W p (p + 1 + j)).isSome) (P - (p + 1)) ⟨by rw [pr_0], rfl⟩ (fun j hj qj a b z => ?_) (fun j hj qj fj a b z g => ?_) (fun fj a b z g => ?_) 400 (by omega)
        · obtain ⟨rfl, rfl⟩ := z
          exact ⟨_, _, ⟨rfl, rfl⟩, fun g => nw_x hW hP xd hp hj (by simpa using qj) _ _ _⟩
        · obtain ⟨rfl, rfl⟩ := z
          rw [e] at fj
          have hj0 : j0 = j := by simpa using fj
          subst hj0
          have qj' : (ds W p (p + 1 + j0)).isSome = false := by simpa using qj
          rw [ha]
          simp only [nle (a := P) (b := p + 1 + j0) (by omega) (by omega), show ¬ P ≤ p + 1 + j0 from by omega, bo1, bo2, bo3, bo4, bo5, bo6, bo7, bo12, jo0, jo1, vlet, i10, i00, if_true, if_false, ite_self, n1z, n0z, p_distance xd (show p < 12 by omega) (show p + 1 + j0 < 12 by omega), ds_no, qj', n_code]
          rfl
        · rw [e] at fj; cases fj
    · obtain ⟨rfl, rfl⟩ := z
      rw [f2_none (Q := fun p q => !(ds W p q).isSome) fp]
      exact if_pos (Int32.le_refl _)
  have hm : (fun o => ∃ st, o = some (dv (cmb (f2 (fun p q => !(ds W p q).isSome) P P) (f2 (fun p q => !(W p).testBit q) P P)), nf W, st)) (fX8_newWay (nI P) (nf W) m_steps) := by
    have cpos := parts_pos (W := W) (P := P) (by omega)
    have cle := cnt_le (fs W) P
    unfold fX8_newWay
    refine lph5 (Φ := fun o => ∃ st, o = some (dv (cmb (f2 (fun p q => !(ds W p q).isSome) P P) (f2 (fun p q => !(W p).testBit q) P P)), nf W, st)) (fun p a b x w _ => a = dv (cmb (f2 (fun p q => !(ds W p q).isSome) P p) (f2 (fun p q => !(W p).testBit q) P p)) ∧ b = few (cnt (fs W) P) (f2 (fun p q => !(ds W p q).isSome) P p) (f2 (fun p q => !(W p).testBit q) P p) ∧ x = nI p ∧ w = nf W) P ⟨rfl, rfl, rfl, rfl⟩ (fun p hp a b x w s z => ?_) (fun a b x w s z g => ?_) 400 (by omega)
    · obtain ⟨rfl, rfl, rfl, rfl⟩ := z
      refine ⟨_, _, _, _, sqj W P p s (P - (p + 1)), ⟨rfl, rfl, rfl, rfl⟩, fun g => ?_⟩
      simp only [nle (a := P) (b := p) (by omega) (by omega), show ¬ P ≤ p from by omega, vlet_e, if_false, nI_1 p]
      refine lq5 (fun j => dv (cmb (pr (fun p q => !(ds W p q).isSome) P p j) (pr (fun p q => !(W p).testBit q) P p j))) (fun j => few (cnt (fs W) P) (pr (fun p q => !(ds W p q).isSome) P p j) (pr (fun p q => !(W p).testBit q) P p j)) (fun j => nI (p + 1 + j)) (fun _ => nf W) (fun j => sqj W P p s j) (P - (p + 1)) (by rw [pr_0, pr_0]) (by rw [pr_0, pr_0]) rfl rfl rfl (fun j hj g2 => ?_) (fun g2 => ?_) 400 (by omega)
      · have hpq : p ≠ p + 1 + j := by omega
        have hq : p + 1 + j < P := by omega
        have hWp := hW.lt hP p
        have hb1 : ∀ c, pr (fun p q => !(ds W p q).isSome) P p j = some c → c ≤ 100000 := fun c h => Nat.le_trans (pr_bd hp (by omega) h) (by omega)
        have hb2 : ∀ c, pr (fun p q => !(W p).testBit q) P p j = some c → c ≤ 100000 := fun c h => Nat.le_trans (pr_bd hp (by omega) h) (by omega)
        by_cases w : (W p).testBit (p + 1 + j) = true
        · have cn : (ds W p (p + 1 + j)).isSome = true := (ds_cn hW hP hp).2 ((Cn.rfl' W p).edge (by omega) w)
          have e1 : pr (fun p q => !(ds W p q).isSome) P p (j + 1) = pr (fun p q => !(ds W p q).isSome) P p j := by
            rw [pr_s, cn]
            cases pr (fun p q => !(ds W p q).isSome) P p j <;> rfl
          have e2 : pr (fun p q => !(W p).testBit q) P p (j + 1) = pr (fun p q => !(W p).testBit q) P p j := by
            rw [pr_s, w]
            cases pr (fun p q => !(W p).testBit q) P p j <;> rfl
          rw [e1, e2, sqj_s, if_pos w]
          simp only [nle (a := P) (b := p + 1 + j) (by omega) (by omega), show ¬ P ≤ p + 1 + j from by omega, bo1, bo2, bo3, bo4, bo5, bo6, bo7, bo12, jo0, jo1, vlet, i10, i00, if_true, if_false, ite_self, n1z, n0z, jo4, if_n (nin (k := p) (N := 12) (by omega) (by omega)), if_n (nin2 (k := p) (N := 12) (by omega) (by omega)), nc (n := p) (by omega), nf_ap, n_bit0 (m := W p) (k := p + 1 + j) (by omega) (by omega), w, Bool.true_eq_false, nI_1]
          rfl
        · have w' : (W p).testBit (p + 1 + j) = false := by simpa using w
          have w2 : (W (p + 1 + j)).testBit p = false := by rw [hW.2.1]; exact w'
          have hW' := swt_wok hW hp hq hpq
          have pn := parts_new hW hP hp hq hpq
          rw [sqj_s, if_neg w]
          simp only [nle (a := P) (b := p + 1 + j) (by omega) (by omega), show ¬ P ≤ p + 1 + j from by omega, bo1, bo2, bo3, bo4, bo5, bo6, bo7, bo12, jo0, jo1, vlet, i10, i00, if_true, if_false, ite_self, n1z, n0z, jo4, if_n (nin (k := p) (N := 12) (by omega) (by omega)), if_n (nin2 (k := p) (N := 12) (by omega) (by omega)), nc (n := p) (by omega), nf_ap, n_bit0 (m := W p) (k := p + 1 + j) (by omega) (by omega), w', p_msetWay (show p < 12 by omega) (show p + 1 + j < 12 by omega) hpq, sw_1, sw_0, p_countParts' hW' hP hP2, swf_swt hpq w' w2, pn, n_code, nI_1]
          have hq1 : pr (fun p q => !(W p).testBit q) P p (j + 1) = some (match pr (fun p q => !(W p).testBit q) P p j with | some c => c | none => 100 * p + (p + 1 + j)) := by
            rw [pr_s, w']
            cases pr (fun p q => !(W p).testBit q) P p j <;> rfl
          rw [hq1, pr_s]
          cases eD : pr (fun p q => !(ds W p q).isSome) P p j with
          | some c =>
            have hc := n_neg1 (k := c) (hb1 c eD)
            simp only [cmb, dv, few, hc, bo1, bo2, bo3, bo4, bo5, bo6, bo7, bo12, jo0, jo1, vlet, i10, i00, if_true, if_false, ite_self, n1z, n0z, Option.isSome_some]
            rw [if_pos ?_]
            · rfl
            by_cases cn : (ds W p (p + 1 + j)).isSome = true
            · rw [if_pos cn]; exact nI_le (by omega) (by omega)
            · rw [if_neg cn]; exact Int32.le_refl _
          | none =>
            cases eN : pr (fun p q => !(W p).testBit q) P p j with
            | none =>
              simp only [cmb, dv, few, mm1, bo1, bo2, bo3, bo4, bo5, bo6, bo7, bo12, jo0, jo1, vlet, i10, i00, if_true, if_false, ite_self, n1z, n0z]
              by_cases cn : (ds W p (p + 1 + j)).isSome = true
              · simp only [cn, Bool.not_true, Bool.false_eq_true, bo1, bo2, bo3, bo4, bo5, bo6, bo7, bo12, jo0, jo1, vlet, i10, i00, if_true, if_false, ite_self, n1z, n0z, Option.isSome_none]
                rfl
              · have cn' : (ds W p (p + 1 + j)).isSome = false := by simpa using cn
                simp only [cn', Bool.not_false, Bool.false_eq_true, bo1, bo2, bo3, bo4, bo5, bo6, bo7, bo12, jo0, jo1, vlet, i10, i00, if_true, if_false, ite_self, n1z, n0z, Option.isSome_some]
                rfl
            | some c =>
              have hc := n_neg1 (k := c) (hb2 c eN)
              simp only [cmb, dv, few, hc, bo1, bo2, bo3, bo4, bo5, bo6, bo7, bo12, jo0, jo1, vlet, i10, i00, if_true, if_false, ite_self, n1z, n0z, Option.isSome_none, Bool.false_eq_true]
              by_cases cn : (ds W p (p + 1 + j)).isSome = true
              · simp only [cn, Bool.not_true, Bool.false_eq_true, bo1, bo2, bo3, bo4, bo5, bo6, bo7, bo12, jo0, jo1, vlet, i10, i00, if_true, if_false, ite_self, n1z, n0z, Option.isSome_none, Int32.le_refl]
                rfl
              · have cn' : (ds W p (p + 1 + j)).isSome = false := by simpa using cn
                have hlt : ¬ nI (cnt (fs W) P) ≤ nI (cnt (fs W) P - 1) := by rw [nle (by omega) (by omega)]; omega
                simp only [cn', Bool.not_false, Bool.false_eq_true, bo1, bo2, bo3, bo4, bo5, bo6, bo7, bo12, jo0, jo1, vlet, i10, i00, if_true, if_false, ite_self, n1z, n0z, Option.isSome_some, hlt]
                rfl
      · rw [if_pos (by rw [nle (by omega) (by omega)]; omega), pr_end, pr_end]
    · obtain ⟨rfl, rfl, rfl, rfl⟩ := z
      exact ⟨s, if_pos (Int32.le_refl _)⟩
  obtain ⟨st, hm⟩ := hm
  rw [hx, hm]
  exact ⟨_, _, _, rfl, rfl, R0⟩
