theorem n_neg1 {k : Nat} (h : k ≤ 100000) : (nI k = (-1 : Int32)) = False := by
  apply propext
  constructor
  · intro e
    have h1 := congrArg Int32.toInt e
    rw [nI_toInt (by omega), show ((-1 : Int32).toInt) = -1 from by decide] at h1
    omega
  · exact False.elim
def obd (o : Option Nat) (n : Nat) : Prop := ∀ k, o = some k → k < n
theorem ff_obd {p : Nat → Bool} {k a : Nat} : obd (ff p k a) (a + k) := fun q h => (ff_some h).2.1
theorem dv_none {o : Option Nat} {n : Nat} (h : obd o n) (hn : n ≤ 1000) : (dv o = (-1 : Int32)) = (o = none) := by
  cases o with
  | none => simp [dv]
  | some k =>
    have := h k rfl
    show (nI k = (-1 : Int32)) = _
    rw [n_neg1 (by omega)]
    simp
theorem dv_some {o : Option Nat} {n t : Nat} (h : obd o n) (hn : n ≤ 1000) (ht : t ≤ 1000) : (dv o = nI t) = (o = some t) := by
  cases o with
  | none =>
    show ((-1 : Int32) = nI t) = _
    rw [show ((-1 : Int32) = nI t) = (nI t = (-1 : Int32)) from propext ⟨Eq.symm, Eq.symm⟩, n_neg1 (by omega)]
    simp
  | some k =>
    have := h k rfl
    show (nI k = nI t) = _
    rw [neq (by omega) (by omega)]
    simp
theorem upd_self {f : Nat → Int32} {k : Nat} {x : Int32} (h : f k = x) : upd f k x = f := by
  funext j
  by_cases e : j = k
  · subst e; rw [pk_us, h]
  · rw [pk_un e]
/-- the Model's steps from f, levels up to n known -/
def sf (W : Nat → Nat) (f P : Nat) (s0 : Nat → Int32) (n : Nat) : Nat → Int32 := fun p => if p < P then dv (ff (fun k => (rcm W f k).testBit p) (n + 1) 0) else s0 p
def sm (W : Nat → Nat) (f P : Nat) (s0 : Nat → Int32) (t j : Nat) : Nat → Int32 := fun p => if p < j then sf W f P s0 (t + 1) p else sf W f P s0 t p
theorem lvl_t {W : Nat → Nat} {f t q : Nat} : (ff (fun k => (rcm W f k).testBit q) (t + 1) 0 = some t) = ((edg W f t).testBit q = true) := by
  rw [lvl_succ]
  by_cases h : (edg W f t).testBit q = true
  · simp [h]
  · rw [if_neg h]
    apply propext
    constructor
    · intro e; have := (ff_some e).2.1; omega
    · intro e; exact absurd e h
theorem lvl_t1 {W : Nat → Nat} {f t q : Nat} : (ff (fun k => (rcm W f k).testBit q) (t + 2) 0 = some t) = ((edg W f t).testBit q = true) := by
  rw [show t + 2 = (t + 1) + 1 from rfl, lvl_succ]
  by_cases h : (edg W f (t + 1)).testBit q = true
  · rw [if_pos h]
    apply propext
    constructor
    · intro e; have := Option.some.inj e; omega
    · intro e
      rw [edg_bit] at h e
      simp only [Bool.and_eq_true, Bool.not_eq_true'] at h e
      have h2 : (rcm W f t).testBit q = false := h.2
      rw [h2] at e
      exact absurd e.1 (by decide)
  · rw [if_neg h]
    exact lvl_t
theorem lvl_none {W : Nat → Nat} {f t q : Nat} : (ff (fun k => (rcm W f k).testBit q) (t + 1) 0 = none) = ((rcm W f t).testBit q = false) := by
  apply propext
  constructor
  · intro e; exact ff_none e t (Nat.zero_le _) (by omega)
  · intro e
    apply ff_non
    intro j _ hj
    cases hb : (rcm W f j).testBit q with
    | false => rfl
    | true => rw [rcm_le (by omega) hb] at e; cases e
/-- the inner seeking of the Model -/
theorem p_mfar_in {W : Nat → Nat} {P f t j : Nat} {s0 : Nat → Int32} (hW : wok P W) (hP : P ≤ 12) (hf : f < P) (ht : t + 1 < P) (hj : j < P) (K : (Nat → Int32) → Option (Nat → Int32)) :
    lo2 (fun (g13 : Int32 → (Nat → Int32) → Option (Nat → Int32)) (x11 : Int32) (u12 : Nat → Int32) =>
                jo0 (K u12) fun k14 =>
                if nI P ≤ x11 then
                  k14
                else
                  if nI j < 0 ∨ 12 ≤ (nI j).toNatClampNeg then none else
                  if (u12 (nI j).toNatClampNeg) = (-1 : Int32) then
                    if nI j < 0 ∨ 12 ≤ (nI j).toNatClampNeg then none else
                    jo1 (fun (y18 : Int32) =>
                      if nI j < 0 ∨ 12 ≤ (nI j).toNatClampNeg then none else
                      vlet (x11 + (1 : Int32)) fun x21 =>
                      g13 x21 (upd u12 (nI j).toNatClampNeg y18)) fun k19 =>
                    jo0 (
                      k19 (-1 : Int32)) fun k22 =>
                    if (((nf W (nI j).toNatClampNeg) >>> (x11 &&& 31)) &&& (1 : Int32)) = (1 : Int32) then
                      if x11 < 0 ∨ 12 ≤ x11.toNatClampNeg then none else
                      if (u12 x11.toNatClampNeg) = (nI (t + 1) - (1 : Int32)) then
                        k19 (nI (t + 1))
                      else
                        k22
                    else
                      k22
                  else
                    k14) 400 (0 : Int32) (sm W f P s0 t j) = K (sm W f P s0 t (j + 1)) := by
  have hjn := nin (k := j) (N := 12) (by omega) (by omega)
  have huj : sm W f P s0 t j j = dv (ff (fun k => (rcm W f k).testBit j) (t + 1) 0) := by
    unfold sm sf
    rw [if_neg (by omega), if_pos hj]
  have hwl := hW.lt hP j
  have hq : ∀ q, q < P → (sm W f P s0 t j q = nI t) = ((edg W f t).testBit q = true) := by
    intro q hq
    unfold sm sf
    by_cases g : q < j
    · rw [if_pos g, if_pos hq, dv_some ff_obd (by omega) (by omega)]
      exact lvl_t1
    · rw [if_neg g, if_pos hq, dv_some ff_obd (by omega) (by omega)]
      exact lvl_t
  by_cases hc : (rcm W f t).testBit j = true
  · -- known already
    have e1 : sm W f P s0 t (j + 1) = sm W f P s0 t j := by
      funext p
      unfold sm
      by_cases g : p = j
      · subst g
        rw [if_pos (by omega), if_neg (by omega)]
        unfold sf
        rw [if_pos hj, if_pos hj, show t + 1 + 1 = (t + 1) + 1 from rfl, lvl_succ, if_neg]
        rw [edg_bit]
        show ¬ ((rcm W f (t + 1)).testBit p && !(rcm W f t).testBit p) = true
        rw [hc]
        simp
      · by_cases h : p < j
        · rw [if_pos (by omega), if_pos h]
        · rw [if_neg (by omega), if_neg h]
    rw [e1]
    refine lq2 (fun i => nI i) (fun _ => sm W f P s0 t j) 0 rfl rfl (fun i hi => absurd hi (by omega)) (fun g => ?_) 400 (by omega)
    simp only [jo0]
    rw [if_neg (by rw [nle (by omega) (by omega)]; omega), if_n hjn, nc (n := j) (by omega), huj, if_neg]
    rw [dv_none ff_obd (by omega), lvl_none, hc]
    decide
  · have hc' : (rcm W f t).testBit j = false := by simpa using hc
    have hnone : ff (fun k => (rcm W f k).testBit j) (t + 1) 0 = none := by rw [lvl_none]; exact hc'
    have huj2 : sm W f P s0 t j j = -1 := by rw [huj, hnone]; rfl
    have hedge : (edg W f (t + 1)).testBit j = true ↔ ∃ r, r < P ∧ (W j).testBit r = true ∧ (edg W f t).testBit r = true := by
      rw [← edg_succ, nd_bit, hc']
      simp only [Bool.not_false, Bool.and_true]
      show (spk W (edg W f t) 12).testBit j = true ↔ _
      rw [spk_bit]
      constructor
      · rintro (h | ⟨r, h1, h2, h3⟩)
        · rw [edg_bit, hc'] at h; simp at h
        · exact ⟨r, (hW.hi h3).2, by rw [hW.2.1]; exact h3, h2⟩
      · rintro ⟨r, h1, h2, h3⟩
        exact Or.inr ⟨r, by omega, h3, by rw [hW.2.1]; exact h2⟩
    -- a step of the loop
    have step : ∀ (q : Nat), q < P → ∀ (g : Int32 → (Nat → Int32) → Option (Nat → Int32)), (jo0 (K (sm W f P s0 t j)) fun k14 =>
                if nI P ≤ nI q then
                  k14
                else
                  if nI j < 0 ∨ 12 ≤ (nI j).toNatClampNeg then none else
                  if (sm W f P s0 t j (nI j).toNatClampNeg) = (-1 : Int32) then
                    if nI j < 0 ∨ 12 ≤ (nI j).toNatClampNeg then none else
                    jo1 (fun (y18 : Int32) =>
                      if nI j < 0 ∨ 12 ≤ (nI j).toNatClampNeg then none else
                      vlet (nI q + (1 : Int32)) fun x21 =>
                      g x21 (upd (sm W f P s0 t j) (nI j).toNatClampNeg y18)) fun k19 =>
                    jo0 (
                      k19 (-1 : Int32)) fun k22 =>
                    if (((nf W (nI j).toNatClampNeg) >>> (nI q &&& 31)) &&& (1 : Int32)) = (1 : Int32) then
                      if nI q < 0 ∨ 12 ≤ (nI q).toNatClampNeg then none else
                      if (sm W f P s0 t j (nI q).toNatClampNeg) = (nI (t + 1) - (1 : Int32)) then
                        k19 (nI (t + 1))
                      else
                        k22
                    else
                      k22
                  else
                    k14) = if (W j).testBit q = true ∧ (edg W f t).testBit q = true then g (nI (q + 1)) (upd (sm W f P s0 t j) j (nI (t + 1))) else g (nI (q + 1)) (sm W f P s0 t j) := by
      intro q hqP g
      simp only [jo0, jo1, vlet]
      rw [if_neg (by rw [nle (by omega) (by omega)]; omega)]
      simp only [if_n hjn]
      rw [nc (n := j) (by omega), if_pos huj2, nf_ap, if_n (nin (k := q) (N := 12) (by omega) (by omega)), nc (n := q) (by omega), nI_pred, nI_1, upd_self huj2]
      simp only [n_bit1 (m := W j) (k := q) (by omega) (by omega), hq q hqP]
      by_cases h1 : (W j).testBit q = true
      · by_cases h2 : (edg W f t).testBit q = true
        · simp [h1, h2]
        · simp [h1, h2]
      · simp [h1]
    cases hs : ff (fun q => (W j).testBit q && (edg W f t).testBit q) P 0 with
    | some q0 =>
      obtain ⟨-, h2, h3, h4⟩ := ff_some hs
      simp only [Bool.and_eq_true] at h3
      have hlt : q0 < P := by omega
      have e1 : sm W f P s0 t (j + 1) = upd (sm W f P s0 t j) j (nI (t + 1)) := by
        funext p
        by_cases g : p = j
        · subst g
          rw [pk_us]
          unfold sm sf
          rw [if_pos (by omega), if_pos hj, lvl_succ, if_pos (hedge.mpr ⟨q0, hlt, h3.1, h3.2⟩)]
          rfl
        · rw [pk_un g]
          unfold sm
          by_cases h : p < j
          · rw [if_pos (by omega), if_pos h]
          · rw [if_neg (by omega), if_neg h]
      rw [e1]
      refine lq2 (fun i => nI i) (fun i => if i ≤ q0 then sm W f P s0 t j else upd (sm W f P s0 t j) j (nI (t + 1))) (q0 + 1) rfl rfl (fun i hi g => ?_) (fun g => ?_) 400 (by omega)
      · simp only [show i ≤ q0 from by omega, if_true]
        rw [step i (by omega) g]
        by_cases e : i = q0
        · rw [if_pos (by rw [e]; exact h3)]
          simp only [show ¬ i + 1 ≤ q0 from by omega, if_false]
        · have h5 := h4 i (Nat.zero_le _) (by omega)
          rw [if_neg (fun q => by simp [q.1, q.2] at h5)]
          simp only [show i + 1 ≤ q0 from by omega, if_true]
      · simp only [show ¬ q0 + 1 ≤ q0 from by omega, if_false, jo0]
        by_cases hl : P ≤ q0 + 1
        · rw [if_pos (by rw [nle (by omega) (by omega)]; omega)]
        · rw [if_neg (by rw [nle (by omega) (by omega)]; omega), if_n hjn, nc (n := j) (by omega), pk_us, if_neg (by rw [n_neg1 (by omega)]; exact id)]
    | none =>
      have hno : ¬ (edg W f (t + 1)).testBit j = true := by
        intro h
        obtain ⟨r, h1, h2, h3⟩ := hedge.mp h
        have := ff_none hs r (Nat.zero_le _) (by omega)
        simp [h2, h3] at this
      have e1 : sm W f P s0 t (j + 1) = sm W f P s0 t j := by
        funext p
        unfold sm
        by_cases g : p = j
        · subst g
          rw [if_pos (by omega), if_neg (by omega)]
          unfold sf
          rw [if_pos hj, if_pos hj, show t + 1 + 1 = (t + 1) + 1 from rfl, lvl_succ, if_neg hno]
        · by_cases h : p < j
          · rw [if_pos (by omega), if_pos h]
          · rw [if_neg (by omega), if_neg h]
      rw [e1]
      refine lq2 (fun i => nI i) (fun _ => sm W f P s0 t j) P rfl rfl (fun i hi g => ?_) (fun g => ?_) 400 (by omega)
      · rw [step i hi g]
        have h5 := ff_none hs i (Nat.zero_le _) (by omega)
        rw [if_neg (fun q => by simp [q.1, q.2] at h5)]
      · simp only [jo0]
        rw [if_pos (by rw [nle (by omega) (by omega)]; omega)]
theorem p_findFar {W : Nat → Nat} {P f : Nat} {s0 : Nat → Int32} (hW : wok P W) (hP : P ≤ 12) (hP2 : 2 ≤ P) (hf : f < P) : ∃ st, fX8_findFar (nI P) (nf W) s0 (nI f) = some st ∧ ∀ q, q < P → st q = dv (ds W f q) := by
  refine ⟨sf W f P s0 (P - 1), ?_, fun q hq => ?_⟩
  · unfold fX8_findFar
    refine lq2 (fun i => nI i) (fun i => fun p => if p < i then (if p = f then (0 : Int32) else -1) else s0 p) P rfl (by funext p; rw [if_neg (by omega)]) (fun i hi ag => ?_) (fun ag => ?_) 400 (by omega)
    · rw [if_neg (by rw [nle (by omega) (by omega)]; omega)]
      simp only [jo1, vlet]
      rw [if_n (nin (k := i) (N := 12) (by omega) (by omega)), if_n (nin (k := i) (N := 12) (by omega) (by omega)), nc (n := i) (by omega), nI_1]
      have key : ∀ x : Int32, (x = if i = f then (0 : Int32) else -1) → upd (fun p => if p < i then (if p = f then (0 : Int32) else -1) else s0 p) i x = fun p => if p < i + 1 then (if p = f then (0 : Int32) else -1) else s0 p := by
        intro x hx
        funext p
        by_cases g : p = i
        · subst g; rw [pk_us, if_pos (by omega)]; exact hx
        · rw [pk_un g]
          by_cases h : p < i
          · simp only [h, show p < i + 1 from by omega, if_true]
          · simp only [h, show ¬ p < i + 1 from by omega, if_false]
      by_cases e : i = f
      · rw [if_pos (by rw [e]), key _ (by rw [if_pos e])]
      · rw [if_neg (by rw [neq (by omega) (by omega)]; exact e), key _ (by rw [if_neg e])]
    · rw [if_pos (by rw [nle (by omega) (by omega)]; omega)]
      have e0 : (fun p => if p < P then (if p = f then (0 : Int32) else -1) else s0 p) = sf W f P s0 0 := by
        funext p
        unfold sf
        by_cases g : p < P
        · rw [if_pos g, if_pos g]
          by_cases e : p = f
          · subst e
            have : (rcm W p 0).testBit p = true := by show (2 ^ p).testBit p = true; rw [Nat.testBit_two_pow]; simp
            simp [ff, this, dv]
            rfl
          · have : (rcm W f 0).testBit p = false := by
              show (2 ^ f).testBit p = false
              rw [Nat.testBit_two_pow]
              simp only [decide_eq_false_iff_not]
              omega
            simp [ff, this, dv, e]
        · rw [if_neg g, if_neg g]
      rw [e0]
      refine lq2 (fun i => nI (i + 1)) (fun i => sf W f P s0 i) (P - 1) rfl rfl (fun t ht ag2 => ?_) (fun ag2 => ?_) 400 (by omega)
      · rw [if_neg (by rw [nle (by omega) (by omega)]; omega)]
        refine lq2 (fun j => nI j) (fun j => sm W f P s0 t j) P rfl (by funext p; unfold sm; rw [if_neg (by omega)]) (fun j hj ag3 => ?_) (fun ag3 => ?_) 400 (by omega)
        · rw [if_neg (by rw [nle (by omega) (by omega)]; omega)]
          have := p_mfar_in (s0 := s0) hW hP hf (t := t) (by omega) hj (fun u => vlet (nI j + (1 : Int32)) fun x15 => ag3 x15 u)
          refine this.trans ?_
          simp only [vlet, nI_1]
        · rw [if_pos (by rw [nle (by omega) (by omega)]; omega)]
          simp only [vlet, nI_1]
          congr 1
          funext p
          unfold sm
          by_cases g : p < P
          · rw [if_pos g]
          · rw [if_neg g]
            unfold sf
            rw [if_neg g, if_neg g]
      · rw [if_pos (by rw [nle (by omega) (by omega)]; omega)]
  · unfold sf
    rw [if_pos hq, show P - 1 + 1 = P from by omega, ds_P hW hP hf]
