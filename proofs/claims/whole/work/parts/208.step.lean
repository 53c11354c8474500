/-! ===== a step toward a place ===== -/
def stp (W : Nat → Nat) (P f to : Nat) : Nat := match ds W f to with
  | none => f
  | some 0 => f
  | some (k + 1) => match ff (fun q => (W f).testBit q && (ds W q to == some k)) P 0 with
    | some q => q
    | none => f
theorem stp_n {W : Nat → Nat} {P f to : Nat} (e : ds W f to = none) : stp W P f to = f := by unfold stp; rw [e]
theorem stp_0 {W : Nat → Nat} {P f to : Nat} (e : ds W f to = some 0) : stp W P f to = f := by unfold stp; rw [e]
theorem stp_s {W : Nat → Nat} {P f to k : Nat} (e : ds W f to = some (k + 1)) : stp W P f to = (match ff (fun q => (W f).testBit q && (ds W q to == some k)) P 0 with | some q => q | none => f) := by unfold stp; rw [e]
theorem ds_obd {W : Nat → Nat} {p q : Nat} : obd (ds W p q) 12 := by
  have := ff_obd (p := fun d => (rcm W p d).testBit q) (k := 12) (a := 0)
  exact this
theorem p_stepToward {W : Nat → Nat} {P f to : Nat} {d : Nat → Int32} (hW : wok P W) (hP : P ≤ 12) (hd : dok W d) (hf : f < P) (ht : to < P) : fX5_stepToward (nI P) (nf W) d (nI f) (nI to) = some (nI (stp W P f to)) := by
  unfold fX5_stepToward
  rw [p_distance hd (by omega) (by omega)]
  simp only [bo1, vlet]
  cases e : ds W f to with
  | none =>
    rw [if_neg (by decide), stp_n e]
  | some k =>
    have hk := ds_obd k e
    cases k with
    | zero => rw [if_neg (by decide), stp_0 e]
    | succ k =>
      have e3 : dv (some (k + 1)) - 1 = nI k := nI_pred k
      simp only [e3]
      rw [if_pos (nI_pos' (by omega)), stp_s e]
      refine Eq.trans (lsk (fun q => (W f).testBit q && (ds W q to == some k)) (fun q => some (nI q)) (some (nI f)) 0 P (fun i h1 h2 g => ?_) (fun g => ?_) 400 (by omega)) ?_
      · rw [if_neg (by rw [nle (by omega) (by omega)]; omega), p_hasWay hW hP (by omega) (by omega), p_distance hd (by omega) (by omega)]
        simp only [bo1, jo0, vlet, b01, dv_some ds_obd (show 12 ≤ 1000 by omega) (show k ≤ 1000 by omega), nI_1]
        by_cases h1 : (W f).testBit i = true
        · by_cases h2 : ds W i to = some k
          · simp [h1, h2]
          · simp [h1, h2]
        · simp [h1]
      · rw [if_pos (by rw [nle (by omega) (by omega)]; omega)]
      · cases ff (fun q => (W f).testBit q && (ds W q to == some k)) P 0 <;> rfl
theorem p_mstepToward {W : Nat → Nat} {P f to : Nat} {s0 : Nat → Int32} (hW : wok P W) (hP : P ≤ 12) (hP2 : 2 ≤ P) (hf : f < P) (ht : to < P) : ∃ st, fX8_stepToward (nI P) (nf W) s0 (nI f) (nI to) = some (nI (stp W P f to), st) := by
  obtain ⟨st, h1, h2⟩ := p_findFar (s0 := s0) hW hP hP2 ht
  refine ⟨st, ?_⟩
  unfold fX8_stepToward
  rw [h1]
  simp only [bo1]
  have hu : ∀ q, q < P → st q = dv (ds W q to) := fun q hq => by rw [h2 q hq, ds_sym hW hP]
  have hwl := hW.lt hP f
  have step : ∀ i, i < P → ∀ g : Int32 → Option (Int32 × (Nat → Int32)), (if nI P ≤ nI i then some (nI f, st) else if nI f < 0 ∨ 12 ≤ (nI f).toNatClampNeg then none else jo0 (vlet (nI i + (1 : Int32)) fun x7 => g x7) fun k6 => if (((nf W (nI f).toNatClampNeg) >>> (nI i &&& 31)) &&& (1 : Int32)) = (1 : Int32) then if nI f < 0 ∨ 12 ≤ (nI f).toNatClampNeg then none else if (st (nI f).toNatClampNeg) ≤ 0 then k6 else if nI i < 0 ∨ 12 ≤ (nI i).toNatClampNeg then none else if nI f < 0 ∨ 12 ≤ (nI f).toNatClampNeg then none else if (st (nI i).toNatClampNeg) = ((st (nI f).toNatClampNeg) - (1 : Int32)) then some (nI i, st) else k6 else k6) = if (W f).testBit i = true ∧ ¬ (dv (ds W f to) ≤ 0) ∧ dv (ds W i to) = dv (ds W f to) - 1 then some (nI i, st) else g (nI (i + 1)) := by
    intro i hi g
    rw [if_neg (by rw [nle (by omega) (by omega)]; omega)]
    simp only [if_n (nin (k := f) (N := 12) (by omega) (by omega)), if_n (nin (k := i) (N := 12) (by omega) (by omega)), jo0, vlet]
    rw [nc (n := f) (by omega), nc (n := i) (by omega), nf_ap, hu f hf, hu i hi, nI_1]
    simp only [n_bit1 (m := W f) (k := i) (by omega) (by omega)]
    by_cases a : (W f).testBit i = true
    · by_cases b : dv (ds W f to) ≤ 0
      · simp [a, b]
      · by_cases c : dv (ds W i to) = dv (ds W f to) - 1
        · simp [a, b, c]
        · simp [a, b, c]
    · simp [a]
  have fin : ∀ g : Int32 → Option (Int32 × (Nat → Int32)), (if nI P ≤ nI P then some (nI f, st) else if nI f < 0 ∨ 12 ≤ (nI f).toNatClampNeg then none else jo0 (vlet (nI P + (1 : Int32)) fun x7 => g x7) fun k6 => if (((nf W (nI f).toNatClampNeg) >>> (nI P &&& 31)) &&& (1 : Int32)) = (1 : Int32) then if nI f < 0 ∨ 12 ≤ (nI f).toNatClampNeg then none else if (st (nI f).toNatClampNeg) ≤ 0 then k6 else if nI P < 0 ∨ 12 ≤ (nI P).toNatClampNeg then none else if nI f < 0 ∨ 12 ≤ (nI f).toNatClampNeg then none else if (st (nI P).toNatClampNeg) = ((st (nI f).toNatClampNeg) - (1 : Int32)) then some (nI P, st) else k6 else k6) = some (nI f, st) := by
    intro g
    rw [if_pos (by rw [nle (by omega) (by omega)]; omega)]
  have nomove : (∀ i, ¬ ((W f).testBit i = true ∧ ¬ (dv (ds W f to) ≤ 0) ∧ dv (ds W i to) = dv (ds W f to) - 1)) → lo1 (fun (g4 : Int32 → Option (Int32 × (Nat → Int32))) (x3 : Int32) => if nI P ≤ x3 then some (nI f, st) else if nI f < 0 ∨ 12 ≤ (nI f).toNatClampNeg then none else jo0 (vlet (x3 + (1 : Int32)) fun x7 => g4 x7) fun k6 => if (((nf W (nI f).toNatClampNeg) >>> (x3 &&& 31)) &&& (1 : Int32)) = (1 : Int32) then if nI f < 0 ∨ 12 ≤ (nI f).toNatClampNeg then none else if (st (nI f).toNatClampNeg) ≤ 0 then k6 else if x3 < 0 ∨ 12 ≤ x3.toNatClampNeg then none else if nI f < 0 ∨ 12 ≤ (nI f).toNatClampNeg then none else if (st x3.toNatClampNeg) = ((st (nI f).toNatClampNeg) - (1 : Int32)) then some (x3, st) else k6 else k6) 400 (0 : Int32) = some (nI f, st) := fun hno =>
    lq1 (fun i => nI i) P rfl (fun i hi g => by rw [step i hi g, if_neg (hno i)]) fin 400 (by omega)
  cases e : ds W f to with
  | none => rw [stp_n e]; exact nomove (fun i h => h.2.1 (by rw [e]; decide))
  | some k =>
    have hk := ds_obd k e
    cases k with
    | zero => rw [stp_0 e]; exact nomove (fun i h => h.2.1 (by rw [e]; decide))
    | succ k =>
      rw [stp_s e]
      have hpos : ¬ (dv (ds W f to) ≤ 0) := by
        rw [e]
        show ¬ (nI (k + 1) ≤ nI 0)
        rw [nle (by omega) (by omega)]
        omega
      have hcond : ∀ i, ((W f).testBit i = true ∧ ¬ (dv (ds W f to) ≤ 0) ∧ dv (ds W i to) = dv (ds W f to) - 1) ↔ ((W f).testBit i && (ds W i to == some k)) = true := by
        intro i
        have : (dv (ds W i to) = dv (ds W f to) - 1) = (ds W i to = some k) := by
          rw [e]
          show (dv (ds W i to) = nI (k + 1) - 1) = _
          rw [nI_pred, dv_some ds_obd (by omega) (by omega)]
        rw [this]
        simp only [Bool.and_eq_true, beq_iff_eq]
        constructor
        · rintro ⟨a, -, c⟩; exact ⟨a, c⟩
        · rintro ⟨a, c⟩; exact ⟨a, hpos, c⟩
      have := lsk (F := fun (g4 : Int32 → Option (Int32 × (Nat → Int32))) (x3 : Int32) => if nI P ≤ x3 then some (nI f, st) else if nI f < 0 ∨ 12 ≤ (nI f).toNatClampNeg then none else jo0 (vlet (x3 + (1 : Int32)) fun x7 => g4 x7) fun k6 => if (((nf W (nI f).toNatClampNeg) >>> (x3 &&& 31)) &&& (1 : Int32)) = (1 : Int32) then if nI f < 0 ∨ 12 ≤ (nI f).toNatClampNeg then none else if (st (nI f).toNatClampNeg) ≤ 0 then k6 else if x3 < 0 ∨ 12 ≤ x3.toNatClampNeg then none else if nI f < 0 ∨ 12 ≤ (nI f).toNatClampNeg then none else if (st x3.toNatClampNeg) = ((st (nI f).toNatClampNeg) - (1 : Int32)) then some (x3, st) else k6 else k6) (fun q => (W f).testBit q && (ds W q to == some k)) (fun q => some (nI q, st)) (some (nI f, st)) 0 P (fun i h1 h2 g => by
        rw [step i (by omega) g]
        by_cases a : ((W f).testBit i && (ds W i to == some k)) = true
        · rw [if_pos ((hcond i).mpr a), if_pos a]
        · rw [if_neg (fun q => a ((hcond i).mp q)), if_neg a]) (fun g => by rw [Nat.zero_add]; exact fin g) 400 (by omega)
      refine this.trans ?_
      cases ff (fun q => (W f).testBit q && (ds W q to == some k)) P 0 <;> rfl
theorem stp_lt {W : Nat → Nat} {P f to : Nat} (hf : f < P) : stp W P f to < P := by
  cases e : ds W f to with
  | none => rw [stp_n e]; exact hf
  | some k =>
    cases k with
    | zero => rw [stp_0 e]; exact hf
    | succ k =>
      rw [stp_s e]
      cases e2 : ff (fun q => (W f).testBit q && (ds W q to == some k)) P 0 with
      | none => exact hf
      | some q => have := (ff_some e2).2.1; show q < P; omega
theorem wr_lt {W : Nat → Nat} {P f : Nat} (hf : f < P) : wr W P f < P := by
  unfold wr
  cases e : ff (fun q => (W f).testBit q) (P - (f + 1)) (f + 1) with
  | some q => have := (ff_some e).2.1; show q < P; omega
  | none =>
    cases e2 : ff (fun q => (W f).testBit q) f 0 with
    | some q => have := (ff_some e2).2.1; show q < P; omega
    | none => exact hf
theorem wr_adj {W : Nat → Nat} {P f : Nat} (h : wr W P f ≠ f) : (W f).testBit (wr W P f) = true := by
  unfold wr at h ⊢
  cases e : ff (fun q => (W f).testBit q) (P - (f + 1)) (f + 1) with
  | some q => exact (ff_some e).2.2.1
  | none =>
    rw [e] at h
    cases e2 : ff (fun q => (W f).testBit q) f 0 with
    | some q => exact (ff_some e2).2.2.1
    | none => rw [e2] at h; exact absurd rfl h
