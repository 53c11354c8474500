/-! ===== the start: the classes ===== -/
set_option maxRecDepth 100000 in
theorem st_known {p : Program} {s : State} {m : MethodId} {meth : Method} {c : Code} {b L : Nat} {xs : Nat → Int32} (C0 : lw_At p s m meth c b L xs) : ∃ (D : va_G) (cy : Nat → ClassId), xK D cy s := by
  obtain ⟨hx, hb, hr, hml, hown, hts, hX, hbl, hlocks, hgv⟩ := C0
  have kc : ∀ k : Nat, k < 9 → ∀ q : vw_C, vwCl[k]? = some q → ∃ (cC : ClassId) (iS : Nat → Nat), u_Kn s q.1 q.2.1 q.2.2 cC iS := by
    intro k hk q hq
    match k, hk with
    | 0, _ => cases hq; exact u_known hts (by decide +kernel) (hts (.instantiable RX0 2) (by decide +kernel))
    | 1, _ => cases hq; exact u_known hts (by decide +kernel) (hts (.instantiable RX1 2) (by decide +kernel))
    | 2, _ => cases hq; exact u_known hts (by decide +kernel) (hts (.instantiable RX2 3) (by decide +kernel))
    | 3, _ => cases hq; exact u_known hts (by decide +kernel) (hts (.instantiable RX3 1) (by decide +kernel))
    | 4, _ => cases hq; exact u_known hts (by decide +kernel) (hts (.instantiable RX4 2) (by decide +kernel))
    | 5, _ => cases hq; exact u_known hts (by decide +kernel) (hts (.instantiable RX5 12) (by decide +kernel))
    | 6, _ => cases hq; exact u_known hts (by decide +kernel) (hts (.instantiable RX6 6) (by decide +kernel))
    | 7, _ => cases hq; exact u_known hts (by decide +kernel) (hts (.instantiable RX7 12) (by decide +kernel))
    | 8, _ => cases hq; exact u_known hts (by decide +kernel) (hts (.instantiable RX8 37) (by decide +kernel))
    | k + 9, h => exact absurd h (by omega)
  have hlen : ∀ (k : Nat) (q : vw_C), vwCl[k]? = some q → k < 9 := fun k q hq => (List.getElem?_eq_some_iff.mp hq).1
  have kc2 : ∀ k : Nat, ∃ x : ClassId × (Nat → Nat), ∀ q : vw_C, vwCl[k]? = some q → u_Kn s q.1 q.2.1 q.2.2 x.1 x.2 := by
    intro k
    cases hq : vwCl[k]? with
    | none => exact ⟨(0, fun _ => 0), fun q h => by cases h⟩
    | some q =>
      obtain ⟨cC, iS, h⟩ := kc k (hlen k q hq) q hq
      exact ⟨(cC, iS), fun q' h' => by cases h'; exact h⟩
  obtain ⟨f, hf⟩ := Classical.axiomOfChoice kc2
  obtain ⟨c0, k0, m0, a0, b0, d0⟩ := Cond.arrayClass_spec (hts (.arrayClass .int) (by decide +kernel))
  obtain ⟨c1, k1, m1, a1, b1, d1⟩ := Cond.arrayClass_spec (hts (.arrayClass .long) (by decide +kernel))
  have w2 := hts (.arrayOver (.object "ShowsWhereNobodyIs$Shelf")) (by decide +kernel)
  have w3 := hts (.arrayOver (.array .int)) (by decide +kernel)
  have w4 := hts (.arrayOver (.array .long)) (by decide +kernel)
  obtain ⟨m2, c2, k2, a2, f2, b2, d2, e2⟩ := Cond.arrayOver_spec w2
  obtain ⟨m3, c3, k3, a3, b3, d3, e3⟩ := Cond.arrayOver_specA w3
  obtain ⟨m4, c4, k4, a4, b4, d4, e4⟩ := Cond.arrayOver_specA w4
  refine ⟨(fun k => (f k).1, fun k => (f k).2), fun k => ([c0, c1, c2, c3, c4] : List ClassId).getD k 0, ⟨fun k q hq => hf k q hq, ?_⟩, ⟨va_Nw.of rfl (hts _ (by decide +kernel)), va_Nw.of rfl (hts _ (by decide +kernel)), ⟨va_Nw.of rfl (hts _ (by decide +kernel)), va_Nw.of rfl (hts _ (by decide +kernel)), va_Nw.of rfl (hts _ (by decide +kernel)), va_Nw.of rfl (hts _ (by decide +kernel)), va_Nw.of rfl (hts _ (by decide +kernel)), va_Nw.of rfl (hts _ (by decide +kernel))⟩, va_AO.of w2, va_AOA.of w3, va_AOA.of w4⟩⟩
  intro k q hk
  match k, hk with
  | 0, hk => cases hk; exact ⟨fun n z => ⟨(fun k h => by cases h), k0, b0, m0, d0⟩, a0⟩
  | 1, hk => cases hk; exact ⟨fun n z => ⟨(fun k h => by cases h), k1, b1, m1, d1⟩, a1⟩
  | 2, hk => cases hk; exact ⟨fun n z => ⟨(fun k h => by cases h), k2, b2, m2, d2⟩, ⟨k2, m2, b2, d2, a2, e2⟩⟩
  | 3, hk => cases hk; exact ⟨fun n z => ⟨(fun k h => by cases h), k3, b3, m3, d3⟩, e3⟩
  | 4, hk => cases hk; exact ⟨fun n z => ⟨(fun k h => by cases h), k4, b4, m4, d4⟩, e4⟩
  | k + 5, hk => simp [xtys] at hk
