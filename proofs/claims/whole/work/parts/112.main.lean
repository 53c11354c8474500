def fX7_where (v_t_now_places : Int32) (v_t_now_people : Int32) (v_t_now_hour : Int32) (v_t_now_chance : Int32) (v_t_now_seed : Int32) (v_t_now_ways : Nat → Int32) (v_t_now_distances : Nat → Int32) (v_t_now_kind : Nat → Int32) (v_t_now_a : Nat → Int32) (v_t_now_home : Nat → Int32) (v_t_now_aim : Nat → Int32) (v_t_now_at : Nat → Int32) (v_t_future_places : Int32) (v_t_future_people : Int32) (v_t_future_hour : Int32) (v_t_future_chance : Int32) (v_t_future_seed : Int32) (v_t_future_ways : Nat → Int32) (v_t_future_distances : Nat → Int32) (v_t_future_kind : Nat → Int32) (v_t_future_a : Nat → Int32) (v_t_future_home : Nat → Int32) (v_t_future_aim : Nat → Int32) (v_t_future_at : Nat → Int32) (v_t_refusals : Nat → Int32) (p0 : Int32) (p1 : Int32) : Option (Int32 × Int32 × Int32 × Int32 × Int32 × Int32 × (Nat → Int32) × (Nat → Int32) × (Nat → Int32) × (Nat → Int32) × (Nat → Int32) × (Nat → Int32) × (Nat → Int32) × (Nat → Int32)) :=
  bo1 (fX7_isPerson v_t_now_people p0) fun r1 =>
  jo0 (
    bo2 (fX7_refuse v_t_refusals (-2 : Int32)) fun r4 u5 =>
    some (r4, v_t_future_places, v_t_future_people, v_t_future_hour, v_t_future_chance, v_t_future_seed, v_t_future_ways, v_t_future_distances, v_t_future_kind, v_t_future_a, v_t_future_home, v_t_future_aim, v_t_future_at, u5)) fun k3 =>
  if r1 = 0 then
    k3
  else
    bo1 (fX7_isAhead p1) fun r7 =>
    if r7 = 0 then
      k3
    else
      bo12 (fX7_lookAhead v_t_now_places v_t_now_people v_t_now_hour v_t_now_chance v_t_now_seed v_t_now_ways v_t_now_distances v_t_now_kind v_t_now_a v_t_now_home v_t_now_aim v_t_now_at p1) fun u9 u10 u11 u12 u13 u14 u15 u16 u17 u18 u19 u20 =>
      if p0 < 0 ∨ 8 ≤ p0.toNatClampNeg then none else
      some (u20 p0.toNatClampNeg, u9, u10, u11, u12, u13, u14, u15, u16, u17, u18, u19, u20, v_t_refusals)
set_option maxHeartbeats 4000000 in
set_option maxRecDepth 100000 in
theorem mX7_where (l : Launch) (D : va_G) (cy : Nat → ClassId) (q_t q_t_now q_t_future q_t_draft q_t_kept q_t_shelves q_t_tape q_t_reader q_t_hiddenWay q_t_sights q_t_choice q_t_refusals q_t_now_ways q_t_now_distances q_t_now_kind q_t_now_a q_t_now_home q_t_now_aim q_t_now_at q_t_future_ways q_t_future_distances q_t_future_kind q_t_future_a q_t_future_home q_t_future_aim q_t_future_at : Nat) (v_t_isKept : Int32) (v_t_now_places : Int32) (v_t_now_people : Int32) (v_t_now_hour : Int32) (v_t_now_chance : Int32) (v_t_now_seed : Int32) (v_t_now_ways : Nat → Int32) (v_t_now_distances : Nat → Int32) (v_t_now_kind : Nat → Int32) (v_t_now_a : Nat → Int32) (v_t_now_home : Nat → Int32) (v_t_now_aim : Nat → Int32) (v_t_now_at : Nat → Int32) (v_t_future_places : Int32) (v_t_future_people : Int32) (v_t_future_hour : Int32) (v_t_future_chance : Int32) (v_t_future_seed : Int32) (v_t_future_ways : Nat → Int32) (v_t_future_distances : Nat → Int32) (v_t_future_kind : Nat → Int32) (v_t_future_a : Nat → Int32) (v_t_future_home : Nat → Int32) (v_t_future_aim : Nat → Int32) (v_t_future_at : Nat → Int32) (v_t_refusals : Nat → Int32) (sz : Nat) (p0 : Int32) (p1 : Int32) {r_ : Int32} {n_t_future_places : Int32} {n_t_future_people : Int32} {n_t_future_hour : Int32} {n_t_future_chance : Int32} {n_t_future_seed : Int32} {n_t_future_ways : Nat → Int32} {n_t_future_distances : Nat → Int32} {n_t_future_kind : Nat → Int32} {n_t_future_a : Nat → Int32} {n_t_future_home : Nat → Int32} {n_t_future_aim : Nat → Int32} {n_t_future_at : Nat → Int32} {n_t_refusals : Nat → Int32} (hf : fX7_where v_t_now_places v_t_now_people v_t_now_hour v_t_now_chance v_t_now_seed v_t_now_ways v_t_now_distances v_t_now_kind v_t_now_a v_t_now_home v_t_now_aim v_t_now_at v_t_future_places v_t_future_people v_t_future_hour v_t_future_chance v_t_future_seed v_t_future_ways v_t_future_distances v_t_future_kind v_t_future_a v_t_future_home v_t_future_aim v_t_future_at v_t_refusals p0 p1 = some (r_, n_t_future_places, n_t_future_people, n_t_future_hour, n_t_future_chance, n_t_future_seed, n_t_future_ways, n_t_future_distances, n_t_future_kind, n_t_future_a, n_t_future_home, n_t_future_aim, n_t_future_at, n_t_refusals)) : Met l yX7_where wsX7_where ({ frames := 6, cells := 0, slots := 0, locals := 136 }) (va_Pc [.ref q_t, .int p0, .int p1] (fun U => U.heap.size = sz ∧ va_P D vwCl [(q_t, oX7 q_t_now q_t_future q_t_draft q_t_kept v_t_isKept q_t_shelves q_t_tape q_t_reader q_t_hiddenWay q_t_sights q_t_choice q_t_refusals), (q_t_now, oX5 v_t_now_places q_t_now_ways q_t_now_distances v_t_now_people q_t_now_kind q_t_now_a q_t_now_home q_t_now_aim q_t_now_at v_t_now_hour v_t_now_chance v_t_now_seed), (q_t_now_ways, .inl (cy 0, 12, .inl v_t_now_ways)), (q_t_now_distances, .inl (cy 0, 144, .inl v_t_now_distances)), (q_t_now_kind, .inl (cy 0, 8, .inl v_t_now_kind)), (q_t_now_a, .inl (cy 0, 8, .inl v_t_now_a)), (q_t_now_home, .inl (cy 0, 8, .inl v_t_now_home)), (q_t_now_aim, .inl (cy 0, 8, .inl v_t_now_aim)), (q_t_now_at, .inl (cy 0, 8, .inl v_t_now_at)), (q_t_future, oX5 v_t_future_places q_t_future_ways q_t_future_distances v_t_future_people q_t_future_kind q_t_future_a q_t_future_home q_t_future_aim q_t_future_at v_t_future_hour v_t_future_chance v_t_future_seed), (q_t_future_ways, .inl (cy 0, 12, .inl v_t_future_ways)), (q_t_future_distances, .inl (cy 0, 144, .inl v_t_future_distances)), (q_t_future_kind, .inl (cy 0, 8, .inl v_t_future_kind)), (q_t_future_a, .inl (cy 0, 8, .inl v_t_future_a)), (q_t_future_home, .inl (cy 0, 8, .inl v_t_future_home)), (q_t_future_aim, .inl (cy 0, 8, .inl v_t_future_aim)), (q_t_future_at, .inl (cy 0, 8, .inl v_t_future_at)), (q_t_refusals, .inl (cy 0, 5, .inl v_t_refusals))] U.heap ∧ xK D cy U ∧ va_D (fun _ => True) [(q_t, oX7 q_t_now q_t_future q_t_draft q_t_kept v_t_isKept q_t_shelves q_t_tape q_t_reader q_t_hiddenWay q_t_sights q_t_choice q_t_refusals), (q_t_now, oX5 v_t_now_places q_t_now_ways q_t_now_distances v_t_now_people q_t_now_kind q_t_now_a q_t_now_home q_t_now_aim q_t_now_at v_t_now_hour v_t_now_chance v_t_now_seed), (q_t_now_ways, .inl (cy 0, 12, .inl v_t_now_ways)), (q_t_now_distances, .inl (cy 0, 144, .inl v_t_now_distances)), (q_t_now_kind, .inl (cy 0, 8, .inl v_t_now_kind)), (q_t_now_a, .inl (cy 0, 8, .inl v_t_now_a)), (q_t_now_home, .inl (cy 0, 8, .inl v_t_now_home)), (q_t_now_aim, .inl (cy 0, 8, .inl v_t_now_aim)), (q_t_now_at, .inl (cy 0, 8, .inl v_t_now_at)), (q_t_future, oX5 v_t_future_places q_t_future_ways q_t_future_distances v_t_future_people q_t_future_kind q_t_future_a q_t_future_home q_t_future_aim q_t_future_at v_t_future_hour v_t_future_chance v_t_future_seed), (q_t_future_ways, .inl (cy 0, 12, .inl v_t_future_ways)), (q_t_future_distances, .inl (cy 0, 144, .inl v_t_future_distances)), (q_t_future_kind, .inl (cy 0, 8, .inl v_t_future_kind)), (q_t_future_a, .inl (cy 0, 8, .inl v_t_future_a)), (q_t_future_home, .inl (cy 0, 8, .inl v_t_future_home)), (q_t_future_aim, .inl (cy 0, 8, .inl v_t_future_aim)), (q_t_future_at, .inl (cy 0, 8, .inl v_t_future_at)), (q_t_refusals, .inl (cy 0, 5, .inl v_t_refusals))])) (va_Qi (fun (x : Int32) (_ : Unit) => x = r_) (fun _ t => va_P D vwCl [(q_t, oX7 q_t_now q_t_future q_t_draft q_t_kept v_t_isKept q_t_shelves q_t_tape q_t_reader q_t_hiddenWay q_t_sights q_t_choice q_t_refusals), (q_t_now, oX5 v_t_now_places q_t_now_ways q_t_now_distances v_t_now_people q_t_now_kind q_t_now_a q_t_now_home q_t_now_aim q_t_now_at v_t_now_hour v_t_now_chance v_t_now_seed), (q_t_now_ways, .inl (cy 0, 12, .inl v_t_now_ways)), (q_t_now_distances, .inl (cy 0, 144, .inl v_t_now_distances)), (q_t_now_kind, .inl (cy 0, 8, .inl v_t_now_kind)), (q_t_now_a, .inl (cy 0, 8, .inl v_t_now_a)), (q_t_now_home, .inl (cy 0, 8, .inl v_t_now_home)), (q_t_now_aim, .inl (cy 0, 8, .inl v_t_now_aim)), (q_t_now_at, .inl (cy 0, 8, .inl v_t_now_at)), (q_t_future, oX5 n_t_future_places q_t_future_ways q_t_future_distances n_t_future_people q_t_future_kind q_t_future_a q_t_future_home q_t_future_aim q_t_future_at n_t_future_hour n_t_future_chance n_t_future_seed), (q_t_future_ways, .inl (cy 0, 12, .inl n_t_future_ways)), (q_t_future_distances, .inl (cy 0, 144, .inl n_t_future_distances)), (q_t_future_kind, .inl (cy 0, 8, .inl n_t_future_kind)), (q_t_future_a, .inl (cy 0, 8, .inl n_t_future_a)), (q_t_future_home, .inl (cy 0, 8, .inl n_t_future_home)), (q_t_future_aim, .inl (cy 0, 8, .inl n_t_future_aim)), (q_t_future_at, .inl (cy 0, 8, .inl n_t_future_at)), (q_t_refusals, .inl (cy 0, 5, .inl n_t_refusals))] t.heap) (va_A [(q_t, oX7 q_t_now q_t_future q_t_draft q_t_kept v_t_isKept q_t_shelves q_t_tape q_t_reader q_t_hiddenWay q_t_sights q_t_choice q_t_refusals), (q_t_now, oX5 v_t_now_places q_t_now_ways q_t_now_distances v_t_now_people q_t_now_kind q_t_now_a q_t_now_home q_t_now_aim q_t_now_at v_t_now_hour v_t_now_chance v_t_now_seed), (q_t_now_ways, .inl (cy 0, 12, .inl v_t_now_ways)), (q_t_now_distances, .inl (cy 0, 144, .inl v_t_now_distances)), (q_t_now_kind, .inl (cy 0, 8, .inl v_t_now_kind)), (q_t_now_a, .inl (cy 0, 8, .inl v_t_now_a)), (q_t_now_home, .inl (cy 0, 8, .inl v_t_now_home)), (q_t_now_aim, .inl (cy 0, 8, .inl v_t_now_aim)), (q_t_now_at, .inl (cy 0, 8, .inl v_t_now_at)), (q_t_future, oX5 v_t_future_places q_t_future_ways q_t_future_distances v_t_future_people q_t_future_kind q_t_future_a q_t_future_home q_t_future_aim q_t_future_at v_t_future_hour v_t_future_chance v_t_future_seed), (q_t_future_ways, .inl (cy 0, 12, .inl v_t_future_ways)), (q_t_future_distances, .inl (cy 0, 144, .inl v_t_future_distances)), (q_t_future_kind, .inl (cy 0, 8, .inl v_t_future_kind)), (q_t_future_a, .inl (cy 0, 8, .inl v_t_future_a)), (q_t_future_home, .inl (cy 0, 8, .inl v_t_future_home)), (q_t_future_aim, .inl (cy 0, 8, .inl v_t_future_aim)), (q_t_future_at, .inl (cy 0, 8, .inl v_t_future_at)), (q_t_refusals, .inl (cy 0, 5, .inl v_t_refusals))] sz)) 0 0 (va_A [(q_t, oX7 q_t_now q_t_future q_t_draft q_t_kept v_t_isKept q_t_shelves q_t_tape q_t_reader q_t_hiddenWay q_t_sights q_t_choice q_t_refusals), (q_t_now, oX5 v_t_now_places q_t_now_ways q_t_now_distances v_t_now_people q_t_now_kind q_t_now_a q_t_now_home q_t_now_aim q_t_now_at v_t_now_hour v_t_now_chance v_t_now_seed), (q_t_now_ways, .inl (cy 0, 12, .inl v_t_now_ways)), (q_t_now_distances, .inl (cy 0, 144, .inl v_t_now_distances)), (q_t_now_kind, .inl (cy 0, 8, .inl v_t_now_kind)), (q_t_now_a, .inl (cy 0, 8, .inl v_t_now_a)), (q_t_now_home, .inl (cy 0, 8, .inl v_t_now_home)), (q_t_now_aim, .inl (cy 0, 8, .inl v_t_now_aim)), (q_t_now_at, .inl (cy 0, 8, .inl v_t_now_at)), (q_t_future, oX5 v_t_future_places q_t_future_ways q_t_future_distances v_t_future_people q_t_future_kind q_t_future_a q_t_future_home q_t_future_aim q_t_future_at v_t_future_hour v_t_future_chance v_t_future_seed), (q_t_future_ways, .inl (cy 0, 12, .inl v_t_future_ways)), (q_t_future_distances, .inl (cy 0, 144, .inl v_t_future_distances)), (q_t_future_kind, .inl (cy 0, 8, .inl v_t_future_kind)), (q_t_future_a, .inl (cy 0, 8, .inl v_t_future_a)), (q_t_future_home, .inl (cy 0, 8, .inl v_t_future_home)), (q_t_future_aim, .inl (cy 0, 8, .inl v_t_future_aim)), (q_t_future_at, .inl (cy 0, 8, .inl v_t_future_at)), (q_t_refusals, .inl (cy 0, 5, .inl v_t_refusals))] sz) := by
  refine Met.ofW (cc := cX7_where) (maxL := 3) (ret := (some .int)) (by decide) rfl ?_
  intro p e s m args below meth c s₁ B hml hv
  obtain ⟨rfl, hsz, hP, hK, hD0⟩ := hv
  have hx := B.exec
  have hb := B.bytes
  have hr := B.returns
  have hts := atoms_spec (ws := wsX7_where) B.pre
  have hown : s.vm.findClass RX7 = some m.cls := findClass_of_methodNamed B.named
  have hlocks := B.notSynchronized
  subst hsz
  have hD := hD0.self (sz := s.heap.size)
  generalize hAe : va_A [(q_t, oX7 q_t_now q_t_future q_t_draft q_t_kept v_t_isKept q_t_shelves q_t_tape q_t_reader q_t_hiddenWay q_t_sights q_t_choice q_t_refusals), (q_t_now, oX5 v_t_now_places q_t_now_ways q_t_now_distances v_t_now_people q_t_now_kind q_t_now_a q_t_now_home q_t_now_aim q_t_now_at v_t_now_hour v_t_now_chance v_t_now_seed), (q_t_now_ways, .inl (cy 0, 12, .inl v_t_now_ways)), (q_t_now_distances, .inl (cy 0, 144, .inl v_t_now_distances)), (q_t_now_kind, .inl (cy 0, 8, .inl v_t_now_kind)), (q_t_now_a, .inl (cy 0, 8, .inl v_t_now_a)), (q_t_now_home, .inl (cy 0, 8, .inl v_t_now_home)), (q_t_now_aim, .inl (cy 0, 8, .inl v_t_now_aim)), (q_t_now_at, .inl (cy 0, 8, .inl v_t_now_at)), (q_t_future, oX5 v_t_future_places q_t_future_ways q_t_future_distances v_t_future_people q_t_future_kind q_t_future_a q_t_future_home q_t_future_aim q_t_future_at v_t_future_hour v_t_future_chance v_t_future_seed), (q_t_future_ways, .inl (cy 0, 12, .inl v_t_future_ways)), (q_t_future_distances, .inl (cy 0, 144, .inl v_t_future_distances)), (q_t_future_kind, .inl (cy 0, 8, .inl v_t_future_kind)), (q_t_future_a, .inl (cy 0, 8, .inl v_t_future_a)), (q_t_future_home, .inl (cy 0, 8, .inl v_t_future_home)), (q_t_future_aim, .inl (cy 0, 8, .inl v_t_future_aim)), (q_t_future_at, .inl (cy 0, 8, .inl v_t_future_at)), (q_t_refusals, .inl (cy 0, 5, .inl v_t_refusals))] s.heap.size = A at hD ⊢
  have hA : ∀ q : Nat, s.heap.size ≤ q → A q := fun q h => by rw [← hAe]; exact Or.inr h
  have hS : va_S A s.heap s.heap [] := va_S.rf
  have hP : va_P D vwCl [(q_t, oX7 q_t_now q_t_future q_t_draft q_t_kept v_t_isKept q_t_shelves q_t_tape q_t_reader q_t_hiddenWay q_t_sights q_t_choice q_t_refusals), (q_t_now, oX5 v_t_now_places q_t_now_ways q_t_now_distances v_t_now_people q_t_now_kind q_t_now_a q_t_now_home q_t_now_aim q_t_now_at v_t_now_hour v_t_now_chance v_t_now_seed), (q_t_now_ways, .inl (cy 0, 12, .inl v_t_now_ways)), (q_t_now_distances, .inl (cy 0, 144, .inl v_t_now_distances)), (q_t_now_kind, .inl (cy 0, 8, .inl v_t_now_kind)), (q_t_now_a, .inl (cy 0, 8, .inl v_t_now_a)), (q_t_now_home, .inl (cy 0, 8, .inl v_t_now_home)), (q_t_now_aim, .inl (cy 0, 8, .inl v_t_now_aim)), (q_t_now_at, .inl (cy 0, 8, .inl v_t_now_at)), (q_t_future, oX5 v_t_future_places q_t_future_ways q_t_future_distances v_t_future_people q_t_future_kind q_t_future_a q_t_future_home q_t_future_aim q_t_future_at v_t_future_hour v_t_future_chance v_t_future_seed), (q_t_future_ways, .inl (cy 0, 12, .inl v_t_future_ways)), (q_t_future_distances, .inl (cy 0, 144, .inl v_t_future_distances)), (q_t_future_kind, .inl (cy 0, 8, .inl v_t_future_kind)), (q_t_future_a, .inl (cy 0, 8, .inl v_t_future_a)), (q_t_future_home, .inl (cy 0, 8, .inl v_t_future_home)), (q_t_future_aim, .inl (cy 0, 8, .inl v_t_future_aim)), (q_t_future_at, .inl (cy 0, 8, .inl v_t_future_at)), (q_t_refusals, .inl (cy 0, 5, .inl v_t_refusals))] s.heap := hP
  have hinX7 : ∀ w ∈ u_ws RX7 TX7 12, w ∈ wsX7_where := by decide +kernel
  have hk16 := hts (.fieldLink RX7 16 "ShowsWhereNobodyIs" "future" "LShowsWhereNobodyIs$Town;") (by decide +kernel)
  have hinX5 : ∀ w ∈ u_ws RX5 TX5 12, w ∈ wsX7_where := by decide +kernel
  have hk149 := hts (.fieldLink RX7 149 "ShowsWhereNobodyIs$Town" "at" "[I") (by decide +kernel)
  have hl := lv_entry ([.ref q_t, .int p0, .int p1]) (n := 3) (Nat.le_of_ble_eq_true rfl)
  rw [lg_entry_eq]
  generalize (lg_sl ([.ref q_t, .int p0, .int p1]) ++ List.replicate (3 - (lg_sl ([.ref q_t, .int p0, .int p1])).length) Slot.unset).toArray = ls at hl ⊢
  have hl : lv_has ls 3 [(0, .ref q_t), (1, .int p0), (2, .int p1)] := hl
  unfold fX7_where at hf
  refine lv_aload_n hx hb dX7_where_0 rfl (lv_at hl 0 rfl) ?_
  refine lv_iload_n hx hb dX7_where_1 rfl (lv_at hl 1 rfl) ?_
  obtain ⟨r1, hr2, hf⟩ := boE1 hf
  have hPc := hP.sub (ws' := [(q_t, oX7 q_t_now q_t_future q_t_draft q_t_kept v_t_isKept q_t_shelves q_t_tape q_t_reader q_t_hiddenWay q_t_sights q_t_choice q_t_refusals), (q_t_now, oX5 v_t_now_places q_t_now_ways q_t_now_distances v_t_now_people q_t_now_kind q_t_now_a q_t_now_home q_t_now_aim q_t_now_at v_t_now_hour v_t_now_chance v_t_now_seed)]) [0, 1] rfl
  refine xcSi (va_runV (As := [.int p0]) (rest := []) ⟨hx, hb, hml, hown, hts⟩ (mX7_isPerson l D cy q_t q_t_now q_t_future q_t_draft q_t_kept q_t_shelves q_t_tape q_t_reader q_t_hiddenWay q_t_sights q_t_choice q_t_refusals q_t_now_ways q_t_now_distances q_t_now_kind q_t_now_a q_t_now_home q_t_now_aim q_t_now_at v_t_isKept v_t_now_places v_t_now_people v_t_now_hour v_t_now_chance v_t_now_seed  p0 hr2) (cwV 1 hts gX7_where_X7_isPerson rfl rfl rfl (by decide +kernel) ⟨Nat.le_of_ble_eq_true rfl, Nat.le_of_ble_eq_true rfl⟩) (xPV hK hPc (ci := 7) (q0 := 0) rfl rfl) rfl rfl hl.1 rfl (lv_room (Nat.le_of_ble_eq_true rfl)) dX7_where_2 ⟨Nat.le_of_ble_eq_true rfl, Nat.le_of_ble_eq_true rfl⟩) ?_
  refine jww0 15 [] (fun  H locs ls => va_P D vwCl [(q_t, oX7 q_t_now q_t_future q_t_draft q_t_kept v_t_isKept q_t_shelves q_t_tape q_t_reader q_t_hiddenWay q_t_sights q_t_choice q_t_refusals), (q_t_now, oX5 v_t_now_places q_t_now_ways q_t_now_distances v_t_now_people q_t_now_kind q_t_now_a q_t_now_home q_t_now_aim q_t_now_at v_t_now_hour v_t_now_chance v_t_now_seed), (q_t_now_ways, .inl (cy 0, 12, .inl v_t_now_ways)), (q_t_now_distances, .inl (cy 0, 144, .inl v_t_now_distances)), (q_t_now_kind, .inl (cy 0, 8, .inl v_t_now_kind)), (q_t_now_a, .inl (cy 0, 8, .inl v_t_now_a)), (q_t_now_home, .inl (cy 0, 8, .inl v_t_now_home)), (q_t_now_aim, .inl (cy 0, 8, .inl v_t_now_aim)), (q_t_now_at, .inl (cy 0, 8, .inl v_t_now_at)), (q_t_future, oX5 v_t_future_places q_t_future_ways q_t_future_distances v_t_future_people q_t_future_kind q_t_future_a q_t_future_home q_t_future_aim q_t_future_at v_t_future_hour v_t_future_chance v_t_future_seed), (q_t_future_ways, .inl (cy 0, 12, .inl v_t_future_ways)), (q_t_future_distances, .inl (cy 0, 144, .inl v_t_future_distances)), (q_t_future_kind, .inl (cy 0, 8, .inl v_t_future_kind)), (q_t_future_a, .inl (cy 0, 8, .inl v_t_future_a)), (q_t_future_home, .inl (cy 0, 8, .inl v_t_future_home)), (q_t_future_aim, .inl (cy 0, 8, .inl v_t_future_aim)), (q_t_future_at, .inl (cy 0, 8, .inl v_t_future_at)), (q_t_refusals, .inl (cy 0, 5, .inl v_t_refusals))] H ∧ va_D A [(q_t, oX7 q_t_now q_t_future q_t_draft q_t_kept v_t_isKept q_t_shelves q_t_tape q_t_reader q_t_hiddenWay q_t_sights q_t_choice q_t_refusals), (q_t_now, oX5 v_t_now_places q_t_now_ways q_t_now_distances v_t_now_people q_t_now_kind q_t_now_a q_t_now_home q_t_now_aim q_t_now_at v_t_now_hour v_t_now_chance v_t_now_seed), (q_t_now_ways, .inl (cy 0, 12, .inl v_t_now_ways)), (q_t_now_distances, .inl (cy 0, 144, .inl v_t_now_distances)), (q_t_now_kind, .inl (cy 0, 8, .inl v_t_now_kind)), (q_t_now_a, .inl (cy 0, 8, .inl v_t_now_a)), (q_t_now_home, .inl (cy 0, 8, .inl v_t_now_home)), (q_t_now_aim, .inl (cy 0, 8, .inl v_t_now_aim)), (q_t_now_at, .inl (cy 0, 8, .inl v_t_now_at)), (q_t_future, oX5 v_t_future_places q_t_future_ways q_t_future_distances v_t_future_people q_t_future_kind q_t_future_a q_t_future_home q_t_future_aim q_t_future_at v_t_future_hour v_t_future_chance v_t_future_seed), (q_t_future_ways, .inl (cy 0, 12, .inl v_t_future_ways)), (q_t_future_distances, .inl (cy 0, 144, .inl v_t_future_distances)), (q_t_future_kind, .inl (cy 0, 8, .inl v_t_future_kind)), (q_t_future_a, .inl (cy 0, 8, .inl v_t_future_a)), (q_t_future_home, .inl (cy 0, 8, .inl v_t_future_home)), (q_t_future_aim, .inl (cy 0, 8, .inl v_t_future_aim)), (q_t_future_at, .inl (cy 0, 8, .inl v_t_future_at)), (q_t_refusals, .inl (cy 0, 5, .inl v_t_refusals))] ∧ va_S A s.heap H locs ∧ lv_has ls 3 [(0, .ref q_t)]) hf (fun  H locs ls hI hf => ?_) (fun k3 J15 hf => ?_)
  · obtain ⟨hP, hD, hS, hl⟩ := hI
    refine lv_aload_n hx hb dX7_where_15 rfl (lv_at hl 0 rfl) ?_
    refine lv_bipush (v := (-2)) hx hb dX7_where_16 (by decide) ?_
    obtain ⟨r4, u5, hr6, hf⟩ := boE2 hf
    have hPc := hP.sub (ws' := [(q_t, oX7 q_t_now q_t_future q_t_draft q_t_kept v_t_isKept q_t_shelves q_t_tape q_t_reader q_t_hiddenWay q_t_sights q_t_choice q_t_refusals), (q_t_refusals, .inl (cy 0, 5, .inl v_t_refusals))]) [0, 17] rfl
    have hDc := hD.sub (ws' := [(q_t, oX7 q_t_now q_t_future q_t_draft q_t_kept v_t_isKept q_t_shelves q_t_tape q_t_reader q_t_hiddenWay q_t_sights q_t_choice q_t_refusals), (q_t_refusals, .inl (cy 0, 5, .inl v_t_refusals))]) [0, 17] (by decide) rfl
    refine xcQi (w1 := [(q_t, oX7 q_t_now q_t_future q_t_draft q_t_kept v_t_isKept q_t_shelves q_t_tape q_t_reader q_t_hiddenWay q_t_sights q_t_choice q_t_refusals), (q_t_refusals, .inl (cy 0, 5, .inl u5))]) (va_runV (As := [.int (-2 : Int32)]) (rest := []) ⟨hx, hb, hml, hown, hts⟩ (mX7_refuse l D cy q_t q_t_now q_t_future q_t_draft q_t_kept q_t_shelves q_t_tape q_t_reader q_t_hiddenWay q_t_sights q_t_choice q_t_refusals v_t_isKept v_t_refusals _ (-2 : Int32) hr6) (cwV 1 hts gX7_where_X7_refuse rfl rfl rfl (by decide +kernel) ⟨Nat.le_of_ble_eq_true rfl, Nat.le_of_ble_eq_true rfl⟩) (xPVw hK hPc hDc (ci := 7) (q0 := 0) rfl rfl) rfl rfl hl.1 rfl (lv_room (Nat.le_of_ble_eq_true rfl)) dX7_where_18 ⟨Nat.le_of_ble_eq_true rfl, Nat.le_of_ble_eq_true rfl⟩) hP hD hS hA [0, 17] rfl rfl (fun H locs hP hD hS => ?_)
    have hP : va_P D vwCl [(q_t, oX7 q_t_now q_t_future q_t_draft q_t_kept v_t_isKept q_t_shelves q_t_tape q_t_reader q_t_hiddenWay q_t_sights q_t_choice q_t_refusals), (q_t_now, oX5 v_t_now_places q_t_now_ways q_t_now_distances v_t_now_people q_t_now_kind q_t_now_a q_t_now_home q_t_now_aim q_t_now_at v_t_now_hour v_t_now_chance v_t_now_seed), (q_t_now_ways, .inl (cy 0, 12, .inl v_t_now_ways)), (q_t_now_distances, .inl (cy 0, 144, .inl v_t_now_distances)), (q_t_now_kind, .inl (cy 0, 8, .inl v_t_now_kind)), (q_t_now_a, .inl (cy 0, 8, .inl v_t_now_a)), (q_t_now_home, .inl (cy 0, 8, .inl v_t_now_home)), (q_t_now_aim, .inl (cy 0, 8, .inl v_t_now_aim)), (q_t_now_at, .inl (cy 0, 8, .inl v_t_now_at)), (q_t_future, oX5 v_t_future_places q_t_future_ways q_t_future_distances v_t_future_people q_t_future_kind q_t_future_a q_t_future_home q_t_future_aim q_t_future_at v_t_future_hour v_t_future_chance v_t_future_seed), (q_t_future_ways, .inl (cy 0, 12, .inl v_t_future_ways)), (q_t_future_distances, .inl (cy 0, 144, .inl v_t_future_distances)), (q_t_future_kind, .inl (cy 0, 8, .inl v_t_future_kind)), (q_t_future_a, .inl (cy 0, 8, .inl v_t_future_a)), (q_t_future_home, .inl (cy 0, 8, .inl v_t_future_home)), (q_t_future_aim, .inl (cy 0, 8, .inl v_t_future_aim)), (q_t_future_at, .inl (cy 0, 8, .inl v_t_future_at)), (q_t_refusals, .inl (cy 0, 5, .inl u5))] H := hP
    have hD : va_D A [(q_t, oX7 q_t_now q_t_future q_t_draft q_t_kept v_t_isKept q_t_shelves q_t_tape q_t_reader q_t_hiddenWay q_t_sights q_t_choice q_t_refusals), (q_t_now, oX5 v_t_now_places q_t_now_ways q_t_now_distances v_t_now_people q_t_now_kind q_t_now_a q_t_now_home q_t_now_aim q_t_now_at v_t_now_hour v_t_now_chance v_t_now_seed), (q_t_now_ways, .inl (cy 0, 12, .inl v_t_now_ways)), (q_t_now_distances, .inl (cy 0, 144, .inl v_t_now_distances)), (q_t_now_kind, .inl (cy 0, 8, .inl v_t_now_kind)), (q_t_now_a, .inl (cy 0, 8, .inl v_t_now_a)), (q_t_now_home, .inl (cy 0, 8, .inl v_t_now_home)), (q_t_now_aim, .inl (cy 0, 8, .inl v_t_now_aim)), (q_t_now_at, .inl (cy 0, 8, .inl v_t_now_at)), (q_t_future, oX5 v_t_future_places q_t_future_ways q_t_future_distances v_t_future_people q_t_future_kind q_t_future_a q_t_future_home q_t_future_aim q_t_future_at v_t_future_hour v_t_future_chance v_t_future_seed), (q_t_future_ways, .inl (cy 0, 12, .inl v_t_future_ways)), (q_t_future_distances, .inl (cy 0, 144, .inl v_t_future_distances)), (q_t_future_kind, .inl (cy 0, 8, .inl v_t_future_kind)), (q_t_future_a, .inl (cy 0, 8, .inl v_t_future_a)), (q_t_future_home, .inl (cy 0, 8, .inl v_t_future_home)), (q_t_future_aim, .inl (cy 0, 8, .inl v_t_future_aim)), (q_t_future_at, .inl (cy 0, 8, .inl v_t_future_at)), (q_t_refusals, .inl (cy 0, 5, .inl u5))] := hD
    have hg0 := Option.some.inj hf
    obtain ⟨ee0, hg1⟩ := Prod.mk.inj hg0
    obtain ⟨ee1, hg2⟩ := Prod.mk.inj hg1
    obtain ⟨ee2, hg3⟩ := Prod.mk.inj hg2
    obtain ⟨ee3, hg4⟩ := Prod.mk.inj hg3
    obtain ⟨ee4, hg5⟩ := Prod.mk.inj hg4
    obtain ⟨ee5, hg6⟩ := Prod.mk.inj hg5
    obtain ⟨ee6, hg7⟩ := Prod.mk.inj hg6
    obtain ⟨ee7, hg8⟩ := Prod.mk.inj hg7
    obtain ⟨ee8, hg9⟩ := Prod.mk.inj hg8
    obtain ⟨ee9, hg10⟩ := Prod.mk.inj hg9
    obtain ⟨ee10, hg11⟩ := Prod.mk.inj hg10
    obtain ⟨ee11, hg12⟩ := Prod.mk.inj hg11
    obtain ⟨ee12, hg13⟩ := Prod.mk.inj hg12
    clear hf hg0 hg1 hg2 hg3 hg4 hg5 hg6 hg7 hg8 hg9 hg10 hg11 hg12
    subst ee0
    subst ee1
    subst ee2
    subst ee3
    subst ee4
    subst ee5
    subst ee6
    subst ee7
    subst ee8
    subst ee9
    subst ee10
    subst ee11
    subst ee12
    subst hg13
    exact W.iret hx hb hr (fun t ht hW => ⟨⟨_, (), rfl, rfl, xend ht hP⟩, hS.F ht⟩) hS.2.2 dX7_where_21
  · refine lv_if_eq (tgt := 15) hx hb dX7_where_5 (by decide) (fun c24 => ?_) (fun c24 => ?_)
    · have hf := ifT hf c24
      clear c24
      exact J15 _ _ ls ⟨hP, hD, hS, lv_sub hl [0] rfl⟩ hf
    · have hf := ifF hf c24
      clear c24
      refine lv_iload_n hx hb dX7_where_8 rfl (lv_at hl 2 rfl) ?_
      obtain ⟨r7, hr8, hf⟩ := boE1 hf
      have hPc := hP.sub (ws' := []) [] rfl
      refine xcSi (va_runS (As := [.int p1]) (rest := []) ⟨hx, hb, hml, hown, hts⟩ (mX7_isAhead l D cy    p1 hr8) (va_cwS 1 hts gX7_where_X7_isAhead rfl rfl rfl (by decide +kernel) ⟨Nat.le_of_ble_eq_true rfl, Nat.le_of_ble_eq_true rfl⟩) (xPS hK hPc) rfl rfl hl.1 rfl (lv_room (Nat.le_of_ble_eq_true rfl)) dX7_where_9 ⟨Nat.le_of_ble_eq_true rfl, Nat.le_of_ble_eq_true rfl⟩) ?_
      refine lv_if_ne (tgt := 22) hx hb dX7_where_12 (by decide) (fun c23 => ?_) (fun c23 => ?_)
      · have hf := ifF hf c23
        clear c23
        refine lv_aload_n hx hb dX7_where_22 rfl (lv_at hl 0 rfl) ?_
        refine lv_iload_n hx hb dX7_where_23 rfl (lv_at hl 2 rfl) ?_
        obtain ⟨u9, u10, u11, u12, u13, u14, u15, u16, u17, u18, u19, u20, hr21, hf⟩ := boE12 hf
        have hPc := hP.sub (ws' := [(q_t, oX7 q_t_now q_t_future q_t_draft q_t_kept v_t_isKept q_t_shelves q_t_tape q_t_reader q_t_hiddenWay q_t_sights q_t_choice q_t_refusals), (q_t_now, oX5 v_t_now_places q_t_now_ways q_t_now_distances v_t_now_people q_t_now_kind q_t_now_a q_t_now_home q_t_now_aim q_t_now_at v_t_now_hour v_t_now_chance v_t_now_seed), (q_t_now_ways, .inl (cy 0, 12, .inl v_t_now_ways)), (q_t_now_distances, .inl (cy 0, 144, .inl v_t_now_distances)), (q_t_now_kind, .inl (cy 0, 8, .inl v_t_now_kind)), (q_t_now_a, .inl (cy 0, 8, .inl v_t_now_a)), (q_t_now_home, .inl (cy 0, 8, .inl v_t_now_home)), (q_t_now_aim, .inl (cy 0, 8, .inl v_t_now_aim)), (q_t_now_at, .inl (cy 0, 8, .inl v_t_now_at)), (q_t_future, oX5 v_t_future_places q_t_future_ways q_t_future_distances v_t_future_people q_t_future_kind q_t_future_a q_t_future_home q_t_future_aim q_t_future_at v_t_future_hour v_t_future_chance v_t_future_seed), (q_t_future_ways, .inl (cy 0, 12, .inl v_t_future_ways)), (q_t_future_distances, .inl (cy 0, 144, .inl v_t_future_distances)), (q_t_future_kind, .inl (cy 0, 8, .inl v_t_future_kind)), (q_t_future_a, .inl (cy 0, 8, .inl v_t_future_a)), (q_t_future_home, .inl (cy 0, 8, .inl v_t_future_home)), (q_t_future_aim, .inl (cy 0, 8, .inl v_t_future_aim)), (q_t_future_at, .inl (cy 0, 8, .inl v_t_future_at))]) [0, 1, 2, 3, 4, 5, 6, 7, 8, 9, 10, 11, 12, 13, 14, 15, 16] rfl
        have hDc := hD.sub (ws' := [(q_t, oX7 q_t_now q_t_future q_t_draft q_t_kept v_t_isKept q_t_shelves q_t_tape q_t_reader q_t_hiddenWay q_t_sights q_t_choice q_t_refusals), (q_t_now, oX5 v_t_now_places q_t_now_ways q_t_now_distances v_t_now_people q_t_now_kind q_t_now_a q_t_now_home q_t_now_aim q_t_now_at v_t_now_hour v_t_now_chance v_t_now_seed), (q_t_now_ways, .inl (cy 0, 12, .inl v_t_now_ways)), (q_t_now_distances, .inl (cy 0, 144, .inl v_t_now_distances)), (q_t_now_kind, .inl (cy 0, 8, .inl v_t_now_kind)), (q_t_now_a, .inl (cy 0, 8, .inl v_t_now_a)), (q_t_now_home, .inl (cy 0, 8, .inl v_t_now_home)), (q_t_now_aim, .inl (cy 0, 8, .inl v_t_now_aim)), (q_t_now_at, .inl (cy 0, 8, .inl v_t_now_at)), (q_t_future, oX5 v_t_future_places q_t_future_ways q_t_future_distances v_t_future_people q_t_future_kind q_t_future_a q_t_future_home q_t_future_aim q_t_future_at v_t_future_hour v_t_future_chance v_t_future_seed), (q_t_future_ways, .inl (cy 0, 12, .inl v_t_future_ways)), (q_t_future_distances, .inl (cy 0, 144, .inl v_t_future_distances)), (q_t_future_kind, .inl (cy 0, 8, .inl v_t_future_kind)), (q_t_future_a, .inl (cy 0, 8, .inl v_t_future_a)), (q_t_future_home, .inl (cy 0, 8, .inl v_t_future_home)), (q_t_future_aim, .inl (cy 0, 8, .inl v_t_future_aim)), (q_t_future_at, .inl (cy 0, 8, .inl v_t_future_at))]) [0, 1, 2, 3, 4, 5, 6, 7, 8, 9, 10, 11, 12, 13, 14, 15, 16] (by decide) rfl
        refine xcQv (w1 := [(q_t, oX7 q_t_now q_t_future q_t_draft q_t_kept v_t_isKept q_t_shelves q_t_tape q_t_reader q_t_hiddenWay q_t_sights q_t_choice q_t_refusals), (q_t_now, oX5 v_t_now_places q_t_now_ways q_t_now_distances v_t_now_people q_t_now_kind q_t_now_a q_t_now_home q_t_now_aim q_t_now_at v_t_now_hour v_t_now_chance v_t_now_seed), (q_t_now_ways, .inl (cy 0, 12, .inl v_t_now_ways)), (q_t_now_distances, .inl (cy 0, 144, .inl v_t_now_distances)), (q_t_now_kind, .inl (cy 0, 8, .inl v_t_now_kind)), (q_t_now_a, .inl (cy 0, 8, .inl v_t_now_a)), (q_t_now_home, .inl (cy 0, 8, .inl v_t_now_home)), (q_t_now_aim, .inl (cy 0, 8, .inl v_t_now_aim)), (q_t_now_at, .inl (cy 0, 8, .inl v_t_now_at)), (q_t_future, oX5 u9 q_t_future_ways q_t_future_distances u10 q_t_future_kind q_t_future_a q_t_future_home q_t_future_aim q_t_future_at u11 u12 u13), (q_t_future_ways, .inl (cy 0, 12, .inl u14)), (q_t_future_distances, .inl (cy 0, 144, .inl u15)), (q_t_future_kind, .inl (cy 0, 8, .inl u16)), (q_t_future_a, .inl (cy 0, 8, .inl u17)), (q_t_future_home, .inl (cy 0, 8, .inl u18)), (q_t_future_aim, .inl (cy 0, 8, .inl u19)), (q_t_future_at, .inl (cy 0, 8, .inl u20))]) (va_runV (As := [.int p1]) (rest := []) ⟨hx, hb, hml, hown, hts⟩ (mX7_lookAhead l D cy q_t q_t_now q_t_future q_t_draft q_t_kept q_t_shelves q_t_tape q_t_reader q_t_hiddenWay q_t_sights q_t_choice q_t_refusals q_t_now_ways q_t_now_distances q_t_now_kind q_t_now_a q_t_now_home q_t_now_aim q_t_now_at q_t_future_ways q_t_future_distances q_t_future_kind q_t_future_a q_t_future_home q_t_future_aim q_t_future_at v_t_isKept v_t_now_places v_t_now_people v_t_now_hour v_t_now_chance v_t_now_seed v_t_now_ways v_t_now_distances v_t_now_kind v_t_now_a v_t_now_home v_t_now_aim v_t_now_at v_t_future_places v_t_future_people v_t_future_hour v_t_future_chance v_t_future_seed v_t_future_ways v_t_future_distances v_t_future_kind v_t_future_a v_t_future_home v_t_future_aim v_t_future_at _ p1 hr21) (cwV 1 hts gX7_where_X7_lookAhead rfl rfl rfl (by decide +kernel) ⟨Nat.le_of_ble_eq_true rfl, Nat.le_of_ble_eq_true rfl⟩) (xPVw hK hPc hDc (ci := 7) (q0 := 0) rfl rfl) rfl rfl hl.1 rfl (lv_room (Nat.le_of_ble_eq_true rfl)) dX7_where_24 ⟨Nat.le_of_ble_eq_true rfl, Nat.le_of_ble_eq_true rfl⟩) hP hD hS hA [0, 1, 2, 3, 4, 5, 6, 7, 8, 9, 10, 11, 12, 13, 14, 15, 16] rfl rfl (fun H locs hP hD hS => ?_)
        have hP : va_P D vwCl [(q_t, oX7 q_t_now q_t_future q_t_draft q_t_kept v_t_isKept q_t_shelves q_t_tape q_t_reader q_t_hiddenWay q_t_sights q_t_choice q_t_refusals), (q_t_now, oX5 v_t_now_places q_t_now_ways q_t_now_distances v_t_now_people q_t_now_kind q_t_now_a q_t_now_home q_t_now_aim q_t_now_at v_t_now_hour v_t_now_chance v_t_now_seed), (q_t_now_ways, .inl (cy 0, 12, .inl v_t_now_ways)), (q_t_now_distances, .inl (cy 0, 144, .inl v_t_now_distances)), (q_t_now_kind, .inl (cy 0, 8, .inl v_t_now_kind)), (q_t_now_a, .inl (cy 0, 8, .inl v_t_now_a)), (q_t_now_home, .inl (cy 0, 8, .inl v_t_now_home)), (q_t_now_aim, .inl (cy 0, 8, .inl v_t_now_aim)), (q_t_now_at, .inl (cy 0, 8, .inl v_t_now_at)), (q_t_future, oX5 u9 q_t_future_ways q_t_future_distances u10 q_t_future_kind q_t_future_a q_t_future_home q_t_future_aim q_t_future_at u11 u12 u13), (q_t_future_ways, .inl (cy 0, 12, .inl u14)), (q_t_future_distances, .inl (cy 0, 144, .inl u15)), (q_t_future_kind, .inl (cy 0, 8, .inl u16)), (q_t_future_a, .inl (cy 0, 8, .inl u17)), (q_t_future_home, .inl (cy 0, 8, .inl u18)), (q_t_future_aim, .inl (cy 0, 8, .inl u19)), (q_t_future_at, .inl (cy 0, 8, .inl u20)), (q_t_refusals, .inl (cy 0, 5, .inl v_t_refusals))] H := hP
        have hD : va_D A [(q_t, oX7 q_t_now q_t_future q_t_draft q_t_kept v_t_isKept q_t_shelves q_t_tape q_t_reader q_t_hiddenWay q_t_sights q_t_choice q_t_refusals), (q_t_now, oX5 v_t_now_places q_t_now_ways q_t_now_distances v_t_now_people q_t_now_kind q_t_now_a q_t_now_home q_t_now_aim q_t_now_at v_t_now_hour v_t_now_chance v_t_now_seed), (q_t_now_ways, .inl (cy 0, 12, .inl v_t_now_ways)), (q_t_now_distances, .inl (cy 0, 144, .inl v_t_now_distances)), (q_t_now_kind, .inl (cy 0, 8, .inl v_t_now_kind)), (q_t_now_a, .inl (cy 0, 8, .inl v_t_now_a)), (q_t_now_home, .inl (cy 0, 8, .inl v_t_now_home)), (q_t_now_aim, .inl (cy 0, 8, .inl v_t_now_aim)), (q_t_now_at, .inl (cy 0, 8, .inl v_t_now_at)), (q_t_future, oX5 u9 q_t_future_ways q_t_future_distances u10 q_t_future_kind q_t_future_a q_t_future_home q_t_future_aim q_t_future_at u11 u12 u13), (q_t_future_ways, .inl (cy 0, 12, .inl u14)), (q_t_future_distances, .inl (cy 0, 144, .inl u15)), (q_t_future_kind, .inl (cy 0, 8, .inl u16)), (q_t_future_a, .inl (cy 0, 8, .inl u17)), (q_t_future_home, .inl (cy 0, 8, .inl u18)), (q_t_future_aim, .inl (cy 0, 8, .inl u19)), (q_t_future_at, .inl (cy 0, 8, .inl u20)), (q_t_refusals, .inl (cy 0, 5, .inl v_t_refusals))] := hD
        refine lv_aload_n hx hb dX7_where_27 rfl (lv_at hl 0 rfl) ?_
        refine va_get (D := D) (ci := 7) (v := .ref q_t_future) (C := RX7) (T := TX7) (N := 12) hx hb hts hinX7 hown hK.1 hP 0 rfl rfl 1 (by decide) hk16 (fun _ h9 => h9) rfl dX7_where_28 ?_
        refine va_get (D := D) (ci := 5) (v := .ref q_t_future_at) (C := RX5) (T := TX5) (N := 12) hx hb hts hinX5 hown hK.1 hP 9 rfl rfl 8 (by decide) hk149 (fun _ h9 => h9) rfl dX7_where_31 ?_
        refine lv_iload_n hx hb dX7_where_34 rfl (lv_at hl 1 rfl) ?_
        obtain ⟨hi22, hf⟩ := ckE hf
        refine va_iald hx hb hK.1 hP 16 0 rfl rfl hi22 dX7_where_35 ?_
        have hg0 := Option.some.inj hf
        obtain ⟨ee0, hg1⟩ := Prod.mk.inj hg0
        obtain ⟨ee1, hg2⟩ := Prod.mk.inj hg1
        obtain ⟨ee2, hg3⟩ := Prod.mk.inj hg2
        obtain ⟨ee3, hg4⟩ := Prod.mk.inj hg3
        obtain ⟨ee4, hg5⟩ := Prod.mk.inj hg4
        obtain ⟨ee5, hg6⟩ := Prod.mk.inj hg5
        obtain ⟨ee6, hg7⟩ := Prod.mk.inj hg6
        obtain ⟨ee7, hg8⟩ := Prod.mk.inj hg7
        obtain ⟨ee8, hg9⟩ := Prod.mk.inj hg8
        obtain ⟨ee9, hg10⟩ := Prod.mk.inj hg9
        obtain ⟨ee10, hg11⟩ := Prod.mk.inj hg10
        obtain ⟨ee11, hg12⟩ := Prod.mk.inj hg11
        obtain ⟨ee12, hg13⟩ := Prod.mk.inj hg12
        clear hf hg0 hg1 hg2 hg3 hg4 hg5 hg6 hg7 hg8 hg9 hg10 hg11 hg12
        subst ee0
        subst ee1
        subst ee2
        subst ee3
        subst ee4
        subst ee5
        subst ee6
        subst ee7
        subst ee8
        subst ee9
        subst ee10
        subst ee11
        subst ee12
        subst hg13
        exact W.iret hx hb hr (fun t ht hW => ⟨⟨_, (), rfl, rfl, xend ht hP⟩, hS.F ht⟩) hS.2.2 dX7_where_36
      · have hf := ifT hf c23
        clear c23
        exact J15 _ _ ls ⟨hP, hD, hS, lv_sub hl [0] rfl⟩ hf
def fX7_shines (v_t_now_places : Int32) (v_t_now_people : Int32) (v_t_now_hour : Int32) (v_t_now_chance : Int32) (v_t_now_seed : Int32) (v_t_now_ways : Nat → Int32) (v_t_now_distances : Nat → Int32) (v_t_now_kind : Nat → Int32) (v_t_now_a : Nat → Int32) (v_t_now_home : Nat → Int32) (v_t_now_aim : Nat → Int32) (v_t_now_at : Nat → Int32) (v_t_future_places : Int32) (v_t_future_people : Int32) (v_t_future_hour : Int32) (v_t_future_chance : Int32) (v_t_future_seed : Int32) (v_t_future_ways : Nat → Int32) (v_t_future_distances : Nat → Int32) (v_t_future_kind : Nat → Int32) (v_t_future_a : Nat → Int32) (v_t_future_home : Nat → Int32) (v_t_future_aim : Nat → Int32) (v_t_future_at : Nat → Int32) (v_t_refusals : Nat → Int32) (p0 : Int32) (p1 : Int32) : Option (Int32 × Int32 × Int32 × Int32 × Int32 × Int32 × (Nat → Int32) × (Nat → Int32) × (Nat → Int32) × (Nat → Int32) × (Nat → Int32) × (Nat → Int32) × (Nat → Int32) × (Nat → Int32)) :=
  bo1 (fX7_isAhead p0) fun r1 =>
  jo0 (
    bo2 (fX7_refuse v_t_refusals (-2 : Int32)) fun r4 u5 =>
    some (r4, v_t_future_places, v_t_future_people, v_t_future_hour, v_t_future_chance, v_t_future_seed, v_t_future_ways, v_t_future_distances, v_t_future_kind, v_t_future_a, v_t_future_home, v_t_future_aim, v_t_future_at, u5)) fun k3 =>
  if r1 = 0 then
    k3
  else
    if p1 < 0 then
      k3
    else
      if p1 ≤ (2 : Int32) then
        bo12 (fX7_lookAhead v_t_now_places v_t_now_people v_t_now_hour v_t_now_chance v_t_now_seed v_t_now_ways v_t_now_distances v_t_now_kind v_t_now_a v_t_now_home v_t_now_aim v_t_now_at p0) fun u7 u8 u9 u10 u11 u12 u13 u14 u15 u16 u17 u18 =>
        if p1 = (0 : Int32) then
          bo1 (fX5_shiningPlaces u7 u8 u14 u18) fun r26 =>
          some (r26, u7, u8, u9, u10, u11, u12, u13, u14, u15, u16, u17, u18, v_t_refusals)
        else
          if p1 = (1 : Int32) then
            bo1 (fX5_shiningCount u7 u8 u14 u18) fun r24 =>
            some (r24, u7, u8, u9, u10, u11, u12, u13, u14, u15, u16, u17, u18, v_t_refusals)
          else
            bo1 (fX5_shiningCount u7 u8 u14 u18) fun r20 =>
            some (u7 - r20, u7, u8, u9, u10, u11, u12, u13, u14, u15, u16, u17, u18, v_t_refusals)
      else
        k3
set_option maxHeartbeats 4000000 in
set_option maxRecDepth 100000 in
theorem mX7_shines (l : Launch) (D : va_G) (cy : Nat → ClassId) (q_t q_t_now q_t_future q_t_draft q_t_kept q_t_shelves q_t_tape q_t_reader q_t_hiddenWay q_t_sights q_t_choice q_t_refusals q_t_now_ways q_t_now_distances q_t_now_kind q_t_now_a q_t_now_home q_t_now_aim q_t_now_at q_t_future_ways q_t_future_distances q_t_future_kind q_t_future_a q_t_future_home q_t_future_aim q_t_future_at : Nat) (v_t_isKept : Int32) (v_t_now_places : Int32) (v_t_now_people : Int32) (v_t_now_hour : Int32) (v_t_now_chance : Int32) (v_t_now_seed : Int32) (v_t_now_ways : Nat → Int32) (v_t_now_distances : Nat → Int32) (v_t_now_kind : Nat → Int32) (v_t_now_a : Nat → Int32) (v_t_now_home : Nat → Int32) (v_t_now_aim : Nat → Int32) (v_t_now_at : Nat → Int32) (v_t_future_places : Int32) (v_t_future_people : Int32) (v_t_future_hour : Int32) (v_t_future_chance : Int32) (v_t_future_seed : Int32) (v_t_future_ways : Nat → Int32) (v_t_future_distances : Nat → Int32) (v_t_future_kind : Nat → Int32) (v_t_future_a : Nat → Int32) (v_t_future_home : Nat → Int32) (v_t_future_aim : Nat → Int32) (v_t_future_at : Nat → Int32) (v_t_refusals : Nat → Int32) (sz : Nat) (p0 : Int32) (p1 : Int32) {r_ : Int32} {n_t_future_places : Int32} {n_t_future_people : Int32} {n_t_future_hour : Int32} {n_t_future_chance : Int32} {n_t_future_seed : Int32} {n_t_future_ways : Nat → Int32} {n_t_future_distances : Nat → Int32} {n_t_future_kind : Nat → Int32} {n_t_future_a : Nat → Int32} {n_t_future_home : Nat → Int32} {n_t_future_aim : Nat → Int32} {n_t_future_at : Nat → Int32} {n_t_refusals : Nat → Int32} (hf : fX7_shines v_t_now_places v_t_now_people v_t_now_hour v_t_now_chance v_t_now_seed v_t_now_ways v_t_now_distances v_t_now_kind v_t_now_a v_t_now_home v_t_now_aim v_t_now_at v_t_future_places v_t_future_people v_t_future_hour v_t_future_chance v_t_future_seed v_t_future_ways v_t_future_distances v_t_future_kind v_t_future_a v_t_future_home v_t_future_aim v_t_future_at v_t_refusals p0 p1 = some (r_, n_t_future_places, n_t_future_people, n_t_future_hour, n_t_future_chance, n_t_future_seed, n_t_future_ways, n_t_future_distances, n_t_future_kind, n_t_future_a, n_t_future_home, n_t_future_aim, n_t_future_at, n_t_refusals)) : Met l yX7_shines wsX7_shines ({ frames := 6, cells := 0, slots := 0, locals := 136 }) (va_Pc [.ref q_t, .int p0, .int p1] (fun U => U.heap.size = sz ∧ va_P D vwCl [(q_t, oX7 q_t_now q_t_future q_t_draft q_t_kept v_t_isKept q_t_shelves q_t_tape q_t_reader q_t_hiddenWay q_t_sights q_t_choice q_t_refusals), (q_t_now, oX5 v_t_now_places q_t_now_ways q_t_now_distances v_t_now_people q_t_now_kind q_t_now_a q_t_now_home q_t_now_aim q_t_now_at v_t_now_hour v_t_now_chance v_t_now_seed), (q_t_now_ways, .inl (cy 0, 12, .inl v_t_now_ways)), (q_t_now_distances, .inl (cy 0, 144, .inl v_t_now_distances)), (q_t_now_kind, .inl (cy 0, 8, .inl v_t_now_kind)), (q_t_now_a, .inl (cy 0, 8, .inl v_t_now_a)), (q_t_now_home, .inl (cy 0, 8, .inl v_t_now_home)), (q_t_now_aim, .inl (cy 0, 8, .inl v_t_now_aim)), (q_t_now_at, .inl (cy 0, 8, .inl v_t_now_at)), (q_t_future, oX5 v_t_future_places q_t_future_ways q_t_future_distances v_t_future_people q_t_future_kind q_t_future_a q_t_future_home q_t_future_aim q_t_future_at v_t_future_hour v_t_future_chance v_t_future_seed), (q_t_future_ways, .inl (cy 0, 12, .inl v_t_future_ways)), (q_t_future_distances, .inl (cy 0, 144, .inl v_t_future_distances)), (q_t_future_kind, .inl (cy 0, 8, .inl v_t_future_kind)), (q_t_future_a, .inl (cy 0, 8, .inl v_t_future_a)), (q_t_future_home, .inl (cy 0, 8, .inl v_t_future_home)), (q_t_future_aim, .inl (cy 0, 8, .inl v_t_future_aim)), (q_t_future_at, .inl (cy 0, 8, .inl v_t_future_at)), (q_t_refusals, .inl (cy 0, 5, .inl v_t_refusals))] U.heap ∧ xK D cy U ∧ va_D (fun _ => True) [(q_t, oX7 q_t_now q_t_future q_t_draft q_t_kept v_t_isKept q_t_shelves q_t_tape q_t_reader q_t_hiddenWay q_t_sights q_t_choice q_t_refusals), (q_t_now, oX5 v_t_now_places q_t_now_ways q_t_now_distances v_t_now_people q_t_now_kind q_t_now_a q_t_now_home q_t_now_aim q_t_now_at v_t_now_hour v_t_now_chance v_t_now_seed), (q_t_now_ways, .inl (cy 0, 12, .inl v_t_now_ways)), (q_t_now_distances, .inl (cy 0, 144, .inl v_t_now_distances)), (q_t_now_kind, .inl (cy 0, 8, .inl v_t_now_kind)), (q_t_now_a, .inl (cy 0, 8, .inl v_t_now_a)), (q_t_now_home, .inl (cy 0, 8, .inl v_t_now_home)), (q_t_now_aim, .inl (cy 0, 8, .inl v_t_now_aim)), (q_t_now_at, .inl (cy 0, 8, .inl v_t_now_at)), (q_t_future, oX5 v_t_future_places q_t_future_ways q_t_future_distances v_t_future_people q_t_future_kind q_t_future_a q_t_future_home q_t_future_aim q_t_future_at v_t_future_hour v_t_future_chance v_t_future_seed), (q_t_future_ways, .inl (cy 0, 12, .inl v_t_future_ways)), (q_t_future_distances, .inl (cy 0, 144, .inl v_t_future_distances)), (q_t_future_kind, .inl (cy 0, 8, .inl v_t_future_kind)), (q_t_future_a, .inl (cy 0, 8, .inl v_t_future_a)), (q_t_future_home, .inl (cy 0, 8, .inl v_t_future_home)), (q_t_future_aim, .inl (cy 0, 8, .inl v_t_future_aim)), (q_t_future_at, .inl (cy 0, 8, .inl v_t_future_at)), (q_t_refusals, .inl (cy 0, 5, .inl v_t_refusals))])) (va_Qi (fun (x : Int32) (_ : Unit) => x = r_) (fun _ t => va_P D vwCl [(q_t, oX7 q_t_now q_t_future q_t_draft q_t_kept v_t_isKept q_t_shelves q_t_tape q_t_reader q_t_hiddenWay q_t_sights q_t_choice q_t_refusals), (q_t_now, oX5 v_t_now_places q_t_now_ways q_t_now_distances v_t_now_people q_t_now_kind q_t_now_a q_t_now_home q_t_now_aim q_t_now_at v_t_now_hour v_t_now_chance v_t_now_seed), (q_t_now_ways, .inl (cy 0, 12, .inl v_t_now_ways)), (q_t_now_distances, .inl (cy 0, 144, .inl v_t_now_distances)), (q_t_now_kind, .inl (cy 0, 8, .inl v_t_now_kind)), (q_t_now_a, .inl (cy 0, 8, .inl v_t_now_a)), (q_t_now_home, .inl (cy 0, 8, .inl v_t_now_home)), (q_t_now_aim, .inl (cy 0, 8, .inl v_t_now_aim)), (q_t_now_at, .inl (cy 0, 8, .inl v_t_now_at)), (q_t_future, oX5 n_t_future_places q_t_future_ways q_t_future_distances n_t_future_people q_t_future_kind q_t_future_a q_t_future_home q_t_future_aim q_t_future_at n_t_future_hour n_t_future_chance n_t_future_seed), (q_t_future_ways, .inl (cy 0, 12, .inl n_t_future_ways)), (q_t_future_distances, .inl (cy 0, 144, .inl n_t_future_distances)), (q_t_future_kind, .inl (cy 0, 8, .inl n_t_future_kind)), (q_t_future_a, .inl (cy 0, 8, .inl n_t_future_a)), (q_t_future_home, .inl (cy 0, 8, .inl n_t_future_home)), (q_t_future_aim, .inl (cy 0, 8, .inl n_t_future_aim)), (q_t_future_at, .inl (cy 0, 8, .inl n_t_future_at)), (q_t_refusals, .inl (cy 0, 5, .inl n_t_refusals))] t.heap) (va_A [(q_t, oX7 q_t_now q_t_future q_t_draft q_t_kept v_t_isKept q_t_shelves q_t_tape q_t_reader q_t_hiddenWay q_t_sights q_t_choice q_t_refusals), (q_t_now, oX5 v_t_now_places q_t_now_ways q_t_now_distances v_t_now_people q_t_now_kind q_t_now_a q_t_now_home q_t_now_aim q_t_now_at v_t_now_hour v_t_now_chance v_t_now_seed), (q_t_now_ways, .inl (cy 0, 12, .inl v_t_now_ways)), (q_t_now_distances, .inl (cy 0, 144, .inl v_t_now_distances)), (q_t_now_kind, .inl (cy 0, 8, .inl v_t_now_kind)), (q_t_now_a, .inl (cy 0, 8, .inl v_t_now_a)), (q_t_now_home, .inl (cy 0, 8, .inl v_t_now_home)), (q_t_now_aim, .inl (cy 0, 8, .inl v_t_now_aim)), (q_t_now_at, .inl (cy 0, 8, .inl v_t_now_at)), (q_t_future, oX5 v_t_future_places q_t_future_ways q_t_future_distances v_t_future_people q_t_future_kind q_t_future_a q_t_future_home q_t_future_aim q_t_future_at v_t_future_hour v_t_future_chance v_t_future_seed), (q_t_future_ways, .inl (cy 0, 12, .inl v_t_future_ways)), (q_t_future_distances, .inl (cy 0, 144, .inl v_t_future_distances)), (q_t_future_kind, .inl (cy 0, 8, .inl v_t_future_kind)), (q_t_future_a, .inl (cy 0, 8, .inl v_t_future_a)), (q_t_future_home, .inl (cy 0, 8, .inl v_t_future_home)), (q_t_future_aim, .inl (cy 0, 8, .inl v_t_future_aim)), (q_t_future_at, .inl (cy 0, 8, .inl v_t_future_at)), (q_t_refusals, .inl (cy 0, 5, .inl v_t_refusals))] sz)) 0 0 (va_A [(q_t, oX7 q_t_now q_t_future q_t_draft q_t_kept v_t_isKept q_t_shelves q_t_tape q_t_reader q_t_hiddenWay q_t_sights q_t_choice q_t_refusals), (q_t_now, oX5 v_t_now_places q_t_now_ways q_t_now_distances v_t_now_people q_t_now_kind q_t_now_a q_t_now_home q_t_now_aim q_t_now_at v_t_now_hour v_t_now_chance v_t_now_seed), (q_t_now_ways, .inl (cy 0, 12, .inl v_t_now_ways)), (q_t_now_distances, .inl (cy 0, 144, .inl v_t_now_distances)), (q_t_now_kind, .inl (cy 0, 8, .inl v_t_now_kind)), (q_t_now_a, .inl (cy 0, 8, .inl v_t_now_a)), (q_t_now_home, .inl (cy 0, 8, .inl v_t_now_home)), (q_t_now_aim, .inl (cy 0, 8, .inl v_t_now_aim)), (q_t_now_at, .inl (cy 0, 8, .inl v_t_now_at)), (q_t_future, oX5 v_t_future_places q_t_future_ways q_t_future_distances v_t_future_people q_t_future_kind q_t_future_a q_t_future_home q_t_future_aim q_t_future_at v_t_future_hour v_t_future_chance v_t_future_seed), (q_t_future_ways, .inl (cy 0, 12, .inl v_t_future_ways)), (q_t_future_distances, .inl (cy 0, 144, .inl v_t_future_distances)), (q_t_future_kind, .inl (cy 0, 8, .inl v_t_future_kind)), (q_t_future_a, .inl (cy 0, 8, .inl v_t_future_a)), (q_t_future_home, .inl (cy 0, 8, .inl v_t_future_home)), (q_t_future_aim, .inl (cy 0, 8, .inl v_t_future_aim)), (q_t_future_at, .inl (cy 0, 8, .inl v_t_future_at)), (q_t_refusals, .inl (cy 0, 5, .inl v_t_refusals))] sz) := by
  refine Met.ofW (cc := cX7_shines) (maxL := 3) (ret := (some .int)) (by decide) rfl ?_
  intro p e s m args below meth c s₁ B hml hv
  obtain ⟨rfl, hsz, hP, hK, hD0⟩ := hv
  have hx := B.exec
  have hb := B.bytes
  have hr := B.returns
  have hts := atoms_spec (ws := wsX7_shines) B.pre
  have hown : s.vm.findClass RX7 = some m.cls := findClass_of_methodNamed B.named
  have hlocks := B.notSynchronized
  subst hsz
  have hD := hD0.self (sz := s.heap.size)
  generalize hAe : va_A [(q_t, oX7 q_t_now q_t_future q_t_draft q_t_kept v_t_isKept q_t_shelves q_t_tape q_t_reader q_t_hiddenWay q_t_sights q_t_choice q_t_refusals), (q_t_now, oX5 v_t_now_places q_t_now_ways q_t_now_distances v_t_now_people q_t_now_kind q_t_now_a q_t_now_home q_t_now_aim q_t_now_at v_t_now_hour v_t_now_chance v_t_now_seed), (q_t_now_ways, .inl (cy 0, 12, .inl v_t_now_ways)), (q_t_now_distances, .inl (cy 0, 144, .inl v_t_now_distances)), (q_t_now_kind, .inl (cy 0, 8, .inl v_t_now_kind)), (q_t_now_a, .inl (cy 0, 8, .inl v_t_now_a)), (q_t_now_home, .inl (cy 0, 8, .inl v_t_now_home)), (q_t_now_aim, .inl (cy 0, 8, .inl v_t_now_aim)), (q_t_now_at, .inl (cy 0, 8, .inl v_t_now_at)), (q_t_future, oX5 v_t_future_places q_t_future_ways q_t_future_distances v_t_future_people q_t_future_kind q_t_future_a q_t_future_home q_t_future_aim q_t_future_at v_t_future_hour v_t_future_chance v_t_future_seed), (q_t_future_ways, .inl (cy 0, 12, .inl v_t_future_ways)), (q_t_future_distances, .inl (cy 0, 144, .inl v_t_future_distances)), (q_t_future_kind, .inl (cy 0, 8, .inl v_t_future_kind)), (q_t_future_a, .inl (cy 0, 8, .inl v_t_future_a)), (q_t_future_home, .inl (cy 0, 8, .inl v_t_future_home)), (q_t_future_aim, .inl (cy 0, 8, .inl v_t_future_aim)), (q_t_future_at, .inl (cy 0, 8, .inl v_t_future_at)), (q_t_refusals, .inl (cy 0, 5, .inl v_t_refusals))] s.heap.size = A at hD ⊢
  have hA : ∀ q : Nat, s.heap.size ≤ q → A q := fun q h => by rw [← hAe]; exact Or.inr h
  have hS : va_S A s.heap s.heap [] := va_S.rf
  have hP : va_P D vwCl [(q_t, oX7 q_t_now q_t_future q_t_draft q_t_kept v_t_isKept q_t_shelves q_t_tape q_t_reader q_t_hiddenWay q_t_sights q_t_choice q_t_refusals), (q_t_now, oX5 v_t_now_places q_t_now_ways q_t_now_distances v_t_now_people q_t_now_kind q_t_now_a q_t_now_home q_t_now_aim q_t_now_at v_t_now_hour v_t_now_chance v_t_now_seed), (q_t_now_ways, .inl (cy 0, 12, .inl v_t_now_ways)), (q_t_now_distances, .inl (cy 0, 144, .inl v_t_now_distances)), (q_t_now_kind, .inl (cy 0, 8, .inl v_t_now_kind)), (q_t_now_a, .inl (cy 0, 8, .inl v_t_now_a)), (q_t_now_home, .inl (cy 0, 8, .inl v_t_now_home)), (q_t_now_aim, .inl (cy 0, 8, .inl v_t_now_aim)), (q_t_now_at, .inl (cy 0, 8, .inl v_t_now_at)), (q_t_future, oX5 v_t_future_places q_t_future_ways q_t_future_distances v_t_future_people q_t_future_kind q_t_future_a q_t_future_home q_t_future_aim q_t_future_at v_t_future_hour v_t_future_chance v_t_future_seed), (q_t_future_ways, .inl (cy 0, 12, .inl v_t_future_ways)), (q_t_future_distances, .inl (cy 0, 144, .inl v_t_future_distances)), (q_t_future_kind, .inl (cy 0, 8, .inl v_t_future_kind)), (q_t_future_a, .inl (cy 0, 8, .inl v_t_future_a)), (q_t_future_home, .inl (cy 0, 8, .inl v_t_future_home)), (q_t_future_aim, .inl (cy 0, 8, .inl v_t_future_aim)), (q_t_future_at, .inl (cy 0, 8, .inl v_t_future_at)), (q_t_refusals, .inl (cy 0, 5, .inl v_t_refusals))] s.heap := hP
  have hinX7 : ∀ w ∈ u_ws RX7 TX7 12, w ∈ wsX7_shines := by decide +kernel
  have hk16 := hts (.fieldLink RX7 16 "ShowsWhereNobodyIs" "future" "LShowsWhereNobodyIs$Town;") (by decide +kernel)
  have hinX5 : ∀ w ∈ u_ws RX5 TX5 12, w ∈ wsX7_shines := by decide +kernel
  have hk152 := hts (.fieldLink RX7 152 "ShowsWhereNobodyIs$Town" "places" "I") (by decide +kernel)
  have hl := lv_entry ([.ref q_t, .int p0, .int p1]) (n := 3) (Nat.le_of_ble_eq_true rfl)
  rw [lg_entry_eq]
  generalize (lg_sl ([.ref q_t, .int p0, .int p1]) ++ List.replicate (3 - (lg_sl ([.ref q_t, .int p0, .int p1])).length) Slot.unset).toArray = ls at hl ⊢
  have hl : lv_has ls 3 [(0, .ref q_t), (1, .int p0), (2, .int p1)] := hl
  unfold fX7_shines at hf
  refine lv_iload_n hx hb dX7_shines_0 rfl (lv_at hl 1 rfl) ?_
  obtain ⟨r1, hr2, hf⟩ := boE1 hf
  have hPc := hP.sub (ws' := []) [] rfl
  refine xcSi (va_runS (As := [.int p0]) (rest := []) ⟨hx, hb, hml, hown, hts⟩ (mX7_isAhead l D cy    p0 hr2) (va_cwS 1 hts gX7_shines_X7_isAhead rfl rfl rfl (by decide +kernel) ⟨Nat.le_of_ble_eq_true rfl, Nat.le_of_ble_eq_true rfl⟩) (xPS hK hPc) rfl rfl hl.1 rfl (lv_room (Nat.le_of_ble_eq_true rfl)) dX7_shines_1 ⟨Nat.le_of_ble_eq_true rfl, Nat.le_of_ble_eq_true rfl⟩) ?_
  refine jww0 16 [] (fun  H locs ls => va_P D vwCl [(q_t, oX7 q_t_now q_t_future q_t_draft q_t_kept v_t_isKept q_t_shelves q_t_tape q_t_reader q_t_hiddenWay q_t_sights q_t_choice q_t_refusals), (q_t_now, oX5 v_t_now_places q_t_now_ways q_t_now_distances v_t_now_people q_t_now_kind q_t_now_a q_t_now_home q_t_now_aim q_t_now_at v_t_now_hour v_t_now_chance v_t_now_seed), (q_t_now_ways, .inl (cy 0, 12, .inl v_t_now_ways)), (q_t_now_distances, .inl (cy 0, 144, .inl v_t_now_distances)), (q_t_now_kind, .inl (cy 0, 8, .inl v_t_now_kind)), (q_t_now_a, .inl (cy 0, 8, .inl v_t_now_a)), (q_t_now_home, .inl (cy 0, 8, .inl v_t_now_home)), (q_t_now_aim, .inl (cy 0, 8, .inl v_t_now_aim)), (q_t_now_at, .inl (cy 0, 8, .inl v_t_now_at)), (q_t_future, oX5 v_t_future_places q_t_future_ways q_t_future_distances v_t_future_people q_t_future_kind q_t_future_a q_t_future_home q_t_future_aim q_t_future_at v_t_future_hour v_t_future_chance v_t_future_seed), (q_t_future_ways, .inl (cy 0, 12, .inl v_t_future_ways)), (q_t_future_distances, .inl (cy 0, 144, .inl v_t_future_distances)), (q_t_future_kind, .inl (cy 0, 8, .inl v_t_future_kind)), (q_t_future_a, .inl (cy 0, 8, .inl v_t_future_a)), (q_t_future_home, .inl (cy 0, 8, .inl v_t_future_home)), (q_t_future_aim, .inl (cy 0, 8, .inl v_t_future_aim)), (q_t_future_at, .inl (cy 0, 8, .inl v_t_future_at)), (q_t_refusals, .inl (cy 0, 5, .inl v_t_refusals))] H ∧ va_D A [(q_t, oX7 q_t_now q_t_future q_t_draft q_t_kept v_t_isKept q_t_shelves q_t_tape q_t_reader q_t_hiddenWay q_t_sights q_t_choice q_t_refusals), (q_t_now, oX5 v_t_now_places q_t_now_ways q_t_now_distances v_t_now_people q_t_now_kind q_t_now_a q_t_now_home q_t_now_aim q_t_now_at v_t_now_hour v_t_now_chance v_t_now_seed), (q_t_now_ways, .inl (cy 0, 12, .inl v_t_now_ways)), (q_t_now_distances, .inl (cy 0, 144, .inl v_t_now_distances)), (q_t_now_kind, .inl (cy 0, 8, .inl v_t_now_kind)), (q_t_now_a, .inl (cy 0, 8, .inl v_t_now_a)), (q_t_now_home, .inl (cy 0, 8, .inl v_t_now_home)), (q_t_now_aim, .inl (cy 0, 8, .inl v_t_now_aim)), (q_t_now_at, .inl (cy 0, 8, .inl v_t_now_at)), (q_t_future, oX5 v_t_future_places q_t_future_ways q_t_future_distances v_t_future_people q_t_future_kind q_t_future_a q_t_future_home q_t_future_aim q_t_future_at v_t_future_hour v_t_future_chance v_t_future_seed), (q_t_future_ways, .inl (cy 0, 12, .inl v_t_future_ways)), (q_t_future_distances, .inl (cy 0, 144, .inl v_t_future_distances)), (q_t_future_kind, .inl (cy 0, 8, .inl v_t_future_kind)), (q_t_future_a, .inl (cy 0, 8, .inl v_t_future_a)), (q_t_future_home, .inl (cy 0, 8, .inl v_t_future_home)), (q_t_future_aim, .inl (cy 0, 8, .inl v_t_future_aim)), (q_t_future_at, .inl (cy 0, 8, .inl v_t_future_at)), (q_t_refusals, .inl (cy 0, 5, .inl v_t_refusals))] ∧ va_S A s.heap H locs ∧ lv_has ls 3 [(0, .ref q_t)]) hf (fun  H locs ls hI hf => ?_) (fun k3 J16 hf => ?_)
  · obtain ⟨hP, hD, hS, hl⟩ := hI
    refine lv_aload_n hx hb dX7_shines_16 rfl (lv_at hl 0 rfl) ?_
    refine lv_bipush (v := (-2)) hx hb dX7_shines_17 (by decide) ?_
    obtain ⟨r4, u5, hr6, hf⟩ := boE2 hf
    have hPc := hP.sub (ws' := [(q_t, oX7 q_t_now q_t_future q_t_draft q_t_kept v_t_isKept q_t_shelves q_t_tape q_t_reader q_t_hiddenWay q_t_sights q_t_choice q_t_refusals), (q_t_refusals, .inl (cy 0, 5, .inl v_t_refusals))]) [0, 17] rfl
    have hDc := hD.sub (ws' := [(q_t, oX7 q_t_now q_t_future q_t_draft q_t_kept v_t_isKept q_t_shelves q_t_tape q_t_reader q_t_hiddenWay q_t_sights q_t_choice q_t_refusals), (q_t_refusals, .inl (cy 0, 5, .inl v_t_refusals))]) [0, 17] (by decide) rfl
    refine xcQi (w1 := [(q_t, oX7 q_t_now q_t_future q_t_draft q_t_kept v_t_isKept q_t_shelves q_t_tape q_t_reader q_t_hiddenWay q_t_sights q_t_choice q_t_refusals), (q_t_refusals, .inl (cy 0, 5, .inl u5))]) (va_runV (As := [.int (-2 : Int32)]) (rest := []) ⟨hx, hb, hml, hown, hts⟩ (mX7_refuse l D cy q_t q_t_now q_t_future q_t_draft q_t_kept q_t_shelves q_t_tape q_t_reader q_t_hiddenWay q_t_sights q_t_choice q_t_refusals v_t_isKept v_t_refusals _ (-2 : Int32) hr6) (cwV 1 hts gX7_shines_X7_refuse rfl rfl rfl (by decide +kernel) ⟨Nat.le_of_ble_eq_true rfl, Nat.le_of_ble_eq_true rfl⟩) (xPVw hK hPc hDc (ci := 7) (q0 := 0) rfl rfl) rfl rfl hl.1 rfl (lv_room (Nat.le_of_ble_eq_true rfl)) dX7_shines_19 ⟨Nat.le_of_ble_eq_true rfl, Nat.le_of_ble_eq_true rfl⟩) hP hD hS hA [0, 17] rfl rfl (fun H locs hP hD hS => ?_)
    have hP : va_P D vwCl [(q_t, oX7 q_t_now q_t_future q_t_draft q_t_kept v_t_isKept q_t_shelves q_t_tape q_t_reader q_t_hiddenWay q_t_sights q_t_choice q_t_refusals), (q_t_now, oX5 v_t_now_places q_t_now_ways q_t_now_distances v_t_now_people q_t_now_kind q_t_now_a q_t_now_home q_t_now_aim q_t_now_at v_t_now_hour v_t_now_chance v_t_now_seed), (q_t_now_ways, .inl (cy 0, 12, .inl v_t_now_ways)), (q_t_now_distances, .inl (cy 0, 144, .inl v_t_now_distances)), (q_t_now_kind, .inl (cy 0, 8, .inl v_t_now_kind)), (q_t_now_a, .inl (cy 0, 8, .inl v_t_now_a)), (q_t_now_home, .inl (cy 0, 8, .inl v_t_now_home)), (q_t_now_aim, .inl (cy 0, 8, .inl v_t_now_aim)), (q_t_now_at, .inl (cy 0, 8, .inl v_t_now_at)), (q_t_future, oX5 v_t_future_places q_t_future_ways q_t_future_distances v_t_future_people q_t_future_kind q_t_future_a q_t_future_home q_t_future_aim q_t_future_at v_t_future_hour v_t_future_chance v_t_future_seed), (q_t_future_ways, .inl (cy 0, 12, .inl v_t_future_ways)), (q_t_future_distances, .inl (cy 0, 144, .inl v_t_future_distances)), (q_t_future_kind, .inl (cy 0, 8, .inl v_t_future_kind)), (q_t_future_a, .inl (cy 0, 8, .inl v_t_future_a)), (q_t_future_home, .inl (cy 0, 8, .inl v_t_future_home)), (q_t_future_aim, .inl (cy 0, 8, .inl v_t_future_aim)), (q_t_future_at, .inl (cy 0, 8, .inl v_t_future_at)), (q_t_refusals, .inl (cy 0, 5, .inl u5))] H := hP
    have hD : va_D A [(q_t, oX7 q_t_now q_t_future q_t_draft q_t_kept v_t_isKept q_t_shelves q_t_tape q_t_reader q_t_hiddenWay q_t_sights q_t_choice q_t_refusals), (q_t_now, oX5 v_t_now_places q_t_now_ways q_t_now_distances v_t_now_people q_t_now_kind q_t_now_a q_t_now_home q_t_now_aim q_t_now_at v_t_now_hour v_t_now_chance v_t_now_seed), (q_t_now_ways, .inl (cy 0, 12, .inl v_t_now_ways)), (q_t_now_distances, .inl (cy 0, 144, .inl v_t_now_distances)), (q_t_now_kind, .inl (cy 0, 8, .inl v_t_now_kind)), (q_t_now_a, .inl (cy 0, 8, .inl v_t_now_a)), (q_t_now_home, .inl (cy 0, 8, .inl v_t_now_home)), (q_t_now_aim, .inl (cy 0, 8, .inl v_t_now_aim)), (q_t_now_at, .inl (cy 0, 8, .inl v_t_now_at)), (q_t_future, oX5 v_t_future_places q_t_future_ways q_t_future_distances v_t_future_people q_t_future_kind q_t_future_a q_t_future_home q_t_future_aim q_t_future_at v_t_future_hour v_t_future_chance v_t_future_seed), (q_t_future_ways, .inl (cy 0, 12, .inl v_t_future_ways)), (q_t_future_distances, .inl (cy 0, 144, .inl v_t_future_distances)), (q_t_future_kind, .inl (cy 0, 8, .inl v_t_future_kind)), (q_t_future_a, .inl (cy 0, 8, .inl v_t_future_a)), (q_t_future_home, .inl (cy 0, 8, .inl v_t_future_home)), (q_t_future_aim, .inl (cy 0, 8, .inl v_t_future_aim)), (q_t_future_at, .inl (cy 0, 8, .inl v_t_future_at)), (q_t_refusals, .inl (cy 0, 5, .inl u5))] := hD
    have hg0 := Option.some.inj hf
    obtain ⟨ee0, hg1⟩ := Prod.mk.inj hg0
    obtain ⟨ee1, hg2⟩ := Prod.mk.inj hg1
    obtain ⟨ee2, hg3⟩ := Prod.mk.inj hg2
    obtain ⟨ee3, hg4⟩ := Prod.mk.inj hg3
    obtain ⟨ee4, hg5⟩ := Prod.mk.inj hg4
    obtain ⟨ee5, hg6⟩ := Prod.mk.inj hg5
    obtain ⟨ee6, hg7⟩ := Prod.mk.inj hg6
    obtain ⟨ee7, hg8⟩ := Prod.mk.inj hg7
    obtain ⟨ee8, hg9⟩ := Prod.mk.inj hg8
    obtain ⟨ee9, hg10⟩ := Prod.mk.inj hg9
    obtain ⟨ee10, hg11⟩ := Prod.mk.inj hg10
    obtain ⟨ee11, hg12⟩ := Prod.mk.inj hg11
    obtain ⟨ee12, hg13⟩ := Prod.mk.inj hg12
    clear hf hg0 hg1 hg2 hg3 hg4 hg5 hg6 hg7 hg8 hg9 hg10 hg11 hg12
    subst ee0
    subst ee1
    subst ee2
    subst ee3
    subst ee4
    subst ee5
    subst ee6
    subst ee7
    subst ee8
    subst ee9
    subst ee10
    subst ee11
    subst ee12
    subst hg13
    exact W.iret hx hb hr (fun t ht hW => ⟨⟨_, (), rfl, rfl, xend ht hP⟩, hS.F ht⟩) hS.2.2 dX7_shines_22
  · refine lv_if_eq (tgt := 16) hx hb dX7_shines_4 (by decide) (fun c30 => ?_) (fun c30 => ?_)
    · have hf := ifT hf c30
      clear c30
      exact J16 _ _ ls ⟨hP, hD, hS, lv_sub hl [0] rfl⟩ hf
    · have hf := ifF hf c30
      clear c30
      refine lv_iload_n hx hb dX7_shines_7 rfl (lv_at hl 2 rfl) ?_
      refine lv_if_lt (tgt := 16) hx hb dX7_shines_8 (by decide) (fun c29 => ?_) (fun c29 => ?_)
      · have hf := ifT hf c29
        clear c29
        exact J16 _ _ ls ⟨hP, hD, hS, lv_sub hl [0] rfl⟩ hf
      · have hf := ifF hf c29
        clear c29
        refine lv_iload_n hx hb dX7_shines_11 rfl (lv_at hl 2 rfl) ?_
        refine lv_iconst (v := 2) hx hb dX7_shines_12 (by decide) ?_
        refine lv_icmp_le (tgt := 23) hx hb dX7_shines_13 (by decide) (fun c28 => ?_) (fun c28 => ?_)
        · have hf := ifT hf c28
          clear c28
          refine lv_aload_n hx hb dX7_shines_23 rfl (lv_at hl 0 rfl) ?_
          refine lv_iload_n hx hb dX7_shines_24 rfl (lv_at hl 1 rfl) ?_
          obtain ⟨u7, u8, u9, u10, u11, u12, u13, u14, u15, u16, u17, u18, hr19, hf⟩ := boE12 hf
          have hPc := hP.sub (ws' := [(q_t, oX7 q_t_now q_t_future q_t_draft q_t_kept v_t_isKept q_t_shelves q_t_tape q_t_reader q_t_hiddenWay q_t_sights q_t_choice q_t_refusals), (q_t_now, oX5 v_t_now_places q_t_now_ways q_t_now_distances v_t_now_people q_t_now_kind q_t_now_a q_t_now_home q_t_now_aim q_t_now_at v_t_now_hour v_t_now_chance v_t_now_seed), (q_t_now_ways, .inl (cy 0, 12, .inl v_t_now_ways)), (q_t_now_distances, .inl (cy 0, 144, .inl v_t_now_distances)), (q_t_now_kind, .inl (cy 0, 8, .inl v_t_now_kind)), (q_t_now_a, .inl (cy 0, 8, .inl v_t_now_a)), (q_t_now_home, .inl (cy 0, 8, .inl v_t_now_home)), (q_t_now_aim, .inl (cy 0, 8, .inl v_t_now_aim)), (q_t_now_at, .inl (cy 0, 8, .inl v_t_now_at)), (q_t_future, oX5 v_t_future_places q_t_future_ways q_t_future_distances v_t_future_people q_t_future_kind q_t_future_a q_t_future_home q_t_future_aim q_t_future_at v_t_future_hour v_t_future_chance v_t_future_seed), (q_t_future_ways, .inl (cy 0, 12, .inl v_t_future_ways)), (q_t_future_distances, .inl (cy 0, 144, .inl v_t_future_distances)), (q_t_future_kind, .inl (cy 0, 8, .inl v_t_future_kind)), (q_t_future_a, .inl (cy 0, 8, .inl v_t_future_a)), (q_t_future_home, .inl (cy 0, 8, .inl v_t_future_home)), (q_t_future_aim, .inl (cy 0, 8, .inl v_t_future_aim)), (q_t_future_at, .inl (cy 0, 8, .inl v_t_future_at))]) [0, 1, 2, 3, 4, 5, 6, 7, 8, 9, 10, 11, 12, 13, 14, 15, 16] rfl
          have hDc := hD.sub (ws' := [(q_t, oX7 q_t_now q_t_future q_t_draft q_t_kept v_t_isKept q_t_shelves q_t_tape q_t_reader q_t_hiddenWay q_t_sights q_t_choice q_t_refusals), (q_t_now, oX5 v_t_now_places q_t_now_ways q_t_now_distances v_t_now_people q_t_now_kind q_t_now_a q_t_now_home q_t_now_aim q_t_now_at v_t_now_hour v_t_now_chance v_t_now_seed), (q_t_now_ways, .inl (cy 0, 12, .inl v_t_now_ways)), (q_t_now_distances, .inl (cy 0, 144, .inl v_t_now_distances)), (q_t_now_kind, .inl (cy 0, 8, .inl v_t_now_kind)), (q_t_now_a, .inl (cy 0, 8, .inl v_t_now_a)), (q_t_now_home, .inl (cy 0, 8, .inl v_t_now_home)), (q_t_now_aim, .inl (cy 0, 8, .inl v_t_now_aim)), (q_t_now_at, .inl (cy 0, 8, .inl v_t_now_at)), (q_t_future, oX5 v_t_future_places q_t_future_ways q_t_future_distances v_t_future_people q_t_future_kind q_t_future_a q_t_future_home q_t_future_aim q_t_future_at v_t_future_hour v_t_future_chance v_t_future_seed), (q_t_future_ways, .inl (cy 0, 12, .inl v_t_future_ways)), (q_t_future_distances, .inl (cy 0, 144, .inl v_t_future_distances)), (q_t_future_kind, .inl (cy 0, 8, .inl v_t_future_kind)), (q_t_future_a, .inl (cy 0, 8, .inl v_t_future_a)), (q_t_future_home, .inl (cy 0, 8, .inl v_t_future_home)), (q_t_future_aim, .inl (cy 0, 8, .inl v_t_future_aim)), (q_t_future_at, .inl (cy 0, 8, .inl v_t_future_at))]) [0, 1, 2, 3, 4, 5, 6, 7, 8, 9, 10, 11, 12, 13, 14, 15, 16] (by decide) rfl
          refine xcQv (w1 := [(q_t, oX7 q_t_now q_t_future q_t_draft q_t_kept v_t_isKept q_t_shelves q_t_tape q_t_reader q_t_hiddenWay q_t_sights q_t_choice q_t_refusals), (q_t_now, oX5 v_t_now_places q_t_now_ways q_t_now_distances v_t_now_people q_t_now_kind q_t_now_a q_t_now_home q_t_now_aim q_t_now_at v_t_now_hour v_t_now_chance v_t_now_seed), (q_t_now_ways, .inl (cy 0, 12, .inl v_t_now_ways)), (q_t_now_distances, .inl (cy 0, 144, .inl v_t_now_distances)), (q_t_now_kind, .inl (cy 0, 8, .inl v_t_now_kind)), (q_t_now_a, .inl (cy 0, 8, .inl v_t_now_a)), (q_t_now_home, .inl (cy 0, 8, .inl v_t_now_home)), (q_t_now_aim, .inl (cy 0, 8, .inl v_t_now_aim)), (q_t_now_at, .inl (cy 0, 8, .inl v_t_now_at)), (q_t_future, oX5 u7 q_t_future_ways q_t_future_distances u8 q_t_future_kind q_t_future_a q_t_future_home q_t_future_aim q_t_future_at u9 u10 u11), (q_t_future_ways, .inl (cy 0, 12, .inl u12)), (q_t_future_distances, .inl (cy 0, 144, .inl u13)), (q_t_future_kind, .inl (cy 0, 8, .inl u14)), (q_t_future_a, .inl (cy 0, 8, .inl u15)), (q_t_future_home, .inl (cy 0, 8, .inl u16)), (q_t_future_aim, .inl (cy 0, 8, .inl u17)), (q_t_future_at, .inl (cy 0, 8, .inl u18))]) (va_runV (As := [.int p0]) (rest := []) ⟨hx, hb, hml, hown, hts⟩ (mX7_lookAhead l D cy q_t q_t_now q_t_future q_t_draft q_t_kept q_t_shelves q_t_tape q_t_reader q_t_hiddenWay q_t_sights q_t_choice q_t_refusals q_t_now_ways q_t_now_distances q_t_now_kind q_t_now_a q_t_now_home q_t_now_aim q_t_now_at q_t_future_ways q_t_future_distances q_t_future_kind q_t_future_a q_t_future_home q_t_future_aim q_t_future_at v_t_isKept v_t_now_places v_t_now_people v_t_now_hour v_t_now_chance v_t_now_seed v_t_now_ways v_t_now_distances v_t_now_kind v_t_now_a v_t_now_home v_t_now_aim v_t_now_at v_t_future_places v_t_future_people v_t_future_hour v_t_future_chance v_t_future_seed v_t_future_ways v_t_future_distances v_t_future_kind v_t_future_a v_t_future_home v_t_future_aim v_t_future_at _ p0 hr19) (cwV 1 hts gX7_shines_X7_lookAhead rfl rfl rfl (by decide +kernel) ⟨Nat.le_of_ble_eq_true rfl, Nat.le_of_ble_eq_true rfl⟩) (xPVw hK hPc hDc (ci := 7) (q0 := 0) rfl rfl) rfl rfl hl.1 rfl (lv_room (Nat.le_of_ble_eq_true rfl)) dX7_shines_25 ⟨Nat.le_of_ble_eq_true rfl, Nat.le_of_ble_eq_true rfl⟩) hP hD hS hA [0, 1, 2, 3, 4, 5, 6, 7, 8, 9, 10, 11, 12, 13, 14, 15, 16] rfl rfl (fun H locs hP hD hS => ?_)
          have hP : va_P D vwCl [(q_t, oX7 q_t_now q_t_future q_t_draft q_t_kept v_t_isKept q_t_shelves q_t_tape q_t_reader q_t_hiddenWay q_t_sights q_t_choice q_t_refusals), (q_t_now, oX5 v_t_now_places q_t_now_ways q_t_now_distances v_t_now_people q_t_now_kind q_t_now_a q_t_now_home q_t_now_aim q_t_now_at v_t_now_hour v_t_now_chance v_t_now_seed), (q_t_now_ways, .inl (cy 0, 12, .inl v_t_now_ways)), (q_t_now_distances, .inl (cy 0, 144, .inl v_t_now_distances)), (q_t_now_kind, .inl (cy 0, 8, .inl v_t_now_kind)), (q_t_now_a, .inl (cy 0, 8, .inl v_t_now_a)), (q_t_now_home, .inl (cy 0, 8, .inl v_t_now_home)), (q_t_now_aim, .inl (cy 0, 8, .inl v_t_now_aim)), (q_t_now_at, .inl (cy 0, 8, .inl v_t_now_at)), (q_t_future, oX5 u7 q_t_future_ways q_t_future_distances u8 q_t_future_kind q_t_future_a q_t_future_home q_t_future_aim q_t_future_at u9 u10 u11), (q_t_future_ways, .inl (cy 0, 12, .inl u12)), (q_t_future_distances, .inl (cy 0, 144, .inl u13)), (q_t_future_kind, .inl (cy 0, 8, .inl u14)), (q_t_future_a, .inl (cy 0, 8, .inl u15)), (q_t_future_home, .inl (cy 0, 8, .inl u16)), (q_t_future_aim, .inl (cy 0, 8, .inl u17)), (q_t_future_at, .inl (cy 0, 8, .inl u18)), (q_t_refusals, .inl (cy 0, 5, .inl v_t_refusals))] H := hP
          have hD : va_D A [(q_t, oX7 q_t_now q_t_future q_t_draft q_t_kept v_t_isKept q_t_shelves q_t_tape q_t_reader q_t_hiddenWay q_t_sights q_t_choice q_t_refusals), (q_t_now, oX5 v_t_now_places q_t_now_ways q_t_now_distances v_t_now_people q_t_now_kind q_t_now_a q_t_now_home q_t_now_aim q_t_now_at v_t_now_hour v_t_now_chance v_t_now_seed), (q_t_now_ways, .inl (cy 0, 12, .inl v_t_now_ways)), (q_t_now_distances, .inl (cy 0, 144, .inl v_t_now_distances)), (q_t_now_kind, .inl (cy 0, 8, .inl v_t_now_kind)), (q_t_now_a, .inl (cy 0, 8, .inl v_t_now_a)), (q_t_now_home, .inl (cy 0, 8, .inl v_t_now_home)), (q_t_now_aim, .inl (cy 0, 8, .inl v_t_now_aim)), (q_t_now_at, .inl (cy 0, 8, .inl v_t_now_at)), (q_t_future, oX5 u7 q_t_future_ways q_t_future_distances u8 q_t_future_kind q_t_future_a q_t_future_home q_t_future_aim q_t_future_at u9 u10 u11), (q_t_future_ways, .inl (cy 0, 12, .inl u12)), (q_t_future_distances, .inl (cy 0, 144, .inl u13)), (q_t_future_kind, .inl (cy 0, 8, .inl u14)), (q_t_future_a, .inl (cy 0, 8, .inl u15)), (q_t_future_home, .inl (cy 0, 8, .inl u16)), (q_t_future_aim, .inl (cy 0, 8, .inl u17)), (q_t_future_at, .inl (cy 0, 8, .inl u18)), (q_t_refusals, .inl (cy 0, 5, .inl v_t_refusals))] := hD
          refine lv_iload_n hx hb dX7_shines_28 rfl (lv_at hl 2 rfl) ?_
          by_cases c22 : p1 = (0 : Int32)
          · have hf := ifT hf c22
            refine lv_lookup (tgt := 56) (off := 27) hx hb dX7_shines_29 (by decide) (by rw [c22]; first | done | rfl) (by decide) ?_
            refine lv_aload_n hx hb dX7_shines_56 rfl (lv_at hl 0 rfl) ?_
            refine va_get (D := D) (ci := 7) (v := .ref q_t_future) (C := RX7) (T := TX7) (N := 12) hx hb hts hinX7 hown hK.1 hP 0 rfl rfl 1 (by decide) hk16 (fun _ h9 => h9) rfl dX7_shines_57 ?_
            obtain ⟨r26, hr27, hf⟩ := boE1 hf
            have hPc := hP.sub (ws' := [(q_t_future, oX5 u7 q_t_future_ways q_t_future_distances u8 q_t_future_kind q_t_future_a q_t_future_home q_t_future_aim q_t_future_at u9 u10 u11), (q_t_future_kind, .inl (cy 0, 8, .inl u14)), (q_t_future_at, .inl (cy 0, 8, .inl u18))]) [9, 12, 16] rfl
            refine xcSi (va_runV (As := []) (rest := []) ⟨hx, hb, hml, hown, hts⟩ (mX5_shiningPlaces l D cy q_t_future q_t_future_ways q_t_future_distances q_t_future_kind q_t_future_a q_t_future_home q_t_future_aim q_t_future_at u7 u8 u9 u10 u11 u14 u18   hr27) (cwV 0 hts gX7_shines_X5_shiningPlaces rfl rfl rfl (by decide +kernel) ⟨Nat.le_of_ble_eq_true rfl, Nat.le_of_ble_eq_true rfl⟩) (xPV hK hPc (ci := 5) (q0 := 0) rfl rfl) rfl rfl hl.1 rfl (lv_room (Nat.le_of_ble_eq_true rfl)) dX7_shines_60 ⟨Nat.le_of_ble_eq_true rfl, Nat.le_of_ble_eq_true rfl⟩) ?_
            have hg0 := Option.some.inj hf
            obtain ⟨ee0, hg1⟩ := Prod.mk.inj hg0
            obtain ⟨ee1, hg2⟩ := Prod.mk.inj hg1
            obtain ⟨ee2, hg3⟩ := Prod.mk.inj hg2
            obtain ⟨ee3, hg4⟩ := Prod.mk.inj hg3
            obtain ⟨ee4, hg5⟩ := Prod.mk.inj hg4
            obtain ⟨ee5, hg6⟩ := Prod.mk.inj hg5
            obtain ⟨ee6, hg7⟩ := Prod.mk.inj hg6
            obtain ⟨ee7, hg8⟩ := Prod.mk.inj hg7
            obtain ⟨ee8, hg9⟩ := Prod.mk.inj hg8
            obtain ⟨ee9, hg10⟩ := Prod.mk.inj hg9
            obtain ⟨ee10, hg11⟩ := Prod.mk.inj hg10
            obtain ⟨ee11, hg12⟩ := Prod.mk.inj hg11
            obtain ⟨ee12, hg13⟩ := Prod.mk.inj hg12
            clear hf hg0 hg1 hg2 hg3 hg4 hg5 hg6 hg7 hg8 hg9 hg10 hg11 hg12
            subst ee0
            subst ee1
            subst ee2
            subst ee3
            subst ee4
            subst ee5
            subst ee6
            subst ee7
            subst ee8
            subst ee9
            subst ee10
            subst ee11
            subst ee12
            subst hg13
            exact W.iret hx hb hr (fun t ht hW => ⟨⟨_, (), rfl, rfl, xend ht hP⟩, hS.F ht⟩) hS.2.2 dX7_shines_63
          · have hf := ifF hf c22
            by_cases c23 : p1 = (1 : Int32)
            · have hf := ifT hf c23
              refine lv_lookup (tgt := 64) (off := 35) hx hb dX7_shines_29 (by decide) (by rw [c23]; first | done | rfl) (by decide) ?_
              refine lv_aload_n hx hb dX7_shines_64 rfl (lv_at hl 0 rfl) ?_
              refine va_get (D := D) (ci := 7) (v := .ref q_t_future) (C := RX7) (T := TX7) (N := 12) hx hb hts hinX7 hown hK.1 hP 0 rfl rfl 1 (by decide) hk16 (fun _ h9 => h9) rfl dX7_shines_65 ?_
              obtain ⟨r24, hr25, hf⟩ := boE1 hf
              have hPc := hP.sub (ws' := [(q_t_future, oX5 u7 q_t_future_ways q_t_future_distances u8 q_t_future_kind q_t_future_a q_t_future_home q_t_future_aim q_t_future_at u9 u10 u11), (q_t_future_kind, .inl (cy 0, 8, .inl u14)), (q_t_future_at, .inl (cy 0, 8, .inl u18))]) [9, 12, 16] rfl
              refine xcSi (va_runV (As := []) (rest := []) ⟨hx, hb, hml, hown, hts⟩ (mX5_shiningCount l D cy q_t_future q_t_future_ways q_t_future_distances q_t_future_kind q_t_future_a q_t_future_home q_t_future_aim q_t_future_at u7 u8 u9 u10 u11 u14 u18   hr25) (cwV 0 hts gX7_shines_X5_shiningCount rfl rfl rfl (by decide +kernel) ⟨Nat.le_of_ble_eq_true rfl, Nat.le_of_ble_eq_true rfl⟩) (xPV hK hPc (ci := 5) (q0 := 0) rfl rfl) rfl rfl hl.1 rfl (lv_room (Nat.le_of_ble_eq_true rfl)) dX7_shines_68 ⟨Nat.le_of_ble_eq_true rfl, Nat.le_of_ble_eq_true rfl⟩) ?_
              have hg0 := Option.some.inj hf
              obtain ⟨ee0, hg1⟩ := Prod.mk.inj hg0
              obtain ⟨ee1, hg2⟩ := Prod.mk.inj hg1
              obtain ⟨ee2, hg3⟩ := Prod.mk.inj hg2
              obtain ⟨ee3, hg4⟩ := Prod.mk.inj hg3
              obtain ⟨ee4, hg5⟩ := Prod.mk.inj hg4
              obtain ⟨ee5, hg6⟩ := Prod.mk.inj hg5
              obtain ⟨ee6, hg7⟩ := Prod.mk.inj hg6
              obtain ⟨ee7, hg8⟩ := Prod.mk.inj hg7
              obtain ⟨ee8, hg9⟩ := Prod.mk.inj hg8
              obtain ⟨ee9, hg10⟩ := Prod.mk.inj hg9
              obtain ⟨ee10, hg11⟩ := Prod.mk.inj hg10
              obtain ⟨ee11, hg12⟩ := Prod.mk.inj hg11
              obtain ⟨ee12, hg13⟩ := Prod.mk.inj hg12
              clear hf hg0 hg1 hg2 hg3 hg4 hg5 hg6 hg7 hg8 hg9 hg10 hg11 hg12
              subst ee0
              subst ee1
              subst ee2
              subst ee3
              subst ee4
              subst ee5
              subst ee6
              subst ee7
              subst ee8
              subst ee9
              subst ee10
              subst ee11
              subst ee12
              subst hg13
              exact W.iret hx hb hr (fun t ht hW => ⟨⟨_, (), rfl, rfl, xend ht hP⟩, hS.F ht⟩) hS.2.2 dX7_shines_71
            · have hf := ifF hf c23
              refine lv_lookup (tgt := 72) (off := 43) hx hb dX7_shines_29 (by decide) (by rw [lv_osw c22 (by decide)]; rw [lv_osw c23 (by decide)]; first | done | rfl) (by decide) ?_
              refine lv_aload_n hx hb dX7_shines_72 rfl (lv_at hl 0 rfl) ?_
              refine va_get (D := D) (ci := 7) (v := .ref q_t_future) (C := RX7) (T := TX7) (N := 12) hx hb hts hinX7 hown hK.1 hP 0 rfl rfl 1 (by decide) hk16 (fun _ h9 => h9) rfl dX7_shines_73 ?_
              refine va_get (D := D) (ci := 5) (v := .int u7) (C := RX5) (T := TX5) (N := 12) hx hb hts hinX5 hown hK.1 hP 9 rfl rfl 0 (by decide) hk152 (fun _ h9 => h9) rfl dX7_shines_76 ?_
              refine lv_aload_n hx hb dX7_shines_79 rfl (lv_at hl 0 rfl) ?_
              refine va_get (D := D) (ci := 7) (v := .ref q_t_future) (C := RX7) (T := TX7) (N := 12) hx hb hts hinX7 hown hK.1 hP 0 rfl rfl 1 (by decide) hk16 (fun _ h9 => h9) rfl dX7_shines_80 ?_
              obtain ⟨r20, hr21, hf⟩ := boE1 hf
              have hPc := hP.sub (ws' := [(q_t_future, oX5 u7 q_t_future_ways q_t_future_distances u8 q_t_future_kind q_t_future_a q_t_future_home q_t_future_aim q_t_future_at u9 u10 u11), (q_t_future_kind, .inl (cy 0, 8, .inl u14)), (q_t_future_at, .inl (cy 0, 8, .inl u18))]) [9, 12, 16] rfl
              refine xcSi (va_runV (As := []) (rest := [.int u7]) ⟨hx, hb, hml, hown, hts⟩ (mX5_shiningCount l D cy q_t_future q_t_future_ways q_t_future_distances q_t_future_kind q_t_future_a q_t_future_home q_t_future_aim q_t_future_at u7 u8 u9 u10 u11 u14 u18   hr21) (cwV 0 hts gX7_shines_X5_shiningCount rfl rfl rfl (by decide +kernel) ⟨Nat.le_of_ble_eq_true rfl, Nat.le_of_ble_eq_true rfl⟩) (xPV hK hPc (ci := 5) (q0 := 0) rfl rfl) rfl rfl hl.1 rfl (lv_room (Nat.le_of_ble_eq_true rfl)) dX7_shines_83 ⟨Nat.le_of_ble_eq_true rfl, Nat.le_of_ble_eq_true rfl⟩) ?_
              refine lv_isub hx hb dX7_shines_86 ?_
              have hg0 := Option.some.inj hf
              obtain ⟨ee0, hg1⟩ := Prod.mk.inj hg0
              obtain ⟨ee1, hg2⟩ := Prod.mk.inj hg1
              obtain ⟨ee2, hg3⟩ := Prod.mk.inj hg2
              obtain ⟨ee3, hg4⟩ := Prod.mk.inj hg3
              obtain ⟨ee4, hg5⟩ := Prod.mk.inj hg4
              obtain ⟨ee5, hg6⟩ := Prod.mk.inj hg5
              obtain ⟨ee6, hg7⟩ := Prod.mk.inj hg6
              obtain ⟨ee7, hg8⟩ := Prod.mk.inj hg7
              obtain ⟨ee8, hg9⟩ := Prod.mk.inj hg8
              obtain ⟨ee9, hg10⟩ := Prod.mk.inj hg9
              obtain ⟨ee10, hg11⟩ := Prod.mk.inj hg10
              obtain ⟨ee11, hg12⟩ := Prod.mk.inj hg11
              obtain ⟨ee12, hg13⟩ := Prod.mk.inj hg12
              clear hf hg0 hg1 hg2 hg3 hg4 hg5 hg6 hg7 hg8 hg9 hg10 hg11 hg12
              subst ee0
              subst ee1
              subst ee2
              subst ee3
              subst ee4
              subst ee5
              subst ee6
              subst ee7
              subst ee8
              subst ee9
              subst ee10
              subst ee11
              subst ee12
              subst hg13
              exact W.iret hx hb hr (fun t ht hW => ⟨⟨_, (), rfl, rfl, xend ht hP⟩, hS.F ht⟩) hS.2.2 dX7_shines_87
        · have hf := ifF hf c28
          clear c28
          exact J16 _ _ ls ⟨hP, hD, hS, lv_sub hl [0] rfl⟩ hf
def fX7_crowd (v_t_now_places : Int32) (v_t_now_people : Int32) (v_t_now_hour : Int32) (v_t_now_chance : Int32) (v_t_now_seed : Int32) (v_t_now_ways : Nat → Int32) (v_t_now_distances : Nat → Int32) (v_t_now_kind : Nat → Int32) (v_t_now_a : Nat → Int32) (v_t_now_home : Nat → Int32) (v_t_now_aim : Nat → Int32) (v_t_now_at : Nat → Int32) (v_t_future_places : Int32) (v_t_future_people : Int32) (v_t_future_hour : Int32) (v_t_future_chance : Int32) (v_t_future_seed : Int32) (v_t_future_ways : Nat → Int32) (v_t_future_distances : Nat → Int32) (v_t_future_kind : Nat → Int32) (v_t_future_a : Nat → Int32) (v_t_future_home : Nat → Int32) (v_t_future_aim : Nat → Int32) (v_t_future_at : Nat → Int32) (v_t_refusals : Nat → Int32) (p0 : Int32) (p1 : Int32) (p2 : Int32) : Option (Int32 × Int32 × Int32 × Int32 × Int32 × Int32 × (Nat → Int32) × (Nat → Int32) × (Nat → Int32) × (Nat → Int32) × (Nat → Int32) × (Nat → Int32) × (Nat → Int32) × (Nat → Int32)) :=
  bo1 (fX7_isPlace v_t_now_places p0) fun r1 =>
  jo0 (
    bo2 (fX7_refuse v_t_refusals (-2 : Int32)) fun r4 u5 =>
    some (r4, v_t_future_places, v_t_future_people, v_t_future_hour, v_t_future_chance, v_t_future_seed, v_t_future_ways, v_t_future_distances, v_t_future_kind, v_t_future_a, v_t_future_home, v_t_future_aim, v_t_future_at, u5)) fun k3 =>
  if r1 = 0 then
    k3
  else
    bo1 (fX7_isAhead p1) fun r7 =>
    if r7 = 0 then
      k3
    else
      if p2 < 0 then
        k3
      else
        if p2 ≤ (1 : Int32) then
          bo12 (fX7_lookAhead v_t_now_places v_t_now_people v_t_now_hour v_t_now_chance v_t_now_seed v_t_now_ways v_t_now_distances v_t_now_kind v_t_now_a v_t_now_home v_t_now_aim v_t_now_at p1) fun u9 u10 u11 u12 u13 u14 u15 u16 u17 u18 u19 u20 =>
          if p2 = 0 then
            bo1 (fX5_peopleIn u10 u20 p0) fun r24 =>
            some (r24, u9, u10, u11, u12, u13, u14, u15, u16, u17, u18, u19, u20, v_t_refusals)
          else
            bo1 (fX5_darkeningIn u10 u16 u20 p0) fun r22 =>
            some (r22, u9, u10, u11, u12, u13, u14, u15, u16, u17, u18, u19, u20, v_t_refusals)
        else
          k3
set_option maxHeartbeats 4000000 in
set_option maxRecDepth 100000 in
theorem mX7_crowd (l : Launch) (D : va_G) (cy : Nat → ClassId) (q_t q_t_now q_t_future q_t_draft q_t_kept q_t_shelves q_t_tape q_t_reader q_t_hiddenWay q_t_sights q_t_choice q_t_refusals q_t_now_ways q_t_now_distances q_t_now_kind q_t_now_a q_t_now_home q_t_now_aim q_t_now_at q_t_future_ways q_t_future_distances q_t_future_kind q_t_future_a q_t_future_home q_t_future_aim q_t_future_at : Nat) (v_t_isKept : Int32) (v_t_now_places : Int32) (v_t_now_people : Int32) (v_t_now_hour : Int32) (v_t_now_chance : Int32) (v_t_now_seed : Int32) (v_t_now_ways : Nat → Int32) (v_t_now_distances : Nat → Int32) (v_t_now_kind : Nat → Int32) (v_t_now_a : Nat → Int32) (v_t_now_home : Nat → Int32) (v_t_now_aim : Nat → Int32) (v_t_now_at : Nat → Int32) (v_t_future_places : Int32) (v_t_future_people : Int32) (v_t_future_hour : Int32) (v_t_future_chance : Int32) (v_t_future_seed : Int32) (v_t_future_ways : Nat → Int32) (v_t_future_distances : Nat → Int32) (v_t_future_kind : Nat → Int32) (v_t_future_a : Nat → Int32) (v_t_future_home : Nat → Int32) (v_t_future_aim : Nat → Int32) (v_t_future_at : Nat → Int32) (v_t_refusals : Nat → Int32) (sz : Nat) (p0 : Int32) (p1 : Int32) (p2 : Int32) {r_ : Int32} {n_t_future_places : Int32} {n_t_future_people : Int32} {n_t_future_hour : Int32} {n_t_future_chance : Int32} {n_t_future_seed : Int32} {n_t_future_ways : Nat → Int32} {n_t_future_distances : Nat → Int32} {n_t_future_kind : Nat → Int32} {n_t_future_a : Nat → Int32} {n_t_future_home : Nat → Int32} {n_t_future_aim : Nat → Int32} {n_t_future_at : Nat → Int32} {n_t_refusals : Nat → Int32} (hf : fX7_crowd v_t_now_places v_t_now_people v_t_now_hour v_t_now_chance v_t_now_seed v_t_now_ways v_t_now_distances v_t_now_kind v_t_now_a v_t_now_home v_t_now_aim v_t_now_at v_t_future_places v_t_future_people v_t_future_hour v_t_future_chance v_t_future_seed v_t_future_ways v_t_future_distances v_t_future_kind v_t_future_a v_t_future_home v_t_future_aim v_t_future_at v_t_refusals p0 p1 p2 = some (r_, n_t_future_places, n_t_future_people, n_t_future_hour, n_t_future_chance, n_t_future_seed, n_t_future_ways, n_t_future_distances, n_t_future_kind, n_t_future_a, n_t_future_home, n_t_future_aim, n_t_future_at, n_t_refusals)) : Met l yX7_crowd wsX7_crowd ({ frames := 6, cells := 0, slots := 0, locals := 136 }) (va_Pc [.ref q_t, .int p0, .int p1, .int p2] (fun U => U.heap.size = sz ∧ va_P D vwCl [(q_t, oX7 q_t_now q_t_future q_t_draft q_t_kept v_t_isKept q_t_shelves q_t_tape q_t_reader q_t_hiddenWay q_t_sights q_t_choice q_t_refusals), (q_t_now, oX5 v_t_now_places q_t_now_ways q_t_now_distances v_t_now_people q_t_now_kind q_t_now_a q_t_now_home q_t_now_aim q_t_now_at v_t_now_hour v_t_now_chance v_t_now_seed), (q_t_now_ways, .inl (cy 0, 12, .inl v_t_now_ways)), (q_t_now_distances, .inl (cy 0, 144, .inl v_t_now_distances)), (q_t_now_kind, .inl (cy 0, 8, .inl v_t_now_kind)), (q_t_now_a, .inl (cy 0, 8, .inl v_t_now_a)), (q_t_now_home, .inl (cy 0, 8, .inl v_t_now_home)), (q_t_now_aim, .inl (cy 0, 8, .inl v_t_now_aim)), (q_t_now_at, .inl (cy 0, 8, .inl v_t_now_at)), (q_t_future, oX5 v_t_future_places q_t_future_ways q_t_future_distances v_t_future_people q_t_future_kind q_t_future_a q_t_future_home q_t_future_aim q_t_future_at v_t_future_hour v_t_future_chance v_t_future_seed), (q_t_future_ways, .inl (cy 0, 12, .inl v_t_future_ways)), (q_t_future_distances, .inl (cy 0, 144, .inl v_t_future_distances)), (q_t_future_kind, .inl (cy 0, 8, .inl v_t_future_kind)), (q_t_future_a, .inl (cy 0, 8, .inl v_t_future_a)), (q_t_future_home, .inl (cy 0, 8, .inl v_t_future_home)), (q_t_future_aim, .inl (cy 0, 8, .inl v_t_future_aim)), (q_t_future_at, .inl (cy 0, 8, .inl v_t_future_at)), (q_t_refusals, .inl (cy 0, 5, .inl v_t_refusals))] U.heap ∧ xK D cy U ∧ va_D (fun _ => True) [(q_t, oX7 q_t_now q_t_future q_t_draft q_t_kept v_t_isKept q_t_shelves q_t_tape q_t_reader q_t_hiddenWay q_t_sights q_t_choice q_t_refusals), (q_t_now, oX5 v_t_now_places q_t_now_ways q_t_now_distances v_t_now_people q_t_now_kind q_t_now_a q_t_now_home q_t_now_aim q_t_now_at v_t_now_hour v_t_now_chance v_t_now_seed), (q_t_now_ways, .inl (cy 0, 12, .inl v_t_now_ways)), (q_t_now_distances, .inl (cy 0, 144, .inl v_t_now_distances)), (q_t_now_kind, .inl (cy 0, 8, .inl v_t_now_kind)), (q_t_now_a, .inl (cy 0, 8, .inl v_t_now_a)), (q_t_now_home, .inl (cy 0, 8, .inl v_t_now_home)), (q_t_now_aim, .inl (cy 0, 8, .inl v_t_now_aim)), (q_t_now_at, .inl (cy 0, 8, .inl v_t_now_at)), (q_t_future, oX5 v_t_future_places q_t_future_ways q_t_future_distances v_t_future_people q_t_future_kind q_t_future_a q_t_future_home q_t_future_aim q_t_future_at v_t_future_hour v_t_future_chance v_t_future_seed), (q_t_future_ways, .inl (cy 0, 12, .inl v_t_future_ways)), (q_t_future_distances, .inl (cy 0, 144, .inl v_t_future_distances)), (q_t_future_kind, .inl (cy 0, 8, .inl v_t_future_kind)), (q_t_future_a, .inl (cy 0, 8, .inl v_t_future_a)), (q_t_future_home, .inl (cy 0, 8, .inl v_t_future_home)), (q_t_future_aim, .inl (cy 0, 8, .inl v_t_future_aim)), (q_t_future_at, .inl (cy 0, 8, .inl v_t_future_at)), (q_t_refusals, .inl (cy 0, 5, .inl v_t_refusals))])) (va_Qi (fun (x : Int32) (_ : Unit) => x = r_) (fun _ t => va_P D vwCl [(q_t, oX7 q_t_now q_t_future q_t_draft q_t_kept v_t_isKept q_t_shelves q_t_tape q_t_reader q_t_hiddenWay q_t_sights q_t_choice q_t_refusals), (q_t_now, oX5 v_t_now_places q_t_now_ways q_t_now_distances v_t_now_people q_t_now_kind q_t_now_a q_t_now_home q_t_now_aim q_t_now_at v_t_now_hour v_t_now_chance v_t_now_seed), (q_t_now_ways, .inl (cy 0, 12, .inl v_t_now_ways)), (q_t_now_distances, .inl (cy 0, 144, .inl v_t_now_distances)), (q_t_now_kind, .inl (cy 0, 8, .inl v_t_now_kind)), (q_t_now_a, .inl (cy 0, 8, .inl v_t_now_a)), (q_t_now_home, .inl (cy 0, 8, .inl v_t_now_home)), (q_t_now_aim, .inl (cy 0, 8, .inl v_t_now_aim)), (q_t_now_at, .inl (cy 0, 8, .inl v_t_now_at)), (q_t_future, oX5 n_t_future_places q_t_future_ways q_t_future_distances n_t_future_people q_t_future_kind q_t_future_a q_t_future_home q_t_future_aim q_t_future_at n_t_future_hour n_t_future_chance n_t_future_seed), (q_t_future_ways, .inl (cy 0, 12, .inl n_t_future_ways)), (q_t_future_distances, .inl (cy 0, 144, .inl n_t_future_distances)), (q_t_future_kind, .inl (cy 0, 8, .inl n_t_future_kind)), (q_t_future_a, .inl (cy 0, 8, .inl n_t_future_a)), (q_t_future_home, .inl (cy 0, 8, .inl n_t_future_home)), (q_t_future_aim, .inl (cy 0, 8, .inl n_t_future_aim)), (q_t_future_at, .inl (cy 0, 8, .inl n_t_future_at)), (q_t_refusals, .inl (cy 0, 5, .inl n_t_refusals))] t.heap) (va_A [(q_t, oX7 q_t_now q_t_future q_t_draft q_t_kept v_t_isKept q_t_shelves q_t_tape q_t_reader q_t_hiddenWay q_t_sights q_t_choice q_t_refusals), (q_t_now, oX5 v_t_now_places q_t_now_ways q_t_now_distances v_t_now_people q_t_now_kind q_t_now_a q_t_now_home q_t_now_aim q_t_now_at v_t_now_hour v_t_now_chance v_t_now_seed), (q_t_now_ways, .inl (cy 0, 12, .inl v_t_now_ways)), (q_t_now_distances, .inl (cy 0, 144, .inl v_t_now_distances)), (q_t_now_kind, .inl (cy 0, 8, .inl v_t_now_kind)), (q_t_now_a, .inl (cy 0, 8, .inl v_t_now_a)), (q_t_now_home, .inl (cy 0, 8, .inl v_t_now_home)), (q_t_now_aim, .inl (cy 0, 8, .inl v_t_now_aim)), (q_t_now_at, .inl (cy 0, 8, .inl v_t_now_at)), (q_t_future, oX5 v_t_future_places q_t_future_ways q_t_future_distances v_t_future_people q_t_future_kind q_t_future_a q_t_future_home q_t_future_aim q_t_future_at v_t_future_hour v_t_future_chance v_t_future_seed), (q_t_future_ways, .inl (cy 0, 12, .inl v_t_future_ways)), (q_t_future_distances, .inl (cy 0, 144, .inl v_t_future_distances)), (q_t_future_kind, .inl (cy 0, 8, .inl v_t_future_kind)), (q_t_future_a, .inl (cy 0, 8, .inl v_t_future_a)), (q_t_future_home, .inl (cy 0, 8, .inl v_t_future_home)), (q_t_future_aim, .inl (cy 0, 8, .inl v_t_future_aim)), (q_t_future_at, .inl (cy 0, 8, .inl v_t_future_at)), (q_t_refusals, .inl (cy 0, 5, .inl v_t_refusals))] sz)) 0 0 (va_A [(q_t, oX7 q_t_now q_t_future q_t_draft q_t_kept v_t_isKept q_t_shelves q_t_tape q_t_reader q_t_hiddenWay q_t_sights q_t_choice q_t_refusals), (q_t_now, oX5 v_t_now_places q_t_now_ways q_t_now_distances v_t_now_people q_t_now_kind q_t_now_a q_t_now_home q_t_now_aim q_t_now_at v_t_now_hour v_t_now_chance v_t_now_seed), (q_t_now_ways, .inl (cy 0, 12, .inl v_t_now_ways)), (q_t_now_distances, .inl (cy 0, 144, .inl v_t_now_distances)), (q_t_now_kind, .inl (cy 0, 8, .inl v_t_now_kind)), (q_t_now_a, .inl (cy 0, 8, .inl v_t_now_a)), (q_t_now_home, .inl (cy 0, 8, .inl v_t_now_home)), (q_t_now_aim, .inl (cy 0, 8, .inl v_t_now_aim)), (q_t_now_at, .inl (cy 0, 8, .inl v_t_now_at)), (q_t_future, oX5 v_t_future_places q_t_future_ways q_t_future_distances v_t_future_people q_t_future_kind q_t_future_a q_t_future_home q_t_future_aim q_t_future_at v_t_future_hour v_t_future_chance v_t_future_seed), (q_t_future_ways, .inl (cy 0, 12, .inl v_t_future_ways)), (q_t_future_distances, .inl (cy 0, 144, .inl v_t_future_distances)), (q_t_future_kind, .inl (cy 0, 8, .inl v_t_future_kind)), (q_t_future_a, .inl (cy 0, 8, .inl v_t_future_a)), (q_t_future_home, .inl (cy 0, 8, .inl v_t_future_home)), (q_t_future_aim, .inl (cy 0, 8, .inl v_t_future_aim)), (q_t_future_at, .inl (cy 0, 8, .inl v_t_future_at)), (q_t_refusals, .inl (cy 0, 5, .inl v_t_refusals))] sz) := by
  refine Met.ofW (cc := cX7_crowd) (maxL := 4) (ret := (some .int)) (by decide) rfl ?_
  intro p e s m args below meth c s₁ B hml hv
  obtain ⟨rfl, hsz, hP, hK, hD0⟩ := hv
  have hx := B.exec
  have hb := B.bytes
  have hr := B.returns
  have hts := atoms_spec (ws := wsX7_crowd) B.pre
  have hown : s.vm.findClass RX7 = some m.cls := findClass_of_methodNamed B.named
  have hlocks := B.notSynchronized
  subst hsz
  have hD := hD0.self (sz := s.heap.size)
  generalize hAe : va_A [(q_t, oX7 q_t_now q_t_future q_t_draft q_t_kept v_t_isKept q_t_shelves q_t_tape q_t_reader q_t_hiddenWay q_t_sights q_t_choice q_t_refusals), (q_t_now, oX5 v_t_now_places q_t_now_ways q_t_now_distances v_t_now_people q_t_now_kind q_t_now_a q_t_now_home q_t_now_aim q_t_now_at v_t_now_hour v_t_now_chance v_t_now_seed), (q_t_now_ways, .inl (cy 0, 12, .inl v_t_now_ways)), (q_t_now_distances, .inl (cy 0, 144, .inl v_t_now_distances)), (q_t_now_kind, .inl (cy 0, 8, .inl v_t_now_kind)), (q_t_now_a, .inl (cy 0, 8, .inl v_t_now_a)), (q_t_now_home, .inl (cy 0, 8, .inl v_t_now_home)), (q_t_now_aim, .inl (cy 0, 8, .inl v_t_now_aim)), (q_t_now_at, .inl (cy 0, 8, .inl v_t_now_at)), (q_t_future, oX5 v_t_future_places q_t_future_ways q_t_future_distances v_t_future_people q_t_future_kind q_t_future_a q_t_future_home q_t_future_aim q_t_future_at v_t_future_hour v_t_future_chance v_t_future_seed), (q_t_future_ways, .inl (cy 0, 12, .inl v_t_future_ways)), (q_t_future_distances, .inl (cy 0, 144, .inl v_t_future_distances)), (q_t_future_kind, .inl (cy 0, 8, .inl v_t_future_kind)), (q_t_future_a, .inl (cy 0, 8, .inl v_t_future_a)), (q_t_future_home, .inl (cy 0, 8, .inl v_t_future_home)), (q_t_future_aim, .inl (cy 0, 8, .inl v_t_future_aim)), (q_t_future_at, .inl (cy 0, 8, .inl v_t_future_at)), (q_t_refusals, .inl (cy 0, 5, .inl v_t_refusals))] s.heap.size = A at hD ⊢
  have hA : ∀ q : Nat, s.heap.size ≤ q → A q := fun q h => by rw [← hAe]; exact Or.inr h
  have hS : va_S A s.heap s.heap [] := va_S.rf
  have hP : va_P D vwCl [(q_t, oX7 q_t_now q_t_future q_t_draft q_t_kept v_t_isKept q_t_shelves q_t_tape q_t_reader q_t_hiddenWay q_t_sights q_t_choice q_t_refusals), (q_t_now, oX5 v_t_now_places q_t_now_ways q_t_now_distances v_t_now_people q_t_now_kind q_t_now_a q_t_now_home q_t_now_aim q_t_now_at v_t_now_hour v_t_now_chance v_t_now_seed), (q_t_now_ways, .inl (cy 0, 12, .inl v_t_now_ways)), (q_t_now_distances, .inl (cy 0, 144, .inl v_t_now_distances)), (q_t_now_kind, .inl (cy 0, 8, .inl v_t_now_kind)), (q_t_now_a, .inl (cy 0, 8, .inl v_t_now_a)), (q_t_now_home, .inl (cy 0, 8, .inl v_t_now_home)), (q_t_now_aim, .inl (cy 0, 8, .inl v_t_now_aim)), (q_t_now_at, .inl (cy 0, 8, .inl v_t_now_at)), (q_t_future, oX5 v_t_future_places q_t_future_ways q_t_future_distances v_t_future_people q_t_future_kind q_t_future_a q_t_future_home q_t_future_aim q_t_future_at v_t_future_hour v_t_future_chance v_t_future_seed), (q_t_future_ways, .inl (cy 0, 12, .inl v_t_future_ways)), (q_t_future_distances, .inl (cy 0, 144, .inl v_t_future_distances)), (q_t_future_kind, .inl (cy 0, 8, .inl v_t_future_kind)), (q_t_future_a, .inl (cy 0, 8, .inl v_t_future_a)), (q_t_future_home, .inl (cy 0, 8, .inl v_t_future_home)), (q_t_future_aim, .inl (cy 0, 8, .inl v_t_future_aim)), (q_t_future_at, .inl (cy 0, 8, .inl v_t_future_at)), (q_t_refusals, .inl (cy 0, 5, .inl v_t_refusals))] s.heap := hP
  have hinX7 : ∀ w ∈ u_ws RX7 TX7 12, w ∈ wsX7_crowd := by decide +kernel
  have hk16 := hts (.fieldLink RX7 16 "ShowsWhereNobodyIs" "future" "LShowsWhereNobodyIs$Town;") (by decide +kernel)
  have hl := lv_entry ([.ref q_t, .int p0, .int p1, .int p2]) (n := 4) (Nat.le_of_ble_eq_true rfl)
  rw [lg_entry_eq]
  generalize (lg_sl ([.ref q_t, .int p0, .int p1, .int p2]) ++ List.replicate (4 - (lg_sl ([.ref q_t, .int p0, .int p1, .int p2])).length) Slot.unset).toArray = ls at hl ⊢
  have hl : lv_has ls 4 [(0, .ref q_t), (1, .int p0), (2, .int p1), (3, .int p2)] := hl
  unfold fX7_crowd at hf
  refine lv_aload_n hx hb dX7_crowd_0 rfl (lv_at hl 0 rfl) ?_
  refine lv_iload_n hx hb dX7_crowd_1 rfl (lv_at hl 1 rfl) ?_
  obtain ⟨r1, hr2, hf⟩ := boE1 hf
  have hPc := hP.sub (ws' := [(q_t, oX7 q_t_now q_t_future q_t_draft q_t_kept v_t_isKept q_t_shelves q_t_tape q_t_reader q_t_hiddenWay q_t_sights q_t_choice q_t_refusals), (q_t_now, oX5 v_t_now_places q_t_now_ways q_t_now_distances v_t_now_people q_t_now_kind q_t_now_a q_t_now_home q_t_now_aim q_t_now_at v_t_now_hour v_t_now_chance v_t_now_seed)]) [0, 1] rfl
  refine xcSi (va_runV (As := [.int p0]) (rest := []) ⟨hx, hb, hml, hown, hts⟩ (mX7_isPlace l D cy q_t q_t_now q_t_future q_t_draft q_t_kept q_t_shelves q_t_tape q_t_reader q_t_hiddenWay q_t_sights q_t_choice q_t_refusals q_t_now_ways q_t_now_distances q_t_now_kind q_t_now_a q_t_now_home q_t_now_aim q_t_now_at v_t_isKept v_t_now_places v_t_now_people v_t_now_hour v_t_now_chance v_t_now_seed  p0 hr2) (cwV 1 hts gX7_crowd_X7_isPlace rfl rfl rfl (by decide +kernel) ⟨Nat.le_of_ble_eq_true rfl, Nat.le_of_ble_eq_true rfl⟩) (xPV hK hPc (ci := 7) (q0 := 0) rfl rfl) rfl rfl hl.1 rfl (lv_room (Nat.le_of_ble_eq_true rfl)) dX7_crowd_2 ⟨Nat.le_of_ble_eq_true rfl, Nat.le_of_ble_eq_true rfl⟩) ?_
  refine jww0 24 [] (fun  H locs ls => va_P D vwCl [(q_t, oX7 q_t_now q_t_future q_t_draft q_t_kept v_t_isKept q_t_shelves q_t_tape q_t_reader q_t_hiddenWay q_t_sights q_t_choice q_t_refusals), (q_t_now, oX5 v_t_now_places q_t_now_ways q_t_now_distances v_t_now_people q_t_now_kind q_t_now_a q_t_now_home q_t_now_aim q_t_now_at v_t_now_hour v_t_now_chance v_t_now_seed), (q_t_now_ways, .inl (cy 0, 12, .inl v_t_now_ways)), (q_t_now_distances, .inl (cy 0, 144, .inl v_t_now_distances)), (q_t_now_kind, .inl (cy 0, 8, .inl v_t_now_kind)), (q_t_now_a, .inl (cy 0, 8, .inl v_t_now_a)), (q_t_now_home, .inl (cy 0, 8, .inl v_t_now_home)), (q_t_now_aim, .inl (cy 0, 8, .inl v_t_now_aim)), (q_t_now_at, .inl (cy 0, 8, .inl v_t_now_at)), (q_t_future, oX5 v_t_future_places q_t_future_ways q_t_future_distances v_t_future_people q_t_future_kind q_t_future_a q_t_future_home q_t_future_aim q_t_future_at v_t_future_hour v_t_future_chance v_t_future_seed), (q_t_future_ways, .inl (cy 0, 12, .inl v_t_future_ways)), (q_t_future_distances, .inl (cy 0, 144, .inl v_t_future_distances)), (q_t_future_kind, .inl (cy 0, 8, .inl v_t_future_kind)), (q_t_future_a, .inl (cy 0, 8, .inl v_t_future_a)), (q_t_future_home, .inl (cy 0, 8, .inl v_t_future_home)), (q_t_future_aim, .inl (cy 0, 8, .inl v_t_future_aim)), (q_t_future_at, .inl (cy 0, 8, .inl v_t_future_at)), (q_t_refusals, .inl (cy 0, 5, .inl v_t_refusals))] H ∧ va_D A [(q_t, oX7 q_t_now q_t_future q_t_draft q_t_kept v_t_isKept q_t_shelves q_t_tape q_t_reader q_t_hiddenWay q_t_sights q_t_choice q_t_refusals), (q_t_now, oX5 v_t_now_places q_t_now_ways q_t_now_distances v_t_now_people q_t_now_kind q_t_now_a q_t_now_home q_t_now_aim q_t_now_at v_t_now_hour v_t_now_chance v_t_now_seed), (q_t_now_ways, .inl (cy 0, 12, .inl v_t_now_ways)), (q_t_now_distances, .inl (cy 0, 144, .inl v_t_now_distances)), (q_t_now_kind, .inl (cy 0, 8, .inl v_t_now_kind)), (q_t_now_a, .inl (cy 0, 8, .inl v_t_now_a)), (q_t_now_home, .inl (cy 0, 8, .inl v_t_now_home)), (q_t_now_aim, .inl (cy 0, 8, .inl v_t_now_aim)), (q_t_now_at, .inl (cy 0, 8, .inl v_t_now_at)), (q_t_future, oX5 v_t_future_places q_t_future_ways q_t_future_distances v_t_future_people q_t_future_kind q_t_future_a q_t_future_home q_t_future_aim q_t_future_at v_t_future_hour v_t_future_chance v_t_future_seed), (q_t_future_ways, .inl (cy 0, 12, .inl v_t_future_ways)), (q_t_future_distances, .inl (cy 0, 144, .inl v_t_future_distances)), (q_t_future_kind, .inl (cy 0, 8, .inl v_t_future_kind)), (q_t_future_a, .inl (cy 0, 8, .inl v_t_future_a)), (q_t_future_home, .inl (cy 0, 8, .inl v_t_future_home)), (q_t_future_aim, .inl (cy 0, 8, .inl v_t_future_aim)), (q_t_future_at, .inl (cy 0, 8, .inl v_t_future_at)), (q_t_refusals, .inl (cy 0, 5, .inl v_t_refusals))] ∧ va_S A s.heap H locs ∧ lv_has ls 4 [(0, .ref q_t)]) hf (fun  H locs ls hI hf => ?_) (fun k3 J24 hf => ?_)
  · obtain ⟨hP, hD, hS, hl⟩ := hI
    refine lv_aload_n hx hb dX7_crowd_24 rfl (lv_at hl 0 rfl) ?_
    refine lv_bipush (v := (-2)) hx hb dX7_crowd_25 (by decide) ?_
    obtain ⟨r4, u5, hr6, hf⟩ := boE2 hf
    have hPc := hP.sub (ws' := [(q_t, oX7 q_t_now q_t_future q_t_draft q_t_kept v_t_isKept q_t_shelves q_t_tape q_t_reader q_t_hiddenWay q_t_sights q_t_choice q_t_refusals), (q_t_refusals, .inl (cy 0, 5, .inl v_t_refusals))]) [0, 17] rfl
    have hDc := hD.sub (ws' := [(q_t, oX7 q_t_now q_t_future q_t_draft q_t_kept v_t_isKept q_t_shelves q_t_tape q_t_reader q_t_hiddenWay q_t_sights q_t_choice q_t_refusals), (q_t_refusals, .inl (cy 0, 5, .inl v_t_refusals))]) [0, 17] (by decide) rfl
    refine xcQi (w1 := [(q_t, oX7 q_t_now q_t_future q_t_draft q_t_kept v_t_isKept q_t_shelves q_t_tape q_t_reader q_t_hiddenWay q_t_sights q_t_choice q_t_refusals), (q_t_refusals, .inl (cy 0, 5, .inl u5))]) (va_runV (As := [.int (-2 : Int32)]) (rest := []) ⟨hx, hb, hml, hown, hts⟩ (mX7_refuse l D cy q_t q_t_now q_t_future q_t_draft q_t_kept q_t_shelves q_t_tape q_t_reader q_t_hiddenWay q_t_sights q_t_choice q_t_refusals v_t_isKept v_t_refusals _ (-2 : Int32) hr6) (cwV 1 hts gX7_crowd_X7_refuse rfl rfl rfl (by decide +kernel) ⟨Nat.le_of_ble_eq_true rfl, Nat.le_of_ble_eq_true rfl⟩) (xPVw hK hPc hDc (ci := 7) (q0 := 0) rfl rfl) rfl rfl hl.1 rfl (lv_room (Nat.le_of_ble_eq_true rfl)) dX7_crowd_27 ⟨Nat.le_of_ble_eq_true rfl, Nat.le_of_ble_eq_true rfl⟩) hP hD hS hA [0, 17] rfl rfl (fun H locs hP hD hS => ?_)
    have hP : va_P D vwCl [(q_t, oX7 q_t_now q_t_future q_t_draft q_t_kept v_t_isKept q_t_shelves q_t_tape q_t_reader q_t_hiddenWay q_t_sights q_t_choice q_t_refusals), (q_t_now, oX5 v_t_now_places q_t_now_ways q_t_now_distances v_t_now_people q_t_now_kind q_t_now_a q_t_now_home q_t_now_aim q_t_now_at v_t_now_hour v_t_now_chance v_t_now_seed), (q_t_now_ways, .inl (cy 0, 12, .inl v_t_now_ways)), (q_t_now_distances, .inl (cy 0, 144, .inl v_t_now_distances)), (q_t_now_kind, .inl (cy 0, 8, .inl v_t_now_kind)), (q_t_now_a, .inl (cy 0, 8, .inl v_t_now_a)), (q_t_now_home, .inl (cy 0, 8, .inl v_t_now_home)), (q_t_now_aim, .inl (cy 0, 8, .inl v_t_now_aim)), (q_t_now_at, .inl (cy 0, 8, .inl v_t_now_at)), (q_t_future, oX5 v_t_future_places q_t_future_ways q_t_future_distances v_t_future_people q_t_future_kind q_t_future_a q_t_future_home q_t_future_aim q_t_future_at v_t_future_hour v_t_future_chance v_t_future_seed), (q_t_future_ways, .inl (cy 0, 12, .inl v_t_future_ways)), (q_t_future_distances, .inl (cy 0, 144, .inl v_t_future_distances)), (q_t_future_kind, .inl (cy 0, 8, .inl v_t_future_kind)), (q_t_future_a, .inl (cy 0, 8, .inl v_t_future_a)), (q_t_future_home, .inl (cy 0, 8, .inl v_t_future_home)), (q_t_future_aim, .inl (cy 0, 8, .inl v_t_future_aim)), (q_t_future_at, .inl (cy 0, 8, .inl v_t_future_at)), (q_t_refusals, .inl (cy 0, 5, .inl u5))] H := hP
    have hD : va_D A [(q_t, oX7 q_t_now q_t_future q_t_draft q_t_kept v_t_isKept q_t_shelves q_t_tape q_t_reader q_t_hiddenWay q_t_sights q_t_choice q_t_refusals), (q_t_now, oX5 v_t_now_places q_t_now_ways q_t_now_distances v_t_now_people q_t_now_kind q_t_now_a q_t_now_home q_t_now_aim q_t_now_at v_t_now_hour v_t_now_chance v_t_now_seed), (q_t_now_ways, .inl (cy 0, 12, .inl v_t_now_ways)), (q_t_now_distances, .inl (cy 0, 144, .inl v_t_now_distances)), (q_t_now_kind, .inl (cy 0, 8, .inl v_t_now_kind)), (q_t_now_a, .inl (cy 0, 8, .inl v_t_now_a)), (q_t_now_home, .inl (cy 0, 8, .inl v_t_now_home)), (q_t_now_aim, .inl (cy 0, 8, .inl v_t_now_aim)), (q_t_now_at, .inl (cy 0, 8, .inl v_t_now_at)), (q_t_future, oX5 v_t_future_places q_t_future_ways q_t_future_distances v_t_future_people q_t_future_kind q_t_future_a q_t_future_home q_t_future_aim q_t_future_at v_t_future_hour v_t_future_chance v_t_future_seed), (q_t_future_ways, .inl (cy 0, 12, .inl v_t_future_ways)), (q_t_future_distances, .inl (cy 0, 144, .inl v_t_future_distances)), (q_t_future_kind, .inl (cy 0, 8, .inl v_t_future_kind)), (q_t_future_a, .inl (cy 0, 8, .inl v_t_future_a)), (q_t_future_home, .inl (cy 0, 8, .inl v_t_future_home)), (q_t_future_aim, .inl (cy 0, 8, .inl v_t_future_aim)), (q_t_future_at, .inl (cy 0, 8, .inl v_t_future_at)), (q_t_refusals, .inl (cy 0, 5, .inl u5))] := hD
    have hg0 := Option.some.inj hf
    obtain ⟨ee0, hg1⟩ := Prod.mk.inj hg0
    obtain ⟨ee1, hg2⟩ := Prod.mk.inj hg1
    obtain ⟨ee2, hg3⟩ := Prod.mk.inj hg2
    obtain ⟨ee3, hg4⟩ := Prod.mk.inj hg3
    obtain ⟨ee4, hg5⟩ := Prod.mk.inj hg4
    obtain ⟨ee5, hg6⟩ := Prod.mk.inj hg5
    obtain ⟨ee6, hg7⟩ := Prod.mk.inj hg6
    obtain ⟨ee7, hg8⟩ := Prod.mk.inj hg7
    obtain ⟨ee8, hg9⟩ := Prod.mk.inj hg8
    obtain ⟨ee9, hg10⟩ := Prod.mk.inj hg9
    obtain ⟨ee10, hg11⟩ := Prod.mk.inj hg10
    obtain ⟨ee11, hg12⟩ := Prod.mk.inj hg11
    obtain ⟨ee12, hg13⟩ := Prod.mk.inj hg12
    clear hf hg0 hg1 hg2 hg3 hg4 hg5 hg6 hg7 hg8 hg9 hg10 hg11 hg12
    subst ee0
    subst ee1
    subst ee2
    subst ee3
    subst ee4
    subst ee5
    subst ee6
    subst ee7
    subst ee8
    subst ee9
    subst ee10
    subst ee11
    subst ee12
    subst hg13
    exact W.iret hx hb hr (fun t ht hW => ⟨⟨_, (), rfl, rfl, xend ht hP⟩, hS.F ht⟩) hS.2.2 dX7_crowd_30
  · refine lv_if_eq (tgt := 24) hx hb dX7_crowd_5 (by decide) (fun c30 => ?_) (fun c30 => ?_)
    · have hf := ifT hf c30
      clear c30
      exact J24 _ _ ls ⟨hP, hD, hS, lv_sub hl [0] rfl⟩ hf
    · have hf := ifF hf c30
      clear c30
      refine lv_iload_n hx hb dX7_crowd_8 rfl (lv_at hl 2 rfl) ?_
      obtain ⟨r7, hr8, hf⟩ := boE1 hf
      have hPc := hP.sub (ws' := []) [] rfl
      refine xcSi (va_runS (As := [.int p1]) (rest := []) ⟨hx, hb, hml, hown, hts⟩ (mX7_isAhead l D cy    p1 hr8) (va_cwS 1 hts gX7_crowd_X7_isAhead rfl rfl rfl (by decide +kernel) ⟨Nat.le_of_ble_eq_true rfl, Nat.le_of_ble_eq_true rfl⟩) (xPS hK hPc) rfl rfl hl.1 rfl (lv_room (Nat.le_of_ble_eq_true rfl)) dX7_crowd_9 ⟨Nat.le_of_ble_eq_true rfl, Nat.le_of_ble_eq_true rfl⟩) ?_
      refine lv_if_eq (tgt := 24) hx hb dX7_crowd_12 (by decide) (fun c29 => ?_) (fun c29 => ?_)
      · have hf := ifT hf c29
        clear c29
        exact J24 _ _ ls ⟨hP, hD, hS, lv_sub hl [0] rfl⟩ hf
      · have hf := ifF hf c29
        clear c29
        refine lv_iload_n hx hb dX7_crowd_15 rfl (lv_at hl 3 rfl) ?_
        refine lv_if_lt (tgt := 24) hx hb dX7_crowd_16 (by decide) (fun c28 => ?_) (fun c28 => ?_)
        · have hf := ifT hf c28
          clear c28
          exact J24 _ _ ls ⟨hP, hD, hS, lv_sub hl [0] rfl⟩ hf
        · have hf := ifF hf c28
          clear c28
          refine lv_iload_n hx hb dX7_crowd_19 rfl (lv_at hl 3 rfl) ?_
          refine lv_iconst (v := 1) hx hb dX7_crowd_20 (by decide) ?_
          refine lv_icmp_le (tgt := 31) hx hb dX7_crowd_21 (by decide) (fun c27 => ?_) (fun c27 => ?_)
          · have hf := ifT hf c27
            clear c27
            refine lv_aload_n hx hb dX7_crowd_31 rfl (lv_at hl 0 rfl) ?_
            refine lv_iload_n hx hb dX7_crowd_32 rfl (lv_at hl 2 rfl) ?_
            obtain ⟨u9, u10, u11, u12, u13, u14, u15, u16, u17, u18, u19, u20, hr21, hf⟩ := boE12 hf
            have hPc := hP.sub (ws' := [(q_t, oX7 q_t_now q_t_future q_t_draft q_t_kept v_t_isKept q_t_shelves q_t_tape q_t_reader q_t_hiddenWay q_t_sights q_t_choice q_t_refusals), (q_t_now, oX5 v_t_now_places q_t_now_ways q_t_now_distances v_t_now_people q_t_now_kind q_t_now_a q_t_now_home q_t_now_aim q_t_now_at v_t_now_hour v_t_now_chance v_t_now_seed), (q_t_now_ways, .inl (cy 0, 12, .inl v_t_now_ways)), (q_t_now_distances, .inl (cy 0, 144, .inl v_t_now_distances)), (q_t_now_kind, .inl (cy 0, 8, .inl v_t_now_kind)), (q_t_now_a, .inl (cy 0, 8, .inl v_t_now_a)), (q_t_now_home, .inl (cy 0, 8, .inl v_t_now_home)), (q_t_now_aim, .inl (cy 0, 8, .inl v_t_now_aim)), (q_t_now_at, .inl (cy 0, 8, .inl v_t_now_at)), (q_t_future, oX5 v_t_future_places q_t_future_ways q_t_future_distances v_t_future_people q_t_future_kind q_t_future_a q_t_future_home q_t_future_aim q_t_future_at v_t_future_hour v_t_future_chance v_t_future_seed), (q_t_future_ways, .inl (cy 0, 12, .inl v_t_future_ways)), (q_t_future_distances, .inl (cy 0, 144, .inl v_t_future_distances)), (q_t_future_kind, .inl (cy 0, 8, .inl v_t_future_kind)), (q_t_future_a, .inl (cy 0, 8, .inl v_t_future_a)), (q_t_future_home, .inl (cy 0, 8, .inl v_t_future_home)), (q_t_future_aim, .inl (cy 0, 8, .inl v_t_future_aim)), (q_t_future_at, .inl (cy 0, 8, .inl v_t_future_at))]) [0, 1, 2, 3, 4, 5, 6, 7, 8, 9, 10, 11, 12, 13, 14, 15, 16] rfl
            have hDc := hD.sub (ws' := [(q_t, oX7 q_t_now q_t_future q_t_draft q_t_kept v_t_isKept q_t_shelves q_t_tape q_t_reader q_t_hiddenWay q_t_sights q_t_choice q_t_refusals), (q_t_now, oX5 v_t_now_places q_t_now_ways q_t_now_distances v_t_now_people q_t_now_kind q_t_now_a q_t_now_home q_t_now_aim q_t_now_at v_t_now_hour v_t_now_chance v_t_now_seed), (q_t_now_ways, .inl (cy 0, 12, .inl v_t_now_ways)), (q_t_now_distances, .inl (cy 0, 144, .inl v_t_now_distances)), (q_t_now_kind, .inl (cy 0, 8, .inl v_t_now_kind)), (q_t_now_a, .inl (cy 0, 8, .inl v_t_now_a)), (q_t_now_home, .inl (cy 0, 8, .inl v_t_now_home)), (q_t_now_aim, .inl (cy 0, 8, .inl v_t_now_aim)), (q_t_now_at, .inl (cy 0, 8, .inl v_t_now_at)), (q_t_future, oX5 v_t_future_places q_t_future_ways q_t_future_distances v_t_future_people q_t_future_kind q_t_future_a q_t_future_home q_t_future_aim q_t_future_at v_t_future_hour v_t_future_chance v_t_future_seed), (q_t_future_ways, .inl (cy 0, 12, .inl v_t_future_ways)), (q_t_future_distances, .inl (cy 0, 144, .inl v_t_future_distances)), (q_t_future_kind, .inl (cy 0, 8, .inl v_t_future_kind)), (q_t_future_a, .inl (cy 0, 8, .inl v_t_future_a)), (q_t_future_home, .inl (cy 0, 8, .inl v_t_future_home)), (q_t_future_aim, .inl (cy 0, 8, .inl v_t_future_aim)), (q_t_future_at, .inl (cy 0, 8, .inl v_t_future_at))]) [0, 1, 2, 3, 4, 5, 6, 7, 8, 9, 10, 11, 12, 13, 14, 15, 16] (by decide) rfl
            refine xcQv (w1 := [(q_t, oX7 q_t_now q_t_future q_t_draft q_t_kept v_t_isKept q_t_shelves q_t_tape q_t_reader q_t_hiddenWay q_t_sights q_t_choice q_t_refusals), (q_t_now, oX5 v_t_now_places q_t_now_ways q_t_now_distances v_t_now_people q_t_now_kind q_t_now_a q_t_now_home q_t_now_aim q_t_now_at v_t_now_hour v_t_now_chance v_t_now_seed), (q_t_now_ways, .inl (cy 0, 12, .inl v_t_now_ways)), (q_t_now_distances, .inl (cy 0, 144, .inl v_t_now_distances)), (q_t_now_kind, .inl (cy 0, 8, .inl v_t_now_kind)), (q_t_now_a, .inl (cy 0, 8, .inl v_t_now_a)), (q_t_now_home, .inl (cy 0, 8, .inl v_t_now_home)), (q_t_now_aim, .inl (cy 0, 8, .inl v_t_now_aim)), (q_t_now_at, .inl (cy 0, 8, .inl v_t_now_at)), (q_t_future, oX5 u9 q_t_future_ways q_t_future_distances u10 q_t_future_kind q_t_future_a q_t_future_home q_t_future_aim q_t_future_at u11 u12 u13), (q_t_future_ways, .inl (cy 0, 12, .inl u14)), (q_t_future_distances, .inl (cy 0, 144, .inl u15)), (q_t_future_kind, .inl (cy 0, 8, .inl u16)), (q_t_future_a, .inl (cy 0, 8, .inl u17)), (q_t_future_home, .inl (cy 0, 8, .inl u18)), (q_t_future_aim, .inl (cy 0, 8, .inl u19)), (q_t_future_at, .inl (cy 0, 8, .inl u20))]) (va_runV (As := [.int p1]) (rest := []) ⟨hx, hb, hml, hown, hts⟩ (mX7_lookAhead l D cy q_t q_t_now q_t_future q_t_draft q_t_kept q_t_shelves q_t_tape q_t_reader q_t_hiddenWay q_t_sights q_t_choice q_t_refusals q_t_now_ways q_t_now_distances q_t_now_kind q_t_now_a q_t_now_home q_t_now_aim q_t_now_at q_t_future_ways q_t_future_distances q_t_future_kind q_t_future_a q_t_future_home q_t_future_aim q_t_future_at v_t_isKept v_t_now_places v_t_now_people v_t_now_hour v_t_now_chance v_t_now_seed v_t_now_ways v_t_now_distances v_t_now_kind v_t_now_a v_t_now_home v_t_now_aim v_t_now_at v_t_future_places v_t_future_people v_t_future_hour v_t_future_chance v_t_future_seed v_t_future_ways v_t_future_distances v_t_future_kind v_t_future_a v_t_future_home v_t_future_aim v_t_future_at _ p1 hr21) (cwV 1 hts gX7_crowd_X7_lookAhead rfl rfl rfl (by decide +kernel) ⟨Nat.le_of_ble_eq_true rfl, Nat.le_of_ble_eq_true rfl⟩) (xPVw hK hPc hDc (ci := 7) (q0 := 0) rfl rfl) rfl rfl hl.1 rfl (lv_room (Nat.le_of_ble_eq_true rfl)) dX7_crowd_33 ⟨Nat.le_of_ble_eq_true rfl, Nat.le_of_ble_eq_true rfl⟩) hP hD hS hA [0, 1, 2, 3, 4, 5, 6, 7, 8, 9, 10, 11, 12, 13, 14, 15, 16] rfl rfl (fun H locs hP hD hS => ?_)
            have hP : va_P D vwCl [(q_t, oX7 q_t_now q_t_future q_t_draft q_t_kept v_t_isKept q_t_shelves q_t_tape q_t_reader q_t_hiddenWay q_t_sights q_t_choice q_t_refusals), (q_t_now, oX5 v_t_now_places q_t_now_ways q_t_now_distances v_t_now_people q_t_now_kind q_t_now_a q_t_now_home q_t_now_aim q_t_now_at v_t_now_hour v_t_now_chance v_t_now_seed), (q_t_now_ways, .inl (cy 0, 12, .inl v_t_now_ways)), (q_t_now_distances, .inl (cy 0, 144, .inl v_t_now_distances)), (q_t_now_kind, .inl (cy 0, 8, .inl v_t_now_kind)), (q_t_now_a, .inl (cy 0, 8, .inl v_t_now_a)), (q_t_now_home, .inl (cy 0, 8, .inl v_t_now_home)), (q_t_now_aim, .inl (cy 0, 8, .inl v_t_now_aim)), (q_t_now_at, .inl (cy 0, 8, .inl v_t_now_at)), (q_t_future, oX5 u9 q_t_future_ways q_t_future_distances u10 q_t_future_kind q_t_future_a q_t_future_home q_t_future_aim q_t_future_at u11 u12 u13), (q_t_future_ways, .inl (cy 0, 12, .inl u14)), (q_t_future_distances, .inl (cy 0, 144, .inl u15)), (q_t_future_kind, .inl (cy 0, 8, .inl u16)), (q_t_future_a, .inl (cy 0, 8, .inl u17)), (q_t_future_home, .inl (cy 0, 8, .inl u18)), (q_t_future_aim, .inl (cy 0, 8, .inl u19)), (q_t_future_at, .inl (cy 0, 8, .inl u20)), (q_t_refusals, .inl (cy 0, 5, .inl v_t_refusals))] H := hP
            have hD : va_D A [(q_t, oX7 q_t_now q_t_future q_t_draft q_t_kept v_t_isKept q_t_shelves q_t_tape q_t_reader q_t_hiddenWay q_t_sights q_t_choice q_t_refusals), (q_t_now, oX5 v_t_now_places q_t_now_ways q_t_now_distances v_t_now_people q_t_now_kind q_t_now_a q_t_now_home q_t_now_aim q_t_now_at v_t_now_hour v_t_now_chance v_t_now_seed), (q_t_now_ways, .inl (cy 0, 12, .inl v_t_now_ways)), (q_t_now_distances, .inl (cy 0, 144, .inl v_t_now_distances)), (q_t_now_kind, .inl (cy 0, 8, .inl v_t_now_kind)), (q_t_now_a, .inl (cy 0, 8, .inl v_t_now_a)), (q_t_now_home, .inl (cy 0, 8, .inl v_t_now_home)), (q_t_now_aim, .inl (cy 0, 8, .inl v_t_now_aim)), (q_t_now_at, .inl (cy 0, 8, .inl v_t_now_at)), (q_t_future, oX5 u9 q_t_future_ways q_t_future_distances u10 q_t_future_kind q_t_future_a q_t_future_home q_t_future_aim q_t_future_at u11 u12 u13), (q_t_future_ways, .inl (cy 0, 12, .inl u14)), (q_t_future_distances, .inl (cy 0, 144, .inl u15)), (q_t_future_kind, .inl (cy 0, 8, .inl u16)), (q_t_future_a, .inl (cy 0, 8, .inl u17)), (q_t_future_home, .inl (cy 0, 8, .inl u18)), (q_t_future_aim, .inl (cy 0, 8, .inl u19)), (q_t_future_at, .inl (cy 0, 8, .inl u20)), (q_t_refusals, .inl (cy 0, 5, .inl v_t_refusals))] := hD
            refine lv_iload_n hx hb dX7_crowd_36 rfl (lv_at hl 3 rfl) ?_
            refine lv_if_ne (tgt := 51) hx hb dX7_crowd_37 (by decide) (fun c26 => ?_) (fun c26 => ?_)
            · have hf := ifF hf c26
              clear c26
              refine lv_aload_n hx hb dX7_crowd_51 rfl (lv_at hl 0 rfl) ?_
              refine va_get (D := D) (ci := 7) (v := .ref q_t_future) (C := RX7) (T := TX7) (N := 12) hx hb hts hinX7 hown hK.1 hP 0 rfl rfl 1 (by decide) hk16 (fun _ h9 => h9) rfl dX7_crowd_52 ?_
              refine lv_iload_n hx hb dX7_crowd_55 rfl (lv_at hl 1 rfl) ?_
              obtain ⟨r22, hr23, hf⟩ := boE1 hf
              have hPc := hP.sub (ws' := [(q_t_future, oX5 u9 q_t_future_ways q_t_future_distances u10 q_t_future_kind q_t_future_a q_t_future_home q_t_future_aim q_t_future_at u11 u12 u13), (q_t_future_kind, .inl (cy 0, 8, .inl u16)), (q_t_future_at, .inl (cy 0, 8, .inl u20))]) [9, 12, 16] rfl
              refine xcSi (va_runV (As := [.int p0]) (rest := []) ⟨hx, hb, hml, hown, hts⟩ (mX5_darkeningIn l D cy q_t_future q_t_future_ways q_t_future_distances q_t_future_kind q_t_future_a q_t_future_home q_t_future_aim q_t_future_at u9 u10 u11 u12 u13 u16 u20  p0 hr23) (cwV 1 hts gX7_crowd_X5_darkeningIn rfl rfl rfl (by decide +kernel) ⟨Nat.le_of_ble_eq_true rfl, Nat.le_of_ble_eq_true rfl⟩) (xPV hK hPc (ci := 5) (q0 := 0) rfl rfl) rfl rfl hl.1 rfl (lv_room (Nat.le_of_ble_eq_true rfl)) dX7_crowd_56 ⟨Nat.le_of_ble_eq_true rfl, Nat.le_of_ble_eq_true rfl⟩) ?_
              have hg0 := Option.some.inj hf
              obtain ⟨ee0, hg1⟩ := Prod.mk.inj hg0
              obtain ⟨ee1, hg2⟩ := Prod.mk.inj hg1
              obtain ⟨ee2, hg3⟩ := Prod.mk.inj hg2
              obtain ⟨ee3, hg4⟩ := Prod.mk.inj hg3
              obtain ⟨ee4, hg5⟩ := Prod.mk.inj hg4
              obtain ⟨ee5, hg6⟩ := Prod.mk.inj hg5
              obtain ⟨ee6, hg7⟩ := Prod.mk.inj hg6
              obtain ⟨ee7, hg8⟩ := Prod.mk.inj hg7
              obtain ⟨ee8, hg9⟩ := Prod.mk.inj hg8
              obtain ⟨ee9, hg10⟩ := Prod.mk.inj hg9
              obtain ⟨ee10, hg11⟩ := Prod.mk.inj hg10
              obtain ⟨ee11, hg12⟩ := Prod.mk.inj hg11
              obtain ⟨ee12, hg13⟩ := Prod.mk.inj hg12
              clear hf hg0 hg1 hg2 hg3 hg4 hg5 hg6 hg7 hg8 hg9 hg10 hg11 hg12
              subst ee0
              subst ee1
              subst ee2
              subst ee3
              subst ee4
              subst ee5
              subst ee6
              subst ee7
              subst ee8
              subst ee9
              subst ee10
              subst ee11
              subst ee12
              subst hg13
              exact W.iret hx hb hr (fun t ht hW => ⟨⟨_, (), rfl, rfl, xend ht hP⟩, hS.F ht⟩) hS.2.2 dX7_crowd_59
            · have hf := ifT hf c26
              clear c26
              refine lv_aload_n hx hb dX7_crowd_40 rfl (lv_at hl 0 rfl) ?_
              refine va_get (D := D) (ci := 7) (v := .ref q_t_future) (C := RX7) (T := TX7) (N := 12) hx hb hts hinX7 hown hK.1 hP 0 rfl rfl 1 (by decide) hk16 (fun _ h9 => h9) rfl dX7_crowd_41 ?_
              refine lv_iload_n hx hb dX7_crowd_44 rfl (lv_at hl 1 rfl) ?_
              obtain ⟨r24, hr25, hf⟩ := boE1 hf
              have hPc := hP.sub (ws' := [(q_t_future, oX5 u9 q_t_future_ways q_t_future_distances u10 q_t_future_kind q_t_future_a q_t_future_home q_t_future_aim q_t_future_at u11 u12 u13), (q_t_future_at, .inl (cy 0, 8, .inl u20))]) [9, 16] rfl
              refine xcSi (va_runV (As := [.int p0]) (rest := []) ⟨hx, hb, hml, hown, hts⟩ (mX5_peopleIn l D cy q_t_future q_t_future_ways q_t_future_distances q_t_future_kind q_t_future_a q_t_future_home q_t_future_aim q_t_future_at u9 u10 u11 u12 u13 u20  p0 hr25) (cwV 1 hts gX7_crowd_X5_peopleIn rfl rfl rfl (by decide +kernel) ⟨Nat.le_of_ble_eq_true rfl, Nat.le_of_ble_eq_true rfl⟩) (xPV hK hPc (ci := 5) (q0 := 0) rfl rfl) rfl rfl hl.1 rfl (lv_room (Nat.le_of_ble_eq_true rfl)) dX7_crowd_45 ⟨Nat.le_of_ble_eq_true rfl, Nat.le_of_ble_eq_true rfl⟩) ?_
              refine lv_goto (tgt := 59) hx hb dX7_crowd_48 (by decide) ?_
              have hg0 := Option.some.inj hf
              obtain ⟨ee0, hg1⟩ := Prod.mk.inj hg0
              obtain ⟨ee1, hg2⟩ := Prod.mk.inj hg1
              obtain ⟨ee2, hg3⟩ := Prod.mk.inj hg2
              obtain ⟨ee3, hg4⟩ := Prod.mk.inj hg3
              obtain ⟨ee4, hg5⟩ := Prod.mk.inj hg4
              obtain ⟨ee5, hg6⟩ := Prod.mk.inj hg5
              obtain ⟨ee6, hg7⟩ := Prod.mk.inj hg6
              obtain ⟨ee7, hg8⟩ := Prod.mk.inj hg7
              obtain ⟨ee8, hg9⟩ := Prod.mk.inj hg8
              obtain ⟨ee9, hg10⟩ := Prod.mk.inj hg9
              obtain ⟨ee10, hg11⟩ := Prod.mk.inj hg10
              obtain ⟨ee11, hg12⟩ := Prod.mk.inj hg11
              obtain ⟨ee12, hg13⟩ := Prod.mk.inj hg12
              clear hf hg0 hg1 hg2 hg3 hg4 hg5 hg6 hg7 hg8 hg9 hg10 hg11 hg12
              subst ee0
              subst ee1
              subst ee2
              subst ee3
              subst ee4
              subst ee5
              subst ee6
              subst ee7
              subst ee8
              subst ee9
              subst ee10
              subst ee11
              subst ee12
              subst hg13
              exact W.iret hx hb hr (fun t ht hW => ⟨⟨_, (), rfl, rfl, xend ht hP⟩, hS.F ht⟩) hS.2.2 dX7_crowd_59
          · have hf := ifF hf c27
            clear c27
            exact J24 _ _ ls ⟨hP, hD, hS, lv_sub hl [0] rfl⟩ hf
