def fX7_hidden (v_t_now_places : Int32) (v_t_now_people : Int32) (v_t_now_hour : Int32) (v_t_now_chance : Int32) (v_t_now_seed : Int32) (v_t_now_ways : Nat → Int32) (v_t_now_distances : Nat → Int32) (v_t_now_kind : Nat → Int32) (v_t_now_a : Nat → Int32) (v_t_now_home : Nat → Int32) (v_t_now_aim : Nat → Int32) (v_t_now_at : Nat → Int32) (v_t_future_places : Int32) (v_t_future_people : Int32) (v_t_future_hour : Int32) (v_t_future_chance : Int32) (v_t_future_seed : Int32) (v_t_future_ways : Nat → Int32) (v_t_future_distances : Nat → Int32) (v_t_future_kind : Nat → Int32) (v_t_future_a : Nat → Int32) (v_t_future_home : Nat → Int32) (v_t_future_aim : Nat → Int32) (v_t_future_at : Nat → Int32) (v_t_hiddenWay_length : Int32) (v_t_hiddenWay_steps : Nat → Int32) (v_t_refusals : Nat → Int32) (p0 : Int32) (p1 : Int32) (p2 : Int32) : Option (Int32 × Int32 × Int32 × Int32 × Int32 × Int32 × (Nat → Int32) × (Nat → Int32) × (Nat → Int32) × (Nat → Int32) × (Nat → Int32) × (Nat → Int32) × (Nat → Int32) × Int32 × (Nat → Int32) × (Nat → Int32)) :=
  bo1 (fX7_isPlace v_t_now_places p0) fun r1 =>
  jo0 (
    bo2 (fX7_refuse v_t_refusals (-2 : Int32)) fun r4 u5 =>
    some (r4, v_t_future_places, v_t_future_people, v_t_future_hour, v_t_future_chance, v_t_future_seed, v_t_future_ways, v_t_future_distances, v_t_future_kind, v_t_future_a, v_t_future_home, v_t_future_aim, v_t_future_at, v_t_hiddenWay_length, v_t_hiddenWay_steps, u5)) fun k3 =>
  if r1 = 0 then
    k3
  else
    bo1 (fX7_isPlace v_t_now_places p1) fun r7 =>
    if r7 = 0 then
      k3
    else
      if (-1 : Int32) ≤ p2 then
        bo12 (fX5_become v_t_now_places v_t_now_people v_t_now_hour v_t_now_chance v_t_now_seed v_t_now_ways v_t_now_distances v_t_now_kind v_t_now_a v_t_now_home v_t_now_aim v_t_now_at) fun u9 u10 u11 u12 u13 u14 u15 u16 u17 u18 u19 u20 =>
        bo4 (fX1_seek v_t_hiddenWay_steps u9 u10 u11 u14 u15 u16 u18 u19 u20 p0 p1) fun u22 u23 u24 u25 =>
        if p2 = (-1 : Int32) then
          some (u22, u9, u10, u24, u12, u13, u14, u15, u16, u17, u18, u19, u25, u22, u23, v_t_refusals)
        else
          if p2 ≤ u22 then
            bo1 (fX1_placeAt u22 u23 u14 p0 p2) fun r27 =>
            some (r27, u9, u10, u24, u12, u13, u14, u15, u16, u17, u18, u19, u25, u22, u23, v_t_refusals)
          else
            bo2 (fX7_refuse v_t_refusals (-5 : Int32)) fun r29 u30 =>
            some (r29, u9, u10, u24, u12, u13, u14, u15, u16, u17, u18, u19, u25, u22, u23, u30)
      else
        k3
set_option maxHeartbeats 4000000 in
set_option maxRecDepth 100000 in
theorem mX7_hidden (l : Launch) (D : va_G) (cy : Nat → ClassId) (q_t q_t_now q_t_future q_t_draft q_t_kept q_t_shelves q_t_tape q_t_reader q_t_hiddenWay q_t_sights q_t_choice q_t_refusals q_t_now_ways q_t_now_distances q_t_now_kind q_t_now_a q_t_now_home q_t_now_aim q_t_now_at q_t_future_ways q_t_future_distances q_t_future_kind q_t_future_a q_t_future_home q_t_future_aim q_t_future_at q_t_hiddenWay_steps : Nat) (v_t_isKept : Int32) (v_t_now_places : Int32) (v_t_now_people : Int32) (v_t_now_hour : Int32) (v_t_now_chance : Int32) (v_t_now_seed : Int32) (v_t_now_ways : Nat → Int32) (v_t_now_distances : Nat → Int32) (v_t_now_kind : Nat → Int32) (v_t_now_a : Nat → Int32) (v_t_now_home : Nat → Int32) (v_t_now_aim : Nat → Int32) (v_t_now_at : Nat → Int32) (v_t_future_places : Int32) (v_t_future_people : Int32) (v_t_future_hour : Int32) (v_t_future_chance : Int32) (v_t_future_seed : Int32) (v_t_future_ways : Nat → Int32) (v_t_future_distances : Nat → Int32) (v_t_future_kind : Nat → Int32) (v_t_future_a : Nat → Int32) (v_t_future_home : Nat → Int32) (v_t_future_aim : Nat → Int32) (v_t_future_at : Nat → Int32) (v_t_hiddenWay_length : Int32) (v_t_hiddenWay_steps : Nat → Int32) (v_t_refusals : Nat → Int32) (sz : Nat) (p0 : Int32) (p1 : Int32) (p2 : Int32) {r_ : Int32} {n_t_future_places : Int32} {n_t_future_people : Int32} {n_t_future_hour : Int32} {n_t_future_chance : Int32} {n_t_future_seed : Int32} {n_t_future_ways : Nat → Int32} {n_t_future_distances : Nat → Int32} {n_t_future_kind : Nat → Int32} {n_t_future_a : Nat → Int32} {n_t_future_home : Nat → Int32} {n_t_future_aim : Nat → Int32} {n_t_future_at : Nat → Int32} {n_t_hiddenWay_length : Int32} {n_t_hiddenWay_steps : Nat → Int32} {n_t_refusals : Nat → Int32} (hf : fX7_hidden v_t_now_places v_t_now_people v_t_now_hour v_t_now_chance v_t_now_seed v_t_now_ways v_t_now_distances v_t_now_kind v_t_now_a v_t_now_home v_t_now_aim v_t_now_at v_t_future_places v_t_future_people v_t_future_hour v_t_future_chance v_t_future_seed v_t_future_ways v_t_future_distances v_t_future_kind v_t_future_a v_t_future_home v_t_future_aim v_t_future_at v_t_hiddenWay_length v_t_hiddenWay_steps v_t_refusals p0 p1 p2 = some (r_, n_t_future_places, n_t_future_people, n_t_future_hour, n_t_future_chance, n_t_future_seed, n_t_future_ways, n_t_future_distances, n_t_future_kind, n_t_future_a, n_t_future_home, n_t_future_aim, n_t_future_at, n_t_hiddenWay_length, n_t_hiddenWay_steps, n_t_refusals)) : Met l yX7_hidden wsX7_hidden ({ frames := 5, cells := 0, slots := 0, locals := 118 }) (va_Pc [.ref q_t, .int p0, .int p1, .int p2] (fun U => U.heap.size = sz ∧ va_P D vwCl [(q_t, oX7 q_t_now q_t_future q_t_draft q_t_kept v_t_isKept q_t_shelves q_t_tape q_t_reader q_t_hiddenWay q_t_sights q_t_choice q_t_refusals), (q_t_now, oX5 v_t_now_places q_t_now_ways q_t_now_distances v_t_now_people q_t_now_kind q_t_now_a q_t_now_home q_t_now_aim q_t_now_at v_t_now_hour v_t_now_chance v_t_now_seed), (q_t_now_ways, .inl (cy 0, 12, .inl v_t_now_ways)), (q_t_now_distances, .inl (cy 0, 144, .inl v_t_now_distances)), (q_t_now_kind, .inl (cy 0, 8, .inl v_t_now_kind)), (q_t_now_a, .inl (cy 0, 8, .inl v_t_now_a)), (q_t_now_home, .inl (cy 0, 8, .inl v_t_now_home)), (q_t_now_aim, .inl (cy 0, 8, .inl v_t_now_aim)), (q_t_now_at, .inl (cy 0, 8, .inl v_t_now_at)), (q_t_future, oX5 v_t_future_places q_t_future_ways q_t_future_distances v_t_future_people q_t_future_kind q_t_future_a q_t_future_home q_t_future_aim q_t_future_at v_t_future_hour v_t_future_chance v_t_future_seed), (q_t_future_ways, .inl (cy 0, 12, .inl v_t_future_ways)), (q_t_future_distances, .inl (cy 0, 144, .inl v_t_future_distances)), (q_t_future_kind, .inl (cy 0, 8, .inl v_t_future_kind)), (q_t_future_a, .inl (cy 0, 8, .inl v_t_future_a)), (q_t_future_home, .inl (cy 0, 8, .inl v_t_future_home)), (q_t_future_aim, .inl (cy 0, 8, .inl v_t_future_aim)), (q_t_future_at, .inl (cy 0, 8, .inl v_t_future_at)), (q_t_hiddenWay, oX1 v_t_hiddenWay_length q_t_hiddenWay_steps), (q_t_hiddenWay_steps, .inl (cy 0, 25, .inl v_t_hiddenWay_steps)), (q_t_refusals, .inl (cy 0, 5, .inl v_t_refusals))] U.heap ∧ xK D cy U ∧ va_D (fun _ => True) [(q_t, oX7 q_t_now q_t_future q_t_draft q_t_kept v_t_isKept q_t_shelves q_t_tape q_t_reader q_t_hiddenWay q_t_sights q_t_choice q_t_refusals), (q_t_now, oX5 v_t_now_places q_t_now_ways q_t_now_distances v_t_now_people q_t_now_kind q_t_now_a q_t_now_home q_t_now_aim q_t_now_at v_t_now_hour v_t_now_chance v_t_now_seed), (q_t_now_ways, .inl (cy 0, 12, .inl v_t_now_ways)), (q_t_now_distances, .inl (cy 0, 144, .inl v_t_now_distances)), (q_t_now_kind, .inl (cy 0, 8, .inl v_t_now_kind)), (q_t_now_a, .inl (cy 0, 8, .inl v_t_now_a)), (q_t_now_home, .inl (cy 0, 8, .inl v_t_now_home)), (q_t_now_aim, .inl (cy 0, 8, .inl v_t_now_aim)), (q_t_now_at, .inl (cy 0, 8, .inl v_t_now_at)), (q_t_future, oX5 v_t_future_places q_t_future_ways q_t_future_distances v_t_future_people q_t_future_kind q_t_future_a q_t_future_home q_t_future_aim q_t_future_at v_t_future_hour v_t_future_chance v_t_future_seed), (q_t_future_ways, .inl (cy 0, 12, .inl v_t_future_ways)), (q_t_future_distances, .inl (cy 0, 144, .inl v_t_future_distances)), (q_t_future_kind, .inl (cy 0, 8, .inl v_t_future_kind)), (q_t_future_a, .inl (cy 0, 8, .inl v_t_future_a)), (q_t_future_home, .inl (cy 0, 8, .inl v_t_future_home)), (q_t_future_aim, .inl (cy 0, 8, .inl v_t_future_aim)), (q_t_future_at, .inl (cy 0, 8, .inl v_t_future_at)), (q_t_hiddenWay, oX1 v_t_hiddenWay_length q_t_hiddenWay_steps), (q_t_hiddenWay_steps, .inl (cy 0, 25, .inl v_t_hiddenWay_steps)), (q_t_refusals, .inl (cy 0, 5, .inl v_t_refusals))])) (va_Qi (fun (x : Int32) (_ : Unit) => x = r_) (fun _ t => va_P D vwCl [(q_t, oX7 q_t_now q_t_future q_t_draft q_t_kept v_t_isKept q_t_shelves q_t_tape q_t_reader q_t_hiddenWay q_t_sights q_t_choice q_t_refusals), (q_t_now, oX5 v_t_now_places q_t_now_ways q_t_now_distances v_t_now_people q_t_now_kind q_t_now_a q_t_now_home q_t_now_aim q_t_now_at v_t_now_hour v_t_now_chance v_t_now_seed), (q_t_now_ways, .inl (cy 0, 12, .inl v_t_now_ways)), (q_t_now_distances, .inl (cy 0, 144, .inl v_t_now_distances)), (q_t_now_kind, .inl (cy 0, 8, .inl v_t_now_kind)), (q_t_now_a, .inl (cy 0, 8, .inl v_t_now_a)), (q_t_now_home, .inl (cy 0, 8, .inl v_t_now_home)), (q_t_now_aim, .inl (cy 0, 8, .inl v_t_now_aim)), (q_t_now_at, .inl (cy 0, 8, .inl v_t_now_at)), (q_t_future, oX5 n_t_future_places q_t_future_ways q_t_future_distances n_t_future_people q_t_future_kind q_t_future_a q_t_future_home q_t_future_aim q_t_future_at n_t_future_hour n_t_future_chance n_t_future_seed), (q_t_future_ways, .inl (cy 0, 12, .inl n_t_future_ways)), (q_t_future_distances, .inl (cy 0, 144, .inl n_t_future_distances)), (q_t_future_kind, .inl (cy 0, 8, .inl n_t_future_kind)), (q_t_future_a, .inl (cy 0, 8, .inl n_t_future_a)), (q_t_future_home, .inl (cy 0, 8, .inl n_t_future_home)), (q_t_future_aim, .inl (cy 0, 8, .inl n_t_future_aim)), (q_t_future_at, .inl (cy 0, 8, .inl n_t_future_at)), (q_t_hiddenWay, oX1 n_t_hiddenWay_length q_t_hiddenWay_steps), (q_t_hiddenWay_steps, .inl (cy 0, 25, .inl n_t_hiddenWay_steps)), (q_t_refusals, .inl (cy 0, 5, .inl n_t_refusals))] t.heap) (va_A [(q_t, oX7 q_t_now q_t_future q_t_draft q_t_kept v_t_isKept q_t_shelves q_t_tape q_t_reader q_t_hiddenWay q_t_sights q_t_choice q_t_refusals), (q_t_now, oX5 v_t_now_places q_t_now_ways q_t_now_distances v_t_now_people q_t_now_kind q_t_now_a q_t_now_home q_t_now_aim q_t_now_at v_t_now_hour v_t_now_chance v_t_now_seed), (q_t_now_ways, .inl (cy 0, 12, .inl v_t_now_ways)), (q_t_now_distances, .inl (cy 0, 144, .inl v_t_now_distances)), (q_t_now_kind, .inl (cy 0, 8, .inl v_t_now_kind)), (q_t_now_a, .inl (cy 0, 8, .inl v_t_now_a)), (q_t_now_home, .inl (cy 0, 8, .inl v_t_now_home)), (q_t_now_aim, .inl (cy 0, 8, .inl v_t_now_aim)), (q_t_now_at, .inl (cy 0, 8, .inl v_t_now_at)), (q_t_future, oX5 v_t_future_places q_t_future_ways q_t_future_distances v_t_future_people q_t_future_kind q_t_future_a q_t_future_home q_t_future_aim q_t_future_at v_t_future_hour v_t_future_chance v_t_future_seed), (q_t_future_ways, .inl (cy 0, 12, .inl v_t_future_ways)), (q_t_future_distances, .inl (cy 0, 144, .inl v_t_future_distances)), (q_t_future_kind, .inl (cy 0, 8, .inl v_t_future_kind)), (q_t_future_a, .inl (cy 0, 8, .inl v_t_future_a)), (q_t_future_home, .inl (cy 0, 8, .inl v_t_future_home)), (q_t_future_aim, .inl (cy 0, 8, .inl v_t_future_aim)), (q_t_future_at, .inl (cy 0, 8, .inl v_t_future_at)), (q_t_hiddenWay, oX1 v_t_hiddenWay_length q_t_hiddenWay_steps), (q_t_hiddenWay_steps, .inl (cy 0, 25, .inl v_t_hiddenWay_steps)), (q_t_refusals, .inl (cy 0, 5, .inl v_t_refusals))] sz)) 0 0 (va_A [(q_t, oX7 q_t_now q_t_future q_t_draft q_t_kept v_t_isKept q_t_shelves q_t_tape q_t_reader q_t_hiddenWay q_t_sights q_t_choice q_t_refusals), (q_t_now, oX5 v_t_now_places q_t_now_ways q_t_now_distances v_t_now_people q_t_now_kind q_t_now_a q_t_now_home q_t_now_aim q_t_now_at v_t_now_hour v_t_now_chance v_t_now_seed), (q_t_now_ways, .inl (cy 0, 12, .inl v_t_now_ways)), (q_t_now_distances, .inl (cy 0, 144, .inl v_t_now_distances)), (q_t_now_kind, .inl (cy 0, 8, .inl v_t_now_kind)), (q_t_now_a, .inl (cy 0, 8, .inl v_t_now_a)), (q_t_now_home, .inl (cy 0, 8, .inl v_t_now_home)), (q_t_now_aim, .inl (cy 0, 8, .inl v_t_now_aim)), (q_t_now_at, .inl (cy 0, 8, .inl v_t_now_at)), (q_t_future, oX5 v_t_future_places q_t_future_ways q_t_future_distances v_t_future_people q_t_future_kind q_t_future_a q_t_future_home q_t_future_aim q_t_future_at v_t_future_hour v_t_future_chance v_t_future_seed), (q_t_future_ways, .inl (cy 0, 12, .inl v_t_future_ways)), (q_t_future_distances, .inl (cy 0, 144, .inl v_t_future_distances)), (q_t_future_kind, .inl (cy 0, 8, .inl v_t_future_kind)), (q_t_future_a, .inl (cy 0, 8, .inl v_t_future_a)), (q_t_future_home, .inl (cy 0, 8, .inl v_t_future_home)), (q_t_future_aim, .inl (cy 0, 8, .inl v_t_future_aim)), (q_t_future_at, .inl (cy 0, 8, .inl v_t_future_at)), (q_t_hiddenWay, oX1 v_t_hiddenWay_length q_t_hiddenWay_steps), (q_t_hiddenWay_steps, .inl (cy 0, 25, .inl v_t_hiddenWay_steps)), (q_t_refusals, .inl (cy 0, 5, .inl v_t_refusals))] sz) := by
  refine Met.ofW (cc := cX7_hidden) (maxL := 4) (ret := (some .int)) (by decide) rfl ?_
  intro p e s m args below meth c s₁ B hml hv
  obtain ⟨rfl, hsz, hP, hK, hD0⟩ := hv
  have hx := B.exec
  have hb := B.bytes
  have hr := B.returns
  have hts := atoms_spec (ws := wsX7_hidden) B.pre
  have hown : s.vm.findClass RX7 = some m.cls := findClass_of_methodNamed B.named
  have hlocks := B.notSynchronized
  subst hsz
  have hD := hD0.self (sz := s.heap.size)
  generalize hAe : va_A [(q_t, oX7 q_t_now q_t_future q_t_draft q_t_kept v_t_isKept q_t_shelves q_t_tape q_t_reader q_t_hiddenWay q_t_sights q_t_choice q_t_refusals), (q_t_now, oX5 v_t_now_places q_t_now_ways q_t_now_distances v_t_now_people q_t_now_kind q_t_now_a q_t_now_home q_t_now_aim q_t_now_at v_t_now_hour v_t_now_chance v_t_now_seed), (q_t_now_ways, .inl (cy 0, 12, .inl v_t_now_ways)), (q_t_now_distances, .inl (cy 0, 144, .inl v_t_now_distances)), (q_t_now_kind, .inl (cy 0, 8, .inl v_t_now_kind)), (q_t_now_a, .inl (cy 0, 8, .inl v_t_now_a)), (q_t_now_home, .inl (cy 0, 8, .inl v_t_now_home)), (q_t_now_aim, .inl (cy 0, 8, .inl v_t_now_aim)), (q_t_now_at, .inl (cy 0, 8, .inl v_t_now_at)), (q_t_future, oX5 v_t_future_places q_t_future_ways q_t_future_distances v_t_future_people q_t_future_kind q_t_future_a q_t_future_home q_t_future_aim q_t_future_at v_t_future_hour v_t_future_chance v_t_future_seed), (q_t_future_ways, .inl (cy 0, 12, .inl v_t_future_ways)), (q_t_future_distances, .inl (cy 0, 144, .inl v_t_future_distances)), (q_t_future_kind, .inl (cy 0, 8, .inl v_t_future_kind)), (q_t_future_a, .inl (cy 0, 8, .inl v_t_future_a)), (q_t_future_home, .inl (cy 0, 8, .inl v_t_future_home)), (q_t_future_aim, .inl (cy 0, 8, .inl v_t_future_aim)), (q_t_future_at, .inl (cy 0, 8, .inl v_t_future_at)), (q_t_hiddenWay, oX1 v_t_hiddenWay_length q_t_hiddenWay_steps), (q_t_hiddenWay_steps, .inl (cy 0, 25, .inl v_t_hiddenWay_steps)), (q_t_refusals, .inl (cy 0, 5, .inl v_t_refusals))] s.heap.size = A at hD ⊢
  have hA : ∀ q : Nat, s.heap.size ≤ q → A q := fun q h => by rw [← hAe]; exact Or.inr h
  have hS : va_S A s.heap s.heap [] := va_S.rf
  have hP : va_P D vwCl [(q_t, oX7 q_t_now q_t_future q_t_draft q_t_kept v_t_isKept q_t_shelves q_t_tape q_t_reader q_t_hiddenWay q_t_sights q_t_choice q_t_refusals), (q_t_now, oX5 v_t_now_places q_t_now_ways q_t_now_distances v_t_now_people q_t_now_kind q_t_now_a q_t_now_home q_t_now_aim q_t_now_at v_t_now_hour v_t_now_chance v_t_now_seed), (q_t_now_ways, .inl (cy 0, 12, .inl v_t_now_ways)), (q_t_now_distances, .inl (cy 0, 144, .inl v_t_now_distances)), (q_t_now_kind, .inl (cy 0, 8, .inl v_t_now_kind)), (q_t_now_a, .inl (cy 0, 8, .inl v_t_now_a)), (q_t_now_home, .inl (cy 0, 8, .inl v_t_now_home)), (q_t_now_aim, .inl (cy 0, 8, .inl v_t_now_aim)), (q_t_now_at, .inl (cy 0, 8, .inl v_t_now_at)), (q_t_future, oX5 v_t_future_places q_t_future_ways q_t_future_distances v_t_future_people q_t_future_kind q_t_future_a q_t_future_home q_t_future_aim q_t_future_at v_t_future_hour v_t_future_chance v_t_future_seed), (q_t_future_ways, .inl (cy 0, 12, .inl v_t_future_ways)), (q_t_future_distances, .inl (cy 0, 144, .inl v_t_future_distances)), (q_t_future_kind, .inl (cy 0, 8, .inl v_t_future_kind)), (q_t_future_a, .inl (cy 0, 8, .inl v_t_future_a)), (q_t_future_home, .inl (cy 0, 8, .inl v_t_future_home)), (q_t_future_aim, .inl (cy 0, 8, .inl v_t_future_aim)), (q_t_future_at, .inl (cy 0, 8, .inl v_t_future_at)), (q_t_hiddenWay, oX1 v_t_hiddenWay_length q_t_hiddenWay_steps), (q_t_hiddenWay_steps, .inl (cy 0, 25, .inl v_t_hiddenWay_steps)), (q_t_refusals, .inl (cy 0, 5, .inl v_t_refusals))] s.heap := hP
  have hinX7 : ∀ w ∈ u_ws RX7 TX7 12, w ∈ wsX7_hidden := by decide +kernel
  have hk16 := hts (.fieldLink RX7 16 "ShowsWhereNobodyIs" "future" "LShowsWhereNobodyIs$Town;") (by decide +kernel)
  have hk10 := hts (.fieldLink RX7 10 "ShowsWhereNobodyIs" "now" "LShowsWhereNobodyIs$Town;") (by decide +kernel)
  have hk47 := hts (.fieldLink RX7 47 "ShowsWhereNobodyIs" "hiddenWay" "LShowsWhereNobodyIs$HiddenWay;") (by decide +kernel)
  have hinX1 : ∀ w ∈ u_ws RX1 TX1 2, w ∈ wsX7_hidden := by decide +kernel
  have hk258 := hts (.fieldLink RX7 258 "ShowsWhereNobodyIs$HiddenWay" "length" "I") (by decide +kernel)
  have hl := lv_entry ([.ref q_t, .int p0, .int p1, .int p2]) (n := 4) (Nat.le_of_ble_eq_true rfl)
  rw [lg_entry_eq]
  generalize (lg_sl ([.ref q_t, .int p0, .int p1, .int p2]) ++ List.replicate (4 - (lg_sl ([.ref q_t, .int p0, .int p1, .int p2])).length) Slot.unset).toArray = ls at hl ⊢
  have hl : lv_has ls 4 [(0, .ref q_t), (1, .int p0), (2, .int p1), (3, .int p2)] := hl
  unfold fX7_hidden at hf
  refine lv_aload_n hx hb dX7_hidden_0 rfl (lv_at hl 0 rfl) ?_
  refine lv_iload_n hx hb dX7_hidden_1 rfl (lv_at hl 1 rfl) ?_
  obtain ⟨r1, hr2, hf⟩ := boE1 hf
  have hPc := hP.sub (ws' := [(q_t, oX7 q_t_now q_t_future q_t_draft q_t_kept v_t_isKept q_t_shelves q_t_tape q_t_reader q_t_hiddenWay q_t_sights q_t_choice q_t_refusals), (q_t_now, oX5 v_t_now_places q_t_now_ways q_t_now_distances v_t_now_people q_t_now_kind q_t_now_a q_t_now_home q_t_now_aim q_t_now_at v_t_now_hour v_t_now_chance v_t_now_seed)]) [0, 1] rfl
  refine xcSi (va_runV (As := [.int p0]) (rest := []) ⟨hx, hb, hml, hown, hts⟩ (mX7_isPlace l D cy q_t q_t_now q_t_future q_t_draft q_t_kept q_t_shelves q_t_tape q_t_reader q_t_hiddenWay q_t_sights q_t_choice q_t_refusals q_t_now_ways q_t_now_distances q_t_now_kind q_t_now_a q_t_now_home q_t_now_aim q_t_now_at v_t_isKept v_t_now_places v_t_now_people v_t_now_hour v_t_now_chance v_t_now_seed  p0 hr2) (cwV 1 hts gX7_hidden_X7_isPlace rfl rfl rfl (by decide +kernel) ⟨Nat.le_of_ble_eq_true rfl, Nat.le_of_ble_eq_true rfl⟩) (xPV hK hPc (ci := 7) (q0 := 0) rfl rfl) rfl rfl hl.1 rfl (lv_room (Nat.le_of_ble_eq_true rfl)) dX7_hidden_2 ⟨Nat.le_of_ble_eq_true rfl, Nat.le_of_ble_eq_true rfl⟩) ?_
  refine jww0 21 [] (fun  H locs ls => va_P D vwCl [(q_t, oX7 q_t_now q_t_future q_t_draft q_t_kept v_t_isKept q_t_shelves q_t_tape q_t_reader q_t_hiddenWay q_t_sights q_t_choice q_t_refusals), (q_t_now, oX5 v_t_now_places q_t_now_ways q_t_now_distances v_t_now_people q_t_now_kind q_t_now_a q_t_now_home q_t_now_aim q_t_now_at v_t_now_hour v_t_now_chance v_t_now_seed), (q_t_now_ways, .inl (cy 0, 12, .inl v_t_now_ways)), (q_t_now_distances, .inl (cy 0, 144, .inl v_t_now_distances)), (q_t_now_kind, .inl (cy 0, 8, .inl v_t_now_kind)), (q_t_now_a, .inl (cy 0, 8, .inl v_t_now_a)), (q_t_now_home, .inl (cy 0, 8, .inl v_t_now_home)), (q_t_now_aim, .inl (cy 0, 8, .inl v_t_now_aim)), (q_t_now_at, .inl (cy 0, 8, .inl v_t_now_at)), (q_t_future, oX5 v_t_future_places q_t_future_ways q_t_future_distances v_t_future_people q_t_future_kind q_t_future_a q_t_future_home q_t_future_aim q_t_future_at v_t_future_hour v_t_future_chance v_t_future_seed), (q_t_future_ways, .inl (cy 0, 12, .inl v_t_future_ways)), (q_t_future_distances, .inl (cy 0, 144, .inl v_t_future_distances)), (q_t_future_kind, .inl (cy 0, 8, .inl v_t_future_kind)), (q_t_future_a, .inl (cy 0, 8, .inl v_t_future_a)), (q_t_future_home, .inl (cy 0, 8, .inl v_t_future_home)), (q_t_future_aim, .inl (cy 0, 8, .inl v_t_future_aim)), (q_t_future_at, .inl (cy 0, 8, .inl v_t_future_at)), (q_t_hiddenWay, oX1 v_t_hiddenWay_length q_t_hiddenWay_steps), (q_t_hiddenWay_steps, .inl (cy 0, 25, .inl v_t_hiddenWay_steps)), (q_t_refusals, .inl (cy 0, 5, .inl v_t_refusals))] H ∧ va_D A [(q_t, oX7 q_t_now q_t_future q_t_draft q_t_kept v_t_isKept q_t_shelves q_t_tape q_t_reader q_t_hiddenWay q_t_sights q_t_choice q_t_refusals), (q_t_now, oX5 v_t_now_places q_t_now_ways q_t_now_distances v_t_now_people q_t_now_kind q_t_now_a q_t_now_home q_t_now_aim q_t_now_at v_t_now_hour v_t_now_chance v_t_now_seed), (q_t_now_ways, .inl (cy 0, 12, .inl v_t_now_ways)), (q_t_now_distances, .inl (cy 0, 144, .inl v_t_now_distances)), (q_t_now_kind, .inl (cy 0, 8, .inl v_t_now_kind)), (q_t_now_a, .inl (cy 0, 8, .inl v_t_now_a)), (q_t_now_home, .inl (cy 0, 8, .inl v_t_now_home)), (q_t_now_aim, .inl (cy 0, 8, .inl v_t_now_aim)), (q_t_now_at, .inl (cy 0, 8, .inl v_t_now_at)), (q_t_future, oX5 v_t_future_places q_t_future_ways q_t_future_distances v_t_future_people q_t_future_kind q_t_future_a q_t_future_home q_t_future_aim q_t_future_at v_t_future_hour v_t_future_chance v_t_future_seed), (q_t_future_ways, .inl (cy 0, 12, .inl v_t_future_ways)), (q_t_future_distances, .inl (cy 0, 144, .inl v_t_future_distances)), (q_t_future_kind, .inl (cy 0, 8, .inl v_t_future_kind)), (q_t_future_a, .inl (cy 0, 8, .inl v_t_future_a)), (q_t_future_home, .inl (cy 0, 8, .inl v_t_future_home)), (q_t_future_aim, .inl (cy 0, 8, .inl v_t_future_aim)), (q_t_future_at, .inl (cy 0, 8, .inl v_t_future_at)), (q_t_hiddenWay, oX1 v_t_hiddenWay_length q_t_hiddenWay_steps), (q_t_hiddenWay_steps, .inl (cy 0, 25, .inl v_t_hiddenWay_steps)), (q_t_refusals, .inl (cy 0, 5, .inl v_t_refusals))] ∧ va_S A s.heap H locs ∧ lv_has ls 4 [(0, .ref q_t)]) hf (fun  H locs ls hI hf => ?_) (fun k3 J21 hf => ?_)
  · obtain ⟨hP, hD, hS, hl⟩ := hI
    refine lv_aload_n hx hb dX7_hidden_21 rfl (lv_at hl 0 rfl) ?_
    refine lv_bipush (v := (-2)) hx hb dX7_hidden_22 (by decide) ?_
    obtain ⟨r4, u5, hr6, hf⟩ := boE2 hf
    have hPc := hP.sub (ws' := [(q_t, oX7 q_t_now q_t_future q_t_draft q_t_kept v_t_isKept q_t_shelves q_t_tape q_t_reader q_t_hiddenWay q_t_sights q_t_choice q_t_refusals), (q_t_refusals, .inl (cy 0, 5, .inl v_t_refusals))]) [0, 19] rfl
    have hDc := hD.sub (ws' := [(q_t, oX7 q_t_now q_t_future q_t_draft q_t_kept v_t_isKept q_t_shelves q_t_tape q_t_reader q_t_hiddenWay q_t_sights q_t_choice q_t_refusals), (q_t_refusals, .inl (cy 0, 5, .inl v_t_refusals))]) [0, 19] (by decide) rfl
    refine xcQi (w1 := [(q_t, oX7 q_t_now q_t_future q_t_draft q_t_kept v_t_isKept q_t_shelves q_t_tape q_t_reader q_t_hiddenWay q_t_sights q_t_choice q_t_refusals), (q_t_refusals, .inl (cy 0, 5, .inl u5))]) (va_runV (As := [.int (-2 : Int32)]) (rest := []) ⟨hx, hb, hml, hown, hts⟩ (mX7_refuse l D cy q_t q_t_now q_t_future q_t_draft q_t_kept q_t_shelves q_t_tape q_t_reader q_t_hiddenWay q_t_sights q_t_choice q_t_refusals v_t_isKept v_t_refusals _ (-2 : Int32) hr6) (cwV 1 hts gX7_hidden_X7_refuse rfl rfl rfl (by decide +kernel) ⟨Nat.le_of_ble_eq_true rfl, Nat.le_of_ble_eq_true rfl⟩) (xPVw hK hPc hDc (ci := 7) (q0 := 0) rfl rfl) rfl rfl hl.1 rfl (lv_room (Nat.le_of_ble_eq_true rfl)) dX7_hidden_24 ⟨Nat.le_of_ble_eq_true rfl, Nat.le_of_ble_eq_true rfl⟩) hP hD hS hA [0, 19] rfl rfl (fun H locs hP hD hS => ?_)
    have hP : va_P D vwCl [(q_t, oX7 q_t_now q_t_future q_t_draft q_t_kept v_t_isKept q_t_shelves q_t_tape q_t_reader q_t_hiddenWay q_t_sights q_t_choice q_t_refusals), (q_t_now, oX5 v_t_now_places q_t_now_ways q_t_now_distances v_t_now_people q_t_now_kind q_t_now_a q_t_now_home q_t_now_aim q_t_now_at v_t_now_hour v_t_now_chance v_t_now_seed), (q_t_now_ways, .inl (cy 0, 12, .inl v_t_now_ways)), (q_t_now_distances, .inl (cy 0, 144, .inl v_t_now_distances)), (q_t_now_kind, .inl (cy 0, 8, .inl v_t_now_kind)), (q_t_now_a, .inl (cy 0, 8, .inl v_t_now_a)), (q_t_now_home, .inl (cy 0, 8, .inl v_t_now_home)), (q_t_now_aim, .inl (cy 0, 8, .inl v_t_now_aim)), (q_t_now_at, .inl (cy 0, 8, .inl v_t_now_at)), (q_t_future, oX5 v_t_future_places q_t_future_ways q_t_future_distances v_t_future_people q_t_future_kind q_t_future_a q_t_future_home q_t_future_aim q_t_future_at v_t_future_hour v_t_future_chance v_t_future_seed), (q_t_future_ways, .inl (cy 0, 12, .inl v_t_future_ways)), (q_t_future_distances, .inl (cy 0, 144, .inl v_t_future_distances)), (q_t_future_kind, .inl (cy 0, 8, .inl v_t_future_kind)), (q_t_future_a, .inl (cy 0, 8, .inl v_t_future_a)), (q_t_future_home, .inl (cy 0, 8, .inl v_t_future_home)), (q_t_future_aim, .inl (cy 0, 8, .inl v_t_future_aim)), (q_t_future_at, .inl (cy 0, 8, .inl v_t_future_at)), (q_t_hiddenWay, oX1 v_t_hiddenWay_length q_t_hiddenWay_steps), (q_t_hiddenWay_steps, .inl (cy 0, 25, .inl v_t_hiddenWay_steps)), (q_t_refusals, .inl (cy 0, 5, .inl u5))] H := hP
    have hD : va_D A [(q_t, oX7 q_t_now q_t_future q_t_draft q_t_kept v_t_isKept q_t_shelves q_t_tape q_t_reader q_t_hiddenWay q_t_sights q_t_choice q_t_refusals), (q_t_now, oX5 v_t_now_places q_t_now_ways q_t_now_distances v_t_now_people q_t_now_kind q_t_now_a q_t_now_home q_t_now_aim q_t_now_at v_t_now_hour v_t_now_chance v_t_now_seed), (q_t_now_ways, .inl (cy 0, 12, .inl v_t_now_ways)), (q_t_now_distances, .inl (cy 0, 144, .inl v_t_now_distances)), (q_t_now_kind, .inl (cy 0, 8, .inl v_t_now_kind)), (q_t_now_a, .inl (cy 0, 8, .inl v_t_now_a)), (q_t_now_home, .inl (cy 0, 8, .inl v_t_now_home)), (q_t_now_aim, .inl (cy 0, 8, .inl v_t_now_aim)), (q_t_now_at, .inl (cy 0, 8, .inl v_t_now_at)), (q_t_future, oX5 v_t_future_places q_t_future_ways q_t_future_distances v_t_future_people q_t_future_kind q_t_future_a q_t_future_home q_t_future_aim q_t_future_at v_t_future_hour v_t_future_chance v_t_future_seed), (q_t_future_ways, .inl (cy 0, 12, .inl v_t_future_ways)), (q_t_future_distances, .inl (cy 0, 144, .inl v_t_future_distances)), (q_t_future_kind, .inl (cy 0, 8, .inl v_t_future_kind)), (q_t_future_a, .inl (cy 0, 8, .inl v_t_future_a)), (q_t_future_home, .inl (cy 0, 8, .inl v_t_future_home)), (q_t_future_aim, .inl (cy 0, 8, .inl v_t_future_aim)), (q_t_future_at, .inl (cy 0, 8, .inl v_t_future_at)), (q_t_hiddenWay, oX1 v_t_hiddenWay_length q_t_hiddenWay_steps), (q_t_hiddenWay_steps, .inl (cy 0, 25, .inl v_t_hiddenWay_steps)), (q_t_refusals, .inl (cy 0, 5, .inl u5))] := hD
    have hg0 := Option.some.inj hf
    obtain ⟨ee0, hg1⟩ := Prod.mk.inj hg0
    obtain ⟨ee1, hg2⟩ := Prod.mk.inj hg1
    obtain ⟨ee2, hg3⟩ := Prod.mk.inj hg2
    obtain ⟨ee3, hg4⟩ := Prod.mk.inj hg3
    obtain ⟨ee4, hg5⟩ := Prod.mk.inj hg4
    obtain ⟨ee5, hg6⟩ := Prod.mk.inj hg5
    obtain ⟨ee6, hg7⟩ := Prod.mk.inj hg6
    obtain ⟨ee7, hg8⟩ := Prod.mk.inj hg7
    obtain ⟨ee8, hg9⟩ := Prod.mk.inj hg8
    obtain ⟨ee9, hg10⟩ := Prod.mk.inj hg9
    obtain ⟨ee10, hg11⟩ := Prod.mk.inj hg10
    obtain ⟨ee11, hg12⟩ := Prod.mk.inj hg11
    obtain ⟨ee12, hg13⟩ := Prod.mk.inj hg12
    obtain ⟨ee13, hg14⟩ := Prod.mk.inj hg13
    obtain ⟨ee14, hg15⟩ := Prod.mk.inj hg14
    clear hf hg0 hg1 hg2 hg3 hg4 hg5 hg6 hg7 hg8 hg9 hg10 hg11 hg12 hg13 hg14
    subst ee0
    subst ee1
    subst ee2
    subst ee3
    subst ee4
    subst ee5
    subst ee6
    subst ee7
    subst ee8
    subst ee9
    subst ee10
    subst ee11
    subst ee12
    subst ee13
    subst ee14
    subst hg15
    exact W.iret hx hb hr (fun t ht hW => ⟨⟨_, (), rfl, rfl, xend ht hP⟩, hS.F ht⟩) hS.2.2 dX7_hidden_27
  · refine lv_if_eq (tgt := 21) hx hb dX7_hidden_5 (by decide) (fun c36 => ?_) (fun c36 => ?_)
    · have hf := ifT hf c36
      clear c36
      exact J21 _ _ ls ⟨hP, hD, hS, lv_sub hl [0] rfl⟩ hf
    · have hf := ifF hf c36
      clear c36
      refine lv_aload_n hx hb dX7_hidden_8 rfl (lv_at hl 0 rfl) ?_
      refine lv_iload_n hx hb dX7_hidden_9 rfl (lv_at hl 2 rfl) ?_
      obtain ⟨r7, hr8, hf⟩ := boE1 hf
      have hPc := hP.sub (ws' := [(q_t, oX7 q_t_now q_t_future q_t_draft q_t_kept v_t_isKept q_t_shelves q_t_tape q_t_reader q_t_hiddenWay q_t_sights q_t_choice q_t_refusals), (q_t_now, oX5 v_t_now_places q_t_now_ways q_t_now_distances v_t_now_people q_t_now_kind q_t_now_a q_t_now_home q_t_now_aim q_t_now_at v_t_now_hour v_t_now_chance v_t_now_seed)]) [0, 1] rfl
      refine xcSi (va_runV (As := [.int p1]) (rest := []) ⟨hx, hb, hml, hown, hts⟩ (mX7_isPlace l D cy q_t q_t_now q_t_future q_t_draft q_t_kept q_t_shelves q_t_tape q_t_reader q_t_hiddenWay q_t_sights q_t_choice q_t_refusals q_t_now_ways q_t_now_distances q_t_now_kind q_t_now_a q_t_now_home q_t_now_aim q_t_now_at v_t_isKept v_t_now_places v_t_now_people v_t_now_hour v_t_now_chance v_t_now_seed  p1 hr8) (cwV 1 hts gX7_hidden_X7_isPlace rfl rfl rfl (by decide +kernel) ⟨Nat.le_of_ble_eq_true rfl, Nat.le_of_ble_eq_true rfl⟩) (xPV hK hPc (ci := 7) (q0 := 0) rfl rfl) rfl rfl hl.1 rfl (lv_room (Nat.le_of_ble_eq_true rfl)) dX7_hidden_10 ⟨Nat.le_of_ble_eq_true rfl, Nat.le_of_ble_eq_true rfl⟩) ?_
      refine lv_if_eq (tgt := 21) hx hb dX7_hidden_13 (by decide) (fun c35 => ?_) (fun c35 => ?_)
      · have hf := ifT hf c35
        clear c35
        exact J21 _ _ ls ⟨hP, hD, hS, lv_sub hl [0] rfl⟩ hf
      · have hf := ifF hf c35
        clear c35
        refine lv_iload_n hx hb dX7_hidden_16 rfl (lv_at hl 3 rfl) ?_
        refine lv_iconst (v := (-1)) hx hb dX7_hidden_17 (by decide) ?_
        refine lv_icmp_ge (tgt := 28) hx hb dX7_hidden_18 (by decide) (fun c34 => ?_) (fun c34 => ?_)
        · have hf := ifT hf c34
          clear c34
          refine lv_aload_n hx hb dX7_hidden_28 rfl (lv_at hl 0 rfl) ?_
          refine va_get (D := D) (ci := 7) (v := .ref q_t_future) (C := RX7) (T := TX7) (N := 12) hx hb hts hinX7 hown hK.1 hP 0 rfl rfl 1 (by decide) hk16 (fun _ h9 => h9) rfl dX7_hidden_29 ?_
          refine lv_aload_n hx hb dX7_hidden_32 rfl (lv_at hl 0 rfl) ?_
          refine va_get (D := D) (ci := 7) (v := .ref q_t_now) (C := RX7) (T := TX7) (N := 12) hx hb hts hinX7 hown hK.1 hP 0 rfl rfl 0 (by decide) hk10 (fun _ h9 => h9) rfl dX7_hidden_33 ?_
          obtain ⟨u9, u10, u11, u12, u13, u14, u15, u16, u17, u18, u19, u20, hr21, hf⟩ := boE12 hf
          have hPc := hP.sub (ws' := [(q_t_future, oX5 v_t_future_places q_t_future_ways q_t_future_distances v_t_future_people q_t_future_kind q_t_future_a q_t_future_home q_t_future_aim q_t_future_at v_t_future_hour v_t_future_chance v_t_future_seed), (q_t_future_ways, .inl (cy 0, 12, .inl v_t_future_ways)), (q_t_future_distances, .inl (cy 0, 144, .inl v_t_future_distances)), (q_t_future_kind, .inl (cy 0, 8, .inl v_t_future_kind)), (q_t_future_a, .inl (cy 0, 8, .inl v_t_future_a)), (q_t_future_home, .inl (cy 0, 8, .inl v_t_future_home)), (q_t_future_aim, .inl (cy 0, 8, .inl v_t_future_aim)), (q_t_future_at, .inl (cy 0, 8, .inl v_t_future_at)), (q_t_now, oX5 v_t_now_places q_t_now_ways q_t_now_distances v_t_now_people q_t_now_kind q_t_now_a q_t_now_home q_t_now_aim q_t_now_at v_t_now_hour v_t_now_chance v_t_now_seed), (q_t_now_ways, .inl (cy 0, 12, .inl v_t_now_ways)), (q_t_now_distances, .inl (cy 0, 144, .inl v_t_now_distances)), (q_t_now_kind, .inl (cy 0, 8, .inl v_t_now_kind)), (q_t_now_a, .inl (cy 0, 8, .inl v_t_now_a)), (q_t_now_home, .inl (cy 0, 8, .inl v_t_now_home)), (q_t_now_aim, .inl (cy 0, 8, .inl v_t_now_aim)), (q_t_now_at, .inl (cy 0, 8, .inl v_t_now_at))]) [9, 10, 11, 12, 13, 14, 15, 16, 1, 2, 3, 4, 5, 6, 7, 8] rfl
          have hDc := hD.sub (ws' := [(q_t_future, oX5 v_t_future_places q_t_future_ways q_t_future_distances v_t_future_people q_t_future_kind q_t_future_a q_t_future_home q_t_future_aim q_t_future_at v_t_future_hour v_t_future_chance v_t_future_seed), (q_t_future_ways, .inl (cy 0, 12, .inl v_t_future_ways)), (q_t_future_distances, .inl (cy 0, 144, .inl v_t_future_distances)), (q_t_future_kind, .inl (cy 0, 8, .inl v_t_future_kind)), (q_t_future_a, .inl (cy 0, 8, .inl v_t_future_a)), (q_t_future_home, .inl (cy 0, 8, .inl v_t_future_home)), (q_t_future_aim, .inl (cy 0, 8, .inl v_t_future_aim)), (q_t_future_at, .inl (cy 0, 8, .inl v_t_future_at)), (q_t_now, oX5 v_t_now_places q_t_now_ways q_t_now_distances v_t_now_people q_t_now_kind q_t_now_a q_t_now_home q_t_now_aim q_t_now_at v_t_now_hour v_t_now_chance v_t_now_seed), (q_t_now_ways, .inl (cy 0, 12, .inl v_t_now_ways)), (q_t_now_distances, .inl (cy 0, 144, .inl v_t_now_distances)), (q_t_now_kind, .inl (cy 0, 8, .inl v_t_now_kind)), (q_t_now_a, .inl (cy 0, 8, .inl v_t_now_a)), (q_t_now_home, .inl (cy 0, 8, .inl v_t_now_home)), (q_t_now_aim, .inl (cy 0, 8, .inl v_t_now_aim)), (q_t_now_at, .inl (cy 0, 8, .inl v_t_now_at))]) [9, 10, 11, 12, 13, 14, 15, 16, 1, 2, 3, 4, 5, 6, 7, 8] (by decide) rfl
          refine xcQv (w1 := [(q_t_future, oX5 u9 q_t_future_ways q_t_future_distances u10 q_t_future_kind q_t_future_a q_t_future_home q_t_future_aim q_t_future_at u11 u12 u13), (q_t_future_ways, .inl (cy 0, 12, .inl u14)), (q_t_future_distances, .inl (cy 0, 144, .inl u15)), (q_t_future_kind, .inl (cy 0, 8, .inl u16)), (q_t_future_a, .inl (cy 0, 8, .inl u17)), (q_t_future_home, .inl (cy 0, 8, .inl u18)), (q_t_future_aim, .inl (cy 0, 8, .inl u19)), (q_t_future_at, .inl (cy 0, 8, .inl u20)), (q_t_now, oX5 v_t_now_places q_t_now_ways q_t_now_distances v_t_now_people q_t_now_kind q_t_now_a q_t_now_home q_t_now_aim q_t_now_at v_t_now_hour v_t_now_chance v_t_now_seed), (q_t_now_ways, .inl (cy 0, 12, .inl v_t_now_ways)), (q_t_now_distances, .inl (cy 0, 144, .inl v_t_now_distances)), (q_t_now_kind, .inl (cy 0, 8, .inl v_t_now_kind)), (q_t_now_a, .inl (cy 0, 8, .inl v_t_now_a)), (q_t_now_home, .inl (cy 0, 8, .inl v_t_now_home)), (q_t_now_aim, .inl (cy 0, 8, .inl v_t_now_aim)), (q_t_now_at, .inl (cy 0, 8, .inl v_t_now_at))]) (va_runV (As := [.ref q_t_now]) (rest := []) ⟨hx, hb, hml, hown, hts⟩ (mX5_become l D cy q_t_future q_t_now q_t_future_ways q_t_future_distances q_t_future_kind q_t_future_a q_t_future_home q_t_future_aim q_t_future_at q_t_now_ways q_t_now_distances q_t_now_kind q_t_now_a q_t_now_home q_t_now_aim q_t_now_at v_t_future_places v_t_future_people v_t_future_hour v_t_future_chance v_t_future_seed v_t_future_ways v_t_future_distances v_t_future_kind v_t_future_a v_t_future_home v_t_future_aim v_t_future_at v_t_now_places v_t_now_people v_t_now_hour v_t_now_chance v_t_now_seed v_t_now_ways v_t_now_distances v_t_now_kind v_t_now_a v_t_now_home v_t_now_aim v_t_now_at _  hr21) (cwV 1 hts gX7_hidden_X5_become rfl rfl rfl (by decide +kernel) ⟨Nat.le_of_ble_eq_true rfl, Nat.le_of_ble_eq_true rfl⟩) (xPVw hK hPc hDc (ci := 5) (q0 := 0) rfl rfl) rfl rfl hl.1 rfl (lv_room (Nat.le_of_ble_eq_true rfl)) dX7_hidden_36 ⟨Nat.le_of_ble_eq_true rfl, Nat.le_of_ble_eq_true rfl⟩) hP hD hS hA [9, 10, 11, 12, 13, 14, 15, 16, 1, 2, 3, 4, 5, 6, 7, 8] rfl rfl (fun H locs hP hD hS => ?_)
          have hP : va_P D vwCl [(q_t, oX7 q_t_now q_t_future q_t_draft q_t_kept v_t_isKept q_t_shelves q_t_tape q_t_reader q_t_hiddenWay q_t_sights q_t_choice q_t_refusals), (q_t_now, oX5 v_t_now_places q_t_now_ways q_t_now_distances v_t_now_people q_t_now_kind q_t_now_a q_t_now_home q_t_now_aim q_t_now_at v_t_now_hour v_t_now_chance v_t_now_seed), (q_t_now_ways, .inl (cy 0, 12, .inl v_t_now_ways)), (q_t_now_distances, .inl (cy 0, 144, .inl v_t_now_distances)), (q_t_now_kind, .inl (cy 0, 8, .inl v_t_now_kind)), (q_t_now_a, .inl (cy 0, 8, .inl v_t_now_a)), (q_t_now_home, .inl (cy 0, 8, .inl v_t_now_home)), (q_t_now_aim, .inl (cy 0, 8, .inl v_t_now_aim)), (q_t_now_at, .inl (cy 0, 8, .inl v_t_now_at)), (q_t_future, oX5 u9 q_t_future_ways q_t_future_distances u10 q_t_future_kind q_t_future_a q_t_future_home q_t_future_aim q_t_future_at u11 u12 u13), (q_t_future_ways, .inl (cy 0, 12, .inl u14)), (q_t_future_distances, .inl (cy 0, 144, .inl u15)), (q_t_future_kind, .inl (cy 0, 8, .inl u16)), (q_t_future_a, .inl (cy 0, 8, .inl u17)), (q_t_future_home, .inl (cy 0, 8, .inl u18)), (q_t_future_aim, .inl (cy 0, 8, .inl u19)), (q_t_future_at, .inl (cy 0, 8, .inl u20)), (q_t_hiddenWay, oX1 v_t_hiddenWay_length q_t_hiddenWay_steps), (q_t_hiddenWay_steps, .inl (cy 0, 25, .inl v_t_hiddenWay_steps)), (q_t_refusals, .inl (cy 0, 5, .inl v_t_refusals))] H := hP
          have hD : va_D A [(q_t, oX7 q_t_now q_t_future q_t_draft q_t_kept v_t_isKept q_t_shelves q_t_tape q_t_reader q_t_hiddenWay q_t_sights q_t_choice q_t_refusals), (q_t_now, oX5 v_t_now_places q_t_now_ways q_t_now_distances v_t_now_people q_t_now_kind q_t_now_a q_t_now_home q_t_now_aim q_t_now_at v_t_now_hour v_t_now_chance v_t_now_seed), (q_t_now_ways, .inl (cy 0, 12, .inl v_t_now_ways)), (q_t_now_distances, .inl (cy 0, 144, .inl v_t_now_distances)), (q_t_now_kind, .inl (cy 0, 8, .inl v_t_now_kind)), (q_t_now_a, .inl (cy 0, 8, .inl v_t_now_a)), (q_t_now_home, .inl (cy 0, 8, .inl v_t_now_home)), (q_t_now_aim, .inl (cy 0, 8, .inl v_t_now_aim)), (q_t_now_at, .inl (cy 0, 8, .inl v_t_now_at)), (q_t_future, oX5 u9 q_t_future_ways q_t_future_distances u10 q_t_future_kind q_t_future_a q_t_future_home q_t_future_aim q_t_future_at u11 u12 u13), (q_t_future_ways, .inl (cy 0, 12, .inl u14)), (q_t_future_distances, .inl (cy 0, 144, .inl u15)), (q_t_future_kind, .inl (cy 0, 8, .inl u16)), (q_t_future_a, .inl (cy 0, 8, .inl u17)), (q_t_future_home, .inl (cy 0, 8, .inl u18)), (q_t_future_aim, .inl (cy 0, 8, .inl u19)), (q_t_future_at, .inl (cy 0, 8, .inl u20)), (q_t_hiddenWay, oX1 v_t_hiddenWay_length q_t_hiddenWay_steps), (q_t_hiddenWay_steps, .inl (cy 0, 25, .inl v_t_hiddenWay_steps)), (q_t_refusals, .inl (cy 0, 5, .inl v_t_refusals))] := hD
          refine lv_aload_n hx hb dX7_hidden_39 rfl (lv_at hl 0 rfl) ?_
          refine va_get (D := D) (ci := 7) (v := .ref q_t_hiddenWay) (C := RX7) (T := TX7) (N := 12) hx hb hts hinX7 hown hK.1 hP 0 rfl rfl 8 (by decide) hk47 (fun _ h9 => h9) rfl dX7_hidden_40 ?_
          refine lv_aload_n hx hb dX7_hidden_43 rfl (lv_at hl 0 rfl) ?_
          refine va_get (D := D) (ci := 7) (v := .ref q_t_future) (C := RX7) (T := TX7) (N := 12) hx hb hts hinX7 hown hK.1 hP 0 rfl rfl 1 (by decide) hk16 (fun _ h9 => h9) rfl dX7_hidden_44 ?_
          refine lv_iload_n hx hb dX7_hidden_47 rfl (lv_at hl 1 rfl) ?_
          refine lv_iload_n hx hb dX7_hidden_48 rfl (lv_at hl 2 rfl) ?_
          obtain ⟨u22, u23, u24, u25, hr26, hf⟩ := boE4 hf
          have hPc := hP.sub (ws' := [(q_t_hiddenWay, oX1 v_t_hiddenWay_length q_t_hiddenWay_steps), (q_t_hiddenWay_steps, .inl (cy 0, 25, .inl v_t_hiddenWay_steps)), (q_t_future, oX5 u9 q_t_future_ways q_t_future_distances u10 q_t_future_kind q_t_future_a q_t_future_home q_t_future_aim q_t_future_at u11 u12 u13), (q_t_future_ways, .inl (cy 0, 12, .inl u14)), (q_t_future_distances, .inl (cy 0, 144, .inl u15)), (q_t_future_kind, .inl (cy 0, 8, .inl u16)), (q_t_future_home, .inl (cy 0, 8, .inl u18)), (q_t_future_aim, .inl (cy 0, 8, .inl u19)), (q_t_future_at, .inl (cy 0, 8, .inl u20))]) [17, 18, 9, 10, 11, 12, 14, 15, 16] rfl
          have hDc := hD.sub (ws' := [(q_t_hiddenWay, oX1 v_t_hiddenWay_length q_t_hiddenWay_steps), (q_t_hiddenWay_steps, .inl (cy 0, 25, .inl v_t_hiddenWay_steps)), (q_t_future, oX5 u9 q_t_future_ways q_t_future_distances u10 q_t_future_kind q_t_future_a q_t_future_home q_t_future_aim q_t_future_at u11 u12 u13), (q_t_future_ways, .inl (cy 0, 12, .inl u14)), (q_t_future_distances, .inl (cy 0, 144, .inl u15)), (q_t_future_kind, .inl (cy 0, 8, .inl u16)), (q_t_future_home, .inl (cy 0, 8, .inl u18)), (q_t_future_aim, .inl (cy 0, 8, .inl u19)), (q_t_future_at, .inl (cy 0, 8, .inl u20))]) [17, 18, 9, 10, 11, 12, 14, 15, 16] (by decide) rfl
          refine xcQv (w1 := [(q_t_hiddenWay, oX1 u22 q_t_hiddenWay_steps), (q_t_hiddenWay_steps, .inl (cy 0, 25, .inl u23)), (q_t_future, oX5 u9 q_t_future_ways q_t_future_distances u10 q_t_future_kind q_t_future_a q_t_future_home q_t_future_aim q_t_future_at u24 u12 u13), (q_t_future_ways, .inl (cy 0, 12, .inl u14)), (q_t_future_distances, .inl (cy 0, 144, .inl u15)), (q_t_future_kind, .inl (cy 0, 8, .inl u16)), (q_t_future_home, .inl (cy 0, 8, .inl u18)), (q_t_future_aim, .inl (cy 0, 8, .inl u19)), (q_t_future_at, .inl (cy 0, 8, .inl u25))]) (va_runV (As := [.ref q_t_future, .int p0, .int p1]) (rest := []) ⟨hx, hb, hml, hown, hts⟩ (mX1_seek l D cy q_t_hiddenWay q_t_future q_t_hiddenWay_steps q_t_future_ways q_t_future_distances q_t_future_kind q_t_future_a q_t_future_home q_t_future_aim q_t_future_at v_t_hiddenWay_length v_t_hiddenWay_steps u9 u10 u11 u12 u13 u14 u15 u16 u18 u19 u20 _ p0 p1 hr26) (cwV 3 hts gX7_hidden_X1_seek rfl rfl rfl (by decide +kernel) ⟨Nat.le_of_ble_eq_true rfl, Nat.le_of_ble_eq_true rfl⟩) (xPVw hK hPc hDc (ci := 1) (q0 := 0) rfl rfl) rfl rfl hl.1 rfl (lv_room (Nat.le_of_ble_eq_true rfl)) dX7_hidden_49 ⟨Nat.le_of_ble_eq_true rfl, Nat.le_of_ble_eq_true rfl⟩) hP hD hS hA [17, 18, 9, 10, 11, 12, 14, 15, 16] rfl rfl (fun H locs hP hD hS => ?_)
          have hP : va_P D vwCl [(q_t, oX7 q_t_now q_t_future q_t_draft q_t_kept v_t_isKept q_t_shelves q_t_tape q_t_reader q_t_hiddenWay q_t_sights q_t_choice q_t_refusals), (q_t_now, oX5 v_t_now_places q_t_now_ways q_t_now_distances v_t_now_people q_t_now_kind q_t_now_a q_t_now_home q_t_now_aim q_t_now_at v_t_now_hour v_t_now_chance v_t_now_seed), (q_t_now_ways, .inl (cy 0, 12, .inl v_t_now_ways)), (q_t_now_distances, .inl (cy 0, 144, .inl v_t_now_distances)), (q_t_now_kind, .inl (cy 0, 8, .inl v_t_now_kind)), (q_t_now_a, .inl (cy 0, 8, .inl v_t_now_a)), (q_t_now_home, .inl (cy 0, 8, .inl v_t_now_home)), (q_t_now_aim, .inl (cy 0, 8, .inl v_t_now_aim)), (q_t_now_at, .inl (cy 0, 8, .inl v_t_now_at)), (q_t_future, oX5 u9 q_t_future_ways q_t_future_distances u10 q_t_future_kind q_t_future_a q_t_future_home q_t_future_aim q_t_future_at u24 u12 u13), (q_t_future_ways, .inl (cy 0, 12, .inl u14)), (q_t_future_distances, .inl (cy 0, 144, .inl u15)), (q_t_future_kind, .inl (cy 0, 8, .inl u16)), (q_t_future_a, .inl (cy 0, 8, .inl u17)), (q_t_future_home, .inl (cy 0, 8, .inl u18)), (q_t_future_aim, .inl (cy 0, 8, .inl u19)), (q_t_future_at, .inl (cy 0, 8, .inl u25)), (q_t_hiddenWay, oX1 u22 q_t_hiddenWay_steps), (q_t_hiddenWay_steps, .inl (cy 0, 25, .inl u23)), (q_t_refusals, .inl (cy 0, 5, .inl v_t_refusals))] H := hP
          have hD : va_D A [(q_t, oX7 q_t_now q_t_future q_t_draft q_t_kept v_t_isKept q_t_shelves q_t_tape q_t_reader q_t_hiddenWay q_t_sights q_t_choice q_t_refusals), (q_t_now, oX5 v_t_now_places q_t_now_ways q_t_now_distances v_t_now_people q_t_now_kind q_t_now_a q_t_now_home q_t_now_aim q_t_now_at v_t_now_hour v_t_now_chance v_t_now_seed), (q_t_now_ways, .inl (cy 0, 12, .inl v_t_now_ways)), (q_t_now_distances, .inl (cy 0, 144, .inl v_t_now_distances)), (q_t_now_kind, .inl (cy 0, 8, .inl v_t_now_kind)), (q_t_now_a, .inl (cy 0, 8, .inl v_t_now_a)), (q_t_now_home, .inl (cy 0, 8, .inl v_t_now_home)), (q_t_now_aim, .inl (cy 0, 8, .inl v_t_now_aim)), (q_t_now_at, .inl (cy 0, 8, .inl v_t_now_at)), (q_t_future, oX5 u9 q_t_future_ways q_t_future_distances u10 q_t_future_kind q_t_future_a q_t_future_home q_t_future_aim q_t_future_at u24 u12 u13), (q_t_future_ways, .inl (cy 0, 12, .inl u14)), (q_t_future_distances, .inl (cy 0, 144, .inl u15)), (q_t_future_kind, .inl (cy 0, 8, .inl u16)), (q_t_future_a, .inl (cy 0, 8, .inl u17)), (q_t_future_home, .inl (cy 0, 8, .inl u18)), (q_t_future_aim, .inl (cy 0, 8, .inl u19)), (q_t_future_at, .inl (cy 0, 8, .inl u25)), (q_t_hiddenWay, oX1 u22 q_t_hiddenWay_steps), (q_t_hiddenWay_steps, .inl (cy 0, 25, .inl u23)), (q_t_refusals, .inl (cy 0, 5, .inl v_t_refusals))] := hD
          refine lv_iload_n hx hb dX7_hidden_52 rfl (lv_at hl 3 rfl) ?_
          refine lv_iconst (v := (-1)) hx hb dX7_hidden_53 (by decide) ?_
          refine lv_icmp_ne (tgt := 65) hx hb dX7_hidden_54 (by decide) (fun c33 => ?_) (fun c33 => ?_)
          · have hf := ifF hf c33
            clear c33
            refine lv_iload_n hx hb dX7_hidden_65 rfl (lv_at hl 3 rfl) ?_
            refine lv_aload_n hx hb dX7_hidden_66 rfl (lv_at hl 0 rfl) ?_
            refine va_get (D := D) (ci := 7) (v := .ref q_t_hiddenWay) (C := RX7) (T := TX7) (N := 12) hx hb hts hinX7 hown hK.1 hP 0 rfl rfl 8 (by decide) hk47 (fun _ h9 => h9) rfl dX7_hidden_67 ?_
            refine va_get (D := D) (ci := 1) (v := .int u22) (C := RX1) (T := TX1) (N := 2) hx hb hts hinX1 hown hK.1 hP 17 rfl rfl 0 (by decide) hk258 (fun _ h9 => h9) rfl dX7_hidden_70 ?_
            refine lv_icmp_le (tgt := 83) hx hb dX7_hidden_73 (by decide) (fun c32 => ?_) (fun c32 => ?_)
            · have hf := ifT hf c32
              clear c32
              refine lv_aload_n hx hb dX7_hidden_83 rfl (lv_at hl 0 rfl) ?_
              refine va_get (D := D) (ci := 7) (v := .ref q_t_hiddenWay) (C := RX7) (T := TX7) (N := 12) hx hb hts hinX7 hown hK.1 hP 0 rfl rfl 8 (by decide) hk47 (fun _ h9 => h9) rfl dX7_hidden_84 ?_
              refine lv_aload_n hx hb dX7_hidden_87 rfl (lv_at hl 0 rfl) ?_
              refine va_get (D := D) (ci := 7) (v := .ref q_t_future) (C := RX7) (T := TX7) (N := 12) hx hb hts hinX7 hown hK.1 hP 0 rfl rfl 1 (by decide) hk16 (fun _ h9 => h9) rfl dX7_hidden_88 ?_
              refine lv_iload_n hx hb dX7_hidden_91 rfl (lv_at hl 1 rfl) ?_
              refine lv_iload_n hx hb dX7_hidden_92 rfl (lv_at hl 3 rfl) ?_
              obtain ⟨r27, hr28, hf⟩ := boE1 hf
              have hPc := hP.sub (ws' := [(q_t_hiddenWay, oX1 u22 q_t_hiddenWay_steps), (q_t_hiddenWay_steps, .inl (cy 0, 25, .inl u23)), (q_t_future, oX5 u9 q_t_future_ways q_t_future_distances u10 q_t_future_kind q_t_future_a q_t_future_home q_t_future_aim q_t_future_at u24 u12 u13), (q_t_future_ways, .inl (cy 0, 12, .inl u14))]) [17, 18, 9, 10] rfl
              refine xcSi (va_runV (As := [.ref q_t_future, .int p0, .int p2]) (rest := []) ⟨hx, hb, hml, hown, hts⟩ (mX1_placeAt l D cy q_t_hiddenWay q_t_future q_t_hiddenWay_steps q_t_future_ways q_t_future_distances q_t_future_kind q_t_future_a q_t_future_home q_t_future_aim q_t_future_at u22 u23 u9 u10 u24 u12 u13 u14  p0 p2 hr28) (cwV 3 hts gX7_hidden_X1_placeAt rfl rfl rfl (by decide +kernel) ⟨Nat.le_of_ble_eq_true rfl, Nat.le_of_ble_eq_true rfl⟩) (xPV hK hPc (ci := 1) (q0 := 0) rfl rfl) rfl rfl hl.1 rfl (lv_room (Nat.le_of_ble_eq_true rfl)) dX7_hidden_93 ⟨Nat.le_of_ble_eq_true rfl, Nat.le_of_ble_eq_true rfl⟩) ?_
              have hg0 := Option.some.inj hf
              obtain ⟨ee0, hg1⟩ := Prod.mk.inj hg0
              obtain ⟨ee1, hg2⟩ := Prod.mk.inj hg1
              obtain ⟨ee2, hg3⟩ := Prod.mk.inj hg2
              obtain ⟨ee3, hg4⟩ := Prod.mk.inj hg3
              obtain ⟨ee4, hg5⟩ := Prod.mk.inj hg4
              obtain ⟨ee5, hg6⟩ := Prod.mk.inj hg5
              obtain ⟨ee6, hg7⟩ := Prod.mk.inj hg6
              obtain ⟨ee7, hg8⟩ := Prod.mk.inj hg7
              obtain ⟨ee8, hg9⟩ := Prod.mk.inj hg8
              obtain ⟨ee9, hg10⟩ := Prod.mk.inj hg9
              obtain ⟨ee10, hg11⟩ := Prod.mk.inj hg10
              obtain ⟨ee11, hg12⟩ := Prod.mk.inj hg11
              obtain ⟨ee12, hg13⟩ := Prod.mk.inj hg12
              obtain ⟨ee13, hg14⟩ := Prod.mk.inj hg13
              obtain ⟨ee14, hg15⟩ := Prod.mk.inj hg14
              clear hf hg0 hg1 hg2 hg3 hg4 hg5 hg6 hg7 hg8 hg9 hg10 hg11 hg12 hg13 hg14
              subst ee0
              subst ee1
              subst ee2
              subst ee3
              subst ee4
              subst ee5
              subst ee6
              subst ee7
              subst ee8
              subst ee9
              subst ee10
              subst ee11
              subst ee12
              subst ee13
              subst ee14
              subst hg15
              exact W.iret hx hb hr (fun t ht hW => ⟨⟨_, (), rfl, rfl, xend ht hP⟩, hS.F ht⟩) hS.2.2 dX7_hidden_96
            · have hf := ifF hf c32
              clear c32
              refine lv_aload_n hx hb dX7_hidden_76 rfl (lv_at hl 0 rfl) ?_
              refine lv_bipush (v := (-5)) hx hb dX7_hidden_77 (by decide) ?_
              obtain ⟨r29, u30, hr31, hf⟩ := boE2 hf
              have hPc := hP.sub (ws' := [(q_t, oX7 q_t_now q_t_future q_t_draft q_t_kept v_t_isKept q_t_shelves q_t_tape q_t_reader q_t_hiddenWay q_t_sights q_t_choice q_t_refusals), (q_t_refusals, .inl (cy 0, 5, .inl v_t_refusals))]) [0, 19] rfl
              have hDc := hD.sub (ws' := [(q_t, oX7 q_t_now q_t_future q_t_draft q_t_kept v_t_isKept q_t_shelves q_t_tape q_t_reader q_t_hiddenWay q_t_sights q_t_choice q_t_refusals), (q_t_refusals, .inl (cy 0, 5, .inl v_t_refusals))]) [0, 19] (by decide) rfl
              refine xcQi (w1 := [(q_t, oX7 q_t_now q_t_future q_t_draft q_t_kept v_t_isKept q_t_shelves q_t_tape q_t_reader q_t_hiddenWay q_t_sights q_t_choice q_t_refusals), (q_t_refusals, .inl (cy 0, 5, .inl u30))]) (va_runV (As := [.int (-5 : Int32)]) (rest := []) ⟨hx, hb, hml, hown, hts⟩ (mX7_refuse l D cy q_t q_t_now q_t_future q_t_draft q_t_kept q_t_shelves q_t_tape q_t_reader q_t_hiddenWay q_t_sights q_t_choice q_t_refusals v_t_isKept v_t_refusals _ (-5 : Int32) hr31) (cwV 1 hts gX7_hidden_X7_refuse rfl rfl rfl (by decide +kernel) ⟨Nat.le_of_ble_eq_true rfl, Nat.le_of_ble_eq_true rfl⟩) (xPVw hK hPc hDc (ci := 7) (q0 := 0) rfl rfl) rfl rfl hl.1 rfl (lv_room (Nat.le_of_ble_eq_true rfl)) dX7_hidden_79 ⟨Nat.le_of_ble_eq_true rfl, Nat.le_of_ble_eq_true rfl⟩) hP hD hS hA [0, 19] rfl rfl (fun H locs hP hD hS => ?_)
              have hP : va_P D vwCl [(q_t, oX7 q_t_now q_t_future q_t_draft q_t_kept v_t_isKept q_t_shelves q_t_tape q_t_reader q_t_hiddenWay q_t_sights q_t_choice q_t_refusals), (q_t_now, oX5 v_t_now_places q_t_now_ways q_t_now_distances v_t_now_people q_t_now_kind q_t_now_a q_t_now_home q_t_now_aim q_t_now_at v_t_now_hour v_t_now_chance v_t_now_seed), (q_t_now_ways, .inl (cy 0, 12, .inl v_t_now_ways)), (q_t_now_distances, .inl (cy 0, 144, .inl v_t_now_distances)), (q_t_now_kind, .inl (cy 0, 8, .inl v_t_now_kind)), (q_t_now_a, .inl (cy 0, 8, .inl v_t_now_a)), (q_t_now_home, .inl (cy 0, 8, .inl v_t_now_home)), (q_t_now_aim, .inl (cy 0, 8, .inl v_t_now_aim)), (q_t_now_at, .inl (cy 0, 8, .inl v_t_now_at)), (q_t_future, oX5 u9 q_t_future_ways q_t_future_distances u10 q_t_future_kind q_t_future_a q_t_future_home q_t_future_aim q_t_future_at u24 u12 u13), (q_t_future_ways, .inl (cy 0, 12, .inl u14)), (q_t_future_distances, .inl (cy 0, 144, .inl u15)), (q_t_future_kind, .inl (cy 0, 8, .inl u16)), (q_t_future_a, .inl (cy 0, 8, .inl u17)), (q_t_future_home, .inl (cy 0, 8, .inl u18)), (q_t_future_aim, .inl (cy 0, 8, .inl u19)), (q_t_future_at, .inl (cy 0, 8, .inl u25)), (q_t_hiddenWay, oX1 u22 q_t_hiddenWay_steps), (q_t_hiddenWay_steps, .inl (cy 0, 25, .inl u23)), (q_t_refusals, .inl (cy 0, 5, .inl u30))] H := hP
              have hD : va_D A [(q_t, oX7 q_t_now q_t_future q_t_draft q_t_kept v_t_isKept q_t_shelves q_t_tape q_t_reader q_t_hiddenWay q_t_sights q_t_choice q_t_refusals), (q_t_now, oX5 v_t_now_places q_t_now_ways q_t_now_distances v_t_now_people q_t_now_kind q_t_now_a q_t_now_home q_t_now_aim q_t_now_at v_t_now_hour v_t_now_chance v_t_now_seed), (q_t_now_ways, .inl (cy 0, 12, .inl v_t_now_ways)), (q_t_now_distances, .inl (cy 0, 144, .inl v_t_now_distances)), (q_t_now_kind, .inl (cy 0, 8, .inl v_t_now_kind)), (q_t_now_a, .inl (cy 0, 8, .inl v_t_now_a)), (q_t_now_home, .inl (cy 0, 8, .inl v_t_now_home)), (q_t_now_aim, .inl (cy 0, 8, .inl v_t_now_aim)), (q_t_now_at, .inl (cy 0, 8, .inl v_t_now_at)), (q_t_future, oX5 u9 q_t_future_ways q_t_future_distances u10 q_t_future_kind q_t_future_a q_t_future_home q_t_future_aim q_t_future_at u24 u12 u13), (q_t_future_ways, .inl (cy 0, 12, .inl u14)), (q_t_future_distances, .inl (cy 0, 144, .inl u15)), (q_t_future_kind, .inl (cy 0, 8, .inl u16)), (q_t_future_a, .inl (cy 0, 8, .inl u17)), (q_t_future_home, .inl (cy 0, 8, .inl u18)), (q_t_future_aim, .inl (cy 0, 8, .inl u19)), (q_t_future_at, .inl (cy 0, 8, .inl u25)), (q_t_hiddenWay, oX1 u22 q_t_hiddenWay_steps), (q_t_hiddenWay_steps, .inl (cy 0, 25, .inl u23)), (q_t_refusals, .inl (cy 0, 5, .inl u30))] := hD
              have hg0 := Option.some.inj hf
              obtain ⟨ee0, hg1⟩ := Prod.mk.inj hg0
              obtain ⟨ee1, hg2⟩ := Prod.mk.inj hg1
              obtain ⟨ee2, hg3⟩ := Prod.mk.inj hg2
              obtain ⟨ee3, hg4⟩ := Prod.mk.inj hg3
              obtain ⟨ee4, hg5⟩ := Prod.mk.inj hg4
              obtain ⟨ee5, hg6⟩ := Prod.mk.inj hg5
              obtain ⟨ee6, hg7⟩ := Prod.mk.inj hg6
              obtain ⟨ee7, hg8⟩ := Prod.mk.inj hg7
              obtain ⟨ee8, hg9⟩ := Prod.mk.inj hg8
              obtain ⟨ee9, hg10⟩ := Prod.mk.inj hg9
              obtain ⟨ee10, hg11⟩ := Prod.mk.inj hg10
              obtain ⟨ee11, hg12⟩ := Prod.mk.inj hg11
              obtain ⟨ee12, hg13⟩ := Prod.mk.inj hg12
              obtain ⟨ee13, hg14⟩ := Prod.mk.inj hg13
              obtain ⟨ee14, hg15⟩ := Prod.mk.inj hg14
              clear hf hg0 hg1 hg2 hg3 hg4 hg5 hg6 hg7 hg8 hg9 hg10 hg11 hg12 hg13 hg14
              subst ee0
              subst ee1
              subst ee2
              subst ee3
              subst ee4
              subst ee5
              subst ee6
              subst ee7
              subst ee8
              subst ee9
              subst ee10
              subst ee11
              subst ee12
              subst ee13
              subst ee14
              subst hg15
              exact W.iret hx hb hr (fun t ht hW => ⟨⟨_, (), rfl, rfl, xend ht hP⟩, hS.F ht⟩) hS.2.2 dX7_hidden_82
          · have hf := ifT hf c33
            clear c33
            refine lv_aload_n hx hb dX7_hidden_57 rfl (lv_at hl 0 rfl) ?_
            refine va_get (D := D) (ci := 7) (v := .ref q_t_hiddenWay) (C := RX7) (T := TX7) (N := 12) hx hb hts hinX7 hown hK.1 hP 0 rfl rfl 8 (by decide) hk47 (fun _ h9 => h9) rfl dX7_hidden_58 ?_
            refine va_get (D := D) (ci := 1) (v := .int u22) (C := RX1) (T := TX1) (N := 2) hx hb hts hinX1 hown hK.1 hP 17 rfl rfl 0 (by decide) hk258 (fun _ h9 => h9) rfl dX7_hidden_61 ?_
            have hg0 := Option.some.inj hf
            obtain ⟨ee0, hg1⟩ := Prod.mk.inj hg0
            obtain ⟨ee1, hg2⟩ := Prod.mk.inj hg1
            obtain ⟨ee2, hg3⟩ := Prod.mk.inj hg2
            obtain ⟨ee3, hg4⟩ := Prod.mk.inj hg3
            obtain ⟨ee4, hg5⟩ := Prod.mk.inj hg4
            obtain ⟨ee5, hg6⟩ := Prod.mk.inj hg5
            obtain ⟨ee6, hg7⟩ := Prod.mk.inj hg6
            obtain ⟨ee7, hg8⟩ := Prod.mk.inj hg7
            obtain ⟨ee8, hg9⟩ := Prod.mk.inj hg8
            obtain ⟨ee9, hg10⟩ := Prod.mk.inj hg9
            obtain ⟨ee10, hg11⟩ := Prod.mk.inj hg10
            obtain ⟨ee11, hg12⟩ := Prod.mk.inj hg11
            obtain ⟨ee12, hg13⟩ := Prod.mk.inj hg12
            obtain ⟨ee13, hg14⟩ := Prod.mk.inj hg13
            obtain ⟨ee14, hg15⟩ := Prod.mk.inj hg14
            clear hf hg0 hg1 hg2 hg3 hg4 hg5 hg6 hg7 hg8 hg9 hg10 hg11 hg12 hg13 hg14
            subst ee0
            subst ee1
            subst ee2
            subst ee3
            subst ee4
            subst ee5
            subst ee6
            subst ee7
            subst ee8
            subst ee9
            subst ee10
            subst ee11
            subst ee12
            subst ee13
            subst ee14
            subst hg15
            exact W.iret hx hb hr (fun t ht hW => ⟨⟨_, (), rfl, rfl, xend ht hP⟩, hS.F ht⟩) hS.2.2 dX7_hidden_64
        · have hf := ifF hf c34
          clear c34
          exact J21 _ _ ls ⟨hP, hD, hS, lv_sub hl [0] rfl⟩ hf
def fX7_find (v_t_now_places : Int32) (v_t_now_people : Int32) (v_t_now_hour : Int32) (v_t_now_chance : Int32) (v_t_now_seed : Int32) (v_t_now_ways : Nat → Int32) (v_t_now_distances : Nat → Int32) (v_t_now_kind : Nat → Int32) (v_t_now_a : Nat → Int32) (v_t_now_home : Nat → Int32) (v_t_now_aim : Nat → Int32) (v_t_now_at : Nat → Int32) (v_t_future_places : Int32) (v_t_future_people : Int32) (v_t_future_hour : Int32) (v_t_future_chance : Int32) (v_t_future_seed : Int32) (v_t_future_ways : Nat → Int32) (v_t_future_distances : Nat → Int32) (v_t_future_kind : Nat → Int32) (v_t_future_a : Nat → Int32) (v_t_future_home : Nat → Int32) (v_t_future_aim : Nat → Int32) (v_t_future_at : Nat → Int32) (v_t_refusals : Nat → Int32) (p0 : Int32) (p1 : Int32) (p2 : Int32) : Option (Int32 × Int32 × Int32 × Int32 × Int32 × Int32 × (Nat → Int32) × (Nat → Int32) × (Nat → Int32) × (Nat → Int32) × (Nat → Int32) × (Nat → Int32) × (Nat → Int32) × (Nat → Int32)) :=
  bo1 (fX7_isPerson v_t_now_people p0) fun r1 =>
  jo0 (
    bo2 (fX7_refuse v_t_refusals (-2 : Int32)) fun r4 u5 =>
    some (r4, v_t_future_places, v_t_future_people, v_t_future_hour, v_t_future_chance, v_t_future_seed, v_t_future_ways, v_t_future_distances, v_t_future_kind, v_t_future_a, v_t_future_home, v_t_future_aim, v_t_future_at, u5)) fun k3 =>
  if r1 = 0 then
    k3
  else
    bo1 (fX7_isAhead p1) fun r7 =>
    if r7 = 0 then
      k3
    else
      if p2 < 0 then
        k3
      else
        if p2 ≤ (1 : Int32) then
          bo12 (fX7_lookAhead v_t_now_places v_t_now_people v_t_now_hour v_t_now_chance v_t_now_seed v_t_now_ways v_t_now_distances v_t_now_kind v_t_now_a v_t_now_home v_t_now_aim v_t_now_at p1) fun u9 u10 u11 u12 u13 u14 u15 u16 u17 u18 u19 u20 =>
          bo1 (fX5_darkens u16 p0) fun r22 =>
          if r22 = 0 then
            some ((-1 : Int32), u9, u10, u11, u12, u13, u14, u15, u16, u17, u18, u19, u20, v_t_refusals)
          else
            bo1 (fX5_isJoined u10 u16 u20 p0) fun r24 =>
            if r24 = 0 then
              bo1 (fX5_tellersFor u10 u16 u20 p0) fun r26 =>
              if p2 = 0 then
                bo1 (fJ6_bitCount_0f7a4 r26) fun r28 =>
                some (r28, u9, u10, u11, u12, u13, u14, u15, u16, u17, u18, u19, u20, v_t_refusals)
              else
                some (r26, u9, u10, u11, u12, u13, u14, u15, u16, u17, u18, u19, u20, v_t_refusals)
            else
              some ((-1 : Int32), u9, u10, u11, u12, u13, u14, u15, u16, u17, u18, u19, u20, v_t_refusals)
        else
          k3
set_option maxHeartbeats 4000000 in
set_option maxRecDepth 100000 in
theorem mX7_find (l : Launch) (D : va_G) (cy : Nat → ClassId) (q_t q_t_now q_t_future q_t_draft q_t_kept q_t_shelves q_t_tape q_t_reader q_t_hiddenWay q_t_sights q_t_choice q_t_refusals q_t_now_ways q_t_now_distances q_t_now_kind q_t_now_a q_t_now_home q_t_now_aim q_t_now_at q_t_future_ways q_t_future_distances q_t_future_kind q_t_future_a q_t_future_home q_t_future_aim q_t_future_at : Nat) (v_t_isKept : Int32) (v_t_now_places : Int32) (v_t_now_people : Int32) (v_t_now_hour : Int32) (v_t_now_chance : Int32) (v_t_now_seed : Int32) (v_t_now_ways : Nat → Int32) (v_t_now_distances : Nat → Int32) (v_t_now_kind : Nat → Int32) (v_t_now_a : Nat → Int32) (v_t_now_home : Nat → Int32) (v_t_now_aim : Nat → Int32) (v_t_now_at : Nat → Int32) (v_t_future_places : Int32) (v_t_future_people : Int32) (v_t_future_hour : Int32) (v_t_future_chance : Int32) (v_t_future_seed : Int32) (v_t_future_ways : Nat → Int32) (v_t_future_distances : Nat → Int32) (v_t_future_kind : Nat → Int32) (v_t_future_a : Nat → Int32) (v_t_future_home : Nat → Int32) (v_t_future_aim : Nat → Int32) (v_t_future_at : Nat → Int32) (v_t_refusals : Nat → Int32) (sz : Nat) (p0 : Int32) (p1 : Int32) (p2 : Int32) {r_ : Int32} {n_t_future_places : Int32} {n_t_future_people : Int32} {n_t_future_hour : Int32} {n_t_future_chance : Int32} {n_t_future_seed : Int32} {n_t_future_ways : Nat → Int32} {n_t_future_distances : Nat → Int32} {n_t_future_kind : Nat → Int32} {n_t_future_a : Nat → Int32} {n_t_future_home : Nat → Int32} {n_t_future_aim : Nat → Int32} {n_t_future_at : Nat → Int32} {n_t_refusals : Nat → Int32} (hf : fX7_find v_t_now_places v_t_now_people v_t_now_hour v_t_now_chance v_t_now_seed v_t_now_ways v_t_now_distances v_t_now_kind v_t_now_a v_t_now_home v_t_now_aim v_t_now_at v_t_future_places v_t_future_people v_t_future_hour v_t_future_chance v_t_future_seed v_t_future_ways v_t_future_distances v_t_future_kind v_t_future_a v_t_future_home v_t_future_aim v_t_future_at v_t_refusals p0 p1 p2 = some (r_, n_t_future_places, n_t_future_people, n_t_future_hour, n_t_future_chance, n_t_future_seed, n_t_future_ways, n_t_future_distances, n_t_future_kind, n_t_future_a, n_t_future_home, n_t_future_aim, n_t_future_at, n_t_refusals)) : Met l yX7_find wsX7_find ({ frames := 6, cells := 0, slots := 0, locals := 136 }) (va_Pc [.ref q_t, .int p0, .int p1, .int p2] (fun U => U.heap.size = sz ∧ va_P D vwCl [(q_t, oX7 q_t_now q_t_future q_t_draft q_t_kept v_t_isKept q_t_shelves q_t_tape q_t_reader q_t_hiddenWay q_t_sights q_t_choice q_t_refusals), (q_t_now, oX5 v_t_now_places q_t_now_ways q_t_now_distances v_t_now_people q_t_now_kind q_t_now_a q_t_now_home q_t_now_aim q_t_now_at v_t_now_hour v_t_now_chance v_t_now_seed), (q_t_now_ways, .inl (cy 0, 12, .inl v_t_now_ways)), (q_t_now_distances, .inl (cy 0, 144, .inl v_t_now_distances)), (q_t_now_kind, .inl (cy 0, 8, .inl v_t_now_kind)), (q_t_now_a, .inl (cy 0, 8, .inl v_t_now_a)), (q_t_now_home, .inl (cy 0, 8, .inl v_t_now_home)), (q_t_now_aim, .inl (cy 0, 8, .inl v_t_now_aim)), (q_t_now_at, .inl (cy 0, 8, .inl v_t_now_at)), (q_t_future, oX5 v_t_future_places q_t_future_ways q_t_future_distances v_t_future_people q_t_future_kind q_t_future_a q_t_future_home q_t_future_aim q_t_future_at v_t_future_hour v_t_future_chance v_t_future_seed), (q_t_future_ways, .inl (cy 0, 12, .inl v_t_future_ways)), (q_t_future_distances, .inl (cy 0, 144, .inl v_t_future_distances)), (q_t_future_kind, .inl (cy 0, 8, .inl v_t_future_kind)), (q_t_future_a, .inl (cy 0, 8, .inl v_t_future_a)), (q_t_future_home, .inl (cy 0, 8, .inl v_t_future_home)), (q_t_future_aim, .inl (cy 0, 8, .inl v_t_future_aim)), (q_t_future_at, .inl (cy 0, 8, .inl v_t_future_at)), (q_t_refusals, .inl (cy 0, 5, .inl v_t_refusals))] U.heap ∧ xK D cy U ∧ va_D (fun _ => True) [(q_t, oX7 q_t_now q_t_future q_t_draft q_t_kept v_t_isKept q_t_shelves q_t_tape q_t_reader q_t_hiddenWay q_t_sights q_t_choice q_t_refusals), (q_t_now, oX5 v_t_now_places q_t_now_ways q_t_now_distances v_t_now_people q_t_now_kind q_t_now_a q_t_now_home q_t_now_aim q_t_now_at v_t_now_hour v_t_now_chance v_t_now_seed), (q_t_now_ways, .inl (cy 0, 12, .inl v_t_now_ways)), (q_t_now_distances, .inl (cy 0, 144, .inl v_t_now_distances)), (q_t_now_kind, .inl (cy 0, 8, .inl v_t_now_kind)), (q_t_now_a, .inl (cy 0, 8, .inl v_t_now_a)), (q_t_now_home, .inl (cy 0, 8, .inl v_t_now_home)), (q_t_now_aim, .inl (cy 0, 8, .inl v_t_now_aim)), (q_t_now_at, .inl (cy 0, 8, .inl v_t_now_at)), (q_t_future, oX5 v_t_future_places q_t_future_ways q_t_future_distances v_t_future_people q_t_future_kind q_t_future_a q_t_future_home q_t_future_aim q_t_future_at v_t_future_hour v_t_future_chance v_t_future_seed), (q_t_future_ways, .inl (cy 0, 12, .inl v_t_future_ways)), (q_t_future_distances, .inl (cy 0, 144, .inl v_t_future_distances)), (q_t_future_kind, .inl (cy 0, 8, .inl v_t_future_kind)), (q_t_future_a, .inl (cy 0, 8, .inl v_t_future_a)), (q_t_future_home, .inl (cy 0, 8, .inl v_t_future_home)), (q_t_future_aim, .inl (cy 0, 8, .inl v_t_future_aim)), (q_t_future_at, .inl (cy 0, 8, .inl v_t_future_at)), (q_t_refusals, .inl (cy 0, 5, .inl v_t_refusals))])) (va_Qi (fun (x : Int32) (_ : Unit) => x = r_) (fun _ t => va_P D vwCl [(q_t, oX7 q_t_now q_t_future q_t_draft q_t_kept v_t_isKept q_t_shelves q_t_tape q_t_reader q_t_hiddenWay q_t_sights q_t_choice q_t_refusals), (q_t_now, oX5 v_t_now_places q_t_now_ways q_t_now_distances v_t_now_people q_t_now_kind q_t_now_a q_t_now_home q_t_now_aim q_t_now_at v_t_now_hour v_t_now_chance v_t_now_seed), (q_t_now_ways, .inl (cy 0, 12, .inl v_t_now_ways)), (q_t_now_distances, .inl (cy 0, 144, .inl v_t_now_distances)), (q_t_now_kind, .inl (cy 0, 8, .inl v_t_now_kind)), (q_t_now_a, .inl (cy 0, 8, .inl v_t_now_a)), (q_t_now_home, .inl (cy 0, 8, .inl v_t_now_home)), (q_t_now_aim, .inl (cy 0, 8, .inl v_t_now_aim)), (q_t_now_at, .inl (cy 0, 8, .inl v_t_now_at)), (q_t_future, oX5 n_t_future_places q_t_future_ways q_t_future_distances n_t_future_people q_t_future_kind q_t_future_a q_t_future_home q_t_future_aim q_t_future_at n_t_future_hour n_t_future_chance n_t_future_seed), (q_t_future_ways, .inl (cy 0, 12, .inl n_t_future_ways)), (q_t_future_distances, .inl (cy 0, 144, .inl n_t_future_distances)), (q_t_future_kind, .inl (cy 0, 8, .inl n_t_future_kind)), (q_t_future_a, .inl (cy 0, 8, .inl n_t_future_a)), (q_t_future_home, .inl (cy 0, 8, .inl n_t_future_home)), (q_t_future_aim, .inl (cy 0, 8, .inl n_t_future_aim)), (q_t_future_at, .inl (cy 0, 8, .inl n_t_future_at)), (q_t_refusals, .inl (cy 0, 5, .inl n_t_refusals))] t.heap) (va_A [(q_t, oX7 q_t_now q_t_future q_t_draft q_t_kept v_t_isKept q_t_shelves q_t_tape q_t_reader q_t_hiddenWay q_t_sights q_t_choice q_t_refusals), (q_t_now, oX5 v_t_now_places q_t_now_ways q_t_now_distances v_t_now_people q_t_now_kind q_t_now_a q_t_now_home q_t_now_aim q_t_now_at v_t_now_hour v_t_now_chance v_t_now_seed), (q_t_now_ways, .inl (cy 0, 12, .inl v_t_now_ways)), (q_t_now_distances, .inl (cy 0, 144, .inl v_t_now_distances)), (q_t_now_kind, .inl (cy 0, 8, .inl v_t_now_kind)), (q_t_now_a, .inl (cy 0, 8, .inl v_t_now_a)), (q_t_now_home, .inl (cy 0, 8, .inl v_t_now_home)), (q_t_now_aim, .inl (cy 0, 8, .inl v_t_now_aim)), (q_t_now_at, .inl (cy 0, 8, .inl v_t_now_at)), (q_t_future, oX5 v_t_future_places q_t_future_ways q_t_future_distances v_t_future_people q_t_future_kind q_t_future_a q_t_future_home q_t_future_aim q_t_future_at v_t_future_hour v_t_future_chance v_t_future_seed), (q_t_future_ways, .inl (cy 0, 12, .inl v_t_future_ways)), (q_t_future_distances, .inl (cy 0, 144, .inl v_t_future_distances)), (q_t_future_kind, .inl (cy 0, 8, .inl v_t_future_kind)), (q_t_future_a, .inl (cy 0, 8, .inl v_t_future_a)), (q_t_future_home, .inl (cy 0, 8, .inl v_t_future_home)), (q_t_future_aim, .inl (cy 0, 8, .inl v_t_future_aim)), (q_t_future_at, .inl (cy 0, 8, .inl v_t_future_at)), (q_t_refusals, .inl (cy 0, 5, .inl v_t_refusals))] sz)) 0 0 (va_A [(q_t, oX7 q_t_now q_t_future q_t_draft q_t_kept v_t_isKept q_t_shelves q_t_tape q_t_reader q_t_hiddenWay q_t_sights q_t_choice q_t_refusals), (q_t_now, oX5 v_t_now_places q_t_now_ways q_t_now_distances v_t_now_people q_t_now_kind q_t_now_a q_t_now_home q_t_now_aim q_t_now_at v_t_now_hour v_t_now_chance v_t_now_seed), (q_t_now_ways, .inl (cy 0, 12, .inl v_t_now_ways)), (q_t_now_distances, .inl (cy 0, 144, .inl v_t_now_distances)), (q_t_now_kind, .inl (cy 0, 8, .inl v_t_now_kind)), (q_t_now_a, .inl (cy 0, 8, .inl v_t_now_a)), (q_t_now_home, .inl (cy 0, 8, .inl v_t_now_home)), (q_t_now_aim, .inl (cy 0, 8, .inl v_t_now_aim)), (q_t_now_at, .inl (cy 0, 8, .inl v_t_now_at)), (q_t_future, oX5 v_t_future_places q_t_future_ways q_t_future_distances v_t_future_people q_t_future_kind q_t_future_a q_t_future_home q_t_future_aim q_t_future_at v_t_future_hour v_t_future_chance v_t_future_seed), (q_t_future_ways, .inl (cy 0, 12, .inl v_t_future_ways)), (q_t_future_distances, .inl (cy 0, 144, .inl v_t_future_distances)), (q_t_future_kind, .inl (cy 0, 8, .inl v_t_future_kind)), (q_t_future_a, .inl (cy 0, 8, .inl v_t_future_a)), (q_t_future_home, .inl (cy 0, 8, .inl v_t_future_home)), (q_t_future_aim, .inl (cy 0, 8, .inl v_t_future_aim)), (q_t_future_at, .inl (cy 0, 8, .inl v_t_future_at)), (q_t_refusals, .inl (cy 0, 5, .inl v_t_refusals))] sz) := by
  refine Met.ofW (cc := cX7_find) (maxL := 5) (ret := (some .int)) (by decide) rfl ?_
  intro p e s m args below meth c s₁ B hml hv
  obtain ⟨rfl, hsz, hP, hK, hD0⟩ := hv
  have hx := B.exec
  have hb := B.bytes
  have hr := B.returns
  have hts := atoms_spec (ws := wsX7_find) B.pre
  have hown : s.vm.findClass RX7 = some m.cls := findClass_of_methodNamed B.named
  have hlocks := B.notSynchronized
  subst hsz
  have hD := hD0.self (sz := s.heap.size)
  generalize hAe : va_A [(q_t, oX7 q_t_now q_t_future q_t_draft q_t_kept v_t_isKept q_t_shelves q_t_tape q_t_reader q_t_hiddenWay q_t_sights q_t_choice q_t_refusals), (q_t_now, oX5 v_t_now_places q_t_now_ways q_t_now_distances v_t_now_people q_t_now_kind q_t_now_a q_t_now_home q_t_now_aim q_t_now_at v_t_now_hour v_t_now_chance v_t_now_seed), (q_t_now_ways, .inl (cy 0, 12, .inl v_t_now_ways)), (q_t_now_distances, .inl (cy 0, 144, .inl v_t_now_distances)), (q_t_now_kind, .inl (cy 0, 8, .inl v_t_now_kind)), (q_t_now_a, .inl (cy 0, 8, .inl v_t_now_a)), (q_t_now_home, .inl (cy 0, 8, .inl v_t_now_home)), (q_t_now_aim, .inl (cy 0, 8, .inl v_t_now_aim)), (q_t_now_at, .inl (cy 0, 8, .inl v_t_now_at)), (q_t_future, oX5 v_t_future_places q_t_future_ways q_t_future_distances v_t_future_people q_t_future_kind q_t_future_a q_t_future_home q_t_future_aim q_t_future_at v_t_future_hour v_t_future_chance v_t_future_seed), (q_t_future_ways, .inl (cy 0, 12, .inl v_t_future_ways)), (q_t_future_distances, .inl (cy 0, 144, .inl v_t_future_distances)), (q_t_future_kind, .inl (cy 0, 8, .inl v_t_future_kind)), (q_t_future_a, .inl (cy 0, 8, .inl v_t_future_a)), (q_t_future_home, .inl (cy 0, 8, .inl v_t_future_home)), (q_t_future_aim, .inl (cy 0, 8, .inl v_t_future_aim)), (q_t_future_at, .inl (cy 0, 8, .inl v_t_future_at)), (q_t_refusals, .inl (cy 0, 5, .inl v_t_refusals))] s.heap.size = A at hD ⊢
  have hA : ∀ q : Nat, s.heap.size ≤ q → A q := fun q h => by rw [← hAe]; exact Or.inr h
  have hS : va_S A s.heap s.heap [] := va_S.rf
  have hP : va_P D vwCl [(q_t, oX7 q_t_now q_t_future q_t_draft q_t_kept v_t_isKept q_t_shelves q_t_tape q_t_reader q_t_hiddenWay q_t_sights q_t_choice q_t_refusals), (q_t_now, oX5 v_t_now_places q_t_now_ways q_t_now_distances v_t_now_people q_t_now_kind q_t_now_a q_t_now_home q_t_now_aim q_t_now_at v_t_now_hour v_t_now_chance v_t_now_seed), (q_t_now_ways, .inl (cy 0, 12, .inl v_t_now_ways)), (q_t_now_distances, .inl (cy 0, 144, .inl v_t_now_distances)), (q_t_now_kind, .inl (cy 0, 8, .inl v_t_now_kind)), (q_t_now_a, .inl (cy 0, 8, .inl v_t_now_a)), (q_t_now_home, .inl (cy 0, 8, .inl v_t_now_home)), (q_t_now_aim, .inl (cy 0, 8, .inl v_t_now_aim)), (q_t_now_at, .inl (cy 0, 8, .inl v_t_now_at)), (q_t_future, oX5 v_t_future_places q_t_future_ways q_t_future_distances v_t_future_people q_t_future_kind q_t_future_a q_t_future_home q_t_future_aim q_t_future_at v_t_future_hour v_t_future_chance v_t_future_seed), (q_t_future_ways, .inl (cy 0, 12, .inl v_t_future_ways)), (q_t_future_distances, .inl (cy 0, 144, .inl v_t_future_distances)), (q_t_future_kind, .inl (cy 0, 8, .inl v_t_future_kind)), (q_t_future_a, .inl (cy 0, 8, .inl v_t_future_a)), (q_t_future_home, .inl (cy 0, 8, .inl v_t_future_home)), (q_t_future_aim, .inl (cy 0, 8, .inl v_t_future_aim)), (q_t_future_at, .inl (cy 0, 8, .inl v_t_future_at)), (q_t_refusals, .inl (cy 0, 5, .inl v_t_refusals))] s.heap := hP
  have hinX7 : ∀ w ∈ u_ws RX7 TX7 12, w ∈ wsX7_find := by decide +kernel
  have hk16 := hts (.fieldLink RX7 16 "ShowsWhereNobodyIs" "future" "LShowsWhereNobodyIs$Town;") (by decide +kernel)
  have hl := lv_entry ([.ref q_t, .int p0, .int p1, .int p2]) (n := 5) (Nat.le_of_ble_eq_true rfl)
  rw [lg_entry_eq]
  generalize (lg_sl ([.ref q_t, .int p0, .int p1, .int p2]) ++ List.replicate (5 - (lg_sl ([.ref q_t, .int p0, .int p1, .int p2])).length) Slot.unset).toArray = ls at hl ⊢
  have hl : lv_has ls 5 [(0, .ref q_t), (1, .int p0), (2, .int p1), (3, .int p2)] := hl
  unfold fX7_find at hf
  refine lv_aload_n hx hb dX7_find_0 rfl (lv_at hl 0 rfl) ?_
  refine lv_iload_n hx hb dX7_find_1 rfl (lv_at hl 1 rfl) ?_
  obtain ⟨r1, hr2, hf⟩ := boE1 hf
  have hPc := hP.sub (ws' := [(q_t, oX7 q_t_now q_t_future q_t_draft q_t_kept v_t_isKept q_t_shelves q_t_tape q_t_reader q_t_hiddenWay q_t_sights q_t_choice q_t_refusals), (q_t_now, oX5 v_t_now_places q_t_now_ways q_t_now_distances v_t_now_people q_t_now_kind q_t_now_a q_t_now_home q_t_now_aim q_t_now_at v_t_now_hour v_t_now_chance v_t_now_seed)]) [0, 1] rfl
  refine xcSi (va_runV (As := [.int p0]) (rest := []) ⟨hx, hb, hml, hown, hts⟩ (mX7_isPerson l D cy q_t q_t_now q_t_future q_t_draft q_t_kept q_t_shelves q_t_tape q_t_reader q_t_hiddenWay q_t_sights q_t_choice q_t_refusals q_t_now_ways q_t_now_distances q_t_now_kind q_t_now_a q_t_now_home q_t_now_aim q_t_now_at v_t_isKept v_t_now_places v_t_now_people v_t_now_hour v_t_now_chance v_t_now_seed  p0 hr2) (cwV 1 hts gX7_find_X7_isPerson rfl rfl rfl (by decide +kernel) ⟨Nat.le_of_ble_eq_true rfl, Nat.le_of_ble_eq_true rfl⟩) (xPV hK hPc (ci := 7) (q0 := 0) rfl rfl) rfl rfl hl.1 rfl (lv_room (Nat.le_of_ble_eq_true rfl)) dX7_find_2 ⟨Nat.le_of_ble_eq_true rfl, Nat.le_of_ble_eq_true rfl⟩) ?_
  refine jww0 24 [] (fun  H locs ls => va_P D vwCl [(q_t, oX7 q_t_now q_t_future q_t_draft q_t_kept v_t_isKept q_t_shelves q_t_tape q_t_reader q_t_hiddenWay q_t_sights q_t_choice q_t_refusals), (q_t_now, oX5 v_t_now_places q_t_now_ways q_t_now_distances v_t_now_people q_t_now_kind q_t_now_a q_t_now_home q_t_now_aim q_t_now_at v_t_now_hour v_t_now_chance v_t_now_seed), (q_t_now_ways, .inl (cy 0, 12, .inl v_t_now_ways)), (q_t_now_distances, .inl (cy 0, 144, .inl v_t_now_distances)), (q_t_now_kind, .inl (cy 0, 8, .inl v_t_now_kind)), (q_t_now_a, .inl (cy 0, 8, .inl v_t_now_a)), (q_t_now_home, .inl (cy 0, 8, .inl v_t_now_home)), (q_t_now_aim, .inl (cy 0, 8, .inl v_t_now_aim)), (q_t_now_at, .inl (cy 0, 8, .inl v_t_now_at)), (q_t_future, oX5 v_t_future_places q_t_future_ways q_t_future_distances v_t_future_people q_t_future_kind q_t_future_a q_t_future_home q_t_future_aim q_t_future_at v_t_future_hour v_t_future_chance v_t_future_seed), (q_t_future_ways, .inl (cy 0, 12, .inl v_t_future_ways)), (q_t_future_distances, .inl (cy 0, 144, .inl v_t_future_distances)), (q_t_future_kind, .inl (cy 0, 8, .inl v_t_future_kind)), (q_t_future_a, .inl (cy 0, 8, .inl v_t_future_a)), (q_t_future_home, .inl (cy 0, 8, .inl v_t_future_home)), (q_t_future_aim, .inl (cy 0, 8, .inl v_t_future_aim)), (q_t_future_at, .inl (cy 0, 8, .inl v_t_future_at)), (q_t_refusals, .inl (cy 0, 5, .inl v_t_refusals))] H ∧ va_D A [(q_t, oX7 q_t_now q_t_future q_t_draft q_t_kept v_t_isKept q_t_shelves q_t_tape q_t_reader q_t_hiddenWay q_t_sights q_t_choice q_t_refusals), (q_t_now, oX5 v_t_now_places q_t_now_ways q_t_now_distances v_t_now_people q_t_now_kind q_t_now_a q_t_now_home q_t_now_aim q_t_now_at v_t_now_hour v_t_now_chance v_t_now_seed), (q_t_now_ways, .inl (cy 0, 12, .inl v_t_now_ways)), (q_t_now_distances, .inl (cy 0, 144, .inl v_t_now_distances)), (q_t_now_kind, .inl (cy 0, 8, .inl v_t_now_kind)), (q_t_now_a, .inl (cy 0, 8, .inl v_t_now_a)), (q_t_now_home, .inl (cy 0, 8, .inl v_t_now_home)), (q_t_now_aim, .inl (cy 0, 8, .inl v_t_now_aim)), (q_t_now_at, .inl (cy 0, 8, .inl v_t_now_at)), (q_t_future, oX5 v_t_future_places q_t_future_ways q_t_future_distances v_t_future_people q_t_future_kind q_t_future_a q_t_future_home q_t_future_aim q_t_future_at v_t_future_hour v_t_future_chance v_t_future_seed), (q_t_future_ways, .inl (cy 0, 12, .inl v_t_future_ways)), (q_t_future_distances, .inl (cy 0, 144, .inl v_t_future_distances)), (q_t_future_kind, .inl (cy 0, 8, .inl v_t_future_kind)), (q_t_future_a, .inl (cy 0, 8, .inl v_t_future_a)), (q_t_future_home, .inl (cy 0, 8, .inl v_t_future_home)), (q_t_future_aim, .inl (cy 0, 8, .inl v_t_future_aim)), (q_t_future_at, .inl (cy 0, 8, .inl v_t_future_at)), (q_t_refusals, .inl (cy 0, 5, .inl v_t_refusals))] ∧ va_S A s.heap H locs ∧ lv_has ls 5 [(0, .ref q_t)]) hf (fun  H locs ls hI hf => ?_) (fun k3 J24 hf => ?_)
  · obtain ⟨hP, hD, hS, hl⟩ := hI
    refine lv_aload_n hx hb dX7_find_24 rfl (lv_at hl 0 rfl) ?_
    refine lv_bipush (v := (-2)) hx hb dX7_find_25 (by decide) ?_
    obtain ⟨r4, u5, hr6, hf⟩ := boE2 hf
    have hPc := hP.sub (ws' := [(q_t, oX7 q_t_now q_t_future q_t_draft q_t_kept v_t_isKept q_t_shelves q_t_tape q_t_reader q_t_hiddenWay q_t_sights q_t_choice q_t_refusals), (q_t_refusals, .inl (cy 0, 5, .inl v_t_refusals))]) [0, 17] rfl
    have hDc := hD.sub (ws' := [(q_t, oX7 q_t_now q_t_future q_t_draft q_t_kept v_t_isKept q_t_shelves q_t_tape q_t_reader q_t_hiddenWay q_t_sights q_t_choice q_t_refusals), (q_t_refusals, .inl (cy 0, 5, .inl v_t_refusals))]) [0, 17] (by decide) rfl
    refine xcQi (w1 := [(q_t, oX7 q_t_now q_t_future q_t_draft q_t_kept v_t_isKept q_t_shelves q_t_tape q_t_reader q_t_hiddenWay q_t_sights q_t_choice q_t_refusals), (q_t_refusals, .inl (cy 0, 5, .inl u5))]) (va_runV (As := [.int (-2 : Int32)]) (rest := []) ⟨hx, hb, hml, hown, hts⟩ (mX7_refuse l D cy q_t q_t_now q_t_future q_t_draft q_t_kept q_t_shelves q_t_tape q_t_reader q_t_hiddenWay q_t_sights q_t_choice q_t_refusals v_t_isKept v_t_refusals _ (-2 : Int32) hr6) (cwV 1 hts gX7_find_X7_refuse rfl rfl rfl (by decide +kernel) ⟨Nat.le_of_ble_eq_true rfl, Nat.le_of_ble_eq_true rfl⟩) (xPVw hK hPc hDc (ci := 7) (q0 := 0) rfl rfl) rfl rfl hl.1 rfl (lv_room (Nat.le_of_ble_eq_true rfl)) dX7_find_27 ⟨Nat.le_of_ble_eq_true rfl, Nat.le_of_ble_eq_true rfl⟩) hP hD hS hA [0, 17] rfl rfl (fun H locs hP hD hS => ?_)
    have hP : va_P D vwCl [(q_t, oX7 q_t_now q_t_future q_t_draft q_t_kept v_t_isKept q_t_shelves q_t_tape q_t_reader q_t_hiddenWay q_t_sights q_t_choice q_t_refusals), (q_t_now, oX5 v_t_now_places q_t_now_ways q_t_now_distances v_t_now_people q_t_now_kind q_t_now_a q_t_now_home q_t_now_aim q_t_now_at v_t_now_hour v_t_now_chance v_t_now_seed), (q_t_now_ways, .inl (cy 0, 12, .inl v_t_now_ways)), (q_t_now_distances, .inl (cy 0, 144, .inl v_t_now_distances)), (q_t_now_kind, .inl (cy 0, 8, .inl v_t_now_kind)), (q_t_now_a, .inl (cy 0, 8, .inl v_t_now_a)), (q_t_now_home, .inl (cy 0, 8, .inl v_t_now_home)), (q_t_now_aim, .inl (cy 0, 8, .inl v_t_now_aim)), (q_t_now_at, .inl (cy 0, 8, .inl v_t_now_at)), (q_t_future, oX5 v_t_future_places q_t_future_ways q_t_future_distances v_t_future_people q_t_future_kind q_t_future_a q_t_future_home q_t_future_aim q_t_future_at v_t_future_hour v_t_future_chance v_t_future_seed), (q_t_future_ways, .inl (cy 0, 12, .inl v_t_future_ways)), (q_t_future_distances, .inl (cy 0, 144, .inl v_t_future_distances)), (q_t_future_kind, .inl (cy 0, 8, .inl v_t_future_kind)), (q_t_future_a, .inl (cy 0, 8, .inl v_t_future_a)), (q_t_future_home, .inl (cy 0, 8, .inl v_t_future_home)), (q_t_future_aim, .inl (cy 0, 8, .inl v_t_future_aim)), (q_t_future_at, .inl (cy 0, 8, .inl v_t_future_at)), (q_t_refusals, .inl (cy 0, 5, .inl u5))] H := hP
    have hD : va_D A [(q_t, oX7 q_t_now q_t_future q_t_draft q_t_kept v_t_isKept q_t_shelves q_t_tape q_t_reader q_t_hiddenWay q_t_sights q_t_choice q_t_refusals), (q_t_now, oX5 v_t_now_places q_t_now_ways q_t_now_distances v_t_now_people q_t_now_kind q_t_now_a q_t_now_home q_t_now_aim q_t_now_at v_t_now_hour v_t_now_chance v_t_now_seed), (q_t_now_ways, .inl (cy 0, 12, .inl v_t_now_ways)), (q_t_now_distances, .inl (cy 0, 144, .inl v_t_now_distances)), (q_t_now_kind, .inl (cy 0, 8, .inl v_t_now_kind)), (q_t_now_a, .inl (cy 0, 8, .inl v_t_now_a)), (q_t_now_home, .inl (cy 0, 8, .inl v_t_now_home)), (q_t_now_aim, .inl (cy 0, 8, .inl v_t_now_aim)), (q_t_now_at, .inl (cy 0, 8, .inl v_t_now_at)), (q_t_future, oX5 v_t_future_places q_t_future_ways q_t_future_distances v_t_future_people q_t_future_kind q_t_future_a q_t_future_home q_t_future_aim q_t_future_at v_t_future_hour v_t_future_chance v_t_future_seed), (q_t_future_ways, .inl (cy 0, 12, .inl v_t_future_ways)), (q_t_future_distances, .inl (cy 0, 144, .inl v_t_future_distances)), (q_t_future_kind, .inl (cy 0, 8, .inl v_t_future_kind)), (q_t_future_a, .inl (cy 0, 8, .inl v_t_future_a)), (q_t_future_home, .inl (cy 0, 8, .inl v_t_future_home)), (q_t_future_aim, .inl (cy 0, 8, .inl v_t_future_aim)), (q_t_future_at, .inl (cy 0, 8, .inl v_t_future_at)), (q_t_refusals, .inl (cy 0, 5, .inl u5))] := hD
    have hg0 := Option.some.inj hf
    obtain ⟨ee0, hg1⟩ := Prod.mk.inj hg0
    obtain ⟨ee1, hg2⟩ := Prod.mk.inj hg1
    obtain ⟨ee2, hg3⟩ := Prod.mk.inj hg2
    obtain ⟨ee3, hg4⟩ := Prod.mk.inj hg3
    obtain ⟨ee4, hg5⟩ := Prod.mk.inj hg4
    obtain ⟨ee5, hg6⟩ := Prod.mk.inj hg5
    obtain ⟨ee6, hg7⟩ := Prod.mk.inj hg6
    obtain ⟨ee7, hg8⟩ := Prod.mk.inj hg7
    obtain ⟨ee8, hg9⟩ := Prod.mk.inj hg8
    obtain ⟨ee9, hg10⟩ := Prod.mk.inj hg9
    obtain ⟨ee10, hg11⟩ := Prod.mk.inj hg10
    obtain ⟨ee11, hg12⟩ := Prod.mk.inj hg11
    obtain ⟨ee12, hg13⟩ := Prod.mk.inj hg12
    clear hf hg0 hg1 hg2 hg3 hg4 hg5 hg6 hg7 hg8 hg9 hg10 hg11 hg12
    subst ee0
    subst ee1
    subst ee2
    subst ee3
    subst ee4
    subst ee5
    subst ee6
    subst ee7
    subst ee8
    subst ee9
    subst ee10
    subst ee11
    subst ee12
    subst hg13
    exact W.iret hx hb hr (fun t ht hW => ⟨⟨_, (), rfl, rfl, xend ht hP⟩, hS.F ht⟩) hS.2.2 dX7_find_30
  · refine lv_if_eq (tgt := 24) hx hb dX7_find_5 (by decide) (fun c36 => ?_) (fun c36 => ?_)
    · have hf := ifT hf c36
      clear c36
      exact J24 _ _ ls ⟨hP, hD, hS, lv_sub hl [0] rfl⟩ hf
    · have hf := ifF hf c36
      clear c36
      refine lv_iload_n hx hb dX7_find_8 rfl (lv_at hl 2 rfl) ?_
      obtain ⟨r7, hr8, hf⟩ := boE1 hf
      have hPc := hP.sub (ws' := []) [] rfl
      refine xcSi (va_runS (As := [.int p1]) (rest := []) ⟨hx, hb, hml, hown, hts⟩ (mX7_isAhead l D cy    p1 hr8) (va_cwS 1 hts gX7_find_X7_isAhead rfl rfl rfl (by decide +kernel) ⟨Nat.le_of_ble_eq_true rfl, Nat.le_of_ble_eq_true rfl⟩) (xPS hK hPc) rfl rfl hl.1 rfl (lv_room (Nat.le_of_ble_eq_true rfl)) dX7_find_9 ⟨Nat.le_of_ble_eq_true rfl, Nat.le_of_ble_eq_true rfl⟩) ?_
      refine lv_if_eq (tgt := 24) hx hb dX7_find_12 (by decide) (fun c35 => ?_) (fun c35 => ?_)
      · have hf := ifT hf c35
        clear c35
        exact J24 _ _ ls ⟨hP, hD, hS, lv_sub hl [0] rfl⟩ hf
      · have hf := ifF hf c35
        clear c35
        refine lv_iload_n hx hb dX7_find_15 rfl (lv_at hl 3 rfl) ?_
        refine lv_if_lt (tgt := 24) hx hb dX7_find_16 (by decide) (fun c34 => ?_) (fun c34 => ?_)
        · have hf := ifT hf c34
          clear c34
          exact J24 _ _ ls ⟨hP, hD, hS, lv_sub hl [0] rfl⟩ hf
        · have hf := ifF hf c34
          clear c34
          refine lv_iload_n hx hb dX7_find_19 rfl (lv_at hl 3 rfl) ?_
          refine lv_iconst (v := 1) hx hb dX7_find_20 (by decide) ?_
          refine lv_icmp_le (tgt := 31) hx hb dX7_find_21 (by decide) (fun c33 => ?_) (fun c33 => ?_)
          · have hf := ifT hf c33
            clear c33
            refine lv_aload_n hx hb dX7_find_31 rfl (lv_at hl 0 rfl) ?_
            refine lv_iload_n hx hb dX7_find_32 rfl (lv_at hl 2 rfl) ?_
            obtain ⟨u9, u10, u11, u12, u13, u14, u15, u16, u17, u18, u19, u20, hr21, hf⟩ := boE12 hf
            have hPc := hP.sub (ws' := [(q_t, oX7 q_t_now q_t_future q_t_draft q_t_kept v_t_isKept q_t_shelves q_t_tape q_t_reader q_t_hiddenWay q_t_sights q_t_choice q_t_refusals), (q_t_now, oX5 v_t_now_places q_t_now_ways q_t_now_distances v_t_now_people q_t_now_kind q_t_now_a q_t_now_home q_t_now_aim q_t_now_at v_t_now_hour v_t_now_chance v_t_now_seed), (q_t_now_ways, .inl (cy 0, 12, .inl v_t_now_ways)), (q_t_now_distances, .inl (cy 0, 144, .inl v_t_now_distances)), (q_t_now_kind, .inl (cy 0, 8, .inl v_t_now_kind)), (q_t_now_a, .inl (cy 0, 8, .inl v_t_now_a)), (q_t_now_home, .inl (cy 0, 8, .inl v_t_now_home)), (q_t_now_aim, .inl (cy 0, 8, .inl v_t_now_aim)), (q_t_now_at, .inl (cy 0, 8, .inl v_t_now_at)), (q_t_future, oX5 v_t_future_places q_t_future_ways q_t_future_distances v_t_future_people q_t_future_kind q_t_future_a q_t_future_home q_t_future_aim q_t_future_at v_t_future_hour v_t_future_chance v_t_future_seed), (q_t_future_ways, .inl (cy 0, 12, .inl v_t_future_ways)), (q_t_future_distances, .inl (cy 0, 144, .inl v_t_future_distances)), (q_t_future_kind, .inl (cy 0, 8, .inl v_t_future_kind)), (q_t_future_a, .inl (cy 0, 8, .inl v_t_future_a)), (q_t_future_home, .inl (cy 0, 8, .inl v_t_future_home)), (q_t_future_aim, .inl (cy 0, 8, .inl v_t_future_aim)), (q_t_future_at, .inl (cy 0, 8, .inl v_t_future_at))]) [0, 1, 2, 3, 4, 5, 6, 7, 8, 9, 10, 11, 12, 13, 14, 15, 16] rfl
            have hDc := hD.sub (ws' := [(q_t, oX7 q_t_now q_t_future q_t_draft q_t_kept v_t_isKept q_t_shelves q_t_tape q_t_reader q_t_hiddenWay q_t_sights q_t_choice q_t_refusals), (q_t_now, oX5 v_t_now_places q_t_now_ways q_t_now_distances v_t_now_people q_t_now_kind q_t_now_a q_t_now_home q_t_now_aim q_t_now_at v_t_now_hour v_t_now_chance v_t_now_seed), (q_t_now_ways, .inl (cy 0, 12, .inl v_t_now_ways)), (q_t_now_distances, .inl (cy 0, 144, .inl v_t_now_distances)), (q_t_now_kind, .inl (cy 0, 8, .inl v_t_now_kind)), (q_t_now_a, .inl (cy 0, 8, .inl v_t_now_a)), (q_t_now_home, .inl (cy 0, 8, .inl v_t_now_home)), (q_t_now_aim, .inl (cy 0, 8, .inl v_t_now_aim)), (q_t_now_at, .inl (cy 0, 8, .inl v_t_now_at)), (q_t_future, oX5 v_t_future_places q_t_future_ways q_t_future_distances v_t_future_people q_t_future_kind q_t_future_a q_t_future_home q_t_future_aim q_t_future_at v_t_future_hour v_t_future_chance v_t_future_seed), (q_t_future_ways, .inl (cy 0, 12, .inl v_t_future_ways)), (q_t_future_distances, .inl (cy 0, 144, .inl v_t_future_distances)), (q_t_future_kind, .inl (cy 0, 8, .inl v_t_future_kind)), (q_t_future_a, .inl (cy 0, 8, .inl v_t_future_a)), (q_t_future_home, .inl (cy 0, 8, .inl v_t_future_home)), (q_t_future_aim, .inl (cy 0, 8, .inl v_t_future_aim)), (q_t_future_at, .inl (cy 0, 8, .inl v_t_future_at))]) [0, 1, 2, 3, 4, 5, 6, 7, 8, 9, 10, 11, 12, 13, 14, 15, 16] (by decide) rfl
            refine xcQv (w1 := [(q_t, oX7 q_t_now q_t_future q_t_draft q_t_kept v_t_isKept q_t_shelves q_t_tape q_t_reader q_t_hiddenWay q_t_sights q_t_choice q_t_refusals), (q_t_now, oX5 v_t_now_places q_t_now_ways q_t_now_distances v_t_now_people q_t_now_kind q_t_now_a q_t_now_home q_t_now_aim q_t_now_at v_t_now_hour v_t_now_chance v_t_now_seed), (q_t_now_ways, .inl (cy 0, 12, .inl v_t_now_ways)), (q_t_now_distances, .inl (cy 0, 144, .inl v_t_now_distances)), (q_t_now_kind, .inl (cy 0, 8, .inl v_t_now_kind)), (q_t_now_a, .inl (cy 0, 8, .inl v_t_now_a)), (q_t_now_home, .inl (cy 0, 8, .inl v_t_now_home)), (q_t_now_aim, .inl (cy 0, 8, .inl v_t_now_aim)), (q_t_now_at, .inl (cy 0, 8, .inl v_t_now_at)), (q_t_future, oX5 u9 q_t_future_ways q_t_future_distances u10 q_t_future_kind q_t_future_a q_t_future_home q_t_future_aim q_t_future_at u11 u12 u13), (q_t_future_ways, .inl (cy 0, 12, .inl u14)), (q_t_future_distances, .inl (cy 0, 144, .inl u15)), (q_t_future_kind, .inl (cy 0, 8, .inl u16)), (q_t_future_a, .inl (cy 0, 8, .inl u17)), (q_t_future_home, .inl (cy 0, 8, .inl u18)), (q_t_future_aim, .inl (cy 0, 8, .inl u19)), (q_t_future_at, .inl (cy 0, 8, .inl u20))]) (va_runV (As := [.int p1]) (rest := []) ⟨hx, hb, hml, hown, hts⟩ (mX7_lookAhead l D cy q_t q_t_now q_t_future q_t_draft q_t_kept q_t_shelves q_t_tape q_t_reader q_t_hiddenWay q_t_sights q_t_choice q_t_refusals q_t_now_ways q_t_now_distances q_t_now_kind q_t_now_a q_t_now_home q_t_now_aim q_t_now_at q_t_future_ways q_t_future_distances q_t_future_kind q_t_future_a q_t_future_home q_t_future_aim q_t_future_at v_t_isKept v_t_now_places v_t_now_people v_t_now_hour v_t_now_chance v_t_now_seed v_t_now_ways v_t_now_distances v_t_now_kind v_t_now_a v_t_now_home v_t_now_aim v_t_now_at v_t_future_places v_t_future_people v_t_future_hour v_t_future_chance v_t_future_seed v_t_future_ways v_t_future_distances v_t_future_kind v_t_future_a v_t_future_home v_t_future_aim v_t_future_at _ p1 hr21) (cwV 1 hts gX7_find_X7_lookAhead rfl rfl rfl (by decide +kernel) ⟨Nat.le_of_ble_eq_true rfl, Nat.le_of_ble_eq_true rfl⟩) (xPVw hK hPc hDc (ci := 7) (q0 := 0) rfl rfl) rfl rfl hl.1 rfl (lv_room (Nat.le_of_ble_eq_true rfl)) dX7_find_33 ⟨Nat.le_of_ble_eq_true rfl, Nat.le_of_ble_eq_true rfl⟩) hP hD hS hA [0, 1, 2, 3, 4, 5, 6, 7, 8, 9, 10, 11, 12, 13, 14, 15, 16] rfl rfl (fun H locs hP hD hS => ?_)
            have hP : va_P D vwCl [(q_t, oX7 q_t_now q_t_future q_t_draft q_t_kept v_t_isKept q_t_shelves q_t_tape q_t_reader q_t_hiddenWay q_t_sights q_t_choice q_t_refusals), (q_t_now, oX5 v_t_now_places q_t_now_ways q_t_now_distances v_t_now_people q_t_now_kind q_t_now_a q_t_now_home q_t_now_aim q_t_now_at v_t_now_hour v_t_now_chance v_t_now_seed), (q_t_now_ways, .inl (cy 0, 12, .inl v_t_now_ways)), (q_t_now_distances, .inl (cy 0, 144, .inl v_t_now_distances)), (q_t_now_kind, .inl (cy 0, 8, .inl v_t_now_kind)), (q_t_now_a, .inl (cy 0, 8, .inl v_t_now_a)), (q_t_now_home, .inl (cy 0, 8, .inl v_t_now_home)), (q_t_now_aim, .inl (cy 0, 8, .inl v_t_now_aim)), (q_t_now_at, .inl (cy 0, 8, .inl v_t_now_at)), (q_t_future, oX5 u9 q_t_future_ways q_t_future_distances u10 q_t_future_kind q_t_future_a q_t_future_home q_t_future_aim q_t_future_at u11 u12 u13), (q_t_future_ways, .inl (cy 0, 12, .inl u14)), (q_t_future_distances, .inl (cy 0, 144, .inl u15)), (q_t_future_kind, .inl (cy 0, 8, .inl u16)), (q_t_future_a, .inl (cy 0, 8, .inl u17)), (q_t_future_home, .inl (cy 0, 8, .inl u18)), (q_t_future_aim, .inl (cy 0, 8, .inl u19)), (q_t_future_at, .inl (cy 0, 8, .inl u20)), (q_t_refusals, .inl (cy 0, 5, .inl v_t_refusals))] H := hP
            have hD : va_D A [(q_t, oX7 q_t_now q_t_future q_t_draft q_t_kept v_t_isKept q_t_shelves q_t_tape q_t_reader q_t_hiddenWay q_t_sights q_t_choice q_t_refusals), (q_t_now, oX5 v_t_now_places q_t_now_ways q_t_now_distances v_t_now_people q_t_now_kind q_t_now_a q_t_now_home q_t_now_aim q_t_now_at v_t_now_hour v_t_now_chance v_t_now_seed), (q_t_now_ways, .inl (cy 0, 12, .inl v_t_now_ways)), (q_t_now_distances, .inl (cy 0, 144, .inl v_t_now_distances)), (q_t_now_kind, .inl (cy 0, 8, .inl v_t_now_kind)), (q_t_now_a, .inl (cy 0, 8, .inl v_t_now_a)), (q_t_now_home, .inl (cy 0, 8, .inl v_t_now_home)), (q_t_now_aim, .inl (cy 0, 8, .inl v_t_now_aim)), (q_t_now_at, .inl (cy 0, 8, .inl v_t_now_at)), (q_t_future, oX5 u9 q_t_future_ways q_t_future_distances u10 q_t_future_kind q_t_future_a q_t_future_home q_t_future_aim q_t_future_at u11 u12 u13), (q_t_future_ways, .inl (cy 0, 12, .inl u14)), (q_t_future_distances, .inl (cy 0, 144, .inl u15)), (q_t_future_kind, .inl (cy 0, 8, .inl u16)), (q_t_future_a, .inl (cy 0, 8, .inl u17)), (q_t_future_home, .inl (cy 0, 8, .inl u18)), (q_t_future_aim, .inl (cy 0, 8, .inl u19)), (q_t_future_at, .inl (cy 0, 8, .inl u20)), (q_t_refusals, .inl (cy 0, 5, .inl v_t_refusals))] := hD
            refine lv_aload_n hx hb dX7_find_36 rfl (lv_at hl 0 rfl) ?_
            refine va_get (D := D) (ci := 7) (v := .ref q_t_future) (C := RX7) (T := TX7) (N := 12) hx hb hts hinX7 hown hK.1 hP 0 rfl rfl 1 (by decide) hk16 (fun _ h9 => h9) rfl dX7_find_37 ?_
            refine lv_iload_n hx hb dX7_find_40 rfl (lv_at hl 1 rfl) ?_
            obtain ⟨r22, hr23, hf⟩ := boE1 hf
            have hPc := hP.sub (ws' := [(q_t_future, oX5 u9 q_t_future_ways q_t_future_distances u10 q_t_future_kind q_t_future_a q_t_future_home q_t_future_aim q_t_future_at u11 u12 u13), (q_t_future_kind, .inl (cy 0, 8, .inl u16))]) [9, 12] rfl
            refine xcSi (va_runV (As := [.int p0]) (rest := []) ⟨hx, hb, hml, hown, hts⟩ (mX5_darkens l D cy q_t_future q_t_future_ways q_t_future_distances q_t_future_kind q_t_future_a q_t_future_home q_t_future_aim q_t_future_at u9 u10 u11 u12 u13 u16  p0 hr23) (cwV 1 hts gX7_find_X5_darkens rfl rfl rfl (by decide +kernel) ⟨Nat.le_of_ble_eq_true rfl, Nat.le_of_ble_eq_true rfl⟩) (xPV hK hPc (ci := 5) (q0 := 0) rfl rfl) rfl rfl hl.1 rfl (lv_room (Nat.le_of_ble_eq_true rfl)) dX7_find_41 ⟨Nat.le_of_ble_eq_true rfl, Nat.le_of_ble_eq_true rfl⟩) ?_
            refine lv_if_eq (tgt := 58) hx hb dX7_find_44 (by decide) (fun c32 => ?_) (fun c32 => ?_)
            · have hf := ifT hf c32
              clear c32
              refine lv_iconst (v := (-1)) hx hb dX7_find_58 (by decide) ?_
              have hg0 := Option.some.inj hf
              obtain ⟨ee0, hg1⟩ := Prod.mk.inj hg0
              obtain ⟨ee1, hg2⟩ := Prod.mk.inj hg1
              obtain ⟨ee2, hg3⟩ := Prod.mk.inj hg2
              obtain ⟨ee3, hg4⟩ := Prod.mk.inj hg3
              obtain ⟨ee4, hg5⟩ := Prod.mk.inj hg4
              obtain ⟨ee5, hg6⟩ := Prod.mk.inj hg5
              obtain ⟨ee6, hg7⟩ := Prod.mk.inj hg6
              obtain ⟨ee7, hg8⟩ := Prod.mk.inj hg7
              obtain ⟨ee8, hg9⟩ := Prod.mk.inj hg8
              obtain ⟨ee9, hg10⟩ := Prod.mk.inj hg9
              obtain ⟨ee10, hg11⟩ := Prod.mk.inj hg10
              obtain ⟨ee11, hg12⟩ := Prod.mk.inj hg11
              obtain ⟨ee12, hg13⟩ := Prod.mk.inj hg12
              clear hf hg0 hg1 hg2 hg3 hg4 hg5 hg6 hg7 hg8 hg9 hg10 hg11 hg12
              subst ee0
              subst ee1
              subst ee2
              subst ee3
              subst ee4
              subst ee5
              subst ee6
              subst ee7
              subst ee8
              subst ee9
              subst ee10
              subst ee11
              subst ee12
              subst hg13
              exact W.iret (v := (-1 : Int32)) hx hb hr (fun t ht hW => ⟨⟨(-1 : Int32), (), rfl, rfl, xend ht hP⟩, hS.F ht⟩) hS.2.2 dX7_find_59
            · have hf := ifF hf c32
              clear c32
              refine lv_aload_n hx hb dX7_find_47 rfl (lv_at hl 0 rfl) ?_
              refine va_get (D := D) (ci := 7) (v := .ref q_t_future) (C := RX7) (T := TX7) (N := 12) hx hb hts hinX7 hown hK.1 hP 0 rfl rfl 1 (by decide) hk16 (fun _ h9 => h9) rfl dX7_find_48 ?_
              refine lv_iload_n hx hb dX7_find_51 rfl (lv_at hl 1 rfl) ?_
              obtain ⟨r24, hr25, hf⟩ := boE1 hf
              have hPc := hP.sub (ws' := [(q_t_future, oX5 u9 q_t_future_ways q_t_future_distances u10 q_t_future_kind q_t_future_a q_t_future_home q_t_future_aim q_t_future_at u11 u12 u13), (q_t_future_kind, .inl (cy 0, 8, .inl u16)), (q_t_future_at, .inl (cy 0, 8, .inl u20))]) [9, 12, 16] rfl
              refine xcSi (va_runV (As := [.int p0]) (rest := []) ⟨hx, hb, hml, hown, hts⟩ (mX5_isJoined l D cy q_t_future q_t_future_ways q_t_future_distances q_t_future_kind q_t_future_a q_t_future_home q_t_future_aim q_t_future_at u9 u10 u11 u12 u13 u16 u20  p0 hr25) (cwV 1 hts gX7_find_X5_isJoined rfl rfl rfl (by decide +kernel) ⟨Nat.le_of_ble_eq_true rfl, Nat.le_of_ble_eq_true rfl⟩) (xPV hK hPc (ci := 5) (q0 := 0) rfl rfl) rfl rfl hl.1 rfl (lv_room (Nat.le_of_ble_eq_true rfl)) dX7_find_52 ⟨Nat.le_of_ble_eq_true rfl, Nat.le_of_ble_eq_true rfl⟩) ?_
              refine lv_if_eq (tgt := 60) hx hb dX7_find_55 (by decide) (fun c31 => ?_) (fun c31 => ?_)
              · have hf := ifT hf c31
                clear c31
                refine lv_aload_n hx hb dX7_find_60 rfl (lv_at hl 0 rfl) ?_
                refine va_get (D := D) (ci := 7) (v := .ref q_t_future) (C := RX7) (T := TX7) (N := 12) hx hb hts hinX7 hown hK.1 hP 0 rfl rfl 1 (by decide) hk16 (fun _ h9 => h9) rfl dX7_find_61 ?_
                refine lv_iload_n hx hb dX7_find_64 rfl (lv_at hl 1 rfl) ?_
                obtain ⟨r26, hr27, hf⟩ := boE1 hf
                have hPc := hP.sub (ws' := [(q_t_future, oX5 u9 q_t_future_ways q_t_future_distances u10 q_t_future_kind q_t_future_a q_t_future_home q_t_future_aim q_t_future_at u11 u12 u13), (q_t_future_kind, .inl (cy 0, 8, .inl u16)), (q_t_future_at, .inl (cy 0, 8, .inl u20))]) [9, 12, 16] rfl
                refine xcSi (va_runV (As := [.int p0]) (rest := []) ⟨hx, hb, hml, hown, hts⟩ (mX5_tellersFor l D cy q_t_future q_t_future_ways q_t_future_distances q_t_future_kind q_t_future_a q_t_future_home q_t_future_aim q_t_future_at u9 u10 u11 u12 u13 u16 u20  p0 hr27) (cwV 1 hts gX7_find_X5_tellersFor rfl rfl rfl (by decide +kernel) ⟨Nat.le_of_ble_eq_true rfl, Nat.le_of_ble_eq_true rfl⟩) (xPV hK hPc (ci := 5) (q0 := 0) rfl rfl) rfl rfl hl.1 rfl (lv_room (Nat.le_of_ble_eq_true rfl)) dX7_find_65 ⟨Nat.le_of_ble_eq_true rfl, Nat.le_of_ble_eq_true rfl⟩) ?_
                refine lv_istore (lv' := [(4, .int r26), (0, .ref q_t), (1, .int p0), (2, .int p1), (3, .int p2)]) hx hb dX7_find_68 hl (by decide) rfl (fun ls hl => ?_)
                refine lv_iload_n hx hb dX7_find_70 rfl (lv_at hl 4 rfl) ?_
                refine lv_if_ne (tgt := 82) hx hb dX7_find_71 (by decide) (fun c30 => ?_) (fun c30 => ?_)
                · have hf := ifF hf c30
                  clear c30
                  refine lv_iload hx hb dX7_find_82 (lv_at hl 0 rfl) ?_
                  have hg0 := Option.some.inj hf
                  obtain ⟨ee0, hg1⟩ := Prod.mk.inj hg0
                  obtain ⟨ee1, hg2⟩ := Prod.mk.inj hg1
                  obtain ⟨ee2, hg3⟩ := Prod.mk.inj hg2
                  obtain ⟨ee3, hg4⟩ := Prod.mk.inj hg3
                  obtain ⟨ee4, hg5⟩ := Prod.mk.inj hg4
                  obtain ⟨ee5, hg6⟩ := Prod.mk.inj hg5
                  obtain ⟨ee6, hg7⟩ := Prod.mk.inj hg6
                  obtain ⟨ee7, hg8⟩ := Prod.mk.inj hg7
                  obtain ⟨ee8, hg9⟩ := Prod.mk.inj hg8
                  obtain ⟨ee9, hg10⟩ := Prod.mk.inj hg9
                  obtain ⟨ee10, hg11⟩ := Prod.mk.inj hg10
                  obtain ⟨ee11, hg12⟩ := Prod.mk.inj hg11
                  obtain ⟨ee12, hg13⟩ := Prod.mk.inj hg12
                  clear hf hg0 hg1 hg2 hg3 hg4 hg5 hg6 hg7 hg8 hg9 hg10 hg11 hg12
                  subst ee0
                  subst ee1
                  subst ee2
                  subst ee3
                  subst ee4
                  subst ee5
                  subst ee6
                  subst ee7
                  subst ee8
                  subst ee9
                  subst ee10
                  subst ee11
                  subst ee12
                  subst hg13
                  exact W.iret hx hb hr (fun t ht hW => ⟨⟨_, (), rfl, rfl, xend ht hP⟩, hS.F ht⟩) hS.2.2 dX7_find_84
                · have hf := ifT hf c30
                  clear c30
                  refine lv_iload hx hb dX7_find_74 (lv_at hl 0 rfl) ?_
                  obtain ⟨r28, hr29, hf⟩ := boE1 hf
                  have hPc := hP.sub (ws' := []) [] rfl
                  refine xcSi (va_runS (As := [.int r26]) (rest := []) ⟨hx, hb, hml, hown, hts⟩ (mJ6_bitCount_0f7a4 l D cy    r26 hr29) (va_cwS 1 hts gX7_find_J6_bitCount_0f7a4 rfl rfl rfl (by decide +kernel) ⟨Nat.le_of_ble_eq_true rfl, Nat.le_of_ble_eq_true rfl⟩) (xPS hK hPc) rfl rfl hl.1 rfl (lv_room (Nat.le_of_ble_eq_true rfl)) dX7_find_76 ⟨Nat.le_of_ble_eq_true rfl, Nat.le_of_ble_eq_true rfl⟩) ?_
                  refine lv_goto (tgt := 84) hx hb dX7_find_79 (by decide) ?_
                  have hg0 := Option.some.inj hf
                  obtain ⟨ee0, hg1⟩ := Prod.mk.inj hg0
                  obtain ⟨ee1, hg2⟩ := Prod.mk.inj hg1
                  obtain ⟨ee2, hg3⟩ := Prod.mk.inj hg2
                  obtain ⟨ee3, hg4⟩ := Prod.mk.inj hg3
                  obtain ⟨ee4, hg5⟩ := Prod.mk.inj hg4
                  obtain ⟨ee5, hg6⟩ := Prod.mk.inj hg5
                  obtain ⟨ee6, hg7⟩ := Prod.mk.inj hg6
                  obtain ⟨ee7, hg8⟩ := Prod.mk.inj hg7
                  obtain ⟨ee8, hg9⟩ := Prod.mk.inj hg8
                  obtain ⟨ee9, hg10⟩ := Prod.mk.inj hg9
                  obtain ⟨ee10, hg11⟩ := Prod.mk.inj hg10
                  obtain ⟨ee11, hg12⟩ := Prod.mk.inj hg11
                  obtain ⟨ee12, hg13⟩ := Prod.mk.inj hg12
                  clear hf hg0 hg1 hg2 hg3 hg4 hg5 hg6 hg7 hg8 hg9 hg10 hg11 hg12
                  subst ee0
                  subst ee1
                  subst ee2
                  subst ee3
                  subst ee4
                  subst ee5
                  subst ee6
                  subst ee7
                  subst ee8
                  subst ee9
                  subst ee10
                  subst ee11
                  subst ee12
                  subst hg13
                  exact W.iret hx hb hr (fun t ht hW => ⟨⟨_, (), rfl, rfl, xend ht hP⟩, hS.F ht⟩) hS.2.2 dX7_find_84
              · have hf := ifF hf c31
                clear c31
                refine lv_iconst (v := (-1)) hx hb dX7_find_58 (by decide) ?_
                have hg0 := Option.some.inj hf
                obtain ⟨ee0, hg1⟩ := Prod.mk.inj hg0
                obtain ⟨ee1, hg2⟩ := Prod.mk.inj hg1
                obtain ⟨ee2, hg3⟩ := Prod.mk.inj hg2
                obtain ⟨ee3, hg4⟩ := Prod.mk.inj hg3
                obtain ⟨ee4, hg5⟩ := Prod.mk.inj hg4
                obtain ⟨ee5, hg6⟩ := Prod.mk.inj hg5
                obtain ⟨ee6, hg7⟩ := Prod.mk.inj hg6
                obtain ⟨ee7, hg8⟩ := Prod.mk.inj hg7
                obtain ⟨ee8, hg9⟩ := Prod.mk.inj hg8
                obtain ⟨ee9, hg10⟩ := Prod.mk.inj hg9
                obtain ⟨ee10, hg11⟩ := Prod.mk.inj hg10
                obtain ⟨ee11, hg12⟩ := Prod.mk.inj hg11
                obtain ⟨ee12, hg13⟩ := Prod.mk.inj hg12
                clear hf hg0 hg1 hg2 hg3 hg4 hg5 hg6 hg7 hg8 hg9 hg10 hg11 hg12
                subst ee0
                subst ee1
                subst ee2
                subst ee3
                subst ee4
                subst ee5
                subst ee6
                subst ee7
                subst ee8
                subst ee9
                subst ee10
                subst ee11
                subst ee12
                subst hg13
                exact W.iret (v := (-1 : Int32)) hx hb hr (fun t ht hW => ⟨⟨(-1 : Int32), (), rfl, rfl, xend ht hP⟩, hS.F ht⟩) hS.2.2 dX7_find_59
          · have hf := ifF hf c33
            clear c33
            exact J24 _ _ ls ⟨hP, hD, hS, lv_sub hl [0] rfl⟩ hf
