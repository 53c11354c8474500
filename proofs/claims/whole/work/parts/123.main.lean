def fX7_best (v_t_now_places : Int32) (v_t_now_people : Int32) (v_t_now_hour : Int32) (v_t_now_chance : Int32) (v_t_now_seed : Int32) (v_t_now_ways : Nat → Int32) (v_t_now_distances : Nat → Int32) (v_t_now_kind : Nat → Int32) (v_t_now_a : Nat → Int32) (v_t_now_home : Nat → Int32) (v_t_now_aim : Nat → Int32) (v_t_now_at : Nat → Int32) (v_t_future_places : Int32) (v_t_future_people : Int32) (v_t_future_hour : Int32) (v_t_future_chance : Int32) (v_t_future_seed : Int32) (v_t_future_ways : Nat → Int32) (v_t_future_distances : Nat → Int32) (v_t_future_kind : Nat → Int32) (v_t_future_a : Nat → Int32) (v_t_future_home : Nat → Int32) (v_t_future_aim : Nat → Int32) (v_t_future_at : Nat → Int32) (v_t_choice_found : Int32) (v_t_choice_worth : Int32) (v_t_refusals : Nat → Int32) (p0 : Int32) (p1 : Int32) : Option (Int32 × Int32 × Int32 × Int32 × Int32 × Int32 × (Nat → Int32) × (Nat → Int32) × (Nat → Int32) × (Nat → Int32) × (Nat → Int32) × (Nat → Int32) × (Nat → Int32) × Int32 × Int32 × (Nat → Int32)) :=
  bo1 (fX7_isPerson v_t_now_people p0) fun r1 =>
  jo0 (
    bo2 (fX7_refuse v_t_refusals (-2 : Int32)) fun r4 u5 =>
    some (r4, v_t_future_places, v_t_future_people, v_t_future_hour, v_t_future_chance, v_t_future_seed, v_t_future_ways, v_t_future_distances, v_t_future_kind, v_t_future_a, v_t_future_home, v_t_future_aim, v_t_future_at, v_t_choice_found, v_t_choice_worth, u5)) fun k3 =>
  if r1 = 0 then
    k3
  else
    bo1 (fX7_isAhead p1) fun r7 =>
    if r7 = 0 then
      k3
    else
      bo2 (fX0_begin (0 : Int32) (-1 : Int32)) fun u9 u10 =>
      lo15 (fun g27 (x12 : Int32) (u13 : Int32) (u14 : Int32) (u15 : Int32) (u16 : Int32) (u17 : Int32) (u18 : Nat → Int32) (u19 : Nat → Int32) (u20 : Nat → Int32) (u21 : Nat → Int32) (u22 : Nat → Int32) (u23 : Nat → Int32) (u24 : Nat → Int32) (u25 : Int32) (u26 : Int32) =>
        if v_t_now_places ≤ x12 then
          some (u25, u13, u14, u15, u16, u17, u18, u19, u20, u21, u22, u23, u24, u25, u26, v_t_refusals)
        else
          bo12 (fX5_become v_t_now_places v_t_now_people v_t_now_hour v_t_now_chance v_t_now_seed v_t_now_ways v_t_now_distances v_t_now_kind v_t_now_a v_t_now_home v_t_now_aim v_t_now_at) fun u28 u29 u30 u31 u32 u33 u34 u35 u36 u37 u38 u39 =>
          if p0 < 0 ∨ 8 ≤ p0.toNatClampNeg then none else
          bo2 (fX5_passHours u28 u29 u30 u33 u34 u35 u37 u38 (upd u39 p0.toNatClampNeg x12) p1) fun u42 u43 =>
          bo1 (fX5_shiningCount u28 u29 u35 u43) fun r45 =>
          bo2 (fX0_offer u25 u26 x12 r45) fun u47 u48 =>
          vlet (x12 + (1 : Int32)) fun x50 =>
          g27 x50 u28 u29 u42 u31 u32 u33 u34 u35 u36 u37 u38 u43 u47 u48) 400 (0 : Int32) v_t_future_places v_t_future_people v_t_future_hour v_t_future_chance v_t_future_seed v_t_future_ways v_t_future_distances v_t_future_kind v_t_future_a v_t_future_home v_t_future_aim v_t_future_at u9 u10
set_option maxHeartbeats 4000000 in
set_option maxRecDepth 100000 in
theorem mX7_best (l : Launch) (D : va_G) (cy : Nat → ClassId) (q_t q_t_now q_t_future q_t_draft q_t_kept q_t_shelves q_t_tape q_t_reader q_t_hiddenWay q_t_sights q_t_choice q_t_refusals q_t_now_ways q_t_now_distances q_t_now_kind q_t_now_a q_t_now_home q_t_now_aim q_t_now_at q_t_future_ways q_t_future_distances q_t_future_kind q_t_future_a q_t_future_home q_t_future_aim q_t_future_at : Nat) (v_t_isKept : Int32) (v_t_now_places : Int32) (v_t_now_people : Int32) (v_t_now_hour : Int32) (v_t_now_chance : Int32) (v_t_now_seed : Int32) (v_t_now_ways : Nat → Int32) (v_t_now_distances : Nat → Int32) (v_t_now_kind : Nat → Int32) (v_t_now_a : Nat → Int32) (v_t_now_home : Nat → Int32) (v_t_now_aim : Nat → Int32) (v_t_now_at : Nat → Int32) (v_t_future_places : Int32) (v_t_future_people : Int32) (v_t_future_hour : Int32) (v_t_future_chance : Int32) (v_t_future_seed : Int32) (v_t_future_ways : Nat → Int32) (v_t_future_distances : Nat → Int32) (v_t_future_kind : Nat → Int32) (v_t_future_a : Nat → Int32) (v_t_future_home : Nat → Int32) (v_t_future_aim : Nat → Int32) (v_t_future_at : Nat → Int32) (v_t_choice_found : Int32) (v_t_choice_worth : Int32) (v_t_refusals : Nat → Int32) (sz : Nat) (p0 : Int32) (p1 : Int32) {r_ : Int32} {n_t_future_places : Int32} {n_t_future_people : Int32} {n_t_future_hour : Int32} {n_t_future_chance : Int32} {n_t_future_seed : Int32} {n_t_future_ways : Nat → Int32} {n_t_future_distances : Nat → Int32} {n_t_future_kind : Nat → Int32} {n_t_future_a : Nat → Int32} {n_t_future_home : Nat → Int32} {n_t_future_aim : Nat → Int32} {n_t_future_at : Nat → Int32} {n_t_choice_found : Int32} {n_t_choice_worth : Int32} {n_t_refusals : Nat → Int32} (hf : fX7_best v_t_now_places v_t_now_people v_t_now_hour v_t_now_chance v_t_now_seed v_t_now_ways v_t_now_distances v_t_now_kind v_t_now_a v_t_now_home v_t_now_aim v_t_now_at v_t_future_places v_t_future_people v_t_future_hour v_t_future_chance v_t_future_seed v_t_future_ways v_t_future_distances v_t_future_kind v_t_future_a v_t_future_home v_t_future_aim v_t_future_at v_t_choice_found v_t_choice_worth v_t_refusals p0 p1 = some (r_, n_t_future_places, n_t_future_people, n_t_future_hour, n_t_future_chance, n_t_future_seed, n_t_future_ways, n_t_future_distances, n_t_future_kind, n_t_future_a, n_t_future_home, n_t_future_aim, n_t_future_at, n_t_choice_found, n_t_choice_worth, n_t_refusals)) : Met l yX7_best wsX7_best ({ frames := 5, cells := 0, slots := 0, locals := 115 }) (va_Pc [.ref q_t, .int p0, .int p1] (fun U => U.heap.size = sz ∧ va_P D vwCl [(q_t, oX7 q_t_now q_t_future q_t_draft q_t_kept v_t_isKept q_t_shelves q_t_tape q_t_reader q_t_hiddenWay q_t_sights q_t_choice q_t_refusals), (q_t_now, oX5 v_t_now_places q_t_now_ways q_t_now_distances v_t_now_people q_t_now_kind q_t_now_a q_t_now_home q_t_now_aim q_t_now_at v_t_now_hour v_t_now_chance v_t_now_seed), (q_t_now_ways, .inl (cy 0, 12, .inl v_t_now_ways)), (q_t_now_distances, .inl (cy 0, 144, .inl v_t_now_distances)), (q_t_now_kind, .inl (cy 0, 8, .inl v_t_now_kind)), (q_t_now_a, .inl (cy 0, 8, .inl v_t_now_a)), (q_t_now_home, .inl (cy 0, 8, .inl v_t_now_home)), (q_t_now_aim, .inl (cy 0, 8, .inl v_t_now_aim)), (q_t_now_at, .inl (cy 0, 8, .inl v_t_now_at)), (q_t_future, oX5 v_t_future_places q_t_future_ways q_t_future_distances v_t_future_people q_t_future_kind q_t_future_a q_t_future_home q_t_future_aim q_t_future_at v_t_future_hour v_t_future_chance v_t_future_seed), (q_t_future_ways, .inl (cy 0, 12, .inl v_t_future_ways)), (q_t_future_distances, .inl (cy 0, 144, .inl v_t_future_distances)), (q_t_future_kind, .inl (cy 0, 8, .inl v_t_future_kind)), (q_t_future_a, .inl (cy 0, 8, .inl v_t_future_a)), (q_t_future_home, .inl (cy 0, 8, .inl v_t_future_home)), (q_t_future_aim, .inl (cy 0, 8, .inl v_t_future_aim)), (q_t_future_at, .inl (cy 0, 8, .inl v_t_future_at)), (q_t_choice, oX0 v_t_choice_found v_t_choice_worth), (q_t_refusals, .inl (cy 0, 5, .inl v_t_refusals))] U.heap ∧ xK D cy U ∧ va_D (fun _ => True) [(q_t, oX7 q_t_now q_t_future q_t_draft q_t_kept v_t_isKept q_t_shelves q_t_tape q_t_reader q_t_hiddenWay q_t_sights q_t_choice q_t_refusals), (q_t_now, oX5 v_t_now_places q_t_now_ways q_t_now_distances v_t_now_people q_t_now_kind q_t_now_a q_t_now_home q_t_now_aim q_t_now_at v_t_now_hour v_t_now_chance v_t_now_seed), (q_t_now_ways, .inl (cy 0, 12, .inl v_t_now_ways)), (q_t_now_distances, .inl (cy 0, 144, .inl v_t_now_distances)), (q_t_now_kind, .inl (cy 0, 8, .inl v_t_now_kind)), (q_t_now_a, .inl (cy 0, 8, .inl v_t_now_a)), (q_t_now_home, .inl (cy 0, 8, .inl v_t_now_home)), (q_t_now_aim, .inl (cy 0, 8, .inl v_t_now_aim)), (q_t_now_at, .inl (cy 0, 8, .inl v_t_now_at)), (q_t_future, oX5 v_t_future_places q_t_future_ways q_t_future_distances v_t_future_people q_t_future_kind q_t_future_a q_t_future_home q_t_future_aim q_t_future_at v_t_future_hour v_t_future_chance v_t_future_seed), (q_t_future_ways, .inl (cy 0, 12, .inl v_t_future_ways)), (q_t_future_distances, .inl (cy 0, 144, .inl v_t_future_distances)), (q_t_future_kind, .inl (cy 0, 8, .inl v_t_future_kind)), (q_t_future_a, .inl (cy 0, 8, .inl v_t_future_a)), (q_t_future_home, .inl (cy 0, 8, .inl v_t_future_home)), (q_t_future_aim, .inl (cy 0, 8, .inl v_t_future_aim)), (q_t_future_at, .inl (cy 0, 8, .inl v_t_future_at)), (q_t_choice, oX0 v_t_choice_found v_t_choice_worth), (q_t_refusals, .inl (cy 0, 5, .inl v_t_refusals))])) (va_Qi (fun (x : Int32) (_ : Unit) => x = r_) (fun _ t => va_P D vwCl [(q_t, oX7 q_t_now q_t_future q_t_draft q_t_kept v_t_isKept q_t_shelves q_t_tape q_t_reader q_t_hiddenWay q_t_sights q_t_choice q_t_refusals), (q_t_now, oX5 v_t_now_places q_t_now_ways q_t_now_distances v_t_now_people q_t_now_kind q_t_now_a q_t_now_home q_t_now_aim q_t_now_at v_t_now_hour v_t_now_chance v_t_now_seed), (q_t_now_ways, .inl (cy 0, 12, .inl v_t_now_ways)), (q_t_now_distances, .inl (cy 0, 144, .inl v_t_now_distances)), (q_t_now_kind, .inl (cy 0, 8, .inl v_t_now_kind)), (q_t_now_a, .inl (cy 0, 8, .inl v_t_now_a)), (q_t_now_home, .inl (cy 0, 8, .inl v_t_now_home)), (q_t_now_aim, .inl (cy 0, 8, .inl v_t_now_aim)), (q_t_now_at, .inl (cy 0, 8, .inl v_t_now_at)), (q_t_future, oX5 n_t_future_places q_t_future_ways q_t_future_distances n_t_future_people q_t_future_kind q_t_future_a q_t_future_home q_t_future_aim q_t_future_at n_t_future_hour n_t_future_chance n_t_future_seed), (q_t_future_ways, .inl (cy 0, 12, .inl n_t_future_ways)), (q_t_future_distances, .inl (cy 0, 144, .inl n_t_future_distances)), (q_t_future_kind, .inl (cy 0, 8, .inl n_t_future_kind)), (q_t_future_a, .inl (cy 0, 8, .inl n_t_future_a)), (q_t_future_home, .inl (cy 0, 8, .inl n_t_future_home)), (q_t_future_aim, .inl (cy 0, 8, .inl n_t_future_aim)), (q_t_future_at, .inl (cy 0, 8, .inl n_t_future_at)), (q_t_choice, oX0 n_t_choice_found n_t_choice_worth), (q_t_refusals, .inl (cy 0, 5, .inl n_t_refusals))] t.heap) (va_A [(q_t, oX7 q_t_now q_t_future q_t_draft q_t_kept v_t_isKept q_t_shelves q_t_tape q_t_reader q_t_hiddenWay q_t_sights q_t_choice q_t_refusals), (q_t_now, oX5 v_t_now_places q_t_now_ways q_t_now_distances v_t_now_people q_t_now_kind q_t_now_a q_t_now_home q_t_now_aim q_t_now_at v_t_now_hour v_t_now_chance v_t_now_seed), (q_t_now_ways, .inl (cy 0, 12, .inl v_t_now_ways)), (q_t_now_distances, .inl (cy 0, 144, .inl v_t_now_distances)), (q_t_now_kind, .inl (cy 0, 8, .inl v_t_now_kind)), (q_t_now_a, .inl (cy 0, 8, .inl v_t_now_a)), (q_t_now_home, .inl (cy 0, 8, .inl v_t_now_home)), (q_t_now_aim, .inl (cy 0, 8, .inl v_t_now_aim)), (q_t_now_at, .inl (cy 0, 8, .inl v_t_now_at)), (q_t_future, oX5 v_t_future_places q_t_future_ways q_t_future_distances v_t_future_people q_t_future_kind q_t_future_a q_t_future_home q_t_future_aim q_t_future_at v_t_future_hour v_t_future_chance v_t_future_seed), (q_t_future_ways, .inl (cy 0, 12, .inl v_t_future_ways)), (q_t_future_distances, .inl (cy 0, 144, .inl v_t_future_distances)), (q_t_future_kind, .inl (cy 0, 8, .inl v_t_future_kind)), (q_t_future_a, .inl (cy 0, 8, .inl v_t_future_a)), (q_t_future_home, .inl (cy 0, 8, .inl v_t_future_home)), (q_t_future_aim, .inl (cy 0, 8, .inl v_t_future_aim)), (q_t_future_at, .inl (cy 0, 8, .inl v_t_future_at)), (q_t_choice, oX0 v_t_choice_found v_t_choice_worth), (q_t_refusals, .inl (cy 0, 5, .inl v_t_refusals))] sz)) 0 0 (va_A [(q_t, oX7 q_t_now q_t_future q_t_draft q_t_kept v_t_isKept q_t_shelves q_t_tape q_t_reader q_t_hiddenWay q_t_sights q_t_choice q_t_refusals), (q_t_now, oX5 v_t_now_places q_t_now_ways q_t_now_distances v_t_now_people q_t_now_kind q_t_now_a q_t_now_home q_t_now_aim q_t_now_at v_t_now_hour v_t_now_chance v_t_now_seed), (q_t_now_ways, .inl (cy 0, 12, .inl v_t_now_ways)), (q_t_now_distances, .inl (cy 0, 144, .inl v_t_now_distances)), (q_t_now_kind, .inl (cy 0, 8, .inl v_t_now_kind)), (q_t_now_a, .inl (cy 0, 8, .inl v_t_now_a)), (q_t_now_home, .inl (cy 0, 8, .inl v_t_now_home)), (q_t_now_aim, .inl (cy 0, 8, .inl v_t_now_aim)), (q_t_now_at, .inl (cy 0, 8, .inl v_t_now_at)), (q_t_future, oX5 v_t_future_places q_t_future_ways q_t_future_distances v_t_future_people q_t_future_kind q_t_future_a q_t_future_home q_t_future_aim q_t_future_at v_t_future_hour v_t_future_chance v_t_future_seed), (q_t_future_ways, .inl (cy 0, 12, .inl v_t_future_ways)), (q_t_future_distances, .inl (cy 0, 144, .inl v_t_future_distances)), (q_t_future_kind, .inl (cy 0, 8, .inl v_t_future_kind)), (q_t_future_a, .inl (cy 0, 8, .inl v_t_future_a)), (q_t_future_home, .inl (cy 0, 8, .inl v_t_future_home)), (q_t_future_aim, .inl (cy 0, 8, .inl v_t_future_aim)), (q_t_future_at, .inl (cy 0, 8, .inl v_t_future_at)), (q_t_choice, oX0 v_t_choice_found v_t_choice_worth), (q_t_refusals, .inl (cy 0, 5, .inl v_t_refusals))] sz) := by
  refine Met.ofW (cc := cX7_best) (maxL := 4) (ret := (some .int)) (by decide) rfl ?_
  intro p e s m args below meth c s₁ B hml hv
  obtain ⟨rfl, hsz, hP, hK, hD0⟩ := hv
  have hx := B.exec
  have hb := B.bytes
  have hr := B.returns
  have hts := atoms_spec (ws := wsX7_best) B.pre
  have hown : s.vm.findClass RX7 = some m.cls := findClass_of_methodNamed B.named
  have hlocks := B.notSynchronized
  subst hsz
  have hD := hD0.self (sz := s.heap.size)
  generalize hAe : va_A [(q_t, oX7 q_t_now q_t_future q_t_draft q_t_kept v_t_isKept q_t_shelves q_t_tape q_t_reader q_t_hiddenWay q_t_sights q_t_choice q_t_refusals), (q_t_now, oX5 v_t_now_places q_t_now_ways q_t_now_distances v_t_now_people q_t_now_kind q_t_now_a q_t_now_home q_t_now_aim q_t_now_at v_t_now_hour v_t_now_chance v_t_now_seed), (q_t_now_ways, .inl (cy 0, 12, .inl v_t_now_ways)), (q_t_now_distances, .inl (cy 0, 144, .inl v_t_now_distances)), (q_t_now_kind, .inl (cy 0, 8, .inl v_t_now_kind)), (q_t_now_a, .inl (cy 0, 8, .inl v_t_now_a)), (q_t_now_home, .inl (cy 0, 8, .inl v_t_now_home)), (q_t_now_aim, .inl (cy 0, 8, .inl v_t_now_aim)), (q_t_now_at, .inl (cy 0, 8, .inl v_t_now_at)), (q_t_future, oX5 v_t_future_places q_t_future_ways q_t_future_distances v_t_future_people q_t_future_kind q_t_future_a q_t_future_home q_t_future_aim q_t_future_at v_t_future_hour v_t_future_chance v_t_future_seed), (q_t_future_ways, .inl (cy 0, 12, .inl v_t_future_ways)), (q_t_future_distances, .inl (cy 0, 144, .inl v_t_future_distances)), (q_t_future_kind, .inl (cy 0, 8, .inl v_t_future_kind)), (q_t_future_a, .inl (cy 0, 8, .inl v_t_future_a)), (q_t_future_home, .inl (cy 0, 8, .inl v_t_future_home)), (q_t_future_aim, .inl (cy 0, 8, .inl v_t_future_aim)), (q_t_future_at, .inl (cy 0, 8, .inl v_t_future_at)), (q_t_choice, oX0 v_t_choice_found v_t_choice_worth), (q_t_refusals, .inl (cy 0, 5, .inl v_t_refusals))] s.heap.size = A at hD ⊢
  have hA : ∀ q : Nat, s.heap.size ≤ q → A q := fun q h => by rw [← hAe]; exact Or.inr h
  have hS : va_S A s.heap s.heap [] := va_S.rf
  have hP : va_P D vwCl [(q_t, oX7 q_t_now q_t_future q_t_draft q_t_kept v_t_isKept q_t_shelves q_t_tape q_t_reader q_t_hiddenWay q_t_sights q_t_choice q_t_refusals), (q_t_now, oX5 v_t_now_places q_t_now_ways q_t_now_distances v_t_now_people q_t_now_kind q_t_now_a q_t_now_home q_t_now_aim q_t_now_at v_t_now_hour v_t_now_chance v_t_now_seed), (q_t_now_ways, .inl (cy 0, 12, .inl v_t_now_ways)), (q_t_now_distances, .inl (cy 0, 144, .inl v_t_now_distances)), (q_t_now_kind, .inl (cy 0, 8, .inl v_t_now_kind)), (q_t_now_a, .inl (cy 0, 8, .inl v_t_now_a)), (q_t_now_home, .inl (cy 0, 8, .inl v_t_now_home)), (q_t_now_aim, .inl (cy 0, 8, .inl v_t_now_aim)), (q_t_now_at, .inl (cy 0, 8, .inl v_t_now_at)), (q_t_future, oX5 v_t_future_places q_t_future_ways q_t_future_distances v_t_future_people q_t_future_kind q_t_future_a q_t_future_home q_t_future_aim q_t_future_at v_t_future_hour v_t_future_chance v_t_future_seed), (q_t_future_ways, .inl (cy 0, 12, .inl v_t_future_ways)), (q_t_future_distances, .inl (cy 0, 144, .inl v_t_future_distances)), (q_t_future_kind, .inl (cy 0, 8, .inl v_t_future_kind)), (q_t_future_a, .inl (cy 0, 8, .inl v_t_future_a)), (q_t_future_home, .inl (cy 0, 8, .inl v_t_future_home)), (q_t_future_aim, .inl (cy 0, 8, .inl v_t_future_aim)), (q_t_future_at, .inl (cy 0, 8, .inl v_t_future_at)), (q_t_choice, oX0 v_t_choice_found v_t_choice_worth), (q_t_refusals, .inl (cy 0, 5, .inl v_t_refusals))] s.heap := hP
  have hinX7 : ∀ w ∈ u_ws RX7 TX7 12, w ∈ wsX7_best := by decide +kernel
  have hk61 := hts (.fieldLink RX7 61 "ShowsWhereNobodyIs" "choice" "LShowsWhereNobodyIs$Choice;") (by decide +kernel)
  have hk10 := hts (.fieldLink RX7 10 "ShowsWhereNobodyIs" "now" "LShowsWhereNobodyIs$Town;") (by decide +kernel)
  have hinX5 : ∀ w ∈ u_ws RX5 TX5 12, w ∈ wsX7_best := by decide +kernel
  have hk152 := hts (.fieldLink RX7 152 "ShowsWhereNobodyIs$Town" "places" "I") (by decide +kernel)
  have hinX0 : ∀ w ∈ u_ws RX0 TX0 2, w ∈ wsX7_best := by decide +kernel
  have hk251 := hts (.fieldLink RX7 251 "ShowsWhereNobodyIs$Choice" "found" "I") (by decide +kernel)
  have hk16 := hts (.fieldLink RX7 16 "ShowsWhereNobodyIs" "future" "LShowsWhereNobodyIs$Town;") (by decide +kernel)
  have hk149 := hts (.fieldLink RX7 149 "ShowsWhereNobodyIs$Town" "at" "[I") (by decide +kernel)
  have hl := lv_entry ([.ref q_t, .int p0, .int p1]) (n := 4) (Nat.le_of_ble_eq_true rfl)
  rw [lg_entry_eq]
  generalize (lg_sl ([.ref q_t, .int p0, .int p1]) ++ List.replicate (4 - (lg_sl ([.ref q_t, .int p0, .int p1])).length) Slot.unset).toArray = ls at hl ⊢
  have hl : lv_has ls 4 [(0, .ref q_t), (1, .int p0), (2, .int p1)] := hl
  unfold fX7_best at hf
  refine lv_aload_n hx hb dX7_best_0 rfl (lv_at hl 0 rfl) ?_
  refine lv_iload_n hx hb dX7_best_1 rfl (lv_at hl 1 rfl) ?_
  obtain ⟨r1, hr2, hf⟩ := boE1 hf
  have hPc := hP.sub (ws' := [(q_t, oX7 q_t_now q_t_future q_t_draft q_t_kept v_t_isKept q_t_shelves q_t_tape q_t_reader q_t_hiddenWay q_t_sights q_t_choice q_t_refusals), (q_t_now, oX5 v_t_now_places q_t_now_ways q_t_now_distances v_t_now_people q_t_now_kind q_t_now_a q_t_now_home q_t_now_aim q_t_now_at v_t_now_hour v_t_now_chance v_t_now_seed)]) [0, 1] rfl
  refine xcSi (va_runV (As := [.int p0]) (rest := []) ⟨hx, hb, hml, hown, hts⟩ (mX7_isPerson l D cy q_t q_t_now q_t_future q_t_draft q_t_kept q_t_shelves q_t_tape q_t_reader q_t_hiddenWay q_t_sights q_t_choice q_t_refusals q_t_now_ways q_t_now_distances q_t_now_kind q_t_now_a q_t_now_home q_t_now_aim q_t_now_at v_t_isKept v_t_now_places v_t_now_people v_t_now_hour v_t_now_chance v_t_now_seed  p0 hr2) (cwV 1 hts gX7_best_X7_isPerson rfl rfl rfl (by decide +kernel) ⟨Nat.le_of_ble_eq_true rfl, Nat.le_of_ble_eq_true rfl⟩) (xPV hK hPc (ci := 7) (q0 := 0) rfl rfl) rfl rfl hl.1 rfl (lv_room (Nat.le_of_ble_eq_true rfl)) dX7_best_2 ⟨Nat.le_of_ble_eq_true rfl, Nat.le_of_ble_eq_true rfl⟩) ?_
  refine jww0 15 [] (fun  H locs ls => va_P D vwCl [(q_t, oX7 q_t_now q_t_future q_t_draft q_t_kept v_t_isKept q_t_shelves q_t_tape q_t_reader q_t_hiddenWay q_t_sights q_t_choice q_t_refusals), (q_t_now, oX5 v_t_now_places q_t_now_ways q_t_now_distances v_t_now_people q_t_now_kind q_t_now_a q_t_now_home q_t_now_aim q_t_now_at v_t_now_hour v_t_now_chance v_t_now_seed), (q_t_now_ways, .inl (cy 0, 12, .inl v_t_now_ways)), (q_t_now_distances, .inl (cy 0, 144, .inl v_t_now_distances)), (q_t_now_kind, .inl (cy 0, 8, .inl v_t_now_kind)), (q_t_now_a, .inl (cy 0, 8, .inl v_t_now_a)), (q_t_now_home, .inl (cy 0, 8, .inl v_t_now_home)), (q_t_now_aim, .inl (cy 0, 8, .inl v_t_now_aim)), (q_t_now_at, .inl (cy 0, 8, .inl v_t_now_at)), (q_t_future, oX5 v_t_future_places q_t_future_ways q_t_future_distances v_t_future_people q_t_future_kind q_t_future_a q_t_future_home q_t_future_aim q_t_future_at v_t_future_hour v_t_future_chance v_t_future_seed), (q_t_future_ways, .inl (cy 0, 12, .inl v_t_future_ways)), (q_t_future_distances, .inl (cy 0, 144, .inl v_t_future_distances)), (q_t_future_kind, .inl (cy 0, 8, .inl v_t_future_kind)), (q_t_future_a, .inl (cy 0, 8, .inl v_t_future_a)), (q_t_future_home, .inl (cy 0, 8, .inl v_t_future_home)), (q_t_future_aim, .inl (cy 0, 8, .inl v_t_future_aim)), (q_t_future_at, .inl (cy 0, 8, .inl v_t_future_at)), (q_t_choice, oX0 v_t_choice_found v_t_choice_worth), (q_t_refusals, .inl (cy 0, 5, .inl v_t_refusals))] H ∧ va_D A [(q_t, oX7 q_t_now q_t_future q_t_draft q_t_kept v_t_isKept q_t_shelves q_t_tape q_t_reader q_t_hiddenWay q_t_sights q_t_choice q_t_refusals), (q_t_now, oX5 v_t_now_places q_t_now_ways q_t_now_distances v_t_now_people q_t_now_kind q_t_now_a q_t_now_home q_t_now_aim q_t_now_at v_t_now_hour v_t_now_chance v_t_now_seed), (q_t_now_ways, .inl (cy 0, 12, .inl v_t_now_ways)), (q_t_now_distances, .inl (cy 0, 144, .inl v_t_now_distances)), (q_t_now_kind, .inl (cy 0, 8, .inl v_t_now_kind)), (q_t_now_a, .inl (cy 0, 8, .inl v_t_now_a)), (q_t_now_home, .inl (cy 0, 8, .inl v_t_now_home)), (q_t_now_aim, .inl (cy 0, 8, .inl v_t_now_aim)), (q_t_now_at, .inl (cy 0, 8, .inl v_t_now_at)), (q_t_future, oX5 v_t_future_places q_t_future_ways q_t_future_distances v_t_future_people q_t_future_kind q_t_future_a q_t_future_home q_t_future_aim q_t_future_at v_t_future_hour v_t_future_chance v_t_future_seed), (q_t_future_ways, .inl (cy 0, 12, .inl v_t_future_ways)), (q_t_future_distances, .inl (cy 0, 144, .inl v_t_future_distances)), (q_t_future_kind, .inl (cy 0, 8, .inl v_t_future_kind)), (q_t_future_a, .inl (cy 0, 8, .inl v_t_future_a)), (q_t_future_home, .inl (cy 0, 8, .inl v_t_future_home)), (q_t_future_aim, .inl (cy 0, 8, .inl v_t_future_aim)), (q_t_future_at, .inl (cy 0, 8, .inl v_t_future_at)), (q_t_choice, oX0 v_t_choice_found v_t_choice_worth), (q_t_refusals, .inl (cy 0, 5, .inl v_t_refusals))] ∧ va_S A s.heap H locs ∧ lv_has ls 4 [(0, .ref q_t)]) hf (fun  H locs ls hI hf => ?_) (fun k3 J15 hf => ?_)
  · obtain ⟨hP, hD, hS, hl⟩ := hI
    refine lv_aload_n hx hb dX7_best_15 rfl (lv_at hl 0 rfl) ?_
    refine lv_bipush (v := (-2)) hx hb dX7_best_16 (by decide) ?_
    obtain ⟨r4, u5, hr6, hf⟩ := boE2 hf
    have hPc := hP.sub (ws' := [(q_t, oX7 q_t_now q_t_future q_t_draft q_t_kept v_t_isKept q_t_shelves q_t_tape q_t_reader q_t_hiddenWay q_t_sights q_t_choice q_t_refusals), (q_t_refusals, .inl (cy 0, 5, .inl v_t_refusals))]) [0, 18] rfl
    have hDc := hD.sub (ws' := [(q_t, oX7 q_t_now q_t_future q_t_draft q_t_kept v_t_isKept q_t_shelves q_t_tape q_t_reader q_t_hiddenWay q_t_sights q_t_choice q_t_refusals), (q_t_refusals, .inl (cy 0, 5, .inl v_t_refusals))]) [0, 18] (by decide) rfl
    refine xcQi (w1 := [(q_t, oX7 q_t_now q_t_future q_t_draft q_t_kept v_t_isKept q_t_shelves q_t_tape q_t_reader q_t_hiddenWay q_t_sights q_t_choice q_t_refusals), (q_t_refusals, .inl (cy 0, 5, .inl u5))]) (va_runV (As := [.int (-2 : Int32)]) (rest := []) ⟨hx, hb, hml, hown, hts⟩ (mX7_refuse l D cy q_t q_t_now q_t_future q_t_draft q_t_kept q_t_shelves q_t_tape q_t_reader q_t_hiddenWay q_t_sights q_t_choice q_t_refusals v_t_isKept v_t_refusals _ (-2 : Int32) hr6) (cwV 1 hts gX7_best_X7_refuse rfl rfl rfl (by decide +kernel) ⟨Nat.le_of_ble_eq_true rfl, Nat.le_of_ble_eq_true rfl⟩) (xPVw hK hPc hDc (ci := 7) (q0 := 0) rfl rfl) rfl rfl hl.1 rfl (lv_room (Nat.le_of_ble_eq_true rfl)) dX7_best_18 ⟨Nat.le_of_ble_eq_true rfl, Nat.le_of_ble_eq_true rfl⟩) hP hD hS hA [0, 18] rfl rfl (fun H locs hP hD hS => ?_)
    have hP : va_P D vwCl [(q_t, oX7 q_t_now q_t_future q_t_draft q_t_kept v_t_isKept q_t_shelves q_t_tape q_t_reader q_t_hiddenWay q_t_sights q_t_choice q_t_refusals), (q_t_now, oX5 v_t_now_places q_t_now_ways q_t_now_distances v_t_now_people q_t_now_kind q_t_now_a q_t_now_home q_t_now_aim q_t_now_at v_t_now_hour v_t_now_chance v_t_now_seed), (q_t_now_ways, .inl (cy 0, 12, .inl v_t_now_ways)), (q_t_now_distances, .inl (cy 0, 144, .inl v_t_now_distances)), (q_t_now_kind, .inl (cy 0, 8, .inl v_t_now_kind)), (q_t_now_a, .inl (cy 0, 8, .inl v_t_now_a)), (q_t_now_home, .inl (cy 0, 8, .inl v_t_now_home)), (q_t_now_aim, .inl (cy 0, 8, .inl v_t_now_aim)), (q_t_now_at, .inl (cy 0, 8, .inl v_t_now_at)), (q_t_future, oX5 v_t_future_places q_t_future_ways q_t_future_distances v_t_future_people q_t_future_kind q_t_future_a q_t_future_home q_t_future_aim q_t_future_at v_t_future_hour v_t_future_chance v_t_future_seed), (q_t_future_ways, .inl (cy 0, 12, .inl v_t_future_ways)), (q_t_future_distances, .inl (cy 0, 144, .inl v_t_future_distances)), (q_t_future_kind, .inl (cy 0, 8, .inl v_t_future_kind)), (q_t_future_a, .inl (cy 0, 8, .inl v_t_future_a)), (q_t_future_home, .inl (cy 0, 8, .inl v_t_future_home)), (q_t_future_aim, .inl (cy 0, 8, .inl v_t_future_aim)), (q_t_future_at, .inl (cy 0, 8, .inl v_t_future_at)), (q_t_choice, oX0 v_t_choice_found v_t_choice_worth), (q_t_refusals, .inl (cy 0, 5, .inl u5))] H := hP
    have hD : va_D A [(q_t, oX7 q_t_now q_t_future q_t_draft q_t_kept v_t_isKept q_t_shelves q_t_tape q_t_reader q_t_hiddenWay q_t_sights q_t_choice q_t_refusals), (q_t_now, oX5 v_t_now_places q_t_now_ways q_t_now_distances v_t_now_people q_t_now_kind q_t_now_a q_t_now_home q_t_now_aim q_t_now_at v_t_now_hour v_t_now_chance v_t_now_seed), (q_t_now_ways, .inl (cy 0, 12, .inl v_t_now_ways)), (q_t_now_distances, .inl (cy 0, 144, .inl v_t_now_distances)), (q_t_now_kind, .inl (cy 0, 8, .inl v_t_now_kind)), (q_t_now_a, .inl (cy 0, 8, .inl v_t_now_a)), (q_t_now_home, .inl (cy 0, 8, .inl v_t_now_home)), (q_t_now_aim, .inl (cy 0, 8, .inl v_t_now_aim)), (q_t_now_at, .inl (cy 0, 8, .inl v_t_now_at)), (q_t_future, oX5 v_t_future_places q_t_future_ways q_t_future_distances v_t_future_people q_t_future_kind q_t_future_a q_t_future_home q_t_future_aim q_t_future_at v_t_future_hour v_t_future_chance v_t_future_seed), (q_t_future_ways, .inl (cy 0, 12, .inl v_t_future_ways)), (q_t_future_distances, .inl (cy 0, 144, .inl v_t_future_distances)), (q_t_future_kind, .inl (cy 0, 8, .inl v_t_future_kind)), (q_t_future_a, .inl (cy 0, 8, .inl v_t_future_a)), (q_t_future_home, .inl (cy 0, 8, .inl v_t_future_home)), (q_t_future_aim, .inl (cy 0, 8, .inl v_t_future_aim)), (q_t_future_at, .inl (cy 0, 8, .inl v_t_future_at)), (q_t_choice, oX0 v_t_choice_found v_t_choice_worth), (q_t_refusals, .inl (cy 0, 5, .inl u5))] := hD
    have hg0 := Option.some.inj hf
    obtain ⟨ee0, hg1⟩ := Prod.mk.inj hg0
    obtain ⟨ee1, hg2⟩ := Prod.mk.inj hg1
    obtain ⟨ee2, hg3⟩ := Prod.mk.inj hg2
    obtain ⟨ee3, hg4⟩ := Prod.mk.inj hg3
    obtain ⟨ee4, hg5⟩ := Prod.mk.inj hg4
    obtain ⟨ee5, hg6⟩ := Prod.mk.inj hg5
    obtain ⟨ee6, hg7⟩ := Prod.mk.inj hg6
    obtain ⟨ee7, hg8⟩ := Prod.mk.inj hg7
    obtain ⟨ee8, hg9⟩ := Prod.mk.inj hg8
    obtain ⟨ee9, hg10⟩ := Prod.mk.inj hg9
    obtain ⟨ee10, hg11⟩ := Prod.mk.inj hg10
    obtain ⟨ee11, hg12⟩ := Prod.mk.inj hg11
    obtain ⟨ee12, hg13⟩ := Prod.mk.inj hg12
    obtain ⟨ee13, hg14⟩ := Prod.mk.inj hg13
    obtain ⟨ee14, hg15⟩ := Prod.mk.inj hg14
    clear hf hg0 hg1 hg2 hg3 hg4 hg5 hg6 hg7 hg8 hg9 hg10 hg11 hg12 hg13 hg14
    subst ee0
    subst ee1
    subst ee2
    subst ee3
    subst ee4
    subst ee5
    subst ee6
    subst ee7
    subst ee8
    subst ee9
    subst ee10
    subst ee11
    subst ee12
    subst ee13
    subst ee14
    subst hg15
    exact W.iret hx hb hr (fun t ht hW => ⟨⟨_, (), rfl, rfl, xend ht hP⟩, hS.F ht⟩) hS.2.2 dX7_best_21
  · refine lv_if_eq (tgt := 15) hx hb dX7_best_5 (by decide) (fun c53 => ?_) (fun c53 => ?_)
    · have hf := ifT hf c53
      clear c53
      exact J15 _ _ ls ⟨hP, hD, hS, lv_sub hl [0] rfl⟩ hf
    · have hf := ifF hf c53
      clear c53
      refine lv_iload_n hx hb dX7_best_8 rfl (lv_at hl 2 rfl) ?_
      obtain ⟨r7, hr8, hf⟩ := boE1 hf
      have hPc := hP.sub (ws' := []) [] rfl
      refine xcSi (va_runS (As := [.int p1]) (rest := []) ⟨hx, hb, hml, hown, hts⟩ (mX7_isAhead l D cy    p1 hr8) (va_cwS 1 hts gX7_best_X7_isAhead rfl rfl rfl (by decide +kernel) ⟨Nat.le_of_ble_eq_true rfl, Nat.le_of_ble_eq_true rfl⟩) (xPS hK hPc) rfl rfl hl.1 rfl (lv_room (Nat.le_of_ble_eq_true rfl)) dX7_best_9 ⟨Nat.le_of_ble_eq_true rfl, Nat.le_of_ble_eq_true rfl⟩) ?_
      refine lv_if_ne (tgt := 22) hx hb dX7_best_12 (by decide) (fun c52 => ?_) (fun c52 => ?_)
      · have hf := ifF hf c52
        clear c52
        refine lv_aload_n hx hb dX7_best_22 rfl (lv_at hl 0 rfl) ?_
        refine va_get (D := D) (ci := 7) (v := .ref q_t_choice) (C := RX7) (T := TX7) (N := 12) hx hb hts hinX7 hown hK.1 hP 0 rfl rfl 10 (by decide) hk61 (fun _ h9 => h9) rfl dX7_best_23 ?_
        refine lv_iconst (v := 0) hx hb dX7_best_26 (by decide) ?_
        refine lv_iconst (v := (-1)) hx hb dX7_best_27 (by decide) ?_
        obtain ⟨u9, u10, hr11, hf⟩ := boE2 hf
        have hPc := hP.sub (ws' := [(q_t_choice, oX0 v_t_choice_found v_t_choice_worth)]) [17] rfl
        have hDc := hD.sub (ws' := [(q_t_choice, oX0 v_t_choice_found v_t_choice_worth)]) [17] (by decide) rfl
        refine xcQv (w1 := [(q_t_choice, oX0 u9 u10)]) (va_runV (As := [.int (0 : Int32), .int (-1 : Int32)]) (rest := []) ⟨hx, hb, hml, hown, hts⟩ (mX0_begin l D cy q_t_choice v_t_choice_found v_t_choice_worth _ (0 : Int32) (-1 : Int32) hr11) (cwV 2 hts gX7_best_X0_begin rfl rfl rfl (by decide +kernel) ⟨Nat.le_of_ble_eq_true rfl, Nat.le_of_ble_eq_true rfl⟩) (xPVw hK hPc hDc (ci := 0) (q0 := 0) rfl rfl) rfl rfl hl.1 rfl (lv_room (Nat.le_of_ble_eq_true rfl)) dX7_best_28 ⟨Nat.le_of_ble_eq_true rfl, Nat.le_of_ble_eq_true rfl⟩) hP hD hS hA [17] rfl rfl (fun H locs hP hD hS => ?_)
        have hP : va_P D vwCl [(q_t, oX7 q_t_now q_t_future q_t_draft q_t_kept v_t_isKept q_t_shelves q_t_tape q_t_reader q_t_hiddenWay q_t_sights q_t_choice q_t_refusals), (q_t_now, oX5 v_t_now_places q_t_now_ways q_t_now_distances v_t_now_people q_t_now_kind q_t_now_a q_t_now_home q_t_now_aim q_t_now_at v_t_now_hour v_t_now_chance v_t_now_seed), (q_t_now_ways, .inl (cy 0, 12, .inl v_t_now_ways)), (q_t_now_distances, .inl (cy 0, 144, .inl v_t_now_distances)), (q_t_now_kind, .inl (cy 0, 8, .inl v_t_now_kind)), (q_t_now_a, .inl (cy 0, 8, .inl v_t_now_a)), (q_t_now_home, .inl (cy 0, 8, .inl v_t_now_home)), (q_t_now_aim, .inl (cy 0, 8, .inl v_t_now_aim)), (q_t_now_at, .inl (cy 0, 8, .inl v_t_now_at)), (q_t_future, oX5 v_t_future_places q_t_future_ways q_t_future_distances v_t_future_people q_t_future_kind q_t_future_a q_t_future_home q_t_future_aim q_t_future_at v_t_future_hour v_t_future_chance v_t_future_seed), (q_t_future_ways, .inl (cy 0, 12, .inl v_t_future_ways)), (q_t_future_distances, .inl (cy 0, 144, .inl v_t_future_distances)), (q_t_future_kind, .inl (cy 0, 8, .inl v_t_future_kind)), (q_t_future_a, .inl (cy 0, 8, .inl v_t_future_a)), (q_t_future_home, .inl (cy 0, 8, .inl v_t_future_home)), (q_t_future_aim, .inl (cy 0, 8, .inl v_t_future_aim)), (q_t_future_at, .inl (cy 0, 8, .inl v_t_future_at)), (q_t_choice, oX0 u9 u10), (q_t_refusals, .inl (cy 0, 5, .inl v_t_refusals))] H := hP
        have hD : va_D A [(q_t, oX7 q_t_now q_t_future q_t_draft q_t_kept v_t_isKept q_t_shelves q_t_tape q_t_reader q_t_hiddenWay q_t_sights q_t_choice q_t_refusals), (q_t_now, oX5 v_t_now_places q_t_now_ways q_t_now_distances v_t_now_people q_t_now_kind q_t_now_a q_t_now_home q_t_now_aim q_t_now_at v_t_now_hour v_t_now_chance v_t_now_seed), (q_t_now_ways, .inl (cy 0, 12, .inl v_t_now_ways)), (q_t_now_distances, .inl (cy 0, 144, .inl v_t_now_distances)), (q_t_now_kind, .inl (cy 0, 8, .inl v_t_now_kind)), (q_t_now_a, .inl (cy 0, 8, .inl v_t_now_a)), (q_t_now_home, .inl (cy 0, 8, .inl v_t_now_home)), (q_t_now_aim, .inl (cy 0, 8, .inl v_t_now_aim)), (q_t_now_at, .inl (cy 0, 8, .inl v_t_now_at)), (q_t_future, oX5 v_t_future_places q_t_future_ways q_t_future_distances v_t_future_people q_t_future_kind q_t_future_a q_t_future_home q_t_future_aim q_t_future_at v_t_future_hour v_t_future_chance v_t_future_seed), (q_t_future_ways, .inl (cy 0, 12, .inl v_t_future_ways)), (q_t_future_distances, .inl (cy 0, 144, .inl v_t_future_distances)), (q_t_future_kind, .inl (cy 0, 8, .inl v_t_future_kind)), (q_t_future_a, .inl (cy 0, 8, .inl v_t_future_a)), (q_t_future_home, .inl (cy 0, 8, .inl v_t_future_home)), (q_t_future_aim, .inl (cy 0, 8, .inl v_t_future_aim)), (q_t_future_at, .inl (cy 0, 8, .inl v_t_future_at)), (q_t_choice, oX0 u9 u10), (q_t_refusals, .inl (cy 0, 5, .inl v_t_refusals))] := hD
        refine lv_iconst (v := 0) hx hb dX7_best_31 (by decide) ?_
        refine lv_istore_n (lv' := [(3, .int (0 : Int32)), (0, .ref q_t), (1, .int p0), (2, .int p1)]) hx hb dX7_best_32 rfl hl (by decide) rfl (fun ls hl => ?_)
        refine wlw15 33 (fun _ _ _ _ _ _ _ _ _ _ _ _ _ _ _ => []) (fun (x12 : Int32) (u13 : Int32) (u14 : Int32) (u15 : Int32) (u16 : Int32) (u17 : Int32) (u18 : Nat → Int32) (u19 : Nat → Int32) (u20 : Nat → Int32) (u21 : Nat → Int32) (u22 : Nat → Int32) (u23 : Nat → Int32) (u24 : Nat → Int32) (u25 : Int32) (u26 : Int32) H locs ls => va_P D vwCl [(q_t, oX7 q_t_now q_t_future q_t_draft q_t_kept v_t_isKept q_t_shelves q_t_tape q_t_reader q_t_hiddenWay q_t_sights q_t_choice q_t_refusals), (q_t_now, oX5 v_t_now_places q_t_now_ways q_t_now_distances v_t_now_people q_t_now_kind q_t_now_a q_t_now_home q_t_now_aim q_t_now_at v_t_now_hour v_t_now_chance v_t_now_seed), (q_t_now_ways, .inl (cy 0, 12, .inl v_t_now_ways)), (q_t_now_distances, .inl (cy 0, 144, .inl v_t_now_distances)), (q_t_now_kind, .inl (cy 0, 8, .inl v_t_now_kind)), (q_t_now_a, .inl (cy 0, 8, .inl v_t_now_a)), (q_t_now_home, .inl (cy 0, 8, .inl v_t_now_home)), (q_t_now_aim, .inl (cy 0, 8, .inl v_t_now_aim)), (q_t_now_at, .inl (cy 0, 8, .inl v_t_now_at)), (q_t_future, oX5 u13 q_t_future_ways q_t_future_distances u14 q_t_future_kind q_t_future_a q_t_future_home q_t_future_aim q_t_future_at u15 u16 u17), (q_t_future_ways, .inl (cy 0, 12, .inl u18)), (q_t_future_distances, .inl (cy 0, 144, .inl u19)), (q_t_future_kind, .inl (cy 0, 8, .inl u20)), (q_t_future_a, .inl (cy 0, 8, .inl u21)), (q_t_future_home, .inl (cy 0, 8, .inl u22)), (q_t_future_aim, .inl (cy 0, 8, .inl u23)), (q_t_future_at, .inl (cy 0, 8, .inl u24)), (q_t_choice, oX0 u25 u26), (q_t_refusals, .inl (cy 0, 5, .inl v_t_refusals))] H ∧ va_D A [(q_t, oX7 q_t_now q_t_future q_t_draft q_t_kept v_t_isKept q_t_shelves q_t_tape q_t_reader q_t_hiddenWay q_t_sights q_t_choice q_t_refusals), (q_t_now, oX5 v_t_now_places q_t_now_ways q_t_now_distances v_t_now_people q_t_now_kind q_t_now_a q_t_now_home q_t_now_aim q_t_now_at v_t_now_hour v_t_now_chance v_t_now_seed), (q_t_now_ways, .inl (cy 0, 12, .inl v_t_now_ways)), (q_t_now_distances, .inl (cy 0, 144, .inl v_t_now_distances)), (q_t_now_kind, .inl (cy 0, 8, .inl v_t_now_kind)), (q_t_now_a, .inl (cy 0, 8, .inl v_t_now_a)), (q_t_now_home, .inl (cy 0, 8, .inl v_t_now_home)), (q_t_now_aim, .inl (cy 0, 8, .inl v_t_now_aim)), (q_t_now_at, .inl (cy 0, 8, .inl v_t_now_at)), (q_t_future, oX5 u13 q_t_future_ways q_t_future_distances u14 q_t_future_kind q_t_future_a q_t_future_home q_t_future_aim q_t_future_at u15 u16 u17), (q_t_future_ways, .inl (cy 0, 12, .inl u18)), (q_t_future_distances, .inl (cy 0, 144, .inl u19)), (q_t_future_kind, .inl (cy 0, 8, .inl u20)), (q_t_future_a, .inl (cy 0, 8, .inl u21)), (q_t_future_home, .inl (cy 0, 8, .inl u22)), (q_t_future_aim, .inl (cy 0, 8, .inl u23)), (q_t_future_at, .inl (cy 0, 8, .inl u24)), (q_t_choice, oX0 u25 u26), (q_t_refusals, .inl (cy 0, 5, .inl v_t_refusals))] ∧ va_S A s.heap H locs ∧ lv_has ls 4 [(3, .int x12), (0, .ref q_t), (1, .int p0), (2, .int p1)]) (fun g27 L33 x12 u13 u14 u15 u16 u17 u18 u19 u20 u21 u22 u23 u24 u25 u26 H locs ls hI hf => ?_) 400 (0 : Int32) v_t_future_places v_t_future_people v_t_future_hour v_t_future_chance v_t_future_seed v_t_future_ways v_t_future_distances v_t_future_kind v_t_future_a v_t_future_home v_t_future_aim v_t_future_at u9 u10 _ _ ls ⟨hP, hD, hS, lv_sub hl [0, 1, 2, 3] rfl⟩ hf
        obtain ⟨hP, hD, hS, hl⟩ := hI
        refine lv_iload_n hx hb dX7_best_33 rfl (lv_at hl 0 rfl) ?_
        refine lv_aload_n hx hb dX7_best_34 rfl (lv_at hl 1 rfl) ?_
        refine va_get (D := D) (ci := 7) (v := .ref q_t_now) (C := RX7) (T := TX7) (N := 12) hx hb hts hinX7 hown hK.1 hP 0 rfl rfl 0 (by decide) hk10 (fun _ h9 => h9) rfl dX7_best_35 ?_
        refine va_get (D := D) (ci := 5) (v := .int v_t_now_places) (C := RX5) (T := TX5) (N := 12) hx hb hts hinX5 hown hK.1 hP 1 rfl rfl 0 (by decide) hk152 (fun _ h9 => h9) rfl dX7_best_38 ?_
        refine lv_icmp_ge (tgt := 94) hx hb dX7_best_41 (by decide) (fun c51 => ?_) (fun c51 => ?_)
        · have hf := ifT hf c51
          clear c51
          refine lv_aload_n hx hb dX7_best_94 rfl (lv_at hl 1 rfl) ?_
          refine va_get (D := D) (ci := 7) (v := .ref q_t_choice) (C := RX7) (T := TX7) (N := 12) hx hb hts hinX7 hown hK.1 hP 0 rfl rfl 10 (by decide) hk61 (fun _ h9 => h9) rfl dX7_best_95 ?_
          refine va_get (D := D) (ci := 0) (v := .int u25) (C := RX0) (T := TX0) (N := 2) hx hb hts hinX0 hown hK.1 hP 17 rfl rfl 0 (by decide) hk251 (fun _ h9 => h9) rfl dX7_best_98 ?_
          have hg0 := Option.some.inj hf
          obtain ⟨ee0, hg1⟩ := Prod.mk.inj hg0
          obtain ⟨ee1, hg2⟩ := Prod.mk.inj hg1
          obtain ⟨ee2, hg3⟩ := Prod.mk.inj hg2
          obtain ⟨ee3, hg4⟩ := Prod.mk.inj hg3
          obtain ⟨ee4, hg5⟩ := Prod.mk.inj hg4
          obtain ⟨ee5, hg6⟩ := Prod.mk.inj hg5
          obtain ⟨ee6, hg7⟩ := Prod.mk.inj hg6
          obtain ⟨ee7, hg8⟩ := Prod.mk.inj hg7
          obtain ⟨ee8, hg9⟩ := Prod.mk.inj hg8
          obtain ⟨ee9, hg10⟩ := Prod.mk.inj hg9
          obtain ⟨ee10, hg11⟩ := Prod.mk.inj hg10
          obtain ⟨ee11, hg12⟩ := Prod.mk.inj hg11
          obtain ⟨ee12, hg13⟩ := Prod.mk.inj hg12
          obtain ⟨ee13, hg14⟩ := Prod.mk.inj hg13
          obtain ⟨ee14, hg15⟩ := Prod.mk.inj hg14
          clear hf hg0 hg1 hg2 hg3 hg4 hg5 hg6 hg7 hg8 hg9 hg10 hg11 hg12 hg13 hg14
          subst ee0
          subst ee1
          subst ee2
          subst ee3
          subst ee4
          subst ee5
          subst ee6
          subst ee7
          subst ee8
          subst ee9
          subst ee10
          subst ee11
          subst ee12
          subst ee13
          subst ee14
          subst hg15
          exact W.iret hx hb hr (fun t ht hW => ⟨⟨_, (), rfl, rfl, xend ht hP⟩, hS.F ht⟩) hS.2.2 dX7_best_101
        · have hf := ifF hf c51
          clear c51
          refine lv_aload_n hx hb dX7_best_44 rfl (lv_at hl 1 rfl) ?_
          refine va_get (D := D) (ci := 7) (v := .ref q_t_future) (C := RX7) (T := TX7) (N := 12) hx hb hts hinX7 hown hK.1 hP 0 rfl rfl 1 (by decide) hk16 (fun _ h9 => h9) rfl dX7_best_45 ?_
          refine lv_aload_n hx hb dX7_best_48 rfl (lv_at hl 1 rfl) ?_
          refine va_get (D := D) (ci := 7) (v := .ref q_t_now) (C := RX7) (T := TX7) (N := 12) hx hb hts hinX7 hown hK.1 hP 0 rfl rfl 0 (by decide) hk10 (fun _ h9 => h9) rfl dX7_best_49 ?_
          obtain ⟨u28, u29, u30, u31, u32, u33, u34, u35, u36, u37, u38, u39, hr40, hf⟩ := boE12 hf
          have hPc := hP.sub (ws' := [(q_t_future, oX5 u13 q_t_future_ways q_t_future_distances u14 q_t_future_kind q_t_future_a q_t_future_home q_t_future_aim q_t_future_at u15 u16 u17), (q_t_future_ways, .inl (cy 0, 12, .inl u18)), (q_t_future_distances, .inl (cy 0, 144, .inl u19)), (q_t_future_kind, .inl (cy 0, 8, .inl u20)), (q_t_future_a, .inl (cy 0, 8, .inl u21)), (q_t_future_home, .inl (cy 0, 8, .inl u22)), (q_t_future_aim, .inl (cy 0, 8, .inl u23)), (q_t_future_at, .inl (cy 0, 8, .inl u24)), (q_t_now, oX5 v_t_now_places q_t_now_ways q_t_now_distances v_t_now_people q_t_now_kind q_t_now_a q_t_now_home q_t_now_aim q_t_now_at v_t_now_hour v_t_now_chance v_t_now_seed), (q_t_now_ways, .inl (cy 0, 12, .inl v_t_now_ways)), (q_t_now_distances, .inl (cy 0, 144, .inl v_t_now_distances)), (q_t_now_kind, .inl (cy 0, 8, .inl v_t_now_kind)), (q_t_now_a, .inl (cy 0, 8, .inl v_t_now_a)), (q_t_now_home, .inl (cy 0, 8, .inl v_t_now_home)), (q_t_now_aim, .inl (cy 0, 8, .inl v_t_now_aim)), (q_t_now_at, .inl (cy 0, 8, .inl v_t_now_at))]) [9, 10, 11, 12, 13, 14, 15, 16, 1, 2, 3, 4, 5, 6, 7, 8] rfl
          have hDc := hD.sub (ws' := [(q_t_future, oX5 u13 q_t_future_ways q_t_future_distances u14 q_t_future_kind q_t_future_a q_t_future_home q_t_future_aim q_t_future_at u15 u16 u17), (q_t_future_ways, .inl (cy 0, 12, .inl u18)), (q_t_future_distances, .inl (cy 0, 144, .inl u19)), (q_t_future_kind, .inl (cy 0, 8, .inl u20)), (q_t_future_a, .inl (cy 0, 8, .inl u21)), (q_t_future_home, .inl (cy 0, 8, .inl u22)), (q_t_future_aim, .inl (cy 0, 8, .inl u23)), (q_t_future_at, .inl (cy 0, 8, .inl u24)), (q_t_now, oX5 v_t_now_places q_t_now_ways q_t_now_distances v_t_now_people q_t_now_kind q_t_now_a q_t_now_home q_t_now_aim q_t_now_at v_t_now_hour v_t_now_chance v_t_now_seed), (q_t_now_ways, .inl (cy 0, 12, .inl v_t_now_ways)), (q_t_now_distances, .inl (cy 0, 144, .inl v_t_now_distances)), (q_t_now_kind, .inl (cy 0, 8, .inl v_t_now_kind)), (q_t_now_a, .inl (cy 0, 8, .inl v_t_now_a)), (q_t_now_home, .inl (cy 0, 8, .inl v_t_now_home)), (q_t_now_aim, .inl (cy 0, 8, .inl v_t_now_aim)), (q_t_now_at, .inl (cy 0, 8, .inl v_t_now_at))]) [9, 10, 11, 12, 13, 14, 15, 16, 1, 2, 3, 4, 5, 6, 7, 8] (by decide) rfl
          refine xcQv (w1 := [(q_t_future, oX5 u28 q_t_future_ways q_t_future_distances u29 q_t_future_kind q_t_future_a q_t_future_home q_t_future_aim q_t_future_at u30 u31 u32), (q_t_future_ways, .inl (cy 0, 12, .inl u33)), (q_t_future_distances, .inl (cy 0, 144, .inl u34)), (q_t_future_kind, .inl (cy 0, 8, .inl u35)), (q_t_future_a, .inl (cy 0, 8, .inl u36)), (q_t_future_home, .inl (cy 0, 8, .inl u37)), (q_t_future_aim, .inl (cy 0, 8, .inl u38)), (q_t_future_at, .inl (cy 0, 8, .inl u39)), (q_t_now, oX5 v_t_now_places q_t_now_ways q_t_now_distances v_t_now_people q_t_now_kind q_t_now_a q_t_now_home q_t_now_aim q_t_now_at v_t_now_hour v_t_now_chance v_t_now_seed), (q_t_now_ways, .inl (cy 0, 12, .inl v_t_now_ways)), (q_t_now_distances, .inl (cy 0, 144, .inl v_t_now_distances)), (q_t_now_kind, .inl (cy 0, 8, .inl v_t_now_kind)), (q_t_now_a, .inl (cy 0, 8, .inl v_t_now_a)), (q_t_now_home, .inl (cy 0, 8, .inl v_t_now_home)), (q_t_now_aim, .inl (cy 0, 8, .inl v_t_now_aim)), (q_t_now_at, .inl (cy 0, 8, .inl v_t_now_at))]) (va_runV (As := [.ref q_t_now]) (rest := []) ⟨hx, hb, hml, hown, hts⟩ (mX5_become l D cy q_t_future q_t_now q_t_future_ways q_t_future_distances q_t_future_kind q_t_future_a q_t_future_home q_t_future_aim q_t_future_at q_t_now_ways q_t_now_distances q_t_now_kind q_t_now_a q_t_now_home q_t_now_aim q_t_now_at u13 u14 u15 u16 u17 u18 u19 u20 u21 u22 u23 u24 v_t_now_places v_t_now_people v_t_now_hour v_t_now_chance v_t_now_seed v_t_now_ways v_t_now_distances v_t_now_kind v_t_now_a v_t_now_home v_t_now_aim v_t_now_at _  hr40) (cwV 1 hts gX7_best_X5_become rfl rfl rfl (by decide +kernel) ⟨Nat.le_of_ble_eq_true rfl, Nat.le_of_ble_eq_true rfl⟩) (xPVw hK hPc hDc (ci := 5) (q0 := 0) rfl rfl) rfl rfl hl.1 rfl (lv_room (Nat.le_of_ble_eq_true rfl)) dX7_best_52 ⟨Nat.le_of_ble_eq_true rfl, Nat.le_of_ble_eq_true rfl⟩) hP hD hS hA [9, 10, 11, 12, 13, 14, 15, 16, 1, 2, 3, 4, 5, 6, 7, 8] rfl rfl (fun H locs hP hD hS => ?_)
          have hP : va_P D vwCl [(q_t, oX7 q_t_now q_t_future q_t_draft q_t_kept v_t_isKept q_t_shelves q_t_tape q_t_reader q_t_hiddenWay q_t_sights q_t_choice q_t_refusals), (q_t_now, oX5 v_t_now_places q_t_now_ways q_t_now_distances v_t_now_people q_t_now_kind q_t_now_a q_t_now_home q_t_now_aim q_t_now_at v_t_now_hour v_t_now_chance v_t_now_seed), (q_t_now_ways, .inl (cy 0, 12, .inl v_t_now_ways)), (q_t_now_distances, .inl (cy 0, 144, .inl v_t_now_distances)), (q_t_now_kind, .inl (cy 0, 8, .inl v_t_now_kind)), (q_t_now_a, .inl (cy 0, 8, .inl v_t_now_a)), (q_t_now_home, .inl (cy 0, 8, .inl v_t_now_home)), (q_t_now_aim, .inl (cy 0, 8, .inl v_t_now_aim)), (q_t_now_at, .inl (cy 0, 8, .inl v_t_now_at)), (q_t_future, oX5 u28 q_t_future_ways q_t_future_distances u29 q_t_future_kind q_t_future_a q_t_future_home q_t_future_aim q_t_future_at u30 u31 u32), (q_t_future_ways, .inl (cy 0, 12, .inl u33)), (q_t_future_distances, .inl (cy 0, 144, .inl u34)), (q_t_future_kind, .inl (cy 0, 8, .inl u35)), (q_t_future_a, .inl (cy 0, 8, .inl u36)), (q_t_future_home, .inl (cy 0, 8, .inl u37)), (q_t_future_aim, .inl (cy 0, 8, .inl u38)), (q_t_future_at, .inl (cy 0, 8, .inl u39)), (q_t_choice, oX0 u25 u26), (q_t_refusals, .inl (cy 0, 5, .inl v_t_refusals))] H := hP
          have hD : va_D A [(q_t, oX7 q_t_now q_t_future q_t_draft q_t_kept v_t_isKept q_t_shelves q_t_tape q_t_reader q_t_hiddenWay q_t_sights q_t_choice q_t_refusals), (q_t_now, oX5 v_t_now_places q_t_now_ways q_t_now_distances v_t_now_people q_t_now_kind q_t_now_a q_t_now_home q_t_now_aim q_t_now_at v_t_now_hour v_t_now_chance v_t_now_seed), (q_t_now_ways, .inl (cy 0, 12, .inl v_t_now_ways)), (q_t_now_distances, .inl (cy 0, 144, .inl v_t_now_distances)), (q_t_now_kind, .inl (cy 0, 8, .inl v_t_now_kind)), (q_t_now_a, .inl (cy 0, 8, .inl v_t_now_a)), (q_t_now_home, .inl (cy 0, 8, .inl v_t_now_home)), (q_t_now_aim, .inl (cy 0, 8, .inl v_t_now_aim)), (q_t_now_at, .inl (cy 0, 8, .inl v_t_now_at)), (q_t_future, oX5 u28 q_t_future_ways q_t_future_distances u29 q_t_future_kind q_t_future_a q_t_future_home q_t_future_aim q_t_future_at u30 u31 u32), (q_t_future_ways, .inl (cy 0, 12, .inl u33)), (q_t_future_distances, .inl (cy 0, 144, .inl u34)), (q_t_future_kind, .inl (cy 0, 8, .inl u35)), (q_t_future_a, .inl (cy 0, 8, .inl u36)), (q_t_future_home, .inl (cy 0, 8, .inl u37)), (q_t_future_aim, .inl (cy 0, 8, .inl u38)), (q_t_future_at, .inl (cy 0, 8, .inl u39)), (q_t_choice, oX0 u25 u26), (q_t_refusals, .inl (cy 0, 5, .inl v_t_refusals))] := hD
          refine lv_aload_n hx hb dX7_best_55 rfl (lv_at hl 1 rfl) ?_
          refine va_get (D := D) (ci := 7) (v := .ref q_t_future) (C := RX7) (T := TX7) (N := 12) hx hb hts hinX7 hown hK.1 hP 0 rfl rfl 1 (by decide) hk16 (fun _ h9 => h9) rfl dX7_best_56 ?_
          refine va_get (D := D) (ci := 5) (v := .ref q_t_future_at) (C := RX5) (T := TX5) (N := 12) hx hb hts hinX5 hown hK.1 hP 9 rfl rfl 8 (by decide) hk149 (fun _ h9 => h9) rfl dX7_best_59 ?_
          refine lv_iload_n hx hb dX7_best_62 rfl (lv_at hl 2 rfl) ?_
          refine lv_iload_n hx hb dX7_best_63 rfl (lv_at hl 0 rfl) ?_
          obtain ⟨hi41, hf⟩ := ckE hf
          refine va_iast hx hb hK.1 hP hD hS 16 0 rfl rfl hi41 dX7_best_64 (fun H locs hP hD hS => ?_)
          have hP : va_P D vwCl [(q_t, oX7 q_t_now q_t_future q_t_draft q_t_kept v_t_isKept q_t_shelves q_t_tape q_t_reader q_t_hiddenWay q_t_sights q_t_choice q_t_refusals), (q_t_now, oX5 v_t_now_places q_t_now_ways q_t_now_distances v_t_now_people q_t_now_kind q_t_now_a q_t_now_home q_t_now_aim q_t_now_at v_t_now_hour v_t_now_chance v_t_now_seed), (q_t_now_ways, .inl (cy 0, 12, .inl v_t_now_ways)), (q_t_now_distances, .inl (cy 0, 144, .inl v_t_now_distances)), (q_t_now_kind, .inl (cy 0, 8, .inl v_t_now_kind)), (q_t_now_a, .inl (cy 0, 8, .inl v_t_now_a)), (q_t_now_home, .inl (cy 0, 8, .inl v_t_now_home)), (q_t_now_aim, .inl (cy 0, 8, .inl v_t_now_aim)), (q_t_now_at, .inl (cy 0, 8, .inl v_t_now_at)), (q_t_future, oX5 u28 q_t_future_ways q_t_future_distances u29 q_t_future_kind q_t_future_a q_t_future_home q_t_future_aim q_t_future_at u30 u31 u32), (q_t_future_ways, .inl (cy 0, 12, .inl u33)), (q_t_future_distances, .inl (cy 0, 144, .inl u34)), (q_t_future_kind, .inl (cy 0, 8, .inl u35)), (q_t_future_a, .inl (cy 0, 8, .inl u36)), (q_t_future_home, .inl (cy 0, 8, .inl u37)), (q_t_future_aim, .inl (cy 0, 8, .inl u38)), (q_t_future_at, .inl (cy 0, 8, .inl (upd u39 p0.toNatClampNeg x12))), (q_t_choice, oX0 u25 u26), (q_t_refusals, .inl (cy 0, 5, .inl v_t_refusals))] H := hP
          have hD : va_D A [(q_t, oX7 q_t_now q_t_future q_t_draft q_t_kept v_t_isKept q_t_shelves q_t_tape q_t_reader q_t_hiddenWay q_t_sights q_t_choice q_t_refusals), (q_t_now, oX5 v_t_now_places q_t_now_ways q_t_now_distances v_t_now_people q_t_now_kind q_t_now_a q_t_now_home q_t_now_aim q_t_now_at v_t_now_hour v_t_now_chance v_t_now_seed), (q_t_now_ways, .inl (cy 0, 12, .inl v_t_now_ways)), (q_t_now_distances, .inl (cy 0, 144, .inl v_t_now_distances)), (q_t_now_kind, .inl (cy 0, 8, .inl v_t_now_kind)), (q_t_now_a, .inl (cy 0, 8, .inl v_t_now_a)), (q_t_now_home, .inl (cy 0, 8, .inl v_t_now_home)), (q_t_now_aim, .inl (cy 0, 8, .inl v_t_now_aim)), (q_t_now_at, .inl (cy 0, 8, .inl v_t_now_at)), (q_t_future, oX5 u28 q_t_future_ways q_t_future_distances u29 q_t_future_kind q_t_future_a q_t_future_home q_t_future_aim q_t_future_at u30 u31 u32), (q_t_future_ways, .inl (cy 0, 12, .inl u33)), (q_t_future_distances, .inl (cy 0, 144, .inl u34)), (q_t_future_kind, .inl (cy 0, 8, .inl u35)), (q_t_future_a, .inl (cy 0, 8, .inl u36)), (q_t_future_home, .inl (cy 0, 8, .inl u37)), (q_t_future_aim, .inl (cy 0, 8, .inl u38)), (q_t_future_at, .inl (cy 0, 8, .inl (upd u39 p0.toNatClampNeg x12))), (q_t_choice, oX0 u25 u26), (q_t_refusals, .inl (cy 0, 5, .inl v_t_refusals))] := hD
          refine lv_aload_n hx hb dX7_best_65 rfl (lv_at hl 1 rfl) ?_
          refine va_get (D := D) (ci := 7) (v := .ref q_t_future) (C := RX7) (T := TX7) (N := 12) hx hb hts hinX7 hown hK.1 hP 0 rfl rfl 1 (by decide) hk16 (fun _ h9 => h9) rfl dX7_best_66 ?_
          refine lv_iload_n hx hb dX7_best_69 rfl (lv_at hl 3 rfl) ?_
          obtain ⟨u42, u43, hr44, hf⟩ := boE2 hf
          have hPc := hP.sub (ws' := [(q_t_future, oX5 u28 q_t_future_ways q_t_future_distances u29 q_t_future_kind q_t_future_a q_t_future_home q_t_future_aim q_t_future_at u30 u31 u32), (q_t_future_ways, .inl (cy 0, 12, .inl u33)), (q_t_future_distances, .inl (cy 0, 144, .inl u34)), (q_t_future_kind, .inl (cy 0, 8, .inl u35)), (q_t_future_home, .inl (cy 0, 8, .inl u37)), (q_t_future_aim, .inl (cy 0, 8, .inl u38)), (q_t_future_at, .inl (cy 0, 8, .inl (upd u39 p0.toNatClampNeg x12)))]) [9, 10, 11, 12, 14, 15, 16] rfl
          have hDc := hD.sub (ws' := [(q_t_future, oX5 u28 q_t_future_ways q_t_future_distances u29 q_t_future_kind q_t_future_a q_t_future_home q_t_future_aim q_t_future_at u30 u31 u32), (q_t_future_ways, .inl (cy 0, 12, .inl u33)), (q_t_future_distances, .inl (cy 0, 144, .inl u34)), (q_t_future_kind, .inl (cy 0, 8, .inl u35)), (q_t_future_home, .inl (cy 0, 8, .inl u37)), (q_t_future_aim, .inl (cy 0, 8, .inl u38)), (q_t_future_at, .inl (cy 0, 8, .inl (upd u39 p0.toNatClampNeg x12)))]) [9, 10, 11, 12, 14, 15, 16] (by decide) rfl
          refine xcQv (w1 := [(q_t_future, oX5 u28 q_t_future_ways q_t_future_distances u29 q_t_future_kind q_t_future_a q_t_future_home q_t_future_aim q_t_future_at u42 u31 u32), (q_t_future_ways, .inl (cy 0, 12, .inl u33)), (q_t_future_distances, .inl (cy 0, 144, .inl u34)), (q_t_future_kind, .inl (cy 0, 8, .inl u35)), (q_t_future_home, .inl (cy 0, 8, .inl u37)), (q_t_future_aim, .inl (cy 0, 8, .inl u38)), (q_t_future_at, .inl (cy 0, 8, .inl u43))]) (va_runV (As := [.int p1]) (rest := []) ⟨hx, hb, hml, hown, hts⟩ (mX5_passHours l D cy q_t_future q_t_future_ways q_t_future_distances q_t_future_kind q_t_future_a q_t_future_home q_t_future_aim q_t_future_at u28 u29 u30 u31 u32 u33 u34 u35 u37 u38 (upd u39 p0.toNatClampNeg x12) _ p1 hr44) (cwV 1 hts gX7_best_X5_passHours rfl rfl rfl (by decide +kernel) ⟨Nat.le_of_ble_eq_true rfl, Nat.le_of_ble_eq_true rfl⟩) (xPVw hK hPc hDc (ci := 5) (q0 := 0) rfl rfl) rfl rfl hl.1 rfl (lv_room (Nat.le_of_ble_eq_true rfl)) dX7_best_70 ⟨Nat.le_of_ble_eq_true rfl, Nat.le_of_ble_eq_true rfl⟩) hP hD hS hA [9, 10, 11, 12, 14, 15, 16] rfl rfl (fun H locs hP hD hS => ?_)
          have hP : va_P D vwCl [(q_t, oX7 q_t_now q_t_future q_t_draft q_t_kept v_t_isKept q_t_shelves q_t_tape q_t_reader q_t_hiddenWay q_t_sights q_t_choice q_t_refusals), (q_t_now, oX5 v_t_now_places q_t_now_ways q_t_now_distances v_t_now_people q_t_now_kind q_t_now_a q_t_now_home q_t_now_aim q_t_now_at v_t_now_hour v_t_now_chance v_t_now_seed), (q_t_now_ways, .inl (cy 0, 12, .inl v_t_now_ways)), (q_t_now_distances, .inl (cy 0, 144, .inl v_t_now_distances)), (q_t_now_kind, .inl (cy 0, 8, .inl v_t_now_kind)), (q_t_now_a, .inl (cy 0, 8, .inl v_t_now_a)), (q_t_now_home, .inl (cy 0, 8, .inl v_t_now_home)), (q_t_now_aim, .inl (cy 0, 8, .inl v_t_now_aim)), (q_t_now_at, .inl (cy 0, 8, .inl v_t_now_at)), (q_t_future, oX5 u28 q_t_future_ways q_t_future_distances u29 q_t_future_kind q_t_future_a q_t_future_home q_t_future_aim q_t_future_at u42 u31 u32), (q_t_future_ways, .inl (cy 0, 12, .inl u33)), (q_t_future_distances, .inl (cy 0, 144, .inl u34)), (q_t_future_kind, .inl (cy 0, 8, .inl u35)), (q_t_future_a, .inl (cy 0, 8, .inl u36)), (q_t_future_home, .inl (cy 0, 8, .inl u37)), (q_t_future_aim, .inl (cy 0, 8, .inl u38)), (q_t_future_at, .inl (cy 0, 8, .inl u43)), (q_t_choice, oX0 u25 u26), (q_t_refusals, .inl (cy 0, 5, .inl v_t_refusals))] H := hP
          have hD : va_D A [(q_t, oX7 q_t_now q_t_future q_t_draft q_t_kept v_t_isKept q_t_shelves q_t_tape q_t_reader q_t_hiddenWay q_t_sights q_t_choice q_t_refusals), (q_t_now, oX5 v_t_now_places q_t_now_ways q_t_now_distances v_t_now_people q_t_now_kind q_t_now_a q_t_now_home q_t_now_aim q_t_now_at v_t_now_hour v_t_now_chance v_t_now_seed), (q_t_now_ways, .inl (cy 0, 12, .inl v_t_now_ways)), (q_t_now_distances, .inl (cy 0, 144, .inl v_t_now_distances)), (q_t_now_kind, .inl (cy 0, 8, .inl v_t_now_kind)), (q_t_now_a, .inl (cy 0, 8, .inl v_t_now_a)), (q_t_now_home, .inl (cy 0, 8, .inl v_t_now_home)), (q_t_now_aim, .inl (cy 0, 8, .inl v_t_now_aim)), (q_t_now_at, .inl (cy 0, 8, .inl v_t_now_at)), (q_t_future, oX5 u28 q_t_future_ways q_t_future_distances u29 q_t_future_kind q_t_future_a q_t_future_home q_t_future_aim q_t_future_at u42 u31 u32), (q_t_future_ways, .inl (cy 0, 12, .inl u33)), (q_t_future_distances, .inl (cy 0, 144, .inl u34)), (q_t_future_kind, .inl (cy 0, 8, .inl u35)), (q_t_future_a, .inl (cy 0, 8, .inl u36)), (q_t_future_home, .inl (cy 0, 8, .inl u37)), (q_t_future_aim, .inl (cy 0, 8, .inl u38)), (q_t_future_at, .inl (cy 0, 8, .inl u43)), (q_t_choice, oX0 u25 u26), (q_t_refusals, .inl (cy 0, 5, .inl v_t_refusals))] := hD
          refine lv_aload_n hx hb dX7_best_73 rfl (lv_at hl 1 rfl) ?_
          refine va_get (D := D) (ci := 7) (v := .ref q_t_choice) (C := RX7) (T := TX7) (N := 12) hx hb hts hinX7 hown hK.1 hP 0 rfl rfl 10 (by decide) hk61 (fun _ h9 => h9) rfl dX7_best_74 ?_
          refine lv_iload_n hx hb dX7_best_77 rfl (lv_at hl 0 rfl) ?_
          refine lv_aload_n hx hb dX7_best_78 rfl (lv_at hl 1 rfl) ?_
          refine va_get (D := D) (ci := 7) (v := .ref q_t_future) (C := RX7) (T := TX7) (N := 12) hx hb hts hinX7 hown hK.1 hP 0 rfl rfl 1 (by decide) hk16 (fun _ h9 => h9) rfl dX7_best_79 ?_
          obtain ⟨r45, hr46, hf⟩ := boE1 hf
          have hPc := hP.sub (ws' := [(q_t_future, oX5 u28 q_t_future_ways q_t_future_distances u29 q_t_future_kind q_t_future_a q_t_future_home q_t_future_aim q_t_future_at u42 u31 u32), (q_t_future_kind, .inl (cy 0, 8, .inl u35)), (q_t_future_at, .inl (cy 0, 8, .inl u43))]) [9, 12, 16] rfl
          refine xcSi (va_runV (As := []) (rest := [.int x12, .ref q_t_choice]) ⟨hx, hb, hml, hown, hts⟩ (mX5_shiningCount l D cy q_t_future q_t_future_ways q_t_future_distances q_t_future_kind q_t_future_a q_t_future_home q_t_future_aim q_t_future_at u28 u29 u42 u31 u32 u35 u43   hr46) (cwV 0 hts gX7_best_X5_shiningCount rfl rfl rfl (by decide +kernel) ⟨Nat.le_of_ble_eq_true rfl, Nat.le_of_ble_eq_true rfl⟩) (xPV hK hPc (ci := 5) (q0 := 0) rfl rfl) rfl rfl hl.1 rfl (lv_room (Nat.le_of_ble_eq_true rfl)) dX7_best_82 ⟨Nat.le_of_ble_eq_true rfl, Nat.le_of_ble_eq_true rfl⟩) ?_
          obtain ⟨u47, u48, hr49, hf⟩ := boE2 hf
          have hPc := hP.sub (ws' := [(q_t_choice, oX0 u25 u26)]) [17] rfl
          have hDc := hD.sub (ws' := [(q_t_choice, oX0 u25 u26)]) [17] (by decide) rfl
          refine xcQv (w1 := [(q_t_choice, oX0 u47 u48)]) (va_runV (As := [.int x12, .int r45]) (rest := []) ⟨hx, hb, hml, hown, hts⟩ (mX0_offer l D cy q_t_choice u25 u26 _ x12 r45 hr49) (cwV 2 hts gX7_best_X0_offer rfl rfl rfl (by decide +kernel) ⟨Nat.le_of_ble_eq_true rfl, Nat.le_of_ble_eq_true rfl⟩) (xPVw hK hPc hDc (ci := 0) (q0 := 0) rfl rfl) rfl rfl hl.1 rfl (lv_room (Nat.le_of_ble_eq_true rfl)) dX7_best_85 ⟨Nat.le_of_ble_eq_true rfl, Nat.le_of_ble_eq_true rfl⟩) hP hD hS hA [17] rfl rfl (fun H locs hP hD hS => ?_)
          have hP : va_P D vwCl [(q_t, oX7 q_t_now q_t_future q_t_draft q_t_kept v_t_isKept q_t_shelves q_t_tape q_t_reader q_t_hiddenWay q_t_sights q_t_choice q_t_refusals), (q_t_now, oX5 v_t_now_places q_t_now_ways q_t_now_distances v_t_now_people q_t_now_kind q_t_now_a q_t_now_home q_t_now_aim q_t_now_at v_t_now_hour v_t_now_chance v_t_now_seed), (q_t_now_ways, .inl (cy 0, 12, .inl v_t_now_ways)), (q_t_now_distances, .inl (cy 0, 144, .inl v_t_now_distances)), (q_t_now_kind, .inl (cy 0, 8, .inl v_t_now_kind)), (q_t_now_a, .inl (cy 0, 8, .inl v_t_now_a)), (q_t_now_home, .inl (cy 0, 8, .inl v_t_now_home)), (q_t_now_aim, .inl (cy 0, 8, .inl v_t_now_aim)), (q_t_now_at, .inl (cy 0, 8, .inl v_t_now_at)), (q_t_future, oX5 u28 q_t_future_ways q_t_future_distances u29 q_t_future_kind q_t_future_a q_t_future_home q_t_future_aim q_t_future_at u42 u31 u32), (q_t_future_ways, .inl (cy 0, 12, .inl u33)), (q_t_future_distances, .inl (cy 0, 144, .inl u34)), (q_t_future_kind, .inl (cy 0, 8, .inl u35)), (q_t_future_a, .inl (cy 0, 8, .inl u36)), (q_t_future_home, .inl (cy 0, 8, .inl u37)), (q_t_future_aim, .inl (cy 0, 8, .inl u38)), (q_t_future_at, .inl (cy 0, 8, .inl u43)), (q_t_choice, oX0 u47 u48), (q_t_refusals, .inl (cy 0, 5, .inl v_t_refusals))] H := hP
          have hD : va_D A [(q_t, oX7 q_t_now q_t_future q_t_draft q_t_kept v_t_isKept q_t_shelves q_t_tape q_t_reader q_t_hiddenWay q_t_sights q_t_choice q_t_refusals), (q_t_now, oX5 v_t_now_places q_t_now_ways q_t_now_distances v_t_now_people q_t_now_kind q_t_now_a q_t_now_home q_t_now_aim q_t_now_at v_t_now_hour v_t_now_chance v_t_now_seed), (q_t_now_ways, .inl (cy 0, 12, .inl v_t_now_ways)), (q_t_now_distances, .inl (cy 0, 144, .inl v_t_now_distances)), (q_t_now_kind, .inl (cy 0, 8, .inl v_t_now_kind)), (q_t_now_a, .inl (cy 0, 8, .inl v_t_now_a)), (q_t_now_home, .inl (cy 0, 8, .inl v_t_now_home)), (q_t_now_aim, .inl (cy 0, 8, .inl v_t_now_aim)), (q_t_now_at, .inl (cy 0, 8, .inl v_t_now_at)), (q_t_future, oX5 u28 q_t_future_ways q_t_future_distances u29 q_t_future_kind q_t_future_a q_t_future_home q_t_future_aim q_t_future_at u42 u31 u32), (q_t_future_ways, .inl (cy 0, 12, .inl u33)), (q_t_future_distances, .inl (cy 0, 144, .inl u34)), (q_t_future_kind, .inl (cy 0, 8, .inl u35)), (q_t_future_a, .inl (cy 0, 8, .inl u36)), (q_t_future_home, .inl (cy 0, 8, .inl u37)), (q_t_future_aim, .inl (cy 0, 8, .inl u38)), (q_t_future_at, .inl (cy 0, 8, .inl u43)), (q_t_choice, oX0 u47 u48), (q_t_refusals, .inl (cy 0, 5, .inl v_t_refusals))] := hD
          obtain ⟨x50, ex50⟩ : ∃ y : Int32, y = x12 + (1 : Int32) := ⟨_, rfl⟩
          have hf := vlE hf ex50
          refine lv_iinc (v := x50) (lv' := [(3, .int x50), (0, .ref q_t), (1, .int p0), (2, .int p1)]) hx hb dX7_best_88 hl (k := 0) rfl (by rw [ex50]; rfl) (by decide) rfl (fun ls hl => ?_)
          clear ex50
          refine lv_goto (tgt := 33) hx hb dX7_best_91 (by decide) ?_
          exact L33 x50 u28 u29 u42 u31 u32 u33 u34 u35 u36 u37 u38 u43 u47 u48 _ _ ls ⟨hP, hD, hS, lv_sub hl [0, 1, 2, 3] rfl⟩ hf
      · have hf := ifT hf c52
        clear c52
        exact J15 _ _ ls ⟨hP, hD, hS, lv_sub hl [0] rfl⟩ hf
def fX7_middle (v_t_now_places : Int32) (v_t_now_people : Int32) (v_t_now_distances : Nat → Int32) (v_t_now_at : Nat → Int32) (v_t_choice_found : Int32) (v_t_choice_worth : Int32) (v_t_refusals : Nat → Int32) : Option (Int32 × Int32 × Int32 × (Nat → Int32)) :=
  if v_t_now_people = 0 then
    bo2 (fX7_refuse v_t_refusals (-5 : Int32)) fun r17 u18 =>
    some (r17, v_t_choice_found, v_t_choice_worth, u18)
  else
    bo1 (fX5_farTogether v_t_now_people v_t_now_distances v_t_now_at (0 : Int32)) fun r1 =>
    bo2 (fX0_begin (0 : Int32) (-r1)) fun u3 u4 =>
    lo3 (fun g9 (x6 : Int32) (u7 : Int32) (u8 : Int32) =>
      if v_t_now_places ≤ x6 then
        some (u7, u7, u8, v_t_refusals)
      else
        bo1 (fX5_farTogether v_t_now_people v_t_now_distances v_t_now_at x6) fun r10 =>
        bo2 (fX0_offer u7 u8 x6 (-r10)) fun u12 u13 =>
        vlet (x6 + (1 : Int32)) fun x15 =>
        g9 x15 u12 u13) 400 (1 : Int32) u3 u4
set_option maxHeartbeats 4000000 in
set_option maxRecDepth 100000 in
theorem mX7_middle (l : Launch) (D : va_G) (cy : Nat → ClassId) (q_t q_t_now q_t_future q_t_draft q_t_kept q_t_shelves q_t_tape q_t_reader q_t_hiddenWay q_t_sights q_t_choice q_t_refusals q_t_now_ways q_t_now_distances q_t_now_kind q_t_now_a q_t_now_home q_t_now_aim q_t_now_at : Nat) (v_t_isKept : Int32) (v_t_now_places : Int32) (v_t_now_people : Int32) (v_t_now_hour : Int32) (v_t_now_chance : Int32) (v_t_now_seed : Int32) (v_t_now_distances : Nat → Int32) (v_t_now_at : Nat → Int32) (v_t_choice_found : Int32) (v_t_choice_worth : Int32) (v_t_refusals : Nat → Int32) (sz : Nat) {r_ : Int32} {n_t_choice_found : Int32} {n_t_choice_worth : Int32} {n_t_refusals : Nat → Int32} (hf : fX7_middle v_t_now_places v_t_now_people v_t_now_distances v_t_now_at v_t_choice_found v_t_choice_worth v_t_refusals = some (r_, n_t_choice_found, n_t_choice_worth, n_t_refusals)) : Met l yX7_middle wsX7_middle ({ frames := 2, cells := 0, slots := 0, locals := 46 }) (va_Pc [.ref q_t] (fun U => U.heap.size = sz ∧ va_P D vwCl [(q_t, oX7 q_t_now q_t_future q_t_draft q_t_kept v_t_isKept q_t_shelves q_t_tape q_t_reader q_t_hiddenWay q_t_sights q_t_choice q_t_refusals), (q_t_now, oX5 v_t_now_places q_t_now_ways q_t_now_distances v_t_now_people q_t_now_kind q_t_now_a q_t_now_home q_t_now_aim q_t_now_at v_t_now_hour v_t_now_chance v_t_now_seed), (q_t_now_distances, .inl (cy 0, 144, .inl v_t_now_distances)), (q_t_now_at, .inl (cy 0, 8, .inl v_t_now_at)), (q_t_choice, oX0 v_t_choice_found v_t_choice_worth), (q_t_refusals, .inl (cy 0, 5, .inl v_t_refusals))] U.heap ∧ xK D cy U ∧ va_D (fun _ => True) [(q_t, oX7 q_t_now q_t_future q_t_draft q_t_kept v_t_isKept q_t_shelves q_t_tape q_t_reader q_t_hiddenWay q_t_sights q_t_choice q_t_refusals), (q_t_now, oX5 v_t_now_places q_t_now_ways q_t_now_distances v_t_now_people q_t_now_kind q_t_now_a q_t_now_home q_t_now_aim q_t_now_at v_t_now_hour v_t_now_chance v_t_now_seed), (q_t_now_distances, .inl (cy 0, 144, .inl v_t_now_distances)), (q_t_now_at, .inl (cy 0, 8, .inl v_t_now_at)), (q_t_choice, oX0 v_t_choice_found v_t_choice_worth), (q_t_refusals, .inl (cy 0, 5, .inl v_t_refusals))])) (va_Qi (fun (x : Int32) (_ : Unit) => x = r_) (fun _ t => va_P D vwCl [(q_t, oX7 q_t_now q_t_future q_t_draft q_t_kept v_t_isKept q_t_shelves q_t_tape q_t_reader q_t_hiddenWay q_t_sights q_t_choice q_t_refusals), (q_t_now, oX5 v_t_now_places q_t_now_ways q_t_now_distances v_t_now_people q_t_now_kind q_t_now_a q_t_now_home q_t_now_aim q_t_now_at v_t_now_hour v_t_now_chance v_t_now_seed), (q_t_now_distances, .inl (cy 0, 144, .inl v_t_now_distances)), (q_t_now_at, .inl (cy 0, 8, .inl v_t_now_at)), (q_t_choice, oX0 n_t_choice_found n_t_choice_worth), (q_t_refusals, .inl (cy 0, 5, .inl n_t_refusals))] t.heap) (va_A [(q_t, oX7 q_t_now q_t_future q_t_draft q_t_kept v_t_isKept q_t_shelves q_t_tape q_t_reader q_t_hiddenWay q_t_sights q_t_choice q_t_refusals), (q_t_now, oX5 v_t_now_places q_t_now_ways q_t_now_distances v_t_now_people q_t_now_kind q_t_now_a q_t_now_home q_t_now_aim q_t_now_at v_t_now_hour v_t_now_chance v_t_now_seed), (q_t_now_distances, .inl (cy 0, 144, .inl v_t_now_distances)), (q_t_now_at, .inl (cy 0, 8, .inl v_t_now_at)), (q_t_choice, oX0 v_t_choice_found v_t_choice_worth), (q_t_refusals, .inl (cy 0, 5, .inl v_t_refusals))] sz)) 0 0 (va_A [(q_t, oX7 q_t_now q_t_future q_t_draft q_t_kept v_t_isKept q_t_shelves q_t_tape q_t_reader q_t_hiddenWay q_t_sights q_t_choice q_t_refusals), (q_t_now, oX5 v_t_now_places q_t_now_ways q_t_now_distances v_t_now_people q_t_now_kind q_t_now_a q_t_now_home q_t_now_aim q_t_now_at v_t_now_hour v_t_now_chance v_t_now_seed), (q_t_now_distances, .inl (cy 0, 144, .inl v_t_now_distances)), (q_t_now_at, .inl (cy 0, 8, .inl v_t_now_at)), (q_t_choice, oX0 v_t_choice_found v_t_choice_worth), (q_t_refusals, .inl (cy 0, 5, .inl v_t_refusals))] sz) := by
  refine Met.ofW (cc := cX7_middle) (maxL := 2) (ret := (some .int)) (by decide) rfl ?_
  intro p e s m args below meth c s₁ B hml hv
  obtain ⟨rfl, hsz, hP, hK, hD0⟩ := hv
  have hx := B.exec
  have hb := B.bytes
  have hr := B.returns
  have hts := atoms_spec (ws := wsX7_middle) B.pre
  have hown : s.vm.findClass RX7 = some m.cls := findClass_of_methodNamed B.named
  have hlocks := B.notSynchronized
  subst hsz
  have hD := hD0.self (sz := s.heap.size)
  generalize hAe : va_A [(q_t, oX7 q_t_now q_t_future q_t_draft q_t_kept v_t_isKept q_t_shelves q_t_tape q_t_reader q_t_hiddenWay q_t_sights q_t_choice q_t_refusals), (q_t_now, oX5 v_t_now_places q_t_now_ways q_t_now_distances v_t_now_people q_t_now_kind q_t_now_a q_t_now_home q_t_now_aim q_t_now_at v_t_now_hour v_t_now_chance v_t_now_seed), (q_t_now_distances, .inl (cy 0, 144, .inl v_t_now_distances)), (q_t_now_at, .inl (cy 0, 8, .inl v_t_now_at)), (q_t_choice, oX0 v_t_choice_found v_t_choice_worth), (q_t_refusals, .inl (cy 0, 5, .inl v_t_refusals))] s.heap.size = A at hD ⊢
  have hA : ∀ q : Nat, s.heap.size ≤ q → A q := fun q h => by rw [← hAe]; exact Or.inr h
  have hS : va_S A s.heap s.heap [] := va_S.rf
  have hP : va_P D vwCl [(q_t, oX7 q_t_now q_t_future q_t_draft q_t_kept v_t_isKept q_t_shelves q_t_tape q_t_reader q_t_hiddenWay q_t_sights q_t_choice q_t_refusals), (q_t_now, oX5 v_t_now_places q_t_now_ways q_t_now_distances v_t_now_people q_t_now_kind q_t_now_a q_t_now_home q_t_now_aim q_t_now_at v_t_now_hour v_t_now_chance v_t_now_seed), (q_t_now_distances, .inl (cy 0, 144, .inl v_t_now_distances)), (q_t_now_at, .inl (cy 0, 8, .inl v_t_now_at)), (q_t_choice, oX0 v_t_choice_found v_t_choice_worth), (q_t_refusals, .inl (cy 0, 5, .inl v_t_refusals))] s.heap := hP
  have hinX7 : ∀ w ∈ u_ws RX7 TX7 12, w ∈ wsX7_middle := by decide +kernel
  have hk10 := hts (.fieldLink RX7 10 "ShowsWhereNobodyIs" "now" "LShowsWhereNobodyIs$Town;") (by decide +kernel)
  have hinX5 : ∀ w ∈ u_ws RX5 TX5 12, w ∈ wsX7_middle := by decide +kernel
  have hk171 := hts (.fieldLink RX7 171 "ShowsWhereNobodyIs$Town" "people" "I") (by decide +kernel)
  have hk61 := hts (.fieldLink RX7 61 "ShowsWhereNobodyIs" "choice" "LShowsWhereNobodyIs$Choice;") (by decide +kernel)
  have hk152 := hts (.fieldLink RX7 152 "ShowsWhereNobodyIs$Town" "places" "I") (by decide +kernel)
  have hinX0 : ∀ w ∈ u_ws RX0 TX0 2, w ∈ wsX7_middle := by decide +kernel
  have hk251 := hts (.fieldLink RX7 251 "ShowsWhereNobodyIs$Choice" "found" "I") (by decide +kernel)
  have hl := lv_entry ([.ref q_t]) (n := 2) (Nat.le_of_ble_eq_true rfl)
  rw [lg_entry_eq]
  generalize (lg_sl ([.ref q_t]) ++ List.replicate (2 - (lg_sl ([.ref q_t])).length) Slot.unset).toArray = ls at hl ⊢
  have hl : lv_has ls 2 [(0, .ref q_t)] := hl
  unfold fX7_middle at hf
  refine lv_aload_n hx hb dX7_middle_0 rfl (lv_at hl 0 rfl) ?_
  refine va_get (D := D) (ci := 7) (v := .ref q_t_now) (C := RX7) (T := TX7) (N := 12) hx hb hts hinX7 hown hK.1 hP 0 rfl rfl 0 (by decide) hk10 (fun _ h9 => h9) rfl dX7_middle_1 ?_
  refine va_get (D := D) (ci := 5) (v := .int v_t_now_people) (C := RX5) (T := TX5) (N := 12) hx hb hts hinX5 hown hK.1 hP 1 rfl rfl 3 (by decide) hk171 (fun _ h9 => h9) rfl dX7_middle_4 ?_
  refine lv_if_ne (tgt := 17) hx hb dX7_middle_7 (by decide) (fun c20 => ?_) (fun c20 => ?_)
  · have hf := ifF hf c20
    clear c20
    refine lv_aload_n hx hb dX7_middle_17 rfl (lv_at hl 0 rfl) ?_
    refine va_get (D := D) (ci := 7) (v := .ref q_t_choice) (C := RX7) (T := TX7) (N := 12) hx hb hts hinX7 hown hK.1 hP 0 rfl rfl 10 (by decide) hk61 (fun _ h9 => h9) rfl dX7_middle_18 ?_
    refine lv_iconst (v := 0) hx hb dX7_middle_21 (by decide) ?_
    refine lv_aload_n hx hb dX7_middle_22 rfl (lv_at hl 0 rfl) ?_
    refine va_get (D := D) (ci := 7) (v := .ref q_t_now) (C := RX7) (T := TX7) (N := 12) hx hb hts hinX7 hown hK.1 hP 0 rfl rfl 0 (by decide) hk10 (fun _ h9 => h9) rfl dX7_middle_23 ?_
    refine lv_iconst (v := 0) hx hb dX7_middle_26 (by decide) ?_
    obtain ⟨r1, hr2, hf⟩ := boE1 hf
    have hPc := hP.sub (ws' := [(q_t_now, oX5 v_t_now_places q_t_now_ways q_t_now_distances v_t_now_people q_t_now_kind q_t_now_a q_t_now_home q_t_now_aim q_t_now_at v_t_now_hour v_t_now_chance v_t_now_seed), (q_t_now_distances, .inl (cy 0, 144, .inl v_t_now_distances)), (q_t_now_at, .inl (cy 0, 8, .inl v_t_now_at))]) [1, 2, 3] rfl
    refine xcSi (va_runV (As := [.int (0 : Int32)]) (rest := [.int (0 : Int32), .ref q_t_choice]) ⟨hx, hb, hml, hown, hts⟩ (mX5_farTogether l D cy q_t_now q_t_now_ways q_t_now_distances q_t_now_kind q_t_now_a q_t_now_home q_t_now_aim q_t_now_at v_t_now_places v_t_now_people v_t_now_hour v_t_now_chance v_t_now_seed v_t_now_distances v_t_now_at  (0 : Int32) hr2) (cwV 1 hts gX7_middle_X5_farTogether rfl rfl rfl (by decide +kernel) ⟨Nat.le_of_ble_eq_true rfl, Nat.le_of_ble_eq_true rfl⟩) (xPV hK hPc (ci := 5) (q0 := 0) rfl rfl) rfl rfl hl.1 rfl (lv_room (Nat.le_of_ble_eq_true rfl)) dX7_middle_27 ⟨Nat.le_of_ble_eq_true rfl, Nat.le_of_ble_eq_true rfl⟩) ?_
    refine lv_ineg hx hb dX7_middle_30 ?_
    obtain ⟨u3, u4, hr5, hf⟩ := boE2 hf
    have hPc := hP.sub (ws' := [(q_t_choice, oX0 v_t_choice_found v_t_choice_worth)]) [4] rfl
    have hDc := hD.sub (ws' := [(q_t_choice, oX0 v_t_choice_found v_t_choice_worth)]) [4] (by decide) rfl
    refine xcQv (w1 := [(q_t_choice, oX0 u3 u4)]) (va_runV (As := [.int (0 : Int32), .int (-r1)]) (rest := []) ⟨hx, hb, hml, hown, hts⟩ (mX0_begin l D cy q_t_choice v_t_choice_found v_t_choice_worth _ (0 : Int32) (-r1) hr5) (cwV 2 hts gX7_middle_X0_begin rfl rfl rfl (by decide +kernel) ⟨Nat.le_of_ble_eq_true rfl, Nat.le_of_ble_eq_true rfl⟩) (xPVw hK hPc hDc (ci := 0) (q0 := 0) rfl rfl) rfl rfl hl.1 rfl (lv_room (Nat.le_of_ble_eq_true rfl)) dX7_middle_31 ⟨Nat.le_of_ble_eq_true rfl, Nat.le_of_ble_eq_true rfl⟩) hP hD hS hA [4] rfl rfl (fun H locs hP hD hS => ?_)
    have hP : va_P D vwCl [(q_t, oX7 q_t_now q_t_future q_t_draft q_t_kept v_t_isKept q_t_shelves q_t_tape q_t_reader q_t_hiddenWay q_t_sights q_t_choice q_t_refusals), (q_t_now, oX5 v_t_now_places q_t_now_ways q_t_now_distances v_t_now_people q_t_now_kind q_t_now_a q_t_now_home q_t_now_aim q_t_now_at v_t_now_hour v_t_now_chance v_t_now_seed), (q_t_now_distances, .inl (cy 0, 144, .inl v_t_now_distances)), (q_t_now_at, .inl (cy 0, 8, .inl v_t_now_at)), (q_t_choice, oX0 u3 u4), (q_t_refusals, .inl (cy 0, 5, .inl v_t_refusals))] H := hP
    have hD : va_D A [(q_t, oX7 q_t_now q_t_future q_t_draft q_t_kept v_t_isKept q_t_shelves q_t_tape q_t_reader q_t_hiddenWay q_t_sights q_t_choice q_t_refusals), (q_t_now, oX5 v_t_now_places q_t_now_ways q_t_now_distances v_t_now_people q_t_now_kind q_t_now_a q_t_now_home q_t_now_aim q_t_now_at v_t_now_hour v_t_now_chance v_t_now_seed), (q_t_now_distances, .inl (cy 0, 144, .inl v_t_now_distances)), (q_t_now_at, .inl (cy 0, 8, .inl v_t_now_at)), (q_t_choice, oX0 u3 u4), (q_t_refusals, .inl (cy 0, 5, .inl v_t_refusals))] := hD
    refine lv_iconst (v := 1) hx hb dX7_middle_34 (by decide) ?_
    refine lv_istore_n (lv' := [(1, .int (1 : Int32)), (0, .ref q_t)]) hx hb dX7_middle_35 rfl hl (by decide) rfl (fun ls hl => ?_)
    refine wlw3 36 (fun _ _ _ => []) (fun (x6 : Int32) (u7 : Int32) (u8 : Int32) H locs ls => va_P D vwCl [(q_t, oX7 q_t_now q_t_future q_t_draft q_t_kept v_t_isKept q_t_shelves q_t_tape q_t_reader q_t_hiddenWay q_t_sights q_t_choice q_t_refusals), (q_t_now, oX5 v_t_now_places q_t_now_ways q_t_now_distances v_t_now_people q_t_now_kind q_t_now_a q_t_now_home q_t_now_aim q_t_now_at v_t_now_hour v_t_now_chance v_t_now_seed), (q_t_now_distances, .inl (cy 0, 144, .inl v_t_now_distances)), (q_t_now_at, .inl (cy 0, 8, .inl v_t_now_at)), (q_t_choice, oX0 u7 u8), (q_t_refusals, .inl (cy 0, 5, .inl v_t_refusals))] H ∧ va_D A [(q_t, oX7 q_t_now q_t_future q_t_draft q_t_kept v_t_isKept q_t_shelves q_t_tape q_t_reader q_t_hiddenWay q_t_sights q_t_choice q_t_refusals), (q_t_now, oX5 v_t_now_places q_t_now_ways q_t_now_distances v_t_now_people q_t_now_kind q_t_now_a q_t_now_home q_t_now_aim q_t_now_at v_t_now_hour v_t_now_chance v_t_now_seed), (q_t_now_distances, .inl (cy 0, 144, .inl v_t_now_distances)), (q_t_now_at, .inl (cy 0, 8, .inl v_t_now_at)), (q_t_choice, oX0 u7 u8), (q_t_refusals, .inl (cy 0, 5, .inl v_t_refusals))] ∧ va_S A s.heap H locs ∧ lv_has ls 2 [(1, .int x6), (0, .ref q_t)]) (fun g9 L36 x6 u7 u8 H locs ls hI hf => ?_) 400 (1 : Int32) u3 u4 _ _ ls ⟨hP, hD, hS, lv_sub hl [0, 1] rfl⟩ hf
    obtain ⟨hP, hD, hS, hl⟩ := hI
    refine lv_iload_n hx hb dX7_middle_36 rfl (lv_at hl 0 rfl) ?_
    refine lv_aload_n hx hb dX7_middle_37 rfl (lv_at hl 1 rfl) ?_
    refine va_get (D := D) (ci := 7) (v := .ref q_t_now) (C := RX7) (T := TX7) (N := 12) hx hb hts hinX7 hown hK.1 hP 0 rfl rfl 0 (by decide) hk10 (fun _ h9 => h9) rfl dX7_middle_38 ?_
    refine va_get (D := D) (ci := 5) (v := .int v_t_now_places) (C := RX5) (T := TX5) (N := 12) hx hb hts hinX5 hown hK.1 hP 1 rfl rfl 0 (by decide) hk152 (fun _ h9 => h9) rfl dX7_middle_41 ?_
    refine lv_icmp_ge (tgt := 70) hx hb dX7_middle_44 (by decide) (fun c16 => ?_) (fun c16 => ?_)
    · have hf := ifT hf c16
      clear c16
      refine lv_aload_n hx hb dX7_middle_70 rfl (lv_at hl 1 rfl) ?_
      refine va_get (D := D) (ci := 7) (v := .ref q_t_choice) (C := RX7) (T := TX7) (N := 12) hx hb hts hinX7 hown hK.1 hP 0 rfl rfl 10 (by decide) hk61 (fun _ h9 => h9) rfl dX7_middle_71 ?_
      refine va_get (D := D) (ci := 0) (v := .int u7) (C := RX0) (T := TX0) (N := 2) hx hb hts hinX0 hown hK.1 hP 4 rfl rfl 0 (by decide) hk251 (fun _ h9 => h9) rfl dX7_middle_74 ?_
      cases hf
      exact W.iret hx hb hr (fun t ht hW => ⟨⟨_, (), rfl, rfl, xend ht hP⟩, hS.F ht⟩) hS.2.2 dX7_middle_77
    · have hf := ifF hf c16
      clear c16
      refine lv_aload_n hx hb dX7_middle_47 rfl (lv_at hl 1 rfl) ?_
      refine va_get (D := D) (ci := 7) (v := .ref q_t_choice) (C := RX7) (T := TX7) (N := 12) hx hb hts hinX7 hown hK.1 hP 0 rfl rfl 10 (by decide) hk61 (fun _ h9 => h9) rfl dX7_middle_48 ?_
      refine lv_iload_n hx hb dX7_middle_51 rfl (lv_at hl 0 rfl) ?_
      refine lv_aload_n hx hb dX7_middle_52 rfl (lv_at hl 1 rfl) ?_
      refine va_get (D := D) (ci := 7) (v := .ref q_t_now) (C := RX7) (T := TX7) (N := 12) hx hb hts hinX7 hown hK.1 hP 0 rfl rfl 0 (by decide) hk10 (fun _ h9 => h9) rfl dX7_middle_53 ?_
      refine lv_iload_n hx hb dX7_middle_56 rfl (lv_at hl 0 rfl) ?_
      obtain ⟨r10, hr11, hf⟩ := boE1 hf
      have hPc := hP.sub (ws' := [(q_t_now, oX5 v_t_now_places q_t_now_ways q_t_now_distances v_t_now_people q_t_now_kind q_t_now_a q_t_now_home q_t_now_aim q_t_now_at v_t_now_hour v_t_now_chance v_t_now_seed), (q_t_now_distances, .inl (cy 0, 144, .inl v_t_now_distances)), (q_t_now_at, .inl (cy 0, 8, .inl v_t_now_at))]) [1, 2, 3] rfl
      refine xcSi (va_runV (As := [.int x6]) (rest := [.int x6, .ref q_t_choice]) ⟨hx, hb, hml, hown, hts⟩ (mX5_farTogether l D cy q_t_now q_t_now_ways q_t_now_distances q_t_now_kind q_t_now_a q_t_now_home q_t_now_aim q_t_now_at v_t_now_places v_t_now_people v_t_now_hour v_t_now_chance v_t_now_seed v_t_now_distances v_t_now_at  x6 hr11) (cwV 1 hts gX7_middle_X5_farTogether rfl rfl rfl (by decide +kernel) ⟨Nat.le_of_ble_eq_true rfl, Nat.le_of_ble_eq_true rfl⟩) (xPV hK hPc (ci := 5) (q0 := 0) rfl rfl) rfl rfl hl.1 rfl (lv_room (Nat.le_of_ble_eq_true rfl)) dX7_middle_57 ⟨Nat.le_of_ble_eq_true rfl, Nat.le_of_ble_eq_true rfl⟩) ?_
      refine lv_ineg hx hb dX7_middle_60 ?_
      obtain ⟨u12, u13, hr14, hf⟩ := boE2 hf
      have hPc := hP.sub (ws' := [(q_t_choice, oX0 u7 u8)]) [4] rfl
      have hDc := hD.sub (ws' := [(q_t_choice, oX0 u7 u8)]) [4] (by decide) rfl
      refine xcQv (w1 := [(q_t_choice, oX0 u12 u13)]) (va_runV (As := [.int x6, .int (-r10)]) (rest := []) ⟨hx, hb, hml, hown, hts⟩ (mX0_offer l D cy q_t_choice u7 u8 _ x6 (-r10) hr14) (cwV 2 hts gX7_middle_X0_offer rfl rfl rfl (by decide +kernel) ⟨Nat.le_of_ble_eq_true rfl, Nat.le_of_ble_eq_true rfl⟩) (xPVw hK hPc hDc (ci := 0) (q0 := 0) rfl rfl) rfl rfl hl.1 rfl (lv_room (Nat.le_of_ble_eq_true rfl)) dX7_middle_61 ⟨Nat.le_of_ble_eq_true rfl, Nat.le_of_ble_eq_true rfl⟩) hP hD hS hA [4] rfl rfl (fun H locs hP hD hS => ?_)
      have hP : va_P D vwCl [(q_t, oX7 q_t_now q_t_future q_t_draft q_t_kept v_t_isKept q_t_shelves q_t_tape q_t_reader q_t_hiddenWay q_t_sights q_t_choice q_t_refusals), (q_t_now, oX5 v_t_now_places q_t_now_ways q_t_now_distances v_t_now_people q_t_now_kind q_t_now_a q_t_now_home q_t_now_aim q_t_now_at v_t_now_hour v_t_now_chance v_t_now_seed), (q_t_now_distances, .inl (cy 0, 144, .inl v_t_now_distances)), (q_t_now_at, .inl (cy 0, 8, .inl v_t_now_at)), (q_t_choice, oX0 u12 u13), (q_t_refusals, .inl (cy 0, 5, .inl v_t_refusals))] H := hP
      have hD : va_D A [(q_t, oX7 q_t_now q_t_future q_t_draft q_t_kept v_t_isKept q_t_shelves q_t_tape q_t_reader q_t_hiddenWay q_t_sights q_t_choice q_t_refusals), (q_t_now, oX5 v_t_now_places q_t_now_ways q_t_now_distances v_t_now_people q_t_now_kind q_t_now_a q_t_now_home q_t_now_aim q_t_now_at v_t_now_hour v_t_now_chance v_t_now_seed), (q_t_now_distances, .inl (cy 0, 144, .inl v_t_now_distances)), (q_t_now_at, .inl (cy 0, 8, .inl v_t_now_at)), (q_t_choice, oX0 u12 u13), (q_t_refusals, .inl (cy 0, 5, .inl v_t_refusals))] := hD
      obtain ⟨x15, ex15⟩ : ∃ y : Int32, y = x6 + (1 : Int32) := ⟨_, rfl⟩
      have hf := vlE hf ex15
      refine lv_iinc (v := x15) (lv' := [(1, .int x15), (0, .ref q_t)]) hx hb dX7_middle_64 hl (k := 0) rfl (by rw [ex15]; rfl) (by decide) rfl (fun ls hl => ?_)
      clear ex15
      refine lv_goto (tgt := 36) hx hb dX7_middle_67 (by decide) ?_
      exact L36 x15 u12 u13 _ _ ls ⟨hP, hD, hS, lv_sub hl [0, 1] rfl⟩ hf
  · have hf := ifT hf c20
    clear c20
    refine lv_aload_n hx hb dX7_middle_10 rfl (lv_at hl 0 rfl) ?_
    refine lv_bipush (v := (-5)) hx hb dX7_middle_11 (by decide) ?_
    obtain ⟨r17, u18, hr19, hf⟩ := boE2 hf
    have hPc := hP.sub (ws' := [(q_t, oX7 q_t_now q_t_future q_t_draft q_t_kept v_t_isKept q_t_shelves q_t_tape q_t_reader q_t_hiddenWay q_t_sights q_t_choice q_t_refusals), (q_t_refusals, .inl (cy 0, 5, .inl v_t_refusals))]) [0, 5] rfl
    have hDc := hD.sub (ws' := [(q_t, oX7 q_t_now q_t_future q_t_draft q_t_kept v_t_isKept q_t_shelves q_t_tape q_t_reader q_t_hiddenWay q_t_sights q_t_choice q_t_refusals), (q_t_refusals, .inl (cy 0, 5, .inl v_t_refusals))]) [0, 5] (by decide) rfl
    refine xcQi (w1 := [(q_t, oX7 q_t_now q_t_future q_t_draft q_t_kept v_t_isKept q_t_shelves q_t_tape q_t_reader q_t_hiddenWay q_t_sights q_t_choice q_t_refusals), (q_t_refusals, .inl (cy 0, 5, .inl u18))]) (va_runV (As := [.int (-5 : Int32)]) (rest := []) ⟨hx, hb, hml, hown, hts⟩ (mX7_refuse l D cy q_t q_t_now q_t_future q_t_draft q_t_kept q_t_shelves q_t_tape q_t_reader q_t_hiddenWay q_t_sights q_t_choice q_t_refusals v_t_isKept v_t_refusals _ (-5 : Int32) hr19) (cwV 1 hts gX7_middle_X7_refuse rfl rfl rfl (by decide +kernel) ⟨Nat.le_of_ble_eq_true rfl, Nat.le_of_ble_eq_true rfl⟩) (xPVw hK hPc hDc (ci := 7) (q0 := 0) rfl rfl) rfl rfl hl.1 rfl (lv_room (Nat.le_of_ble_eq_true rfl)) dX7_middle_13 ⟨Nat.le_of_ble_eq_true rfl, Nat.le_of_ble_eq_true rfl⟩) hP hD hS hA [0, 5] rfl rfl (fun H locs hP hD hS => ?_)
    have hP : va_P D vwCl [(q_t, oX7 q_t_now q_t_future q_t_draft q_t_kept v_t_isKept q_t_shelves q_t_tape q_t_reader q_t_hiddenWay q_t_sights q_t_choice q_t_refusals), (q_t_now, oX5 v_t_now_places q_t_now_ways q_t_now_distances v_t_now_people q_t_now_kind q_t_now_a q_t_now_home q_t_now_aim q_t_now_at v_t_now_hour v_t_now_chance v_t_now_seed), (q_t_now_distances, .inl (cy 0, 144, .inl v_t_now_distances)), (q_t_now_at, .inl (cy 0, 8, .inl v_t_now_at)), (q_t_choice, oX0 v_t_choice_found v_t_choice_worth), (q_t_refusals, .inl (cy 0, 5, .inl u18))] H := hP
    have hD : va_D A [(q_t, oX7 q_t_now q_t_future q_t_draft q_t_kept v_t_isKept q_t_shelves q_t_tape q_t_reader q_t_hiddenWay q_t_sights q_t_choice q_t_refusals), (q_t_now, oX5 v_t_now_places q_t_now_ways q_t_now_distances v_t_now_people q_t_now_kind q_t_now_a q_t_now_home q_t_now_aim q_t_now_at v_t_now_hour v_t_now_chance v_t_now_seed), (q_t_now_distances, .inl (cy 0, 144, .inl v_t_now_distances)), (q_t_now_at, .inl (cy 0, 8, .inl v_t_now_at)), (q_t_choice, oX0 v_t_choice_found v_t_choice_worth), (q_t_refusals, .inl (cy 0, 5, .inl u18))] := hD
    cases hf
    exact W.iret hx hb hr (fun t ht hW => ⟨⟨_, (), rfl, rfl, xend ht hP⟩, hS.F ht⟩) hS.2.2 dX7_middle_16
def fX7_parts (v_t_now_places : Int32) (v_t_now_distances : Nat → Int32) : Option (Int32) :=
  lo2 (fun g3 (x1 : Int32) (x2 : Int32) =>
    if v_t_now_places ≤ x2 then
      some x1
    else
      bo1 (fX5_isFirstOfPart v_t_now_distances x2) fun r4 =>
      jo1 (fun (x6 : Int32) =>
        vlet (x2 + (1 : Int32)) fun x8 =>
        g3 x6 x8) fun k7 =>
      if r4 = 0 then
        k7 x1
      else
        vlet (x1 + (1 : Int32)) fun x9 =>
        k7 x9) 400 (0 : Int32) (0 : Int32)
set_option maxHeartbeats 4000000 in
set_option maxRecDepth 100000 in
theorem mX7_parts (l : Launch) (D : va_G) (cy : Nat → ClassId) (q_t q_t_now q_t_future q_t_draft q_t_kept q_t_shelves q_t_tape q_t_reader q_t_hiddenWay q_t_sights q_t_choice q_t_refusals q_t_now_ways q_t_now_distances q_t_now_kind q_t_now_a q_t_now_home q_t_now_aim q_t_now_at : Nat) (v_t_isKept : Int32) (v_t_now_places : Int32) (v_t_now_people : Int32) (v_t_now_hour : Int32) (v_t_now_chance : Int32) (v_t_now_seed : Int32) (v_t_now_distances : Nat → Int32) {r_ : Int32} (hf : fX7_parts v_t_now_places v_t_now_distances = some r_) : Met l yX7_parts wsX7_parts ({ frames := 2, cells := 0, slots := 0, locals := 44 }) (va_Pc [.ref q_t] (fun U => va_P D vwCl [(q_t, oX7 q_t_now q_t_future q_t_draft q_t_kept v_t_isKept q_t_shelves q_t_tape q_t_reader q_t_hiddenWay q_t_sights q_t_choice q_t_refusals), (q_t_now, oX5 v_t_now_places q_t_now_ways q_t_now_distances v_t_now_people q_t_now_kind q_t_now_a q_t_now_home q_t_now_aim q_t_now_at v_t_now_hour v_t_now_chance v_t_now_seed), (q_t_now_distances, .inl (cy 0, 144, .inl v_t_now_distances))] U.heap ∧ xK D cy U)) (vp_Si (fun x => x = r_)) 0 0 (fun _ => False) := by
  refine Met.ofW (cc := cX7_parts) (maxL := 3) (ret := (some .int)) (by decide) rfl ?_
  intro p e s m args below meth c s₁ B hml hv
  obtain ⟨rfl, hP, hK⟩ := hv
  have hx := B.exec
  have hb := B.bytes
  have hr := B.returns
  have hts := atoms_spec (ws := wsX7_parts) B.pre
  have hown : s.vm.findClass RX7 = some m.cls := findClass_of_methodNamed B.named
  have hlocks := B.notSynchronized
  have hP : va_P D vwCl [(q_t, oX7 q_t_now q_t_future q_t_draft q_t_kept v_t_isKept q_t_shelves q_t_tape q_t_reader q_t_hiddenWay q_t_sights q_t_choice q_t_refusals), (q_t_now, oX5 v_t_now_places q_t_now_ways q_t_now_distances v_t_now_people q_t_now_kind q_t_now_a q_t_now_home q_t_now_aim q_t_now_at v_t_now_hour v_t_now_chance v_t_now_seed), (q_t_now_distances, .inl (cy 0, 144, .inl v_t_now_distances))] s.heap := hP
  have hinX7 : ∀ w ∈ u_ws RX7 TX7 12, w ∈ wsX7_parts := by decide +kernel
  have hk10 := hts (.fieldLink RX7 10 "ShowsWhereNobodyIs" "now" "LShowsWhereNobodyIs$Town;") (by decide +kernel)
  have hinX5 : ∀ w ∈ u_ws RX5 TX5 12, w ∈ wsX7_parts := by decide +kernel
  have hk152 := hts (.fieldLink RX7 152 "ShowsWhereNobodyIs$Town" "places" "I") (by decide +kernel)
  have hl := lv_entry ([.ref q_t]) (n := 3) (Nat.le_of_ble_eq_true rfl)
  rw [lg_entry_eq]
  generalize (lg_sl ([.ref q_t]) ++ List.replicate (3 - (lg_sl ([.ref q_t])).length) Slot.unset).toArray = ls at hl ⊢
  have hl : lv_has ls 3 [(0, .ref q_t)] := hl
  unfold fX7_parts at hf
  refine lv_iconst (v := 0) hx hb dX7_parts_0 (by decide) ?_
  refine lv_istore_n (lv' := [(1, .int (0 : Int32)), (0, .ref q_t)]) hx hb dX7_parts_1 rfl hl (by decide) rfl (fun ls hl => ?_)
  refine lv_iconst (v := 0) hx hb dX7_parts_2 (by decide) ?_
  refine lv_istore_n (lv' := [(2, .int (0 : Int32)), (1, .int (0 : Int32)), (0, .ref q_t)]) hx hb dX7_parts_3 rfl hl (by decide) rfl (fun ls hl => ?_)
  refine wlr2 4 (fun _ _ => []) (fun (x1 : Int32) (x2 : Int32) ls => lv_has ls 3 [(1, .int x1), (2, .int x2), (0, .ref q_t)]) (fun g3 L4 x1 x2 ls hl hf => ?_) 400 (0 : Int32) (0 : Int32) ls (lv_sub hl [1, 0, 2] rfl) hf
  refine lv_iload_n hx hb dX7_parts_4 rfl (lv_at hl 1 rfl) ?_
  refine lv_aload_n hx hb dX7_parts_5 rfl (lv_at hl 2 rfl) ?_
  refine va_get (D := D) (ci := 7) (v := .ref q_t_now) (C := RX7) (T := TX7) (N := 12) hx hb hts hinX7 hown hK.1 hP 0 rfl rfl 0 (by decide) hk10 (fun _ h9 => h9) rfl dX7_parts_6 ?_
  refine va_get (D := D) (ci := 5) (v := .int v_t_now_places) (C := RX5) (T := TX5) (N := 12) hx hb hts hinX5 hown hK.1 hP 1 rfl rfl 0 (by decide) hk152 (fun _ h9 => h9) rfl dX7_parts_9 ?_
  refine lv_icmp_ge (tgt := 35) hx hb dX7_parts_12 (by decide) (fun c11 => ?_) (fun c11 => ?_)
  · have hf := ifT hf c11
    clear c11
    refine lv_iload_n hx hb dX7_parts_35 rfl (lv_at hl 0 rfl) ?_
    exact W.iret (v := x1) hx hb hr (fun t ht hW => ⟨x1, rfl, Option.some.inj hf, ht⟩) (fun q h => nomatch h) dX7_parts_36
  · have hf := ifF hf c11
    clear c11
    refine lv_aload_n hx hb dX7_parts_15 rfl (lv_at hl 2 rfl) ?_
    refine va_get (D := D) (ci := 7) (v := .ref q_t_now) (C := RX7) (T := TX7) (N := 12) hx hb hts hinX7 hown hK.1 hP 0 rfl rfl 0 (by decide) hk10 (fun _ h9 => h9) rfl dX7_parts_16 ?_
    refine lv_iload_n hx hb dX7_parts_19 rfl (lv_at hl 1 rfl) ?_
    obtain ⟨r4, hr5, hf⟩ := boE1 hf
    have hPc := hP.sub (ws' := [(q_t_now, oX5 v_t_now_places q_t_now_ways q_t_now_distances v_t_now_people q_t_now_kind q_t_now_a q_t_now_home q_t_now_aim q_t_now_at v_t_now_hour v_t_now_chance v_t_now_seed), (q_t_now_distances, .inl (cy 0, 144, .inl v_t_now_distances))]) [1, 2] rfl
    refine xcSi (va_runV (As := [.int x2]) (rest := []) ⟨hx, hb, hml, hown, hts⟩ (mX5_isFirstOfPart l D cy q_t_now q_t_now_ways q_t_now_distances q_t_now_kind q_t_now_a q_t_now_home q_t_now_aim q_t_now_at v_t_now_places v_t_now_people v_t_now_hour v_t_now_chance v_t_now_seed v_t_now_distances  x2 hr5) (cwV 1 hts gX7_parts_X5_isFirstOfPart rfl rfl rfl (by decide +kernel) ⟨Nat.le_of_ble_eq_true rfl, Nat.le_of_ble_eq_true rfl⟩) (xPV hK hPc (ci := 5) (q0 := 0) rfl rfl) rfl rfl hl.1 rfl (lv_room (Nat.le_of_ble_eq_true rfl)) dX7_parts_20 ⟨Nat.le_of_ble_eq_true rfl, Nat.le_of_ble_eq_true rfl⟩) ?_
    refine jwr1 29 (fun (x6 : Int32) => []) (fun (x6 : Int32) ls => lv_has ls 3 [(1, .int x6), (0, .ref q_t), (2, .int x2)]) hf (fun x6 ls hl hf => ?_) (fun k7 J29 hf => ?_)
    · obtain ⟨x8, ex8⟩ : ∃ y : Int32, y = x2 + (1 : Int32) := ⟨_, rfl⟩
      have hf := vlE hf ex8
      refine lv_iinc (v := x8) (lv' := [(2, .int x8), (1, .int x6), (0, .ref q_t)]) hx hb dX7_parts_29 hl (k := 2) rfl (by rw [ex8]; rfl) (by decide) rfl (fun ls hl => ?_)
      clear ex8
      refine lv_goto (tgt := 4) hx hb dX7_parts_32 (by decide) ?_
      exact L4 x6 x8 ls (lv_sub hl [1, 0, 2] rfl) hf
    · refine lv_if_eq (tgt := 29) hx hb dX7_parts_23 (by decide) (fun c10 => ?_) (fun c10 => ?_)
      · have hf := ifT hf c10
        clear c10
        exact J29 x1 ls (lv_sub hl [0, 2, 1] rfl) hf
      · have hf := ifF hf c10
        clear c10
        obtain ⟨x9, ex9⟩ : ∃ y : Int32, y = x1 + (1 : Int32) := ⟨_, rfl⟩
        have hf := vlE hf ex9
        refine lv_iinc (v := x9) (lv' := [(1, .int x9), (2, .int x2), (0, .ref q_t)]) hx hb dX7_parts_26 hl (k := 0) rfl (by rw [ex9]; rfl) (by decide) rfl (fun ls hl => ?_)
        clear ex9
        exact J29 x9 ls (lv_sub hl [0, 2, 1] rfl) hf
def fX7_newWay (v_t_now_places : Int32) (v_t_now_ways : Nat → Int32) (v_t_now_distances : Nat → Int32) : Option (Int32) :=
  lo2 (fun g3 (x1 : Int32) (x2 : Int32) =>
    if v_t_now_places ≤ x2 then
      some x1
    else
      vlet (x2 + (1 : Int32)) fun x4 =>
      lo2 (fun g7 (x5 : Int32) (x6 : Int32) =>
        if v_t_now_places ≤ x6 then
          vlet (x2 + (1 : Int32)) fun x8 =>
          g3 x5 x8
        else
          bo1 (fX5_distance v_t_now_distances x2 x6) fun r9 =>
          if r9 = (-1 : Int32) then
            some (((100 : Int32) * x2) + x6)
          else
            jo1 (fun (x11 : Int32) =>
              vlet (x6 + (1 : Int32)) fun x13 =>
              g7 x11 x13) fun k12 =>
            if x5 = (-1 : Int32) then
              bo1 (fX5_hasWay v_t_now_ways x2 x6) fun r14 =>
              if r14 = 0 then
                vlet (((100 : Int32) * x2) + x6) fun x16 =>
                k12 x16
              else
                k12 x5
            else
              k12 x5) 400 x1 x4) 400 (-1 : Int32) (0 : Int32)
set_option maxHeartbeats 4000000 in
set_option maxRecDepth 100000 in
theorem mX7_newWay (l : Launch) (D : va_G) (cy : Nat → ClassId) (q_t q_t_now q_t_future q_t_draft q_t_kept q_t_shelves q_t_tape q_t_reader q_t_hiddenWay q_t_sights q_t_choice q_t_refusals q_t_now_ways q_t_now_distances q_t_now_kind q_t_now_a q_t_now_home q_t_now_aim q_t_now_at : Nat) (v_t_isKept : Int32) (v_t_now_places : Int32) (v_t_now_people : Int32) (v_t_now_hour : Int32) (v_t_now_chance : Int32) (v_t_now_seed : Int32) (v_t_now_ways : Nat → Int32) (v_t_now_distances : Nat → Int32) {r_ : Int32} (hf : fX7_newWay v_t_now_places v_t_now_ways v_t_now_distances = some r_) : Met l yX7_newWay wsX7_newWay ({ frames := 1, cells := 0, slots := 0, locals := 22 }) (va_Pc [.ref q_t] (fun U => va_P D vwCl [(q_t, oX7 q_t_now q_t_future q_t_draft q_t_kept v_t_isKept q_t_shelves q_t_tape q_t_reader q_t_hiddenWay q_t_sights q_t_choice q_t_refusals), (q_t_now, oX5 v_t_now_places q_t_now_ways q_t_now_distances v_t_now_people q_t_now_kind q_t_now_a q_t_now_home q_t_now_aim q_t_now_at v_t_now_hour v_t_now_chance v_t_now_seed), (q_t_now_ways, .inl (cy 0, 12, .inl v_t_now_ways)), (q_t_now_distances, .inl (cy 0, 144, .inl v_t_now_distances))] U.heap ∧ xK D cy U)) (vp_Si (fun x => x = r_)) 0 0 (fun _ => False) := by
  refine Met.ofW (cc := cX7_newWay) (maxL := 4) (ret := (some .int)) (by decide) rfl ?_
  intro p e s m args below meth c s₁ B hml hv
  obtain ⟨rfl, hP, hK⟩ := hv
  have hx := B.exec
  have hb := B.bytes
  have hr := B.returns
  have hts := atoms_spec (ws := wsX7_newWay) B.pre
  have hown : s.vm.findClass RX7 = some m.cls := findClass_of_methodNamed B.named
  have hlocks := B.notSynchronized
  have hP : va_P D vwCl [(q_t, oX7 q_t_now q_t_future q_t_draft q_t_kept v_t_isKept q_t_shelves q_t_tape q_t_reader q_t_hiddenWay q_t_sights q_t_choice q_t_refusals), (q_t_now, oX5 v_t_now_places q_t_now_ways q_t_now_distances v_t_now_people q_t_now_kind q_t_now_a q_t_now_home q_t_now_aim q_t_now_at v_t_now_hour v_t_now_chance v_t_now_seed), (q_t_now_ways, .inl (cy 0, 12, .inl v_t_now_ways)), (q_t_now_distances, .inl (cy 0, 144, .inl v_t_now_distances))] s.heap := hP
  have hinX7 : ∀ w ∈ u_ws RX7 TX7 12, w ∈ wsX7_newWay := by decide +kernel
  have hk10 := hts (.fieldLink RX7 10 "ShowsWhereNobodyIs" "now" "LShowsWhereNobodyIs$Town;") (by decide +kernel)
  have hinX5 : ∀ w ∈ u_ws RX5 TX5 12, w ∈ wsX7_newWay := by decide +kernel
  have hk152 := hts (.fieldLink RX7 152 "ShowsWhereNobodyIs$Town" "places" "I") (by decide +kernel)
  have hl := lv_entry ([.ref q_t]) (n := 4) (Nat.le_of_ble_eq_true rfl)
  rw [lg_entry_eq]
  generalize (lg_sl ([.ref q_t]) ++ List.replicate (4 - (lg_sl ([.ref q_t])).length) Slot.unset).toArray = ls at hl ⊢
  have hl : lv_has ls 4 [(0, .ref q_t)] := hl
  unfold fX7_newWay at hf
  refine lv_iconst (v := (-1)) hx hb dX7_newWay_0 (by decide) ?_
  refine lv_istore_n (lv' := [(1, .int (-1 : Int32)), (0, .ref q_t)]) hx hb dX7_newWay_1 rfl hl (by decide) rfl (fun ls hl => ?_)
  refine lv_iconst (v := 0) hx hb dX7_newWay_2 (by decide) ?_
  refine lv_istore_n (lv' := [(2, .int (0 : Int32)), (1, .int (-1 : Int32)), (0, .ref q_t)]) hx hb dX7_newWay_3 rfl hl (by decide) rfl (fun ls hl => ?_)
  refine wlr2 4 (fun _ _ => []) (fun (x1 : Int32) (x2 : Int32) ls => lv_has ls 4 [(1, .int x1), (2, .int x2), (0, .ref q_t)]) (fun g3 L4 x1 x2 ls hl hf => ?_) 400 (-1 : Int32) (0 : Int32) ls (lv_sub hl [1, 0, 2] rfl) hf
  refine lv_iload_n hx hb dX7_newWay_4 rfl (lv_at hl 1 rfl) ?_
  refine lv_aload_n hx hb dX7_newWay_5 rfl (lv_at hl 2 rfl) ?_
  refine va_get (D := D) (ci := 7) (v := .ref q_t_now) (C := RX7) (T := TX7) (N := 12) hx hb hts hinX7 hown hK.1 hP 0 rfl rfl 0 (by decide) hk10 (fun _ h9 => h9) rfl dX7_newWay_6 ?_
  refine va_get (D := D) (ci := 5) (v := .int v_t_now_places) (C := RX5) (T := TX5) (N := 12) hx hb hts hinX5 hown hK.1 hP 1 rfl rfl 0 (by decide) hk152 (fun _ h9 => h9) rfl dX7_newWay_9 ?_
  refine lv_icmp_ge (tgt := 86) hx hb dX7_newWay_12 (by decide) (fun c21 => ?_) (fun c21 => ?_)
  · have hf := ifT hf c21
    clear c21
    refine lv_iload_n hx hb dX7_newWay_86 rfl (lv_at hl 0 rfl) ?_
    exact W.iret (v := x1) hx hb hr (fun t ht hW => ⟨x1, rfl, Option.some.inj hf, ht⟩) (fun q h => nomatch h) dX7_newWay_87
  · have hf := ifF hf c21
    clear c21
    refine lv_iload_n hx hb dX7_newWay_15 rfl (lv_at hl 1 rfl) ?_
    refine lv_iconst (v := 1) hx hb dX7_newWay_16 (by decide) ?_
    refine lv_iadd hx hb dX7_newWay_17 ?_
    refine lv_topi (fun x4 ex4 => ?_)
    have hf := vlE hf ex4
    clear ex4
    refine lv_istore_n (lv' := [(3, .int x4), (1, .int x1), (2, .int x2), (0, .ref q_t)]) hx hb dX7_newWay_18 rfl hl (by decide) rfl (fun ls hl => ?_)
    refine wlr2 19 (fun _ _ => []) (fun (x5 : Int32) (x6 : Int32) ls => lv_has ls 4 [(1, .int x5), (3, .int x6), (2, .int x2), (0, .ref q_t)]) (fun g7 L19 x5 x6 ls hl hf => ?_) 400 x1 x4 ls (lv_sub hl [1, 0, 2, 3] rfl) hf
    refine lv_iload_n hx hb dX7_newWay_19 rfl (lv_at hl 1 rfl) ?_
    refine lv_aload_n hx hb dX7_newWay_20 rfl (lv_at hl 3 rfl) ?_
    refine va_get (D := D) (ci := 7) (v := .ref q_t_now) (C := RX7) (T := TX7) (N := 12) hx hb hts hinX7 hown hK.1 hP 0 rfl rfl 0 (by decide) hk10 (fun _ h9 => h9) rfl dX7_newWay_21 ?_
    refine va_get (D := D) (ci := 5) (v := .int v_t_now_places) (C := RX5) (T := TX5) (N := 12) hx hb hts hinX5 hown hK.1 hP 1 rfl rfl 0 (by decide) hk152 (fun _ h9 => h9) rfl dX7_newWay_24 ?_
    refine lv_icmp_ge (tgt := 80) hx hb dX7_newWay_27 (by decide) (fun c20 => ?_) (fun c20 => ?_)
    · have hf := ifT hf c20
      clear c20
      obtain ⟨x8, ex8⟩ : ∃ y : Int32, y = x2 + (1 : Int32) := ⟨_, rfl⟩
      have hf := vlE hf ex8
      refine lv_iinc (v := x8) (lv' := [(2, .int x8), (1, .int x5), (3, .int x6), (0, .ref q_t)]) hx hb dX7_newWay_80 hl (k := 2) rfl (by rw [ex8]; rfl) (by decide) rfl (fun ls hl => ?_)
      clear ex8
      refine lv_goto (tgt := 4) hx hb dX7_newWay_83 (by decide) ?_
      exact L4 x5 x8 ls (lv_sub hl [1, 0, 3] rfl) hf
    · have hf := ifF hf c20
      clear c20
      refine lv_aload_n hx hb dX7_newWay_30 rfl (lv_at hl 3 rfl) ?_
      refine va_get (D := D) (ci := 7) (v := .ref q_t_now) (C := RX7) (T := TX7) (N := 12) hx hb hts hinX7 hown hK.1 hP 0 rfl rfl 0 (by decide) hk10 (fun _ h9 => h9) rfl dX7_newWay_31 ?_
      refine lv_iload_n hx hb dX7_newWay_34 rfl (lv_at hl 2 rfl) ?_
      refine lv_iload_n hx hb dX7_newWay_35 rfl (lv_at hl 1 rfl) ?_
      obtain ⟨r9, hr10, hf⟩ := boE1 hf
      have hPc := hP.sub (ws' := [(q_t_now, oX5 v_t_now_places q_t_now_ways q_t_now_distances v_t_now_people q_t_now_kind q_t_now_a q_t_now_home q_t_now_aim q_t_now_at v_t_now_hour v_t_now_chance v_t_now_seed), (q_t_now_distances, .inl (cy 0, 144, .inl v_t_now_distances))]) [1, 3] rfl
      refine xcSi (va_runV (As := [.int x2, .int x6]) (rest := []) ⟨hx, hb, hml, hown, hts⟩ (mX5_distance l D cy q_t_now q_t_now_ways q_t_now_distances q_t_now_kind q_t_now_a q_t_now_home q_t_now_aim q_t_now_at v_t_now_places v_t_now_people v_t_now_hour v_t_now_chance v_t_now_seed v_t_now_distances  x2 x6 hr10) (cwV 2 hts gX7_newWay_X5_distance rfl rfl rfl (by decide +kernel) ⟨Nat.le_of_ble_eq_true rfl, Nat.le_of_ble_eq_true rfl⟩) (xPV hK hPc (ci := 5) (q0 := 0) rfl rfl) rfl rfl hl.1 rfl (lv_room (Nat.le_of_ble_eq_true rfl)) dX7_newWay_36 ⟨Nat.le_of_ble_eq_true rfl, Nat.le_of_ble_eq_true rfl⟩) ?_
      refine lv_iconst (v := (-1)) hx hb dX7_newWay_39 (by decide) ?_
      refine lv_icmp_ne (tgt := 50) hx hb dX7_newWay_40 (by decide) (fun c19 => ?_) (fun c19 => ?_)
      · have hf := ifF hf c19
        clear c19
        refine lv_iload_n hx hb dX7_newWay_50 rfl (lv_at hl 0 rfl) ?_
        refine lv_iconst (v := (-1)) hx hb dX7_newWay_51 (by decide) ?_
        refine jwr1 74 (fun (x11 : Int32) => []) (fun (x11 : Int32) ls => lv_has ls 4 [(1, .int x11), (0, .ref q_t), (2, .int x2), (3, .int x6)]) hf (fun x11 ls hl hf => ?_) (fun k12 J74 hf => ?_)
        · obtain ⟨x13, ex13⟩ : ∃ y : Int32, y = x6 + (1 : Int32) := ⟨_, rfl⟩
          have hf := vlE hf ex13
          refine lv_iinc (v := x13) (lv' := [(3, .int x13), (1, .int x11), (0, .ref q_t), (2, .int x2)]) hx hb dX7_newWay_74 hl (k := 3) rfl (by rw [ex13]; rfl) (by decide) rfl (fun ls hl => ?_)
          clear ex13
          refine lv_goto (tgt := 19) hx hb dX7_newWay_77 (by decide) ?_
          exact L19 x11 x13 ls (lv_sub hl [1, 0, 3, 2] rfl) hf
        · refine lv_icmp_ne (tgt := 74) hx hb dX7_newWay_52 (by decide) (fun c18 => ?_) (fun c18 => ?_)
          · have hf := ifF hf c18
            clear c18
            exact J74 x5 ls (lv_sub hl [0, 3, 2, 1] rfl) hf
          · have hf := ifT hf c18
            clear c18
            refine lv_aload_n hx hb dX7_newWay_55 rfl (lv_at hl 3 rfl) ?_
            refine va_get (D := D) (ci := 7) (v := .ref q_t_now) (C := RX7) (T := TX7) (N := 12) hx hb hts hinX7 hown hK.1 hP 0 rfl rfl 0 (by decide) hk10 (fun _ h9 => h9) rfl dX7_newWay_56 ?_
            refine lv_iload_n hx hb dX7_newWay_59 rfl (lv_at hl 2 rfl) ?_
            refine lv_iload_n hx hb dX7_newWay_60 rfl (lv_at hl 1 rfl) ?_
            obtain ⟨r14, hr15, hf⟩ := boE1 hf
            have hPc := hP.sub (ws' := [(q_t_now, oX5 v_t_now_places q_t_now_ways q_t_now_distances v_t_now_people q_t_now_kind q_t_now_a q_t_now_home q_t_now_aim q_t_now_at v_t_now_hour v_t_now_chance v_t_now_seed), (q_t_now_ways, .inl (cy 0, 12, .inl v_t_now_ways))]) [1, 2] rfl
            refine xcSi (va_runV (As := [.int x2, .int x6]) (rest := []) ⟨hx, hb, hml, hown, hts⟩ (mX5_hasWay l D cy q_t_now q_t_now_ways q_t_now_distances q_t_now_kind q_t_now_a q_t_now_home q_t_now_aim q_t_now_at v_t_now_places v_t_now_people v_t_now_hour v_t_now_chance v_t_now_seed v_t_now_ways  x2 x6 hr15) (cwV 2 hts gX7_newWay_X5_hasWay rfl rfl rfl (by decide +kernel) ⟨Nat.le_of_ble_eq_true rfl, Nat.le_of_ble_eq_true rfl⟩) (xPV hK hPc (ci := 5) (q0 := 0) rfl rfl) rfl rfl hl.1 rfl (lv_room (Nat.le_of_ble_eq_true rfl)) dX7_newWay_61 ⟨Nat.le_of_ble_eq_true rfl, Nat.le_of_ble_eq_true rfl⟩) ?_
            refine lv_if_ne (tgt := 74) hx hb dX7_newWay_64 (by decide) (fun c17 => ?_) (fun c17 => ?_)
            · have hf := ifF hf c17
              clear c17
              exact J74 x5 ls (lv_sub hl [0, 3, 2, 1] rfl) hf
            · have hf := ifT hf c17
              clear c17
              refine lv_bipush (v := 100) hx hb dX7_newWay_67 (by decide) ?_
              refine lv_iload_n hx hb dX7_newWay_69 rfl (lv_at hl 2 rfl) ?_
              refine lv_imul hx hb dX7_newWay_70 ?_
              refine lv_iload_n hx hb dX7_newWay_71 rfl (lv_at hl 1 rfl) ?_
              refine lv_iadd hx hb dX7_newWay_72 ?_
              refine lv_topi (fun x16 ex16 => ?_)
              have hf := vlE hf ex16
              clear ex16
              refine lv_istore_n (lv' := [(1, .int x16), (3, .int x6), (2, .int x2), (0, .ref q_t)]) hx hb dX7_newWay_73 rfl hl (by decide) rfl (fun ls hl => ?_)
              exact J74 x16 ls (lv_sub hl [0, 3, 2, 1] rfl) hf
      · have hf := ifT hf c19
        clear c19
        refine lv_bipush (v := 100) hx hb dX7_newWay_43 (by decide) ?_
        refine lv_iload_n hx hb dX7_newWay_45 rfl (lv_at hl 2 rfl) ?_
        refine lv_imul hx hb dX7_newWay_46 ?_
        refine lv_iload_n hx hb dX7_newWay_47 rfl (lv_at hl 1 rfl) ?_
        refine lv_iadd hx hb dX7_newWay_48 ?_
        exact W.iret (v := (((100 : Int32) * x2) + x6)) hx hb hr (fun t ht hW => ⟨(((100 : Int32) * x2) + x6), rfl, Option.some.inj hf, ht⟩) (fun q h => nomatch h) dX7_newWay_49
