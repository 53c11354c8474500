def fX7_untold (v_t_now_places : Int32) (v_t_now_people : Int32) (v_t_now_hour : Int32) (v_t_now_chance : Int32) (v_t_now_seed : Int32) (v_t_now_ways : Nat → Int32) (v_t_now_distances : Nat → Int32) (v_t_now_kind : Nat → Int32) (v_t_now_a : Nat → Int32) (v_t_now_home : Nat → Int32) (v_t_now_aim : Nat → Int32) (v_t_now_at : Nat → Int32) (v_t_future_places : Int32) (v_t_future_people : Int32) (v_t_future_hour : Int32) (v_t_future_chance : Int32) (v_t_future_seed : Int32) (v_t_future_ways : Nat → Int32) (v_t_future_distances : Nat → Int32) (v_t_future_kind : Nat → Int32) (v_t_future_a : Nat → Int32) (v_t_future_home : Nat → Int32) (v_t_future_aim : Nat → Int32) (v_t_future_at : Nat → Int32) (v_t_refusals : Nat → Int32) (p0 : Int32) (p1 : Int32) : Option (Int32 × Int32 × Int32 × Int32 × Int32 × Int32 × (Nat → Int32) × (Nat → Int32) × (Nat → Int32) × (Nat → Int32) × (Nat → Int32) × (Nat → Int32) × (Nat → Int32) × (Nat → Int32)) :=
  vlet (((1 : Int32) <<< (v_t_now_people &&& 31)) - (1 : Int32)) fun x1 =>
  jo0 (
    bo2 (fX7_refuse v_t_refusals (-2 : Int32)) fun r3 u4 =>
    some (r3, v_t_future_places, v_t_future_people, v_t_future_hour, v_t_future_chance, v_t_future_seed, v_t_future_ways, v_t_future_distances, v_t_future_kind, v_t_future_a, v_t_future_home, v_t_future_aim, v_t_future_at, u4)) fun k2 =>
  if (p0 &&& (x1 ^^^ (-1 : Int32))) = 0 then
    bo1 (fX7_isAhead p1) fun r6 =>
    if r6 = 0 then
      k2
    else
      bo12 (fX7_lookAhead v_t_now_places v_t_now_people v_t_now_hour v_t_now_chance v_t_now_seed v_t_now_ways v_t_now_distances v_t_now_kind v_t_now_a v_t_now_home v_t_now_aim v_t_now_at p1) fun u8 u9 u10 u11 u12 u13 u14 u15 u16 u17 u18 u19 =>
      bo1 (fX5_darkPlaces u9 u15 u19) fun r21 =>
      lo2 (fun g25 (x23 : Int32) (x24 : Int32) =>
        if u9 ≤ x24 then
          some (x23, u8, u9, u10, u11, u12, u13, u14, u15, u16, u17, u18, u19, v_t_refusals)
        else
          bo1 (fX7_hasBit p0 x24) fun r26 =>
          jo1 (fun (x28 : Int32) =>
            vlet (x24 + (1 : Int32)) fun x30 =>
            g25 x28 x30) fun k29 =>
          if r26 = 0 then
            k29 x23
          else
            if x24 < 0 ∨ 8 ≤ x24.toNatClampNeg then none else
            vlet (x23 &&& (((1 : Int32) <<< ((u19 x24.toNatClampNeg) &&& 31)) ^^^ (-1 : Int32))) fun x32 =>
            k29 x32) 400 r21 (0 : Int32)
  else
    k2
set_option maxHeartbeats 4000000 in
set_option maxRecDepth 100000 in
theorem mX7_untold (l : Launch) (D : va_G) (cy : Nat → ClassId) (q_t q_t_now q_t_future q_t_draft q_t_kept q_t_shelves q_t_tape q_t_reader q_t_hiddenWay q_t_sights q_t_choice q_t_refusals q_t_now_ways q_t_now_distances q_t_now_kind q_t_now_a q_t_now_home q_t_now_aim q_t_now_at q_t_future_ways q_t_future_distances q_t_future_kind q_t_future_a q_t_future_home q_t_future_aim q_t_future_at : Nat) (v_t_isKept : Int32) (v_t_now_places : Int32) (v_t_now_people : Int32) (v_t_now_hour : Int32) (v_t_now_chance : Int32) (v_t_now_seed : Int32) (v_t_now_ways : Nat → Int32) (v_t_now_distances : Nat → Int32) (v_t_now_kind : Nat → Int32) (v_t_now_a : Nat → Int32) (v_t_now_home : Nat → Int32) (v_t_now_aim : Nat → Int32) (v_t_now_at : Nat → Int32) (v_t_future_places : Int32) (v_t_future_people : Int32) (v_t_future_hour : Int32) (v_t_future_chance : Int32) (v_t_future_seed : Int32) (v_t_future_ways : Nat → Int32) (v_t_future_distances : Nat → Int32) (v_t_future_kind : Nat → Int32) (v_t_future_a : Nat → Int32) (v_t_future_home : Nat → Int32) (v_t_future_aim : Nat → Int32) (v_t_future_at : Nat → Int32) (v_t_refusals : Nat → Int32) (sz : Nat) (p0 : Int32) (p1 : Int32) {r_ : Int32} {n_t_future_places : Int32} {n_t_future_people : Int32} {n_t_future_hour : Int32} {n_t_future_chance : Int32} {n_t_future_seed : Int32} {n_t_future_ways : Nat → Int32} {n_t_future_distances : Nat → Int32} {n_t_future_kind : Nat → Int32} {n_t_future_a : Nat → Int32} {n_t_future_home : Nat → Int32} {n_t_future_aim : Nat → Int32} {n_t_future_at : Nat → Int32} {n_t_refusals : Nat → Int32} (hf : fX7_untold v_t_now_places v_t_now_people v_t_now_hour v_t_now_chance v_t_now_seed v_t_now_ways v_t_now_distances v_t_now_kind v_t_now_a v_t_now_home v_t_now_aim v_t_now_at v_t_future_places v_t_future_people v_t_future_hour v_t_future_chance v_t_future_seed v_t_future_ways v_t_future_distances v_t_future_kind v_t_future_a v_t_future_home v_t_future_aim v_t_future_at v_t_refusals p0 p1 = some (r_, n_t_future_places, n_t_future_people, n_t_future_hour, n_t_future_chance, n_t_future_seed, n_t_future_ways, n_t_future_distances, n_t_future_kind, n_t_future_a, n_t_future_home, n_t_future_aim, n_t_future_at, n_t_refusals)) : Met l yX7_untold wsX7_untold ({ frames := 6, cells := 0, slots := 0, locals := 136 }) (va_Pc [.ref q_t, .int p0, .int p1] (fun U => U.heap.size = sz ∧ va_P D vwCl [(q_t, oX7 q_t_now q_t_future q_t_draft q_t_kept v_t_isKept q_t_shelves q_t_tape q_t_reader q_t_hiddenWay q_t_sights q_t_choice q_t_refusals), (q_t_now, oX5 v_t_now_places q_t_now_ways q_t_now_distances v_t_now_people q_t_now_kind q_t_now_a q_t_now_home q_t_now_aim q_t_now_at v_t_now_hour v_t_now_chance v_t_now_seed), (q_t_now_ways, .inl (cy 0, 12, .inl v_t_now_ways)), (q_t_now_distances, .inl (cy 0, 144, .inl v_t_now_distances)), (q_t_now_kind, .inl (cy 0, 8, .inl v_t_now_kind)), (q_t_now_a, .inl (cy 0, 8, .inl v_t_now_a)), (q_t_now_home, .inl (cy 0, 8, .inl v_t_now_home)), (q_t_now_aim, .inl (cy 0, 8, .inl v_t_now_aim)), (q_t_now_at, .inl (cy 0, 8, .inl v_t_now_at)), (q_t_future, oX5 v_t_future_places q_t_future_ways q_t_future_distances v_t_future_people q_t_future_kind q_t_future_a q_t_future_home q_t_future_aim q_t_future_at v_t_future_hour v_t_future_chance v_t_future_seed), (q_t_future_ways, .inl (cy 0, 12, .inl v_t_future_ways)), (q_t_future_distances, .inl (cy 0, 144, .inl v_t_future_distances)), (q_t_future_kind, .inl (cy 0, 8, .inl v_t_future_kind)), (q_t_future_a, .inl (cy 0, 8, .inl v_t_future_a)), (q_t_future_home, .inl (cy 0, 8, .inl v_t_future_home)), (q_t_future_aim, .inl (cy 0, 8, .inl v_t_future_aim)), (q_t_future_at, .inl (cy 0, 8, .inl v_t_future_at)), (q_t_refusals, .inl (cy 0, 5, .inl v_t_refusals))] U.heap ∧ xK D cy U ∧ va_D (fun _ => True) [(q_t, oX7 q_t_now q_t_future q_t_draft q_t_kept v_t_isKept q_t_shelves q_t_tape q_t_reader q_t_hiddenWay q_t_sights q_t_choice q_t_refusals), (q_t_now, oX5 v_t_now_places q_t_now_ways q_t_now_distances v_t_now_people q_t_now_kind q_t_now_a q_t_now_home q_t_now_aim q_t_now_at v_t_now_hour v_t_now_chance v_t_now_seed), (q_t_now_ways, .inl (cy 0, 12, .inl v_t_now_ways)), (q_t_now_distances, .inl (cy 0, 144, .inl v_t_now_distances)), (q_t_now_kind, .inl (cy 0, 8, .inl v_t_now_kind)), (q_t_now_a, .inl (cy 0, 8, .inl v_t_now_a)), (q_t_now_home, .inl (cy 0, 8, .inl v_t_now_home)), (q_t_now_aim, .inl (cy 0, 8, .inl v_t_now_aim)), (q_t_now_at, .inl (cy 0, 8, .inl v_t_now_at)), (q_t_future, oX5 v_t_future_places q_t_future_ways q_t_future_distances v_t_future_people q_t_future_kind q_t_future_a q_t_future_home q_t_future_aim q_t_future_at v_t_future_hour v_t_future_chance v_t_future_seed), (q_t_future_ways, .inl (cy 0, 12, .inl v_t_future_ways)), (q_t_future_distances, .inl (cy 0, 144, .inl v_t_future_distances)), (q_t_future_kind, .inl (cy 0, 8, .inl v_t_future_kind)), (q_t_future_a, .inl (cy 0, 8, .inl v_t_future_a)), (q_t_future_home, .inl (cy 0, 8, .inl v_t_future_home)), (q_t_future_aim, .inl (cy 0, 8, .inl v_t_future_aim)), (q_t_future_at, .inl (cy 0, 8, .inl v_t_future_at)), (q_t_refusals, .inl (cy 0, 5, .inl v_t_refusals))])) (va_Qi (fun (x : Int32) (_ : Unit) => x = r_) (fun _ t => va_P D vwCl [(q_t, oX7 q_t_now q_t_future q_t_draft q_t_kept v_t_isKept q_t_shelves q_t_tape q_t_reader q_t_hiddenWay q_t_sights q_t_choice q_t_refusals), (q_t_now, oX5 v_t_now_places q_t_now_ways q_t_now_distances v_t_now_people q_t_now_kind q_t_now_a q_t_now_home q_t_now_aim q_t_now_at v_t_now_hour v_t_now_chance v_t_now_seed), (q_t_now_ways, .inl (cy 0, 12, .inl v_t_now_ways)), (q_t_now_distances, .inl (cy 0, 144, .inl v_t_now_distances)), (q_t_now_kind, .inl (cy 0, 8, .inl v_t_now_kind)), (q_t_now_a, .inl (cy 0, 8, .inl v_t_now_a)), (q_t_now_home, .inl (cy 0, 8, .inl v_t_now_home)), (q_t_now_aim, .inl (cy 0, 8, .inl v_t_now_aim)), (q_t_now_at, .inl (cy 0, 8, .inl v_t_now_at)), (q_t_future, oX5 n_t_future_places q_t_future_ways q_t_future_distances n_t_future_people q_t_future_kind q_t_future_a q_t_future_home q_t_future_aim q_t_future_at n_t_future_hour n_t_future_chance n_t_future_seed), (q_t_future_ways, .inl (cy 0, 12, .inl n_t_future_ways)), (q_t_future_distances, .inl (cy 0, 144, .inl n_t_future_distances)), (q_t_future_kind, .inl (cy 0, 8, .inl n_t_future_kind)), (q_t_future_a, .inl (cy 0, 8, .inl n_t_future_a)), (q_t_future_home, .inl (cy 0, 8, .inl n_t_future_home)), (q_t_future_aim, .inl (cy 0, 8, .inl n_t_future_aim)), (q_t_future_at, .inl (cy 0, 8, .inl n_t_future_at)), (q_t_refusals, .inl (cy 0, 5, .inl n_t_refusals))] t.heap) (va_A [(q_t, oX7 q_t_now q_t_future q_t_draft q_t_kept v_t_isKept q_t_shelves q_t_tape q_t_reader q_t_hiddenWay q_t_sights q_t_choice q_t_refusals), (q_t_now, oX5 v_t_now_places q_t_now_ways q_t_now_distances v_t_now_people q_t_now_kind q_t_now_a q_t_now_home q_t_now_aim q_t_now_at v_t_now_hour v_t_now_chance v_t_now_seed), (q_t_now_ways, .inl (cy 0, 12, .inl v_t_now_ways)), (q_t_now_distances, .inl (cy 0, 144, .inl v_t_now_distances)), (q_t_now_kind, .inl (cy 0, 8, .inl v_t_now_kind)), (q_t_now_a, .inl (cy 0, 8, .inl v_t_now_a)), (q_t_now_home, .inl (cy 0, 8, .inl v_t_now_home)), (q_t_now_aim, .inl (cy 0, 8, .inl v_t_now_aim)), (q_t_now_at, .inl (cy 0, 8, .inl v_t_now_at)), (q_t_future, oX5 v_t_future_places q_t_future_ways q_t_future_distances v_t_future_people q_t_future_kind q_t_future_a q_t_future_home q_t_future_aim q_t_future_at v_t_future_hour v_t_future_chance v_t_future_seed), (q_t_future_ways, .inl (cy 0, 12, .inl v_t_future_ways)), (q_t_future_distances, .inl (cy 0, 144, .inl v_t_future_distances)), (q_t_future_kind, .inl (cy 0, 8, .inl v_t_future_kind)), (q_t_future_a, .inl (cy 0, 8, .inl v_t_future_a)), (q_t_future_home, .inl (cy 0, 8, .inl v_t_future_home)), (q_t_future_aim, .inl (cy 0, 8, .inl v_t_future_aim)), (q_t_future_at, .inl (cy 0, 8, .inl v_t_future_at)), (q_t_refusals, .inl (cy 0, 5, .inl v_t_refusals))] sz)) 0 0 (va_A [(q_t, oX7 q_t_now q_t_future q_t_draft q_t_kept v_t_isKept q_t_shelves q_t_tape q_t_reader q_t_hiddenWay q_t_sights q_t_choice q_t_refusals), (q_t_now, oX5 v_t_now_places q_t_now_ways q_t_now_distances v_t_now_people q_t_now_kind q_t_now_a q_t_now_home q_t_now_aim q_t_now_at v_t_now_hour v_t_now_chance v_t_now_seed), (q_t_now_ways, .inl (cy 0, 12, .inl v_t_now_ways)), (q_t_now_distances, .inl (cy 0, 144, .inl v_t_now_distances)), (q_t_now_kind, .inl (cy 0, 8, .inl v_t_now_kind)), (q_t_now_a, .inl (cy 0, 8, .inl v_t_now_a)), (q_t_now_home, .inl (cy 0, 8, .inl v_t_now_home)), (q_t_now_aim, .inl (cy 0, 8, .inl v_t_now_aim)), (q_t_now_at, .inl (cy 0, 8, .inl v_t_now_at)), (q_t_future, oX5 v_t_future_places q_t_future_ways q_t_future_distances v_t_future_people q_t_future_kind q_t_future_a q_t_future_home q_t_future_aim q_t_future_at v_t_future_hour v_t_future_chance v_t_future_seed), (q_t_future_ways, .inl (cy 0, 12, .inl v_t_future_ways)), (q_t_future_distances, .inl (cy 0, 144, .inl v_t_future_distances)), (q_t_future_kind, .inl (cy 0, 8, .inl v_t_future_kind)), (q_t_future_a, .inl (cy 0, 8, .inl v_t_future_a)), (q_t_future_home, .inl (cy 0, 8, .inl v_t_future_home)), (q_t_future_aim, .inl (cy 0, 8, .inl v_t_future_aim)), (q_t_future_at, .inl (cy 0, 8, .inl v_t_future_at)), (q_t_refusals, .inl (cy 0, 5, .inl v_t_refusals))] sz) := by
  refine Met.ofW (cc := cX7_untold) (maxL := 6) (ret := (some .int)) (by decide) rfl ?_
  intro p e s m args below meth c s₁ B hml hv
  obtain ⟨rfl, hsz, hP, hK, hD0⟩ := hv
  have hx := B.exec
  have hb := B.bytes
  have hr := B.returns
  have hts := atoms_spec (ws := wsX7_untold) B.pre
  have hown : s.vm.findClass RX7 = some m.cls := findClass_of_methodNamed B.named
  have hlocks := B.notSynchronized
  subst hsz
  have hD := hD0.self (sz := s.heap.size)
  generalize hAe : va_A [(q_t, oX7 q_t_now q_t_future q_t_draft q_t_kept v_t_isKept q_t_shelves q_t_tape q_t_reader q_t_hiddenWay q_t_sights q_t_choice q_t_refusals), (q_t_now, oX5 v_t_now_places q_t_now_ways q_t_now_distances v_t_now_people q_t_now_kind q_t_now_a q_t_now_home q_t_now_aim q_t_now_at v_t_now_hour v_t_now_chance v_t_now_seed), (q_t_now_ways, .inl (cy 0, 12, .inl v_t_now_ways)), (q_t_now_distances, .inl (cy 0, 144, .inl v_t_now_distances)), (q_t_now_kind, .inl (cy 0, 8, .inl v_t_now_kind)), (q_t_now_a, .inl (cy 0, 8, .inl v_t_now_a)), (q_t_now_home, .inl (cy 0, 8, .inl v_t_now_home)), (q_t_now_aim, .inl (cy 0, 8, .inl v_t_now_aim)), (q_t_now_at, .inl (cy 0, 8, .inl v_t_now_at)), (q_t_future, oX5 v_t_future_places q_t_future_ways q_t_future_distances v_t_future_people q_t_future_kind q_t_future_a q_t_future_home q_t_future_aim q_t_future_at v_t_future_hour v_t_future_chance v_t_future_seed), (q_t_future_ways, .inl (cy 0, 12, .inl v_t_future_ways)), (q_t_future_distances, .inl (cy 0, 144, .inl v_t_future_distances)), (q_t_future_kind, .inl (cy 0, 8, .inl v_t_future_kind)), (q_t_future_a, .inl (cy 0, 8, .inl v_t_future_a)), (q_t_future_home, .inl (cy 0, 8, .inl v_t_future_home)), (q_t_future_aim, .inl (cy 0, 8, .inl v_t_future_aim)), (q_t_future_at, .inl (cy 0, 8, .inl v_t_future_at)), (q_t_refusals, .inl (cy 0, 5, .inl v_t_refusals))] s.heap.size = A at hD ⊢
  have hA : ∀ q : Nat, s.heap.size ≤ q → A q := fun q h => by rw [← hAe]; exact Or.inr h
  have hS : va_S A s.heap s.heap [] := va_S.rf
  have hP : va_P D vwCl [(q_t, oX7 q_t_now q_t_future q_t_draft q_t_kept v_t_isKept q_t_shelves q_t_tape q_t_reader q_t_hiddenWay q_t_sights q_t_choice q_t_refusals), (q_t_now, oX5 v_t_now_places q_t_now_ways q_t_now_distances v_t_now_people q_t_now_kind q_t_now_a q_t_now_home q_t_now_aim q_t_now_at v_t_now_hour v_t_now_chance v_t_now_seed), (q_t_now_ways, .inl (cy 0, 12, .inl v_t_now_ways)), (q_t_now_distances, .inl (cy 0, 144, .inl v_t_now_distances)), (q_t_now_kind, .inl (cy 0, 8, .inl v_t_now_kind)), (q_t_now_a, .inl (cy 0, 8, .inl v_t_now_a)), (q_t_now_home, .inl (cy 0, 8, .inl v_t_now_home)), (q_t_now_aim, .inl (cy 0, 8, .inl v_t_now_aim)), (q_t_now_at, .inl (cy 0, 8, .inl v_t_now_at)), (q_t_future, oX5 v_t_future_places q_t_future_ways q_t_future_distances v_t_future_people q_t_future_kind q_t_future_a q_t_future_home q_t_future_aim q_t_future_at v_t_future_hour v_t_future_chance v_t_future_seed), (q_t_future_ways, .inl (cy 0, 12, .inl v_t_future_ways)), (q_t_future_distances, .inl (cy 0, 144, .inl v_t_future_distances)), (q_t_future_kind, .inl (cy 0, 8, .inl v_t_future_kind)), (q_t_future_a, .inl (cy 0, 8, .inl v_t_future_a)), (q_t_future_home, .inl (cy 0, 8, .inl v_t_future_home)), (q_t_future_aim, .inl (cy 0, 8, .inl v_t_future_aim)), (q_t_future_at, .inl (cy 0, 8, .inl v_t_future_at)), (q_t_refusals, .inl (cy 0, 5, .inl v_t_refusals))] s.heap := hP
  have hinX7 : ∀ w ∈ u_ws RX7 TX7 12, w ∈ wsX7_untold := by decide +kernel
  have hk10 := hts (.fieldLink RX7 10 "ShowsWhereNobodyIs" "now" "LShowsWhereNobodyIs$Town;") (by decide +kernel)
  have hinX5 : ∀ w ∈ u_ws RX5 TX5 12, w ∈ wsX7_untold := by decide +kernel
  have hk171 := hts (.fieldLink RX7 171 "ShowsWhereNobodyIs$Town" "people" "I") (by decide +kernel)
  have hk16 := hts (.fieldLink RX7 16 "ShowsWhereNobodyIs" "future" "LShowsWhereNobodyIs$Town;") (by decide +kernel)
  have hk149 := hts (.fieldLink RX7 149 "ShowsWhereNobodyIs$Town" "at" "[I") (by decide +kernel)
  have hl := lv_entry ([.ref q_t, .int p0, .int p1]) (n := 6) (Nat.le_of_ble_eq_true rfl)
  rw [lg_entry_eq]
  generalize (lg_sl ([.ref q_t, .int p0, .int p1]) ++ List.replicate (6 - (lg_sl ([.ref q_t, .int p0, .int p1])).length) Slot.unset).toArray = ls at hl ⊢
  have hl : lv_has ls 6 [(0, .ref q_t), (1, .int p0), (2, .int p1)] := hl
  unfold fX7_untold at hf
  refine lv_iconst (v := 1) hx hb dX7_untold_0 (by decide) ?_
  refine lv_aload_n hx hb dX7_untold_1 rfl (lv_at hl 0 rfl) ?_
  refine va_get (D := D) (ci := 7) (v := .ref q_t_now) (C := RX7) (T := TX7) (N := 12) hx hb hts hinX7 hown hK.1 hP 0 rfl rfl 0 (by decide) hk10 (fun _ h9 => h9) rfl dX7_untold_2 ?_
  refine va_get (D := D) (ci := 5) (v := .int v_t_now_people) (C := RX5) (T := TX5) (N := 12) hx hb hts hinX5 hown hK.1 hP 1 rfl rfl 3 (by decide) hk171 (fun _ h9 => h9) rfl dX7_untold_5 ?_
  refine lv_ishl hx hb dX7_untold_8 ?_
  refine lv_iconst (v := 1) hx hb dX7_untold_9 (by decide) ?_
  refine lv_isub hx hb dX7_untold_10 ?_
  refine lv_topi (fun x1 ex1 => ?_)
  have hf := vlE hf ex1
  clear ex1
  refine lv_istore_n (lv' := [(3, .int x1), (0, .ref q_t), (1, .int p0), (2, .int p1)]) hx hb dX7_untold_11 rfl hl (by decide) rfl (fun ls hl => ?_)
  refine lv_iload_n hx hb dX7_untold_12 rfl (lv_at hl 2 rfl) ?_
  refine lv_iload_n hx hb dX7_untold_13 rfl (lv_at hl 0 rfl) ?_
  refine lv_iconst (v := (-1)) hx hb dX7_untold_14 (by decide) ?_
  refine lv_ixor hx hb dX7_untold_15 ?_
  refine lv_iand hx hb dX7_untold_16 ?_
  refine jww0 27 [] (fun  H locs ls => va_P D vwCl [(q_t, oX7 q_t_now q_t_future q_t_draft q_t_kept v_t_isKept q_t_shelves q_t_tape q_t_reader q_t_hiddenWay q_t_sights q_t_choice q_t_refusals), (q_t_now, oX5 v_t_now_places q_t_now_ways q_t_now_distances v_t_now_people q_t_now_kind q_t_now_a q_t_now_home q_t_now_aim q_t_now_at v_t_now_hour v_t_now_chance v_t_now_seed), (q_t_now_ways, .inl (cy 0, 12, .inl v_t_now_ways)), (q_t_now_distances, .inl (cy 0, 144, .inl v_t_now_distances)), (q_t_now_kind, .inl (cy 0, 8, .inl v_t_now_kind)), (q_t_now_a, .inl (cy 0, 8, .inl v_t_now_a)), (q_t_now_home, .inl (cy 0, 8, .inl v_t_now_home)), (q_t_now_aim, .inl (cy 0, 8, .inl v_t_now_aim)), (q_t_now_at, .inl (cy 0, 8, .inl v_t_now_at)), (q_t_future, oX5 v_t_future_places q_t_future_ways q_t_future_distances v_t_future_people q_t_future_kind q_t_future_a q_t_future_home q_t_future_aim q_t_future_at v_t_future_hour v_t_future_chance v_t_future_seed), (q_t_future_ways, .inl (cy 0, 12, .inl v_t_future_ways)), (q_t_future_distances, .inl (cy 0, 144, .inl v_t_future_distances)), (q_t_future_kind, .inl (cy 0, 8, .inl v_t_future_kind)), (q_t_future_a, .inl (cy 0, 8, .inl v_t_future_a)), (q_t_future_home, .inl (cy 0, 8, .inl v_t_future_home)), (q_t_future_aim, .inl (cy 0, 8, .inl v_t_future_aim)), (q_t_future_at, .inl (cy 0, 8, .inl v_t_future_at)), (q_t_refusals, .inl (cy 0, 5, .inl v_t_refusals))] H ∧ va_D A [(q_t, oX7 q_t_now q_t_future q_t_draft q_t_kept v_t_isKept q_t_shelves q_t_tape q_t_reader q_t_hiddenWay q_t_sights q_t_choice q_t_refusals), (q_t_now, oX5 v_t_now_places q_t_now_ways q_t_now_distances v_t_now_people q_t_now_kind q_t_now_a q_t_now_home q_t_now_aim q_t_now_at v_t_now_hour v_t_now_chance v_t_now_seed), (q_t_now_ways, .inl (cy 0, 12, .inl v_t_now_ways)), (q_t_now_distances, .inl (cy 0, 144, .inl v_t_now_distances)), (q_t_now_kind, .inl (cy 0, 8, .inl v_t_now_kind)), (q_t_now_a, .inl (cy 0, 8, .inl v_t_now_a)), (q_t_now_home, .inl (cy 0, 8, .inl v_t_now_home)), (q_t_now_aim, .inl (cy 0, 8, .inl v_t_now_aim)), (q_t_now_at, .inl (cy 0, 8, .inl v_t_now_at)), (q_t_future, oX5 v_t_future_places q_t_future_ways q_t_future_distances v_t_future_people q_t_future_kind q_t_future_a q_t_future_home q_t_future_aim q_t_future_at v_t_future_hour v_t_future_chance v_t_future_seed), (q_t_future_ways, .inl (cy 0, 12, .inl v_t_future_ways)), (q_t_future_distances, .inl (cy 0, 144, .inl v_t_future_distances)), (q_t_future_kind, .inl (cy 0, 8, .inl v_t_future_kind)), (q_t_future_a, .inl (cy 0, 8, .inl v_t_future_a)), (q_t_future_home, .inl (cy 0, 8, .inl v_t_future_home)), (q_t_future_aim, .inl (cy 0, 8, .inl v_t_future_aim)), (q_t_future_at, .inl (cy 0, 8, .inl v_t_future_at)), (q_t_refusals, .inl (cy 0, 5, .inl v_t_refusals))] ∧ va_S A s.heap H locs ∧ lv_has ls 6 [(0, .ref q_t)]) hf (fun  H locs ls hI hf => ?_) (fun k2 J27 hf => ?_)
  · obtain ⟨hP, hD, hS, hl⟩ := hI
    refine lv_aload_n hx hb dX7_untold_27 rfl (lv_at hl 0 rfl) ?_
    refine lv_bipush (v := (-2)) hx hb dX7_untold_28 (by decide) ?_
    obtain ⟨r3, u4, hr5, hf⟩ := boE2 hf
    have hPc := hP.sub (ws' := [(q_t, oX7 q_t_now q_t_future q_t_draft q_t_kept v_t_isKept q_t_shelves q_t_tape q_t_reader q_t_hiddenWay q_t_sights q_t_choice q_t_refusals), (q_t_refusals, .inl (cy 0, 5, .inl v_t_refusals))]) [0, 17] rfl
    have hDc := hD.sub (ws' := [(q_t, oX7 q_t_now q_t_future q_t_draft q_t_kept v_t_isKept q_t_shelves q_t_tape q_t_reader q_t_hiddenWay q_t_sights q_t_choice q_t_refusals), (q_t_refusals, .inl (cy 0, 5, .inl v_t_refusals))]) [0, 17] (by decide) rfl
    refine xcQi (w1 := [(q_t, oX7 q_t_now q_t_future q_t_draft q_t_kept v_t_isKept q_t_shelves q_t_tape q_t_reader q_t_hiddenWay q_t_sights q_t_choice q_t_refusals), (q_t_refusals, .inl (cy 0, 5, .inl u4))]) (va_runV (As := [.int (-2 : Int32)]) (rest := []) ⟨hx, hb, hml, hown, hts⟩ (mX7_refuse l D cy q_t q_t_now q_t_future q_t_draft q_t_kept q_t_shelves q_t_tape q_t_reader q_t_hiddenWay q_t_sights q_t_choice q_t_refusals v_t_isKept v_t_refusals _ (-2 : Int32) hr5) (cwV 1 hts gX7_untold_X7_refuse rfl rfl rfl (by decide +kernel) ⟨Nat.le_of_ble_eq_true rfl, Nat.le_of_ble_eq_true rfl⟩) (xPVw hK hPc hDc (ci := 7) (q0 := 0) rfl rfl) rfl rfl hl.1 rfl (lv_room (Nat.le_of_ble_eq_true rfl)) dX7_untold_30 ⟨Nat.le_of_ble_eq_true rfl, Nat.le_of_ble_eq_true rfl⟩) hP hD hS hA [0, 17] rfl rfl (fun H locs hP hD hS => ?_)
    have hP : va_P D vwCl [(q_t, oX7 q_t_now q_t_future q_t_draft q_t_kept v_t_isKept q_t_shelves q_t_tape q_t_reader q_t_hiddenWay q_t_sights q_t_choice q_t_refusals), (q_t_now, oX5 v_t_now_places q_t_now_ways q_t_now_distances v_t_now_people q_t_now_kind q_t_now_a q_t_now_home q_t_now_aim q_t_now_at v_t_now_hour v_t_now_chance v_t_now_seed), (q_t_now_ways, .inl (cy 0, 12, .inl v_t_now_ways)), (q_t_now_distances, .inl (cy 0, 144, .inl v_t_now_distances)), (q_t_now_kind, .inl (cy 0, 8, .inl v_t_now_kind)), (q_t_now_a, .inl (cy 0, 8, .inl v_t_now_a)), (q_t_now_home, .inl (cy 0, 8, .inl v_t_now_home)), (q_t_now_aim, .inl (cy 0, 8, .inl v_t_now_aim)), (q_t_now_at, .inl (cy 0, 8, .inl v_t_now_at)), (q_t_future, oX5 v_t_future_places q_t_future_ways q_t_future_distances v_t_future_people q_t_future_kind q_t_future_a q_t_future_home q_t_future_aim q_t_future_at v_t_future_hour v_t_future_chance v_t_future_seed), (q_t_future_ways, .inl (cy 0, 12, .inl v_t_future_ways)), (q_t_future_distances, .inl (cy 0, 144, .inl v_t_future_distances)), (q_t_future_kind, .inl (cy 0, 8, .inl v_t_future_kind)), (q_t_future_a, .inl (cy 0, 8, .inl v_t_future_a)), (q_t_future_home, .inl (cy 0, 8, .inl v_t_future_home)), (q_t_future_aim, .inl (cy 0, 8, .inl v_t_future_aim)), (q_t_future_at, .inl (cy 0, 8, .inl v_t_future_at)), (q_t_refusals, .inl (cy 0, 5, .inl u4))] H := hP
    have hD : va_D A [(q_t, oX7 q_t_now q_t_future q_t_draft q_t_kept v_t_isKept q_t_shelves q_t_tape q_t_reader q_t_hiddenWay q_t_sights q_t_choice q_t_refusals), (q_t_now, oX5 v_t_now_places q_t_now_ways q_t_now_distances v_t_now_people q_t_now_kind q_t_now_a q_t_now_home q_t_now_aim q_t_now_at v_t_now_hour v_t_now_chance v_t_now_seed), (q_t_now_ways, .inl (cy 0, 12, .inl v_t_now_ways)), (q_t_now_distances, .inl (cy 0, 144, .inl v_t_now_distances)), (q_t_now_kind, .inl (cy 0, 8, .inl v_t_now_kind)), (q_t_now_a, .inl (cy 0, 8, .inl v_t_now_a)), (q_t_now_home, .inl (cy 0, 8, .inl v_t_now_home)), (q_t_now_aim, .inl (cy 0, 8, .inl v_t_now_aim)), (q_t_now_at, .inl (cy 0, 8, .inl v_t_now_at)), (q_t_future, oX5 v_t_future_places q_t_future_ways q_t_future_distances v_t_future_people q_t_future_kind q_t_future_a q_t_future_home q_t_future_aim q_t_future_at v_t_future_hour v_t_future_chance v_t_future_seed), (q_t_future_ways, .inl (cy 0, 12, .inl v_t_future_ways)), (q_t_future_distances, .inl (cy 0, 144, .inl v_t_future_distances)), (q_t_future_kind, .inl (cy 0, 8, .inl v_t_future_kind)), (q_t_future_a, .inl (cy 0, 8, .inl v_t_future_a)), (q_t_future_home, .inl (cy 0, 8, .inl v_t_future_home)), (q_t_future_aim, .inl (cy 0, 8, .inl v_t_future_aim)), (q_t_future_at, .inl (cy 0, 8, .inl v_t_future_at)), (q_t_refusals, .inl (cy 0, 5, .inl u4))] := hD
    have hg0 := Option.some.inj hf
    obtain ⟨ee0, hg1⟩ := Prod.mk.inj hg0
    obtain ⟨ee1, hg2⟩ := Prod.mk.inj hg1
    obtain ⟨ee2, hg3⟩ := Prod.mk.inj hg2
    obtain ⟨ee3, hg4⟩ := Prod.mk.inj hg3
    obtain ⟨ee4, hg5⟩ := Prod.mk.inj hg4
    obtain ⟨ee5, hg6⟩ := Prod.mk.inj hg5
    obtain ⟨ee6, hg7⟩ := Prod.mk.inj hg6
    obtain ⟨ee7, hg8⟩ := Prod.mk.inj hg7
    obtain ⟨ee8, hg9⟩ := Prod.mk.inj hg8
    obtain ⟨ee9, hg10⟩ := Prod.mk.inj hg9
    obtain ⟨ee10, hg11⟩ := Prod.mk.inj hg10
    obtain ⟨ee11, hg12⟩ := Prod.mk.inj hg11
    obtain ⟨ee12, hg13⟩ := Prod.mk.inj hg12
    clear hf hg0 hg1 hg2 hg3 hg4 hg5 hg6 hg7 hg8 hg9 hg10 hg11 hg12
    subst ee0
    subst ee1
    subst ee2
    subst ee3
    subst ee4
    subst ee5
    subst ee6
    subst ee7
    subst ee8
    subst ee9
    subst ee10
    subst ee11
    subst ee12
    subst hg13
    exact W.iret hx hb hr (fun t ht hW => ⟨⟨_, (), rfl, rfl, xend ht hP⟩, hS.F ht⟩) hS.2.2 dX7_untold_33
  · refine lv_if_ne (tgt := 27) hx hb dX7_untold_17 (by decide) (fun c36 => ?_) (fun c36 => ?_)
    · have hf := ifF hf c36
      clear c36
      exact J27 _ _ ls ⟨hP, hD, hS, lv_sub hl [1] rfl⟩ hf
    · have hf := ifT hf c36
      clear c36
      refine lv_iload_n hx hb dX7_untold_20 rfl (lv_at hl 3 rfl) ?_
      obtain ⟨r6, hr7, hf⟩ := boE1 hf
      have hPc := hP.sub (ws' := []) [] rfl
      refine xcSi (va_runS (As := [.int p1]) (rest := []) ⟨hx, hb, hml, hown, hts⟩ (mX7_isAhead l D cy    p1 hr7) (va_cwS 1 hts gX7_untold_X7_isAhead rfl rfl rfl (by decide +kernel) ⟨Nat.le_of_ble_eq_true rfl, Nat.le_of_ble_eq_true rfl⟩) (xPS hK hPc) rfl rfl hl.1 rfl (lv_room (Nat.le_of_ble_eq_true rfl)) dX7_untold_21 ⟨Nat.le_of_ble_eq_true rfl, Nat.le_of_ble_eq_true rfl⟩) ?_
      refine lv_if_ne (tgt := 34) hx hb dX7_untold_24 (by decide) (fun c35 => ?_) (fun c35 => ?_)
      · have hf := ifF hf c35
        clear c35
        refine lv_aload_n hx hb dX7_untold_34 rfl (lv_at hl 1 rfl) ?_
        refine lv_iload_n hx hb dX7_untold_35 rfl (lv_at hl 3 rfl) ?_
        obtain ⟨u8, u9, u10, u11, u12, u13, u14, u15, u16, u17, u18, u19, hr20, hf⟩ := boE12 hf
        have hPc := hP.sub (ws' := [(q_t, oX7 q_t_now q_t_future q_t_draft q_t_kept v_t_isKept q_t_shelves q_t_tape q_t_reader q_t_hiddenWay q_t_sights q_t_choice q_t_refusals), (q_t_now, oX5 v_t_now_places q_t_now_ways q_t_now_distances v_t_now_people q_t_now_kind q_t_now_a q_t_now_home q_t_now_aim q_t_now_at v_t_now_hour v_t_now_chance v_t_now_seed), (q_t_now_ways, .inl (cy 0, 12, .inl v_t_now_ways)), (q_t_now_distances, .inl (cy 0, 144, .inl v_t_now_distances)), (q_t_now_kind, .inl (cy 0, 8, .inl v_t_now_kind)), (q_t_now_a, .inl (cy 0, 8, .inl v_t_now_a)), (q_t_now_home, .inl (cy 0, 8, .inl v_t_now_home)), (q_t_now_aim, .inl (cy 0, 8, .inl v_t_now_aim)), (q_t_now_at, .inl (cy 0, 8, .inl v_t_now_at)), (q_t_future, oX5 v_t_future_places q_t_future_ways q_t_future_distances v_t_future_people q_t_future_kind q_t_future_a q_t_future_home q_t_future_aim q_t_future_at v_t_future_hour v_t_future_chance v_t_future_seed), (q_t_future_ways, .inl (cy 0, 12, .inl v_t_future_ways)), (q_t_future_distances, .inl (cy 0, 144, .inl v_t_future_distances)), (q_t_future_kind, .inl (cy 0, 8, .inl v_t_future_kind)), (q_t_future_a, .inl (cy 0, 8, .inl v_t_future_a)), (q_t_future_home, .inl (cy 0, 8, .inl v_t_future_home)), (q_t_future_aim, .inl (cy 0, 8, .inl v_t_future_aim)), (q_t_future_at, .inl (cy 0, 8, .inl v_t_future_at))]) [0, 1, 2, 3, 4, 5, 6, 7, 8, 9, 10, 11, 12, 13, 14, 15, 16] rfl
        have hDc := hD.sub (ws' := [(q_t, oX7 q_t_now q_t_future q_t_draft q_t_kept v_t_isKept q_t_shelves q_t_tape q_t_reader q_t_hiddenWay q_t_sights q_t_choice q_t_refusals), (q_t_now, oX5 v_t_now_places q_t_now_ways q_t_now_distances v_t_now_people q_t_now_kind q_t_now_a q_t_now_home q_t_now_aim q_t_now_at v_t_now_hour v_t_now_chance v_t_now_seed), (q_t_now_ways, .inl (cy 0, 12, .inl v_t_now_ways)), (q_t_now_distances, .inl (cy 0, 144, .inl v_t_now_distances)), (q_t_now_kind, .inl (cy 0, 8, .inl v_t_now_kind)), (q_t_now_a, .inl (cy 0, 8, .inl v_t_now_a)), (q_t_now_home, .inl (cy 0, 8, .inl v_t_now_home)), (q_t_now_aim, .inl (cy 0, 8, .inl v_t_now_aim)), (q_t_now_at, .inl (cy 0, 8, .inl v_t_now_at)), (q_t_future, oX5 v_t_future_places q_t_future_ways q_t_future_distances v_t_future_people q_t_future_kind q_t_future_a q_t_future_home q_t_future_aim q_t_future_at v_t_future_hour v_t_future_chance v_t_future_seed), (q_t_future_ways, .inl (cy 0, 12, .inl v_t_future_ways)), (q_t_future_distances, .inl (cy 0, 144, .inl v_t_future_distances)), (q_t_future_kind, .inl (cy 0, 8, .inl v_t_future_kind)), (q_t_future_a, .inl (cy 0, 8, .inl v_t_future_a)), (q_t_future_home, .inl (cy 0, 8, .inl v_t_future_home)), (q_t_future_aim, .inl (cy 0, 8, .inl v_t_future_aim)), (q_t_future_at, .inl (cy 0, 8, .inl v_t_future_at))]) [0, 1, 2, 3, 4, 5, 6, 7, 8, 9, 10, 11, 12, 13, 14, 15, 16] (by decide) rfl
        refine xcQv (w1 := [(q_t, oX7 q_t_now q_t_future q_t_draft q_t_kept v_t_isKept q_t_shelves q_t_tape q_t_reader q_t_hiddenWay q_t_sights q_t_choice q_t_refusals), (q_t_now, oX5 v_t_now_places q_t_now_ways q_t_now_distances v_t_now_people q_t_now_kind q_t_now_a q_t_now_home q_t_now_aim q_t_now_at v_t_now_hour v_t_now_chance v_t_now_seed), (q_t_now_ways, .inl (cy 0, 12, .inl v_t_now_ways)), (q_t_now_distances, .inl (cy 0, 144, .inl v_t_now_distances)), (q_t_now_kind, .inl (cy 0, 8, .inl v_t_now_kind)), (q_t_now_a, .inl (cy 0, 8, .inl v_t_now_a)), (q_t_now_home, .inl (cy 0, 8, .inl v_t_now_home)), (q_t_now_aim, .inl (cy 0, 8, .inl v_t_now_aim)), (q_t_now_at, .inl (cy 0, 8, .inl v_t_now_at)), (q_t_future, oX5 u8 q_t_future_ways q_t_future_distances u9 q_t_future_kind q_t_future_a q_t_future_home q_t_future_aim q_t_future_at u10 u11 u12), (q_t_future_ways, .inl (cy 0, 12, .inl u13)), (q_t_future_distances, .inl (cy 0, 144, .inl u14)), (q_t_future_kind, .inl (cy 0, 8, .inl u15)), (q_t_future_a, .inl (cy 0, 8, .inl u16)), (q_t_future_home, .inl (cy 0, 8, .inl u17)), (q_t_future_aim, .inl (cy 0, 8, .inl u18)), (q_t_future_at, .inl (cy 0, 8, .inl u19))]) (va_runV (As := [.int p1]) (rest := []) ⟨hx, hb, hml, hown, hts⟩ (mX7_lookAhead l D cy q_t q_t_now q_t_future q_t_draft q_t_kept q_t_shelves q_t_tape q_t_reader q_t_hiddenWay q_t_sights q_t_choice q_t_refusals q_t_now_ways q_t_now_distances q_t_now_kind q_t_now_a q_t_now_home q_t_now_aim q_t_now_at q_t_future_ways q_t_future_distances q_t_future_kind q_t_future_a q_t_future_home q_t_future_aim q_t_future_at v_t_isKept v_t_now_places v_t_now_people v_t_now_hour v_t_now_chance v_t_now_seed v_t_now_ways v_t_now_distances v_t_now_kind v_t_now_a v_t_now_home v_t_now_aim v_t_now_at v_t_future_places v_t_future_people v_t_future_hour v_t_future_chance v_t_future_seed v_t_future_ways v_t_future_distances v_t_future_kind v_t_future_a v_t_future_home v_t_future_aim v_t_future_at _ p1 hr20) (cwV 1 hts gX7_untold_X7_lookAhead rfl rfl rfl (by decide +kernel) ⟨Nat.le_of_ble_eq_true rfl, Nat.le_of_ble_eq_true rfl⟩) (xPVw hK hPc hDc (ci := 7) (q0 := 0) rfl rfl) rfl rfl hl.1 rfl (lv_room (Nat.le_of_ble_eq_true rfl)) dX7_untold_36 ⟨Nat.le_of_ble_eq_true rfl, Nat.le_of_ble_eq_true rfl⟩) hP hD hS hA [0, 1, 2, 3, 4, 5, 6, 7, 8, 9, 10, 11, 12, 13, 14, 15, 16] rfl rfl (fun H locs hP hD hS => ?_)
        have hP : va_P D vwCl [(q_t, oX7 q_t_now q_t_future q_t_draft q_t_kept v_t_isKept q_t_shelves q_t_tape q_t_reader q_t_hiddenWay q_t_sights q_t_choice q_t_refusals), (q_t_now, oX5 v_t_now_places q_t_now_ways q_t_now_distances v_t_now_people q_t_now_kind q_t_now_a q_t_now_home q_t_now_aim q_t_now_at v_t_now_hour v_t_now_chance v_t_now_seed), (q_t_now_ways, .inl (cy 0, 12, .inl v_t_now_ways)), (q_t_now_distances, .inl (cy 0, 144, .inl v_t_now_distances)), (q_t_now_kind, .inl (cy 0, 8, .inl v_t_now_kind)), (q_t_now_a, .inl (cy 0, 8, .inl v_t_now_a)), (q_t_now_home, .inl (cy 0, 8, .inl v_t_now_home)), (q_t_now_aim, .inl (cy 0, 8, .inl v_t_now_aim)), (q_t_now_at, .inl (cy 0, 8, .inl v_t_now_at)), (q_t_future, oX5 u8 q_t_future_ways q_t_future_distances u9 q_t_future_kind q_t_future_a q_t_future_home q_t_future_aim q_t_future_at u10 u11 u12), (q_t_future_ways, .inl (cy 0, 12, .inl u13)), (q_t_future_distances, .inl (cy 0, 144, .inl u14)), (q_t_future_kind, .inl (cy 0, 8, .inl u15)), (q_t_future_a, .inl (cy 0, 8, .inl u16)), (q_t_future_home, .inl (cy 0, 8, .inl u17)), (q_t_future_aim, .inl (cy 0, 8, .inl u18)), (q_t_future_at, .inl (cy 0, 8, .inl u19)), (q_t_refusals, .inl (cy 0, 5, .inl v_t_refusals))] H := hP
        have hD : va_D A [(q_t, oX7 q_t_now q_t_future q_t_draft q_t_kept v_t_isKept q_t_shelves q_t_tape q_t_reader q_t_hiddenWay q_t_sights q_t_choice q_t_refusals), (q_t_now, oX5 v_t_now_places q_t_now_ways q_t_now_distances v_t_now_people q_t_now_kind q_t_now_a q_t_now_home q_t_now_aim q_t_now_at v_t_now_hour v_t_now_chance v_t_now_seed), (q_t_now_ways, .inl (cy 0, 12, .inl v_t_now_ways)), (q_t_now_distances, .inl (cy 0, 144, .inl v_t_now_distances)), (q_t_now_kind, .inl (cy 0, 8, .inl v_t_now_kind)), (q_t_now_a, .inl (cy 0, 8, .inl v_t_now_a)), (q_t_now_home, .inl (cy 0, 8, .inl v_t_now_home)), (q_t_now_aim, .inl (cy 0, 8, .inl v_t_now_aim)), (q_t_now_at, .inl (cy 0, 8, .inl v_t_now_at)), (q_t_future, oX5 u8 q_t_future_ways q_t_future_distances u9 q_t_future_kind q_t_future_a q_t_future_home q_t_future_aim q_t_future_at u10 u11 u12), (q_t_future_ways, .inl (cy 0, 12, .inl u13)), (q_t_future_distances, .inl (cy 0, 144, .inl u14)), (q_t_future_kind, .inl (cy 0, 8, .inl u15)), (q_t_future_a, .inl (cy 0, 8, .inl u16)), (q_t_future_home, .inl (cy 0, 8, .inl u17)), (q_t_future_aim, .inl (cy 0, 8, .inl u18)), (q_t_future_at, .inl (cy 0, 8, .inl u19)), (q_t_refusals, .inl (cy 0, 5, .inl v_t_refusals))] := hD
        refine lv_aload_n hx hb dX7_untold_39 rfl (lv_at hl 1 rfl) ?_
        refine va_get (D := D) (ci := 7) (v := .ref q_t_future) (C := RX7) (T := TX7) (N := 12) hx hb hts hinX7 hown hK.1 hP 0 rfl rfl 1 (by decide) hk16 (fun _ h9 => h9) rfl dX7_untold_40 ?_
        obtain ⟨r21, hr22, hf⟩ := boE1 hf
        have hPc := hP.sub (ws' := [(q_t_future, oX5 u8 q_t_future_ways q_t_future_distances u9 q_t_future_kind q_t_future_a q_t_future_home q_t_future_aim q_t_future_at u10 u11 u12), (q_t_future_kind, .inl (cy 0, 8, .inl u15)), (q_t_future_at, .inl (cy 0, 8, .inl u19))]) [9, 12, 16] rfl
        refine xcSi (va_runV (As := []) (rest := []) ⟨hx, hb, hml, hown, hts⟩ (mX5_darkPlaces l D cy q_t_future q_t_future_ways q_t_future_distances q_t_future_kind q_t_future_a q_t_future_home q_t_future_aim q_t_future_at u8 u9 u10 u11 u12 u15 u19   hr22) (cwV 0 hts gX7_untold_X5_darkPlaces rfl rfl rfl (by decide +kernel) ⟨Nat.le_of_ble_eq_true rfl, Nat.le_of_ble_eq_true rfl⟩) (xPV hK hPc (ci := 5) (q0 := 0) rfl rfl) rfl rfl hl.1 rfl (lv_room (Nat.le_of_ble_eq_true rfl)) dX7_untold_43 ⟨Nat.le_of_ble_eq_true rfl, Nat.le_of_ble_eq_true rfl⟩) ?_
        refine lv_istore (lv' := [(4, .int r21), (3, .int x1), (0, .ref q_t), (1, .int p0), (2, .int p1)]) hx hb dX7_untold_46 hl (by decide) rfl (fun ls hl => ?_)
        refine lv_iconst (v := 0) hx hb dX7_untold_48 (by decide) ?_
        refine lv_istore (lv' := [(5, .int (0 : Int32)), (4, .int r21), (3, .int x1), (0, .ref q_t), (1, .int p0), (2, .int p1)]) hx hb dX7_untold_49 hl (by decide) rfl (fun ls hl => ?_)
        refine wlw2 51 (fun _ _ => []) (fun (x23 : Int32) (x24 : Int32) H locs ls => va_P D vwCl [(q_t, oX7 q_t_now q_t_future q_t_draft q_t_kept v_t_isKept q_t_shelves q_t_tape q_t_reader q_t_hiddenWay q_t_sights q_t_choice q_t_refusals), (q_t_now, oX5 v_t_now_places q_t_now_ways q_t_now_distances v_t_now_people q_t_now_kind q_t_now_a q_t_now_home q_t_now_aim q_t_now_at v_t_now_hour v_t_now_chance v_t_now_seed), (q_t_now_ways, .inl (cy 0, 12, .inl v_t_now_ways)), (q_t_now_distances, .inl (cy 0, 144, .inl v_t_now_distances)), (q_t_now_kind, .inl (cy 0, 8, .inl v_t_now_kind)), (q_t_now_a, .inl (cy 0, 8, .inl v_t_now_a)), (q_t_now_home, .inl (cy 0, 8, .inl v_t_now_home)), (q_t_now_aim, .inl (cy 0, 8, .inl v_t_now_aim)), (q_t_now_at, .inl (cy 0, 8, .inl v_t_now_at)), (q_t_future, oX5 u8 q_t_future_ways q_t_future_distances u9 q_t_future_kind q_t_future_a q_t_future_home q_t_future_aim q_t_future_at u10 u11 u12), (q_t_future_ways, .inl (cy 0, 12, .inl u13)), (q_t_future_distances, .inl (cy 0, 144, .inl u14)), (q_t_future_kind, .inl (cy 0, 8, .inl u15)), (q_t_future_a, .inl (cy 0, 8, .inl u16)), (q_t_future_home, .inl (cy 0, 8, .inl u17)), (q_t_future_aim, .inl (cy 0, 8, .inl u18)), (q_t_future_at, .inl (cy 0, 8, .inl u19)), (q_t_refusals, .inl (cy 0, 5, .inl v_t_refusals))] H ∧ va_D A [(q_t, oX7 q_t_now q_t_future q_t_draft q_t_kept v_t_isKept q_t_shelves q_t_tape q_t_reader q_t_hiddenWay q_t_sights q_t_choice q_t_refusals), (q_t_now, oX5 v_t_now_places q_t_now_ways q_t_now_distances v_t_now_people q_t_now_kind q_t_now_a q_t_now_home q_t_now_aim q_t_now_at v_t_now_hour v_t_now_chance v_t_now_seed), (q_t_now_ways, .inl (cy 0, 12, .inl v_t_now_ways)), (q_t_now_distances, .inl (cy 0, 144, .inl v_t_now_distances)), (q_t_now_kind, .inl (cy 0, 8, .inl v_t_now_kind)), (q_t_now_a, .inl (cy 0, 8, .inl v_t_now_a)), (q_t_now_home, .inl (cy 0, 8, .inl v_t_now_home)), (q_t_now_aim, .inl (cy 0, 8, .inl v_t_now_aim)), (q_t_now_at, .inl (cy 0, 8, .inl v_t_now_at)), (q_t_future, oX5 u8 q_t_future_ways q_t_future_distances u9 q_t_future_kind q_t_future_a q_t_future_home q_t_future_aim q_t_future_at u10 u11 u12), (q_t_future_ways, .inl (cy 0, 12, .inl u13)), (q_t_future_distances, .inl (cy 0, 144, .inl u14)), (q_t_future_kind, .inl (cy 0, 8, .inl u15)), (q_t_future_a, .inl (cy 0, 8, .inl u16)), (q_t_future_home, .inl (cy 0, 8, .inl u17)), (q_t_future_aim, .inl (cy 0, 8, .inl u18)), (q_t_future_at, .inl (cy 0, 8, .inl u19)), (q_t_refusals, .inl (cy 0, 5, .inl v_t_refusals))] ∧ va_S A s.heap H locs ∧ lv_has ls 6 [(4, .int x23), (5, .int x24), (0, .ref q_t), (1, .int p0)]) (fun g25 L51 x23 x24 H locs ls hI hf => ?_) 400 r21 (0 : Int32) _ _ ls ⟨hP, hD, hS, lv_sub hl [1, 0, 3, 4] rfl⟩ hf
        obtain ⟨hP, hD, hS, hl⟩ := hI
        refine lv_iload hx hb dX7_untold_51 (lv_at hl 1 rfl) ?_
        refine lv_aload_n hx hb dX7_untold_53 rfl (lv_at hl 2 rfl) ?_
        refine va_get (D := D) (ci := 7) (v := .ref q_t_future) (C := RX7) (T := TX7) (N := 12) hx hb hts hinX7 hown hK.1 hP 0 rfl rfl 1 (by decide) hk16 (fun _ h9 => h9) rfl dX7_untold_54 ?_
        refine va_get (D := D) (ci := 5) (v := .int u9) (C := RX5) (T := TX5) (N := 12) hx hb hts hinX5 hown hK.1 hP 9 rfl rfl 3 (by decide) hk171 (fun _ h9 => h9) rfl dX7_untold_57 ?_
        refine lv_icmp_ge (tgt := 97) hx hb dX7_untold_60 (by decide) (fun c34 => ?_) (fun c34 => ?_)
        · have hf := ifT hf c34
          clear c34
          refine lv_iload hx hb dX7_untold_97 (lv_at hl 0 rfl) ?_
          have hg0 := Option.some.inj hf
          obtain ⟨ee0, hg1⟩ := Prod.mk.inj hg0
          obtain ⟨ee1, hg2⟩ := Prod.mk.inj hg1
          obtain ⟨ee2, hg3⟩ := Prod.mk.inj hg2
          obtain ⟨ee3, hg4⟩ := Prod.mk.inj hg3
          obtain ⟨ee4, hg5⟩ := Prod.mk.inj hg4
          obtain ⟨ee5, hg6⟩ := Prod.mk.inj hg5
          obtain ⟨ee6, hg7⟩ := Prod.mk.inj hg6
          obtain ⟨ee7, hg8⟩ := Prod.mk.inj hg7
          obtain ⟨ee8, hg9⟩ := Prod.mk.inj hg8
          obtain ⟨ee9, hg10⟩ := Prod.mk.inj hg9
          obtain ⟨ee10, hg11⟩ := Prod.mk.inj hg10
          obtain ⟨ee11, hg12⟩ := Prod.mk.inj hg11
          obtain ⟨ee12, hg13⟩ := Prod.mk.inj hg12
          clear hf hg0 hg1 hg2 hg3 hg4 hg5 hg6 hg7 hg8 hg9 hg10 hg11 hg12
          subst ee0
          subst ee1
          subst ee2
          subst ee3
          subst ee4
          subst ee5
          subst ee6
          subst ee7
          subst ee8
          subst ee9
          subst ee10
          subst ee11
          subst ee12
          subst hg13
          exact W.iret hx hb hr (fun t ht hW => ⟨⟨_, (), rfl, rfl, xend ht hP⟩, hS.F ht⟩) hS.2.2 dX7_untold_99
        · have hf := ifF hf c34
          clear c34
          refine lv_iload_n hx hb dX7_untold_63 rfl (lv_at hl 3 rfl) ?_
          refine lv_iload hx hb dX7_untold_64 (lv_at hl 1 rfl) ?_
          obtain ⟨r26, hr27, hf⟩ := boE1 hf
          have hPc := hP.sub (ws' := []) [] rfl
          refine xcSi (va_runS (As := [.int p0, .int x24]) (rest := []) ⟨hx, hb, hml, hown, hts⟩ (mX7_hasBit l D cy    p0 x24 hr27) (va_cwS 2 hts gX7_untold_X7_hasBit rfl rfl rfl (by decide +kernel) ⟨Nat.le_of_ble_eq_true rfl, Nat.le_of_ble_eq_true rfl⟩) (xPS hK hPc) rfl rfl hl.1 rfl (lv_room (Nat.le_of_ble_eq_true rfl)) dX7_untold_66 ⟨Nat.le_of_ble_eq_true rfl, Nat.le_of_ble_eq_true rfl⟩) ?_
          refine jww1 91 (fun (x28 : Int32) => []) (fun (x28 : Int32) H locs ls => va_P D vwCl [(q_t, oX7 q_t_now q_t_future q_t_draft q_t_kept v_t_isKept q_t_shelves q_t_tape q_t_reader q_t_hiddenWay q_t_sights q_t_choice q_t_refusals), (q_t_now, oX5 v_t_now_places q_t_now_ways q_t_now_distances v_t_now_people q_t_now_kind q_t_now_a q_t_now_home q_t_now_aim q_t_now_at v_t_now_hour v_t_now_chance v_t_now_seed), (q_t_now_ways, .inl (cy 0, 12, .inl v_t_now_ways)), (q_t_now_distances, .inl (cy 0, 144, .inl v_t_now_distances)), (q_t_now_kind, .inl (cy 0, 8, .inl v_t_now_kind)), (q_t_now_a, .inl (cy 0, 8, .inl v_t_now_a)), (q_t_now_home, .inl (cy 0, 8, .inl v_t_now_home)), (q_t_now_aim, .inl (cy 0, 8, .inl v_t_now_aim)), (q_t_now_at, .inl (cy 0, 8, .inl v_t_now_at)), (q_t_future, oX5 u8 q_t_future_ways q_t_future_distances u9 q_t_future_kind q_t_future_a q_t_future_home q_t_future_aim q_t_future_at u10 u11 u12), (q_t_future_ways, .inl (cy 0, 12, .inl u13)), (q_t_future_distances, .inl (cy 0, 144, .inl u14)), (q_t_future_kind, .inl (cy 0, 8, .inl u15)), (q_t_future_a, .inl (cy 0, 8, .inl u16)), (q_t_future_home, .inl (cy 0, 8, .inl u17)), (q_t_future_aim, .inl (cy 0, 8, .inl u18)), (q_t_future_at, .inl (cy 0, 8, .inl u19)), (q_t_refusals, .inl (cy 0, 5, .inl v_t_refusals))] H ∧ va_D A [(q_t, oX7 q_t_now q_t_future q_t_draft q_t_kept v_t_isKept q_t_shelves q_t_tape q_t_reader q_t_hiddenWay q_t_sights q_t_choice q_t_refusals), (q_t_now, oX5 v_t_now_places q_t_now_ways q_t_now_distances v_t_now_people q_t_now_kind q_t_now_a q_t_now_home q_t_now_aim q_t_now_at v_t_now_hour v_t_now_chance v_t_now_seed), (q_t_now_ways, .inl (cy 0, 12, .inl v_t_now_ways)), (q_t_now_distances, .inl (cy 0, 144, .inl v_t_now_distances)), (q_t_now_kind, .inl (cy 0, 8, .inl v_t_now_kind)), (q_t_now_a, .inl (cy 0, 8, .inl v_t_now_a)), (q_t_now_home, .inl (cy 0, 8, .inl v_t_now_home)), (q_t_now_aim, .inl (cy 0, 8, .inl v_t_now_aim)), (q_t_now_at, .inl (cy 0, 8, .inl v_t_now_at)), (q_t_future, oX5 u8 q_t_future_ways q_t_future_distances u9 q_t_future_kind q_t_future_a q_t_future_home q_t_future_aim q_t_future_at u10 u11 u12), (q_t_future_ways, .inl (cy 0, 12, .inl u13)), (q_t_future_distances, .inl (cy 0, 144, .inl u14)), (q_t_future_kind, .inl (cy 0, 8, .inl u15)), (q_t_future_a, .inl (cy 0, 8, .inl u16)), (q_t_future_home, .inl (cy 0, 8, .inl u17)), (q_t_future_aim, .inl (cy 0, 8, .inl u18)), (q_t_future_at, .inl (cy 0, 8, .inl u19)), (q_t_refusals, .inl (cy 0, 5, .inl v_t_refusals))] ∧ va_S A s.heap H locs ∧ lv_has ls 6 [(4, .int x28), (0, .ref q_t), (1, .int p0), (5, .int x24)]) hf (fun x28 H locs ls hI hf => ?_) (fun k29 J91 hf => ?_)
          · obtain ⟨hP, hD, hS, hl⟩ := hI
            obtain ⟨x30, ex30⟩ : ∃ y : Int32, y = x24 + (1 : Int32) := ⟨_, rfl⟩
            have hf := vlE hf ex30
            refine lv_iinc (v := x30) (lv' := [(5, .int x30), (4, .int x28), (0, .ref q_t), (1, .int p0)]) hx hb dX7_untold_91 hl (k := 3) rfl (by rw [ex30]; rfl) (by decide) rfl (fun ls hl => ?_)
            clear ex30
            refine lv_goto (tgt := 51) hx hb dX7_untold_94 (by decide) ?_
            exact L51 x28 x30 _ _ ls ⟨hP, hD, hS, lv_sub hl [1, 0, 2, 3] rfl⟩ hf
          · refine lv_if_eq (tgt := 91) hx hb dX7_untold_69 (by decide) (fun c33 => ?_) (fun c33 => ?_)
            · have hf := ifT hf c33
              clear c33
              exact J91 x23 _ _ ls ⟨hP, hD, hS, lv_sub hl [0, 2, 3, 1] rfl⟩ hf
            · have hf := ifF hf c33
              clear c33
              refine lv_iload hx hb dX7_untold_72 (lv_at hl 0 rfl) ?_
              refine lv_iconst (v := 1) hx hb dX7_untold_74 (by decide) ?_
              refine lv_aload_n hx hb dX7_untold_75 rfl (lv_at hl 2 rfl) ?_
              refine va_get (D := D) (ci := 7) (v := .ref q_t_future) (C := RX7) (T := TX7) (N := 12) hx hb hts hinX7 hown hK.1 hP 0 rfl rfl 1 (by decide) hk16 (fun _ h9 => h9) rfl dX7_untold_76 ?_
              refine va_get (D := D) (ci := 5) (v := .ref q_t_future_at) (C := RX5) (T := TX5) (N := 12) hx hb hts hinX5 hown hK.1 hP 9 rfl rfl 8 (by decide) hk149 (fun _ h9 => h9) rfl dX7_untold_79 ?_
              refine lv_iload hx hb dX7_untold_82 (lv_at hl 1 rfl) ?_
              obtain ⟨hi31, hf⟩ := ckE hf
              refine va_iald hx hb hK.1 hP 16 0 rfl rfl hi31 dX7_untold_84 ?_
              refine lv_ishl hx hb dX7_untold_85 ?_
              refine lv_iconst (v := (-1)) hx hb dX7_untold_86 (by decide) ?_
              refine lv_ixor hx hb dX7_untold_87 ?_
              refine lv_iand hx hb dX7_untold_88 ?_
              refine lv_topi (fun x32 ex32 => ?_)
              have hf := vlE hf ex32
              clear ex32
              refine lv_istore (lv' := [(4, .int x32), (5, .int x24), (0, .ref q_t), (1, .int p0)]) hx hb dX7_untold_89 hl (by decide) rfl (fun ls hl => ?_)
              exact J91 x32 _ _ ls ⟨hP, hD, hS, lv_sub hl [0, 2, 3, 1] rfl⟩ hf
      · have hf := ifT hf c35
        clear c35
        exact J27 _ _ ls ⟨hP, hD, hS, lv_sub hl [1] rfl⟩ hf
def fX7_areTwoPeople (v_t_now_people : Int32) (p0 : Int32) (p1 : Int32) : Option (Int32) :=
  bo1 (fX7_isPerson v_t_now_people p0) fun r1 =>
  if r1 = 0 then
    some (0 : Int32)
  else
    bo1 (fX7_isPerson v_t_now_people p1) fun r3 =>
    if r3 = 0 then
      some (0 : Int32)
    else
      if p0 = p1 then
        some (0 : Int32)
      else
        some (1 : Int32)
set_option maxHeartbeats 4000000 in
set_option maxRecDepth 100000 in
theorem mX7_areTwoPeople (l : Launch) (D : va_G) (cy : Nat → ClassId) (q_t q_t_now q_t_future q_t_draft q_t_kept q_t_shelves q_t_tape q_t_reader q_t_hiddenWay q_t_sights q_t_choice q_t_refusals q_t_now_ways q_t_now_distances q_t_now_kind q_t_now_a q_t_now_home q_t_now_aim q_t_now_at : Nat) (v_t_isKept : Int32) (v_t_now_places : Int32) (v_t_now_people : Int32) (v_t_now_hour : Int32) (v_t_now_chance : Int32) (v_t_now_seed : Int32) (p0 : Int32) (p1 : Int32) {r_ : Int32} (hf : fX7_areTwoPeople v_t_now_people p0 p1 = some r_) : Met l yX7_areTwoPeople wsX7_areTwoPeople ({ frames := 1, cells := 0, slots := 0, locals := 21 }) (va_Pc [.ref q_t, .int p0, .int p1] (fun U => va_P D vwCl [(q_t, oX7 q_t_now q_t_future q_t_draft q_t_kept v_t_isKept q_t_shelves q_t_tape q_t_reader q_t_hiddenWay q_t_sights q_t_choice q_t_refusals), (q_t_now, oX5 v_t_now_places q_t_now_ways q_t_now_distances v_t_now_people q_t_now_kind q_t_now_a q_t_now_home q_t_now_aim q_t_now_at v_t_now_hour v_t_now_chance v_t_now_seed)] U.heap ∧ xK D cy U)) (vp_Si (fun x => x = r_)) 0 0 (fun _ => False) := by
  refine Met.ofW (cc := cX7_areTwoPeople) (maxL := 3) (ret := (some .boolean)) (by decide) rfl ?_
  intro p e s m args below meth c s₁ B hml hv
  obtain ⟨rfl, hP, hK⟩ := hv
  have hx := B.exec
  have hb := B.bytes
  have hr := B.returns
  have hts := atoms_spec (ws := wsX7_areTwoPeople) B.pre
  have hown : s.vm.findClass RX7 = some m.cls := findClass_of_methodNamed B.named
  have hlocks := B.notSynchronized
  have hP : va_P D vwCl [(q_t, oX7 q_t_now q_t_future q_t_draft q_t_kept v_t_isKept q_t_shelves q_t_tape q_t_reader q_t_hiddenWay q_t_sights q_t_choice q_t_refusals), (q_t_now, oX5 v_t_now_places q_t_now_ways q_t_now_distances v_t_now_people q_t_now_kind q_t_now_a q_t_now_home q_t_now_aim q_t_now_at v_t_now_hour v_t_now_chance v_t_now_seed)] s.heap := hP
  have hl := lv_entry ([.ref q_t, .int p0, .int p1]) (n := 3) (Nat.le_of_ble_eq_true rfl)
  rw [lg_entry_eq]
  generalize (lg_sl ([.ref q_t, .int p0, .int p1]) ++ List.replicate (3 - (lg_sl ([.ref q_t, .int p0, .int p1])).length) Slot.unset).toArray = ls at hl ⊢
  have hl : lv_has ls 3 [(0, .ref q_t), (1, .int p0), (2, .int p1)] := hl
  unfold fX7_areTwoPeople at hf
  refine lv_aload_n hx hb dX7_areTwoPeople_0 rfl (lv_at hl 0 rfl) ?_
  refine lv_iload_n hx hb dX7_areTwoPeople_1 rfl (lv_at hl 1 rfl) ?_
  obtain ⟨r1, hr2, hf⟩ := boE1 hf
  have hPc := hP.sub (ws' := [(q_t, oX7 q_t_now q_t_future q_t_draft q_t_kept v_t_isKept q_t_shelves q_t_tape q_t_reader q_t_hiddenWay q_t_sights q_t_choice q_t_refusals), (q_t_now, oX5 v_t_now_places q_t_now_ways q_t_now_distances v_t_now_people q_t_now_kind q_t_now_a q_t_now_home q_t_now_aim q_t_now_at v_t_now_hour v_t_now_chance v_t_now_seed)]) [0, 1] rfl
  refine xcSi (va_runV (As := [.int p0]) (rest := []) ⟨hx, hb, hml, hown, hts⟩ (mX7_isPerson l D cy q_t q_t_now q_t_future q_t_draft q_t_kept q_t_shelves q_t_tape q_t_reader q_t_hiddenWay q_t_sights q_t_choice q_t_refusals q_t_now_ways q_t_now_distances q_t_now_kind q_t_now_a q_t_now_home q_t_now_aim q_t_now_at v_t_isKept v_t_now_places v_t_now_people v_t_now_hour v_t_now_chance v_t_now_seed  p0 hr2) (cwV 1 hts gX7_areTwoPeople_X7_isPerson rfl rfl rfl (by decide +kernel) ⟨Nat.le_of_ble_eq_true rfl, Nat.le_of_ble_eq_true rfl⟩) (xPV hK hPc (ci := 7) (q0 := 0) rfl rfl) rfl rfl hl.1 rfl (lv_room (Nat.le_of_ble_eq_true rfl)) dX7_areTwoPeople_2 ⟨Nat.le_of_ble_eq_true rfl, Nat.le_of_ble_eq_true rfl⟩) ?_
  refine lv_if_eq (tgt := 25) hx hb dX7_areTwoPeople_5 (by decide) (fun c7 => ?_) (fun c7 => ?_)
  · have hf := ifT hf c7
    clear c7
    refine lv_iconst (v := 0) hx hb dX7_areTwoPeople_25 (by decide) ?_
    exact W.zret (v := (0 : Int32)) hx hb hr rfl (fun t ht hW => ⟨(0 : Int32), rfl, Option.some.inj hf, ht⟩) (fun q h => nomatch h) dX7_areTwoPeople_26
  · have hf := ifF hf c7
    clear c7
    refine lv_aload_n hx hb dX7_areTwoPeople_8 rfl (lv_at hl 0 rfl) ?_
    refine lv_iload_n hx hb dX7_areTwoPeople_9 rfl (lv_at hl 2 rfl) ?_
    obtain ⟨r3, hr4, hf⟩ := boE1 hf
    have hPc := hP.sub (ws' := [(q_t, oX7 q_t_now q_t_future q_t_draft q_t_kept v_t_isKept q_t_shelves q_t_tape q_t_reader q_t_hiddenWay q_t_sights q_t_choice q_t_refusals), (q_t_now, oX5 v_t_now_places q_t_now_ways q_t_now_distances v_t_now_people q_t_now_kind q_t_now_a q_t_now_home q_t_now_aim q_t_now_at v_t_now_hour v_t_now_chance v_t_now_seed)]) [0, 1] rfl
    refine xcSi (va_runV (As := [.int p1]) (rest := []) ⟨hx, hb, hml, hown, hts⟩ (mX7_isPerson l D cy q_t q_t_now q_t_future q_t_draft q_t_kept q_t_shelves q_t_tape q_t_reader q_t_hiddenWay q_t_sights q_t_choice q_t_refusals q_t_now_ways q_t_now_distances q_t_now_kind q_t_now_a q_t_now_home q_t_now_aim q_t_now_at v_t_isKept v_t_now_places v_t_now_people v_t_now_hour v_t_now_chance v_t_now_seed  p1 hr4) (cwV 1 hts gX7_areTwoPeople_X7_isPerson rfl rfl rfl (by decide +kernel) ⟨Nat.le_of_ble_eq_true rfl, Nat.le_of_ble_eq_true rfl⟩) (xPV hK hPc (ci := 7) (q0 := 0) rfl rfl) rfl rfl hl.1 rfl (lv_room (Nat.le_of_ble_eq_true rfl)) dX7_areTwoPeople_10 ⟨Nat.le_of_ble_eq_true rfl, Nat.le_of_ble_eq_true rfl⟩) ?_
    refine lv_if_eq (tgt := 25) hx hb dX7_areTwoPeople_13 (by decide) (fun c6 => ?_) (fun c6 => ?_)
    · have hf := ifT hf c6
      clear c6
      refine lv_iconst (v := 0) hx hb dX7_areTwoPeople_25 (by decide) ?_
      exact W.zret (v := (0 : Int32)) hx hb hr rfl (fun t ht hW => ⟨(0 : Int32), rfl, Option.some.inj hf, ht⟩) (fun q h => nomatch h) dX7_areTwoPeople_26
    · have hf := ifF hf c6
      clear c6
      refine lv_iload_n hx hb dX7_areTwoPeople_16 rfl (lv_at hl 1 rfl) ?_
      refine lv_iload_n hx hb dX7_areTwoPeople_17 rfl (lv_at hl 2 rfl) ?_
      refine lv_icmp_eq (tgt := 25) hx hb dX7_areTwoPeople_18 (by decide) (fun c5 => ?_) (fun c5 => ?_)
      · have hf := ifT hf c5
        clear c5
        refine lv_iconst (v := 0) hx hb dX7_areTwoPeople_25 (by decide) ?_
        exact W.zret (v := (0 : Int32)) hx hb hr rfl (fun t ht hW => ⟨(0 : Int32), rfl, Option.some.inj hf, ht⟩) (fun q h => nomatch h) dX7_areTwoPeople_26
      · have hf := ifF hf c5
        clear c5
        refine lv_iconst (v := 1) hx hb dX7_areTwoPeople_21 (by decide) ?_
        refine lv_goto (tgt := 26) hx hb dX7_areTwoPeople_22 (by decide) ?_
        exact W.zret (v := (1 : Int32)) hx hb hr rfl (fun t ht hW => ⟨(1 : Int32), rfl, Option.some.inj hf, ht⟩) (fun q h => nomatch h) dX7_areTwoPeople_26
def fX7_meet (v_t_now_places : Int32) (v_t_now_people : Int32) (v_t_now_hour : Int32) (v_t_now_chance : Int32) (v_t_now_seed : Int32) (v_t_now_ways : Nat → Int32) (v_t_now_distances : Nat → Int32) (v_t_now_kind : Nat → Int32) (v_t_now_a : Nat → Int32) (v_t_now_home : Nat → Int32) (v_t_now_aim : Nat → Int32) (v_t_now_at : Nat → Int32) (v_t_future_places : Int32) (v_t_future_people : Int32) (v_t_future_hour : Int32) (v_t_future_chance : Int32) (v_t_future_seed : Int32) (v_t_future_ways : Nat → Int32) (v_t_future_distances : Nat → Int32) (v_t_future_kind : Nat → Int32) (v_t_future_a : Nat → Int32) (v_t_future_home : Nat → Int32) (v_t_future_aim : Nat → Int32) (v_t_future_at : Nat → Int32) (v_t_refusals : Nat → Int32) (p0 : Int32) (p1 : Int32) : Option (Int32 × Int32 × Int32 × Int32 × Int32 × Int32 × (Nat → Int32) × (Nat → Int32) × (Nat → Int32) × (Nat → Int32) × (Nat → Int32) × (Nat → Int32) × (Nat → Int32) × (Nat → Int32)) :=
  bo1 (fX7_areTwoPeople v_t_now_people p0 p1) fun r1 =>
  if r1 = 0 then
    bo2 (fX7_refuse v_t_refusals (-2 : Int32)) fun r29 u30 =>
    some (r29, v_t_future_places, v_t_future_people, v_t_future_hour, v_t_future_chance, v_t_future_seed, v_t_future_ways, v_t_future_distances, v_t_future_kind, v_t_future_a, v_t_future_home, v_t_future_aim, v_t_future_at, u30)
  else
    bo12 (fX5_become v_t_now_places v_t_now_people v_t_now_hour v_t_now_chance v_t_now_seed v_t_now_ways v_t_now_distances v_t_now_kind v_t_now_a v_t_now_home v_t_now_aim v_t_now_at) fun u3 u4 u5 u6 u7 u8 u9 u10 u11 u12 u13 u14 =>
    lo3 (fun g19 (x16 : Int32) (u17 : Int32) (u18 : Nat → Int32) =>
      if (48 : Int32) < x16 then
        some ((-1 : Int32), u3, u4, u17, u6, u7, u8, u9, u10, u11, u12, u13, u18, v_t_refusals)
      else
        if p0 < 0 ∨ 8 ≤ p0.toNatClampNeg then none else
        if p1 < 0 ∨ 8 ≤ p1.toNatClampNeg then none else
        if (u18 p0.toNatClampNeg) = (u18 p1.toNatClampNeg) then
          some (x16, u3, u4, u17, u6, u7, u8, u9, u10, u11, u12, u13, u18, v_t_refusals)
        else
          bo3 (fX5_passHour u3 u4 u17 u8 u9 u10 u12 u13 u18) fun r22 u23 u24 =>
          vlet (x16 + (1 : Int32)) fun x26 =>
          g19 x26 u23 u24) 400 (0 : Int32) u5 u14
set_option maxHeartbeats 4000000 in
set_option maxRecDepth 100000 in
theorem mX7_meet (l : Launch) (D : va_G) (cy : Nat → ClassId) (q_t q_t_now q_t_future q_t_draft q_t_kept q_t_shelves q_t_tape q_t_reader q_t_hiddenWay q_t_sights q_t_choice q_t_refusals q_t_now_ways q_t_now_distances q_t_now_kind q_t_now_a q_t_now_home q_t_now_aim q_t_now_at q_t_future_ways q_t_future_distances q_t_future_kind q_t_future_a q_t_future_home q_t_future_aim q_t_future_at : Nat) (v_t_isKept : Int32) (v_t_now_places : Int32) (v_t_now_people : Int32) (v_t_now_hour : Int32) (v_t_now_chance : Int32) (v_t_now_seed : Int32) (v_t_now_ways : Nat → Int32) (v_t_now_distances : Nat → Int32) (v_t_now_kind : Nat → Int32) (v_t_now_a : Nat → Int32) (v_t_now_home : Nat → Int32) (v_t_now_aim : Nat → Int32) (v_t_now_at : Nat → Int32) (v_t_future_places : Int32) (v_t_future_people : Int32) (v_t_future_hour : Int32) (v_t_future_chance : Int32) (v_t_future_seed : Int32) (v_t_future_ways : Nat → Int32) (v_t_future_distances : Nat → Int32) (v_t_future_kind : Nat → Int32) (v_t_future_a : Nat → Int32) (v_t_future_home : Nat → Int32) (v_t_future_aim : Nat → Int32) (v_t_future_at : Nat → Int32) (v_t_refusals : Nat → Int32) (sz : Nat) (p0 : Int32) (p1 : Int32) {r_ : Int32} {n_t_future_places : Int32} {n_t_future_people : Int32} {n_t_future_hour : Int32} {n_t_future_chance : Int32} {n_t_future_seed : Int32} {n_t_future_ways : Nat → Int32} {n_t_future_distances : Nat → Int32} {n_t_future_kind : Nat → Int32} {n_t_future_a : Nat → Int32} {n_t_future_home : Nat → Int32} {n_t_future_aim : Nat → Int32} {n_t_future_at : Nat → Int32} {n_t_refusals : Nat → Int32} (hf : fX7_meet v_t_now_places v_t_now_people v_t_now_hour v_t_now_chance v_t_now_seed v_t_now_ways v_t_now_distances v_t_now_kind v_t_now_a v_t_now_home v_t_now_aim v_t_now_at v_t_future_places v_t_future_people v_t_future_hour v_t_future_chance v_t_future_seed v_t_future_ways v_t_future_distances v_t_future_kind v_t_future_a v_t_future_home v_t_future_aim v_t_future_at v_t_refusals p0 p1 = some (r_, n_t_future_places, n_t_future_people, n_t_future_hour, n_t_future_chance, n_t_future_seed, n_t_future_ways, n_t_future_distances, n_t_future_kind, n_t_future_a, n_t_future_home, n_t_future_aim, n_t_future_at, n_t_refusals)) : Met l yX7_meet wsX7_meet ({ frames := 4, cells := 0, slots := 0, locals := 93 }) (va_Pc [.ref q_t, .int p0, .int p1] (fun U => U.heap.size = sz ∧ va_P D vwCl [(q_t, oX7 q_t_now q_t_future q_t_draft q_t_kept v_t_isKept q_t_shelves q_t_tape q_t_reader q_t_hiddenWay q_t_sights q_t_choice q_t_refusals), (q_t_now, oX5 v_t_now_places q_t_now_ways q_t_now_distances v_t_now_people q_t_now_kind q_t_now_a q_t_now_home q_t_now_aim q_t_now_at v_t_now_hour v_t_now_chance v_t_now_seed), (q_t_now_ways, .inl (cy 0, 12, .inl v_t_now_ways)), (q_t_now_distances, .inl (cy 0, 144, .inl v_t_now_distances)), (q_t_now_kind, .inl (cy 0, 8, .inl v_t_now_kind)), (q_t_now_a, .inl (cy 0, 8, .inl v_t_now_a)), (q_t_now_home, .inl (cy 0, 8, .inl v_t_now_home)), (q_t_now_aim, .inl (cy 0, 8, .inl v_t_now_aim)), (q_t_now_at, .inl (cy 0, 8, .inl v_t_now_at)), (q_t_future, oX5 v_t_future_places q_t_future_ways q_t_future_distances v_t_future_people q_t_future_kind q_t_future_a q_t_future_home q_t_future_aim q_t_future_at v_t_future_hour v_t_future_chance v_t_future_seed), (q_t_future_ways, .inl (cy 0, 12, .inl v_t_future_ways)), (q_t_future_distances, .inl (cy 0, 144, .inl v_t_future_distances)), (q_t_future_kind, .inl (cy 0, 8, .inl v_t_future_kind)), (q_t_future_a, .inl (cy 0, 8, .inl v_t_future_a)), (q_t_future_home, .inl (cy 0, 8, .inl v_t_future_home)), (q_t_future_aim, .inl (cy 0, 8, .inl v_t_future_aim)), (q_t_future_at, .inl (cy 0, 8, .inl v_t_future_at)), (q_t_refusals, .inl (cy 0, 5, .inl v_t_refusals))] U.heap ∧ xK D cy U ∧ va_D (fun _ => True) [(q_t, oX7 q_t_now q_t_future q_t_draft q_t_kept v_t_isKept q_t_shelves q_t_tape q_t_reader q_t_hiddenWay q_t_sights q_t_choice q_t_refusals), (q_t_now, oX5 v_t_now_places q_t_now_ways q_t_now_distances v_t_now_people q_t_now_kind q_t_now_a q_t_now_home q_t_now_aim q_t_now_at v_t_now_hour v_t_now_chance v_t_now_seed), (q_t_now_ways, .inl (cy 0, 12, .inl v_t_now_ways)), (q_t_now_distances, .inl (cy 0, 144, .inl v_t_now_distances)), (q_t_now_kind, .inl (cy 0, 8, .inl v_t_now_kind)), (q_t_now_a, .inl (cy 0, 8, .inl v_t_now_a)), (q_t_now_home, .inl (cy 0, 8, .inl v_t_now_home)), (q_t_now_aim, .inl (cy 0, 8, .inl v_t_now_aim)), (q_t_now_at, .inl (cy 0, 8, .inl v_t_now_at)), (q_t_future, oX5 v_t_future_places q_t_future_ways q_t_future_distances v_t_future_people q_t_future_kind q_t_future_a q_t_future_home q_t_future_aim q_t_future_at v_t_future_hour v_t_future_chance v_t_future_seed), (q_t_future_ways, .inl (cy 0, 12, .inl v_t_future_ways)), (q_t_future_distances, .inl (cy 0, 144, .inl v_t_future_distances)), (q_t_future_kind, .inl (cy 0, 8, .inl v_t_future_kind)), (q_t_future_a, .inl (cy 0, 8, .inl v_t_future_a)), (q_t_future_home, .inl (cy 0, 8, .inl v_t_future_home)), (q_t_future_aim, .inl (cy 0, 8, .inl v_t_future_aim)), (q_t_future_at, .inl (cy 0, 8, .inl v_t_future_at)), (q_t_refusals, .inl (cy 0, 5, .inl v_t_refusals))])) (va_Qi (fun (x : Int32) (_ : Unit) => x = r_) (fun _ t => va_P D vwCl [(q_t, oX7 q_t_now q_t_future q_t_draft q_t_kept v_t_isKept q_t_shelves q_t_tape q_t_reader q_t_hiddenWay q_t_sights q_t_choice q_t_refusals), (q_t_now, oX5 v_t_now_places q_t_now_ways q_t_now_distances v_t_now_people q_t_now_kind q_t_now_a q_t_now_home q_t_now_aim q_t_now_at v_t_now_hour v_t_now_chance v_t_now_seed), (q_t_now_ways, .inl (cy 0, 12, .inl v_t_now_ways)), (q_t_now_distances, .inl (cy 0, 144, .inl v_t_now_distances)), (q_t_now_kind, .inl (cy 0, 8, .inl v_t_now_kind)), (q_t_now_a, .inl (cy 0, 8, .inl v_t_now_a)), (q_t_now_home, .inl (cy 0, 8, .inl v_t_now_home)), (q_t_now_aim, .inl (cy 0, 8, .inl v_t_now_aim)), (q_t_now_at, .inl (cy 0, 8, .inl v_t_now_at)), (q_t_future, oX5 n_t_future_places q_t_future_ways q_t_future_distances n_t_future_people q_t_future_kind q_t_future_a q_t_future_home q_t_future_aim q_t_future_at n_t_future_hour n_t_future_chance n_t_future_seed), (q_t_future_ways, .inl (cy 0, 12, .inl n_t_future_ways)), (q_t_future_distances, .inl (cy 0, 144, .inl n_t_future_distances)), (q_t_future_kind, .inl (cy 0, 8, .inl n_t_future_kind)), (q_t_future_a, .inl (cy 0, 8, .inl n_t_future_a)), (q_t_future_home, .inl (cy 0, 8, .inl n_t_future_home)), (q_t_future_aim, .inl (cy 0, 8, .inl n_t_future_aim)), (q_t_future_at, .inl (cy 0, 8, .inl n_t_future_at)), (q_t_refusals, .inl (cy 0, 5, .inl n_t_refusals))] t.heap) (va_A [(q_t, oX7 q_t_now q_t_future q_t_draft q_t_kept v_t_isKept q_t_shelves q_t_tape q_t_reader q_t_hiddenWay q_t_sights q_t_choice q_t_refusals), (q_t_now, oX5 v_t_now_places q_t_now_ways q_t_now_distances v_t_now_people q_t_now_kind q_t_now_a q_t_now_home q_t_now_aim q_t_now_at v_t_now_hour v_t_now_chance v_t_now_seed), (q_t_now_ways, .inl (cy 0, 12, .inl v_t_now_ways)), (q_t_now_distances, .inl (cy 0, 144, .inl v_t_now_distances)), (q_t_now_kind, .inl (cy 0, 8, .inl v_t_now_kind)), (q_t_now_a, .inl (cy 0, 8, .inl v_t_now_a)), (q_t_now_home, .inl (cy 0, 8, .inl v_t_now_home)), (q_t_now_aim, .inl (cy 0, 8, .inl v_t_now_aim)), (q_t_now_at, .inl (cy 0, 8, .inl v_t_now_at)), (q_t_future, oX5 v_t_future_places q_t_future_ways q_t_future_distances v_t_future_people q_t_future_kind q_t_future_a q_t_future_home q_t_future_aim q_t_future_at v_t_future_hour v_t_future_chance v_t_future_seed), (q_t_future_ways, .inl (cy 0, 12, .inl v_t_future_ways)), (q_t_future_distances, .inl (cy 0, 144, .inl v_t_future_distances)), (q_t_future_kind, .inl (cy 0, 8, .inl v_t_future_kind)), (q_t_future_a, .inl (cy 0, 8, .inl v_t_future_a)), (q_t_future_home, .inl (cy 0, 8, .inl v_t_future_home)), (q_t_future_aim, .inl (cy 0, 8, .inl v_t_future_aim)), (q_t_future_at, .inl (cy 0, 8, .inl v_t_future_at)), (q_t_refusals, .inl (cy 0, 5, .inl v_t_refusals))] sz)) 0 0 (va_A [(q_t, oX7 q_t_now q_t_future q_t_draft q_t_kept v_t_isKept q_t_shelves q_t_tape q_t_reader q_t_hiddenWay q_t_sights q_t_choice q_t_refusals), (q_t_now, oX5 v_t_now_places q_t_now_ways q_t_now_distances v_t_now_people q_t_now_kind q_t_now_a q_t_now_home q_t_now_aim q_t_now_at v_t_now_hour v_t_now_chance v_t_now_seed), (q_t_now_ways, .inl (cy 0, 12, .inl v_t_now_ways)), (q_t_now_distances, .inl (cy 0, 144, .inl v_t_now_distances)), (q_t_now_kind, .inl (cy 0, 8, .inl v_t_now_kind)), (q_t_now_a, .inl (cy 0, 8, .inl v_t_now_a)), (q_t_now_home, .inl (cy 0, 8, .inl v_t_now_home)), (q_t_now_aim, .inl (cy 0, 8, .inl v_t_now_aim)), (q_t_now_at, .inl (cy 0, 8, .inl v_t_now_at)), (q_t_future, oX5 v_t_future_places q_t_future_ways q_t_future_distances v_t_future_people q_t_future_kind q_t_future_a q_t_future_home q_t_future_aim q_t_future_at v_t_future_hour v_t_future_chance v_t_future_seed), (q_t_future_ways, .inl (cy 0, 12, .inl v_t_future_ways)), (q_t_future_distances, .inl (cy 0, 144, .inl v_t_future_distances)), (q_t_future_kind, .inl (cy 0, 8, .inl v_t_future_kind)), (q_t_future_a, .inl (cy 0, 8, .inl v_t_future_a)), (q_t_future_home, .inl (cy 0, 8, .inl v_t_future_home)), (q_t_future_aim, .inl (cy 0, 8, .inl v_t_future_aim)), (q_t_future_at, .inl (cy 0, 8, .inl v_t_future_at)), (q_t_refusals, .inl (cy 0, 5, .inl v_t_refusals))] sz) := by
  refine Met.ofW (cc := cX7_meet) (maxL := 4) (ret := (some .int)) (by decide) rfl ?_
  intro p e s m args below meth c s₁ B hml hv
  obtain ⟨rfl, hsz, hP, hK, hD0⟩ := hv
  have hx := B.exec
  have hb := B.bytes
  have hr := B.returns
  have hts := atoms_spec (ws := wsX7_meet) B.pre
  have hown : s.vm.findClass RX7 = some m.cls := findClass_of_methodNamed B.named
  have hlocks := B.notSynchronized
  subst hsz
  have hD := hD0.self (sz := s.heap.size)
  generalize hAe : va_A [(q_t, oX7 q_t_now q_t_future q_t_draft q_t_kept v_t_isKept q_t_shelves q_t_tape q_t_reader q_t_hiddenWay q_t_sights q_t_choice q_t_refusals), (q_t_now, oX5 v_t_now_places q_t_now_ways q_t_now_distances v_t_now_people q_t_now_kind q_t_now_a q_t_now_home q_t_now_aim q_t_now_at v_t_now_hour v_t_now_chance v_t_now_seed), (q_t_now_ways, .inl (cy 0, 12, .inl v_t_now_ways)), (q_t_now_distances, .inl (cy 0, 144, .inl v_t_now_distances)), (q_t_now_kind, .inl (cy 0, 8, .inl v_t_now_kind)), (q_t_now_a, .inl (cy 0, 8, .inl v_t_now_a)), (q_t_now_home, .inl (cy 0, 8, .inl v_t_now_home)), (q_t_now_aim, .inl (cy 0, 8, .inl v_t_now_aim)), (q_t_now_at, .inl (cy 0, 8, .inl v_t_now_at)), (q_t_future, oX5 v_t_future_places q_t_future_ways q_t_future_distances v_t_future_people q_t_future_kind q_t_future_a q_t_future_home q_t_future_aim q_t_future_at v_t_future_hour v_t_future_chance v_t_future_seed), (q_t_future_ways, .inl (cy 0, 12, .inl v_t_future_ways)), (q_t_future_distances, .inl (cy 0, 144, .inl v_t_future_distances)), (q_t_future_kind, .inl (cy 0, 8, .inl v_t_future_kind)), (q_t_future_a, .inl (cy 0, 8, .inl v_t_future_a)), (q_t_future_home, .inl (cy 0, 8, .inl v_t_future_home)), (q_t_future_aim, .inl (cy 0, 8, .inl v_t_future_aim)), (q_t_future_at, .inl (cy 0, 8, .inl v_t_future_at)), (q_t_refusals, .inl (cy 0, 5, .inl v_t_refusals))] s.heap.size = A at hD ⊢
  have hA : ∀ q : Nat, s.heap.size ≤ q → A q := fun q h => by rw [← hAe]; exact Or.inr h
  have hS : va_S A s.heap s.heap [] := va_S.rf
  have hP : va_P D vwCl [(q_t, oX7 q_t_now q_t_future q_t_draft q_t_kept v_t_isKept q_t_shelves q_t_tape q_t_reader q_t_hiddenWay q_t_sights q_t_choice q_t_refusals), (q_t_now, oX5 v_t_now_places q_t_now_ways q_t_now_distances v_t_now_people q_t_now_kind q_t_now_a q_t_now_home q_t_now_aim q_t_now_at v_t_now_hour v_t_now_chance v_t_now_seed), (q_t_now_ways, .inl (cy 0, 12, .inl v_t_now_ways)), (q_t_now_distances, .inl (cy 0, 144, .inl v_t_now_distances)), (q_t_now_kind, .inl (cy 0, 8, .inl v_t_now_kind)), (q_t_now_a, .inl (cy 0, 8, .inl v_t_now_a)), (q_t_now_home, .inl (cy 0, 8, .inl v_t_now_home)), (q_t_now_aim, .inl (cy 0, 8, .inl v_t_now_aim)), (q_t_now_at, .inl (cy 0, 8, .inl v_t_now_at)), (q_t_future, oX5 v_t_future_places q_t_future_ways q_t_future_distances v_t_future_people q_t_future_kind q_t_future_a q_t_future_home q_t_future_aim q_t_future_at v_t_future_hour v_t_future_chance v_t_future_seed), (q_t_future_ways, .inl (cy 0, 12, .inl v_t_future_ways)), (q_t_future_distances, .inl (cy 0, 144, .inl v_t_future_distances)), (q_t_future_kind, .inl (cy 0, 8, .inl v_t_future_kind)), (q_t_future_a, .inl (cy 0, 8, .inl v_t_future_a)), (q_t_future_home, .inl (cy 0, 8, .inl v_t_future_home)), (q_t_future_aim, .inl (cy 0, 8, .inl v_t_future_aim)), (q_t_future_at, .inl (cy 0, 8, .inl v_t_future_at)), (q_t_refusals, .inl (cy 0, 5, .inl v_t_refusals))] s.heap := hP
  have hinX7 : ∀ w ∈ u_ws RX7 TX7 12, w ∈ wsX7_meet := by decide +kernel
  have hk16 := hts (.fieldLink RX7 16 "ShowsWhereNobodyIs" "future" "LShowsWhereNobodyIs$Town;") (by decide +kernel)
  have hk10 := hts (.fieldLink RX7 10 "ShowsWhereNobodyIs" "now" "LShowsWhereNobodyIs$Town;") (by decide +kernel)
  have hinX5 : ∀ w ∈ u_ws RX5 TX5 12, w ∈ wsX7_meet := by decide +kernel
  have hk149 := hts (.fieldLink RX7 149 "ShowsWhereNobodyIs$Town" "at" "[I") (by decide +kernel)
  have hl := lv_entry ([.ref q_t, .int p0, .int p1]) (n := 4) (Nat.le_of_ble_eq_true rfl)
  rw [lg_entry_eq]
  generalize (lg_sl ([.ref q_t, .int p0, .int p1]) ++ List.replicate (4 - (lg_sl ([.ref q_t, .int p0, .int p1])).length) Slot.unset).toArray = ls at hl ⊢
  have hl : lv_has ls 4 [(0, .ref q_t), (1, .int p0), (2, .int p1)] := hl
  unfold fX7_meet at hf
  refine lv_aload_n hx hb dX7_meet_0 rfl (lv_at hl 0 rfl) ?_
  refine lv_iload_n hx hb dX7_meet_1 rfl (lv_at hl 1 rfl) ?_
  refine lv_iload_n hx hb dX7_meet_2 rfl (lv_at hl 2 rfl) ?_
  obtain ⟨r1, hr2, hf⟩ := boE1 hf
  have hPc := hP.sub (ws' := [(q_t, oX7 q_t_now q_t_future q_t_draft q_t_kept v_t_isKept q_t_shelves q_t_tape q_t_reader q_t_hiddenWay q_t_sights q_t_choice q_t_refusals), (q_t_now, oX5 v_t_now_places q_t_now_ways q_t_now_distances v_t_now_people q_t_now_kind q_t_now_a q_t_now_home q_t_now_aim q_t_now_at v_t_now_hour v_t_now_chance v_t_now_seed)]) [0, 1] rfl
  refine xcSi (va_runV (As := [.int p0, .int p1]) (rest := []) ⟨hx, hb, hml, hown, hts⟩ (mX7_areTwoPeople l D cy q_t q_t_now q_t_future q_t_draft q_t_kept q_t_shelves q_t_tape q_t_reader q_t_hiddenWay q_t_sights q_t_choice q_t_refusals q_t_now_ways q_t_now_distances q_t_now_kind q_t_now_a q_t_now_home q_t_now_aim q_t_now_at v_t_isKept v_t_now_places v_t_now_people v_t_now_hour v_t_now_chance v_t_now_seed  p0 p1 hr2) (cwV 2 hts gX7_meet_X7_areTwoPeople rfl rfl rfl (by decide +kernel) ⟨Nat.le_of_ble_eq_true rfl, Nat.le_of_ble_eq_true rfl⟩) (xPV hK hPc (ci := 7) (q0 := 0) rfl rfl) rfl rfl hl.1 rfl (lv_room (Nat.le_of_ble_eq_true rfl)) dX7_meet_3 ⟨Nat.le_of_ble_eq_true rfl, Nat.le_of_ble_eq_true rfl⟩) ?_
  refine lv_if_ne (tgt := 16) hx hb dX7_meet_6 (by decide) (fun c32 => ?_) (fun c32 => ?_)
  · have hf := ifF hf c32
    clear c32
    refine lv_aload_n hx hb dX7_meet_16 rfl (lv_at hl 0 rfl) ?_
    refine va_get (D := D) (ci := 7) (v := .ref q_t_future) (C := RX7) (T := TX7) (N := 12) hx hb hts hinX7 hown hK.1 hP 0 rfl rfl 1 (by decide) hk16 (fun _ h9 => h9) rfl dX7_meet_17 ?_
    refine lv_aload_n hx hb dX7_meet_20 rfl (lv_at hl 0 rfl) ?_
    refine va_get (D := D) (ci := 7) (v := .ref q_t_now) (C := RX7) (T := TX7) (N := 12) hx hb hts hinX7 hown hK.1 hP 0 rfl rfl 0 (by decide) hk10 (fun _ h9 => h9) rfl dX7_meet_21 ?_
    obtain ⟨u3, u4, u5, u6, u7, u8, u9, u10, u11, u12, u13, u14, hr15, hf⟩ := boE12 hf
    have hPc := hP.sub (ws' := [(q_t_future, oX5 v_t_future_places q_t_future_ways q_t_future_distances v_t_future_people q_t_future_kind q_t_future_a q_t_future_home q_t_future_aim q_t_future_at v_t_future_hour v_t_future_chance v_t_future_seed), (q_t_future_ways, .inl (cy 0, 12, .inl v_t_future_ways)), (q_t_future_distances, .inl (cy 0, 144, .inl v_t_future_distances)), (q_t_future_kind, .inl (cy 0, 8, .inl v_t_future_kind)), (q_t_future_a, .inl (cy 0, 8, .inl v_t_future_a)), (q_t_future_home, .inl (cy 0, 8, .inl v_t_future_home)), (q_t_future_aim, .inl (cy 0, 8, .inl v_t_future_aim)), (q_t_future_at, .inl (cy 0, 8, .inl v_t_future_at)), (q_t_now, oX5 v_t_now_places q_t_now_ways q_t_now_distances v_t_now_people q_t_now_kind q_t_now_a q_t_now_home q_t_now_aim q_t_now_at v_t_now_hour v_t_now_chance v_t_now_seed), (q_t_now_ways, .inl (cy 0, 12, .inl v_t_now_ways)), (q_t_now_distances, .inl (cy 0, 144, .inl v_t_now_distances)), (q_t_now_kind, .inl (cy 0, 8, .inl v_t_now_kind)), (q_t_now_a, .inl (cy 0, 8, .inl v_t_now_a)), (q_t_now_home, .inl (cy 0, 8, .inl v_t_now_home)), (q_t_now_aim, .inl (cy 0, 8, .inl v_t_now_aim)), (q_t_now_at, .inl (cy 0, 8, .inl v_t_now_at))]) [9, 10, 11, 12, 13, 14, 15, 16, 1, 2, 3, 4, 5, 6, 7, 8] rfl
    have hDc := hD.sub (ws' := [(q_t_future, oX5 v_t_future_places q_t_future_ways q_t_future_distances v_t_future_people q_t_future_kind q_t_future_a q_t_future_home q_t_future_aim q_t_future_at v_t_future_hour v_t_future_chance v_t_future_seed), (q_t_future_ways, .inl (cy 0, 12, .inl v_t_future_ways)), (q_t_future_distances, .inl (cy 0, 144, .inl v_t_future_distances)), (q_t_future_kind, .inl (cy 0, 8, .inl v_t_future_kind)), (q_t_future_a, .inl (cy 0, 8, .inl v_t_future_a)), (q_t_future_home, .inl (cy 0, 8, .inl v_t_future_home)), (q_t_future_aim, .inl (cy 0, 8, .inl v_t_future_aim)), (q_t_future_at, .inl (cy 0, 8, .inl v_t_future_at)), (q_t_now, oX5 v_t_now_places q_t_now_ways q_t_now_distances v_t_now_people q_t_now_kind q_t_now_a q_t_now_home q_t_now_aim q_t_now_at v_t_now_hour v_t_now_chance v_t_now_seed), (q_t_now_ways, .inl (cy 0, 12, .inl v_t_now_ways)), (q_t_now_distances, .inl (cy 0, 144, .inl v_t_now_distances)), (q_t_now_kind, .inl (cy 0, 8, .inl v_t_now_kind)), (q_t_now_a, .inl (cy 0, 8, .inl v_t_now_a)), (q_t_now_home, .inl (cy 0, 8, .inl v_t_now_home)), (q_t_now_aim, .inl (cy 0, 8, .inl v_t_now_aim)), (q_t_now_at, .inl (cy 0, 8, .inl v_t_now_at))]) [9, 10, 11, 12, 13, 14, 15, 16, 1, 2, 3, 4, 5, 6, 7, 8] (by decide) rfl
    refine xcQv (w1 := [(q_t_future, oX5 u3 q_t_future_ways q_t_future_distances u4 q_t_future_kind q_t_future_a q_t_future_home q_t_future_aim q_t_future_at u5 u6 u7), (q_t_future_ways, .inl (cy 0, 12, .inl u8)), (q_t_future_distances, .inl (cy 0, 144, .inl u9)), (q_t_future_kind, .inl (cy 0, 8, .inl u10)), (q_t_future_a, .inl (cy 0, 8, .inl u11)), (q_t_future_home, .inl (cy 0, 8, .inl u12)), (q_t_future_aim, .inl (cy 0, 8, .inl u13)), (q_t_future_at, .inl (cy 0, 8, .inl u14)), (q_t_now, oX5 v_t_now_places q_t_now_ways q_t_now_distances v_t_now_people q_t_now_kind q_t_now_a q_t_now_home q_t_now_aim q_t_now_at v_t_now_hour v_t_now_chance v_t_now_seed), (q_t_now_ways, .inl (cy 0, 12, .inl v_t_now_ways)), (q_t_now_distances, .inl (cy 0, 144, .inl v_t_now_distances)), (q_t_now_kind, .inl (cy 0, 8, .inl v_t_now_kind)), (q_t_now_a, .inl (cy 0, 8, .inl v_t_now_a)), (q_t_now_home, .inl (cy 0, 8, .inl v_t_now_home)), (q_t_now_aim, .inl (cy 0, 8, .inl v_t_now_aim)), (q_t_now_at, .inl (cy 0, 8, .inl v_t_now_at))]) (va_runV (As := [.ref q_t_now]) (rest := []) ⟨hx, hb, hml, hown, hts⟩ (mX5_become l D cy q_t_future q_t_now q_t_future_ways q_t_future_distances q_t_future_kind q_t_future_a q_t_future_home q_t_future_aim q_t_future_at q_t_now_ways q_t_now_distances q_t_now_kind q_t_now_a q_t_now_home q_t_now_aim q_t_now_at v_t_future_places v_t_future_people v_t_future_hour v_t_future_chance v_t_future_seed v_t_future_ways v_t_future_distances v_t_future_kind v_t_future_a v_t_future_home v_t_future_aim v_t_future_at v_t_now_places v_t_now_people v_t_now_hour v_t_now_chance v_t_now_seed v_t_now_ways v_t_now_distances v_t_now_kind v_t_now_a v_t_now_home v_t_now_aim v_t_now_at _  hr15) (cwV 1 hts gX7_meet_X5_become rfl rfl rfl (by decide +kernel) ⟨Nat.le_of_ble_eq_true rfl, Nat.le_of_ble_eq_true rfl⟩) (xPVw hK hPc hDc (ci := 5) (q0 := 0) rfl rfl) rfl rfl hl.1 rfl (lv_room (Nat.le_of_ble_eq_true rfl)) dX7_meet_24 ⟨Nat.le_of_ble_eq_true rfl, Nat.le_of_ble_eq_true rfl⟩) hP hD hS hA [9, 10, 11, 12, 13, 14, 15, 16, 1, 2, 3, 4, 5, 6, 7, 8] rfl rfl (fun H locs hP hD hS => ?_)
    have hP : va_P D vwCl [(q_t, oX7 q_t_now q_t_future q_t_draft q_t_kept v_t_isKept q_t_shelves q_t_tape q_t_reader q_t_hiddenWay q_t_sights q_t_choice q_t_refusals), (q_t_now, oX5 v_t_now_places q_t_now_ways q_t_now_distances v_t_now_people q_t_now_kind q_t_now_a q_t_now_home q_t_now_aim q_t_now_at v_t_now_hour v_t_now_chance v_t_now_seed), (q_t_now_ways, .inl (cy 0, 12, .inl v_t_now_ways)), (q_t_now_distances, .inl (cy 0, 144, .inl v_t_now_distances)), (q_t_now_kind, .inl (cy 0, 8, .inl v_t_now_kind)), (q_t_now_a, .inl (cy 0, 8, .inl v_t_now_a)), (q_t_now_home, .inl (cy 0, 8, .inl v_t_now_home)), (q_t_now_aim, .inl (cy 0, 8, .inl v_t_now_aim)), (q_t_now_at, .inl (cy 0, 8, .inl v_t_now_at)), (q_t_future, oX5 u3 q_t_future_ways q_t_future_distances u4 q_t_future_kind q_t_future_a q_t_future_home q_t_future_aim q_t_future_at u5 u6 u7), (q_t_future_ways, .inl (cy 0, 12, .inl u8)), (q_t_future_distances, .inl (cy 0, 144, .inl u9)), (q_t_future_kind, .inl (cy 0, 8, .inl u10)), (q_t_future_a, .inl (cy 0, 8, .inl u11)), (q_t_future_home, .inl (cy 0, 8, .inl u12)), (q_t_future_aim, .inl (cy 0, 8, .inl u13)), (q_t_future_at, .inl (cy 0, 8, .inl u14)), (q_t_refusals, .inl (cy 0, 5, .inl v_t_refusals))] H := hP
    have hD : va_D A [(q_t, oX7 q_t_now q_t_future q_t_draft q_t_kept v_t_isKept q_t_shelves q_t_tape q_t_reader q_t_hiddenWay q_t_sights q_t_choice q_t_refusals), (q_t_now, oX5 v_t_now_places q_t_now_ways q_t_now_distances v_t_now_people q_t_now_kind q_t_now_a q_t_now_home q_t_now_aim q_t_now_at v_t_now_hour v_t_now_chance v_t_now_seed), (q_t_now_ways, .inl (cy 0, 12, .inl v_t_now_ways)), (q_t_now_distances, .inl (cy 0, 144, .inl v_t_now_distances)), (q_t_now_kind, .inl (cy 0, 8, .inl v_t_now_kind)), (q_t_now_a, .inl (cy 0, 8, .inl v_t_now_a)), (q_t_now_home, .inl (cy 0, 8, .inl v_t_now_home)), (q_t_now_aim, .inl (cy 0, 8, .inl v_t_now_aim)), (q_t_now_at, .inl (cy 0, 8, .inl v_t_now_at)), (q_t_future, oX5 u3 q_t_future_ways q_t_future_distances u4 q_t_future_kind q_t_future_a q_t_future_home q_t_future_aim q_t_future_at u5 u6 u7), (q_t_future_ways, .inl (cy 0, 12, .inl u8)), (q_t_future_distances, .inl (cy 0, 144, .inl u9)), (q_t_future_kind, .inl (cy 0, 8, .inl u10)), (q_t_future_a, .inl (cy 0, 8, .inl u11)), (q_t_future_home, .inl (cy 0, 8, .inl u12)), (q_t_future_aim, .inl (cy 0, 8, .inl u13)), (q_t_future_at, .inl (cy 0, 8, .inl u14)), (q_t_refusals, .inl (cy 0, 5, .inl v_t_refusals))] := hD
    refine lv_iconst (v := 0) hx hb dX7_meet_27 (by decide) ?_
    refine lv_istore_n (lv' := [(3, .int (0 : Int32)), (0, .ref q_t), (1, .int p0), (2, .int p1)]) hx hb dX7_meet_28 rfl hl (by decide) rfl (fun ls hl => ?_)
    refine wlw3 29 (fun _ _ _ => []) (fun (x16 : Int32) (u17 : Int32) (u18 : Nat → Int32) H locs ls => va_P D vwCl [(q_t, oX7 q_t_now q_t_future q_t_draft q_t_kept v_t_isKept q_t_shelves q_t_tape q_t_reader q_t_hiddenWay q_t_sights q_t_choice q_t_refusals), (q_t_now, oX5 v_t_now_places q_t_now_ways q_t_now_distances v_t_now_people q_t_now_kind q_t_now_a q_t_now_home q_t_now_aim q_t_now_at v_t_now_hour v_t_now_chance v_t_now_seed), (q_t_now_ways, .inl (cy 0, 12, .inl v_t_now_ways)), (q_t_now_distances, .inl (cy 0, 144, .inl v_t_now_distances)), (q_t_now_kind, .inl (cy 0, 8, .inl v_t_now_kind)), (q_t_now_a, .inl (cy 0, 8, .inl v_t_now_a)), (q_t_now_home, .inl (cy 0, 8, .inl v_t_now_home)), (q_t_now_aim, .inl (cy 0, 8, .inl v_t_now_aim)), (q_t_now_at, .inl (cy 0, 8, .inl v_t_now_at)), (q_t_future, oX5 u3 q_t_future_ways q_t_future_distances u4 q_t_future_kind q_t_future_a q_t_future_home q_t_future_aim q_t_future_at u17 u6 u7), (q_t_future_ways, .inl (cy 0, 12, .inl u8)), (q_t_future_distances, .inl (cy 0, 144, .inl u9)), (q_t_future_kind, .inl (cy 0, 8, .inl u10)), (q_t_future_a, .inl (cy 0, 8, .inl u11)), (q_t_future_home, .inl (cy 0, 8, .inl u12)), (q_t_future_aim, .inl (cy 0, 8, .inl u13)), (q_t_future_at, .inl (cy 0, 8, .inl u18)), (q_t_refusals, .inl (cy 0, 5, .inl v_t_refusals))] H ∧ va_D A [(q_t, oX7 q_t_now q_t_future q_t_draft q_t_kept v_t_isKept q_t_shelves q_t_tape q_t_reader q_t_hiddenWay q_t_sights q_t_choice q_t_refusals), (q_t_now, oX5 v_t_now_places q_t_now_ways q_t_now_distances v_t_now_people q_t_now_kind q_t_now_a q_t_now_home q_t_now_aim q_t_now_at v_t_now_hour v_t_now_chance v_t_now_seed), (q_t_now_ways, .inl (cy 0, 12, .inl v_t_now_ways)), (q_t_now_distances, .inl (cy 0, 144, .inl v_t_now_distances)), (q_t_now_kind, .inl (cy 0, 8, .inl v_t_now_kind)), (q_t_now_a, .inl (cy 0, 8, .inl v_t_now_a)), (q_t_now_home, .inl (cy 0, 8, .inl v_t_now_home)), (q_t_now_aim, .inl (cy 0, 8, .inl v_t_now_aim)), (q_t_now_at, .inl (cy 0, 8, .inl v_t_now_at)), (q_t_future, oX5 u3 q_t_future_ways q_t_future_distances u4 q_t_future_kind q_t_future_a q_t_future_home q_t_future_aim q_t_future_at u17 u6 u7), (q_t_future_ways, .inl (cy 0, 12, .inl u8)), (q_t_future_distances, .inl (cy 0, 144, .inl u9)), (q_t_future_kind, .inl (cy 0, 8, .inl u10)), (q_t_future_a, .inl (cy 0, 8, .inl u11)), (q_t_future_home, .inl (cy 0, 8, .inl u12)), (q_t_future_aim, .inl (cy 0, 8, .inl u13)), (q_t_future_at, .inl (cy 0, 8, .inl u18)), (q_t_refusals, .inl (cy 0, 5, .inl v_t_refusals))] ∧ va_S A s.heap H locs ∧ lv_has ls 4 [(3, .int x16), (0, .ref q_t), (1, .int p0), (2, .int p1)]) (fun g19 L29 x16 u17 u18 H locs ls hI hf => ?_) 400 (0 : Int32) u5 u14 _ _ ls ⟨hP, hD, hS, lv_sub hl [0, 1, 2, 3] rfl⟩ hf
    obtain ⟨hP, hD, hS, hl⟩ := hI
    refine lv_iload_n hx hb dX7_meet_29 rfl (lv_at hl 0 rfl) ?_
    refine lv_bipush (v := 48) hx hb dX7_meet_30 (by decide) ?_
    refine lv_icmp_gt (tgt := 72) hx hb dX7_meet_32 (by decide) (fun c28 => ?_) (fun c28 => ?_)
    · have hf := ifT hf c28
      clear c28
      refine lv_iconst (v := (-1)) hx hb dX7_meet_72 (by decide) ?_
      have hg0 := Option.some.inj hf
      obtain ⟨ee0, hg1⟩ := Prod.mk.inj hg0
      obtain ⟨ee1, hg2⟩ := Prod.mk.inj hg1
      obtain ⟨ee2, hg3⟩ := Prod.mk.inj hg2
      obtain ⟨ee3, hg4⟩ := Prod.mk.inj hg3
      obtain ⟨ee4, hg5⟩ := Prod.mk.inj hg4
      obtain ⟨ee5, hg6⟩ := Prod.mk.inj hg5
      obtain ⟨ee6, hg7⟩ := Prod.mk.inj hg6
      obtain ⟨ee7, hg8⟩ := Prod.mk.inj hg7
      obtain ⟨ee8, hg9⟩ := Prod.mk.inj hg8
      obtain ⟨ee9, hg10⟩ := Prod.mk.inj hg9
      obtain ⟨ee10, hg11⟩ := Prod.mk.inj hg10
      obtain ⟨ee11, hg12⟩ := Prod.mk.inj hg11
      obtain ⟨ee12, hg13⟩ := Prod.mk.inj hg12
      clear hf hg0 hg1 hg2 hg3 hg4 hg5 hg6 hg7 hg8 hg9 hg10 hg11 hg12
      subst ee0
      subst ee1
      subst ee2
      subst ee3
      subst ee4
      subst ee5
      subst ee6
      subst ee7
      subst ee8
      subst ee9
      subst ee10
      subst ee11
      subst ee12
      subst hg13
      exact W.iret (v := (-1 : Int32)) hx hb hr (fun t ht hW => ⟨⟨(-1 : Int32), (), rfl, rfl, xend ht hP⟩, hS.F ht⟩) hS.2.2 dX7_meet_73
    · have hf := ifF hf c28
      clear c28
      refine lv_aload_n hx hb dX7_meet_35 rfl (lv_at hl 1 rfl) ?_
      refine va_get (D := D) (ci := 7) (v := .ref q_t_future) (C := RX7) (T := TX7) (N := 12) hx hb hts hinX7 hown hK.1 hP 0 rfl rfl 1 (by decide) hk16 (fun _ h9 => h9) rfl dX7_meet_36 ?_
      refine va_get (D := D) (ci := 5) (v := .ref q_t_future_at) (C := RX5) (T := TX5) (N := 12) hx hb hts hinX5 hown hK.1 hP 9 rfl rfl 8 (by decide) hk149 (fun _ h9 => h9) rfl dX7_meet_39 ?_
      refine lv_iload_n hx hb dX7_meet_42 rfl (lv_at hl 2 rfl) ?_
      obtain ⟨hi20, hf⟩ := ckE hf
      refine va_iald hx hb hK.1 hP 16 0 rfl rfl hi20 dX7_meet_43 ?_
      refine lv_aload_n hx hb dX7_meet_44 rfl (lv_at hl 1 rfl) ?_
      refine va_get (D := D) (ci := 7) (v := .ref q_t_future) (C := RX7) (T := TX7) (N := 12) hx hb hts hinX7 hown hK.1 hP 0 rfl rfl 1 (by decide) hk16 (fun _ h9 => h9) rfl dX7_meet_45 ?_
      refine va_get (D := D) (ci := 5) (v := .ref q_t_future_at) (C := RX5) (T := TX5) (N := 12) hx hb hts hinX5 hown hK.1 hP 9 rfl rfl 8 (by decide) hk149 (fun _ h9 => h9) rfl dX7_meet_48 ?_
      refine lv_iload_n hx hb dX7_meet_51 rfl (lv_at hl 3 rfl) ?_
      obtain ⟨hi21, hf⟩ := ckE hf
      refine va_iald hx hb hK.1 hP 16 0 rfl rfl hi21 dX7_meet_52 ?_
      refine lv_icmp_ne (tgt := 58) hx hb dX7_meet_53 (by decide) (fun c27 => ?_) (fun c27 => ?_)
      · have hf := ifF hf c27
        clear c27
        refine lv_aload_n hx hb dX7_meet_58 rfl (lv_at hl 1 rfl) ?_
        refine va_get (D := D) (ci := 7) (v := .ref q_t_future) (C := RX7) (T := TX7) (N := 12) hx hb hts hinX7 hown hK.1 hP 0 rfl rfl 1 (by decide) hk16 (fun _ h9 => h9) rfl dX7_meet_59 ?_
        obtain ⟨r22, u23, u24, hr25, hf⟩ := boE3 hf
        have hPc := hP.sub (ws' := [(q_t_future, oX5 u3 q_t_future_ways q_t_future_distances u4 q_t_future_kind q_t_future_a q_t_future_home q_t_future_aim q_t_future_at u17 u6 u7), (q_t_future_ways, .inl (cy 0, 12, .inl u8)), (q_t_future_distances, .inl (cy 0, 144, .inl u9)), (q_t_future_kind, .inl (cy 0, 8, .inl u10)), (q_t_future_home, .inl (cy 0, 8, .inl u12)), (q_t_future_aim, .inl (cy 0, 8, .inl u13)), (q_t_future_at, .inl (cy 0, 8, .inl u18))]) [9, 10, 11, 12, 14, 15, 16] rfl
        have hDc := hD.sub (ws' := [(q_t_future, oX5 u3 q_t_future_ways q_t_future_distances u4 q_t_future_kind q_t_future_a q_t_future_home q_t_future_aim q_t_future_at u17 u6 u7), (q_t_future_ways, .inl (cy 0, 12, .inl u8)), (q_t_future_distances, .inl (cy 0, 144, .inl u9)), (q_t_future_kind, .inl (cy 0, 8, .inl u10)), (q_t_future_home, .inl (cy 0, 8, .inl u12)), (q_t_future_aim, .inl (cy 0, 8, .inl u13)), (q_t_future_at, .inl (cy 0, 8, .inl u18))]) [9, 10, 11, 12, 14, 15, 16] (by decide) rfl
        refine xcQi (w1 := [(q_t_future, oX5 u3 q_t_future_ways q_t_future_distances u4 q_t_future_kind q_t_future_a q_t_future_home q_t_future_aim q_t_future_at u23 u6 u7), (q_t_future_ways, .inl (cy 0, 12, .inl u8)), (q_t_future_distances, .inl (cy 0, 144, .inl u9)), (q_t_future_kind, .inl (cy 0, 8, .inl u10)), (q_t_future_home, .inl (cy 0, 8, .inl u12)), (q_t_future_aim, .inl (cy 0, 8, .inl u13)), (q_t_future_at, .inl (cy 0, 8, .inl u24))]) (va_runV (As := []) (rest := []) ⟨hx, hb, hml, hown, hts⟩ (mX5_passHour l D cy q_t_future q_t_future_ways q_t_future_distances q_t_future_kind q_t_future_a q_t_future_home q_t_future_aim q_t_future_at u3 u4 u17 u6 u7 u8 u9 u10 u12 u13 u18 _  hr25) (cwV 0 hts gX7_meet_X5_passHour rfl rfl rfl (by decide +kernel) ⟨Nat.le_of_ble_eq_true rfl, Nat.le_of_ble_eq_true rfl⟩) (xPVw hK hPc hDc (ci := 5) (q0 := 0) rfl rfl) rfl rfl hl.1 rfl (lv_room (Nat.le_of_ble_eq_true rfl)) dX7_meet_62 ⟨Nat.le_of_ble_eq_true rfl, Nat.le_of_ble_eq_true rfl⟩) hP hD hS hA [9, 10, 11, 12, 14, 15, 16] rfl rfl (fun H locs hP hD hS => ?_)
        have hP : va_P D vwCl [(q_t, oX7 q_t_now q_t_future q_t_draft q_t_kept v_t_isKept q_t_shelves q_t_tape q_t_reader q_t_hiddenWay q_t_sights q_t_choice q_t_refusals), (q_t_now, oX5 v_t_now_places q_t_now_ways q_t_now_distances v_t_now_people q_t_now_kind q_t_now_a q_t_now_home q_t_now_aim q_t_now_at v_t_now_hour v_t_now_chance v_t_now_seed), (q_t_now_ways, .inl (cy 0, 12, .inl v_t_now_ways)), (q_t_now_distances, .inl (cy 0, 144, .inl v_t_now_distances)), (q_t_now_kind, .inl (cy 0, 8, .inl v_t_now_kind)), (q_t_now_a, .inl (cy 0, 8, .inl v_t_now_a)), (q_t_now_home, .inl (cy 0, 8, .inl v_t_now_home)), (q_t_now_aim, .inl (cy 0, 8, .inl v_t_now_aim)), (q_t_now_at, .inl (cy 0, 8, .inl v_t_now_at)), (q_t_future, oX5 u3 q_t_future_ways q_t_future_distances u4 q_t_future_kind q_t_future_a q_t_future_home q_t_future_aim q_t_future_at u23 u6 u7), (q_t_future_ways, .inl (cy 0, 12, .inl u8)), (q_t_future_distances, .inl (cy 0, 144, .inl u9)), (q_t_future_kind, .inl (cy 0, 8, .inl u10)), (q_t_future_a, .inl (cy 0, 8, .inl u11)), (q_t_future_home, .inl (cy 0, 8, .inl u12)), (q_t_future_aim, .inl (cy 0, 8, .inl u13)), (q_t_future_at, .inl (cy 0, 8, .inl u24)), (q_t_refusals, .inl (cy 0, 5, .inl v_t_refusals))] H := hP
        have hD : va_D A [(q_t, oX7 q_t_now q_t_future q_t_draft q_t_kept v_t_isKept q_t_shelves q_t_tape q_t_reader q_t_hiddenWay q_t_sights q_t_choice q_t_refusals), (q_t_now, oX5 v_t_now_places q_t_now_ways q_t_now_distances v_t_now_people q_t_now_kind q_t_now_a q_t_now_home q_t_now_aim q_t_now_at v_t_now_hour v_t_now_chance v_t_now_seed), (q_t_now_ways, .inl (cy 0, 12, .inl v_t_now_ways)), (q_t_now_distances, .inl (cy 0, 144, .inl v_t_now_distances)), (q_t_now_kind, .inl (cy 0, 8, .inl v_t_now_kind)), (q_t_now_a, .inl (cy 0, 8, .inl v_t_now_a)), (q_t_now_home, .inl (cy 0, 8, .inl v_t_now_home)), (q_t_now_aim, .inl (cy 0, 8, .inl v_t_now_aim)), (q_t_now_at, .inl (cy 0, 8, .inl v_t_now_at)), (q_t_future, oX5 u3 q_t_future_ways q_t_future_distances u4 q_t_future_kind q_t_future_a q_t_future_home q_t_future_aim q_t_future_at u23 u6 u7), (q_t_future_ways, .inl (cy 0, 12, .inl u8)), (q_t_future_distances, .inl (cy 0, 144, .inl u9)), (q_t_future_kind, .inl (cy 0, 8, .inl u10)), (q_t_future_a, .inl (cy 0, 8, .inl u11)), (q_t_future_home, .inl (cy 0, 8, .inl u12)), (q_t_future_aim, .inl (cy 0, 8, .inl u13)), (q_t_future_at, .inl (cy 0, 8, .inl u24)), (q_t_refusals, .inl (cy 0, 5, .inl v_t_refusals))] := hD
        refine lv_pop hx hb dX7_meet_65 rfl ?_
        obtain ⟨x26, ex26⟩ : ∃ y : Int32, y = x16 + (1 : Int32) := ⟨_, rfl⟩
        have hf := vlE hf ex26
        refine lv_iinc (v := x26) (lv' := [(3, .int x26), (0, .ref q_t), (1, .int p0), (2, .int p1)]) hx hb dX7_meet_66 hl (k := 0) rfl (by rw [ex26]; rfl) (by decide) rfl (fun ls hl => ?_)
        clear ex26
        refine lv_goto (tgt := 29) hx hb dX7_meet_69 (by decide) ?_
        exact L29 x26 u23 u24 _ _ ls ⟨hP, hD, hS, lv_sub hl [0, 1, 2, 3] rfl⟩ hf
      · have hf := ifT hf c27
        clear c27
        refine lv_iload_n hx hb dX7_meet_56 rfl (lv_at hl 0 rfl) ?_
        have hg0 := Option.some.inj hf
        obtain ⟨ee0, hg1⟩ := Prod.mk.inj hg0
        obtain ⟨ee1, hg2⟩ := Prod.mk.inj hg1
        obtain ⟨ee2, hg3⟩ := Prod.mk.inj hg2
        obtain ⟨ee3, hg4⟩ := Prod.mk.inj hg3
        obtain ⟨ee4, hg5⟩ := Prod.mk.inj hg4
        obtain ⟨ee5, hg6⟩ := Prod.mk.inj hg5
        obtain ⟨ee6, hg7⟩ := Prod.mk.inj hg6
        obtain ⟨ee7, hg8⟩ := Prod.mk.inj hg7
        obtain ⟨ee8, hg9⟩ := Prod.mk.inj hg8
        obtain ⟨ee9, hg10⟩ := Prod.mk.inj hg9
        obtain ⟨ee10, hg11⟩ := Prod.mk.inj hg10
        obtain ⟨ee11, hg12⟩ := Prod.mk.inj hg11
        obtain ⟨ee12, hg13⟩ := Prod.mk.inj hg12
        clear hf hg0 hg1 hg2 hg3 hg4 hg5 hg6 hg7 hg8 hg9 hg10 hg11 hg12
        subst ee0
        subst ee1
        subst ee2
        subst ee3
        subst ee4
        subst ee5
        subst ee6
        subst ee7
        subst ee8
        subst ee9
        subst ee10
        subst ee11
        subst ee12
        subst hg13
        exact W.iret hx hb hr (fun t ht hW => ⟨⟨_, (), rfl, rfl, xend ht hP⟩, hS.F ht⟩) hS.2.2 dX7_meet_57
  · have hf := ifT hf c32
    clear c32
    refine lv_aload_n hx hb dX7_meet_9 rfl (lv_at hl 0 rfl) ?_
    refine lv_bipush (v := (-2)) hx hb dX7_meet_10 (by decide) ?_
    obtain ⟨r29, u30, hr31, hf⟩ := boE2 hf
    have hPc := hP.sub (ws' := [(q_t, oX7 q_t_now q_t_future q_t_draft q_t_kept v_t_isKept q_t_shelves q_t_tape q_t_reader q_t_hiddenWay q_t_sights q_t_choice q_t_refusals), (q_t_refusals, .inl (cy 0, 5, .inl v_t_refusals))]) [0, 17] rfl
    have hDc := hD.sub (ws' := [(q_t, oX7 q_t_now q_t_future q_t_draft q_t_kept v_t_isKept q_t_shelves q_t_tape q_t_reader q_t_hiddenWay q_t_sights q_t_choice q_t_refusals), (q_t_refusals, .inl (cy 0, 5, .inl v_t_refusals))]) [0, 17] (by decide) rfl
    refine xcQi (w1 := [(q_t, oX7 q_t_now q_t_future q_t_draft q_t_kept v_t_isKept q_t_shelves q_t_tape q_t_reader q_t_hiddenWay q_t_sights q_t_choice q_t_refusals), (q_t_refusals, .inl (cy 0, 5, .inl u30))]) (va_runV (As := [.int (-2 : Int32)]) (rest := []) ⟨hx, hb, hml, hown, hts⟩ (mX7_refuse l D cy q_t q_t_now q_t_future q_t_draft q_t_kept q_t_shelves q_t_tape q_t_reader q_t_hiddenWay q_t_sights q_t_choice q_t_refusals v_t_isKept v_t_refusals _ (-2 : Int32) hr31) (cwV 1 hts gX7_meet_X7_refuse rfl rfl rfl (by decide +kernel) ⟨Nat.le_of_ble_eq_true rfl, Nat.le_of_ble_eq_true rfl⟩) (xPVw hK hPc hDc (ci := 7) (q0 := 0) rfl rfl) rfl rfl hl.1 rfl (lv_room (Nat.le_of_ble_eq_true rfl)) dX7_meet_12 ⟨Nat.le_of_ble_eq_true rfl, Nat.le_of_ble_eq_true rfl⟩) hP hD hS hA [0, 17] rfl rfl (fun H locs hP hD hS => ?_)
    have hP : va_P D vwCl [(q_t, oX7 q_t_now q_t_future q_t_draft q_t_kept v_t_isKept q_t_shelves q_t_tape q_t_reader q_t_hiddenWay q_t_sights q_t_choice q_t_refusals), (q_t_now, oX5 v_t_now_places q_t_now_ways q_t_now_distances v_t_now_people q_t_now_kind q_t_now_a q_t_now_home q_t_now_aim q_t_now_at v_t_now_hour v_t_now_chance v_t_now_seed), (q_t_now_ways, .inl (cy 0, 12, .inl v_t_now_ways)), (q_t_now_distances, .inl (cy 0, 144, .inl v_t_now_distances)), (q_t_now_kind, .inl (cy 0, 8, .inl v_t_now_kind)), (q_t_now_a, .inl (cy 0, 8, .inl v_t_now_a)), (q_t_now_home, .inl (cy 0, 8, .inl v_t_now_home)), (q_t_now_aim, .inl (cy 0, 8, .inl v_t_now_aim)), (q_t_now_at, .inl (cy 0, 8, .inl v_t_now_at)), (q_t_future, oX5 v_t_future_places q_t_future_ways q_t_future_distances v_t_future_people q_t_future_kind q_t_future_a q_t_future_home q_t_future_aim q_t_future_at v_t_future_hour v_t_future_chance v_t_future_seed), (q_t_future_ways, .inl (cy 0, 12, .inl v_t_future_ways)), (q_t_future_distances, .inl (cy 0, 144, .inl v_t_future_distances)), (q_t_future_kind, .inl (cy 0, 8, .inl v_t_future_kind)), (q_t_future_a, .inl (cy 0, 8, .inl v_t_future_a)), (q_t_future_home, .inl (cy 0, 8, .inl v_t_future_home)), (q_t_future_aim, .inl (cy 0, 8, .inl v_t_future_aim)), (q_t_future_at, .inl (cy 0, 8, .inl v_t_future_at)), (q_t_refusals, .inl (cy 0, 5, .inl u30))] H := hP
    have hD : va_D A [(q_t, oX7 q_t_now q_t_future q_t_draft q_t_kept v_t_isKept q_t_shelves q_t_tape q_t_reader q_t_hiddenWay q_t_sights q_t_choice q_t_refusals), (q_t_now, oX5 v_t_now_places q_t_now_ways q_t_now_distances v_t_now_people q_t_now_kind q_t_now_a q_t_now_home q_t_now_aim q_t_now_at v_t_now_hour v_t_now_chance v_t_now_seed), (q_t_now_ways, .inl (cy 0, 12, .inl v_t_now_ways)), (q_t_now_distances, .inl (cy 0, 144, .inl v_t_now_distances)), (q_t_now_kind, .inl (cy 0, 8, .inl v_t_now_kind)), (q_t_now_a, .inl (cy 0, 8, .inl v_t_now_a)), (q_t_now_home, .inl (cy 0, 8, .inl v_t_now_home)), (q_t_now_aim, .inl (cy 0, 8, .inl v_t_now_aim)), (q_t_now_at, .inl (cy 0, 8, .inl v_t_now_at)), (q_t_future, oX5 v_t_future_places q_t_future_ways q_t_future_distances v_t_future_people q_t_future_kind q_t_future_a q_t_future_home q_t_future_aim q_t_future_at v_t_future_hour v_t_future_chance v_t_future_seed), (q_t_future_ways, .inl (cy 0, 12, .inl v_t_future_ways)), (q_t_future_distances, .inl (cy 0, 144, .inl v_t_future_distances)), (q_t_future_kind, .inl (cy 0, 8, .inl v_t_future_kind)), (q_t_future_a, .inl (cy 0, 8, .inl v_t_future_a)), (q_t_future_home, .inl (cy 0, 8, .inl v_t_future_home)), (q_t_future_aim, .inl (cy 0, 8, .inl v_t_future_aim)), (q_t_future_at, .inl (cy 0, 8, .inl v_t_future_at)), (q_t_refusals, .inl (cy 0, 5, .inl u30))] := hD
    have hg0 := Option.some.inj hf
    obtain ⟨ee0, hg1⟩ := Prod.mk.inj hg0
    obtain ⟨ee1, hg2⟩ := Prod.mk.inj hg1
    obtain ⟨ee2, hg3⟩ := Prod.mk.inj hg2
    obtain ⟨ee3, hg4⟩ := Prod.mk.inj hg3
    obtain ⟨ee4, hg5⟩ := Prod.mk.inj hg4
    obtain ⟨ee5, hg6⟩ := Prod.mk.inj hg5
    obtain ⟨ee6, hg7⟩ := Prod.mk.inj hg6
    obtain ⟨ee7, hg8⟩ := Prod.mk.inj hg7
    obtain ⟨ee8, hg9⟩ := Prod.mk.inj hg8
    obtain ⟨ee9, hg10⟩ := Prod.mk.inj hg9
    obtain ⟨ee10, hg11⟩ := Prod.mk.inj hg10
    obtain ⟨ee11, hg12⟩ := Prod.mk.inj hg11
    obtain ⟨ee12, hg13⟩ := Prod.mk.inj hg12
    clear hf hg0 hg1 hg2 hg3 hg4 hg5 hg6 hg7 hg8 hg9 hg10 hg11 hg12
    subst ee0
    subst ee1
    subst ee2
    subst ee3
    subst ee4
    subst ee5
    subst ee6
    subst ee7
    subst ee8
    subst ee9
    subst ee10
    subst ee11
    subst ee12
    subst hg13
    exact W.iret hx hb hr (fun t ht hW => ⟨⟨_, (), rfl, rfl, xend ht hP⟩, hS.F ht⟩) hS.2.2 dX7_meet_15
