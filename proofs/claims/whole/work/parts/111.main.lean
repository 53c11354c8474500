def fX7_town (v_t_now_places : Int32) (v_t_now_people : Int32) (v_t_now_hour : Int32) (v_t_now_chance : Int32) (v_t_now_seed : Int32) (v_t_now_ways : Nat → Int32) (v_t_now_distances : Nat → Int32) (v_t_now_kind : Nat → Int32) (v_t_now_a : Nat → Int32) (v_t_now_home : Nat → Int32) (v_t_now_aim : Nat → Int32) (v_t_now_at : Nat → Int32) (v_t_tape_size : Int32) (v_t_tape_bytes : Nat → Int32) (v_t_reader_token : Int32) (v_t_reader_start : Int32) (v_t_reader_value : Int32) (v_t_refusals : Nat → Int32) : Option (Int32 × Int32 × Int32 × Int32 × Int32 × Int32 × (Nat → Int32) × (Nat → Int32) × (Nat → Int32) × (Nat → Int32) × (Nat → Int32) × (Nat → Int32) × (Nat → Int32) × Int32 × Int32 × Int32 × Int32 × Int32 × (Nat → Int32) × (Nat → Int32) × (Nat → Int32) × (Nat → Int32) × (Nat → Int32) × (Nat → Int32) × (Nat → Int32) × Int32 × Int32 × Int32 × Int32 × Int32 × Int32 × (Nat → Int32)) :=
  bo12 (fX5_become v_t_now_places v_t_now_people v_t_now_hour v_t_now_chance v_t_now_seed v_t_now_ways v_t_now_distances v_t_now_kind v_t_now_a v_t_now_home v_t_now_aim v_t_now_at) fun u1 u2 u3 u4 u5 u6 u7 u8 u9 u10 u11 u12 =>
  bo16 (fX6_readTown v_t_reader_token v_t_reader_start v_t_reader_value v_t_tape_size v_t_tape_bytes u1 u2 u3 u4 u6 u8 u9 u10 u11 u12) fun r14 u15 u16 u17 u18 u19 u20 u21 u22 u23 u24 u25 u26 u27 u28 u29 =>
  if u15 = (-1 : Int32) then
    bo1 (fX5_measure u24 u7) fun u31 =>
    bo12 (fX5_become u20 u21 u22 u23 u5 u24 u31 u25 u26 u27 u28 u29) fun u33 u34 u35 u36 u37 u38 u39 u40 u41 u42 u43 u44 =>
    some (r14, u33, u34, u35, u36, u37, u38, u39, u40, u41, u42, u43, u44, u20, u21, u22, u23, u5, u24, u31, u25, u26, u27, u28, u29, (0 : Int32), u15, u16, u17, u18, u19, v_t_refusals)
  else
    bo2 (fX7_refuse v_t_refusals (-2 : Int32)) fun r46 u47 =>
    some ((-20 : Int32) - u15, v_t_now_places, v_t_now_people, v_t_now_hour, v_t_now_chance, v_t_now_seed, v_t_now_ways, v_t_now_distances, v_t_now_kind, v_t_now_a, v_t_now_home, v_t_now_aim, v_t_now_at, u20, u21, u22, u23, u5, u24, u7, u25, u26, u27, u28, u29, (0 : Int32), u15, u16, u17, u18, u19, u47)
set_option maxHeartbeats 4000000 in
set_option maxRecDepth 100000 in
theorem mX7_town (l : Launch) (D : va_G) (cy : Nat → ClassId) (q_t q_t_now q_t_future q_t_draft q_t_kept q_t_shelves q_t_tape q_t_reader q_t_hiddenWay q_t_sights q_t_choice q_t_refusals q_t_now_ways q_t_now_distances q_t_now_kind q_t_now_a q_t_now_home q_t_now_aim q_t_now_at q_t_draft_ways q_t_draft_distances q_t_draft_kind q_t_draft_a q_t_draft_home q_t_draft_aim q_t_draft_at q_t_tape_bytes : Nat) (adK adV : Nat → Nat) (v_t_isKept : Int32) (v_t_now_places : Int32) (v_t_now_people : Int32) (v_t_now_hour : Int32) (v_t_now_chance : Int32) (v_t_now_seed : Int32) (v_t_now_ways : Nat → Int32) (v_t_now_distances : Nat → Int32) (v_t_now_kind : Nat → Int32) (v_t_now_a : Nat → Int32) (v_t_now_home : Nat → Int32) (v_t_now_aim : Nat → Int32) (v_t_now_at : Nat → Int32) (v_t_draft_places : Int32) (v_t_draft_people : Int32) (v_t_draft_hour : Int32) (v_t_draft_chance : Int32) (v_t_draft_seed : Int32) (v_t_draft_ways : Nat → Int32) (v_t_draft_distances : Nat → Int32) (v_t_draft_kind : Nat → Int32) (v_t_draft_a : Nat → Int32) (v_t_draft_home : Nat → Int32) (v_t_draft_aim : Nat → Int32) (v_t_draft_at : Nat → Int32) (v_t_tape_size : Int32) (v_t_tape_bytes : Nat → Int32) (v_t_reader_fault : Int32) (v_t_reader_position : Int32) (v_t_reader_token : Int32) (v_t_reader_start : Int32) (v_t_reader_value : Int32) (v_t_refusals : Nat → Int32) (sz : Nat) {r_ : Int32} {n_t_now_places : Int32} {n_t_now_people : Int32} {n_t_now_hour : Int32} {n_t_now_chance : Int32} {n_t_now_seed : Int32} {n_t_now_ways : Nat → Int32} {n_t_now_distances : Nat → Int32} {n_t_now_kind : Nat → Int32} {n_t_now_a : Nat → Int32} {n_t_now_home : Nat → Int32} {n_t_now_aim : Nat → Int32} {n_t_now_at : Nat → Int32} {n_t_draft_places : Int32} {n_t_draft_people : Int32} {n_t_draft_hour : Int32} {n_t_draft_chance : Int32} {n_t_draft_seed : Int32} {n_t_draft_ways : Nat → Int32} {n_t_draft_distances : Nat → Int32} {n_t_draft_kind : Nat → Int32} {n_t_draft_a : Nat → Int32} {n_t_draft_home : Nat → Int32} {n_t_draft_aim : Nat → Int32} {n_t_draft_at : Nat → Int32} {n_t_tape_size : Int32} {n_t_reader_fault : Int32} {n_t_reader_position : Int32} {n_t_reader_token : Int32} {n_t_reader_start : Int32} {n_t_reader_value : Int32} {n_t_refusals : Nat → Int32} (hf : fX7_town v_t_now_places v_t_now_people v_t_now_hour v_t_now_chance v_t_now_seed v_t_now_ways v_t_now_distances v_t_now_kind v_t_now_a v_t_now_home v_t_now_aim v_t_now_at v_t_tape_size v_t_tape_bytes v_t_reader_token v_t_reader_start v_t_reader_value v_t_refusals = some (r_, n_t_now_places, n_t_now_people, n_t_now_hour, n_t_now_chance, n_t_now_seed, n_t_now_ways, n_t_now_distances, n_t_now_kind, n_t_now_a, n_t_now_home, n_t_now_aim, n_t_now_at, n_t_draft_places, n_t_draft_people, n_t_draft_hour, n_t_draft_chance, n_t_draft_seed, n_t_draft_ways, n_t_draft_distances, n_t_draft_kind, n_t_draft_a, n_t_draft_home, n_t_draft_aim, n_t_draft_at, n_t_tape_size, n_t_reader_fault, n_t_reader_position, n_t_reader_token, n_t_reader_start, n_t_reader_value, n_t_refusals)) : Met l yX7_town wsX7_town ({ frames := 7, cells := 0, slots := 0, locals := 153 }) (va_Pc [.ref q_t] (fun U => U.heap.size = sz ∧ va_P D vwCl [(q_t, oX7 q_t_now q_t_future q_t_draft q_t_kept v_t_isKept q_t_shelves q_t_tape q_t_reader q_t_hiddenWay q_t_sights q_t_choice q_t_refusals), (q_t_now, oX5 v_t_now_places q_t_now_ways q_t_now_distances v_t_now_people q_t_now_kind q_t_now_a q_t_now_home q_t_now_aim q_t_now_at v_t_now_hour v_t_now_chance v_t_now_seed), (q_t_now_ways, .inl (cy 0, 12, .inl v_t_now_ways)), (q_t_now_distances, .inl (cy 0, 144, .inl v_t_now_distances)), (q_t_now_kind, .inl (cy 0, 8, .inl v_t_now_kind)), (q_t_now_a, .inl (cy 0, 8, .inl v_t_now_a)), (q_t_now_home, .inl (cy 0, 8, .inl v_t_now_home)), (q_t_now_aim, .inl (cy 0, 8, .inl v_t_now_aim)), (q_t_now_at, .inl (cy 0, 8, .inl v_t_now_at)), (q_t_draft, oX5 v_t_draft_places q_t_draft_ways q_t_draft_distances v_t_draft_people q_t_draft_kind q_t_draft_a q_t_draft_home q_t_draft_aim q_t_draft_at v_t_draft_hour v_t_draft_chance v_t_draft_seed), (q_t_draft_ways, .inl (cy 0, 12, .inl v_t_draft_ways)), (q_t_draft_distances, .inl (cy 0, 144, .inl v_t_draft_distances)), (q_t_draft_kind, .inl (cy 0, 8, .inl v_t_draft_kind)), (q_t_draft_a, .inl (cy 0, 8, .inl v_t_draft_a)), (q_t_draft_home, .inl (cy 0, 8, .inl v_t_draft_home)), (q_t_draft_aim, .inl (cy 0, 8, .inl v_t_draft_aim)), (q_t_draft_at, .inl (cy 0, 8, .inl v_t_draft_at)), (q_t_tape, oX4 q_t_tape_bytes v_t_tape_size), (q_t_tape_bytes, .inl (cy 0, 250, .inl v_t_tape_bytes)), (q_t_reader, oX6 q_t_tape v_t_reader_fault v_t_reader_position v_t_reader_token v_t_reader_start v_t_reader_value), (q_t_refusals, .inl (cy 0, 5, .inl v_t_refusals))] U.heap ∧ xK D cy U ∧ va_D (fun _ => True) [(q_t, oX7 q_t_now q_t_future q_t_draft q_t_kept v_t_isKept q_t_shelves q_t_tape q_t_reader q_t_hiddenWay q_t_sights q_t_choice q_t_refusals), (q_t_now, oX5 v_t_now_places q_t_now_ways q_t_now_distances v_t_now_people q_t_now_kind q_t_now_a q_t_now_home q_t_now_aim q_t_now_at v_t_now_hour v_t_now_chance v_t_now_seed), (q_t_now_ways, .inl (cy 0, 12, .inl v_t_now_ways)), (q_t_now_distances, .inl (cy 0, 144, .inl v_t_now_distances)), (q_t_now_kind, .inl (cy 0, 8, .inl v_t_now_kind)), (q_t_now_a, .inl (cy 0, 8, .inl v_t_now_a)), (q_t_now_home, .inl (cy 0, 8, .inl v_t_now_home)), (q_t_now_aim, .inl (cy 0, 8, .inl v_t_now_aim)), (q_t_now_at, .inl (cy 0, 8, .inl v_t_now_at)), (q_t_draft, oX5 v_t_draft_places q_t_draft_ways q_t_draft_distances v_t_draft_people q_t_draft_kind q_t_draft_a q_t_draft_home q_t_draft_aim q_t_draft_at v_t_draft_hour v_t_draft_chance v_t_draft_seed), (q_t_draft_ways, .inl (cy 0, 12, .inl v_t_draft_ways)), (q_t_draft_distances, .inl (cy 0, 144, .inl v_t_draft_distances)), (q_t_draft_kind, .inl (cy 0, 8, .inl v_t_draft_kind)), (q_t_draft_a, .inl (cy 0, 8, .inl v_t_draft_a)), (q_t_draft_home, .inl (cy 0, 8, .inl v_t_draft_home)), (q_t_draft_aim, .inl (cy 0, 8, .inl v_t_draft_aim)), (q_t_draft_at, .inl (cy 0, 8, .inl v_t_draft_at)), (q_t_tape, oX4 q_t_tape_bytes v_t_tape_size), (q_t_tape_bytes, .inl (cy 0, 250, .inl v_t_tape_bytes)), (q_t_reader, oX6 q_t_tape v_t_reader_fault v_t_reader_position v_t_reader_token v_t_reader_start v_t_reader_value), (q_t_refusals, .inl (cy 0, 5, .inl v_t_refusals))] ∧ xStr adK adV (va_A [(q_t, oX7 q_t_now q_t_future q_t_draft q_t_kept v_t_isKept q_t_shelves q_t_tape q_t_reader q_t_hiddenWay q_t_sights q_t_choice q_t_refusals), (q_t_now, oX5 v_t_now_places q_t_now_ways q_t_now_distances v_t_now_people q_t_now_kind q_t_now_a q_t_now_home q_t_now_aim q_t_now_at v_t_now_hour v_t_now_chance v_t_now_seed), (q_t_now_ways, .inl (cy 0, 12, .inl v_t_now_ways)), (q_t_now_distances, .inl (cy 0, 144, .inl v_t_now_distances)), (q_t_now_kind, .inl (cy 0, 8, .inl v_t_now_kind)), (q_t_now_a, .inl (cy 0, 8, .inl v_t_now_a)), (q_t_now_home, .inl (cy 0, 8, .inl v_t_now_home)), (q_t_now_aim, .inl (cy 0, 8, .inl v_t_now_aim)), (q_t_now_at, .inl (cy 0, 8, .inl v_t_now_at)), (q_t_draft, oX5 v_t_draft_places q_t_draft_ways q_t_draft_distances v_t_draft_people q_t_draft_kind q_t_draft_a q_t_draft_home q_t_draft_aim q_t_draft_at v_t_draft_hour v_t_draft_chance v_t_draft_seed), (q_t_draft_ways, .inl (cy 0, 12, .inl v_t_draft_ways)), (q_t_draft_distances, .inl (cy 0, 144, .inl v_t_draft_distances)), (q_t_draft_kind, .inl (cy 0, 8, .inl v_t_draft_kind)), (q_t_draft_a, .inl (cy 0, 8, .inl v_t_draft_a)), (q_t_draft_home, .inl (cy 0, 8, .inl v_t_draft_home)), (q_t_draft_aim, .inl (cy 0, 8, .inl v_t_draft_aim)), (q_t_draft_at, .inl (cy 0, 8, .inl v_t_draft_at)), (q_t_tape, oX4 q_t_tape_bytes v_t_tape_size), (q_t_tape_bytes, .inl (cy 0, 250, .inl v_t_tape_bytes)), (q_t_reader, oX6 q_t_tape v_t_reader_fault v_t_reader_position v_t_reader_token v_t_reader_start v_t_reader_value), (q_t_refusals, .inl (cy 0, 5, .inl v_t_refusals))] sz) U U.heap ∧ xRef adK U)) (va_Qi (fun (x : Int32) (_ : Unit) => x = r_) (fun _ t => va_P D vwCl [(q_t, oX7 q_t_now q_t_future q_t_draft q_t_kept v_t_isKept q_t_shelves q_t_tape q_t_reader q_t_hiddenWay q_t_sights q_t_choice q_t_refusals), (q_t_now, oX5 n_t_now_places q_t_now_ways q_t_now_distances n_t_now_people q_t_now_kind q_t_now_a q_t_now_home q_t_now_aim q_t_now_at n_t_now_hour n_t_now_chance n_t_now_seed), (q_t_now_ways, .inl (cy 0, 12, .inl n_t_now_ways)), (q_t_now_distances, .inl (cy 0, 144, .inl n_t_now_distances)), (q_t_now_kind, .inl (cy 0, 8, .inl n_t_now_kind)), (q_t_now_a, .inl (cy 0, 8, .inl n_t_now_a)), (q_t_now_home, .inl (cy 0, 8, .inl n_t_now_home)), (q_t_now_aim, .inl (cy 0, 8, .inl n_t_now_aim)), (q_t_now_at, .inl (cy 0, 8, .inl n_t_now_at)), (q_t_draft, oX5 n_t_draft_places q_t_draft_ways q_t_draft_distances n_t_draft_people q_t_draft_kind q_t_draft_a q_t_draft_home q_t_draft_aim q_t_draft_at n_t_draft_hour n_t_draft_chance n_t_draft_seed), (q_t_draft_ways, .inl (cy 0, 12, .inl n_t_draft_ways)), (q_t_draft_distances, .inl (cy 0, 144, .inl n_t_draft_distances)), (q_t_draft_kind, .inl (cy 0, 8, .inl n_t_draft_kind)), (q_t_draft_a, .inl (cy 0, 8, .inl n_t_draft_a)), (q_t_draft_home, .inl (cy 0, 8, .inl n_t_draft_home)), (q_t_draft_aim, .inl (cy 0, 8, .inl n_t_draft_aim)), (q_t_draft_at, .inl (cy 0, 8, .inl n_t_draft_at)), (q_t_tape, oX4 q_t_tape_bytes n_t_tape_size), (q_t_tape_bytes, .inl (cy 0, 250, .inl v_t_tape_bytes)), (q_t_reader, oX6 q_t_tape n_t_reader_fault n_t_reader_position n_t_reader_token n_t_reader_start n_t_reader_value), (q_t_refusals, .inl (cy 0, 5, .inl n_t_refusals))] t.heap) (va_A [(q_t, oX7 q_t_now q_t_future q_t_draft q_t_kept v_t_isKept q_t_shelves q_t_tape q_t_reader q_t_hiddenWay q_t_sights q_t_choice q_t_refusals), (q_t_now, oX5 v_t_now_places q_t_now_ways q_t_now_distances v_t_now_people q_t_now_kind q_t_now_a q_t_now_home q_t_now_aim q_t_now_at v_t_now_hour v_t_now_chance v_t_now_seed), (q_t_now_ways, .inl (cy 0, 12, .inl v_t_now_ways)), (q_t_now_distances, .inl (cy 0, 144, .inl v_t_now_distances)), (q_t_now_kind, .inl (cy 0, 8, .inl v_t_now_kind)), (q_t_now_a, .inl (cy 0, 8, .inl v_t_now_a)), (q_t_now_home, .inl (cy 0, 8, .inl v_t_now_home)), (q_t_now_aim, .inl (cy 0, 8, .inl v_t_now_aim)), (q_t_now_at, .inl (cy 0, 8, .inl v_t_now_at)), (q_t_draft, oX5 v_t_draft_places q_t_draft_ways q_t_draft_distances v_t_draft_people q_t_draft_kind q_t_draft_a q_t_draft_home q_t_draft_aim q_t_draft_at v_t_draft_hour v_t_draft_chance v_t_draft_seed), (q_t_draft_ways, .inl (cy 0, 12, .inl v_t_draft_ways)), (q_t_draft_distances, .inl (cy 0, 144, .inl v_t_draft_distances)), (q_t_draft_kind, .inl (cy 0, 8, .inl v_t_draft_kind)), (q_t_draft_a, .inl (cy 0, 8, .inl v_t_draft_a)), (q_t_draft_home, .inl (cy 0, 8, .inl v_t_draft_home)), (q_t_draft_aim, .inl (cy 0, 8, .inl v_t_draft_aim)), (q_t_draft_at, .inl (cy 0, 8, .inl v_t_draft_at)), (q_t_tape, oX4 q_t_tape_bytes v_t_tape_size), (q_t_tape_bytes, .inl (cy 0, 250, .inl v_t_tape_bytes)), (q_t_reader, oX6 q_t_tape v_t_reader_fault v_t_reader_position v_t_reader_token v_t_reader_start v_t_reader_value), (q_t_refusals, .inl (cy 0, 5, .inl v_t_refusals))] sz)) 0 0 (va_A [(q_t, oX7 q_t_now q_t_future q_t_draft q_t_kept v_t_isKept q_t_shelves q_t_tape q_t_reader q_t_hiddenWay q_t_sights q_t_choice q_t_refusals), (q_t_now, oX5 v_t_now_places q_t_now_ways q_t_now_distances v_t_now_people q_t_now_kind q_t_now_a q_t_now_home q_t_now_aim q_t_now_at v_t_now_hour v_t_now_chance v_t_now_seed), (q_t_now_ways, .inl (cy 0, 12, .inl v_t_now_ways)), (q_t_now_distances, .inl (cy 0, 144, .inl v_t_now_distances)), (q_t_now_kind, .inl (cy 0, 8, .inl v_t_now_kind)), (q_t_now_a, .inl (cy 0, 8, .inl v_t_now_a)), (q_t_now_home, .inl (cy 0, 8, .inl v_t_now_home)), (q_t_now_aim, .inl (cy 0, 8, .inl v_t_now_aim)), (q_t_now_at, .inl (cy 0, 8, .inl v_t_now_at)), (q_t_draft, oX5 v_t_draft_places q_t_draft_ways q_t_draft_distances v_t_draft_people q_t_draft_kind q_t_draft_a q_t_draft_home q_t_draft_aim q_t_draft_at v_t_draft_hour v_t_draft_chance v_t_draft_seed), (q_t_draft_ways, .inl (cy 0, 12, .inl v_t_draft_ways)), (q_t_draft_distances, .inl (cy 0, 144, .inl v_t_draft_distances)), (q_t_draft_kind, .inl (cy 0, 8, .inl v_t_draft_kind)), (q_t_draft_a, .inl (cy 0, 8, .inl v_t_draft_a)), (q_t_draft_home, .inl (cy 0, 8, .inl v_t_draft_home)), (q_t_draft_aim, .inl (cy 0, 8, .inl v_t_draft_aim)), (q_t_draft_at, .inl (cy 0, 8, .inl v_t_draft_at)), (q_t_tape, oX4 q_t_tape_bytes v_t_tape_size), (q_t_tape_bytes, .inl (cy 0, 250, .inl v_t_tape_bytes)), (q_t_reader, oX6 q_t_tape v_t_reader_fault v_t_reader_position v_t_reader_token v_t_reader_start v_t_reader_value), (q_t_refusals, .inl (cy 0, 5, .inl v_t_refusals))] sz) := by
  refine Met.ofW (cc := cX7_town) (maxL := 2) (ret := (some .int)) (by decide) rfl ?_
  intro p e s m args below meth c s₁ B hml hv
  obtain ⟨rfl, hsz, hP, hK, hD0, hE, hR⟩ := hv
  have hx := B.exec
  have hb := B.bytes
  have hr := B.returns
  have hts := atoms_spec (ws := wsX7_town) B.pre
  have hown : s.vm.findClass RX7 = some m.cls := findClass_of_methodNamed B.named
  have hlocks := B.notSynchronized
  subst hsz
  have hD := hD0.self (sz := s.heap.size)
  generalize hAe : va_A [(q_t, oX7 q_t_now q_t_future q_t_draft q_t_kept v_t_isKept q_t_shelves q_t_tape q_t_reader q_t_hiddenWay q_t_sights q_t_choice q_t_refusals), (q_t_now, oX5 v_t_now_places q_t_now_ways q_t_now_distances v_t_now_people q_t_now_kind q_t_now_a q_t_now_home q_t_now_aim q_t_now_at v_t_now_hour v_t_now_chance v_t_now_seed), (q_t_now_ways, .inl (cy 0, 12, .inl v_t_now_ways)), (q_t_now_distances, .inl (cy 0, 144, .inl v_t_now_distances)), (q_t_now_kind, .inl (cy 0, 8, .inl v_t_now_kind)), (q_t_now_a, .inl (cy 0, 8, .inl v_t_now_a)), (q_t_now_home, .inl (cy 0, 8, .inl v_t_now_home)), (q_t_now_aim, .inl (cy 0, 8, .inl v_t_now_aim)), (q_t_now_at, .inl (cy 0, 8, .inl v_t_now_at)), (q_t_draft, oX5 v_t_draft_places q_t_draft_ways q_t_draft_distances v_t_draft_people q_t_draft_kind q_t_draft_a q_t_draft_home q_t_draft_aim q_t_draft_at v_t_draft_hour v_t_draft_chance v_t_draft_seed), (q_t_draft_ways, .inl (cy 0, 12, .inl v_t_draft_ways)), (q_t_draft_distances, .inl (cy 0, 144, .inl v_t_draft_distances)), (q_t_draft_kind, .inl (cy 0, 8, .inl v_t_draft_kind)), (q_t_draft_a, .inl (cy 0, 8, .inl v_t_draft_a)), (q_t_draft_home, .inl (cy 0, 8, .inl v_t_draft_home)), (q_t_draft_aim, .inl (cy 0, 8, .inl v_t_draft_aim)), (q_t_draft_at, .inl (cy 0, 8, .inl v_t_draft_at)), (q_t_tape, oX4 q_t_tape_bytes v_t_tape_size), (q_t_tape_bytes, .inl (cy 0, 250, .inl v_t_tape_bytes)), (q_t_reader, oX6 q_t_tape v_t_reader_fault v_t_reader_position v_t_reader_token v_t_reader_start v_t_reader_value), (q_t_refusals, .inl (cy 0, 5, .inl v_t_refusals))] s.heap.size = A at hD hE ⊢
  have hA : ∀ q : Nat, s.heap.size ≤ q → A q := fun q h => by rw [← hAe]; exact Or.inr h
  have hS : va_S A s.heap s.heap [] := va_S.rf
  have hP : va_P D vwCl [(q_t, oX7 q_t_now q_t_future q_t_draft q_t_kept v_t_isKept q_t_shelves q_t_tape q_t_reader q_t_hiddenWay q_t_sights q_t_choice q_t_refusals), (q_t_now, oX5 v_t_now_places q_t_now_ways q_t_now_distances v_t_now_people q_t_now_kind q_t_now_a q_t_now_home q_t_now_aim q_t_now_at v_t_now_hour v_t_now_chance v_t_now_seed), (q_t_now_ways, .inl (cy 0, 12, .inl v_t_now_ways)), (q_t_now_distances, .inl (cy 0, 144, .inl v_t_now_distances)), (q_t_now_kind, .inl (cy 0, 8, .inl v_t_now_kind)), (q_t_now_a, .inl (cy 0, 8, .inl v_t_now_a)), (q_t_now_home, .inl (cy 0, 8, .inl v_t_now_home)), (q_t_now_aim, .inl (cy 0, 8, .inl v_t_now_aim)), (q_t_now_at, .inl (cy 0, 8, .inl v_t_now_at)), (q_t_draft, oX5 v_t_draft_places q_t_draft_ways q_t_draft_distances v_t_draft_people q_t_draft_kind q_t_draft_a q_t_draft_home q_t_draft_aim q_t_draft_at v_t_draft_hour v_t_draft_chance v_t_draft_seed), (q_t_draft_ways, .inl (cy 0, 12, .inl v_t_draft_ways)), (q_t_draft_distances, .inl (cy 0, 144, .inl v_t_draft_distances)), (q_t_draft_kind, .inl (cy 0, 8, .inl v_t_draft_kind)), (q_t_draft_a, .inl (cy 0, 8, .inl v_t_draft_a)), (q_t_draft_home, .inl (cy 0, 8, .inl v_t_draft_home)), (q_t_draft_aim, .inl (cy 0, 8, .inl v_t_draft_aim)), (q_t_draft_at, .inl (cy 0, 8, .inl v_t_draft_at)), (q_t_tape, oX4 q_t_tape_bytes v_t_tape_size), (q_t_tape_bytes, .inl (cy 0, 250, .inl v_t_tape_bytes)), (q_t_reader, oX6 q_t_tape v_t_reader_fault v_t_reader_position v_t_reader_token v_t_reader_start v_t_reader_value), (q_t_refusals, .inl (cy 0, 5, .inl v_t_refusals))] s.heap := hP
  have hinX7 : ∀ w ∈ u_ws RX7 TX7 12, w ∈ wsX7_town := by decide +kernel
  have hk19 := hts (.fieldLink RX7 19 "ShowsWhereNobodyIs" "draft" "LShowsWhereNobodyIs$Town;") (by decide +kernel)
  have hk10 := hts (.fieldLink RX7 10 "ShowsWhereNobodyIs" "now" "LShowsWhereNobodyIs$Town;") (by decide +kernel)
  have hk35 := hts (.fieldLink RX7 35 "ShowsWhereNobodyIs" "reader" "LShowsWhereNobodyIs$TownReader;") (by decide +kernel)
  have hk43 := hts (.fieldLink RX7 43 "ShowsWhereNobodyIs" "tape" "LShowsWhereNobodyIs$Tape;") (by decide +kernel)
  have hinX4 : ∀ w ∈ u_ws RX4 TX4 2, w ∈ wsX7_town := by decide +kernel
  have hk190 := hts (.fieldLink RX7 190 "ShowsWhereNobodyIs$Tape" "size" "I") (by decide +kernel)
  have hinX6 : ∀ w ∈ u_ws RX6 TX6 6, w ∈ wsX7_town := by decide +kernel
  have hk206 := hts (.fieldLink RX7 206 "ShowsWhereNobodyIs$TownReader" "fault" "I") (by decide +kernel)
  have hl := lv_entry ([.ref q_t]) (n := 2) (Nat.le_of_ble_eq_true rfl)
  rw [lg_entry_eq]
  generalize (lg_sl ([.ref q_t]) ++ List.replicate (2 - (lg_sl ([.ref q_t])).length) Slot.unset).toArray = ls at hl ⊢
  have hl : lv_has ls 2 [(0, .ref q_t)] := hl
  unfold fX7_town at hf
  refine lv_aload_n hx hb dX7_town_0 rfl (lv_at hl 0 rfl) ?_
  refine va_get (D := D) (ci := 7) (v := .ref q_t_draft) (C := RX7) (T := TX7) (N := 12) hx hb hts hinX7 hown hK.1 hP 0 rfl rfl 2 (by decide) hk19 (fun _ h9 => h9) rfl dX7_town_1 ?_
  refine lv_aload_n hx hb dX7_town_4 rfl (lv_at hl 0 rfl) ?_
  refine va_get (D := D) (ci := 7) (v := .ref q_t_now) (C := RX7) (T := TX7) (N := 12) hx hb hts hinX7 hown hK.1 hP 0 rfl rfl 0 (by decide) hk10 (fun _ h9 => h9) rfl dX7_town_5 ?_
  obtain ⟨u1, u2, u3, u4, u5, u6, u7, u8, u9, u10, u11, u12, hr13, hf⟩ := boE12 hf
  have hPc := hP.sub (ws' := [(q_t_draft, oX5 v_t_draft_places q_t_draft_ways q_t_draft_distances v_t_draft_people q_t_draft_kind q_t_draft_a q_t_draft_home q_t_draft_aim q_t_draft_at v_t_draft_hour v_t_draft_chance v_t_draft_seed), (q_t_draft_ways, .inl (cy 0, 12, .inl v_t_draft_ways)), (q_t_draft_distances, .inl (cy 0, 144, .inl v_t_draft_distances)), (q_t_draft_kind, .inl (cy 0, 8, .inl v_t_draft_kind)), (q_t_draft_a, .inl (cy 0, 8, .inl v_t_draft_a)), (q_t_draft_home, .inl (cy 0, 8, .inl v_t_draft_home)), (q_t_draft_aim, .inl (cy 0, 8, .inl v_t_draft_aim)), (q_t_draft_at, .inl (cy 0, 8, .inl v_t_draft_at)), (q_t_now, oX5 v_t_now_places q_t_now_ways q_t_now_distances v_t_now_people q_t_now_kind q_t_now_a q_t_now_home q_t_now_aim q_t_now_at v_t_now_hour v_t_now_chance v_t_now_seed), (q_t_now_ways, .inl (cy 0, 12, .inl v_t_now_ways)), (q_t_now_distances, .inl (cy 0, 144, .inl v_t_now_distances)), (q_t_now_kind, .inl (cy 0, 8, .inl v_t_now_kind)), (q_t_now_a, .inl (cy 0, 8, .inl v_t_now_a)), (q_t_now_home, .inl (cy 0, 8, .inl v_t_now_home)), (q_t_now_aim, .inl (cy 0, 8, .inl v_t_now_aim)), (q_t_now_at, .inl (cy 0, 8, .inl v_t_now_at))]) [9, 10, 11, 12, 13, 14, 15, 16, 1, 2, 3, 4, 5, 6, 7, 8] rfl
  have hDc := hD.sub (ws' := [(q_t_draft, oX5 v_t_draft_places q_t_draft_ways q_t_draft_distances v_t_draft_people q_t_draft_kind q_t_draft_a q_t_draft_home q_t_draft_aim q_t_draft_at v_t_draft_hour v_t_draft_chance v_t_draft_seed), (q_t_draft_ways, .inl (cy 0, 12, .inl v_t_draft_ways)), (q_t_draft_distances, .inl (cy 0, 144, .inl v_t_draft_distances)), (q_t_draft_kind, .inl (cy 0, 8, .inl v_t_draft_kind)), (q_t_draft_a, .inl (cy 0, 8, .inl v_t_draft_a)), (q_t_draft_home, .inl (cy 0, 8, .inl v_t_draft_home)), (q_t_draft_aim, .inl (cy 0, 8, .inl v_t_draft_aim)), (q_t_draft_at, .inl (cy 0, 8, .inl v_t_draft_at)), (q_t_now, oX5 v_t_now_places q_t_now_ways q_t_now_distances v_t_now_people q_t_now_kind q_t_now_a q_t_now_home q_t_now_aim q_t_now_at v_t_now_hour v_t_now_chance v_t_now_seed), (q_t_now_ways, .inl (cy 0, 12, .inl v_t_now_ways)), (q_t_now_distances, .inl (cy 0, 144, .inl v_t_now_distances)), (q_t_now_kind, .inl (cy 0, 8, .inl v_t_now_kind)), (q_t_now_a, .inl (cy 0, 8, .inl v_t_now_a)), (q_t_now_home, .inl (cy 0, 8, .inl v_t_now_home)), (q_t_now_aim, .inl (cy 0, 8, .inl v_t_now_aim)), (q_t_now_at, .inl (cy 0, 8, .inl v_t_now_at))]) [9, 10, 11, 12, 13, 14, 15, 16, 1, 2, 3, 4, 5, 6, 7, 8] (by decide) rfl
  refine xcQv (w1 := [(q_t_draft, oX5 u1 q_t_draft_ways q_t_draft_distances u2 q_t_draft_kind q_t_draft_a q_t_draft_home q_t_draft_aim q_t_draft_at u3 u4 u5), (q_t_draft_ways, .inl (cy 0, 12, .inl u6)), (q_t_draft_distances, .inl (cy 0, 144, .inl u7)), (q_t_draft_kind, .inl (cy 0, 8, .inl u8)), (q_t_draft_a, .inl (cy 0, 8, .inl u9)), (q_t_draft_home, .inl (cy 0, 8, .inl u10)), (q_t_draft_aim, .inl (cy 0, 8, .inl u11)), (q_t_draft_at, .inl (cy 0, 8, .inl u12)), (q_t_now, oX5 v_t_now_places q_t_now_ways q_t_now_distances v_t_now_people q_t_now_kind q_t_now_a q_t_now_home q_t_now_aim q_t_now_at v_t_now_hour v_t_now_chance v_t_now_seed), (q_t_now_ways, .inl (cy 0, 12, .inl v_t_now_ways)), (q_t_now_distances, .inl (cy 0, 144, .inl v_t_now_distances)), (q_t_now_kind, .inl (cy 0, 8, .inl v_t_now_kind)), (q_t_now_a, .inl (cy 0, 8, .inl v_t_now_a)), (q_t_now_home, .inl (cy 0, 8, .inl v_t_now_home)), (q_t_now_aim, .inl (cy 0, 8, .inl v_t_now_aim)), (q_t_now_at, .inl (cy 0, 8, .inl v_t_now_at))]) (va_runV (As := [.ref q_t_now]) (rest := []) ⟨hx, hb, hml, hown, hts⟩ (mX5_become l D cy q_t_draft q_t_now q_t_draft_ways q_t_draft_distances q_t_draft_kind q_t_draft_a q_t_draft_home q_t_draft_aim q_t_draft_at q_t_now_ways q_t_now_distances q_t_now_kind q_t_now_a q_t_now_home q_t_now_aim q_t_now_at v_t_draft_places v_t_draft_people v_t_draft_hour v_t_draft_chance v_t_draft_seed v_t_draft_ways v_t_draft_distances v_t_draft_kind v_t_draft_a v_t_draft_home v_t_draft_aim v_t_draft_at v_t_now_places v_t_now_people v_t_now_hour v_t_now_chance v_t_now_seed v_t_now_ways v_t_now_distances v_t_now_kind v_t_now_a v_t_now_home v_t_now_aim v_t_now_at _  hr13) (cwV 1 hts gX7_town_X5_become rfl rfl rfl (by decide +kernel) ⟨Nat.le_of_ble_eq_true rfl, Nat.le_of_ble_eq_true rfl⟩) (xPVw hK hPc hDc (ci := 5) (q0 := 0) rfl rfl) rfl rfl hl.1 rfl (lv_room (Nat.le_of_ble_eq_true rfl)) dX7_town_8 ⟨Nat.le_of_ble_eq_true rfl, Nat.le_of_ble_eq_true rfl⟩) hP hD hS hA [9, 10, 11, 12, 13, 14, 15, 16, 1, 2, 3, 4, 5, 6, 7, 8] rfl rfl (fun H locs hP hD hS => ?_)
  have hP : va_P D vwCl [(q_t, oX7 q_t_now q_t_future q_t_draft q_t_kept v_t_isKept q_t_shelves q_t_tape q_t_reader q_t_hiddenWay q_t_sights q_t_choice q_t_refusals), (q_t_now, oX5 v_t_now_places q_t_now_ways q_t_now_distances v_t_now_people q_t_now_kind q_t_now_a q_t_now_home q_t_now_aim q_t_now_at v_t_now_hour v_t_now_chance v_t_now_seed), (q_t_now_ways, .inl (cy 0, 12, .inl v_t_now_ways)), (q_t_now_distances, .inl (cy 0, 144, .inl v_t_now_distances)), (q_t_now_kind, .inl (cy 0, 8, .inl v_t_now_kind)), (q_t_now_a, .inl (cy 0, 8, .inl v_t_now_a)), (q_t_now_home, .inl (cy 0, 8, .inl v_t_now_home)), (q_t_now_aim, .inl (cy 0, 8, .inl v_t_now_aim)), (q_t_now_at, .inl (cy 0, 8, .inl v_t_now_at)), (q_t_draft, oX5 u1 q_t_draft_ways q_t_draft_distances u2 q_t_draft_kind q_t_draft_a q_t_draft_home q_t_draft_aim q_t_draft_at u3 u4 u5), (q_t_draft_ways, .inl (cy 0, 12, .inl u6)), (q_t_draft_distances, .inl (cy 0, 144, .inl u7)), (q_t_draft_kind, .inl (cy 0, 8, .inl u8)), (q_t_draft_a, .inl (cy 0, 8, .inl u9)), (q_t_draft_home, .inl (cy 0, 8, .inl u10)), (q_t_draft_aim, .inl (cy 0, 8, .inl u11)), (q_t_draft_at, .inl (cy 0, 8, .inl u12)), (q_t_tape, oX4 q_t_tape_bytes v_t_tape_size), (q_t_tape_bytes, .inl (cy 0, 250, .inl v_t_tape_bytes)), (q_t_reader, oX6 q_t_tape v_t_reader_fault v_t_reader_position v_t_reader_token v_t_reader_start v_t_reader_value), (q_t_refusals, .inl (cy 0, 5, .inl v_t_refusals))] H := hP
  have hD : va_D A [(q_t, oX7 q_t_now q_t_future q_t_draft q_t_kept v_t_isKept q_t_shelves q_t_tape q_t_reader q_t_hiddenWay q_t_sights q_t_choice q_t_refusals), (q_t_now, oX5 v_t_now_places q_t_now_ways q_t_now_distances v_t_now_people q_t_now_kind q_t_now_a q_t_now_home q_t_now_aim q_t_now_at v_t_now_hour v_t_now_chance v_t_now_seed), (q_t_now_ways, .inl (cy 0, 12, .inl v_t_now_ways)), (q_t_now_distances, .inl (cy 0, 144, .inl v_t_now_distances)), (q_t_now_kind, .inl (cy 0, 8, .inl v_t_now_kind)), (q_t_now_a, .inl (cy 0, 8, .inl v_t_now_a)), (q_t_now_home, .inl (cy 0, 8, .inl v_t_now_home)), (q_t_now_aim, .inl (cy 0, 8, .inl v_t_now_aim)), (q_t_now_at, .inl (cy 0, 8, .inl v_t_now_at)), (q_t_draft, oX5 u1 q_t_draft_ways q_t_draft_distances u2 q_t_draft_kind q_t_draft_a q_t_draft_home q_t_draft_aim q_t_draft_at u3 u4 u5), (q_t_draft_ways, .inl (cy 0, 12, .inl u6)), (q_t_draft_distances, .inl (cy 0, 144, .inl u7)), (q_t_draft_kind, .inl (cy 0, 8, .inl u8)), (q_t_draft_a, .inl (cy 0, 8, .inl u9)), (q_t_draft_home, .inl (cy 0, 8, .inl u10)), (q_t_draft_aim, .inl (cy 0, 8, .inl u11)), (q_t_draft_at, .inl (cy 0, 8, .inl u12)), (q_t_tape, oX4 q_t_tape_bytes v_t_tape_size), (q_t_tape_bytes, .inl (cy 0, 250, .inl v_t_tape_bytes)), (q_t_reader, oX6 q_t_tape v_t_reader_fault v_t_reader_position v_t_reader_token v_t_reader_start v_t_reader_value), (q_t_refusals, .inl (cy 0, 5, .inl v_t_refusals))] := hD
  refine lv_aload_n hx hb dX7_town_11 rfl (lv_at hl 0 rfl) ?_
  refine va_get (D := D) (ci := 7) (v := .ref q_t_reader) (C := RX7) (T := TX7) (N := 12) hx hb hts hinX7 hown hK.1 hP 0 rfl rfl 7 (by decide) hk35 (fun _ h9 => h9) rfl dX7_town_12 ?_
  refine lv_aload_n hx hb dX7_town_15 rfl (lv_at hl 0 rfl) ?_
  refine va_get (D := D) (ci := 7) (v := .ref q_t_draft) (C := RX7) (T := TX7) (N := 12) hx hb hts hinX7 hown hK.1 hP 0 rfl rfl 2 (by decide) hk19 (fun _ h9 => h9) rfl dX7_town_16 ?_
  obtain ⟨r14, u15, u16, u17, u18, u19, u20, u21, u22, u23, u24, u25, u26, u27, u28, u29, hr30, hf⟩ := boE16 hf
  have hPc := hP.sub (ws' := [(q_t_reader, oX6 q_t_tape v_t_reader_fault v_t_reader_position v_t_reader_token v_t_reader_start v_t_reader_value), (q_t_tape, oX4 q_t_tape_bytes v_t_tape_size), (q_t_tape_bytes, .inl (cy 0, 250, .inl v_t_tape_bytes)), (q_t_draft, oX5 u1 q_t_draft_ways q_t_draft_distances u2 q_t_draft_kind q_t_draft_a q_t_draft_home q_t_draft_aim q_t_draft_at u3 u4 u5), (q_t_draft_ways, .inl (cy 0, 12, .inl u6)), (q_t_draft_kind, .inl (cy 0, 8, .inl u8)), (q_t_draft_a, .inl (cy 0, 8, .inl u9)), (q_t_draft_home, .inl (cy 0, 8, .inl u10)), (q_t_draft_aim, .inl (cy 0, 8, .inl u11)), (q_t_draft_at, .inl (cy 0, 8, .inl u12))]) [19, 17, 18, 9, 10, 12, 13, 14, 15, 16] rfl
  have hDc := hD.sub (ws' := [(q_t_reader, oX6 q_t_tape v_t_reader_fault v_t_reader_position v_t_reader_token v_t_reader_start v_t_reader_value), (q_t_tape, oX4 q_t_tape_bytes v_t_tape_size), (q_t_tape_bytes, .inl (cy 0, 250, .inl v_t_tape_bytes)), (q_t_draft, oX5 u1 q_t_draft_ways q_t_draft_distances u2 q_t_draft_kind q_t_draft_a q_t_draft_home q_t_draft_aim q_t_draft_at u3 u4 u5), (q_t_draft_ways, .inl (cy 0, 12, .inl u6)), (q_t_draft_kind, .inl (cy 0, 8, .inl u8)), (q_t_draft_a, .inl (cy 0, 8, .inl u9)), (q_t_draft_home, .inl (cy 0, 8, .inl u10)), (q_t_draft_aim, .inl (cy 0, 8, .inl u11)), (q_t_draft_at, .inl (cy 0, 8, .inl u12))]) [19, 17, 18, 9, 10, 12, 13, 14, 15, 16] (by decide) rfl
  refine xcQi (w1 := [(q_t_reader, oX6 q_t_tape u15 u16 u17 u18 u19), (q_t_tape, oX4 q_t_tape_bytes v_t_tape_size), (q_t_tape_bytes, .inl (cy 0, 250, .inl v_t_tape_bytes)), (q_t_draft, oX5 u20 q_t_draft_ways q_t_draft_distances u21 q_t_draft_kind q_t_draft_a q_t_draft_home q_t_draft_aim q_t_draft_at u22 u23 u5), (q_t_draft_ways, .inl (cy 0, 12, .inl u24)), (q_t_draft_kind, .inl (cy 0, 8, .inl u25)), (q_t_draft_a, .inl (cy 0, 8, .inl u26)), (q_t_draft_home, .inl (cy 0, 8, .inl u27)), (q_t_draft_aim, .inl (cy 0, 8, .inl u28)), (q_t_draft_at, .inl (cy 0, 8, .inl u29))]) (va_runV (As := [.ref q_t_draft]) (rest := []) ⟨hx, hb, hml, hown, hts⟩ (mX6_readTown l D cy q_t_reader q_t_draft q_t_tape q_t_tape_bytes q_t_draft_ways q_t_draft_distances q_t_draft_kind q_t_draft_a q_t_draft_home q_t_draft_aim q_t_draft_at adK adV v_t_reader_fault v_t_reader_position v_t_reader_token v_t_reader_start v_t_reader_value v_t_tape_size v_t_tape_bytes u1 u2 u3 u4 u5 u6 u8 u9 u10 u11 u12 _  hr30) (cwV 1 hts gX7_town_X6_readTown rfl rfl rfl (by decide +kernel) ⟨Nat.le_of_ble_eq_true rfl, Nat.le_of_ble_eq_true rfl⟩) (xPVsw hK hPc hDc ((hE.kept hS.2.1).narrow (va_free hD hS hA [19, 17, 18, 9, 10, 12, 13, 14, 15, 16] rfl)) hR (ci := 6) (q0 := 0) rfl rfl) rfl rfl hl.1 rfl (lv_room (Nat.le_of_ble_eq_true rfl)) dX7_town_19 ⟨Nat.le_of_ble_eq_true rfl, Nat.le_of_ble_eq_true rfl⟩) hP hD hS hA [19, 17, 18, 9, 10, 12, 13, 14, 15, 16] rfl rfl (fun H locs hP hD hS => ?_)
  have hP : va_P D vwCl [(q_t, oX7 q_t_now q_t_future q_t_draft q_t_kept v_t_isKept q_t_shelves q_t_tape q_t_reader q_t_hiddenWay q_t_sights q_t_choice q_t_refusals), (q_t_now, oX5 v_t_now_places q_t_now_ways q_t_now_distances v_t_now_people q_t_now_kind q_t_now_a q_t_now_home q_t_now_aim q_t_now_at v_t_now_hour v_t_now_chance v_t_now_seed), (q_t_now_ways, .inl (cy 0, 12, .inl v_t_now_ways)), (q_t_now_distances, .inl (cy 0, 144, .inl v_t_now_distances)), (q_t_now_kind, .inl (cy 0, 8, .inl v_t_now_kind)), (q_t_now_a, .inl (cy 0, 8, .inl v_t_now_a)), (q_t_now_home, .inl (cy 0, 8, .inl v_t_now_home)), (q_t_now_aim, .inl (cy 0, 8, .inl v_t_now_aim)), (q_t_now_at, .inl (cy 0, 8, .inl v_t_now_at)), (q_t_draft, oX5 u20 q_t_draft_ways q_t_draft_distances u21 q_t_draft_kind q_t_draft_a q_t_draft_home q_t_draft_aim q_t_draft_at u22 u23 u5), (q_t_draft_ways, .inl (cy 0, 12, .inl u24)), (q_t_draft_distances, .inl (cy 0, 144, .inl u7)), (q_t_draft_kind, .inl (cy 0, 8, .inl u25)), (q_t_draft_a, .inl (cy 0, 8, .inl u26)), (q_t_draft_home, .inl (cy 0, 8, .inl u27)), (q_t_draft_aim, .inl (cy 0, 8, .inl u28)), (q_t_draft_at, .inl (cy 0, 8, .inl u29)), (q_t_tape, oX4 q_t_tape_bytes v_t_tape_size), (q_t_tape_bytes, .inl (cy 0, 250, .inl v_t_tape_bytes)), (q_t_reader, oX6 q_t_tape u15 u16 u17 u18 u19), (q_t_refusals, .inl (cy 0, 5, .inl v_t_refusals))] H := hP
  have hD : va_D A [(q_t, oX7 q_t_now q_t_future q_t_draft q_t_kept v_t_isKept q_t_shelves q_t_tape q_t_reader q_t_hiddenWay q_t_sights q_t_choice q_t_refusals), (q_t_now, oX5 v_t_now_places q_t_now_ways q_t_now_distances v_t_now_people q_t_now_kind q_t_now_a q_t_now_home q_t_now_aim q_t_now_at v_t_now_hour v_t_now_chance v_t_now_seed), (q_t_now_ways, .inl (cy 0, 12, .inl v_t_now_ways)), (q_t_now_distances, .inl (cy 0, 144, .inl v_t_now_distances)), (q_t_now_kind, .inl (cy 0, 8, .inl v_t_now_kind)), (q_t_now_a, .inl (cy 0, 8, .inl v_t_now_a)), (q_t_now_home, .inl (cy 0, 8, .inl v_t_now_home)), (q_t_now_aim, .inl (cy 0, 8, .inl v_t_now_aim)), (q_t_now_at, .inl (cy 0, 8, .inl v_t_now_at)), (q_t_draft, oX5 u20 q_t_draft_ways q_t_draft_distances u21 q_t_draft_kind q_t_draft_a q_t_draft_home q_t_draft_aim q_t_draft_at u22 u23 u5), (q_t_draft_ways, .inl (cy 0, 12, .inl u24)), (q_t_draft_distances, .inl (cy 0, 144, .inl u7)), (q_t_draft_kind, .inl (cy 0, 8, .inl u25)), (q_t_draft_a, .inl (cy 0, 8, .inl u26)), (q_t_draft_home, .inl (cy 0, 8, .inl u27)), (q_t_draft_aim, .inl (cy 0, 8, .inl u28)), (q_t_draft_at, .inl (cy 0, 8, .inl u29)), (q_t_tape, oX4 q_t_tape_bytes v_t_tape_size), (q_t_tape_bytes, .inl (cy 0, 250, .inl v_t_tape_bytes)), (q_t_reader, oX6 q_t_tape u15 u16 u17 u18 u19), (q_t_refusals, .inl (cy 0, 5, .inl v_t_refusals))] := hD
  refine lv_istore_n (lv' := [(1, .int r14), (0, .ref q_t)]) hx hb dX7_town_22 rfl hl (by decide) rfl (fun ls hl => ?_)
  refine lv_aload_n hx hb dX7_town_23 rfl (lv_at hl 1 rfl) ?_
  refine va_get (D := D) (ci := 7) (v := .ref q_t_tape) (C := RX7) (T := TX7) (N := 12) hx hb hts hinX7 hown hK.1 hP 0 rfl rfl 6 (by decide) hk43 (fun _ h9 => h9) rfl dX7_town_24 ?_
  refine lv_iconst (v := 0) hx hb dX7_town_27 (by decide) ?_
  refine va_put (D := D) (ci := 4) (v := .int (0 : Int32)) (ty := .int) (C := RX4) (T := TX4) (N := 2) hx hb hts hinX4 tyX4 tyX4_ok nmX4 hown hK.1 hP hD hS 17 rfl rfl 1 (by decide) hk190 (fun _ h9 => h9) rfl (by decide +kernel) rfl rfl (Nat.le_of_ble_eq_true rfl) dX7_town_28 (fun H locs hP hD hS => ?_)
  have hP : va_P D vwCl [(q_t, oX7 q_t_now q_t_future q_t_draft q_t_kept v_t_isKept q_t_shelves q_t_tape q_t_reader q_t_hiddenWay q_t_sights q_t_choice q_t_refusals), (q_t_now, oX5 v_t_now_places q_t_now_ways q_t_now_distances v_t_now_people q_t_now_kind q_t_now_a q_t_now_home q_t_now_aim q_t_now_at v_t_now_hour v_t_now_chance v_t_now_seed), (q_t_now_ways, .inl (cy 0, 12, .inl v_t_now_ways)), (q_t_now_distances, .inl (cy 0, 144, .inl v_t_now_distances)), (q_t_now_kind, .inl (cy 0, 8, .inl v_t_now_kind)), (q_t_now_a, .inl (cy 0, 8, .inl v_t_now_a)), (q_t_now_home, .inl (cy 0, 8, .inl v_t_now_home)), (q_t_now_aim, .inl (cy 0, 8, .inl v_t_now_aim)), (q_t_now_at, .inl (cy 0, 8, .inl v_t_now_at)), (q_t_draft, oX5 u20 q_t_draft_ways q_t_draft_distances u21 q_t_draft_kind q_t_draft_a q_t_draft_home q_t_draft_aim q_t_draft_at u22 u23 u5), (q_t_draft_ways, .inl (cy 0, 12, .inl u24)), (q_t_draft_distances, .inl (cy 0, 144, .inl u7)), (q_t_draft_kind, .inl (cy 0, 8, .inl u25)), (q_t_draft_a, .inl (cy 0, 8, .inl u26)), (q_t_draft_home, .inl (cy 0, 8, .inl u27)), (q_t_draft_aim, .inl (cy 0, 8, .inl u28)), (q_t_draft_at, .inl (cy 0, 8, .inl u29)), (q_t_tape, oX4 q_t_tape_bytes (0 : Int32)), (q_t_tape_bytes, .inl (cy 0, 250, .inl v_t_tape_bytes)), (q_t_reader, oX6 q_t_tape u15 u16 u17 u18 u19), (q_t_refusals, .inl (cy 0, 5, .inl v_t_refusals))] H := hP
  have hD : va_D A [(q_t, oX7 q_t_now q_t_future q_t_draft q_t_kept v_t_isKept q_t_shelves q_t_tape q_t_reader q_t_hiddenWay q_t_sights q_t_choice q_t_refusals), (q_t_now, oX5 v_t_now_places q_t_now_ways q_t_now_distances v_t_now_people q_t_now_kind q_t_now_a q_t_now_home q_t_now_aim q_t_now_at v_t_now_hour v_t_now_chance v_t_now_seed), (q_t_now_ways, .inl (cy 0, 12, .inl v_t_now_ways)), (q_t_now_distances, .inl (cy 0, 144, .inl v_t_now_distances)), (q_t_now_kind, .inl (cy 0, 8, .inl v_t_now_kind)), (q_t_now_a, .inl (cy 0, 8, .inl v_t_now_a)), (q_t_now_home, .inl (cy 0, 8, .inl v_t_now_home)), (q_t_now_aim, .inl (cy 0, 8, .inl v_t_now_aim)), (q_t_now_at, .inl (cy 0, 8, .inl v_t_now_at)), (q_t_draft, oX5 u20 q_t_draft_ways q_t_draft_distances u21 q_t_draft_kind q_t_draft_a q_t_draft_home q_t_draft_aim q_t_draft_at u22 u23 u5), (q_t_draft_ways, .inl (cy 0, 12, .inl u24)), (q_t_draft_distances, .inl (cy 0, 144, .inl u7)), (q_t_draft_kind, .inl (cy 0, 8, .inl u25)), (q_t_draft_a, .inl (cy 0, 8, .inl u26)), (q_t_draft_home, .inl (cy 0, 8, .inl u27)), (q_t_draft_aim, .inl (cy 0, 8, .inl u28)), (q_t_draft_at, .inl (cy 0, 8, .inl u29)), (q_t_tape, oX4 q_t_tape_bytes (0 : Int32)), (q_t_tape_bytes, .inl (cy 0, 250, .inl v_t_tape_bytes)), (q_t_reader, oX6 q_t_tape u15 u16 u17 u18 u19), (q_t_refusals, .inl (cy 0, 5, .inl v_t_refusals))] := hD
  refine lv_aload_n hx hb dX7_town_31 rfl (lv_at hl 1 rfl) ?_
  refine va_get (D := D) (ci := 7) (v := .ref q_t_reader) (C := RX7) (T := TX7) (N := 12) hx hb hts hinX7 hown hK.1 hP 0 rfl rfl 7 (by decide) hk35 (fun _ h9 => h9) rfl dX7_town_32 ?_
  refine va_get (D := D) (ci := 6) (v := .int u15) (C := RX6) (T := TX6) (N := 6) hx hb hts hinX6 hown hK.1 hP 19 rfl rfl 1 (by decide) hk206 (fun _ h9 => h9) rfl dX7_town_35 ?_
  refine lv_iconst (v := (-1)) hx hb dX7_town_38 (by decide) ?_
  refine lv_icmp_eq (tgt := 60) hx hb dX7_town_39 (by decide) (fun c49 => ?_) (fun c49 => ?_)
  · have hf := ifT hf c49
    clear c49
    refine lv_aload_n hx hb dX7_town_60 rfl (lv_at hl 1 rfl) ?_
    refine va_get (D := D) (ci := 7) (v := .ref q_t_draft) (C := RX7) (T := TX7) (N := 12) hx hb hts hinX7 hown hK.1 hP 0 rfl rfl 2 (by decide) hk19 (fun _ h9 => h9) rfl dX7_town_61 ?_
    obtain ⟨u31, hr32, hf⟩ := boE1 hf
    have hPc := hP.sub (ws' := [(q_t_draft, oX5 u20 q_t_draft_ways q_t_draft_distances u21 q_t_draft_kind q_t_draft_a q_t_draft_home q_t_draft_aim q_t_draft_at u22 u23 u5), (q_t_draft_ways, .inl (cy 0, 12, .inl u24)), (q_t_draft_distances, .inl (cy 0, 144, .inl u7))]) [9, 10, 11] rfl
    have hDc := hD.sub (ws' := [(q_t_draft, oX5 u20 q_t_draft_ways q_t_draft_distances u21 q_t_draft_kind q_t_draft_a q_t_draft_home q_t_draft_aim q_t_draft_at u22 u23 u5), (q_t_draft_ways, .inl (cy 0, 12, .inl u24)), (q_t_draft_distances, .inl (cy 0, 144, .inl u7))]) [9, 10, 11] (by decide) rfl
    refine xcQv (w1 := [(q_t_draft, oX5 u20 q_t_draft_ways q_t_draft_distances u21 q_t_draft_kind q_t_draft_a q_t_draft_home q_t_draft_aim q_t_draft_at u22 u23 u5), (q_t_draft_ways, .inl (cy 0, 12, .inl u24)), (q_t_draft_distances, .inl (cy 0, 144, .inl u31))]) (va_runV (As := []) (rest := []) ⟨hx, hb, hml, hown, hts⟩ (mX5_measure l D cy q_t_draft q_t_draft_ways q_t_draft_distances q_t_draft_kind q_t_draft_a q_t_draft_home q_t_draft_aim q_t_draft_at u20 u21 u22 u23 u5 u24 u7 _  hr32) (cwV 0 hts gX7_town_X5_measure rfl rfl rfl (by decide +kernel) ⟨Nat.le_of_ble_eq_true rfl, Nat.le_of_ble_eq_true rfl⟩) (xPVw hK hPc hDc (ci := 5) (q0 := 0) rfl rfl) rfl rfl hl.1 rfl (lv_room (Nat.le_of_ble_eq_true rfl)) dX7_town_64 ⟨Nat.le_of_ble_eq_true rfl, Nat.le_of_ble_eq_true rfl⟩) hP hD hS hA [9, 10, 11] rfl rfl (fun H locs hP hD hS => ?_)
    have hP : va_P D vwCl [(q_t, oX7 q_t_now q_t_future q_t_draft q_t_kept v_t_isKept q_t_shelves q_t_tape q_t_reader q_t_hiddenWay q_t_sights q_t_choice q_t_refusals), (q_t_now, oX5 v_t_now_places q_t_now_ways q_t_now_distances v_t_now_people q_t_now_kind q_t_now_a q_t_now_home q_t_now_aim q_t_now_at v_t_now_hour v_t_now_chance v_t_now_seed), (q_t_now_ways, .inl (cy 0, 12, .inl v_t_now_ways)), (q_t_now_distances, .inl (cy 0, 144, .inl v_t_now_distances)), (q_t_now_kind, .inl (cy 0, 8, .inl v_t_now_kind)), (q_t_now_a, .inl (cy 0, 8, .inl v_t_now_a)), (q_t_now_home, .inl (cy 0, 8, .inl v_t_now_home)), (q_t_now_aim, .inl (cy 0, 8, .inl v_t_now_aim)), (q_t_now_at, .inl (cy 0, 8, .inl v_t_now_at)), (q_t_draft, oX5 u20 q_t_draft_ways q_t_draft_distances u21 q_t_draft_kind q_t_draft_a q_t_draft_home q_t_draft_aim q_t_draft_at u22 u23 u5), (q_t_draft_ways, .inl (cy 0, 12, .inl u24)), (q_t_draft_distances, .inl (cy 0, 144, .inl u31)), (q_t_draft_kind, .inl (cy 0, 8, .inl u25)), (q_t_draft_a, .inl (cy 0, 8, .inl u26)), (q_t_draft_home, .inl (cy 0, 8, .inl u27)), (q_t_draft_aim, .inl (cy 0, 8, .inl u28)), (q_t_draft_at, .inl (cy 0, 8, .inl u29)), (q_t_tape, oX4 q_t_tape_bytes (0 : Int32)), (q_t_tape_bytes, .inl (cy 0, 250, .inl v_t_tape_bytes)), (q_t_reader, oX6 q_t_tape u15 u16 u17 u18 u19), (q_t_refusals, .inl (cy 0, 5, .inl v_t_refusals))] H := hP
    have hD : va_D A [(q_t, oX7 q_t_now q_t_future q_t_draft q_t_kept v_t_isKept q_t_shelves q_t_tape q_t_reader q_t_hiddenWay q_t_sights q_t_choice q_t_refusals), (q_t_now, oX5 v_t_now_places q_t_now_ways q_t_now_distances v_t_now_people q_t_now_kind q_t_now_a q_t_now_home q_t_now_aim q_t_now_at v_t_now_hour v_t_now_chance v_t_now_seed), (q_t_now_ways, .inl (cy 0, 12, .inl v_t_now_ways)), (q_t_now_distances, .inl (cy 0, 144, .inl v_t_now_distances)), (q_t_now_kind, .inl (cy 0, 8, .inl v_t_now_kind)), (q_t_now_a, .inl (cy 0, 8, .inl v_t_now_a)), (q_t_now_home, .inl (cy 0, 8, .inl v_t_now_home)), (q_t_now_aim, .inl (cy 0, 8, .inl v_t_now_aim)), (q_t_now_at, .inl (cy 0, 8, .inl v_t_now_at)), (q_t_draft, oX5 u20 q_t_draft_ways q_t_draft_distances u21 q_t_draft_kind q_t_draft_a q_t_draft_home q_t_draft_aim q_t_draft_at u22 u23 u5), (q_t_draft_ways, .inl (cy 0, 12, .inl u24)), (q_t_draft_distances, .inl (cy 0, 144, .inl u31)), (q_t_draft_kind, .inl (cy 0, 8, .inl u25)), (q_t_draft_a, .inl (cy 0, 8, .inl u26)), (q_t_draft_home, .inl (cy 0, 8, .inl u27)), (q_t_draft_aim, .inl (cy 0, 8, .inl u28)), (q_t_draft_at, .inl (cy 0, 8, .inl u29)), (q_t_tape, oX4 q_t_tape_bytes (0 : Int32)), (q_t_tape_bytes, .inl (cy 0, 250, .inl v_t_tape_bytes)), (q_t_reader, oX6 q_t_tape u15 u16 u17 u18 u19), (q_t_refusals, .inl (cy 0, 5, .inl v_t_refusals))] := hD
    refine lv_aload_n hx hb dX7_town_67 rfl (lv_at hl 1 rfl) ?_
    refine va_get (D := D) (ci := 7) (v := .ref q_t_now) (C := RX7) (T := TX7) (N := 12) hx hb hts hinX7 hown hK.1 hP 0 rfl rfl 0 (by decide) hk10 (fun _ h9 => h9) rfl dX7_town_68 ?_
    refine lv_aload_n hx hb dX7_town_71 rfl (lv_at hl 1 rfl) ?_
    refine va_get (D := D) (ci := 7) (v := .ref q_t_draft) (C := RX7) (T := TX7) (N := 12) hx hb hts hinX7 hown hK.1 hP 0 rfl rfl 2 (by decide) hk19 (fun _ h9 => h9) rfl dX7_town_72 ?_
    obtain ⟨u33, u34, u35, u36, u37, u38, u39, u40, u41, u42, u43, u44, hr45, hf⟩ := boE12 hf
    have hPc := hP.sub (ws' := [(q_t_now, oX5 v_t_now_places q_t_now_ways q_t_now_distances v_t_now_people q_t_now_kind q_t_now_a q_t_now_home q_t_now_aim q_t_now_at v_t_now_hour v_t_now_chance v_t_now_seed), (q_t_now_ways, .inl (cy 0, 12, .inl v_t_now_ways)), (q_t_now_distances, .inl (cy 0, 144, .inl v_t_now_distances)), (q_t_now_kind, .inl (cy 0, 8, .inl v_t_now_kind)), (q_t_now_a, .inl (cy 0, 8, .inl v_t_now_a)), (q_t_now_home, .inl (cy 0, 8, .inl v_t_now_home)), (q_t_now_aim, .inl (cy 0, 8, .inl v_t_now_aim)), (q_t_now_at, .inl (cy 0, 8, .inl v_t_now_at)), (q_t_draft, oX5 u20 q_t_draft_ways q_t_draft_distances u21 q_t_draft_kind q_t_draft_a q_t_draft_home q_t_draft_aim q_t_draft_at u22 u23 u5), (q_t_draft_ways, .inl (cy 0, 12, .inl u24)), (q_t_draft_distances, .inl (cy 0, 144, .inl u31)), (q_t_draft_kind, .inl (cy 0, 8, .inl u25)), (q_t_draft_a, .inl (cy 0, 8, .inl u26)), (q_t_draft_home, .inl (cy 0, 8, .inl u27)), (q_t_draft_aim, .inl (cy 0, 8, .inl u28)), (q_t_draft_at, .inl (cy 0, 8, .inl u29))]) [1, 2, 3, 4, 5, 6, 7, 8, 9, 10, 11, 12, 13, 14, 15, 16] rfl
    have hDc := hD.sub (ws' := [(q_t_now, oX5 v_t_now_places q_t_now_ways q_t_now_distances v_t_now_people q_t_now_kind q_t_now_a q_t_now_home q_t_now_aim q_t_now_at v_t_now_hour v_t_now_chance v_t_now_seed), (q_t_now_ways, .inl (cy 0, 12, .inl v_t_now_ways)), (q_t_now_distances, .inl (cy 0, 144, .inl v_t_now_distances)), (q_t_now_kind, .inl (cy 0, 8, .inl v_t_now_kind)), (q_t_now_a, .inl (cy 0, 8, .inl v_t_now_a)), (q_t_now_home, .inl (cy 0, 8, .inl v_t_now_home)), (q_t_now_aim, .inl (cy 0, 8, .inl v_t_now_aim)), (q_t_now_at, .inl (cy 0, 8, .inl v_t_now_at)), (q_t_draft, oX5 u20 q_t_draft_ways q_t_draft_distances u21 q_t_draft_kind q_t_draft_a q_t_draft_home q_t_draft_aim q_t_draft_at u22 u23 u5), (q_t_draft_ways, .inl (cy 0, 12, .inl u24)), (q_t_draft_distances, .inl (cy 0, 144, .inl u31)), (q_t_draft_kind, .inl (cy 0, 8, .inl u25)), (q_t_draft_a, .inl (cy 0, 8, .inl u26)), (q_t_draft_home, .inl (cy 0, 8, .inl u27)), (q_t_draft_aim, .inl (cy 0, 8, .inl u28)), (q_t_draft_at, .inl (cy 0, 8, .inl u29))]) [1, 2, 3, 4, 5, 6, 7, 8, 9, 10, 11, 12, 13, 14, 15, 16] (by decide) rfl
    refine xcQv (w1 := [(q_t_now, oX5 u33 q_t_now_ways q_t_now_distances u34 q_t_now_kind q_t_now_a q_t_now_home q_t_now_aim q_t_now_at u35 u36 u37), (q_t_now_ways, .inl (cy 0, 12, .inl u38)), (q_t_now_distances, .inl (cy 0, 144, .inl u39)), (q_t_now_kind, .inl (cy 0, 8, .inl u40)), (q_t_now_a, .inl (cy 0, 8, .inl u41)), (q_t_now_home, .inl (cy 0, 8, .inl u42)), (q_t_now_aim, .inl (cy 0, 8, .inl u43)), (q_t_now_at, .inl (cy 0, 8, .inl u44)), (q_t_draft, oX5 u20 q_t_draft_ways q_t_draft_distances u21 q_t_draft_kind q_t_draft_a q_t_draft_home q_t_draft_aim q_t_draft_at u22 u23 u5), (q_t_draft_ways, .inl (cy 0, 12, .inl u24)), (q_t_draft_distances, .inl (cy 0, 144, .inl u31)), (q_t_draft_kind, .inl (cy 0, 8, .inl u25)), (q_t_draft_a, .inl (cy 0, 8, .inl u26)), (q_t_draft_home, .inl (cy 0, 8, .inl u27)), (q_t_draft_aim, .inl (cy 0, 8, .inl u28)), (q_t_draft_at, .inl (cy 0, 8, .inl u29))]) (va_runV (As := [.ref q_t_draft]) (rest := []) ⟨hx, hb, hml, hown, hts⟩ (mX5_become l D cy q_t_now q_t_draft q_t_now_ways q_t_now_distances q_t_now_kind q_t_now_a q_t_now_home q_t_now_aim q_t_now_at q_t_draft_ways q_t_draft_distances q_t_draft_kind q_t_draft_a q_t_draft_home q_t_draft_aim q_t_draft_at v_t_now_places v_t_now_people v_t_now_hour v_t_now_chance v_t_now_seed v_t_now_ways v_t_now_distances v_t_now_kind v_t_now_a v_t_now_home v_t_now_aim v_t_now_at u20 u21 u22 u23 u5 u24 u31 u25 u26 u27 u28 u29 _  hr45) (cwV 1 hts gX7_town_X5_become rfl rfl rfl (by decide +kernel) ⟨Nat.le_of_ble_eq_true rfl, Nat.le_of_ble_eq_true rfl⟩) (xPVw hK hPc hDc (ci := 5) (q0 := 0) rfl rfl) rfl rfl hl.1 rfl (lv_room (Nat.le_of_ble_eq_true rfl)) dX7_town_75 ⟨Nat.le_of_ble_eq_true rfl, Nat.le_of_ble_eq_true rfl⟩) hP hD hS hA [1, 2, 3, 4, 5, 6, 7, 8, 9, 10, 11, 12, 13, 14, 15, 16] rfl rfl (fun H locs hP hD hS => ?_)
    have hP : va_P D vwCl [(q_t, oX7 q_t_now q_t_future q_t_draft q_t_kept v_t_isKept q_t_shelves q_t_tape q_t_reader q_t_hiddenWay q_t_sights q_t_choice q_t_refusals), (q_t_now, oX5 u33 q_t_now_ways q_t_now_distances u34 q_t_now_kind q_t_now_a q_t_now_home q_t_now_aim q_t_now_at u35 u36 u37), (q_t_now_ways, .inl (cy 0, 12, .inl u38)), (q_t_now_distances, .inl (cy 0, 144, .inl u39)), (q_t_now_kind, .inl (cy 0, 8, .inl u40)), (q_t_now_a, .inl (cy 0, 8, .inl u41)), (q_t_now_home, .inl (cy 0, 8, .inl u42)), (q_t_now_aim, .inl (cy 0, 8, .inl u43)), (q_t_now_at, .inl (cy 0, 8, .inl u44)), (q_t_draft, oX5 u20 q_t_draft_ways q_t_draft_distances u21 q_t_draft_kind q_t_draft_a q_t_draft_home q_t_draft_aim q_t_draft_at u22 u23 u5), (q_t_draft_ways, .inl (cy 0, 12, .inl u24)), (q_t_draft_distances, .inl (cy 0, 144, .inl u31)), (q_t_draft_kind, .inl (cy 0, 8, .inl u25)), (q_t_draft_a, .inl (cy 0, 8, .inl u26)), (q_t_draft_home, .inl (cy 0, 8, .inl u27)), (q_t_draft_aim, .inl (cy 0, 8, .inl u28)), (q_t_draft_at, .inl (cy 0, 8, .inl u29)), (q_t_tape, oX4 q_t_tape_bytes (0 : Int32)), (q_t_tape_bytes, .inl (cy 0, 250, .inl v_t_tape_bytes)), (q_t_reader, oX6 q_t_tape u15 u16 u17 u18 u19), (q_t_refusals, .inl (cy 0, 5, .inl v_t_refusals))] H := hP
    have hD : va_D A [(q_t, oX7 q_t_now q_t_future q_t_draft q_t_kept v_t_isKept q_t_shelves q_t_tape q_t_reader q_t_hiddenWay q_t_sights q_t_choice q_t_refusals), (q_t_now, oX5 u33 q_t_now_ways q_t_now_distances u34 q_t_now_kind q_t_now_a q_t_now_home q_t_now_aim q_t_now_at u35 u36 u37), (q_t_now_ways, .inl (cy 0, 12, .inl u38)), (q_t_now_distances, .inl (cy 0, 144, .inl u39)), (q_t_now_kind, .inl (cy 0, 8, .inl u40)), (q_t_now_a, .inl (cy 0, 8, .inl u41)), (q_t_now_home, .inl (cy 0, 8, .inl u42)), (q_t_now_aim, .inl (cy 0, 8, .inl u43)), (q_t_now_at, .inl (cy 0, 8, .inl u44)), (q_t_draft, oX5 u20 q_t_draft_ways q_t_draft_distances u21 q_t_draft_kind q_t_draft_a q_t_draft_home q_t_draft_aim q_t_draft_at u22 u23 u5), (q_t_draft_ways, .inl (cy 0, 12, .inl u24)), (q_t_draft_distances, .inl (cy 0, 144, .inl u31)), (q_t_draft_kind, .inl (cy 0, 8, .inl u25)), (q_t_draft_a, .inl (cy 0, 8, .inl u26)), (q_t_draft_home, .inl (cy 0, 8, .inl u27)), (q_t_draft_aim, .inl (cy 0, 8, .inl u28)), (q_t_draft_at, .inl (cy 0, 8, .inl u29)), (q_t_tape, oX4 q_t_tape_bytes (0 : Int32)), (q_t_tape_bytes, .inl (cy 0, 250, .inl v_t_tape_bytes)), (q_t_reader, oX6 q_t_tape u15 u16 u17 u18 u19), (q_t_refusals, .inl (cy 0, 5, .inl v_t_refusals))] := hD
    refine lv_iload_n hx hb dX7_town_78 rfl (lv_at hl 0 rfl) ?_
    have hg0 := Option.some.inj hf
    obtain ⟨ee0, hg1⟩ := Prod.mk.inj hg0
    obtain ⟨ee1, hg2⟩ := Prod.mk.inj hg1
    obtain ⟨ee2, hg3⟩ := Prod.mk.inj hg2
    obtain ⟨ee3, hg4⟩ := Prod.mk.inj hg3
    obtain ⟨ee4, hg5⟩ := Prod.mk.inj hg4
    obtain ⟨ee5, hg6⟩ := Prod.mk.inj hg5
    obtain ⟨ee6, hg7⟩ := Prod.mk.inj hg6
    obtain ⟨ee7, hg8⟩ := Prod.mk.inj hg7
    obtain ⟨ee8, hg9⟩ := Prod.mk.inj hg8
    obtain ⟨ee9, hg10⟩ := Prod.mk.inj hg9
    obtain ⟨ee10, hg11⟩ := Prod.mk.inj hg10
    obtain ⟨ee11, hg12⟩ := Prod.mk.inj hg11
    obtain ⟨ee12, hg13⟩ := Prod.mk.inj hg12
    obtain ⟨ee13, hg14⟩ := Prod.mk.inj hg13
    obtain ⟨ee14, hg15⟩ := Prod.mk.inj hg14
    obtain ⟨ee15, hg16⟩ := Prod.mk.inj hg15
    obtain ⟨ee16, hg17⟩ := Prod.mk.inj hg16
    obtain ⟨ee17, hg18⟩ := Prod.mk.inj hg17
    obtain ⟨ee18, hg19⟩ := Prod.mk.inj hg18
    obtain ⟨ee19, hg20⟩ := Prod.mk.inj hg19
    obtain ⟨ee20, hg21⟩ := Prod.mk.inj hg20
    obtain ⟨ee21, hg22⟩ := Prod.mk.inj hg21
    obtain ⟨ee22, hg23⟩ := Prod.mk.inj hg22
    obtain ⟨ee23, hg24⟩ := Prod.mk.inj hg23
    obtain ⟨ee24, hg25⟩ := Prod.mk.inj hg24
    obtain ⟨ee25, hg26⟩ := Prod.mk.inj hg25
    obtain ⟨ee26, hg27⟩ := Prod.mk.inj hg26
    obtain ⟨ee27, hg28⟩ := Prod.mk.inj hg27
    obtain ⟨ee28, hg29⟩ := Prod.mk.inj hg28
    obtain ⟨ee29, hg30⟩ := Prod.mk.inj hg29
    obtain ⟨ee30, hg31⟩ := Prod.mk.inj hg30
    clear hf hg0 hg1 hg2 hg3 hg4 hg5 hg6 hg7 hg8 hg9 hg10 hg11 hg12 hg13 hg14 hg15 hg16 hg17 hg18 hg19 hg20 hg21 hg22 hg23 hg24 hg25 hg26 hg27 hg28 hg29 hg30
    subst ee0
    subst ee1
    subst ee2
    subst ee3
    subst ee4
    subst ee5
    subst ee6
    subst ee7
    subst ee8
    subst ee9
    subst ee10
    subst ee11
    subst ee12
    subst ee13
    subst ee14
    subst ee15
    subst ee16
    subst ee17
    subst ee18
    subst ee19
    subst ee20
    subst ee21
    subst ee22
    subst ee23
    subst ee24
    subst ee25
    subst ee26
    subst ee27
    subst ee28
    subst ee29
    subst ee30
    subst hg31
    exact W.iret hx hb hr (fun t ht hW => ⟨⟨_, (), rfl, rfl, xend ht hP⟩, hS.F ht⟩) hS.2.2 dX7_town_79
  · have hf := ifF hf c49
    clear c49
    refine lv_aload_n hx hb dX7_town_42 rfl (lv_at hl 1 rfl) ?_
    refine lv_bipush (v := (-2)) hx hb dX7_town_43 (by decide) ?_
    obtain ⟨r46, u47, hr48, hf⟩ := boE2 hf
    have hPc := hP.sub (ws' := [(q_t, oX7 q_t_now q_t_future q_t_draft q_t_kept v_t_isKept q_t_shelves q_t_tape q_t_reader q_t_hiddenWay q_t_sights q_t_choice q_t_refusals), (q_t_refusals, .inl (cy 0, 5, .inl v_t_refusals))]) [0, 20] rfl
    have hDc := hD.sub (ws' := [(q_t, oX7 q_t_now q_t_future q_t_draft q_t_kept v_t_isKept q_t_shelves q_t_tape q_t_reader q_t_hiddenWay q_t_sights q_t_choice q_t_refusals), (q_t_refusals, .inl (cy 0, 5, .inl v_t_refusals))]) [0, 20] (by decide) rfl
    refine xcQi (w1 := [(q_t, oX7 q_t_now q_t_future q_t_draft q_t_kept v_t_isKept q_t_shelves q_t_tape q_t_reader q_t_hiddenWay q_t_sights q_t_choice q_t_refusals), (q_t_refusals, .inl (cy 0, 5, .inl u47))]) (va_runV (As := [.int (-2 : Int32)]) (rest := []) ⟨hx, hb, hml, hown, hts⟩ (mX7_refuse l D cy q_t q_t_now q_t_future q_t_draft q_t_kept q_t_shelves q_t_tape q_t_reader q_t_hiddenWay q_t_sights q_t_choice q_t_refusals v_t_isKept v_t_refusals _ (-2 : Int32) hr48) (cwV 1 hts gX7_town_X7_refuse rfl rfl rfl (by decide +kernel) ⟨Nat.le_of_ble_eq_true rfl, Nat.le_of_ble_eq_true rfl⟩) (xPVw hK hPc hDc (ci := 7) (q0 := 0) rfl rfl) rfl rfl hl.1 rfl (lv_room (Nat.le_of_ble_eq_true rfl)) dX7_town_45 ⟨Nat.le_of_ble_eq_true rfl, Nat.le_of_ble_eq_true rfl⟩) hP hD hS hA [0, 20] rfl rfl (fun H locs hP hD hS => ?_)
    have hP : va_P D vwCl [(q_t, oX7 q_t_now q_t_future q_t_draft q_t_kept v_t_isKept q_t_shelves q_t_tape q_t_reader q_t_hiddenWay q_t_sights q_t_choice q_t_refusals), (q_t_now, oX5 v_t_now_places q_t_now_ways q_t_now_distances v_t_now_people q_t_now_kind q_t_now_a q_t_now_home q_t_now_aim q_t_now_at v_t_now_hour v_t_now_chance v_t_now_seed), (q_t_now_ways, .inl (cy 0, 12, .inl v_t_now_ways)), (q_t_now_distances, .inl (cy 0, 144, .inl v_t_now_distances)), (q_t_now_kind, .inl (cy 0, 8, .inl v_t_now_kind)), (q_t_now_a, .inl (cy 0, 8, .inl v_t_now_a)), (q_t_now_home, .inl (cy 0, 8, .inl v_t_now_home)), (q_t_now_aim, .inl (cy 0, 8, .inl v_t_now_aim)), (q_t_now_at, .inl (cy 0, 8, .inl v_t_now_at)), (q_t_draft, oX5 u20 q_t_draft_ways q_t_draft_distances u21 q_t_draft_kind q_t_draft_a q_t_draft_home q_t_draft_aim q_t_draft_at u22 u23 u5), (q_t_draft_ways, .inl (cy 0, 12, .inl u24)), (q_t_draft_distances, .inl (cy 0, 144, .inl u7)), (q_t_draft_kind, .inl (cy 0, 8, .inl u25)), (q_t_draft_a, .inl (cy 0, 8, .inl u26)), (q_t_draft_home, .inl (cy 0, 8, .inl u27)), (q_t_draft_aim, .inl (cy 0, 8, .inl u28)), (q_t_draft_at, .inl (cy 0, 8, .inl u29)), (q_t_tape, oX4 q_t_tape_bytes (0 : Int32)), (q_t_tape_bytes, .inl (cy 0, 250, .inl v_t_tape_bytes)), (q_t_reader, oX6 q_t_tape u15 u16 u17 u18 u19), (q_t_refusals, .inl (cy 0, 5, .inl u47))] H := hP
    have hD : va_D A [(q_t, oX7 q_t_now q_t_future q_t_draft q_t_kept v_t_isKept q_t_shelves q_t_tape q_t_reader q_t_hiddenWay q_t_sights q_t_choice q_t_refusals), (q_t_now, oX5 v_t_now_places q_t_now_ways q_t_now_distances v_t_now_people q_t_now_kind q_t_now_a q_t_now_home q_t_now_aim q_t_now_at v_t_now_hour v_t_now_chance v_t_now_seed), (q_t_now_ways, .inl (cy 0, 12, .inl v_t_now_ways)), (q_t_now_distances, .inl (cy 0, 144, .inl v_t_now_distances)), (q_t_now_kind, .inl (cy 0, 8, .inl v_t_now_kind)), (q_t_now_a, .inl (cy 0, 8, .inl v_t_now_a)), (q_t_now_home, .inl (cy 0, 8, .inl v_t_now_home)), (q_t_now_aim, .inl (cy 0, 8, .inl v_t_now_aim)), (q_t_now_at, .inl (cy 0, 8, .inl v_t_now_at)), (q_t_draft, oX5 u20 q_t_draft_ways q_t_draft_distances u21 q_t_draft_kind q_t_draft_a q_t_draft_home q_t_draft_aim q_t_draft_at u22 u23 u5), (q_t_draft_ways, .inl (cy 0, 12, .inl u24)), (q_t_draft_distances, .inl (cy 0, 144, .inl u7)), (q_t_draft_kind, .inl (cy 0, 8, .inl u25)), (q_t_draft_a, .inl (cy 0, 8, .inl u26)), (q_t_draft_home, .inl (cy 0, 8, .inl u27)), (q_t_draft_aim, .inl (cy 0, 8, .inl u28)), (q_t_draft_at, .inl (cy 0, 8, .inl u29)), (q_t_tape, oX4 q_t_tape_bytes (0 : Int32)), (q_t_tape_bytes, .inl (cy 0, 250, .inl v_t_tape_bytes)), (q_t_reader, oX6 q_t_tape u15 u16 u17 u18 u19), (q_t_refusals, .inl (cy 0, 5, .inl u47))] := hD
    refine lv_pop hx hb dX7_town_48 rfl ?_
    refine lv_bipush (v := (-20)) hx hb dX7_town_49 (by decide) ?_
    refine lv_aload_n hx hb dX7_town_51 rfl (lv_at hl 1 rfl) ?_
    refine va_get (D := D) (ci := 7) (v := .ref q_t_reader) (C := RX7) (T := TX7) (N := 12) hx hb hts hinX7 hown hK.1 hP 0 rfl rfl 7 (by decide) hk35 (fun _ h9 => h9) rfl dX7_town_52 ?_
    refine va_get (D := D) (ci := 6) (v := .int u15) (C := RX6) (T := TX6) (N := 6) hx hb hts hinX6 hown hK.1 hP 19 rfl rfl 1 (by decide) hk206 (fun _ h9 => h9) rfl dX7_town_55 ?_
    refine lv_isub hx hb dX7_town_58 ?_
    have hg0 := Option.some.inj hf
    obtain ⟨ee0, hg1⟩ := Prod.mk.inj hg0
    obtain ⟨ee1, hg2⟩ := Prod.mk.inj hg1
    obtain ⟨ee2, hg3⟩ := Prod.mk.inj hg2
    obtain ⟨ee3, hg4⟩ := Prod.mk.inj hg3
    obtain ⟨ee4, hg5⟩ := Prod.mk.inj hg4
    obtain ⟨ee5, hg6⟩ := Prod.mk.inj hg5
    obtain ⟨ee6, hg7⟩ := Prod.mk.inj hg6
    obtain ⟨ee7, hg8⟩ := Prod.mk.inj hg7
    obtain ⟨ee8, hg9⟩ := Prod.mk.inj hg8
    obtain ⟨ee9, hg10⟩ := Prod.mk.inj hg9
    obtain ⟨ee10, hg11⟩ := Prod.mk.inj hg10
    obtain ⟨ee11, hg12⟩ := Prod.mk.inj hg11
    obtain ⟨ee12, hg13⟩ := Prod.mk.inj hg12
    obtain ⟨ee13, hg14⟩ := Prod.mk.inj hg13
    obtain ⟨ee14, hg15⟩ := Prod.mk.inj hg14
    obtain ⟨ee15, hg16⟩ := Prod.mk.inj hg15
    obtain ⟨ee16, hg17⟩ := Prod.mk.inj hg16
    obtain ⟨ee17, hg18⟩ := Prod.mk.inj hg17
    obtain ⟨ee18, hg19⟩ := Prod.mk.inj hg18
    obtain ⟨ee19, hg20⟩ := Prod.mk.inj hg19
    obtain ⟨ee20, hg21⟩ := Prod.mk.inj hg20
    obtain ⟨ee21, hg22⟩ := Prod.mk.inj hg21
    obtain ⟨ee22, hg23⟩ := Prod.mk.inj hg22
    obtain ⟨ee23, hg24⟩ := Prod.mk.inj hg23
    obtain ⟨ee24, hg25⟩ := Prod.mk.inj hg24
    obtain ⟨ee25, hg26⟩ := Prod.mk.inj hg25
    obtain ⟨ee26, hg27⟩ := Prod.mk.inj hg26
    obtain ⟨ee27, hg28⟩ := Prod.mk.inj hg27
    obtain ⟨ee28, hg29⟩ := Prod.mk.inj hg28
    obtain ⟨ee29, hg30⟩ := Prod.mk.inj hg29
    obtain ⟨ee30, hg31⟩ := Prod.mk.inj hg30
    clear hf hg0 hg1 hg2 hg3 hg4 hg5 hg6 hg7 hg8 hg9 hg10 hg11 hg12 hg13 hg14 hg15 hg16 hg17 hg18 hg19 hg20 hg21 hg22 hg23 hg24 hg25 hg26 hg27 hg28 hg29 hg30
    subst ee0
    subst ee1
    subst ee2
    subst ee3
    subst ee4
    subst ee5
    subst ee6
    subst ee7
    subst ee8
    subst ee9
    subst ee10
    subst ee11
    subst ee12
    subst ee13
    subst ee14
    subst ee15
    subst ee16
    subst ee17
    subst ee18
    subst ee19
    subst ee20
    subst ee21
    subst ee22
    subst ee23
    subst ee24
    subst ee25
    subst ee26
    subst ee27
    subst ee28
    subst ee29
    subst ee30
    subst hg31
    exact W.iret hx hb hr (fun t ht hW => ⟨⟨_, (), rfl, rfl, xend ht hP⟩, hS.F ht⟩) hS.2.2 dX7_town_59
def fX7_personOf (v_t_now_people : Int32) (v_t_now_kind : Nat → Int32) (v_t_now_a : Nat → Int32) (v_t_now_home : Nat → Int32) (v_t_now_aim : Nat → Int32) (v_t_now_at : Nat → Int32) (v_t_refusals : Nat → Int32) (p0 : Int32) (p1 : Int32) : Option (Int32 × (Nat → Int32)) :=
  bo1 (fX7_isPerson v_t_now_people p0) fun r1 =>
  if r1 = 0 then
    bo2 (fX7_refuse v_t_refusals (-2 : Int32)) fun r20 u21 =>
    some (r20, u21)
  else
    if p1 = (0 : Int32) then
      if p0 < 0 ∨ 8 ≤ p0.toNatClampNeg then none else
      some (v_t_now_kind p0.toNatClampNeg, v_t_refusals)
    else
      if p1 = (1 : Int32) then
        if p0 < 0 ∨ 8 ≤ p0.toNatClampNeg then none else
        some (v_t_now_a p0.toNatClampNeg, v_t_refusals)
      else
        if p1 = (2 : Int32) then
          if p0 < 0 ∨ 8 ≤ p0.toNatClampNeg then none else
          some (v_t_now_home p0.toNatClampNeg, v_t_refusals)
        else
          if p1 = (3 : Int32) then
            if p0 < 0 ∨ 8 ≤ p0.toNatClampNeg then none else
            some (v_t_now_aim p0.toNatClampNeg, v_t_refusals)
          else
            if p1 = (4 : Int32) then
              if p0 < 0 ∨ 8 ≤ p0.toNatClampNeg then none else
              some (v_t_now_at p0.toNatClampNeg, v_t_refusals)
            else
              if p1 = (5 : Int32) then
                bo1 (fX5_darkens v_t_now_kind p0) fun r12 =>
                if r12 = 0 then
                  some ((0 : Int32), v_t_refusals)
                else
                  some ((1 : Int32), v_t_refusals)
              else
                bo2 (fX7_refuse v_t_refusals (-2 : Int32)) fun r3 u4 =>
                some (r3, u4)
set_option maxHeartbeats 4000000 in
set_option maxRecDepth 100000 in
theorem mX7_personOf (l : Launch) (D : va_G) (cy : Nat → ClassId) (q_t q_t_now q_t_future q_t_draft q_t_kept q_t_shelves q_t_tape q_t_reader q_t_hiddenWay q_t_sights q_t_choice q_t_refusals q_t_now_ways q_t_now_distances q_t_now_kind q_t_now_a q_t_now_home q_t_now_aim q_t_now_at : Nat) (v_t_isKept : Int32) (v_t_now_places : Int32) (v_t_now_people : Int32) (v_t_now_hour : Int32) (v_t_now_chance : Int32) (v_t_now_seed : Int32) (v_t_now_kind : Nat → Int32) (v_t_now_a : Nat → Int32) (v_t_now_home : Nat → Int32) (v_t_now_aim : Nat → Int32) (v_t_now_at : Nat → Int32) (v_t_refusals : Nat → Int32) (sz : Nat) (p0 : Int32) (p1 : Int32) {r_ : Int32} {n_t_refusals : Nat → Int32} (hf : fX7_personOf v_t_now_people v_t_now_kind v_t_now_a v_t_now_home v_t_now_aim v_t_now_at v_t_refusals p0 p1 = some (r_, n_t_refusals)) : Met l yX7_personOf wsX7_personOf ({ frames := 1, cells := 0, slots := 0, locals := 22 }) (va_Pc [.ref q_t, .int p0, .int p1] (fun U => U.heap.size = sz ∧ va_P D vwCl [(q_t, oX7 q_t_now q_t_future q_t_draft q_t_kept v_t_isKept q_t_shelves q_t_tape q_t_reader q_t_hiddenWay q_t_sights q_t_choice q_t_refusals), (q_t_now, oX5 v_t_now_places q_t_now_ways q_t_now_distances v_t_now_people q_t_now_kind q_t_now_a q_t_now_home q_t_now_aim q_t_now_at v_t_now_hour v_t_now_chance v_t_now_seed), (q_t_now_kind, .inl (cy 0, 8, .inl v_t_now_kind)), (q_t_now_a, .inl (cy 0, 8, .inl v_t_now_a)), (q_t_now_home, .inl (cy 0, 8, .inl v_t_now_home)), (q_t_now_aim, .inl (cy 0, 8, .inl v_t_now_aim)), (q_t_now_at, .inl (cy 0, 8, .inl v_t_now_at)), (q_t_refusals, .inl (cy 0, 5, .inl v_t_refusals))] U.heap ∧ xK D cy U ∧ va_D (fun _ => True) [(q_t, oX7 q_t_now q_t_future q_t_draft q_t_kept v_t_isKept q_t_shelves q_t_tape q_t_reader q_t_hiddenWay q_t_sights q_t_choice q_t_refusals), (q_t_now, oX5 v_t_now_places q_t_now_ways q_t_now_distances v_t_now_people q_t_now_kind q_t_now_a q_t_now_home q_t_now_aim q_t_now_at v_t_now_hour v_t_now_chance v_t_now_seed), (q_t_now_kind, .inl (cy 0, 8, .inl v_t_now_kind)), (q_t_now_a, .inl (cy 0, 8, .inl v_t_now_a)), (q_t_now_home, .inl (cy 0, 8, .inl v_t_now_home)), (q_t_now_aim, .inl (cy 0, 8, .inl v_t_now_aim)), (q_t_now_at, .inl (cy 0, 8, .inl v_t_now_at)), (q_t_refusals, .inl (cy 0, 5, .inl v_t_refusals))])) (va_Qi (fun (x : Int32) (_ : Unit) => x = r_) (fun _ t => va_P D vwCl [(q_t, oX7 q_t_now q_t_future q_t_draft q_t_kept v_t_isKept q_t_shelves q_t_tape q_t_reader q_t_hiddenWay q_t_sights q_t_choice q_t_refusals), (q_t_now, oX5 v_t_now_places q_t_now_ways q_t_now_distances v_t_now_people q_t_now_kind q_t_now_a q_t_now_home q_t_now_aim q_t_now_at v_t_now_hour v_t_now_chance v_t_now_seed), (q_t_now_kind, .inl (cy 0, 8, .inl v_t_now_kind)), (q_t_now_a, .inl (cy 0, 8, .inl v_t_now_a)), (q_t_now_home, .inl (cy 0, 8, .inl v_t_now_home)), (q_t_now_aim, .inl (cy 0, 8, .inl v_t_now_aim)), (q_t_now_at, .inl (cy 0, 8, .inl v_t_now_at)), (q_t_refusals, .inl (cy 0, 5, .inl n_t_refusals))] t.heap) (va_A [(q_t, oX7 q_t_now q_t_future q_t_draft q_t_kept v_t_isKept q_t_shelves q_t_tape q_t_reader q_t_hiddenWay q_t_sights q_t_choice q_t_refusals), (q_t_now, oX5 v_t_now_places q_t_now_ways q_t_now_distances v_t_now_people q_t_now_kind q_t_now_a q_t_now_home q_t_now_aim q_t_now_at v_t_now_hour v_t_now_chance v_t_now_seed), (q_t_now_kind, .inl (cy 0, 8, .inl v_t_now_kind)), (q_t_now_a, .inl (cy 0, 8, .inl v_t_now_a)), (q_t_now_home, .inl (cy 0, 8, .inl v_t_now_home)), (q_t_now_aim, .inl (cy 0, 8, .inl v_t_now_aim)), (q_t_now_at, .inl (cy 0, 8, .inl v_t_now_at)), (q_t_refusals, .inl (cy 0, 5, .inl v_t_refusals))] sz)) 0 0 (va_A [(q_t, oX7 q_t_now q_t_future q_t_draft q_t_kept v_t_isKept q_t_shelves q_t_tape q_t_reader q_t_hiddenWay q_t_sights q_t_choice q_t_refusals), (q_t_now, oX5 v_t_now_places q_t_now_ways q_t_now_distances v_t_now_people q_t_now_kind q_t_now_a q_t_now_home q_t_now_aim q_t_now_at v_t_now_hour v_t_now_chance v_t_now_seed), (q_t_now_kind, .inl (cy 0, 8, .inl v_t_now_kind)), (q_t_now_a, .inl (cy 0, 8, .inl v_t_now_a)), (q_t_now_home, .inl (cy 0, 8, .inl v_t_now_home)), (q_t_now_aim, .inl (cy 0, 8, .inl v_t_now_aim)), (q_t_now_at, .inl (cy 0, 8, .inl v_t_now_at)), (q_t_refusals, .inl (cy 0, 5, .inl v_t_refusals))] sz) := by
  refine Met.ofW (cc := cX7_personOf) (maxL := 3) (ret := (some .int)) (by decide) rfl ?_
  intro p e s m args below meth c s₁ B hml hv
  obtain ⟨rfl, hsz, hP, hK, hD0⟩ := hv
  have hx := B.exec
  have hb := B.bytes
  have hr := B.returns
  have hts := atoms_spec (ws := wsX7_personOf) B.pre
  have hown : s.vm.findClass RX7 = some m.cls := findClass_of_methodNamed B.named
  have hlocks := B.notSynchronized
  subst hsz
  have hD := hD0.self (sz := s.heap.size)
  generalize hAe : va_A [(q_t, oX7 q_t_now q_t_future q_t_draft q_t_kept v_t_isKept q_t_shelves q_t_tape q_t_reader q_t_hiddenWay q_t_sights q_t_choice q_t_refusals), (q_t_now, oX5 v_t_now_places q_t_now_ways q_t_now_distances v_t_now_people q_t_now_kind q_t_now_a q_t_now_home q_t_now_aim q_t_now_at v_t_now_hour v_t_now_chance v_t_now_seed), (q_t_now_kind, .inl (cy 0, 8, .inl v_t_now_kind)), (q_t_now_a, .inl (cy 0, 8, .inl v_t_now_a)), (q_t_now_home, .inl (cy 0, 8, .inl v_t_now_home)), (q_t_now_aim, .inl (cy 0, 8, .inl v_t_now_aim)), (q_t_now_at, .inl (cy 0, 8, .inl v_t_now_at)), (q_t_refusals, .inl (cy 0, 5, .inl v_t_refusals))] s.heap.size = A at hD ⊢
  have hA : ∀ q : Nat, s.heap.size ≤ q → A q := fun q h => by rw [← hAe]; exact Or.inr h
  have hS : va_S A s.heap s.heap [] := va_S.rf
  have hP : va_P D vwCl [(q_t, oX7 q_t_now q_t_future q_t_draft q_t_kept v_t_isKept q_t_shelves q_t_tape q_t_reader q_t_hiddenWay q_t_sights q_t_choice q_t_refusals), (q_t_now, oX5 v_t_now_places q_t_now_ways q_t_now_distances v_t_now_people q_t_now_kind q_t_now_a q_t_now_home q_t_now_aim q_t_now_at v_t_now_hour v_t_now_chance v_t_now_seed), (q_t_now_kind, .inl (cy 0, 8, .inl v_t_now_kind)), (q_t_now_a, .inl (cy 0, 8, .inl v_t_now_a)), (q_t_now_home, .inl (cy 0, 8, .inl v_t_now_home)), (q_t_now_aim, .inl (cy 0, 8, .inl v_t_now_aim)), (q_t_now_at, .inl (cy 0, 8, .inl v_t_now_at)), (q_t_refusals, .inl (cy 0, 5, .inl v_t_refusals))] s.heap := hP
  have hinX7 : ∀ w ∈ u_ws RX7 TX7 12, w ∈ wsX7_personOf := by decide +kernel
  have hk10 := hts (.fieldLink RX7 10 "ShowsWhereNobodyIs" "now" "LShowsWhereNobodyIs$Town;") (by decide +kernel)
  have hinX5 : ∀ w ∈ u_ws RX5 TX5 12, w ∈ wsX7_personOf := by decide +kernel
  have hk149 := hts (.fieldLink RX7 149 "ShowsWhereNobodyIs$Town" "at" "[I") (by decide +kernel)
  have hk181 := hts (.fieldLink RX7 181 "ShowsWhereNobodyIs$Town" "aim" "[I") (by decide +kernel)
  have hk178 := hts (.fieldLink RX7 178 "ShowsWhereNobodyIs$Town" "home" "[I") (by decide +kernel)
  have hk143 := hts (.fieldLink RX7 143 "ShowsWhereNobodyIs$Town" "a" "[I") (by decide +kernel)
  have hk137 := hts (.fieldLink RX7 137 "ShowsWhereNobodyIs$Town" "kind" "[I") (by decide +kernel)
  have hl := lv_entry ([.ref q_t, .int p0, .int p1]) (n := 3) (Nat.le_of_ble_eq_true rfl)
  rw [lg_entry_eq]
  generalize (lg_sl ([.ref q_t, .int p0, .int p1]) ++ List.replicate (3 - (lg_sl ([.ref q_t, .int p0, .int p1])).length) Slot.unset).toArray = ls at hl ⊢
  have hl : lv_has ls 3 [(0, .ref q_t), (1, .int p0), (2, .int p1)] := hl
  unfold fX7_personOf at hf
  refine lv_aload_n hx hb dX7_personOf_0 rfl (lv_at hl 0 rfl) ?_
  refine lv_iload_n hx hb dX7_personOf_1 rfl (lv_at hl 1 rfl) ?_
  obtain ⟨r1, hr2, hf⟩ := boE1 hf
  have hPc := hP.sub (ws' := [(q_t, oX7 q_t_now q_t_future q_t_draft q_t_kept v_t_isKept q_t_shelves q_t_tape q_t_reader q_t_hiddenWay q_t_sights q_t_choice q_t_refusals), (q_t_now, oX5 v_t_now_places q_t_now_ways q_t_now_distances v_t_now_people q_t_now_kind q_t_now_a q_t_now_home q_t_now_aim q_t_now_at v_t_now_hour v_t_now_chance v_t_now_seed)]) [0, 1] rfl
  refine xcSi (va_runV (As := [.int p0]) (rest := []) ⟨hx, hb, hml, hown, hts⟩ (mX7_isPerson l D cy q_t q_t_now q_t_future q_t_draft q_t_kept q_t_shelves q_t_tape q_t_reader q_t_hiddenWay q_t_sights q_t_choice q_t_refusals q_t_now_ways q_t_now_distances q_t_now_kind q_t_now_a q_t_now_home q_t_now_aim q_t_now_at v_t_isKept v_t_now_places v_t_now_people v_t_now_hour v_t_now_chance v_t_now_seed  p0 hr2) (cwV 1 hts gX7_personOf_X7_isPerson rfl rfl rfl (by decide +kernel) ⟨Nat.le_of_ble_eq_true rfl, Nat.le_of_ble_eq_true rfl⟩) (xPV hK hPc (ci := 7) (q0 := 0) rfl rfl) rfl rfl hl.1 rfl (lv_room (Nat.le_of_ble_eq_true rfl)) dX7_personOf_2 ⟨Nat.le_of_ble_eq_true rfl, Nat.le_of_ble_eq_true rfl⟩) ?_
  refine lv_if_ne (tgt := 15) hx hb dX7_personOf_5 (by decide) (fun c23 => ?_) (fun c23 => ?_)
  · have hf := ifF hf c23
    clear c23
    refine lv_iload_n hx hb dX7_personOf_15 rfl (lv_at hl 2 rfl) ?_
    by_cases c6 : p1 = (0 : Int32)
    · have hf := ifT hf c6
      refine lv_tableIn (tgt := 56) hx hb dX7_personOf_16 (by rw [c6]; decide) (by rw [c6]; decide) (by rw [c6]; rfl) (by decide) ?_
      refine lv_aload_n hx hb dX7_personOf_56 rfl (lv_at hl 0 rfl) ?_
      refine va_get (D := D) (ci := 7) (v := .ref q_t_now) (C := RX7) (T := TX7) (N := 12) hx hb hts hinX7 hown hK.1 hP 0 rfl rfl 0 (by decide) hk10 (fun _ h9 => h9) rfl dX7_personOf_57 ?_
      refine va_get (D := D) (ci := 5) (v := .ref q_t_now_kind) (C := RX5) (T := TX5) (N := 12) hx hb hts hinX5 hown hK.1 hP 1 rfl rfl 4 (by decide) hk137 (fun _ h9 => h9) rfl dX7_personOf_60 ?_
      refine lv_iload_n hx hb dX7_personOf_63 rfl (lv_at hl 1 rfl) ?_
      obtain ⟨hi19, hf⟩ := ckE hf
      refine va_iald hx hb hK.1 hP 2 0 rfl rfl hi19 dX7_personOf_64 ?_
      cases hf
      exact W.iret hx hb hr (fun t ht hW => ⟨⟨_, (), rfl, rfl, xend ht hP⟩, hS.F ht⟩) hS.2.2 dX7_personOf_65
    · have hf := ifF hf c6
      by_cases c7 : p1 = (1 : Int32)
      · have hf := ifT hf c7
        refine lv_tableIn (tgt := 66) hx hb dX7_personOf_16 (by rw [c7]; decide) (by rw [c7]; decide) (by rw [c7]; rfl) (by decide) ?_
        refine lv_aload_n hx hb dX7_personOf_66 rfl (lv_at hl 0 rfl) ?_
        refine va_get (D := D) (ci := 7) (v := .ref q_t_now) (C := RX7) (T := TX7) (N := 12) hx hb hts hinX7 hown hK.1 hP 0 rfl rfl 0 (by decide) hk10 (fun _ h9 => h9) rfl dX7_personOf_67 ?_
        refine va_get (D := D) (ci := 5) (v := .ref q_t_now_a) (C := RX5) (T := TX5) (N := 12) hx hb hts hinX5 hown hK.1 hP 1 rfl rfl 5 (by decide) hk143 (fun _ h9 => h9) rfl dX7_personOf_70 ?_
        refine lv_iload_n hx hb dX7_personOf_73 rfl (lv_at hl 1 rfl) ?_
        obtain ⟨hi18, hf⟩ := ckE hf
        refine va_iald hx hb hK.1 hP 3 0 rfl rfl hi18 dX7_personOf_74 ?_
        cases hf
        exact W.iret hx hb hr (fun t ht hW => ⟨⟨_, (), rfl, rfl, xend ht hP⟩, hS.F ht⟩) hS.2.2 dX7_personOf_75
      · have hf := ifF hf c7
        by_cases c8 : p1 = (2 : Int32)
        · have hf := ifT hf c8
          refine lv_tableIn (tgt := 76) hx hb dX7_personOf_16 (by rw [c8]; decide) (by rw [c8]; decide) (by rw [c8]; rfl) (by decide) ?_
          refine lv_aload_n hx hb dX7_personOf_76 rfl (lv_at hl 0 rfl) ?_
          refine va_get (D := D) (ci := 7) (v := .ref q_t_now) (C := RX7) (T := TX7) (N := 12) hx hb hts hinX7 hown hK.1 hP 0 rfl rfl 0 (by decide) hk10 (fun _ h9 => h9) rfl dX7_personOf_77 ?_
          refine va_get (D := D) (ci := 5) (v := .ref q_t_now_home) (C := RX5) (T := TX5) (N := 12) hx hb hts hinX5 hown hK.1 hP 1 rfl rfl 6 (by decide) hk178 (fun _ h9 => h9) rfl dX7_personOf_80 ?_
          refine lv_iload_n hx hb dX7_personOf_83 rfl (lv_at hl 1 rfl) ?_
          obtain ⟨hi17, hf⟩ := ckE hf
          refine va_iald hx hb hK.1 hP 4 0 rfl rfl hi17 dX7_personOf_84 ?_
          cases hf
          exact W.iret hx hb hr (fun t ht hW => ⟨⟨_, (), rfl, rfl, xend ht hP⟩, hS.F ht⟩) hS.2.2 dX7_personOf_85
        · have hf := ifF hf c8
          by_cases c9 : p1 = (3 : Int32)
          · have hf := ifT hf c9
            refine lv_tableIn (tgt := 86) hx hb dX7_personOf_16 (by rw [c9]; decide) (by rw [c9]; decide) (by rw [c9]; rfl) (by decide) ?_
            refine lv_aload_n hx hb dX7_personOf_86 rfl (lv_at hl 0 rfl) ?_
            refine va_get (D := D) (ci := 7) (v := .ref q_t_now) (C := RX7) (T := TX7) (N := 12) hx hb hts hinX7 hown hK.1 hP 0 rfl rfl 0 (by decide) hk10 (fun _ h9 => h9) rfl dX7_personOf_87 ?_
            refine va_get (D := D) (ci := 5) (v := .ref q_t_now_aim) (C := RX5) (T := TX5) (N := 12) hx hb hts hinX5 hown hK.1 hP 1 rfl rfl 7 (by decide) hk181 (fun _ h9 => h9) rfl dX7_personOf_90 ?_
            refine lv_iload_n hx hb dX7_personOf_93 rfl (lv_at hl 1 rfl) ?_
            obtain ⟨hi16, hf⟩ := ckE hf
            refine va_iald hx hb hK.1 hP 5 0 rfl rfl hi16 dX7_personOf_94 ?_
            cases hf
            exact W.iret hx hb hr (fun t ht hW => ⟨⟨_, (), rfl, rfl, xend ht hP⟩, hS.F ht⟩) hS.2.2 dX7_personOf_95
          · have hf := ifF hf c9
            by_cases c10 : p1 = (4 : Int32)
            · have hf := ifT hf c10
              refine lv_tableIn (tgt := 96) hx hb dX7_personOf_16 (by rw [c10]; decide) (by rw [c10]; decide) (by rw [c10]; rfl) (by decide) ?_
              refine lv_aload_n hx hb dX7_personOf_96 rfl (lv_at hl 0 rfl) ?_
              refine va_get (D := D) (ci := 7) (v := .ref q_t_now) (C := RX7) (T := TX7) (N := 12) hx hb hts hinX7 hown hK.1 hP 0 rfl rfl 0 (by decide) hk10 (fun _ h9 => h9) rfl dX7_personOf_97 ?_
              refine va_get (D := D) (ci := 5) (v := .ref q_t_now_at) (C := RX5) (T := TX5) (N := 12) hx hb hts hinX5 hown hK.1 hP 1 rfl rfl 8 (by decide) hk149 (fun _ h9 => h9) rfl dX7_personOf_100 ?_
              refine lv_iload_n hx hb dX7_personOf_103 rfl (lv_at hl 1 rfl) ?_
              obtain ⟨hi15, hf⟩ := ckE hf
              refine va_iald hx hb hK.1 hP 6 0 rfl rfl hi15 dX7_personOf_104 ?_
              cases hf
              exact W.iret hx hb hr (fun t ht hW => ⟨⟨_, (), rfl, rfl, xend ht hP⟩, hS.F ht⟩) hS.2.2 dX7_personOf_105
            · have hf := ifF hf c10
              by_cases c11 : p1 = (5 : Int32)
              · have hf := ifT hf c11
                refine lv_tableIn (tgt := 106) hx hb dX7_personOf_16 (by rw [c11]; decide) (by rw [c11]; decide) (by rw [c11]; rfl) (by decide) ?_
                refine lv_aload_n hx hb dX7_personOf_106 rfl (lv_at hl 0 rfl) ?_
                refine va_get (D := D) (ci := 7) (v := .ref q_t_now) (C := RX7) (T := TX7) (N := 12) hx hb hts hinX7 hown hK.1 hP 0 rfl rfl 0 (by decide) hk10 (fun _ h9 => h9) rfl dX7_personOf_107 ?_
                refine lv_iload_n hx hb dX7_personOf_110 rfl (lv_at hl 1 rfl) ?_
                obtain ⟨r12, hr13, hf⟩ := boE1 hf
                have hPc := hP.sub (ws' := [(q_t_now, oX5 v_t_now_places q_t_now_ways q_t_now_distances v_t_now_people q_t_now_kind q_t_now_a q_t_now_home q_t_now_aim q_t_now_at v_t_now_hour v_t_now_chance v_t_now_seed), (q_t_now_kind, .inl (cy 0, 8, .inl v_t_now_kind))]) [1, 2] rfl
                refine xcSi (va_runV (As := [.int p0]) (rest := []) ⟨hx, hb, hml, hown, hts⟩ (mX5_darkens l D cy q_t_now q_t_now_ways q_t_now_distances q_t_now_kind q_t_now_a q_t_now_home q_t_now_aim q_t_now_at v_t_now_places v_t_now_people v_t_now_hour v_t_now_chance v_t_now_seed v_t_now_kind  p0 hr13) (cwV 1 hts gX7_personOf_X5_darkens rfl rfl rfl (by decide +kernel) ⟨Nat.le_of_ble_eq_true rfl, Nat.le_of_ble_eq_true rfl⟩) (xPV hK hPc (ci := 5) (q0 := 0) rfl rfl) rfl rfl hl.1 rfl (lv_room (Nat.le_of_ble_eq_true rfl)) dX7_personOf_111 ⟨Nat.le_of_ble_eq_true rfl, Nat.le_of_ble_eq_true rfl⟩) ?_
                refine lv_if_eq (tgt := 121) hx hb dX7_personOf_114 (by decide) (fun c14 => ?_) (fun c14 => ?_)
                · have hf := ifT hf c14
                  clear c14
                  refine lv_iconst (v := 0) hx hb dX7_personOf_121 (by decide) ?_
                  cases hf
                  exact W.iret (v := (0 : Int32)) hx hb hr (fun t ht hW => ⟨⟨(0 : Int32), (), rfl, rfl, xend ht hP⟩, hS.F ht⟩) hS.2.2 dX7_personOf_122
                · have hf := ifF hf c14
                  clear c14
                  refine lv_iconst (v := 1) hx hb dX7_personOf_117 (by decide) ?_
                  refine lv_goto (tgt := 122) hx hb dX7_personOf_118 (by decide) ?_
                  cases hf
                  exact W.iret (v := (1 : Int32)) hx hb hr (fun t ht hW => ⟨⟨(1 : Int32), (), rfl, rfl, xend ht hP⟩, hS.F ht⟩) hS.2.2 dX7_personOf_122
              · have hf := ifF hf c11
                refine lv_tableOut (tgt := 123) hx hb dX7_personOf_16 (by have n0 := lv_neT c6 (a := 0) (by decide); have n1 := lv_neT c7 (a := 1) (by decide); have n2 := lv_neT c8 (a := 2) (by decide); have n3 := lv_neT c9 (a := 3) (by decide); have n4 := lv_neT c10 (a := 4) (by decide); have n5 := lv_neT c11 (a := 5) (by decide); omega) (by decide) ?_
                refine lv_aload_n hx hb dX7_personOf_123 rfl (lv_at hl 0 rfl) ?_
                refine lv_bipush (v := (-2)) hx hb dX7_personOf_124 (by decide) ?_
                obtain ⟨r3, u4, hr5, hf⟩ := boE2 hf
                have hPc := hP.sub (ws' := [(q_t, oX7 q_t_now q_t_future q_t_draft q_t_kept v_t_isKept q_t_shelves q_t_tape q_t_reader q_t_hiddenWay q_t_sights q_t_choice q_t_refusals), (q_t_refusals, .inl (cy 0, 5, .inl v_t_refusals))]) [0, 7] rfl
                have hDc := hD.sub (ws' := [(q_t, oX7 q_t_now q_t_future q_t_draft q_t_kept v_t_isKept q_t_shelves q_t_tape q_t_reader q_t_hiddenWay q_t_sights q_t_choice q_t_refusals), (q_t_refusals, .inl (cy 0, 5, .inl v_t_refusals))]) [0, 7] (by decide) rfl
                refine xcQi (w1 := [(q_t, oX7 q_t_now q_t_future q_t_draft q_t_kept v_t_isKept q_t_shelves q_t_tape q_t_reader q_t_hiddenWay q_t_sights q_t_choice q_t_refusals), (q_t_refusals, .inl (cy 0, 5, .inl u4))]) (va_runV (As := [.int (-2 : Int32)]) (rest := []) ⟨hx, hb, hml, hown, hts⟩ (mX7_refuse l D cy q_t q_t_now q_t_future q_t_draft q_t_kept q_t_shelves q_t_tape q_t_reader q_t_hiddenWay q_t_sights q_t_choice q_t_refusals v_t_isKept v_t_refusals _ (-2 : Int32) hr5) (cwV 1 hts gX7_personOf_X7_refuse rfl rfl rfl (by decide +kernel) ⟨Nat.le_of_ble_eq_true rfl, Nat.le_of_ble_eq_true rfl⟩) (xPVw hK hPc hDc (ci := 7) (q0 := 0) rfl rfl) rfl rfl hl.1 rfl (lv_room (Nat.le_of_ble_eq_true rfl)) dX7_personOf_126 ⟨Nat.le_of_ble_eq_true rfl, Nat.le_of_ble_eq_true rfl⟩) hP hD hS hA [0, 7] rfl rfl (fun H locs hP hD hS => ?_)
                have hP : va_P D vwCl [(q_t, oX7 q_t_now q_t_future q_t_draft q_t_kept v_t_isKept q_t_shelves q_t_tape q_t_reader q_t_hiddenWay q_t_sights q_t_choice q_t_refusals), (q_t_now, oX5 v_t_now_places q_t_now_ways q_t_now_distances v_t_now_people q_t_now_kind q_t_now_a q_t_now_home q_t_now_aim q_t_now_at v_t_now_hour v_t_now_chance v_t_now_seed), (q_t_now_kind, .inl (cy 0, 8, .inl v_t_now_kind)), (q_t_now_a, .inl (cy 0, 8, .inl v_t_now_a)), (q_t_now_home, .inl (cy 0, 8, .inl v_t_now_home)), (q_t_now_aim, .inl (cy 0, 8, .inl v_t_now_aim)), (q_t_now_at, .inl (cy 0, 8, .inl v_t_now_at)), (q_t_refusals, .inl (cy 0, 5, .inl u4))] H := hP
                have hD : va_D A [(q_t, oX7 q_t_now q_t_future q_t_draft q_t_kept v_t_isKept q_t_shelves q_t_tape q_t_reader q_t_hiddenWay q_t_sights q_t_choice q_t_refusals), (q_t_now, oX5 v_t_now_places q_t_now_ways q_t_now_distances v_t_now_people q_t_now_kind q_t_now_a q_t_now_home q_t_now_aim q_t_now_at v_t_now_hour v_t_now_chance v_t_now_seed), (q_t_now_kind, .inl (cy 0, 8, .inl v_t_now_kind)), (q_t_now_a, .inl (cy 0, 8, .inl v_t_now_a)), (q_t_now_home, .inl (cy 0, 8, .inl v_t_now_home)), (q_t_now_aim, .inl (cy 0, 8, .inl v_t_now_aim)), (q_t_now_at, .inl (cy 0, 8, .inl v_t_now_at)), (q_t_refusals, .inl (cy 0, 5, .inl u4))] := hD
                cases hf
                exact W.iret hx hb hr (fun t ht hW => ⟨⟨_, (), rfl, rfl, xend ht hP⟩, hS.F ht⟩) hS.2.2 dX7_personOf_129
  · have hf := ifT hf c23
    clear c23
    refine lv_aload_n hx hb dX7_personOf_8 rfl (lv_at hl 0 rfl) ?_
    refine lv_bipush (v := (-2)) hx hb dX7_personOf_9 (by decide) ?_
    obtain ⟨r20, u21, hr22, hf⟩ := boE2 hf
    have hPc := hP.sub (ws' := [(q_t, oX7 q_t_now q_t_future q_t_draft q_t_kept v_t_isKept q_t_shelves q_t_tape q_t_reader q_t_hiddenWay q_t_sights q_t_choice q_t_refusals), (q_t_refusals, .inl (cy 0, 5, .inl v_t_refusals))]) [0, 7] rfl
    have hDc := hD.sub (ws' := [(q_t, oX7 q_t_now q_t_future q_t_draft q_t_kept v_t_isKept q_t_shelves q_t_tape q_t_reader q_t_hiddenWay q_t_sights q_t_choice q_t_refusals), (q_t_refusals, .inl (cy 0, 5, .inl v_t_refusals))]) [0, 7] (by decide) rfl
    refine xcQi (w1 := [(q_t, oX7 q_t_now q_t_future q_t_draft q_t_kept v_t_isKept q_t_shelves q_t_tape q_t_reader q_t_hiddenWay q_t_sights q_t_choice q_t_refusals), (q_t_refusals, .inl (cy 0, 5, .inl u21))]) (va_runV (As := [.int (-2 : Int32)]) (rest := []) ⟨hx, hb, hml, hown, hts⟩ (mX7_refuse l D cy q_t q_t_now q_t_future q_t_draft q_t_kept q_t_shelves q_t_tape q_t_reader q_t_hiddenWay q_t_sights q_t_choice q_t_refusals v_t_isKept v_t_refusals _ (-2 : Int32) hr22) (cwV 1 hts gX7_personOf_X7_refuse rfl rfl rfl (by decide +kernel) ⟨Nat.le_of_ble_eq_true rfl, Nat.le_of_ble_eq_true rfl⟩) (xPVw hK hPc hDc (ci := 7) (q0 := 0) rfl rfl) rfl rfl hl.1 rfl (lv_room (Nat.le_of_ble_eq_true rfl)) dX7_personOf_11 ⟨Nat.le_of_ble_eq_true rfl, Nat.le_of_ble_eq_true rfl⟩) hP hD hS hA [0, 7] rfl rfl (fun H locs hP hD hS => ?_)
    have hP : va_P D vwCl [(q_t, oX7 q_t_now q_t_future q_t_draft q_t_kept v_t_isKept q_t_shelves q_t_tape q_t_reader q_t_hiddenWay q_t_sights q_t_choice q_t_refusals), (q_t_now, oX5 v_t_now_places q_t_now_ways q_t_now_distances v_t_now_people q_t_now_kind q_t_now_a q_t_now_home q_t_now_aim q_t_now_at v_t_now_hour v_t_now_chance v_t_now_seed), (q_t_now_kind, .inl (cy 0, 8, .inl v_t_now_kind)), (q_t_now_a, .inl (cy 0, 8, .inl v_t_now_a)), (q_t_now_home, .inl (cy 0, 8, .inl v_t_now_home)), (q_t_now_aim, .inl (cy 0, 8, .inl v_t_now_aim)), (q_t_now_at, .inl (cy 0, 8, .inl v_t_now_at)), (q_t_refusals, .inl (cy 0, 5, .inl u21))] H := hP
    have hD : va_D A [(q_t, oX7 q_t_now q_t_future q_t_draft q_t_kept v_t_isKept q_t_shelves q_t_tape q_t_reader q_t_hiddenWay q_t_sights q_t_choice q_t_refusals), (q_t_now, oX5 v_t_now_places q_t_now_ways q_t_now_distances v_t_now_people q_t_now_kind q_t_now_a q_t_now_home q_t_now_aim q_t_now_at v_t_now_hour v_t_now_chance v_t_now_seed), (q_t_now_kind, .inl (cy 0, 8, .inl v_t_now_kind)), (q_t_now_a, .inl (cy 0, 8, .inl v_t_now_a)), (q_t_now_home, .inl (cy 0, 8, .inl v_t_now_home)), (q_t_now_aim, .inl (cy 0, 8, .inl v_t_now_aim)), (q_t_now_at, .inl (cy 0, 8, .inl v_t_now_at)), (q_t_refusals, .inl (cy 0, 5, .inl u21))] := hD
    cases hf
    exact W.iret hx hb hr (fun t ht hW => ⟨⟨_, (), rfl, rfl, xend ht hP⟩, hS.F ht⟩) hS.2.2 dX7_personOf_14
def fX7_isWay (v_t_now_places : Int32) (v_t_now_ways : Nat → Int32) (v_t_refusals : Nat → Int32) (p0 : Int32) (p1 : Int32) : Option (Int32 × (Nat → Int32)) :=
  bo1 (fX7_areTwoPlaces v_t_now_places p0 p1) fun r1 =>
  if r1 = 0 then
    bo2 (fX7_refuse v_t_refusals (-2 : Int32)) fun r6 u7 =>
    some (r6, u7)
  else
    bo1 (fX5_hasWay v_t_now_ways p0 p1) fun r3 =>
    if r3 = 0 then
      some ((0 : Int32), v_t_refusals)
    else
      some ((1 : Int32), v_t_refusals)
set_option maxHeartbeats 4000000 in
set_option maxRecDepth 100000 in
theorem mX7_isWay (l : Launch) (D : va_G) (cy : Nat → ClassId) (q_t q_t_now q_t_future q_t_draft q_t_kept q_t_shelves q_t_tape q_t_reader q_t_hiddenWay q_t_sights q_t_choice q_t_refusals q_t_now_ways q_t_now_distances q_t_now_kind q_t_now_a q_t_now_home q_t_now_aim q_t_now_at : Nat) (v_t_isKept : Int32) (v_t_now_places : Int32) (v_t_now_people : Int32) (v_t_now_hour : Int32) (v_t_now_chance : Int32) (v_t_now_seed : Int32) (v_t_now_ways : Nat → Int32) (v_t_refusals : Nat → Int32) (sz : Nat) (p0 : Int32) (p1 : Int32) {r_ : Int32} {n_t_refusals : Nat → Int32} (hf : fX7_isWay v_t_now_places v_t_now_ways v_t_refusals p0 p1 = some (r_, n_t_refusals)) : Met l yX7_isWay wsX7_isWay ({ frames := 2, cells := 0, slots := 0, locals := 43 }) (va_Pc [.ref q_t, .int p0, .int p1] (fun U => U.heap.size = sz ∧ va_P D vwCl [(q_t, oX7 q_t_now q_t_future q_t_draft q_t_kept v_t_isKept q_t_shelves q_t_tape q_t_reader q_t_hiddenWay q_t_sights q_t_choice q_t_refusals), (q_t_now, oX5 v_t_now_places q_t_now_ways q_t_now_distances v_t_now_people q_t_now_kind q_t_now_a q_t_now_home q_t_now_aim q_t_now_at v_t_now_hour v_t_now_chance v_t_now_seed), (q_t_now_ways, .inl (cy 0, 12, .inl v_t_now_ways)), (q_t_refusals, .inl (cy 0, 5, .inl v_t_refusals))] U.heap ∧ xK D cy U ∧ va_D (fun _ => True) [(q_t, oX7 q_t_now q_t_future q_t_draft q_t_kept v_t_isKept q_t_shelves q_t_tape q_t_reader q_t_hiddenWay q_t_sights q_t_choice q_t_refusals), (q_t_now, oX5 v_t_now_places q_t_now_ways q_t_now_distances v_t_now_people q_t_now_kind q_t_now_a q_t_now_home q_t_now_aim q_t_now_at v_t_now_hour v_t_now_chance v_t_now_seed), (q_t_now_ways, .inl (cy 0, 12, .inl v_t_now_ways)), (q_t_refusals, .inl (cy 0, 5, .inl v_t_refusals))])) (va_Qi (fun (x : Int32) (_ : Unit) => x = r_) (fun _ t => va_P D vwCl [(q_t, oX7 q_t_now q_t_future q_t_draft q_t_kept v_t_isKept q_t_shelves q_t_tape q_t_reader q_t_hiddenWay q_t_sights q_t_choice q_t_refusals), (q_t_now, oX5 v_t_now_places q_t_now_ways q_t_now_distances v_t_now_people q_t_now_kind q_t_now_a q_t_now_home q_t_now_aim q_t_now_at v_t_now_hour v_t_now_chance v_t_now_seed), (q_t_now_ways, .inl (cy 0, 12, .inl v_t_now_ways)), (q_t_refusals, .inl (cy 0, 5, .inl n_t_refusals))] t.heap) (va_A [(q_t, oX7 q_t_now q_t_future q_t_draft q_t_kept v_t_isKept q_t_shelves q_t_tape q_t_reader q_t_hiddenWay q_t_sights q_t_choice q_t_refusals), (q_t_now, oX5 v_t_now_places q_t_now_ways q_t_now_distances v_t_now_people q_t_now_kind q_t_now_a q_t_now_home q_t_now_aim q_t_now_at v_t_now_hour v_t_now_chance v_t_now_seed), (q_t_now_ways, .inl (cy 0, 12, .inl v_t_now_ways)), (q_t_refusals, .inl (cy 0, 5, .inl v_t_refusals))] sz)) 0 0 (va_A [(q_t, oX7 q_t_now q_t_future q_t_draft q_t_kept v_t_isKept q_t_shelves q_t_tape q_t_reader q_t_hiddenWay q_t_sights q_t_choice q_t_refusals), (q_t_now, oX5 v_t_now_places q_t_now_ways q_t_now_distances v_t_now_people q_t_now_kind q_t_now_a q_t_now_home q_t_now_aim q_t_now_at v_t_now_hour v_t_now_chance v_t_now_seed), (q_t_now_ways, .inl (cy 0, 12, .inl v_t_now_ways)), (q_t_refusals, .inl (cy 0, 5, .inl v_t_refusals))] sz) := by
  refine Met.ofW (cc := cX7_isWay) (maxL := 3) (ret := (some .int)) (by decide) rfl ?_
  intro p e s m args below meth c s₁ B hml hv
  obtain ⟨rfl, hsz, hP, hK, hD0⟩ := hv
  have hx := B.exec
  have hb := B.bytes
  have hr := B.returns
  have hts := atoms_spec (ws := wsX7_isWay) B.pre
  have hown : s.vm.findClass RX7 = some m.cls := findClass_of_methodNamed B.named
  have hlocks := B.notSynchronized
  subst hsz
  have hD := hD0.self (sz := s.heap.size)
  generalize hAe : va_A [(q_t, oX7 q_t_now q_t_future q_t_draft q_t_kept v_t_isKept q_t_shelves q_t_tape q_t_reader q_t_hiddenWay q_t_sights q_t_choice q_t_refusals), (q_t_now, oX5 v_t_now_places q_t_now_ways q_t_now_distances v_t_now_people q_t_now_kind q_t_now_a q_t_now_home q_t_now_aim q_t_now_at v_t_now_hour v_t_now_chance v_t_now_seed), (q_t_now_ways, .inl (cy 0, 12, .inl v_t_now_ways)), (q_t_refusals, .inl (cy 0, 5, .inl v_t_refusals))] s.heap.size = A at hD ⊢
  have hA : ∀ q : Nat, s.heap.size ≤ q → A q := fun q h => by rw [← hAe]; exact Or.inr h
  have hS : va_S A s.heap s.heap [] := va_S.rf
  have hP : va_P D vwCl [(q_t, oX7 q_t_now q_t_future q_t_draft q_t_kept v_t_isKept q_t_shelves q_t_tape q_t_reader q_t_hiddenWay q_t_sights q_t_choice q_t_refusals), (q_t_now, oX5 v_t_now_places q_t_now_ways q_t_now_distances v_t_now_people q_t_now_kind q_t_now_a q_t_now_home q_t_now_aim q_t_now_at v_t_now_hour v_t_now_chance v_t_now_seed), (q_t_now_ways, .inl (cy 0, 12, .inl v_t_now_ways)), (q_t_refusals, .inl (cy 0, 5, .inl v_t_refusals))] s.heap := hP
  have hinX7 : ∀ w ∈ u_ws RX7 TX7 12, w ∈ wsX7_isWay := by decide +kernel
  have hk10 := hts (.fieldLink RX7 10 "ShowsWhereNobodyIs" "now" "LShowsWhereNobodyIs$Town;") (by decide +kernel)
  have hl := lv_entry ([.ref q_t, .int p0, .int p1]) (n := 3) (Nat.le_of_ble_eq_true rfl)
  rw [lg_entry_eq]
  generalize (lg_sl ([.ref q_t, .int p0, .int p1]) ++ List.replicate (3 - (lg_sl ([.ref q_t, .int p0, .int p1])).length) Slot.unset).toArray = ls at hl ⊢
  have hl : lv_has ls 3 [(0, .ref q_t), (1, .int p0), (2, .int p1)] := hl
  unfold fX7_isWay at hf
  refine lv_aload_n hx hb dX7_isWay_0 rfl (lv_at hl 0 rfl) ?_
  refine lv_iload_n hx hb dX7_isWay_1 rfl (lv_at hl 1 rfl) ?_
  refine lv_iload_n hx hb dX7_isWay_2 rfl (lv_at hl 2 rfl) ?_
  obtain ⟨r1, hr2, hf⟩ := boE1 hf
  have hPc := hP.sub (ws' := [(q_t, oX7 q_t_now q_t_future q_t_draft q_t_kept v_t_isKept q_t_shelves q_t_tape q_t_reader q_t_hiddenWay q_t_sights q_t_choice q_t_refusals), (q_t_now, oX5 v_t_now_places q_t_now_ways q_t_now_distances v_t_now_people q_t_now_kind q_t_now_a q_t_now_home q_t_now_aim q_t_now_at v_t_now_hour v_t_now_chance v_t_now_seed)]) [0, 1] rfl
  refine xcSi (va_runV (As := [.int p0, .int p1]) (rest := []) ⟨hx, hb, hml, hown, hts⟩ (mX7_areTwoPlaces l D cy q_t q_t_now q_t_future q_t_draft q_t_kept q_t_shelves q_t_tape q_t_reader q_t_hiddenWay q_t_sights q_t_choice q_t_refusals q_t_now_ways q_t_now_distances q_t_now_kind q_t_now_a q_t_now_home q_t_now_aim q_t_now_at v_t_isKept v_t_now_places v_t_now_people v_t_now_hour v_t_now_chance v_t_now_seed  p0 p1 hr2) (cwV 2 hts gX7_isWay_X7_areTwoPlaces rfl rfl rfl (by decide +kernel) ⟨Nat.le_of_ble_eq_true rfl, Nat.le_of_ble_eq_true rfl⟩) (xPV hK hPc (ci := 7) (q0 := 0) rfl rfl) rfl rfl hl.1 rfl (lv_room (Nat.le_of_ble_eq_true rfl)) dX7_isWay_3 ⟨Nat.le_of_ble_eq_true rfl, Nat.le_of_ble_eq_true rfl⟩) ?_
  refine lv_if_ne (tgt := 16) hx hb dX7_isWay_6 (by decide) (fun c9 => ?_) (fun c9 => ?_)
  · have hf := ifF hf c9
    clear c9
    refine lv_aload_n hx hb dX7_isWay_16 rfl (lv_at hl 0 rfl) ?_
    refine va_get (D := D) (ci := 7) (v := .ref q_t_now) (C := RX7) (T := TX7) (N := 12) hx hb hts hinX7 hown hK.1 hP 0 rfl rfl 0 (by decide) hk10 (fun _ h9 => h9) rfl dX7_isWay_17 ?_
    refine lv_iload_n hx hb dX7_isWay_20 rfl (lv_at hl 1 rfl) ?_
    refine lv_iload_n hx hb dX7_isWay_21 rfl (lv_at hl 2 rfl) ?_
    obtain ⟨r3, hr4, hf⟩ := boE1 hf
    have hPc := hP.sub (ws' := [(q_t_now, oX5 v_t_now_places q_t_now_ways q_t_now_distances v_t_now_people q_t_now_kind q_t_now_a q_t_now_home q_t_now_aim q_t_now_at v_t_now_hour v_t_now_chance v_t_now_seed), (q_t_now_ways, .inl (cy 0, 12, .inl v_t_now_ways))]) [1, 2] rfl
    refine xcSi (va_runV (As := [.int p0, .int p1]) (rest := []) ⟨hx, hb, hml, hown, hts⟩ (mX5_hasWay l D cy q_t_now q_t_now_ways q_t_now_distances q_t_now_kind q_t_now_a q_t_now_home q_t_now_aim q_t_now_at v_t_now_places v_t_now_people v_t_now_hour v_t_now_chance v_t_now_seed v_t_now_ways  p0 p1 hr4) (cwV 2 hts gX7_isWay_X5_hasWay rfl rfl rfl (by decide +kernel) ⟨Nat.le_of_ble_eq_true rfl, Nat.le_of_ble_eq_true rfl⟩) (xPV hK hPc (ci := 5) (q0 := 0) rfl rfl) rfl rfl hl.1 rfl (lv_room (Nat.le_of_ble_eq_true rfl)) dX7_isWay_22 ⟨Nat.le_of_ble_eq_true rfl, Nat.le_of_ble_eq_true rfl⟩) ?_
    refine lv_if_eq (tgt := 32) hx hb dX7_isWay_25 (by decide) (fun c5 => ?_) (fun c5 => ?_)
    · have hf := ifT hf c5
      clear c5
      refine lv_iconst (v := 0) hx hb dX7_isWay_32 (by decide) ?_
      cases hf
      exact W.iret (v := (0 : Int32)) hx hb hr (fun t ht hW => ⟨⟨(0 : Int32), (), rfl, rfl, xend ht hP⟩, hS.F ht⟩) hS.2.2 dX7_isWay_33
    · have hf := ifF hf c5
      clear c5
      refine lv_iconst (v := 1) hx hb dX7_isWay_28 (by decide) ?_
      refine lv_goto (tgt := 33) hx hb dX7_isWay_29 (by decide) ?_
      cases hf
      exact W.iret (v := (1 : Int32)) hx hb hr (fun t ht hW => ⟨⟨(1 : Int32), (), rfl, rfl, xend ht hP⟩, hS.F ht⟩) hS.2.2 dX7_isWay_33
  · have hf := ifT hf c9
    clear c9
    refine lv_aload_n hx hb dX7_isWay_9 rfl (lv_at hl 0 rfl) ?_
    refine lv_bipush (v := (-2)) hx hb dX7_isWay_10 (by decide) ?_
    obtain ⟨r6, u7, hr8, hf⟩ := boE2 hf
    have hPc := hP.sub (ws' := [(q_t, oX7 q_t_now q_t_future q_t_draft q_t_kept v_t_isKept q_t_shelves q_t_tape q_t_reader q_t_hiddenWay q_t_sights q_t_choice q_t_refusals), (q_t_refusals, .inl (cy 0, 5, .inl v_t_refusals))]) [0, 3] rfl
    have hDc := hD.sub (ws' := [(q_t, oX7 q_t_now q_t_future q_t_draft q_t_kept v_t_isKept q_t_shelves q_t_tape q_t_reader q_t_hiddenWay q_t_sights q_t_choice q_t_refusals), (q_t_refusals, .inl (cy 0, 5, .inl v_t_refusals))]) [0, 3] (by decide) rfl
    refine xcQi (w1 := [(q_t, oX7 q_t_now q_t_future q_t_draft q_t_kept v_t_isKept q_t_shelves q_t_tape q_t_reader q_t_hiddenWay q_t_sights q_t_choice q_t_refusals), (q_t_refusals, .inl (cy 0, 5, .inl u7))]) (va_runV (As := [.int (-2 : Int32)]) (rest := []) ⟨hx, hb, hml, hown, hts⟩ (mX7_refuse l D cy q_t q_t_now q_t_future q_t_draft q_t_kept q_t_shelves q_t_tape q_t_reader q_t_hiddenWay q_t_sights q_t_choice q_t_refusals v_t_isKept v_t_refusals _ (-2 : Int32) hr8) (cwV 1 hts gX7_isWay_X7_refuse rfl rfl rfl (by decide +kernel) ⟨Nat.le_of_ble_eq_true rfl, Nat.le_of_ble_eq_true rfl⟩) (xPVw hK hPc hDc (ci := 7) (q0 := 0) rfl rfl) rfl rfl hl.1 rfl (lv_room (Nat.le_of_ble_eq_true rfl)) dX7_isWay_12 ⟨Nat.le_of_ble_eq_true rfl, Nat.le_of_ble_eq_true rfl⟩) hP hD hS hA [0, 3] rfl rfl (fun H locs hP hD hS => ?_)
    have hP : va_P D vwCl [(q_t, oX7 q_t_now q_t_future q_t_draft q_t_kept v_t_isKept q_t_shelves q_t_tape q_t_reader q_t_hiddenWay q_t_sights q_t_choice q_t_refusals), (q_t_now, oX5 v_t_now_places q_t_now_ways q_t_now_distances v_t_now_people q_t_now_kind q_t_now_a q_t_now_home q_t_now_aim q_t_now_at v_t_now_hour v_t_now_chance v_t_now_seed), (q_t_now_ways, .inl (cy 0, 12, .inl v_t_now_ways)), (q_t_refusals, .inl (cy 0, 5, .inl u7))] H := hP
    have hD : va_D A [(q_t, oX7 q_t_now q_t_future q_t_draft q_t_kept v_t_isKept q_t_shelves q_t_tape q_t_reader q_t_hiddenWay q_t_sights q_t_choice q_t_refusals), (q_t_now, oX5 v_t_now_places q_t_now_ways q_t_now_distances v_t_now_people q_t_now_kind q_t_now_a q_t_now_home q_t_now_aim q_t_now_at v_t_now_hour v_t_now_chance v_t_now_seed), (q_t_now_ways, .inl (cy 0, 12, .inl v_t_now_ways)), (q_t_refusals, .inl (cy 0, 5, .inl u7))] := hD
    cases hf
    exact W.iret hx hb hr (fun t ht hW => ⟨⟨_, (), rfl, rfl, xend ht hP⟩, hS.F ht⟩) hS.2.2 dX7_isWay_15
def fX7_far (v_t_now_places : Int32) (v_t_now_distances : Nat → Int32) (v_t_refusals : Nat → Int32) (p0 : Int32) (p1 : Int32) : Option (Int32 × (Nat → Int32)) :=
  bo1 (fX7_isPlace v_t_now_places p0) fun r1 =>
  jo0 (
    bo2 (fX7_refuse v_t_refusals (-2 : Int32)) fun r4 u5 =>
    some (r4, u5)) fun k3 =>
  if r1 = 0 then
    k3
  else
    bo1 (fX7_isPlace v_t_now_places p1) fun r7 =>
    if r7 = 0 then
      k3
    else
      bo1 (fX5_distance v_t_now_distances p0 p1) fun r9 =>
      some (r9, v_t_refusals)
set_option maxHeartbeats 4000000 in
set_option maxRecDepth 100000 in
theorem mX7_far (l : Launch) (D : va_G) (cy : Nat → ClassId) (q_t q_t_now q_t_future q_t_draft q_t_kept q_t_shelves q_t_tape q_t_reader q_t_hiddenWay q_t_sights q_t_choice q_t_refusals q_t_now_ways q_t_now_distances q_t_now_kind q_t_now_a q_t_now_home q_t_now_aim q_t_now_at : Nat) (v_t_isKept : Int32) (v_t_now_places : Int32) (v_t_now_people : Int32) (v_t_now_hour : Int32) (v_t_now_chance : Int32) (v_t_now_seed : Int32) (v_t_now_distances : Nat → Int32) (v_t_refusals : Nat → Int32) (sz : Nat) (p0 : Int32) (p1 : Int32) {r_ : Int32} {n_t_refusals : Nat → Int32} (hf : fX7_far v_t_now_places v_t_now_distances v_t_refusals p0 p1 = some (r_, n_t_refusals)) : Met l yX7_far wsX7_far ({ frames := 1, cells := 0, slots := 0, locals := 22 }) (va_Pc [.ref q_t, .int p0, .int p1] (fun U => U.heap.size = sz ∧ va_P D vwCl [(q_t, oX7 q_t_now q_t_future q_t_draft q_t_kept v_t_isKept q_t_shelves q_t_tape q_t_reader q_t_hiddenWay q_t_sights q_t_choice q_t_refusals), (q_t_now, oX5 v_t_now_places q_t_now_ways q_t_now_distances v_t_now_people q_t_now_kind q_t_now_a q_t_now_home q_t_now_aim q_t_now_at v_t_now_hour v_t_now_chance v_t_now_seed), (q_t_now_distances, .inl (cy 0, 144, .inl v_t_now_distances)), (q_t_refusals, .inl (cy 0, 5, .inl v_t_refusals))] U.heap ∧ xK D cy U ∧ va_D (fun _ => True) [(q_t, oX7 q_t_now q_t_future q_t_draft q_t_kept v_t_isKept q_t_shelves q_t_tape q_t_reader q_t_hiddenWay q_t_sights q_t_choice q_t_refusals), (q_t_now, oX5 v_t_now_places q_t_now_ways q_t_now_distances v_t_now_people q_t_now_kind q_t_now_a q_t_now_home q_t_now_aim q_t_now_at v_t_now_hour v_t_now_chance v_t_now_seed), (q_t_now_distances, .inl (cy 0, 144, .inl v_t_now_distances)), (q_t_refusals, .inl (cy 0, 5, .inl v_t_refusals))])) (va_Qi (fun (x : Int32) (_ : Unit) => x = r_) (fun _ t => va_P D vwCl [(q_t, oX7 q_t_now q_t_future q_t_draft q_t_kept v_t_isKept q_t_shelves q_t_tape q_t_reader q_t_hiddenWay q_t_sights q_t_choice q_t_refusals), (q_t_now, oX5 v_t_now_places q_t_now_ways q_t_now_distances v_t_now_people q_t_now_kind q_t_now_a q_t_now_home q_t_now_aim q_t_now_at v_t_now_hour v_t_now_chance v_t_now_seed), (q_t_now_distances, .inl (cy 0, 144, .inl v_t_now_distances)), (q_t_refusals, .inl (cy 0, 5, .inl n_t_refusals))] t.heap) (va_A [(q_t, oX7 q_t_now q_t_future q_t_draft q_t_kept v_t_isKept q_t_shelves q_t_tape q_t_reader q_t_hiddenWay q_t_sights q_t_choice q_t_refusals), (q_t_now, oX5 v_t_now_places q_t_now_ways q_t_now_distances v_t_now_people q_t_now_kind q_t_now_a q_t_now_home q_t_now_aim q_t_now_at v_t_now_hour v_t_now_chance v_t_now_seed), (q_t_now_distances, .inl (cy 0, 144, .inl v_t_now_distances)), (q_t_refusals, .inl (cy 0, 5, .inl v_t_refusals))] sz)) 0 0 (va_A [(q_t, oX7 q_t_now q_t_future q_t_draft q_t_kept v_t_isKept q_t_shelves q_t_tape q_t_reader q_t_hiddenWay q_t_sights q_t_choice q_t_refusals), (q_t_now, oX5 v_t_now_places q_t_now_ways q_t_now_distances v_t_now_people q_t_now_kind q_t_now_a q_t_now_home q_t_now_aim q_t_now_at v_t_now_hour v_t_now_chance v_t_now_seed), (q_t_now_distances, .inl (cy 0, 144, .inl v_t_now_distances)), (q_t_refusals, .inl (cy 0, 5, .inl v_t_refusals))] sz) := by
  refine Met.ofW (cc := cX7_far) (maxL := 3) (ret := (some .int)) (by decide) rfl ?_
  intro p e s m args below meth c s₁ B hml hv
  obtain ⟨rfl, hsz, hP, hK, hD0⟩ := hv
  have hx := B.exec
  have hb := B.bytes
  have hr := B.returns
  have hts := atoms_spec (ws := wsX7_far) B.pre
  have hown : s.vm.findClass RX7 = some m.cls := findClass_of_methodNamed B.named
  have hlocks := B.notSynchronized
  subst hsz
  have hD := hD0.self (sz := s.heap.size)
  generalize hAe : va_A [(q_t, oX7 q_t_now q_t_future q_t_draft q_t_kept v_t_isKept q_t_shelves q_t_tape q_t_reader q_t_hiddenWay q_t_sights q_t_choice q_t_refusals), (q_t_now, oX5 v_t_now_places q_t_now_ways q_t_now_distances v_t_now_people q_t_now_kind q_t_now_a q_t_now_home q_t_now_aim q_t_now_at v_t_now_hour v_t_now_chance v_t_now_seed), (q_t_now_distances, .inl (cy 0, 144, .inl v_t_now_distances)), (q_t_refusals, .inl (cy 0, 5, .inl v_t_refusals))] s.heap.size = A at hD ⊢
  have hA : ∀ q : Nat, s.heap.size ≤ q → A q := fun q h => by rw [← hAe]; exact Or.inr h
  have hS : va_S A s.heap s.heap [] := va_S.rf
  have hP : va_P D vwCl [(q_t, oX7 q_t_now q_t_future q_t_draft q_t_kept v_t_isKept q_t_shelves q_t_tape q_t_reader q_t_hiddenWay q_t_sights q_t_choice q_t_refusals), (q_t_now, oX5 v_t_now_places q_t_now_ways q_t_now_distances v_t_now_people q_t_now_kind q_t_now_a q_t_now_home q_t_now_aim q_t_now_at v_t_now_hour v_t_now_chance v_t_now_seed), (q_t_now_distances, .inl (cy 0, 144, .inl v_t_now_distances)), (q_t_refusals, .inl (cy 0, 5, .inl v_t_refusals))] s.heap := hP
  have hinX7 : ∀ w ∈ u_ws RX7 TX7 12, w ∈ wsX7_far := by decide +kernel
  have hk10 := hts (.fieldLink RX7 10 "ShowsWhereNobodyIs" "now" "LShowsWhereNobodyIs$Town;") (by decide +kernel)
  have hl := lv_entry ([.ref q_t, .int p0, .int p1]) (n := 3) (Nat.le_of_ble_eq_true rfl)
  rw [lg_entry_eq]
  generalize (lg_sl ([.ref q_t, .int p0, .int p1]) ++ List.replicate (3 - (lg_sl ([.ref q_t, .int p0, .int p1])).length) Slot.unset).toArray = ls at hl ⊢
  have hl : lv_has ls 3 [(0, .ref q_t), (1, .int p0), (2, .int p1)] := hl
  unfold fX7_far at hf
  refine lv_aload_n hx hb dX7_far_0 rfl (lv_at hl 0 rfl) ?_
  refine lv_iload_n hx hb dX7_far_1 rfl (lv_at hl 1 rfl) ?_
  obtain ⟨r1, hr2, hf⟩ := boE1 hf
  have hPc := hP.sub (ws' := [(q_t, oX7 q_t_now q_t_future q_t_draft q_t_kept v_t_isKept q_t_shelves q_t_tape q_t_reader q_t_hiddenWay q_t_sights q_t_choice q_t_refusals), (q_t_now, oX5 v_t_now_places q_t_now_ways q_t_now_distances v_t_now_people q_t_now_kind q_t_now_a q_t_now_home q_t_now_aim q_t_now_at v_t_now_hour v_t_now_chance v_t_now_seed)]) [0, 1] rfl
  refine xcSi (va_runV (As := [.int p0]) (rest := []) ⟨hx, hb, hml, hown, hts⟩ (mX7_isPlace l D cy q_t q_t_now q_t_future q_t_draft q_t_kept q_t_shelves q_t_tape q_t_reader q_t_hiddenWay q_t_sights q_t_choice q_t_refusals q_t_now_ways q_t_now_distances q_t_now_kind q_t_now_a q_t_now_home q_t_now_aim q_t_now_at v_t_isKept v_t_now_places v_t_now_people v_t_now_hour v_t_now_chance v_t_now_seed  p0 hr2) (cwV 1 hts gX7_far_X7_isPlace rfl rfl rfl (by decide +kernel) ⟨Nat.le_of_ble_eq_true rfl, Nat.le_of_ble_eq_true rfl⟩) (xPV hK hPc (ci := 7) (q0 := 0) rfl rfl) rfl rfl hl.1 rfl (lv_room (Nat.le_of_ble_eq_true rfl)) dX7_far_2 ⟨Nat.le_of_ble_eq_true rfl, Nat.le_of_ble_eq_true rfl⟩) ?_
  refine jww0 16 [] (fun  H locs ls => va_P D vwCl [(q_t, oX7 q_t_now q_t_future q_t_draft q_t_kept v_t_isKept q_t_shelves q_t_tape q_t_reader q_t_hiddenWay q_t_sights q_t_choice q_t_refusals), (q_t_now, oX5 v_t_now_places q_t_now_ways q_t_now_distances v_t_now_people q_t_now_kind q_t_now_a q_t_now_home q_t_now_aim q_t_now_at v_t_now_hour v_t_now_chance v_t_now_seed), (q_t_now_distances, .inl (cy 0, 144, .inl v_t_now_distances)), (q_t_refusals, .inl (cy 0, 5, .inl v_t_refusals))] H ∧ va_D A [(q_t, oX7 q_t_now q_t_future q_t_draft q_t_kept v_t_isKept q_t_shelves q_t_tape q_t_reader q_t_hiddenWay q_t_sights q_t_choice q_t_refusals), (q_t_now, oX5 v_t_now_places q_t_now_ways q_t_now_distances v_t_now_people q_t_now_kind q_t_now_a q_t_now_home q_t_now_aim q_t_now_at v_t_now_hour v_t_now_chance v_t_now_seed), (q_t_now_distances, .inl (cy 0, 144, .inl v_t_now_distances)), (q_t_refusals, .inl (cy 0, 5, .inl v_t_refusals))] ∧ va_S A s.heap H locs ∧ lv_has ls 3 [(0, .ref q_t)]) hf (fun  H locs ls hI hf => ?_) (fun k3 J16 hf => ?_)
  · obtain ⟨hP, hD, hS, hl⟩ := hI
    refine lv_aload_n hx hb dX7_far_16 rfl (lv_at hl 0 rfl) ?_
    refine lv_bipush (v := (-2)) hx hb dX7_far_17 (by decide) ?_
    obtain ⟨r4, u5, hr6, hf⟩ := boE2 hf
    have hPc := hP.sub (ws' := [(q_t, oX7 q_t_now q_t_future q_t_draft q_t_kept v_t_isKept q_t_shelves q_t_tape q_t_reader q_t_hiddenWay q_t_sights q_t_choice q_t_refusals), (q_t_refusals, .inl (cy 0, 5, .inl v_t_refusals))]) [0, 3] rfl
    have hDc := hD.sub (ws' := [(q_t, oX7 q_t_now q_t_future q_t_draft q_t_kept v_t_isKept q_t_shelves q_t_tape q_t_reader q_t_hiddenWay q_t_sights q_t_choice q_t_refusals), (q_t_refusals, .inl (cy 0, 5, .inl v_t_refusals))]) [0, 3] (by decide) rfl
    refine xcQi (w1 := [(q_t, oX7 q_t_now q_t_future q_t_draft q_t_kept v_t_isKept q_t_shelves q_t_tape q_t_reader q_t_hiddenWay q_t_sights q_t_choice q_t_refusals), (q_t_refusals, .inl (cy 0, 5, .inl u5))]) (va_runV (As := [.int (-2 : Int32)]) (rest := []) ⟨hx, hb, hml, hown, hts⟩ (mX7_refuse l D cy q_t q_t_now q_t_future q_t_draft q_t_kept q_t_shelves q_t_tape q_t_reader q_t_hiddenWay q_t_sights q_t_choice q_t_refusals v_t_isKept v_t_refusals _ (-2 : Int32) hr6) (cwV 1 hts gX7_far_X7_refuse rfl rfl rfl (by decide +kernel) ⟨Nat.le_of_ble_eq_true rfl, Nat.le_of_ble_eq_true rfl⟩) (xPVw hK hPc hDc (ci := 7) (q0 := 0) rfl rfl) rfl rfl hl.1 rfl (lv_room (Nat.le_of_ble_eq_true rfl)) dX7_far_19 ⟨Nat.le_of_ble_eq_true rfl, Nat.le_of_ble_eq_true rfl⟩) hP hD hS hA [0, 3] rfl rfl (fun H locs hP hD hS => ?_)
    have hP : va_P D vwCl [(q_t, oX7 q_t_now q_t_future q_t_draft q_t_kept v_t_isKept q_t_shelves q_t_tape q_t_reader q_t_hiddenWay q_t_sights q_t_choice q_t_refusals), (q_t_now, oX5 v_t_now_places q_t_now_ways q_t_now_distances v_t_now_people q_t_now_kind q_t_now_a q_t_now_home q_t_now_aim q_t_now_at v_t_now_hour v_t_now_chance v_t_now_seed), (q_t_now_distances, .inl (cy 0, 144, .inl v_t_now_distances)), (q_t_refusals, .inl (cy 0, 5, .inl u5))] H := hP
    have hD : va_D A [(q_t, oX7 q_t_now q_t_future q_t_draft q_t_kept v_t_isKept q_t_shelves q_t_tape q_t_reader q_t_hiddenWay q_t_sights q_t_choice q_t_refusals), (q_t_now, oX5 v_t_now_places q_t_now_ways q_t_now_distances v_t_now_people q_t_now_kind q_t_now_a q_t_now_home q_t_now_aim q_t_now_at v_t_now_hour v_t_now_chance v_t_now_seed), (q_t_now_distances, .inl (cy 0, 144, .inl v_t_now_distances)), (q_t_refusals, .inl (cy 0, 5, .inl u5))] := hD
    cases hf
    exact W.iret hx hb hr (fun t ht hW => ⟨⟨_, (), rfl, rfl, xend ht hP⟩, hS.F ht⟩) hS.2.2 dX7_far_22
  · refine lv_if_eq (tgt := 16) hx hb dX7_far_5 (by decide) (fun c12 => ?_) (fun c12 => ?_)
    · have hf := ifT hf c12
      clear c12
      exact J16 _ _ ls ⟨hP, hD, hS, lv_sub hl [0] rfl⟩ hf
    · have hf := ifF hf c12
      clear c12
      refine lv_aload_n hx hb dX7_far_8 rfl (lv_at hl 0 rfl) ?_
      refine lv_iload_n hx hb dX7_far_9 rfl (lv_at hl 2 rfl) ?_
      obtain ⟨r7, hr8, hf⟩ := boE1 hf
      have hPc := hP.sub (ws' := [(q_t, oX7 q_t_now q_t_future q_t_draft q_t_kept v_t_isKept q_t_shelves q_t_tape q_t_reader q_t_hiddenWay q_t_sights q_t_choice q_t_refusals), (q_t_now, oX5 v_t_now_places q_t_now_ways q_t_now_distances v_t_now_people q_t_now_kind q_t_now_a q_t_now_home q_t_now_aim q_t_now_at v_t_now_hour v_t_now_chance v_t_now_seed)]) [0, 1] rfl
      refine xcSi (va_runV (As := [.int p1]) (rest := []) ⟨hx, hb, hml, hown, hts⟩ (mX7_isPlace l D cy q_t q_t_now q_t_future q_t_draft q_t_kept q_t_shelves q_t_tape q_t_reader q_t_hiddenWay q_t_sights q_t_choice q_t_refusals q_t_now_ways q_t_now_distances q_t_now_kind q_t_now_a q_t_now_home q_t_now_aim q_t_now_at v_t_isKept v_t_now_places v_t_now_people v_t_now_hour v_t_now_chance v_t_now_seed  p1 hr8) (cwV 1 hts gX7_far_X7_isPlace rfl rfl rfl (by decide +kernel) ⟨Nat.le_of_ble_eq_true rfl, Nat.le_of_ble_eq_true rfl⟩) (xPV hK hPc (ci := 7) (q0 := 0) rfl rfl) rfl rfl hl.1 rfl (lv_room (Nat.le_of_ble_eq_true rfl)) dX7_far_10 ⟨Nat.le_of_ble_eq_true rfl, Nat.le_of_ble_eq_true rfl⟩) ?_
      refine lv_if_ne (tgt := 23) hx hb dX7_far_13 (by decide) (fun c11 => ?_) (fun c11 => ?_)
      · have hf := ifF hf c11
        clear c11
        refine lv_aload_n hx hb dX7_far_23 rfl (lv_at hl 0 rfl) ?_
        refine va_get (D := D) (ci := 7) (v := .ref q_t_now) (C := RX7) (T := TX7) (N := 12) hx hb hts hinX7 hown hK.1 hP 0 rfl rfl 0 (by decide) hk10 (fun _ h9 => h9) rfl dX7_far_24 ?_
        refine lv_iload_n hx hb dX7_far_27 rfl (lv_at hl 1 rfl) ?_
        refine lv_iload_n hx hb dX7_far_28 rfl (lv_at hl 2 rfl) ?_
        obtain ⟨r9, hr10, hf⟩ := boE1 hf
        have hPc := hP.sub (ws' := [(q_t_now, oX5 v_t_now_places q_t_now_ways q_t_now_distances v_t_now_people q_t_now_kind q_t_now_a q_t_now_home q_t_now_aim q_t_now_at v_t_now_hour v_t_now_chance v_t_now_seed), (q_t_now_distances, .inl (cy 0, 144, .inl v_t_now_distances))]) [1, 2] rfl
        refine xcSi (va_runV (As := [.int p0, .int p1]) (rest := []) ⟨hx, hb, hml, hown, hts⟩ (mX5_distance l D cy q_t_now q_t_now_ways q_t_now_distances q_t_now_kind q_t_now_a q_t_now_home q_t_now_aim q_t_now_at v_t_now_places v_t_now_people v_t_now_hour v_t_now_chance v_t_now_seed v_t_now_distances  p0 p1 hr10) (cwV 2 hts gX7_far_X5_distance rfl rfl rfl (by decide +kernel) ⟨Nat.le_of_ble_eq_true rfl, Nat.le_of_ble_eq_true rfl⟩) (xPV hK hPc (ci := 5) (q0 := 0) rfl rfl) rfl rfl hl.1 rfl (lv_room (Nat.le_of_ble_eq_true rfl)) dX7_far_29 ⟨Nat.le_of_ble_eq_true rfl, Nat.le_of_ble_eq_true rfl⟩) ?_
        cases hf
        exact W.iret hx hb hr (fun t ht hW => ⟨⟨_, (), rfl, rfl, xend ht hP⟩, hS.F ht⟩) hS.2.2 dX7_far_32
      · have hf := ifT hf c11
        clear c11
        exact J16 _ _ ls ⟨hP, hD, hS, lv_sub hl [0] rfl⟩ hf
def fX7_isAhead (p0 : Int32) : Option (Int32) :=
  if p0 < 0 then
    some (0 : Int32)
  else
    if (48 : Int32) < p0 then
      some (0 : Int32)
    else
      some (1 : Int32)
set_option maxHeartbeats 4000000 in
set_option maxRecDepth 100000 in
theorem mX7_isAhead (l : Launch) (D : va_G) (cy : Nat → ClassId) (p0 : Int32) {r_ : Int32} (hf : fX7_isAhead p0 = some r_) : Met l yX7_isAhead wsX7_isAhead ({ frames := 0, cells := 0, slots := 0, locals := 0 }) (va_Pc [.int p0] (fun U => va_P D vwCl [] U.heap ∧ xK D cy U)) (vp_Si (fun x => x = r_)) 0 0 (fun _ => False) := by
  refine Met.ofW (cc := cX7_isAhead) (maxL := 1) (ret := (some .boolean)) (by decide) rfl ?_
  intro p e s m args below meth c s₁ B hml hv
  obtain ⟨rfl, hP, hK⟩ := hv
  have hx := B.exec
  have hb := B.bytes
  have hr := B.returns
  have hts := atoms_spec (ws := wsX7_isAhead) B.pre
  have hown : s.vm.findClass RX7 = some m.cls := findClass_of_methodNamed B.named
  have hlocks := B.notSynchronized
  have hP : va_P D vwCl [] s.heap := hP
  have hl := lv_entry ([.int p0]) (n := 1) (Nat.le_of_ble_eq_true rfl)
  rw [lg_entry_eq]
  generalize (lg_sl ([.int p0]) ++ List.replicate (1 - (lg_sl ([.int p0])).length) Slot.unset).toArray = ls at hl ⊢
  have hl : lv_has ls 1 [(0, .int p0)] := hl
  unfold fX7_isAhead at hf
  refine lv_iload_n hx hb dX7_isAhead_0 rfl (lv_at hl 0 rfl) ?_
  refine lv_if_lt (tgt := 14) hx hb dX7_isAhead_1 (by decide) (fun c2 => ?_) (fun c2 => ?_)
  · have hf := ifT hf c2
    clear c2
    refine lv_iconst (v := 0) hx hb dX7_isAhead_14 (by decide) ?_
    exact W.zret (v := (0 : Int32)) hx hb hr rfl (fun t ht hW => ⟨(0 : Int32), rfl, Option.some.inj hf, ht⟩) (fun q h => nomatch h) dX7_isAhead_15
  · have hf := ifF hf c2
    clear c2
    refine lv_iload_n hx hb dX7_isAhead_4 rfl (lv_at hl 0 rfl) ?_
    refine lv_bipush (v := 48) hx hb dX7_isAhead_5 (by decide) ?_
    refine lv_icmp_gt (tgt := 14) hx hb dX7_isAhead_7 (by decide) (fun c1 => ?_) (fun c1 => ?_)
    · have hf := ifT hf c1
      clear c1
      refine lv_iconst (v := 0) hx hb dX7_isAhead_14 (by decide) ?_
      exact W.zret (v := (0 : Int32)) hx hb hr rfl (fun t ht hW => ⟨(0 : Int32), rfl, Option.some.inj hf, ht⟩) (fun q h => nomatch h) dX7_isAhead_15
    · have hf := ifF hf c1
      clear c1
      refine lv_iconst (v := 1) hx hb dX7_isAhead_10 (by decide) ?_
      refine lv_goto (tgt := 15) hx hb dX7_isAhead_11 (by decide) ?_
      exact W.zret (v := (1 : Int32)) hx hb hr rfl (fun t ht hW => ⟨(1 : Int32), rfl, Option.some.inj hf, ht⟩) (fun q h => nomatch h) dX7_isAhead_15
