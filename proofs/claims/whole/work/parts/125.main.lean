def fX7_covered (v_t_now_places : Int32) (v_t_now_people : Int32) (v_t_now_hour : Int32) (v_t_now_chance : Int32) (v_t_now_seed : Int32) (v_t_now_ways : Nat → Int32) (v_t_now_distances : Nat → Int32) (v_t_now_kind : Nat → Int32) (v_t_now_a : Nat → Int32) (v_t_now_home : Nat → Int32) (v_t_now_aim : Nat → Int32) (v_t_now_at : Nat → Int32) (v_t_future_places : Int32) (v_t_future_people : Int32) (v_t_future_hour : Int32) (v_t_future_chance : Int32) (v_t_future_seed : Int32) (v_t_future_ways : Nat → Int32) (v_t_future_distances : Nat → Int32) (v_t_future_kind : Nat → Int32) (v_t_future_a : Nat → Int32) (v_t_future_home : Nat → Int32) (v_t_future_aim : Nat → Int32) (v_t_future_at : Nat → Int32) (v_t_refusals : Nat → Int32) (p0 : Int32) : Option (Int32 × Int32 × Int32 × Int32 × Int32 × Int32 × (Nat → Int32) × (Nat → Int32) × (Nat → Int32) × (Nat → Int32) × (Nat → Int32) × (Nat → Int32) × (Nat → Int32) × (Nat → Int32)) :=
  bo1 (fX7_isAhead p0) fun r1 =>
  if r1 = 0 then
    bo2 (fX7_refuse v_t_refusals (-2 : Int32)) fun r30 u31 =>
    some (r30, v_t_future_places, v_t_future_people, v_t_future_hour, v_t_future_chance, v_t_future_seed, v_t_future_ways, v_t_future_distances, v_t_future_kind, v_t_future_a, v_t_future_home, v_t_future_aim, v_t_future_at, u31)
  else
    bo12 (fX7_lookAhead v_t_now_places v_t_now_people v_t_now_hour v_t_now_chance v_t_now_seed v_t_now_ways v_t_now_distances v_t_now_kind v_t_now_a v_t_now_home v_t_now_aim v_t_now_at p0) fun u3 u4 u5 u6 u7 u8 u9 u10 u11 u12 u13 u14 =>
    lo2 (fun g18 (x16 : Int32) (x17 : Int32) =>
      if u4 ≤ x17 then
        some (x16, u3, u4, u5, u6, u7, u8, u9, u10, u11, u12, u13, u14, v_t_refusals)
      else
        bo1 (fX5_darkens u10 x17) fun r19 =>
        jo1 (fun (x21 : Int32) =>
          vlet (x17 + (1 : Int32)) fun x23 =>
          g18 x21 x23) fun k22 =>
        if r19 = 0 then
          k22 x16
        else
          bo1 (fX5_isJoined u4 u10 u14 x17) fun r24 =>
          if r24 = 0 then
            k22 x16
          else
            vlet (x16 ||| ((1 : Int32) <<< (x17 &&& 31))) fun x26 =>
            k22 x26) 400 (0 : Int32) (0 : Int32)
set_option maxHeartbeats 4000000 in
set_option maxRecDepth 100000 in
theorem mX7_covered (l : Launch) (D : va_G) (cy : Nat → ClassId) (q_t q_t_now q_t_future q_t_draft q_t_kept q_t_shelves q_t_tape q_t_reader q_t_hiddenWay q_t_sights q_t_choice q_t_refusals q_t_now_ways q_t_now_distances q_t_now_kind q_t_now_a q_t_now_home q_t_now_aim q_t_now_at q_t_future_ways q_t_future_distances q_t_future_kind q_t_future_a q_t_future_home q_t_future_aim q_t_future_at : Nat) (v_t_isKept : Int32) (v_t_now_places : Int32) (v_t_now_people : Int32) (v_t_now_hour : Int32) (v_t_now_chance : Int32) (v_t_now_seed : Int32) (v_t_now_ways : Nat → Int32) (v_t_now_distances : Nat → Int32) (v_t_now_kind : Nat → Int32) (v_t_now_a : Nat → Int32) (v_t_now_home : Nat → Int32) (v_t_now_aim : Nat → Int32) (v_t_now_at : Nat → Int32) (v_t_future_places : Int32) (v_t_future_people : Int32) (v_t_future_hour : Int32) (v_t_future_chance : Int32) (v_t_future_seed : Int32) (v_t_future_ways : Nat → Int32) (v_t_future_distances : Nat → Int32) (v_t_future_kind : Nat → Int32) (v_t_future_a : Nat → Int32) (v_t_future_home : Nat → Int32) (v_t_future_aim : Nat → Int32) (v_t_future_at : Nat → Int32) (v_t_refusals : Nat → Int32) (sz : Nat) (p0 : Int32) {r_ : Int32} {n_t_future_places : Int32} {n_t_future_people : Int32} {n_t_future_hour : Int32} {n_t_future_chance : Int32} {n_t_future_seed : Int32} {n_t_future_ways : Nat → Int32} {n_t_future_distances : Nat → Int32} {n_t_future_kind : Nat → Int32} {n_t_future_a : Nat → Int32} {n_t_future_home : Nat → Int32} {n_t_future_aim : Nat → Int32} {n_t_future_at : Nat → Int32} {n_t_refusals : Nat → Int32} (hf : fX7_covered v_t_now_places v_t_now_people v_t_now_hour v_t_now_chance v_t_now_seed v_t_now_ways v_t_now_distances v_t_now_kind v_t_now_a v_t_now_home v_t_now_aim v_t_now_at v_t_future_places v_t_future_people v_t_future_hour v_t_future_chance v_t_future_seed v_t_future_ways v_t_future_distances v_t_future_kind v_t_future_a v_t_future_home v_t_future_aim v_t_future_at v_t_refusals p0 = some (r_, n_t_future_places, n_t_future_people, n_t_future_hour, n_t_future_chance, n_t_future_seed, n_t_future_ways, n_t_future_distances, n_t_future_kind, n_t_future_a, n_t_future_home, n_t_future_aim, n_t_future_at, n_t_refusals)) : Met l yX7_covered wsX7_covered ({ frames := 6, cells := 0, slots := 0, locals := 136 }) (va_Pc [.ref q_t, .int p0] (fun U => U.heap.size = sz ∧ va_P D vwCl [(q_t, oX7 q_t_now q_t_future q_t_draft q_t_kept v_t_isKept q_t_shelves q_t_tape q_t_reader q_t_hiddenWay q_t_sights q_t_choice q_t_refusals), (q_t_now, oX5 v_t_now_places q_t_now_ways q_t_now_distances v_t_now_people q_t_now_kind q_t_now_a q_t_now_home q_t_now_aim q_t_now_at v_t_now_hour v_t_now_chance v_t_now_seed), (q_t_now_ways, .inl (cy 0, 12, .inl v_t_now_ways)), (q_t_now_distances, .inl (cy 0, 144, .inl v_t_now_distances)), (q_t_now_kind, .inl (cy 0, 8, .inl v_t_now_kind)), (q_t_now_a, .inl (cy 0, 8, .inl v_t_now_a)), (q_t_now_home, .inl (cy 0, 8, .inl v_t_now_home)), (q_t_now_aim, .inl (cy 0, 8, .inl v_t_now_aim)), (q_t_now_at, .inl (cy 0, 8, .inl v_t_now_at)), (q_t_future, oX5 v_t_future_places q_t_future_ways q_t_future_distances v_t_future_people q_t_future_kind q_t_future_a q_t_future_home q_t_future_aim q_t_future_at v_t_future_hour v_t_future_chance v_t_future_seed), (q_t_future_ways, .inl (cy 0, 12, .inl v_t_future_ways)), (q_t_future_distances, .inl (cy 0, 144, .inl v_t_future_distances)), (q_t_future_kind, .inl (cy 0, 8, .inl v_t_future_kind)), (q_t_future_a, .inl (cy 0, 8, .inl v_t_future_a)), (q_t_future_home, .inl (cy 0, 8, .inl v_t_future_home)), (q_t_future_aim, .inl (cy 0, 8, .inl v_t_future_aim)), (q_t_future_at, .inl (cy 0, 8, .inl v_t_future_at)), (q_t_refusals, .inl (cy 0, 5, .inl v_t_refusals))] U.heap ∧ xK D cy U ∧ va_D (fun _ => True) [(q_t, oX7 q_t_now q_t_future q_t_draft q_t_kept v_t_isKept q_t_shelves q_t_tape q_t_reader q_t_hiddenWay q_t_sights q_t_choice q_t_refusals), (q_t_now, oX5 v_t_now_places q_t_now_ways q_t_now_distances v_t_now_people q_t_now_kind q_t_now_a q_t_now_home q_t_now_aim q_t_now_at v_t_now_hour v_t_now_chance v_t_now_seed), (q_t_now_ways, .inl (cy 0, 12, .inl v_t_now_ways)), (q_t_now_distances, .inl (cy 0, 144, .inl v_t_now_distances)), (q_t_now_kind, .inl (cy 0, 8, .inl v_t_now_kind)), (q_t_now_a, .inl (cy 0, 8, .inl v_t_now_a)), (q_t_now_home, .inl (cy 0, 8, .inl v_t_now_home)), (q_t_now_aim, .inl (cy 0, 8, .inl v_t_now_aim)), (q_t_now_at, .inl (cy 0, 8, .inl v_t_now_at)), (q_t_future, oX5 v_t_future_places q_t_future_ways q_t_future_distances v_t_future_people q_t_future_kind q_t_future_a q_t_future_home q_t_future_aim q_t_future_at v_t_future_hour v_t_future_chance v_t_future_seed), (q_t_future_ways, .inl (cy 0, 12, .inl v_t_future_ways)), (q_t_future_distances, .inl (cy 0, 144, .inl v_t_future_distances)), (q_t_future_kind, .inl (cy 0, 8, .inl v_t_future_kind)), (q_t_future_a, .inl (cy 0, 8, .inl v_t_future_a)), (q_t_future_home, .inl (cy 0, 8, .inl v_t_future_home)), (q_t_future_aim, .inl (cy 0, 8, .inl v_t_future_aim)), (q_t_future_at, .inl (cy 0, 8, .inl v_t_future_at)), (q_t_refusals, .inl (cy 0, 5, .inl v_t_refusals))])) (va_Qi (fun (x : Int32) (_ : Unit) => x = r_) (fun _ t => va_P D vwCl [(q_t, oX7 q_t_now q_t_future q_t_draft q_t_kept v_t_isKept q_t_shelves q_t_tape q_t_reader q_t_hiddenWay q_t_sights q_t_choice q_t_refusals), (q_t_now, oX5 v_t_now_places q_t_now_ways q_t_now_distances v_t_now_people q_t_now_kind q_t_now_a q_t_now_home q_t_now_aim q_t_now_at v_t_now_hour v_t_now_chance v_t_now_seed), (q_t_now_ways, .inl (cy 0, 12, .inl v_t_now_ways)), (q_t_now_distances, .inl (cy 0, 144, .inl v_t_now_distances)), (q_t_now_kind, .inl (cy 0, 8, .inl v_t_now_kind)), (q_t_now_a, .inl (cy 0, 8, .inl v_t_now_a)), (q_t_now_home, .inl (cy 0, 8, .inl v_t_now_home)), (q_t_now_aim, .inl (cy 0, 8, .inl v_t_now_aim)), (q_t_now_at, .inl (cy 0, 8, .inl v_t_now_at)), (q_t_future, oX5 n_t_future_places q_t_future_ways q_t_future_distances n_t_future_people q_t_future_kind q_t_future_a q_t_future_home q_t_future_aim q_t_future_at n_t_future_hour n_t_future_chance n_t_future_seed), (q_t_future_ways, .inl (cy 0, 12, .inl n_t_future_ways)), (q_t_future_distances, .inl (cy 0, 144, .inl n_t_future_distances)), (q_t_future_kind, .inl (cy 0, 8, .inl n_t_future_kind)), (q_t_future_a, .inl (cy 0, 8, .inl n_t_future_a)), (q_t_future_home, .inl (cy 0, 8, .inl n_t_future_home)), (q_t_future_aim, .inl (cy 0, 8, .inl n_t_future_aim)), (q_t_future_at, .inl (cy 0, 8, .inl n_t_future_at)), (q_t_refusals, .inl (cy 0, 5, .inl n_t_refusals))] t.heap) (va_A [(q_t, oX7 q_t_now q_t_future q_t_draft q_t_kept v_t_isKept q_t_shelves q_t_tape q_t_reader q_t_hiddenWay q_t_sights q_t_choice q_t_refusals), (q_t_now, oX5 v_t_now_places q_t_now_ways q_t_now_distances v_t_now_people q_t_now_kind q_t_now_a q_t_now_home q_t_now_aim q_t_now_at v_t_now_hour v_t_now_chance v_t_now_seed), (q_t_now_ways, .inl (cy 0, 12, .inl v_t_now_ways)), (q_t_now_distances, .inl (cy 0, 144, .inl v_t_now_distances)), (q_t_now_kind, .inl (cy 0, 8, .inl v_t_now_kind)), (q_t_now_a, .inl (cy 0, 8, .inl v_t_now_a)), (q_t_now_home, .inl (cy 0, 8, .inl v_t_now_home)), (q_t_now_aim, .inl (cy 0, 8, .inl v_t_now_aim)), (q_t_now_at, .inl (cy 0, 8, .inl v_t_now_at)), (q_t_future, oX5 v_t_future_places q_t_future_ways q_t_future_distances v_t_future_people q_t_future_kind q_t_future_a q_t_future_home q_t_future_aim q_t_future_at v_t_future_hour v_t_future_chance v_t_future_seed), (q_t_future_ways, .inl (cy 0, 12, .inl v_t_future_ways)), (q_t_future_distances, .inl (cy 0, 144, .inl v_t_future_distances)), (q_t_future_kind, .inl (cy 0, 8, .inl v_t_future_kind)), (q_t_future_a, .inl (cy 0, 8, .inl v_t_future_a)), (q_t_future_home, .inl (cy 0, 8, .inl v_t_future_home)), (q_t_future_aim, .inl (cy 0, 8, .inl v_t_future_aim)), (q_t_future_at, .inl (cy 0, 8, .inl v_t_future_at)), (q_t_refusals, .inl (cy 0, 5, .inl v_t_refusals))] sz)) 0 0 (va_A [(q_t, oX7 q_t_now q_t_future q_t_draft q_t_kept v_t_isKept q_t_shelves q_t_tape q_t_reader q_t_hiddenWay q_t_sights q_t_choice q_t_refusals), (q_t_now, oX5 v_t_now_places q_t_now_ways q_t_now_distances v_t_now_people q_t_now_kind q_t_now_a q_t_now_home q_t_now_aim q_t_now_at v_t_now_hour v_t_now_chance v_t_now_seed), (q_t_now_ways, .inl (cy 0, 12, .inl v_t_now_ways)), (q_t_now_distances, .inl (cy 0, 144, .inl v_t_now_distances)), (q_t_now_kind, .inl (cy 0, 8, .inl v_t_now_kind)), (q_t_now_a, .inl (cy 0, 8, .inl v_t_now_a)), (q_t_now_home, .inl (cy 0, 8, .inl v_t_now_home)), (q_t_now_aim, .inl (cy 0, 8, .inl v_t_now_aim)), (q_t_now_at, .inl (cy 0, 8, .inl v_t_now_at)), (q_t_future, oX5 v_t_future_places q_t_future_ways q_t_future_distances v_t_future_people q_t_future_kind q_t_future_a q_t_future_home q_t_future_aim q_t_future_at v_t_future_hour v_t_future_chance v_t_future_seed), (q_t_future_ways, .inl (cy 0, 12, .inl v_t_future_ways)), (q_t_future_distances, .inl (cy 0, 144, .inl v_t_future_distances)), (q_t_future_kind, .inl (cy 0, 8, .inl v_t_future_kind)), (q_t_future_a, .inl (cy 0, 8, .inl v_t_future_a)), (q_t_future_home, .inl (cy 0, 8, .inl v_t_future_home)), (q_t_future_aim, .inl (cy 0, 8, .inl v_t_future_aim)), (q_t_future_at, .inl (cy 0, 8, .inl v_t_future_at)), (q_t_refusals, .inl (cy 0, 5, .inl v_t_refusals))] sz) := by
  refine Met.ofW (cc := cX7_covered) (maxL := 4) (ret := (some .int)) (by decide) rfl ?_
  intro p e s m args below meth c s₁ B hml hv
  obtain ⟨rfl, hsz, hP, hK, hD0⟩ := hv
  have hx := B.exec
  have hb := B.bytes
  have hr := B.returns
  have hts := atoms_spec (ws := wsX7_covered) B.pre
  have hown : s.vm.findClass RX7 = some m.cls := findClass_of_methodNamed B.named
  have hlocks := B.notSynchronized
  subst hsz
  have hD := hD0.self (sz := s.heap.size)
  generalize hAe : va_A [(q_t, oX7 q_t_now q_t_future q_t_draft q_t_kept v_t_isKept q_t_shelves q_t_tape q_t_reader q_t_hiddenWay q_t_sights q_t_choice q_t_refusals), (q_t_now, oX5 v_t_now_places q_t_now_ways q_t_now_distances v_t_now_people q_t_now_kind q_t_now_a q_t_now_home q_t_now_aim q_t_now_at v_t_now_hour v_t_now_chance v_t_now_seed), (q_t_now_ways, .inl (cy 0, 12, .inl v_t_now_ways)), (q_t_now_distances, .inl (cy 0, 144, .inl v_t_now_distances)), (q_t_now_kind, .inl (cy 0, 8, .inl v_t_now_kind)), (q_t_now_a, .inl (cy 0, 8, .inl v_t_now_a)), (q_t_now_home, .inl (cy 0, 8, .inl v_t_now_home)), (q_t_now_aim, .inl (cy 0, 8, .inl v_t_now_aim)), (q_t_now_at, .inl (cy 0, 8, .inl v_t_now_at)), (q_t_future, oX5 v_t_future_places q_t_future_ways q_t_future_distances v_t_future_people q_t_future_kind q_t_future_a q_t_future_home q_t_future_aim q_t_future_at v_t_future_hour v_t_future_chance v_t_future_seed), (q_t_future_ways, .inl (cy 0, 12, .inl v_t_future_ways)), (q_t_future_distances, .inl (cy 0, 144, .inl v_t_future_distances)), (q_t_future_kind, .inl (cy 0, 8, .inl v_t_future_kind)), (q_t_future_a, .inl (cy 0, 8, .inl v_t_future_a)), (q_t_future_home, .inl (cy 0, 8, .inl v_t_future_home)), (q_t_future_aim, .inl (cy 0, 8, .inl v_t_future_aim)), (q_t_future_at, .inl (cy 0, 8, .inl v_t_future_at)), (q_t_refusals, .inl (cy 0, 5, .inl v_t_refusals))] s.heap.size = A at hD ⊢
  have hA : ∀ q : Nat, s.heap.size ≤ q → A q := fun q h => by rw [← hAe]; exact Or.inr h
  have hS : va_S A s.heap s.heap [] := va_S.rf
  have hP : va_P D vwCl [(q_t, oX7 q_t_now q_t_future q_t_draft q_t_kept v_t_isKept q_t_shelves q_t_tape q_t_reader q_t_hiddenWay q_t_sights q_t_choice q_t_refusals), (q_t_now, oX5 v_t_now_places q_t_now_ways q_t_now_distances v_t_now_people q_t_now_kind q_t_now_a q_t_now_home q_t_now_aim q_t_now_at v_t_now_hour v_t_now_chance v_t_now_seed), (q_t_now_ways, .inl (cy 0, 12, .inl v_t_now_ways)), (q_t_now_distances, .inl (cy 0, 144, .inl v_t_now_distances)), (q_t_now_kind, .inl (cy 0, 8, .inl v_t_now_kind)), (q_t_now_a, .inl (cy 0, 8, .inl v_t_now_a)), (q_t_now_home, .inl (cy 0, 8, .inl v_t_now_home)), (q_t_now_aim, .inl (cy 0, 8, .inl v_t_now_aim)), (q_t_now_at, .inl (cy 0, 8, .inl v_t_now_at)), (q_t_future, oX5 v_t_future_places q_t_future_ways q_t_future_distances v_t_future_people q_t_future_kind q_t_future_a q_t_future_home q_t_future_aim q_t_future_at v_t_future_hour v_t_future_chance v_t_future_seed), (q_t_future_ways, .inl (cy 0, 12, .inl v_t_future_ways)), (q_t_future_distances, .inl (cy 0, 144, .inl v_t_future_distances)), (q_t_future_kind, .inl (cy 0, 8, .inl v_t_future_kind)), (q_t_future_a, .inl (cy 0, 8, .inl v_t_future_a)), (q_t_future_home, .inl (cy 0, 8, .inl v_t_future_home)), (q_t_future_aim, .inl (cy 0, 8, .inl v_t_future_aim)), (q_t_future_at, .inl (cy 0, 8, .inl v_t_future_at)), (q_t_refusals, .inl (cy 0, 5, .inl v_t_refusals))] s.heap := hP
  have hinX7 : ∀ w ∈ u_ws RX7 TX7 12, w ∈ wsX7_covered := by decide +kernel
  have hk16 := hts (.fieldLink RX7 16 "ShowsWhereNobodyIs" "future" "LShowsWhereNobodyIs$Town;") (by decide +kernel)
  have hinX5 : ∀ w ∈ u_ws RX5 TX5 12, w ∈ wsX7_covered := by decide +kernel
  have hk171 := hts (.fieldLink RX7 171 "ShowsWhereNobodyIs$Town" "people" "I") (by decide +kernel)
  have hl := lv_entry ([.ref q_t, .int p0]) (n := 4) (Nat.le_of_ble_eq_true rfl)
  rw [lg_entry_eq]
  generalize (lg_sl ([.ref q_t, .int p0]) ++ List.replicate (4 - (lg_sl ([.ref q_t, .int p0])).length) Slot.unset).toArray = ls at hl ⊢
  have hl : lv_has ls 4 [(0, .ref q_t), (1, .int p0)] := hl
  unfold fX7_covered at hf
  refine lv_iload_n hx hb dX7_covered_0 rfl (lv_at hl 1 rfl) ?_
  obtain ⟨r1, hr2, hf⟩ := boE1 hf
  have hPc := hP.sub (ws' := []) [] rfl
  refine xcSi (va_runS (As := [.int p0]) (rest := []) ⟨hx, hb, hml, hown, hts⟩ (mX7_isAhead l D cy    p0 hr2) (va_cwS 1 hts gX7_covered_X7_isAhead rfl rfl rfl (by decide +kernel) ⟨Nat.le_of_ble_eq_true rfl, Nat.le_of_ble_eq_true rfl⟩) (xPS hK hPc) rfl rfl hl.1 rfl (lv_room (Nat.le_of_ble_eq_true rfl)) dX7_covered_1 ⟨Nat.le_of_ble_eq_true rfl, Nat.le_of_ble_eq_true rfl⟩) ?_
  refine lv_if_ne (tgt := 14) hx hb dX7_covered_4 (by decide) (fun c33 => ?_) (fun c33 => ?_)
  · have hf := ifF hf c33
    clear c33
    refine lv_iconst (v := 0) hx hb dX7_covered_14 (by decide) ?_
    refine lv_istore_n (lv' := [(2, .int (0 : Int32)), (0, .ref q_t), (1, .int p0)]) hx hb dX7_covered_15 rfl hl (by decide) rfl (fun ls hl => ?_)
    refine lv_aload_n hx hb dX7_covered_16 rfl (lv_at hl 1 rfl) ?_
    refine lv_iload_n hx hb dX7_covered_17 rfl (lv_at hl 2 rfl) ?_
    obtain ⟨u3, u4, u5, u6, u7, u8, u9, u10, u11, u12, u13, u14, hr15, hf⟩ := boE12 hf
    have hPc := hP.sub (ws' := [(q_t, oX7 q_t_now q_t_future q_t_draft q_t_kept v_t_isKept q_t_shelves q_t_tape q_t_reader q_t_hiddenWay q_t_sights q_t_choice q_t_refusals), (q_t_now, oX5 v_t_now_places q_t_now_ways q_t_now_distances v_t_now_people q_t_now_kind q_t_now_a q_t_now_home q_t_now_aim q_t_now_at v_t_now_hour v_t_now_chance v_t_now_seed), (q_t_now_ways, .inl (cy 0, 12, .inl v_t_now_ways)), (q_t_now_distances, .inl (cy 0, 144, .inl v_t_now_distances)), (q_t_now_kind, .inl (cy 0, 8, .inl v_t_now_kind)), (q_t_now_a, .inl (cy 0, 8, .inl v_t_now_a)), (q_t_now_home, .inl (cy 0, 8, .inl v_t_now_home)), (q_t_now_aim, .inl (cy 0, 8, .inl v_t_now_aim)), (q_t_now_at, .inl (cy 0, 8, .inl v_t_now_at)), (q_t_future, oX5 v_t_future_places q_t_future_ways q_t_future_distances v_t_future_people q_t_future_kind q_t_future_a q_t_future_home q_t_future_aim q_t_future_at v_t_future_hour v_t_future_chance v_t_future_seed), (q_t_future_ways, .inl (cy 0, 12, .inl v_t_future_ways)), (q_t_future_distances, .inl (cy 0, 144, .inl v_t_future_distances)), (q_t_future_kind, .inl (cy 0, 8, .inl v_t_future_kind)), (q_t_future_a, .inl (cy 0, 8, .inl v_t_future_a)), (q_t_future_home, .inl (cy 0, 8, .inl v_t_future_home)), (q_t_future_aim, .inl (cy 0, 8, .inl v_t_future_aim)), (q_t_future_at, .inl (cy 0, 8, .inl v_t_future_at))]) [0, 1, 2, 3, 4, 5, 6, 7, 8, 9, 10, 11, 12, 13, 14, 15, 16] rfl
    have hDc := hD.sub (ws' := [(q_t, oX7 q_t_now q_t_future q_t_draft q_t_kept v_t_isKept q_t_shelves q_t_tape q_t_reader q_t_hiddenWay q_t_sights q_t_choice q_t_refusals), (q_t_now, oX5 v_t_now_places q_t_now_ways q_t_now_distances v_t_now_people q_t_now_kind q_t_now_a q_t_now_home q_t_now_aim q_t_now_at v_t_now_hour v_t_now_chance v_t_now_seed), (q_t_now_ways, .inl (cy 0, 12, .inl v_t_now_ways)), (q_t_now_distances, .inl (cy 0, 144, .inl v_t_now_distances)), (q_t_now_kind, .inl (cy 0, 8, .inl v_t_now_kind)), (q_t_now_a, .inl (cy 0, 8, .inl v_t_now_a)), (q_t_now_home, .inl (cy 0, 8, .inl v_t_now_home)), (q_t_now_aim, .inl (cy 0, 8, .inl v_t_now_aim)), (q_t_now_at, .inl (cy 0, 8, .inl v_t_now_at)), (q_t_future, oX5 v_t_future_places q_t_future_ways q_t_future_distances v_t_future_people q_t_future_kind q_t_future_a q_t_future_home q_t_future_aim q_t_future_at v_t_future_hour v_t_future_chance v_t_future_seed), (q_t_future_ways, .inl (cy 0, 12, .inl v_t_future_ways)), (q_t_future_distances, .inl (cy 0, 144, .inl v_t_future_distances)), (q_t_future_kind, .inl (cy 0, 8, .inl v_t_future_kind)), (q_t_future_a, .inl (cy 0, 8, .inl v_t_future_a)), (q_t_future_home, .inl (cy 0, 8, .inl v_t_future_home)), (q_t_future_aim, .inl (cy 0, 8, .inl v_t_future_aim)), (q_t_future_at, .inl (cy 0, 8, .inl v_t_future_at))]) [0, 1, 2, 3, 4, 5, 6, 7, 8, 9, 10, 11, 12, 13, 14, 15, 16] (by decide) rfl
    refine xcQv (w1 := [(q_t, oX7 q_t_now q_t_future q_t_draft q_t_kept v_t_isKept q_t_shelves q_t_tape q_t_reader q_t_hiddenWay q_t_sights q_t_choice q_t_refusals), (q_t_now, oX5 v_t_now_places q_t_now_ways q_t_now_distances v_t_now_people q_t_now_kind q_t_now_a q_t_now_home q_t_now_aim q_t_now_at v_t_now_hour v_t_now_chance v_t_now_seed), (q_t_now_ways, .inl (cy 0, 12, .inl v_t_now_ways)), (q_t_now_distances, .inl (cy 0, 144, .inl v_t_now_distances)), (q_t_now_kind, .inl (cy 0, 8, .inl v_t_now_kind)), (q_t_now_a, .inl (cy 0, 8, .inl v_t_now_a)), (q_t_now_home, .inl (cy 0, 8, .inl v_t_now_home)), (q_t_now_aim, .inl (cy 0, 8, .inl v_t_now_aim)), (q_t_now_at, .inl (cy 0, 8, .inl v_t_now_at)), (q_t_future, oX5 u3 q_t_future_ways q_t_future_distances u4 q_t_future_kind q_t_future_a q_t_future_home q_t_future_aim q_t_future_at u5 u6 u7), (q_t_future_ways, .inl (cy 0, 12, .inl u8)), (q_t_future_distances, .inl (cy 0, 144, .inl u9)), (q_t_future_kind, .inl (cy 0, 8, .inl u10)), (q_t_future_a, .inl (cy 0, 8, .inl u11)), (q_t_future_home, .inl (cy 0, 8, .inl u12)), (q_t_future_aim, .inl (cy 0, 8, .inl u13)), (q_t_future_at, .inl (cy 0, 8, .inl u14))]) (va_runV (As := [.int p0]) (rest := []) ⟨hx, hb, hml, hown, hts⟩ (mX7_lookAhead l D cy q_t q_t_now q_t_future q_t_draft q_t_kept q_t_shelves q_t_tape q_t_reader q_t_hiddenWay q_t_sights q_t_choice q_t_refusals q_t_now_ways q_t_now_distances q_t_now_kind q_t_now_a q_t_now_home q_t_now_aim q_t_now_at q_t_future_ways q_t_future_distances q_t_future_kind q_t_future_a q_t_future_home q_t_future_aim q_t_future_at v_t_isKept v_t_now_places v_t_now_people v_t_now_hour v_t_now_chance v_t_now_seed v_t_now_ways v_t_now_distances v_t_now_kind v_t_now_a v_t_now_home v_t_now_aim v_t_now_at v_t_future_places v_t_future_people v_t_future_hour v_t_future_chance v_t_future_seed v_t_future_ways v_t_future_distances v_t_future_kind v_t_future_a v_t_future_home v_t_future_aim v_t_future_at _ p0 hr15) (cwV 1 hts gX7_covered_X7_lookAhead rfl rfl rfl (by decide +kernel) ⟨Nat.le_of_ble_eq_true rfl, Nat.le_of_ble_eq_true rfl⟩) (xPVw hK hPc hDc (ci := 7) (q0 := 0) rfl rfl) rfl rfl hl.1 rfl (lv_room (Nat.le_of_ble_eq_true rfl)) dX7_covered_18 ⟨Nat.le_of_ble_eq_true rfl, Nat.le_of_ble_eq_true rfl⟩) hP hD hS hA [0, 1, 2, 3, 4, 5, 6, 7, 8, 9, 10, 11, 12, 13, 14, 15, 16] rfl rfl (fun H locs hP hD hS => ?_)
    have hP : va_P D vwCl [(q_t, oX7 q_t_now q_t_future q_t_draft q_t_kept v_t_isKept q_t_shelves q_t_tape q_t_reader q_t_hiddenWay q_t_sights q_t_choice q_t_refusals), (q_t_now, oX5 v_t_now_places q_t_now_ways q_t_now_distances v_t_now_people q_t_now_kind q_t_now_a q_t_now_home q_t_now_aim q_t_now_at v_t_now_hour v_t_now_chance v_t_now_seed), (q_t_now_ways, .inl (cy 0, 12, .inl v_t_now_ways)), (q_t_now_distances, .inl (cy 0, 144, .inl v_t_now_distances)), (q_t_now_kind, .inl (cy 0, 8, .inl v_t_now_kind)), (q_t_now_a, .inl (cy 0, 8, .inl v_t_now_a)), (q_t_now_home, .inl (cy 0, 8, .inl v_t_now_home)), (q_t_now_aim, .inl (cy 0, 8, .inl v_t_now_aim)), (q_t_now_at, .inl (cy 0, 8, .inl v_t_now_at)), (q_t_future, oX5 u3 q_t_future_ways q_t_future_distances u4 q_t_future_kind q_t_future_a q_t_future_home q_t_future_aim q_t_future_at u5 u6 u7), (q_t_future_ways, .inl (cy 0, 12, .inl u8)), (q_t_future_distances, .inl (cy 0, 144, .inl u9)), (q_t_future_kind, .inl (cy 0, 8, .inl u10)), (q_t_future_a, .inl (cy 0, 8, .inl u11)), (q_t_future_home, .inl (cy 0, 8, .inl u12)), (q_t_future_aim, .inl (cy 0, 8, .inl u13)), (q_t_future_at, .inl (cy 0, 8, .inl u14)), (q_t_refusals, .inl (cy 0, 5, .inl v_t_refusals))] H := hP
    have hD : va_D A [(q_t, oX7 q_t_now q_t_future q_t_draft q_t_kept v_t_isKept q_t_shelves q_t_tape q_t_reader q_t_hiddenWay q_t_sights q_t_choice q_t_refusals), (q_t_now, oX5 v_t_now_places q_t_now_ways q_t_now_distances v_t_now_people q_t_now_kind q_t_now_a q_t_now_home q_t_now_aim q_t_now_at v_t_now_hour v_t_now_chance v_t_now_seed), (q_t_now_ways, .inl (cy 0, 12, .inl v_t_now_ways)), (q_t_now_distances, .inl (cy 0, 144, .inl v_t_now_distances)), (q_t_now_kind, .inl (cy 0, 8, .inl v_t_now_kind)), (q_t_now_a, .inl (cy 0, 8, .inl v_t_now_a)), (q_t_now_home, .inl (cy 0, 8, .inl v_t_now_home)), (q_t_now_aim, .inl (cy 0, 8, .inl v_t_now_aim)), (q_t_now_at, .inl (cy 0, 8, .inl v_t_now_at)), (q_t_future, oX5 u3 q_t_future_ways q_t_future_distances u4 q_t_future_kind q_t_future_a q_t_future_home q_t_future_aim q_t_future_at u5 u6 u7), (q_t_future_ways, .inl (cy 0, 12, .inl u8)), (q_t_future_distances, .inl (cy 0, 144, .inl u9)), (q_t_future_kind, .inl (cy 0, 8, .inl u10)), (q_t_future_a, .inl (cy 0, 8, .inl u11)), (q_t_future_home, .inl (cy 0, 8, .inl u12)), (q_t_future_aim, .inl (cy 0, 8, .inl u13)), (q_t_future_at, .inl (cy 0, 8, .inl u14)), (q_t_refusals, .inl (cy 0, 5, .inl v_t_refusals))] := hD
    refine lv_iconst (v := 0) hx hb dX7_covered_21 (by decide) ?_
    refine lv_istore_n (lv' := [(3, .int (0 : Int32)), (2, .int (0 : Int32)), (0, .ref q_t), (1, .int p0)]) hx hb dX7_covered_22 rfl hl (by decide) rfl (fun ls hl => ?_)
    refine wlw2 23 (fun _ _ => []) (fun (x16 : Int32) (x17 : Int32) H locs ls => va_P D vwCl [(q_t, oX7 q_t_now q_t_future q_t_draft q_t_kept v_t_isKept q_t_shelves q_t_tape q_t_reader q_t_hiddenWay q_t_sights q_t_choice q_t_refusals), (q_t_now, oX5 v_t_now_places q_t_now_ways q_t_now_distances v_t_now_people q_t_now_kind q_t_now_a q_t_now_home q_t_now_aim q_t_now_at v_t_now_hour v_t_now_chance v_t_now_seed), (q_t_now_ways, .inl (cy 0, 12, .inl v_t_now_ways)), (q_t_now_distances, .inl (cy 0, 144, .inl v_t_now_distances)), (q_t_now_kind, .inl (cy 0, 8, .inl v_t_now_kind)), (q_t_now_a, .inl (cy 0, 8, .inl v_t_now_a)), (q_t_now_home, .inl (cy 0, 8, .inl v_t_now_home)), (q_t_now_aim, .inl (cy 0, 8, .inl v_t_now_aim)), (q_t_now_at, .inl (cy 0, 8, .inl v_t_now_at)), (q_t_future, oX5 u3 q_t_future_ways q_t_future_distances u4 q_t_future_kind q_t_future_a q_t_future_home q_t_future_aim q_t_future_at u5 u6 u7), (q_t_future_ways, .inl (cy 0, 12, .inl u8)), (q_t_future_distances, .inl (cy 0, 144, .inl u9)), (q_t_future_kind, .inl (cy 0, 8, .inl u10)), (q_t_future_a, .inl (cy 0, 8, .inl u11)), (q_t_future_home, .inl (cy 0, 8, .inl u12)), (q_t_future_aim, .inl (cy 0, 8, .inl u13)), (q_t_future_at, .inl (cy 0, 8, .inl u14)), (q_t_refusals, .inl (cy 0, 5, .inl v_t_refusals))] H ∧ va_D A [(q_t, oX7 q_t_now q_t_future q_t_draft q_t_kept v_t_isKept q_t_shelves q_t_tape q_t_reader q_t_hiddenWay q_t_sights q_t_choice q_t_refusals), (q_t_now, oX5 v_t_now_places q_t_now_ways q_t_now_distances v_t_now_people q_t_now_kind q_t_now_a q_t_now_home q_t_now_aim q_t_now_at v_t_now_hour v_t_now_chance v_t_now_seed), (q_t_now_ways, .inl (cy 0, 12, .inl v_t_now_ways)), (q_t_now_distances, .inl (cy 0, 144, .inl v_t_now_distances)), (q_t_now_kind, .inl (cy 0, 8, .inl v_t_now_kind)), (q_t_now_a, .inl (cy 0, 8, .inl v_t_now_a)), (q_t_now_home, .inl (cy 0, 8, .inl v_t_now_home)), (q_t_now_aim, .inl (cy 0, 8, .inl v_t_now_aim)), (q_t_now_at, .inl (cy 0, 8, .inl v_t_now_at)), (q_t_future, oX5 u3 q_t_future_ways q_t_future_distances u4 q_t_future_kind q_t_future_a q_t_future_home q_t_future_aim q_t_future_at u5 u6 u7), (q_t_future_ways, .inl (cy 0, 12, .inl u8)), (q_t_future_distances, .inl (cy 0, 144, .inl u9)), (q_t_future_kind, .inl (cy 0, 8, .inl u10)), (q_t_future_a, .inl (cy 0, 8, .inl u11)), (q_t_future_home, .inl (cy 0, 8, .inl u12)), (q_t_future_aim, .inl (cy 0, 8, .inl u13)), (q_t_future_at, .inl (cy 0, 8, .inl u14)), (q_t_refusals, .inl (cy 0, 5, .inl v_t_refusals))] ∧ va_S A s.heap H locs ∧ lv_has ls 4 [(2, .int x16), (3, .int x17), (0, .ref q_t)]) (fun g18 L23 x16 x17 H locs ls hI hf => ?_) 400 (0 : Int32) (0 : Int32) _ _ ls ⟨hP, hD, hS, lv_sub hl [1, 0, 2] rfl⟩ hf
    obtain ⟨hP, hD, hS, hl⟩ := hI
    refine lv_iload_n hx hb dX7_covered_23 rfl (lv_at hl 1 rfl) ?_
    refine lv_aload_n hx hb dX7_covered_24 rfl (lv_at hl 2 rfl) ?_
    refine va_get (D := D) (ci := 7) (v := .ref q_t_future) (C := RX7) (T := TX7) (N := 12) hx hb hts hinX7 hown hK.1 hP 0 rfl rfl 1 (by decide) hk16 (fun _ h9 => h9) rfl dX7_covered_25 ?_
    refine va_get (D := D) (ci := 5) (v := .int u4) (C := RX5) (T := TX5) (N := 12) hx hb hts hinX5 hown hK.1 hP 9 rfl rfl 3 (by decide) hk171 (fun _ h9 => h9) rfl dX7_covered_28 ?_
    refine lv_icmp_ge (tgt := 68) hx hb dX7_covered_31 (by decide) (fun c29 => ?_) (fun c29 => ?_)
    · have hf := ifT hf c29
      clear c29
      refine lv_iload_n hx hb dX7_covered_68 rfl (lv_at hl 0 rfl) ?_
      have hg0 := Option.some.inj hf
      obtain ⟨ee0, hg1⟩ := Prod.mk.inj hg0
      obtain ⟨ee1, hg2⟩ := Prod.mk.inj hg1
      obtain ⟨ee2, hg3⟩ := Prod.mk.inj hg2
      obtain ⟨ee3, hg4⟩ := Prod.mk.inj hg3
      obtain ⟨ee4, hg5⟩ := Prod.mk.inj hg4
      obtain ⟨ee5, hg6⟩ := Prod.mk.inj hg5
      obtain ⟨ee6, hg7⟩ := Prod.mk.inj hg6
      obtain ⟨ee7, hg8⟩ := Prod.mk.inj hg7
      obtain ⟨ee8, hg9⟩ := Prod.mk.inj hg8
      obtain ⟨ee9, hg10⟩ := Prod.mk.inj hg9
      obtain ⟨ee10, hg11⟩ := Prod.mk.inj hg10
      obtain ⟨ee11, hg12⟩ := Prod.mk.inj hg11
      obtain ⟨ee12, hg13⟩ := Prod.mk.inj hg12
      clear hf hg0 hg1 hg2 hg3 hg4 hg5 hg6 hg7 hg8 hg9 hg10 hg11 hg12
      subst ee0
      subst ee1
      subst ee2
      subst ee3
      subst ee4
      subst ee5
      subst ee6
      subst ee7
      subst ee8
      subst ee9
      subst ee10
      subst ee11
      subst ee12
      subst hg13
      exact W.iret hx hb hr (fun t ht hW => ⟨⟨_, (), rfl, rfl, xend ht hP⟩, hS.F ht⟩) hS.2.2 dX7_covered_69
    · have hf := ifF hf c29
      clear c29
      refine lv_aload_n hx hb dX7_covered_34 rfl (lv_at hl 2 rfl) ?_
      refine va_get (D := D) (ci := 7) (v := .ref q_t_future) (C := RX7) (T := TX7) (N := 12) hx hb hts hinX7 hown hK.1 hP 0 rfl rfl 1 (by decide) hk16 (fun _ h9 => h9) rfl dX7_covered_35 ?_
      refine lv_iload_n hx hb dX7_covered_38 rfl (lv_at hl 1 rfl) ?_
      obtain ⟨r19, hr20, hf⟩ := boE1 hf
      have hPc := hP.sub (ws' := [(q_t_future, oX5 u3 q_t_future_ways q_t_future_distances u4 q_t_future_kind q_t_future_a q_t_future_home q_t_future_aim q_t_future_at u5 u6 u7), (q_t_future_kind, .inl (cy 0, 8, .inl u10))]) [9, 12] rfl
      refine xcSi (va_runV (As := [.int x17]) (rest := []) ⟨hx, hb, hml, hown, hts⟩ (mX5_darkens l D cy q_t_future q_t_future_ways q_t_future_distances q_t_future_kind q_t_future_a q_t_future_home q_t_future_aim q_t_future_at u3 u4 u5 u6 u7 u10  x17 hr20) (cwV 1 hts gX7_covered_X5_darkens rfl rfl rfl (by decide +kernel) ⟨Nat.le_of_ble_eq_true rfl, Nat.le_of_ble_eq_true rfl⟩) (xPV hK hPc (ci := 5) (q0 := 0) rfl rfl) rfl rfl hl.1 rfl (lv_room (Nat.le_of_ble_eq_true rfl)) dX7_covered_39 ⟨Nat.le_of_ble_eq_true rfl, Nat.le_of_ble_eq_true rfl⟩) ?_
      refine jww1 62 (fun (x21 : Int32) => []) (fun (x21 : Int32) H locs ls => va_P D vwCl [(q_t, oX7 q_t_now q_t_future q_t_draft q_t_kept v_t_isKept q_t_shelves q_t_tape q_t_reader q_t_hiddenWay q_t_sights q_t_choice q_t_refusals), (q_t_now, oX5 v_t_now_places q_t_now_ways q_t_now_distances v_t_now_people q_t_now_kind q_t_now_a q_t_now_home q_t_now_aim q_t_now_at v_t_now_hour v_t_now_chance v_t_now_seed), (q_t_now_ways, .inl (cy 0, 12, .inl v_t_now_ways)), (q_t_now_distances, .inl (cy 0, 144, .inl v_t_now_distances)), (q_t_now_kind, .inl (cy 0, 8, .inl v_t_now_kind)), (q_t_now_a, .inl (cy 0, 8, .inl v_t_now_a)), (q_t_now_home, .inl (cy 0, 8, .inl v_t_now_home)), (q_t_now_aim, .inl (cy 0, 8, .inl v_t_now_aim)), (q_t_now_at, .inl (cy 0, 8, .inl v_t_now_at)), (q_t_future, oX5 u3 q_t_future_ways q_t_future_distances u4 q_t_future_kind q_t_future_a q_t_future_home q_t_future_aim q_t_future_at u5 u6 u7), (q_t_future_ways, .inl (cy 0, 12, .inl u8)), (q_t_future_distances, .inl (cy 0, 144, .inl u9)), (q_t_future_kind, .inl (cy 0, 8, .inl u10)), (q_t_future_a, .inl (cy 0, 8, .inl u11)), (q_t_future_home, .inl (cy 0, 8, .inl u12)), (q_t_future_aim, .inl (cy 0, 8, .inl u13)), (q_t_future_at, .inl (cy 0, 8, .inl u14)), (q_t_refusals, .inl (cy 0, 5, .inl v_t_refusals))] H ∧ va_D A [(q_t, oX7 q_t_now q_t_future q_t_draft q_t_kept v_t_isKept q_t_shelves q_t_tape q_t_reader q_t_hiddenWay q_t_sights q_t_choice q_t_refusals), (q_t_now, oX5 v_t_now_places q_t_now_ways q_t_now_distances v_t_now_people q_t_now_kind q_t_now_a q_t_now_home q_t_now_aim q_t_now_at v_t_now_hour v_t_now_chance v_t_now_seed), (q_t_now_ways, .inl (cy 0, 12, .inl v_t_now_ways)), (q_t_now_distances, .inl (cy 0, 144, .inl v_t_now_distances)), (q_t_now_kind, .inl (cy 0, 8, .inl v_t_now_kind)), (q_t_now_a, .inl (cy 0, 8, .inl v_t_now_a)), (q_t_now_home, .inl (cy 0, 8, .inl v_t_now_home)), (q_t_now_aim, .inl (cy 0, 8, .inl v_t_now_aim)), (q_t_now_at, .inl (cy 0, 8, .inl v_t_now_at)), (q_t_future, oX5 u3 q_t_future_ways q_t_future_distances u4 q_t_future_kind q_t_future_a q_t_future_home q_t_future_aim q_t_future_at u5 u6 u7), (q_t_future_ways, .inl (cy 0, 12, .inl u8)), (q_t_future_distances, .inl (cy 0, 144, .inl u9)), (q_t_future_kind, .inl (cy 0, 8, .inl u10)), (q_t_future_a, .inl (cy 0, 8, .inl u11)), (q_t_future_home, .inl (cy 0, 8, .inl u12)), (q_t_future_aim, .inl (cy 0, 8, .inl u13)), (q_t_future_at, .inl (cy 0, 8, .inl u14)), (q_t_refusals, .inl (cy 0, 5, .inl v_t_refusals))] ∧ va_S A s.heap H locs ∧ lv_has ls 4 [(2, .int x21), (0, .ref q_t), (3, .int x17)]) hf (fun x21 H locs ls hI hf => ?_) (fun k22 J62 hf => ?_)
      · obtain ⟨hP, hD, hS, hl⟩ := hI
        obtain ⟨x23, ex23⟩ : ∃ y : Int32, y = x17 + (1 : Int32) := ⟨_, rfl⟩
        have hf := vlE hf ex23
        refine lv_iinc (v := x23) (lv' := [(3, .int x23), (2, .int x21), (0, .ref q_t)]) hx hb dX7_covered_62 hl (k := 2) rfl (by rw [ex23]; rfl) (by decide) rfl (fun ls hl => ?_)
        clear ex23
        refine lv_goto (tgt := 23) hx hb dX7_covered_65 (by decide) ?_
        exact L23 x21 x23 _ _ ls ⟨hP, hD, hS, lv_sub hl [1, 0, 2] rfl⟩ hf
      · refine lv_if_eq (tgt := 62) hx hb dX7_covered_42 (by decide) (fun c28 => ?_) (fun c28 => ?_)
        · have hf := ifT hf c28
          clear c28
          exact J62 x16 _ _ ls ⟨hP, hD, hS, lv_sub hl [0, 2, 1] rfl⟩ hf
        · have hf := ifF hf c28
          clear c28
          refine lv_aload_n hx hb dX7_covered_45 rfl (lv_at hl 2 rfl) ?_
          refine va_get (D := D) (ci := 7) (v := .ref q_t_future) (C := RX7) (T := TX7) (N := 12) hx hb hts hinX7 hown hK.1 hP 0 rfl rfl 1 (by decide) hk16 (fun _ h9 => h9) rfl dX7_covered_46 ?_
          refine lv_iload_n hx hb dX7_covered_49 rfl (lv_at hl 1 rfl) ?_
          obtain ⟨r24, hr25, hf⟩ := boE1 hf
          have hPc := hP.sub (ws' := [(q_t_future, oX5 u3 q_t_future_ways q_t_future_distances u4 q_t_future_kind q_t_future_a q_t_future_home q_t_future_aim q_t_future_at u5 u6 u7), (q_t_future_kind, .inl (cy 0, 8, .inl u10)), (q_t_future_at, .inl (cy 0, 8, .inl u14))]) [9, 12, 16] rfl
          refine xcSi (va_runV (As := [.int x17]) (rest := []) ⟨hx, hb, hml, hown, hts⟩ (mX5_isJoined l D cy q_t_future q_t_future_ways q_t_future_distances q_t_future_kind q_t_future_a q_t_future_home q_t_future_aim q_t_future_at u3 u4 u5 u6 u7 u10 u14  x17 hr25) (cwV 1 hts gX7_covered_X5_isJoined rfl rfl rfl (by decide +kernel) ⟨Nat.le_of_ble_eq_true rfl, Nat.le_of_ble_eq_true rfl⟩) (xPV hK hPc (ci := 5) (q0 := 0) rfl rfl) rfl rfl hl.1 rfl (lv_room (Nat.le_of_ble_eq_true rfl)) dX7_covered_50 ⟨Nat.le_of_ble_eq_true rfl, Nat.le_of_ble_eq_true rfl⟩) ?_
          refine lv_if_eq (tgt := 62) hx hb dX7_covered_53 (by decide) (fun c27 => ?_) (fun c27 => ?_)
          · have hf := ifT hf c27
            clear c27
            exact J62 x16 _ _ ls ⟨hP, hD, hS, lv_sub hl [0, 2, 1] rfl⟩ hf
          · have hf := ifF hf c27
            clear c27
            refine lv_iload_n hx hb dX7_covered_56 rfl (lv_at hl 0 rfl) ?_
            refine lv_iconst (v := 1) hx hb dX7_covered_57 (by decide) ?_
            refine lv_iload_n hx hb dX7_covered_58 rfl (lv_at hl 1 rfl) ?_
            refine lv_ishl hx hb dX7_covered_59 ?_
            refine lv_ior hx hb dX7_covered_60 ?_
            refine lv_topi (fun x26 ex26 => ?_)
            have hf := vlE hf ex26
            clear ex26
            refine lv_istore_n (lv' := [(2, .int x26), (3, .int x17), (0, .ref q_t)]) hx hb dX7_covered_61 rfl hl (by decide) rfl (fun ls hl => ?_)
            exact J62 x26 _ _ ls ⟨hP, hD, hS, lv_sub hl [0, 2, 1] rfl⟩ hf
  · have hf := ifT hf c33
    clear c33
    refine lv_aload_n hx hb dX7_covered_7 rfl (lv_at hl 0 rfl) ?_
    refine lv_bipush (v := (-2)) hx hb dX7_covered_8 (by decide) ?_
    obtain ⟨r30, u31, hr32, hf⟩ := boE2 hf
    have hPc := hP.sub (ws' := [(q_t, oX7 q_t_now q_t_future q_t_draft q_t_kept v_t_isKept q_t_shelves q_t_tape q_t_reader q_t_hiddenWay q_t_sights q_t_choice q_t_refusals), (q_t_refusals, .inl (cy 0, 5, .inl v_t_refusals))]) [0, 17] rfl
    have hDc := hD.sub (ws' := [(q_t, oX7 q_t_now q_t_future q_t_draft q_t_kept v_t_isKept q_t_shelves q_t_tape q_t_reader q_t_hiddenWay q_t_sights q_t_choice q_t_refusals), (q_t_refusals, .inl (cy 0, 5, .inl v_t_refusals))]) [0, 17] (by decide) rfl
    refine xcQi (w1 := [(q_t, oX7 q_t_now q_t_future q_t_draft q_t_kept v_t_isKept q_t_shelves q_t_tape q_t_reader q_t_hiddenWay q_t_sights q_t_choice q_t_refusals), (q_t_refusals, .inl (cy 0, 5, .inl u31))]) (va_runV (As := [.int (-2 : Int32)]) (rest := []) ⟨hx, hb, hml, hown, hts⟩ (mX7_refuse l D cy q_t q_t_now q_t_future q_t_draft q_t_kept q_t_shelves q_t_tape q_t_reader q_t_hiddenWay q_t_sights q_t_choice q_t_refusals v_t_isKept v_t_refusals _ (-2 : Int32) hr32) (cwV 1 hts gX7_covered_X7_refuse rfl rfl rfl (by decide +kernel) ⟨Nat.le_of_ble_eq_true rfl, Nat.le_of_ble_eq_true rfl⟩) (xPVw hK hPc hDc (ci := 7) (q0 := 0) rfl rfl) rfl rfl hl.1 rfl (lv_room (Nat.le_of_ble_eq_true rfl)) dX7_covered_10 ⟨Nat.le_of_ble_eq_true rfl, Nat.le_of_ble_eq_true rfl⟩) hP hD hS hA [0, 17] rfl rfl (fun H locs hP hD hS => ?_)
    have hP : va_P D vwCl [(q_t, oX7 q_t_now q_t_future q_t_draft q_t_kept v_t_isKept q_t_shelves q_t_tape q_t_reader q_t_hiddenWay q_t_sights q_t_choice q_t_refusals), (q_t_now, oX5 v_t_now_places q_t_now_ways q_t_now_distances v_t_now_people q_t_now_kind q_t_now_a q_t_now_home q_t_now_aim q_t_now_at v_t_now_hour v_t_now_chance v_t_now_seed), (q_t_now_ways, .inl (cy 0, 12, .inl v_t_now_ways)), (q_t_now_distances, .inl (cy 0, 144, .inl v_t_now_distances)), (q_t_now_kind, .inl (cy 0, 8, .inl v_t_now_kind)), (q_t_now_a, .inl (cy 0, 8, .inl v_t_now_a)), (q_t_now_home, .inl (cy 0, 8, .inl v_t_now_home)), (q_t_now_aim, .inl (cy 0, 8, .inl v_t_now_aim)), (q_t_now_at, .inl (cy 0, 8, .inl v_t_now_at)), (q_t_future, oX5 v_t_future_places q_t_future_ways q_t_future_distances v_t_future_people q_t_future_kind q_t_future_a q_t_future_home q_t_future_aim q_t_future_at v_t_future_hour v_t_future_chance v_t_future_seed), (q_t_future_ways, .inl (cy 0, 12, .inl v_t_future_ways)), (q_t_future_distances, .inl (cy 0, 144, .inl v_t_future_distances)), (q_t_future_kind, .inl (cy 0, 8, .inl v_t_future_kind)), (q_t_future_a, .inl (cy 0, 8, .inl v_t_future_a)), (q_t_future_home, .inl (cy 0, 8, .inl v_t_future_home)), (q_t_future_aim, .inl (cy 0, 8, .inl v_t_future_aim)), (q_t_future_at, .inl (cy 0, 8, .inl v_t_future_at)), (q_t_refusals, .inl (cy 0, 5, .inl u31))] H := hP
    have hD : va_D A [(q_t, oX7 q_t_now q_t_future q_t_draft q_t_kept v_t_isKept q_t_shelves q_t_tape q_t_reader q_t_hiddenWay q_t_sights q_t_choice q_t_refusals), (q_t_now, oX5 v_t_now_places q_t_now_ways q_t_now_distances v_t_now_people q_t_now_kind q_t_now_a q_t_now_home q_t_now_aim q_t_now_at v_t_now_hour v_t_now_chance v_t_now_seed), (q_t_now_ways, .inl (cy 0, 12, .inl v_t_now_ways)), (q_t_now_distances, .inl (cy 0, 144, .inl v_t_now_distances)), (q_t_now_kind, .inl (cy 0, 8, .inl v_t_now_kind)), (q_t_now_a, .inl (cy 0, 8, .inl v_t_now_a)), (q_t_now_home, .inl (cy 0, 8, .inl v_t_now_home)), (q_t_now_aim, .inl (cy 0, 8, .inl v_t_now_aim)), (q_t_now_at, .inl (cy 0, 8, .inl v_t_now_at)), (q_t_future, oX5 v_t_future_places q_t_future_ways q_t_future_distances v_t_future_people q_t_future_kind q_t_future_a q_t_future_home q_t_future_aim q_t_future_at v_t_future_hour v_t_future_chance v_t_future_seed), (q_t_future_ways, .inl (cy 0, 12, .inl v_t_future_ways)), (q_t_future_distances, .inl (cy 0, 144, .inl v_t_future_distances)), (q_t_future_kind, .inl (cy 0, 8, .inl v_t_future_kind)), (q_t_future_a, .inl (cy 0, 8, .inl v_t_future_a)), (q_t_future_home, .inl (cy 0, 8, .inl v_t_future_home)), (q_t_future_aim, .inl (cy 0, 8, .inl v_t_future_aim)), (q_t_future_at, .inl (cy 0, 8, .inl v_t_future_at)), (q_t_refusals, .inl (cy 0, 5, .inl u31))] := hD
    have hg0 := Option.some.inj hf
    obtain ⟨ee0, hg1⟩ := Prod.mk.inj hg0
    obtain ⟨ee1, hg2⟩ := Prod.mk.inj hg1
    obtain ⟨ee2, hg3⟩ := Prod.mk.inj hg2
    obtain ⟨ee3, hg4⟩ := Prod.mk.inj hg3
    obtain ⟨ee4, hg5⟩ := Prod.mk.inj hg4
    obtain ⟨ee5, hg6⟩ := Prod.mk.inj hg5
    obtain ⟨ee6, hg7⟩ := Prod.mk.inj hg6
    obtain ⟨ee7, hg8⟩ := Prod.mk.inj hg7
    obtain ⟨ee8, hg9⟩ := Prod.mk.inj hg8
    obtain ⟨ee9, hg10⟩ := Prod.mk.inj hg9
    obtain ⟨ee10, hg11⟩ := Prod.mk.inj hg10
    obtain ⟨ee11, hg12⟩ := Prod.mk.inj hg11
    obtain ⟨ee12, hg13⟩ := Prod.mk.inj hg12
    clear hf hg0 hg1 hg2 hg3 hg4 hg5 hg6 hg7 hg8 hg9 hg10 hg11 hg12
    subst ee0
    subst ee1
    subst ee2
    subst ee3
    subst ee4
    subst ee5
    subst ee6
    subst ee7
    subst ee8
    subst ee9
    subst ee10
    subst ee11
    subst ee12
    subst hg13
    exact W.iret hx hb hr (fun t ht hW => ⟨⟨_, (), rfl, rfl, xend ht hP⟩, hS.F ht⟩) hS.2.2 dX7_covered_13
def fX7_reach (v_t_now_places : Int32) (v_t_now_distances : Nat → Int32) (v_t_refusals : Nat → Int32) (p0 : Int32) (p1 : Int32) : Option (Int32 × (Nat → Int32)) :=
  bo1 (fX7_isPlace v_t_now_places p0) fun r1 =>
  jo0 (
    bo2 (fX7_refuse v_t_refusals (-2 : Int32)) fun r4 u5 =>
    some (r4, u5)) fun k3 =>
  if r1 = 0 then
    k3
  else
    if p1 < 0 then
      k3
    else
      if p1 ≤ (12 : Int32) then
        lo2 (fun g9 (x7 : Int32) (x8 : Int32) =>
          if v_t_now_places ≤ x8 then
            some (x7, v_t_refusals)
          else
            bo1 (fX5_distance v_t_now_distances p0 x8) fun r10 =>
            jo1 (fun (x12 : Int32) =>
              vlet (x8 + (1 : Int32)) fun x14 =>
              g9 x12 x14) fun k13 =>
            if r10 = (-1 : Int32) then
              k13 x7
            else
              if p1 < r10 then
                k13 x7
              else
                vlet (x7 + (1 : Int32)) fun x15 =>
                k13 x15) 400 (0 : Int32) (0 : Int32)
      else
        k3
set_option maxHeartbeats 4000000 in
set_option maxRecDepth 100000 in
theorem mX7_reach (l : Launch) (D : va_G) (cy : Nat → ClassId) (q_t q_t_now q_t_future q_t_draft q_t_kept q_t_shelves q_t_tape q_t_reader q_t_hiddenWay q_t_sights q_t_choice q_t_refusals q_t_now_ways q_t_now_distances q_t_now_kind q_t_now_a q_t_now_home q_t_now_aim q_t_now_at : Nat) (v_t_isKept : Int32) (v_t_now_places : Int32) (v_t_now_people : Int32) (v_t_now_hour : Int32) (v_t_now_chance : Int32) (v_t_now_seed : Int32) (v_t_now_distances : Nat → Int32) (v_t_refusals : Nat → Int32) (sz : Nat) (p0 : Int32) (p1 : Int32) {r_ : Int32} {n_t_refusals : Nat → Int32} (hf : fX7_reach v_t_now_places v_t_now_distances v_t_refusals p0 p1 = some (r_, n_t_refusals)) : Met l yX7_reach wsX7_reach ({ frames := 1, cells := 0, slots := 0, locals := 22 }) (va_Pc [.ref q_t, .int p0, .int p1] (fun U => U.heap.size = sz ∧ va_P D vwCl [(q_t, oX7 q_t_now q_t_future q_t_draft q_t_kept v_t_isKept q_t_shelves q_t_tape q_t_reader q_t_hiddenWay q_t_sights q_t_choice q_t_refusals), (q_t_now, oX5 v_t_now_places q_t_now_ways q_t_now_distances v_t_now_people q_t_now_kind q_t_now_a q_t_now_home q_t_now_aim q_t_now_at v_t_now_hour v_t_now_chance v_t_now_seed), (q_t_now_distances, .inl (cy 0, 144, .inl v_t_now_distances)), (q_t_refusals, .inl (cy 0, 5, .inl v_t_refusals))] U.heap ∧ xK D cy U ∧ va_D (fun _ => True) [(q_t, oX7 q_t_now q_t_future q_t_draft q_t_kept v_t_isKept q_t_shelves q_t_tape q_t_reader q_t_hiddenWay q_t_sights q_t_choice q_t_refusals), (q_t_now, oX5 v_t_now_places q_t_now_ways q_t_now_distances v_t_now_people q_t_now_kind q_t_now_a q_t_now_home q_t_now_aim q_t_now_at v_t_now_hour v_t_now_chance v_t_now_seed), (q_t_now_distances, .inl (cy 0, 144, .inl v_t_now_distances)), (q_t_refusals, .inl (cy 0, 5, .inl v_t_refusals))])) (va_Qi (fun (x : Int32) (_ : Unit) => x = r_) (fun _ t => va_P D vwCl [(q_t, oX7 q_t_now q_t_future q_t_draft q_t_kept v_t_isKept q_t_shelves q_t_tape q_t_reader q_t_hiddenWay q_t_sights q_t_choice q_t_refusals), (q_t_now, oX5 v_t_now_places q_t_now_ways q_t_now_distances v_t_now_people q_t_now_kind q_t_now_a q_t_now_home q_t_now_aim q_t_now_at v_t_now_hour v_t_now_chance v_t_now_seed), (q_t_now_distances, .inl (cy 0, 144, .inl v_t_now_distances)), (q_t_refusals, .inl (cy 0, 5, .inl n_t_refusals))] t.heap) (va_A [(q_t, oX7 q_t_now q_t_future q_t_draft q_t_kept v_t_isKept q_t_shelves q_t_tape q_t_reader q_t_hiddenWay q_t_sights q_t_choice q_t_refusals), (q_t_now, oX5 v_t_now_places q_t_now_ways q_t_now_distances v_t_now_people q_t_now_kind q_t_now_a q_t_now_home q_t_now_aim q_t_now_at v_t_now_hour v_t_now_chance v_t_now_seed), (q_t_now_distances, .inl (cy 0, 144, .inl v_t_now_distances)), (q_t_refusals, .inl (cy 0, 5, .inl v_t_refusals))] sz)) 0 0 (va_A [(q_t, oX7 q_t_now q_t_future q_t_draft q_t_kept v_t_isKept q_t_shelves q_t_tape q_t_reader q_t_hiddenWay q_t_sights q_t_choice q_t_refusals), (q_t_now, oX5 v_t_now_places q_t_now_ways q_t_now_distances v_t_now_people q_t_now_kind q_t_now_a q_t_now_home q_t_now_aim q_t_now_at v_t_now_hour v_t_now_chance v_t_now_seed), (q_t_now_distances, .inl (cy 0, 144, .inl v_t_now_distances)), (q_t_refusals, .inl (cy 0, 5, .inl v_t_refusals))] sz) := by
  refine Met.ofW (cc := cX7_reach) (maxL := 6) (ret := (some .int)) (by decide) rfl ?_
  intro p e s m args below meth c s₁ B hml hv
  obtain ⟨rfl, hsz, hP, hK, hD0⟩ := hv
  have hx := B.exec
  have hb := B.bytes
  have hr := B.returns
  have hts := atoms_spec (ws := wsX7_reach) B.pre
  have hown : s.vm.findClass RX7 = some m.cls := findClass_of_methodNamed B.named
  have hlocks := B.notSynchronized
  subst hsz
  have hD := hD0.self (sz := s.heap.size)
  generalize hAe : va_A [(q_t, oX7 q_t_now q_t_future q_t_draft q_t_kept v_t_isKept q_t_shelves q_t_tape q_t_reader q_t_hiddenWay q_t_sights q_t_choice q_t_refusals), (q_t_now, oX5 v_t_now_places q_t_now_ways q_t_now_distances v_t_now_people q_t_now_kind q_t_now_a q_t_now_home q_t_now_aim q_t_now_at v_t_now_hour v_t_now_chance v_t_now_seed), (q_t_now_distances, .inl (cy 0, 144, .inl v_t_now_distances)), (q_t_refusals, .inl (cy 0, 5, .inl v_t_refusals))] s.heap.size = A at hD ⊢
  have hA : ∀ q : Nat, s.heap.size ≤ q → A q := fun q h => by rw [← hAe]; exact Or.inr h
  have hS : va_S A s.heap s.heap [] := va_S.rf
  have hP : va_P D vwCl [(q_t, oX7 q_t_now q_t_future q_t_draft q_t_kept v_t_isKept q_t_shelves q_t_tape q_t_reader q_t_hiddenWay q_t_sights q_t_choice q_t_refusals), (q_t_now, oX5 v_t_now_places q_t_now_ways q_t_now_distances v_t_now_people q_t_now_kind q_t_now_a q_t_now_home q_t_now_aim q_t_now_at v_t_now_hour v_t_now_chance v_t_now_seed), (q_t_now_distances, .inl (cy 0, 144, .inl v_t_now_distances)), (q_t_refusals, .inl (cy 0, 5, .inl v_t_refusals))] s.heap := hP
  have hinX7 : ∀ w ∈ u_ws RX7 TX7 12, w ∈ wsX7_reach := by decide +kernel
  have hk10 := hts (.fieldLink RX7 10 "ShowsWhereNobodyIs" "now" "LShowsWhereNobodyIs$Town;") (by decide +kernel)
  have hinX5 : ∀ w ∈ u_ws RX5 TX5 12, w ∈ wsX7_reach := by decide +kernel
  have hk152 := hts (.fieldLink RX7 152 "ShowsWhereNobodyIs$Town" "places" "I") (by decide +kernel)
  have hl := lv_entry ([.ref q_t, .int p0, .int p1]) (n := 6) (Nat.le_of_ble_eq_true rfl)
  rw [lg_entry_eq]
  generalize (lg_sl ([.ref q_t, .int p0, .int p1]) ++ List.replicate (6 - (lg_sl ([.ref q_t, .int p0, .int p1])).length) Slot.unset).toArray = ls at hl ⊢
  have hl : lv_has ls 6 [(0, .ref q_t), (1, .int p0), (2, .int p1)] := hl
  unfold fX7_reach at hf
  refine lv_aload_n hx hb dX7_reach_0 rfl (lv_at hl 0 rfl) ?_
  refine lv_iload_n hx hb dX7_reach_1 rfl (lv_at hl 1 rfl) ?_
  obtain ⟨r1, hr2, hf⟩ := boE1 hf
  have hPc := hP.sub (ws' := [(q_t, oX7 q_t_now q_t_future q_t_draft q_t_kept v_t_isKept q_t_shelves q_t_tape q_t_reader q_t_hiddenWay q_t_sights q_t_choice q_t_refusals), (q_t_now, oX5 v_t_now_places q_t_now_ways q_t_now_distances v_t_now_people q_t_now_kind q_t_now_a q_t_now_home q_t_now_aim q_t_now_at v_t_now_hour v_t_now_chance v_t_now_seed)]) [0, 1] rfl
  refine xcSi (va_runV (As := [.int p0]) (rest := []) ⟨hx, hb, hml, hown, hts⟩ (mX7_isPlace l D cy q_t q_t_now q_t_future q_t_draft q_t_kept q_t_shelves q_t_tape q_t_reader q_t_hiddenWay q_t_sights q_t_choice q_t_refusals q_t_now_ways q_t_now_distances q_t_now_kind q_t_now_a q_t_now_home q_t_now_aim q_t_now_at v_t_isKept v_t_now_places v_t_now_people v_t_now_hour v_t_now_chance v_t_now_seed  p0 hr2) (cwV 1 hts gX7_reach_X7_isPlace rfl rfl rfl (by decide +kernel) ⟨Nat.le_of_ble_eq_true rfl, Nat.le_of_ble_eq_true rfl⟩) (xPV hK hPc (ci := 7) (q0 := 0) rfl rfl) rfl rfl hl.1 rfl (lv_room (Nat.le_of_ble_eq_true rfl)) dX7_reach_2 ⟨Nat.le_of_ble_eq_true rfl, Nat.le_of_ble_eq_true rfl⟩) ?_
  refine jww0 18 [] (fun  H locs ls => va_P D vwCl [(q_t, oX7 q_t_now q_t_future q_t_draft q_t_kept v_t_isKept q_t_shelves q_t_tape q_t_reader q_t_hiddenWay q_t_sights q_t_choice q_t_refusals), (q_t_now, oX5 v_t_now_places q_t_now_ways q_t_now_distances v_t_now_people q_t_now_kind q_t_now_a q_t_now_home q_t_now_aim q_t_now_at v_t_now_hour v_t_now_chance v_t_now_seed), (q_t_now_distances, .inl (cy 0, 144, .inl v_t_now_distances)), (q_t_refusals, .inl (cy 0, 5, .inl v_t_refusals))] H ∧ va_D A [(q_t, oX7 q_t_now q_t_future q_t_draft q_t_kept v_t_isKept q_t_shelves q_t_tape q_t_reader q_t_hiddenWay q_t_sights q_t_choice q_t_refusals), (q_t_now, oX5 v_t_now_places q_t_now_ways q_t_now_distances v_t_now_people q_t_now_kind q_t_now_a q_t_now_home q_t_now_aim q_t_now_at v_t_now_hour v_t_now_chance v_t_now_seed), (q_t_now_distances, .inl (cy 0, 144, .inl v_t_now_distances)), (q_t_refusals, .inl (cy 0, 5, .inl v_t_refusals))] ∧ va_S A s.heap H locs ∧ lv_has ls 6 [(0, .ref q_t)]) hf (fun  H locs ls hI hf => ?_) (fun k3 J18 hf => ?_)
  · obtain ⟨hP, hD, hS, hl⟩ := hI
    refine lv_aload_n hx hb dX7_reach_18 rfl (lv_at hl 0 rfl) ?_
    refine lv_bipush (v := (-2)) hx hb dX7_reach_19 (by decide) ?_
    obtain ⟨r4, u5, hr6, hf⟩ := boE2 hf
    have hPc := hP.sub (ws' := [(q_t, oX7 q_t_now q_t_future q_t_draft q_t_kept v_t_isKept q_t_shelves q_t_tape q_t_reader q_t_hiddenWay q_t_sights q_t_choice q_t_refusals), (q_t_refusals, .inl (cy 0, 5, .inl v_t_refusals))]) [0, 3] rfl
    have hDc := hD.sub (ws' := [(q_t, oX7 q_t_now q_t_future q_t_draft q_t_kept v_t_isKept q_t_shelves q_t_tape q_t_reader q_t_hiddenWay q_t_sights q_t_choice q_t_refusals), (q_t_refusals, .inl (cy 0, 5, .inl v_t_refusals))]) [0, 3] (by decide) rfl
    refine xcQi (w1 := [(q_t, oX7 q_t_now q_t_future q_t_draft q_t_kept v_t_isKept q_t_shelves q_t_tape q_t_reader q_t_hiddenWay q_t_sights q_t_choice q_t_refusals), (q_t_refusals, .inl (cy 0, 5, .inl u5))]) (va_runV (As := [.int (-2 : Int32)]) (rest := []) ⟨hx, hb, hml, hown, hts⟩ (mX7_refuse l D cy q_t q_t_now q_t_future q_t_draft q_t_kept q_t_shelves q_t_tape q_t_reader q_t_hiddenWay q_t_sights q_t_choice q_t_refusals v_t_isKept v_t_refusals _ (-2 : Int32) hr6) (cwV 1 hts gX7_reach_X7_refuse rfl rfl rfl (by decide +kernel) ⟨Nat.le_of_ble_eq_true rfl, Nat.le_of_ble_eq_true rfl⟩) (xPVw hK hPc hDc (ci := 7) (q0 := 0) rfl rfl) rfl rfl hl.1 rfl (lv_room (Nat.le_of_ble_eq_true rfl)) dX7_reach_21 ⟨Nat.le_of_ble_eq_true rfl, Nat.le_of_ble_eq_true rfl⟩) hP hD hS hA [0, 3] rfl rfl (fun H locs hP hD hS => ?_)
    have hP : va_P D vwCl [(q_t, oX7 q_t_now q_t_future q_t_draft q_t_kept v_t_isKept q_t_shelves q_t_tape q_t_reader q_t_hiddenWay q_t_sights q_t_choice q_t_refusals), (q_t_now, oX5 v_t_now_places q_t_now_ways q_t_now_distances v_t_now_people q_t_now_kind q_t_now_a q_t_now_home q_t_now_aim q_t_now_at v_t_now_hour v_t_now_chance v_t_now_seed), (q_t_now_distances, .inl (cy 0, 144, .inl v_t_now_distances)), (q_t_refusals, .inl (cy 0, 5, .inl u5))] H := hP
    have hD : va_D A [(q_t, oX7 q_t_now q_t_future q_t_draft q_t_kept v_t_isKept q_t_shelves q_t_tape q_t_reader q_t_hiddenWay q_t_sights q_t_choice q_t_refusals), (q_t_now, oX5 v_t_now_places q_t_now_ways q_t_now_distances v_t_now_people q_t_now_kind q_t_now_a q_t_now_home q_t_now_aim q_t_now_at v_t_now_hour v_t_now_chance v_t_now_seed), (q_t_now_distances, .inl (cy 0, 144, .inl v_t_now_distances)), (q_t_refusals, .inl (cy 0, 5, .inl u5))] := hD
    cases hf
    exact W.iret hx hb hr (fun t ht hW => ⟨⟨_, (), rfl, rfl, xend ht hP⟩, hS.F ht⟩) hS.2.2 dX7_reach_24
  · refine lv_if_eq (tgt := 18) hx hb dX7_reach_5 (by decide) (fun c21 => ?_) (fun c21 => ?_)
    · have hf := ifT hf c21
      clear c21
      exact J18 _ _ ls ⟨hP, hD, hS, lv_sub hl [0] rfl⟩ hf
    · have hf := ifF hf c21
      clear c21
      refine lv_iload_n hx hb dX7_reach_8 rfl (lv_at hl 2 rfl) ?_
      refine lv_if_lt (tgt := 18) hx hb dX7_reach_9 (by decide) (fun c20 => ?_) (fun c20 => ?_)
      · have hf := ifT hf c20
        clear c20
        exact J18 _ _ ls ⟨hP, hD, hS, lv_sub hl [0] rfl⟩ hf
      · have hf := ifF hf c20
        clear c20
        refine lv_iload_n hx hb dX7_reach_12 rfl (lv_at hl 2 rfl) ?_
        refine lv_bipush (v := 12) hx hb dX7_reach_13 (by decide) ?_
        refine lv_icmp_le (tgt := 25) hx hb dX7_reach_15 (by decide) (fun c19 => ?_) (fun c19 => ?_)
        · have hf := ifT hf c19
          clear c19
          refine lv_iconst (v := 0) hx hb dX7_reach_25 (by decide) ?_
          refine lv_istore_n (lv' := [(3, .int (0 : Int32)), (0, .ref q_t), (1, .int p0), (2, .int p1)]) hx hb dX7_reach_26 rfl hl (by decide) rfl (fun ls hl => ?_)
          refine lv_iconst (v := 0) hx hb dX7_reach_27 (by decide) ?_
          refine lv_istore (lv' := [(4, .int (0 : Int32)), (3, .int (0 : Int32)), (0, .ref q_t), (1, .int p0), (2, .int p1)]) hx hb dX7_reach_28 hl (by decide) rfl (fun ls hl => ?_)
          refine wlw2 30 (fun _ _ => []) (fun (x7 : Int32) (x8 : Int32) H locs ls => va_P D vwCl [(q_t, oX7 q_t_now q_t_future q_t_draft q_t_kept v_t_isKept q_t_shelves q_t_tape q_t_reader q_t_hiddenWay q_t_sights q_t_choice q_t_refusals), (q_t_now, oX5 v_t_now_places q_t_now_ways q_t_now_distances v_t_now_people q_t_now_kind q_t_now_a q_t_now_home q_t_now_aim q_t_now_at v_t_now_hour v_t_now_chance v_t_now_seed), (q_t_now_distances, .inl (cy 0, 144, .inl v_t_now_distances)), (q_t_refusals, .inl (cy 0, 5, .inl v_t_refusals))] H ∧ va_D A [(q_t, oX7 q_t_now q_t_future q_t_draft q_t_kept v_t_isKept q_t_shelves q_t_tape q_t_reader q_t_hiddenWay q_t_sights q_t_choice q_t_refusals), (q_t_now, oX5 v_t_now_places q_t_now_ways q_t_now_distances v_t_now_people q_t_now_kind q_t_now_a q_t_now_home q_t_now_aim q_t_now_at v_t_now_hour v_t_now_chance v_t_now_seed), (q_t_now_distances, .inl (cy 0, 144, .inl v_t_now_distances)), (q_t_refusals, .inl (cy 0, 5, .inl v_t_refusals))] ∧ va_S A s.heap H locs ∧ lv_has ls 6 [(3, .int x7), (4, .int x8), (0, .ref q_t), (1, .int p0), (2, .int p1)]) (fun g9 L30 x7 x8 H locs ls hI hf => ?_) 400 (0 : Int32) (0 : Int32) _ _ ls ⟨hP, hD, hS, lv_sub hl [1, 0, 2, 3, 4] rfl⟩ hf
          obtain ⟨hP, hD, hS, hl⟩ := hI
          refine lv_iload hx hb dX7_reach_30 (lv_at hl 1 rfl) ?_
          refine lv_aload_n hx hb dX7_reach_32 rfl (lv_at hl 2 rfl) ?_
          refine va_get (D := D) (ci := 7) (v := .ref q_t_now) (C := RX7) (T := TX7) (N := 12) hx hb hts hinX7 hown hK.1 hP 0 rfl rfl 0 (by decide) hk10 (fun _ h9 => h9) rfl dX7_reach_33 ?_
          refine va_get (D := D) (ci := 5) (v := .int v_t_now_places) (C := RX5) (T := TX5) (N := 12) hx hb hts hinX5 hown hK.1 hP 1 rfl rfl 0 (by decide) hk152 (fun _ h9 => h9) rfl dX7_reach_36 ?_
          refine lv_icmp_ge (tgt := 75) hx hb dX7_reach_39 (by decide) (fun c18 => ?_) (fun c18 => ?_)
          · have hf := ifT hf c18
            clear c18
            refine lv_iload_n hx hb dX7_reach_75 rfl (lv_at hl 0 rfl) ?_
            cases hf
            exact W.iret hx hb hr (fun t ht hW => ⟨⟨_, (), rfl, rfl, xend ht hP⟩, hS.F ht⟩) hS.2.2 dX7_reach_76
          · have hf := ifF hf c18
            clear c18
            refine lv_aload_n hx hb dX7_reach_42 rfl (lv_at hl 2 rfl) ?_
            refine va_get (D := D) (ci := 7) (v := .ref q_t_now) (C := RX7) (T := TX7) (N := 12) hx hb hts hinX7 hown hK.1 hP 0 rfl rfl 0 (by decide) hk10 (fun _ h9 => h9) rfl dX7_reach_43 ?_
            refine lv_iload_n hx hb dX7_reach_46 rfl (lv_at hl 3 rfl) ?_
            refine lv_iload hx hb dX7_reach_47 (lv_at hl 1 rfl) ?_
            obtain ⟨r10, hr11, hf⟩ := boE1 hf
            have hPc := hP.sub (ws' := [(q_t_now, oX5 v_t_now_places q_t_now_ways q_t_now_distances v_t_now_people q_t_now_kind q_t_now_a q_t_now_home q_t_now_aim q_t_now_at v_t_now_hour v_t_now_chance v_t_now_seed), (q_t_now_distances, .inl (cy 0, 144, .inl v_t_now_distances))]) [1, 2] rfl
            refine xcSi (va_runV (As := [.int p0, .int x8]) (rest := []) ⟨hx, hb, hml, hown, hts⟩ (mX5_distance l D cy q_t_now q_t_now_ways q_t_now_distances q_t_now_kind q_t_now_a q_t_now_home q_t_now_aim q_t_now_at v_t_now_places v_t_now_people v_t_now_hour v_t_now_chance v_t_now_seed v_t_now_distances  p0 x8 hr11) (cwV 2 hts gX7_reach_X5_distance rfl rfl rfl (by decide +kernel) ⟨Nat.le_of_ble_eq_true rfl, Nat.le_of_ble_eq_true rfl⟩) (xPV hK hPc (ci := 5) (q0 := 0) rfl rfl) rfl rfl hl.1 rfl (lv_room (Nat.le_of_ble_eq_true rfl)) dX7_reach_49 ⟨Nat.le_of_ble_eq_true rfl, Nat.le_of_ble_eq_true rfl⟩) ?_
            refine lv_istore (lv' := [(5, .int r10), (3, .int x7), (4, .int x8), (0, .ref q_t), (1, .int p0), (2, .int p1)]) hx hb dX7_reach_52 hl (by decide) rfl (fun ls hl => ?_)
            refine lv_iload hx hb dX7_reach_54 (lv_at hl 0 rfl) ?_
            refine lv_iconst (v := (-1)) hx hb dX7_reach_56 (by decide) ?_
            refine jww1 69 (fun (x12 : Int32) => []) (fun (x12 : Int32) H locs ls => va_P D vwCl [(q_t, oX7 q_t_now q_t_future q_t_draft q_t_kept v_t_isKept q_t_shelves q_t_tape q_t_reader q_t_hiddenWay q_t_sights q_t_choice q_t_refusals), (q_t_now, oX5 v_t_now_places q_t_now_ways q_t_now_distances v_t_now_people q_t_now_kind q_t_now_a q_t_now_home q_t_now_aim q_t_now_at v_t_now_hour v_t_now_chance v_t_now_seed), (q_t_now_distances, .inl (cy 0, 144, .inl v_t_now_distances)), (q_t_refusals, .inl (cy 0, 5, .inl v_t_refusals))] H ∧ va_D A [(q_t, oX7 q_t_now q_t_future q_t_draft q_t_kept v_t_isKept q_t_shelves q_t_tape q_t_reader q_t_hiddenWay q_t_sights q_t_choice q_t_refusals), (q_t_now, oX5 v_t_now_places q_t_now_ways q_t_now_distances v_t_now_people q_t_now_kind q_t_now_a q_t_now_home q_t_now_aim q_t_now_at v_t_now_hour v_t_now_chance v_t_now_seed), (q_t_now_distances, .inl (cy 0, 144, .inl v_t_now_distances)), (q_t_refusals, .inl (cy 0, 5, .inl v_t_refusals))] ∧ va_S A s.heap H locs ∧ lv_has ls 6 [(3, .int x12), (0, .ref q_t), (1, .int p0), (2, .int p1), (4, .int x8)]) hf (fun x12 H locs ls hI hf => ?_) (fun k13 J69 hf => ?_)
            · obtain ⟨hP, hD, hS, hl⟩ := hI
              obtain ⟨x14, ex14⟩ : ∃ y : Int32, y = x8 + (1 : Int32) := ⟨_, rfl⟩
              have hf := vlE hf ex14
              refine lv_iinc (v := x14) (lv' := [(4, .int x14), (3, .int x12), (0, .ref q_t), (1, .int p0), (2, .int p1)]) hx hb dX7_reach_69 hl (k := 4) rfl (by rw [ex14]; rfl) (by decide) rfl (fun ls hl => ?_)
              clear ex14
              refine lv_goto (tgt := 30) hx hb dX7_reach_72 (by decide) ?_
              exact L30 x12 x14 _ _ ls ⟨hP, hD, hS, lv_sub hl [1, 0, 2, 3, 4] rfl⟩ hf
            · refine lv_icmp_eq (tgt := 69) hx hb dX7_reach_57 (by decide) (fun c17 => ?_) (fun c17 => ?_)
              · have hf := ifT hf c17
                clear c17
                exact J69 x7 _ _ ls ⟨hP, hD, hS, lv_sub hl [1, 3, 4, 5, 2] rfl⟩ hf
              · have hf := ifF hf c17
                clear c17
                refine lv_iload hx hb dX7_reach_60 (lv_at hl 0 rfl) ?_
                refine lv_iload_n hx hb dX7_reach_62 rfl (lv_at hl 5 rfl) ?_
                refine lv_icmp_gt (tgt := 69) hx hb dX7_reach_63 (by decide) (fun c16 => ?_) (fun c16 => ?_)
                · have hf := ifT hf c16
                  clear c16
                  exact J69 x7 _ _ ls ⟨hP, hD, hS, lv_sub hl [1, 3, 4, 5, 2] rfl⟩ hf
                · have hf := ifF hf c16
                  clear c16
                  obtain ⟨x15, ex15⟩ : ∃ y : Int32, y = x7 + (1 : Int32) := ⟨_, rfl⟩
                  have hf := vlE hf ex15
                  refine lv_iinc (v := x15) (lv' := [(3, .int x15), (5, .int r10), (4, .int x8), (0, .ref q_t), (1, .int p0), (2, .int p1)]) hx hb dX7_reach_66 hl (k := 1) rfl (by rw [ex15]; rfl) (by decide) rfl (fun ls hl => ?_)
                  clear ex15
                  exact J69 x15 _ _ ls ⟨hP, hD, hS, lv_sub hl [0, 3, 4, 5, 2] rfl⟩ hf
        · have hf := ifF hf c19
          clear c19
          exact J18 _ _ ls ⟨hP, hD, hS, lv_sub hl [0] rfl⟩ hf
def fX7_farthest (v_t_now_places : Int32) (v_t_now_distances : Nat → Int32) (v_t_choice_found : Int32) (v_t_choice_worth : Int32) (v_t_refusals : Nat → Int32) (p0 : Int32) : Option (Int32 × Int32 × Int32 × (Nat → Int32)) :=
  bo1 (fX7_isPlace v_t_now_places p0) fun r1 =>
  if r1 = 0 then
    bo2 (fX7_refuse v_t_refusals (-2 : Int32)) fun r17 u18 =>
    some (r17, v_t_choice_found, v_t_choice_worth, u18)
  else
    bo2 (fX0_begin p0 (0 : Int32)) fun u3 u4 =>
    lo3 (fun g9 (x6 : Int32) (u7 : Int32) (u8 : Int32) =>
      if v_t_now_places ≤ x6 then
        some (u7, u7, u8, v_t_refusals)
      else
        bo1 (fX5_distance v_t_now_distances p0 x6) fun r10 =>
        bo2 (fX0_offer u7 u8 x6 r10) fun u12 u13 =>
        vlet (x6 + (1 : Int32)) fun x15 =>
        g9 x15 u12 u13) 400 (0 : Int32) u3 u4
set_option maxHeartbeats 4000000 in
set_option maxRecDepth 100000 in
theorem mX7_farthest (l : Launch) (D : va_G) (cy : Nat → ClassId) (q_t q_t_now q_t_future q_t_draft q_t_kept q_t_shelves q_t_tape q_t_reader q_t_hiddenWay q_t_sights q_t_choice q_t_refusals q_t_now_ways q_t_now_distances q_t_now_kind q_t_now_a q_t_now_home q_t_now_aim q_t_now_at : Nat) (v_t_isKept : Int32) (v_t_now_places : Int32) (v_t_now_people : Int32) (v_t_now_hour : Int32) (v_t_now_chance : Int32) (v_t_now_seed : Int32) (v_t_now_distances : Nat → Int32) (v_t_choice_found : Int32) (v_t_choice_worth : Int32) (v_t_refusals : Nat → Int32) (sz : Nat) (p0 : Int32) {r_ : Int32} {n_t_choice_found : Int32} {n_t_choice_worth : Int32} {n_t_refusals : Nat → Int32} (hf : fX7_farthest v_t_now_places v_t_now_distances v_t_choice_found v_t_choice_worth v_t_refusals p0 = some (r_, n_t_choice_found, n_t_choice_worth, n_t_refusals)) : Met l yX7_farthest wsX7_farthest ({ frames := 1, cells := 0, slots := 0, locals := 22 }) (va_Pc [.ref q_t, .int p0] (fun U => U.heap.size = sz ∧ va_P D vwCl [(q_t, oX7 q_t_now q_t_future q_t_draft q_t_kept v_t_isKept q_t_shelves q_t_tape q_t_reader q_t_hiddenWay q_t_sights q_t_choice q_t_refusals), (q_t_now, oX5 v_t_now_places q_t_now_ways q_t_now_distances v_t_now_people q_t_now_kind q_t_now_a q_t_now_home q_t_now_aim q_t_now_at v_t_now_hour v_t_now_chance v_t_now_seed), (q_t_now_distances, .inl (cy 0, 144, .inl v_t_now_distances)), (q_t_choice, oX0 v_t_choice_found v_t_choice_worth), (q_t_refusals, .inl (cy 0, 5, .inl v_t_refusals))] U.heap ∧ xK D cy U ∧ va_D (fun _ => True) [(q_t, oX7 q_t_now q_t_future q_t_draft q_t_kept v_t_isKept q_t_shelves q_t_tape q_t_reader q_t_hiddenWay q_t_sights q_t_choice q_t_refusals), (q_t_now, oX5 v_t_now_places q_t_now_ways q_t_now_distances v_t_now_people q_t_now_kind q_t_now_a q_t_now_home q_t_now_aim q_t_now_at v_t_now_hour v_t_now_chance v_t_now_seed), (q_t_now_distances, .inl (cy 0, 144, .inl v_t_now_distances)), (q_t_choice, oX0 v_t_choice_found v_t_choice_worth), (q_t_refusals, .inl (cy 0, 5, .inl v_t_refusals))])) (va_Qi (fun (x : Int32) (_ : Unit) => x = r_) (fun _ t => va_P D vwCl [(q_t, oX7 q_t_now q_t_future q_t_draft q_t_kept v_t_isKept q_t_shelves q_t_tape q_t_reader q_t_hiddenWay q_t_sights q_t_choice q_t_refusals), (q_t_now, oX5 v_t_now_places q_t_now_ways q_t_now_distances v_t_now_people q_t_now_kind q_t_now_a q_t_now_home q_t_now_aim q_t_now_at v_t_now_hour v_t_now_chance v_t_now_seed), (q_t_now_distances, .inl (cy 0, 144, .inl v_t_now_distances)), (q_t_choice, oX0 n_t_choice_found n_t_choice_worth), (q_t_refusals, .inl (cy 0, 5, .inl n_t_refusals))] t.heap) (va_A [(q_t, oX7 q_t_now q_t_future q_t_draft q_t_kept v_t_isKept q_t_shelves q_t_tape q_t_reader q_t_hiddenWay q_t_sights q_t_choice q_t_refusals), (q_t_now, oX5 v_t_now_places q_t_now_ways q_t_now_distances v_t_now_people q_t_now_kind q_t_now_a q_t_now_home q_t_now_aim q_t_now_at v_t_now_hour v_t_now_chance v_t_now_seed), (q_t_now_distances, .inl (cy 0, 144, .inl v_t_now_distances)), (q_t_choice, oX0 v_t_choice_found v_t_choice_worth), (q_t_refusals, .inl (cy 0, 5, .inl v_t_refusals))] sz)) 0 0 (va_A [(q_t, oX7 q_t_now q_t_future q_t_draft q_t_kept v_t_isKept q_t_shelves q_t_tape q_t_reader q_t_hiddenWay q_t_sights q_t_choice q_t_refusals), (q_t_now, oX5 v_t_now_places q_t_now_ways q_t_now_distances v_t_now_people q_t_now_kind q_t_now_a q_t_now_home q_t_now_aim q_t_now_at v_t_now_hour v_t_now_chance v_t_now_seed), (q_t_now_distances, .inl (cy 0, 144, .inl v_t_now_distances)), (q_t_choice, oX0 v_t_choice_found v_t_choice_worth), (q_t_refusals, .inl (cy 0, 5, .inl v_t_refusals))] sz) := by
  refine Met.ofW (cc := cX7_farthest) (maxL := 3) (ret := (some .int)) (by decide) rfl ?_
  intro p e s m args below meth c s₁ B hml hv
  obtain ⟨rfl, hsz, hP, hK, hD0⟩ := hv
  have hx := B.exec
  have hb := B.bytes
  have hr := B.returns
  have hts := atoms_spec (ws := wsX7_farthest) B.pre
  have hown : s.vm.findClass RX7 = some m.cls := findClass_of_methodNamed B.named
  have hlocks := B.notSynchronized
  subst hsz
  have hD := hD0.self (sz := s.heap.size)
  generalize hAe : va_A [(q_t, oX7 q_t_now q_t_future q_t_draft q_t_kept v_t_isKept q_t_shelves q_t_tape q_t_reader q_t_hiddenWay q_t_sights q_t_choice q_t_refusals), (q_t_now, oX5 v_t_now_places q_t_now_ways q_t_now_distances v_t_now_people q_t_now_kind q_t_now_a q_t_now_home q_t_now_aim q_t_now_at v_t_now_hour v_t_now_chance v_t_now_seed), (q_t_now_distances, .inl (cy 0, 144, .inl v_t_now_distances)), (q_t_choice, oX0 v_t_choice_found v_t_choice_worth), (q_t_refusals, .inl (cy 0, 5, .inl v_t_refusals))] s.heap.size = A at hD ⊢
  have hA : ∀ q : Nat, s.heap.size ≤ q → A q := fun q h => by rw [← hAe]; exact Or.inr h
  have hS : va_S A s.heap s.heap [] := va_S.rf
  have hP : va_P D vwCl [(q_t, oX7 q_t_now q_t_future q_t_draft q_t_kept v_t_isKept q_t_shelves q_t_tape q_t_reader q_t_hiddenWay q_t_sights q_t_choice q_t_refusals), (q_t_now, oX5 v_t_now_places q_t_now_ways q_t_now_distances v_t_now_people q_t_now_kind q_t_now_a q_t_now_home q_t_now_aim q_t_now_at v_t_now_hour v_t_now_chance v_t_now_seed), (q_t_now_distances, .inl (cy 0, 144, .inl v_t_now_distances)), (q_t_choice, oX0 v_t_choice_found v_t_choice_worth), (q_t_refusals, .inl (cy 0, 5, .inl v_t_refusals))] s.heap := hP
  have hinX7 : ∀ w ∈ u_ws RX7 TX7 12, w ∈ wsX7_farthest := by decide +kernel
  have hk61 := hts (.fieldLink RX7 61 "ShowsWhereNobodyIs" "choice" "LShowsWhereNobodyIs$Choice;") (by decide +kernel)
  have hk10 := hts (.fieldLink RX7 10 "ShowsWhereNobodyIs" "now" "LShowsWhereNobodyIs$Town;") (by decide +kernel)
  have hinX5 : ∀ w ∈ u_ws RX5 TX5 12, w ∈ wsX7_farthest := by decide +kernel
  have hk152 := hts (.fieldLink RX7 152 "ShowsWhereNobodyIs$Town" "places" "I") (by decide +kernel)
  have hinX0 : ∀ w ∈ u_ws RX0 TX0 2, w ∈ wsX7_farthest := by decide +kernel
  have hk251 := hts (.fieldLink RX7 251 "ShowsWhereNobodyIs$Choice" "found" "I") (by decide +kernel)
  have hl := lv_entry ([.ref q_t, .int p0]) (n := 3) (Nat.le_of_ble_eq_true rfl)
  rw [lg_entry_eq]
  generalize (lg_sl ([.ref q_t, .int p0]) ++ List.replicate (3 - (lg_sl ([.ref q_t, .int p0])).length) Slot.unset).toArray = ls at hl ⊢
  have hl : lv_has ls 3 [(0, .ref q_t), (1, .int p0)] := hl
  unfold fX7_farthest at hf
  refine lv_aload_n hx hb dX7_farthest_0 rfl (lv_at hl 0 rfl) ?_
  refine lv_iload_n hx hb dX7_farthest_1 rfl (lv_at hl 1 rfl) ?_
  obtain ⟨r1, hr2, hf⟩ := boE1 hf
  have hPc := hP.sub (ws' := [(q_t, oX7 q_t_now q_t_future q_t_draft q_t_kept v_t_isKept q_t_shelves q_t_tape q_t_reader q_t_hiddenWay q_t_sights q_t_choice q_t_refusals), (q_t_now, oX5 v_t_now_places q_t_now_ways q_t_now_distances v_t_now_people q_t_now_kind q_t_now_a q_t_now_home q_t_now_aim q_t_now_at v_t_now_hour v_t_now_chance v_t_now_seed)]) [0, 1] rfl
  refine xcSi (va_runV (As := [.int p0]) (rest := []) ⟨hx, hb, hml, hown, hts⟩ (mX7_isPlace l D cy q_t q_t_now q_t_future q_t_draft q_t_kept q_t_shelves q_t_tape q_t_reader q_t_hiddenWay q_t_sights q_t_choice q_t_refusals q_t_now_ways q_t_now_distances q_t_now_kind q_t_now_a q_t_now_home q_t_now_aim q_t_now_at v_t_isKept v_t_now_places v_t_now_people v_t_now_hour v_t_now_chance v_t_now_seed  p0 hr2) (cwV 1 hts gX7_farthest_X7_isPlace rfl rfl rfl (by decide +kernel) ⟨Nat.le_of_ble_eq_true rfl, Nat.le_of_ble_eq_true rfl⟩) (xPV hK hPc (ci := 7) (q0 := 0) rfl rfl) rfl rfl hl.1 rfl (lv_room (Nat.le_of_ble_eq_true rfl)) dX7_farthest_2 ⟨Nat.le_of_ble_eq_true rfl, Nat.le_of_ble_eq_true rfl⟩) ?_
  refine lv_if_ne (tgt := 15) hx hb dX7_farthest_5 (by decide) (fun c20 => ?_) (fun c20 => ?_)
  · have hf := ifF hf c20
    clear c20
    refine lv_aload_n hx hb dX7_farthest_15 rfl (lv_at hl 0 rfl) ?_
    refine va_get (D := D) (ci := 7) (v := .ref q_t_choice) (C := RX7) (T := TX7) (N := 12) hx hb hts hinX7 hown hK.1 hP 0 rfl rfl 10 (by decide) hk61 (fun _ h9 => h9) rfl dX7_farthest_16 ?_
    refine lv_iload_n hx hb dX7_farthest_19 rfl (lv_at hl 1 rfl) ?_
    refine lv_iconst (v := 0) hx hb dX7_farthest_20 (by decide) ?_
    obtain ⟨u3, u4, hr5, hf⟩ := boE2 hf
    have hPc := hP.sub (ws' := [(q_t_choice, oX0 v_t_choice_found v_t_choice_worth)]) [3] rfl
    have hDc := hD.sub (ws' := [(q_t_choice, oX0 v_t_choice_found v_t_choice_worth)]) [3] (by decide) rfl
    refine xcQv (w1 := [(q_t_choice, oX0 u3 u4)]) (va_runV (As := [.int p0, .int (0 : Int32)]) (rest := []) ⟨hx, hb, hml, hown, hts⟩ (mX0_begin l D cy q_t_choice v_t_choice_found v_t_choice_worth _ p0 (0 : Int32) hr5) (cwV 2 hts gX7_farthest_X0_begin rfl rfl rfl (by decide +kernel) ⟨Nat.le_of_ble_eq_true rfl, Nat.le_of_ble_eq_true rfl⟩) (xPVw hK hPc hDc (ci := 0) (q0 := 0) rfl rfl) rfl rfl hl.1 rfl (lv_room (Nat.le_of_ble_eq_true rfl)) dX7_farthest_21 ⟨Nat.le_of_ble_eq_true rfl, Nat.le_of_ble_eq_true rfl⟩) hP hD hS hA [3] rfl rfl (fun H locs hP hD hS => ?_)
    have hP : va_P D vwCl [(q_t, oX7 q_t_now q_t_future q_t_draft q_t_kept v_t_isKept q_t_shelves q_t_tape q_t_reader q_t_hiddenWay q_t_sights q_t_choice q_t_refusals), (q_t_now, oX5 v_t_now_places q_t_now_ways q_t_now_distances v_t_now_people q_t_now_kind q_t_now_a q_t_now_home q_t_now_aim q_t_now_at v_t_now_hour v_t_now_chance v_t_now_seed), (q_t_now_distances, .inl (cy 0, 144, .inl v_t_now_distances)), (q_t_choice, oX0 u3 u4), (q_t_refusals, .inl (cy 0, 5, .inl v_t_refusals))] H := hP
    have hD : va_D A [(q_t, oX7 q_t_now q_t_future q_t_draft q_t_kept v_t_isKept q_t_shelves q_t_tape q_t_reader q_t_hiddenWay q_t_sights q_t_choice q_t_refusals), (q_t_now, oX5 v_t_now_places q_t_now_ways q_t_now_distances v_t_now_people q_t_now_kind q_t_now_a q_t_now_home q_t_now_aim q_t_now_at v_t_now_hour v_t_now_chance v_t_now_seed), (q_t_now_distances, .inl (cy 0, 144, .inl v_t_now_distances)), (q_t_choice, oX0 u3 u4), (q_t_refusals, .inl (cy 0, 5, .inl v_t_refusals))] := hD
    refine lv_iconst (v := 0) hx hb dX7_farthest_24 (by decide) ?_
    refine lv_istore_n (lv' := [(2, .int (0 : Int32)), (0, .ref q_t), (1, .int p0)]) hx hb dX7_farthest_25 rfl hl (by decide) rfl (fun ls hl => ?_)
    refine wlw3 26 (fun _ _ _ => []) (fun (x6 : Int32) (u7 : Int32) (u8 : Int32) H locs ls => va_P D vwCl [(q_t, oX7 q_t_now q_t_future q_t_draft q_t_kept v_t_isKept q_t_shelves q_t_tape q_t_reader q_t_hiddenWay q_t_sights q_t_choice q_t_refusals), (q_t_now, oX5 v_t_now_places q_t_now_ways q_t_now_distances v_t_now_people q_t_now_kind q_t_now_a q_t_now_home q_t_now_aim q_t_now_at v_t_now_hour v_t_now_chance v_t_now_seed), (q_t_now_distances, .inl (cy 0, 144, .inl v_t_now_distances)), (q_t_choice, oX0 u7 u8), (q_t_refusals, .inl (cy 0, 5, .inl v_t_refusals))] H ∧ va_D A [(q_t, oX7 q_t_now q_t_future q_t_draft q_t_kept v_t_isKept q_t_shelves q_t_tape q_t_reader q_t_hiddenWay q_t_sights q_t_choice q_t_refusals), (q_t_now, oX5 v_t_now_places q_t_now_ways q_t_now_distances v_t_now_people q_t_now_kind q_t_now_a q_t_now_home q_t_now_aim q_t_now_at v_t_now_hour v_t_now_chance v_t_now_seed), (q_t_now_distances, .inl (cy 0, 144, .inl v_t_now_distances)), (q_t_choice, oX0 u7 u8), (q_t_refusals, .inl (cy 0, 5, .inl v_t_refusals))] ∧ va_S A s.heap H locs ∧ lv_has ls 3 [(2, .int x6), (0, .ref q_t), (1, .int p0)]) (fun g9 L26 x6 u7 u8 H locs ls hI hf => ?_) 400 (0 : Int32) u3 u4 _ _ ls ⟨hP, hD, hS, lv_sub hl [0, 1, 2] rfl⟩ hf
    obtain ⟨hP, hD, hS, hl⟩ := hI
    refine lv_iload_n hx hb dX7_farthest_26 rfl (lv_at hl 0 rfl) ?_
    refine lv_aload_n hx hb dX7_farthest_27 rfl (lv_at hl 1 rfl) ?_
    refine va_get (D := D) (ci := 7) (v := .ref q_t_now) (C := RX7) (T := TX7) (N := 12) hx hb hts hinX7 hown hK.1 hP 0 rfl rfl 0 (by decide) hk10 (fun _ h9 => h9) rfl dX7_farthest_28 ?_
    refine va_get (D := D) (ci := 5) (v := .int v_t_now_places) (C := RX5) (T := TX5) (N := 12) hx hb hts hinX5 hown hK.1 hP 1 rfl rfl 0 (by decide) hk152 (fun _ h9 => h9) rfl dX7_farthest_31 ?_
    refine lv_icmp_ge (tgt := 60) hx hb dX7_farthest_34 (by decide) (fun c16 => ?_) (fun c16 => ?_)
    · have hf := ifT hf c16
      clear c16
      refine lv_aload_n hx hb dX7_farthest_60 rfl (lv_at hl 1 rfl) ?_
      refine va_get (D := D) (ci := 7) (v := .ref q_t_choice) (C := RX7) (T := TX7) (N := 12) hx hb hts hinX7 hown hK.1 hP 0 rfl rfl 10 (by decide) hk61 (fun _ h9 => h9) rfl dX7_farthest_61 ?_
      refine va_get (D := D) (ci := 0) (v := .int u7) (C := RX0) (T := TX0) (N := 2) hx hb hts hinX0 hown hK.1 hP 3 rfl rfl 0 (by decide) hk251 (fun _ h9 => h9) rfl dX7_farthest_64 ?_
      cases hf
      exact W.iret hx hb hr (fun t ht hW => ⟨⟨_, (), rfl, rfl, xend ht hP⟩, hS.F ht⟩) hS.2.2 dX7_farthest_67
    · have hf := ifF hf c16
      clear c16
      refine lv_aload_n hx hb dX7_farthest_37 rfl (lv_at hl 1 rfl) ?_
      refine va_get (D := D) (ci := 7) (v := .ref q_t_choice) (C := RX7) (T := TX7) (N := 12) hx hb hts hinX7 hown hK.1 hP 0 rfl rfl 10 (by decide) hk61 (fun _ h9 => h9) rfl dX7_farthest_38 ?_
      refine lv_iload_n hx hb dX7_farthest_41 rfl (lv_at hl 0 rfl) ?_
      refine lv_aload_n hx hb dX7_farthest_42 rfl (lv_at hl 1 rfl) ?_
      refine va_get (D := D) (ci := 7) (v := .ref q_t_now) (C := RX7) (T := TX7) (N := 12) hx hb hts hinX7 hown hK.1 hP 0 rfl rfl 0 (by decide) hk10 (fun _ h9 => h9) rfl dX7_farthest_43 ?_
      refine lv_iload_n hx hb dX7_farthest_46 rfl (lv_at hl 2 rfl) ?_
      refine lv_iload_n hx hb dX7_farthest_47 rfl (lv_at hl 0 rfl) ?_
      obtain ⟨r10, hr11, hf⟩ := boE1 hf
      have hPc := hP.sub (ws' := [(q_t_now, oX5 v_t_now_places q_t_now_ways q_t_now_distances v_t_now_people q_t_now_kind q_t_now_a q_t_now_home q_t_now_aim q_t_now_at v_t_now_hour v_t_now_chance v_t_now_seed), (q_t_now_distances, .inl (cy 0, 144, .inl v_t_now_distances))]) [1, 2] rfl
      refine xcSi (va_runV (As := [.int p0, .int x6]) (rest := [.int x6, .ref q_t_choice]) ⟨hx, hb, hml, hown, hts⟩ (mX5_distance l D cy q_t_now q_t_now_ways q_t_now_distances q_t_now_kind q_t_now_a q_t_now_home q_t_now_aim q_t_now_at v_t_now_places v_t_now_people v_t_now_hour v_t_now_chance v_t_now_seed v_t_now_distances  p0 x6 hr11) (cwV 2 hts gX7_farthest_X5_distance rfl rfl rfl (by decide +kernel) ⟨Nat.le_of_ble_eq_true rfl, Nat.le_of_ble_eq_true rfl⟩) (xPV hK hPc (ci := 5) (q0 := 0) rfl rfl) rfl rfl hl.1 rfl (lv_room (Nat.le_of_ble_eq_true rfl)) dX7_farthest_48 ⟨Nat.le_of_ble_eq_true rfl, Nat.le_of_ble_eq_true rfl⟩) ?_
      obtain ⟨u12, u13, hr14, hf⟩ := boE2 hf
      have hPc := hP.sub (ws' := [(q_t_choice, oX0 u7 u8)]) [3] rfl
      have hDc := hD.sub (ws' := [(q_t_choice, oX0 u7 u8)]) [3] (by decide) rfl
      refine xcQv (w1 := [(q_t_choice, oX0 u12 u13)]) (va_runV (As := [.int x6, .int r10]) (rest := []) ⟨hx, hb, hml, hown, hts⟩ (mX0_offer l D cy q_t_choice u7 u8 _ x6 r10 hr14) (cwV 2 hts gX7_farthest_X0_offer rfl rfl rfl (by decide +kernel) ⟨Nat.le_of_ble_eq_true rfl, Nat.le_of_ble_eq_true rfl⟩) (xPVw hK hPc hDc (ci := 0) (q0 := 0) rfl rfl) rfl rfl hl.1 rfl (lv_room (Nat.le_of_ble_eq_true rfl)) dX7_farthest_51 ⟨Nat.le_of_ble_eq_true rfl, Nat.le_of_ble_eq_true rfl⟩) hP hD hS hA [3] rfl rfl (fun H locs hP hD hS => ?_)
      have hP : va_P D vwCl [(q_t, oX7 q_t_now q_t_future q_t_draft q_t_kept v_t_isKept q_t_shelves q_t_tape q_t_reader q_t_hiddenWay q_t_sights q_t_choice q_t_refusals), (q_t_now, oX5 v_t_now_places q_t_now_ways q_t_now_distances v_t_now_people q_t_now_kind q_t_now_a q_t_now_home q_t_now_aim q_t_now_at v_t_now_hour v_t_now_chance v_t_now_seed), (q_t_now_distances, .inl (cy 0, 144, .inl v_t_now_distances)), (q_t_choice, oX0 u12 u13), (q_t_refusals, .inl (cy 0, 5, .inl v_t_refusals))] H := hP
      have hD : va_D A [(q_t, oX7 q_t_now q_t_future q_t_draft q_t_kept v_t_isKept q_t_shelves q_t_tape q_t_reader q_t_hiddenWay q_t_sights q_t_choice q_t_refusals), (q_t_now, oX5 v_t_now_places q_t_now_ways q_t_now_distances v_t_now_people q_t_now_kind q_t_now_a q_t_now_home q_t_now_aim q_t_now_at v_t_now_hour v_t_now_chance v_t_now_seed), (q_t_now_distances, .inl (cy 0, 144, .inl v_t_now_distances)), (q_t_choice, oX0 u12 u13), (q_t_refusals, .inl (cy 0, 5, .inl v_t_refusals))] := hD
      obtain ⟨x15, ex15⟩ : ∃ y : Int32, y = x6 + (1 : Int32) := ⟨_, rfl⟩
      have hf := vlE hf ex15
      refine lv_iinc (v := x15) (lv' := [(2, .int x15), (0, .ref q_t), (1, .int p0)]) hx hb dX7_farthest_54 hl (k := 0) rfl (by rw [ex15]; rfl) (by decide) rfl (fun ls hl => ?_)
      clear ex15
      refine lv_goto (tgt := 26) hx hb dX7_farthest_57 (by decide) ?_
      exact L26 x15 u12 u13 _ _ ls ⟨hP, hD, hS, lv_sub hl [0, 1, 2] rfl⟩ hf
  · have hf := ifT hf c20
    clear c20
    refine lv_aload_n hx hb dX7_farthest_8 rfl (lv_at hl 0 rfl) ?_
    refine lv_bipush (v := (-2)) hx hb dX7_farthest_9 (by decide) ?_
    obtain ⟨r17, u18, hr19, hf⟩ := boE2 hf
    have hPc := hP.sub (ws' := [(q_t, oX7 q_t_now q_t_future q_t_draft q_t_kept v_t_isKept q_t_shelves q_t_tape q_t_reader q_t_hiddenWay q_t_sights q_t_choice q_t_refusals), (q_t_refusals, .inl (cy 0, 5, .inl v_t_refusals))]) [0, 4] rfl
    have hDc := hD.sub (ws' := [(q_t, oX7 q_t_now q_t_future q_t_draft q_t_kept v_t_isKept q_t_shelves q_t_tape q_t_reader q_t_hiddenWay q_t_sights q_t_choice q_t_refusals), (q_t_refusals, .inl (cy 0, 5, .inl v_t_refusals))]) [0, 4] (by decide) rfl
    refine xcQi (w1 := [(q_t, oX7 q_t_now q_t_future q_t_draft q_t_kept v_t_isKept q_t_shelves q_t_tape q_t_reader q_t_hiddenWay q_t_sights q_t_choice q_t_refusals), (q_t_refusals, .inl (cy 0, 5, .inl u18))]) (va_runV (As := [.int (-2 : Int32)]) (rest := []) ⟨hx, hb, hml, hown, hts⟩ (mX7_refuse l D cy q_t q_t_now q_t_future q_t_draft q_t_kept q_t_shelves q_t_tape q_t_reader q_t_hiddenWay q_t_sights q_t_choice q_t_refusals v_t_isKept v_t_refusals _ (-2 : Int32) hr19) (cwV 1 hts gX7_farthest_X7_refuse rfl rfl rfl (by decide +kernel) ⟨Nat.le_of_ble_eq_true rfl, Nat.le_of_ble_eq_true rfl⟩) (xPVw hK hPc hDc (ci := 7) (q0 := 0) rfl rfl) rfl rfl hl.1 rfl (lv_room (Nat.le_of_ble_eq_true rfl)) dX7_farthest_11 ⟨Nat.le_of_ble_eq_true rfl, Nat.le_of_ble_eq_true rfl⟩) hP hD hS hA [0, 4] rfl rfl (fun H locs hP hD hS => ?_)
    have hP : va_P D vwCl [(q_t, oX7 q_t_now q_t_future q_t_draft q_t_kept v_t_isKept q_t_shelves q_t_tape q_t_reader q_t_hiddenWay q_t_sights q_t_choice q_t_refusals), (q_t_now, oX5 v_t_now_places q_t_now_ways q_t_now_distances v_t_now_people q_t_now_kind q_t_now_a q_t_now_home q_t_now_aim q_t_now_at v_t_now_hour v_t_now_chance v_t_now_seed), (q_t_now_distances, .inl (cy 0, 144, .inl v_t_now_distances)), (q_t_choice, oX0 v_t_choice_found v_t_choice_worth), (q_t_refusals, .inl (cy 0, 5, .inl u18))] H := hP
    have hD : va_D A [(q_t, oX7 q_t_now q_t_future q_t_draft q_t_kept v_t_isKept q_t_shelves q_t_tape q_t_reader q_t_hiddenWay q_t_sights q_t_choice q_t_refusals), (q_t_now, oX5 v_t_now_places q_t_now_ways q_t_now_distances v_t_now_people q_t_now_kind q_t_now_a q_t_now_home q_t_now_aim q_t_now_at v_t_now_hour v_t_now_chance v_t_now_seed), (q_t_now_distances, .inl (cy 0, 144, .inl v_t_now_distances)), (q_t_choice, oX0 v_t_choice_found v_t_choice_worth), (q_t_refusals, .inl (cy 0, 5, .inl u18))] := hD
    cases hf
    exact W.iret hx hb hr (fun t ht hW => ⟨⟨_, (), rfl, rfl, xend ht hP⟩, hS.F ht⟩) hS.2.2 dX7_farthest_14
def fX7_ofKind (v_t_now_people : Int32) (v_t_now_kind : Nat → Int32) (v_t_refusals : Nat → Int32) (p0 : Int32) : Option (Int32 × (Nat → Int32)) :=
  bo1 (fX7_isKind p0) fun r1 =>
  if r1 = 0 then
    bo2 (fX7_refuse v_t_refusals (-2 : Int32)) fun r13 u14 =>
    some (r13, u14)
  else
    lo2 (fun g5 (x3 : Int32) (x4 : Int32) =>
      if v_t_now_people ≤ x4 then
        some (x3, v_t_refusals)
      else
        if x4 < 0 ∨ 8 ≤ x4.toNatClampNeg then none else
        jo1 (fun (x7 : Int32) =>
          vlet (x4 + (1 : Int32)) fun x9 =>
          g5 x7 x9) fun k8 =>
        if (v_t_now_kind x4.toNatClampNeg) = p0 then
          vlet (x3 + (1 : Int32)) fun x10 =>
          k8 x10
        else
          k8 x3) 400 (0 : Int32) (0 : Int32)
set_option maxHeartbeats 4000000 in
set_option maxRecDepth 100000 in
theorem mX7_ofKind (l : Launch) (D : va_G) (cy : Nat → ClassId) (q_t q_t_now q_t_future q_t_draft q_t_kept q_t_shelves q_t_tape q_t_reader q_t_hiddenWay q_t_sights q_t_choice q_t_refusals q_t_now_ways q_t_now_distances q_t_now_kind q_t_now_a q_t_now_home q_t_now_aim q_t_now_at : Nat) (v_t_isKept : Int32) (v_t_now_places : Int32) (v_t_now_people : Int32) (v_t_now_hour : Int32) (v_t_now_chance : Int32) (v_t_now_seed : Int32) (v_t_now_kind : Nat → Int32) (v_t_refusals : Nat → Int32) (sz : Nat) (p0 : Int32) {r_ : Int32} {n_t_refusals : Nat → Int32} (hf : fX7_ofKind v_t_now_people v_t_now_kind v_t_refusals p0 = some (r_, n_t_refusals)) : Met l yX7_ofKind wsX7_ofKind ({ frames := 1, cells := 0, slots := 0, locals := 22 }) (va_Pc [.ref q_t, .int p0] (fun U => U.heap.size = sz ∧ va_P D vwCl [(q_t, oX7 q_t_now q_t_future q_t_draft q_t_kept v_t_isKept q_t_shelves q_t_tape q_t_reader q_t_hiddenWay q_t_sights q_t_choice q_t_refusals), (q_t_now, oX5 v_t_now_places q_t_now_ways q_t_now_distances v_t_now_people q_t_now_kind q_t_now_a q_t_now_home q_t_now_aim q_t_now_at v_t_now_hour v_t_now_chance v_t_now_seed), (q_t_now_kind, .inl (cy 0, 8, .inl v_t_now_kind)), (q_t_refusals, .inl (cy 0, 5, .inl v_t_refusals))] U.heap ∧ xK D cy U ∧ va_D (fun _ => True) [(q_t, oX7 q_t_now q_t_future q_t_draft q_t_kept v_t_isKept q_t_shelves q_t_tape q_t_reader q_t_hiddenWay q_t_sights q_t_choice q_t_refusals), (q_t_now, oX5 v_t_now_places q_t_now_ways q_t_now_distances v_t_now_people q_t_now_kind q_t_now_a q_t_now_home q_t_now_aim q_t_now_at v_t_now_hour v_t_now_chance v_t_now_seed), (q_t_now_kind, .inl (cy 0, 8, .inl v_t_now_kind)), (q_t_refusals, .inl (cy 0, 5, .inl v_t_refusals))])) (va_Qi (fun (x : Int32) (_ : Unit) => x = r_) (fun _ t => va_P D vwCl [(q_t, oX7 q_t_now q_t_future q_t_draft q_t_kept v_t_isKept q_t_shelves q_t_tape q_t_reader q_t_hiddenWay q_t_sights q_t_choice q_t_refusals), (q_t_now, oX5 v_t_now_places q_t_now_ways q_t_now_distances v_t_now_people q_t_now_kind q_t_now_a q_t_now_home q_t_now_aim q_t_now_at v_t_now_hour v_t_now_chance v_t_now_seed), (q_t_now_kind, .inl (cy 0, 8, .inl v_t_now_kind)), (q_t_refusals, .inl (cy 0, 5, .inl n_t_refusals))] t.heap) (va_A [(q_t, oX7 q_t_now q_t_future q_t_draft q_t_kept v_t_isKept q_t_shelves q_t_tape q_t_reader q_t_hiddenWay q_t_sights q_t_choice q_t_refusals), (q_t_now, oX5 v_t_now_places q_t_now_ways q_t_now_distances v_t_now_people q_t_now_kind q_t_now_a q_t_now_home q_t_now_aim q_t_now_at v_t_now_hour v_t_now_chance v_t_now_seed), (q_t_now_kind, .inl (cy 0, 8, .inl v_t_now_kind)), (q_t_refusals, .inl (cy 0, 5, .inl v_t_refusals))] sz)) 0 0 (va_A [(q_t, oX7 q_t_now q_t_future q_t_draft q_t_kept v_t_isKept q_t_shelves q_t_tape q_t_reader q_t_hiddenWay q_t_sights q_t_choice q_t_refusals), (q_t_now, oX5 v_t_now_places q_t_now_ways q_t_now_distances v_t_now_people q_t_now_kind q_t_now_a q_t_now_home q_t_now_aim q_t_now_at v_t_now_hour v_t_now_chance v_t_now_seed), (q_t_now_kind, .inl (cy 0, 8, .inl v_t_now_kind)), (q_t_refusals, .inl (cy 0, 5, .inl v_t_refusals))] sz) := by
  refine Met.ofW (cc := cX7_ofKind) (maxL := 4) (ret := (some .int)) (by decide) rfl ?_
  intro p e s m args below meth c s₁ B hml hv
  obtain ⟨rfl, hsz, hP, hK, hD0⟩ := hv
  have hx := B.exec
  have hb := B.bytes
  have hr := B.returns
  have hts := atoms_spec (ws := wsX7_ofKind) B.pre
  have hown : s.vm.findClass RX7 = some m.cls := findClass_of_methodNamed B.named
  have hlocks := B.notSynchronized
  subst hsz
  have hD := hD0.self (sz := s.heap.size)
  generalize hAe : va_A [(q_t, oX7 q_t_now q_t_future q_t_draft q_t_kept v_t_isKept q_t_shelves q_t_tape q_t_reader q_t_hiddenWay q_t_sights q_t_choice q_t_refusals), (q_t_now, oX5 v_t_now_places q_t_now_ways q_t_now_distances v_t_now_people q_t_now_kind q_t_now_a q_t_now_home q_t_now_aim q_t_now_at v_t_now_hour v_t_now_chance v_t_now_seed), (q_t_now_kind, .inl (cy 0, 8, .inl v_t_now_kind)), (q_t_refusals, .inl (cy 0, 5, .inl v_t_refusals))] s.heap.size = A at hD ⊢
  have hA : ∀ q : Nat, s.heap.size ≤ q → A q := fun q h => by rw [← hAe]; exact Or.inr h
  have hS : va_S A s.heap s.heap [] := va_S.rf
  have hP : va_P D vwCl [(q_t, oX7 q_t_now q_t_future q_t_draft q_t_kept v_t_isKept q_t_shelves q_t_tape q_t_reader q_t_hiddenWay q_t_sights q_t_choice q_t_refusals), (q_t_now, oX5 v_t_now_places q_t_now_ways q_t_now_distances v_t_now_people q_t_now_kind q_t_now_a q_t_now_home q_t_now_aim q_t_now_at v_t_now_hour v_t_now_chance v_t_now_seed), (q_t_now_kind, .inl (cy 0, 8, .inl v_t_now_kind)), (q_t_refusals, .inl (cy 0, 5, .inl v_t_refusals))] s.heap := hP
  have hinX7 : ∀ w ∈ u_ws RX7 TX7 12, w ∈ wsX7_ofKind := by decide +kernel
  have hk10 := hts (.fieldLink RX7 10 "ShowsWhereNobodyIs" "now" "LShowsWhereNobodyIs$Town;") (by decide +kernel)
  have hinX5 : ∀ w ∈ u_ws RX5 TX5 12, w ∈ wsX7_ofKind := by decide +kernel
  have hk171 := hts (.fieldLink RX7 171 "ShowsWhereNobodyIs$Town" "people" "I") (by decide +kernel)
  have hk137 := hts (.fieldLink RX7 137 "ShowsWhereNobodyIs$Town" "kind" "[I") (by decide +kernel)
  have hl := lv_entry ([.ref q_t, .int p0]) (n := 4) (Nat.le_of_ble_eq_true rfl)
  rw [lg_entry_eq]
  generalize (lg_sl ([.ref q_t, .int p0]) ++ List.replicate (4 - (lg_sl ([.ref q_t, .int p0])).length) Slot.unset).toArray = ls at hl ⊢
  have hl : lv_has ls 4 [(0, .ref q_t), (1, .int p0)] := hl
  unfold fX7_ofKind at hf
  refine lv_iload_n hx hb dX7_ofKind_0 rfl (lv_at hl 1 rfl) ?_
  obtain ⟨r1, hr2, hf⟩ := boE1 hf
  have hPc := hP.sub (ws' := []) [] rfl
  refine xcSi (va_runS (As := [.int p0]) (rest := []) ⟨hx, hb, hml, hown, hts⟩ (mX7_isKind l D cy    p0 hr2) (va_cwS 1 hts gX7_ofKind_X7_isKind rfl rfl rfl (by decide +kernel) ⟨Nat.le_of_ble_eq_true rfl, Nat.le_of_ble_eq_true rfl⟩) (xPS hK hPc) rfl rfl hl.1 rfl (lv_room (Nat.le_of_ble_eq_true rfl)) dX7_ofKind_1 ⟨Nat.le_of_ble_eq_true rfl, Nat.le_of_ble_eq_true rfl⟩) ?_
  refine lv_if_ne (tgt := 14) hx hb dX7_ofKind_4 (by decide) (fun c16 => ?_) (fun c16 => ?_)
  · have hf := ifF hf c16
    clear c16
    refine lv_iconst (v := 0) hx hb dX7_ofKind_14 (by decide) ?_
    refine lv_istore_n (lv' := [(2, .int (0 : Int32)), (0, .ref q_t), (1, .int p0)]) hx hb dX7_ofKind_15 rfl hl (by decide) rfl (fun ls hl => ?_)
    refine lv_iconst (v := 0) hx hb dX7_ofKind_16 (by decide) ?_
    refine lv_istore_n (lv' := [(3, .int (0 : Int32)), (2, .int (0 : Int32)), (0, .ref q_t), (1, .int p0)]) hx hb dX7_ofKind_17 rfl hl (by decide) rfl (fun ls hl => ?_)
    refine wlw2 18 (fun _ _ => []) (fun (x3 : Int32) (x4 : Int32) H locs ls => va_P D vwCl [(q_t, oX7 q_t_now q_t_future q_t_draft q_t_kept v_t_isKept q_t_shelves q_t_tape q_t_reader q_t_hiddenWay q_t_sights q_t_choice q_t_refusals), (q_t_now, oX5 v_t_now_places q_t_now_ways q_t_now_distances v_t_now_people q_t_now_kind q_t_now_a q_t_now_home q_t_now_aim q_t_now_at v_t_now_hour v_t_now_chance v_t_now_seed), (q_t_now_kind, .inl (cy 0, 8, .inl v_t_now_kind)), (q_t_refusals, .inl (cy 0, 5, .inl v_t_refusals))] H ∧ va_D A [(q_t, oX7 q_t_now q_t_future q_t_draft q_t_kept v_t_isKept q_t_shelves q_t_tape q_t_reader q_t_hiddenWay q_t_sights q_t_choice q_t_refusals), (q_t_now, oX5 v_t_now_places q_t_now_ways q_t_now_distances v_t_now_people q_t_now_kind q_t_now_a q_t_now_home q_t_now_aim q_t_now_at v_t_now_hour v_t_now_chance v_t_now_seed), (q_t_now_kind, .inl (cy 0, 8, .inl v_t_now_kind)), (q_t_refusals, .inl (cy 0, 5, .inl v_t_refusals))] ∧ va_S A s.heap H locs ∧ lv_has ls 4 [(2, .int x3), (3, .int x4), (0, .ref q_t), (1, .int p0)]) (fun g5 L18 x3 x4 H locs ls hI hf => ?_) 400 (0 : Int32) (0 : Int32) _ _ ls ⟨hP, hD, hS, lv_sub hl [1, 0, 2, 3] rfl⟩ hf
    obtain ⟨hP, hD, hS, hl⟩ := hI
    refine lv_iload_n hx hb dX7_ofKind_18 rfl (lv_at hl 1 rfl) ?_
    refine lv_aload_n hx hb dX7_ofKind_19 rfl (lv_at hl 2 rfl) ?_
    refine va_get (D := D) (ci := 7) (v := .ref q_t_now) (C := RX7) (T := TX7) (N := 12) hx hb hts hinX7 hown hK.1 hP 0 rfl rfl 0 (by decide) hk10 (fun _ h9 => h9) rfl dX7_ofKind_20 ?_
    refine va_get (D := D) (ci := 5) (v := .int v_t_now_people) (C := RX5) (T := TX5) (N := 12) hx hb hts hinX5 hown hK.1 hP 1 rfl rfl 3 (by decide) hk171 (fun _ h9 => h9) rfl dX7_ofKind_23 ?_
    refine lv_icmp_ge (tgt := 51) hx hb dX7_ofKind_26 (by decide) (fun c12 => ?_) (fun c12 => ?_)
    · have hf := ifT hf c12
      clear c12
      refine lv_iload_n hx hb dX7_ofKind_51 rfl (lv_at hl 0 rfl) ?_
      cases hf
      exact W.iret hx hb hr (fun t ht hW => ⟨⟨_, (), rfl, rfl, xend ht hP⟩, hS.F ht⟩) hS.2.2 dX7_ofKind_52
    · have hf := ifF hf c12
      clear c12
      refine lv_aload_n hx hb dX7_ofKind_29 rfl (lv_at hl 2 rfl) ?_
      refine va_get (D := D) (ci := 7) (v := .ref q_t_now) (C := RX7) (T := TX7) (N := 12) hx hb hts hinX7 hown hK.1 hP 0 rfl rfl 0 (by decide) hk10 (fun _ h9 => h9) rfl dX7_ofKind_30 ?_
      refine va_get (D := D) (ci := 5) (v := .ref q_t_now_kind) (C := RX5) (T := TX5) (N := 12) hx hb hts hinX5 hown hK.1 hP 1 rfl rfl 4 (by decide) hk137 (fun _ h9 => h9) rfl dX7_ofKind_33 ?_
      refine lv_iload_n hx hb dX7_ofKind_36 rfl (lv_at hl 1 rfl) ?_
      obtain ⟨hi6, hf⟩ := ckE hf
      refine va_iald hx hb hK.1 hP 2 0 rfl rfl hi6 dX7_ofKind_37 ?_
      refine lv_iload_n hx hb dX7_ofKind_38 rfl (lv_at hl 3 rfl) ?_
      refine jww1 45 (fun (x7 : Int32) => []) (fun (x7 : Int32) H locs ls => va_P D vwCl [(q_t, oX7 q_t_now q_t_future q_t_draft q_t_kept v_t_isKept q_t_shelves q_t_tape q_t_reader q_t_hiddenWay q_t_sights q_t_choice q_t_refusals), (q_t_now, oX5 v_t_now_places q_t_now_ways q_t_now_distances v_t_now_people q_t_now_kind q_t_now_a q_t_now_home q_t_now_aim q_t_now_at v_t_now_hour v_t_now_chance v_t_now_seed), (q_t_now_kind, .inl (cy 0, 8, .inl v_t_now_kind)), (q_t_refusals, .inl (cy 0, 5, .inl v_t_refusals))] H ∧ va_D A [(q_t, oX7 q_t_now q_t_future q_t_draft q_t_kept v_t_isKept q_t_shelves q_t_tape q_t_reader q_t_hiddenWay q_t_sights q_t_choice q_t_refusals), (q_t_now, oX5 v_t_now_places q_t_now_ways q_t_now_distances v_t_now_people q_t_now_kind q_t_now_a q_t_now_home q_t_now_aim q_t_now_at v_t_now_hour v_t_now_chance v_t_now_seed), (q_t_now_kind, .inl (cy 0, 8, .inl v_t_now_kind)), (q_t_refusals, .inl (cy 0, 5, .inl v_t_refusals))] ∧ va_S A s.heap H locs ∧ lv_has ls 4 [(2, .int x7), (0, .ref q_t), (1, .int p0), (3, .int x4)]) hf (fun x7 H locs ls hI hf => ?_) (fun k8 J45 hf => ?_)
      · obtain ⟨hP, hD, hS, hl⟩ := hI
        obtain ⟨x9, ex9⟩ : ∃ y : Int32, y = x4 + (1 : Int32) := ⟨_, rfl⟩
        have hf := vlE hf ex9
        refine lv_iinc (v := x9) (lv' := [(3, .int x9), (2, .int x7), (0, .ref q_t), (1, .int p0)]) hx hb dX7_ofKind_45 hl (k := 3) rfl (by rw [ex9]; rfl) (by decide) rfl (fun ls hl => ?_)
        clear ex9
        refine lv_goto (tgt := 18) hx hb dX7_ofKind_48 (by decide) ?_
        exact L18 x7 x9 _ _ ls ⟨hP, hD, hS, lv_sub hl [1, 0, 2, 3] rfl⟩ hf
      · refine lv_icmp_ne (tgt := 45) hx hb dX7_ofKind_39 (by decide) (fun c11 => ?_) (fun c11 => ?_)
        · have hf := ifF hf c11
          clear c11
          exact J45 x3 _ _ ls ⟨hP, hD, hS, lv_sub hl [0, 2, 3, 1] rfl⟩ hf
        · have hf := ifT hf c11
          clear c11
          obtain ⟨x10, ex10⟩ : ∃ y : Int32, y = x3 + (1 : Int32) := ⟨_, rfl⟩
          have hf := vlE hf ex10
          refine lv_iinc (v := x10) (lv' := [(2, .int x10), (3, .int x4), (0, .ref q_t), (1, .int p0)]) hx hb dX7_ofKind_42 hl (k := 0) rfl (by rw [ex10]; rfl) (by decide) rfl (fun ls hl => ?_)
          clear ex10
          exact J45 x10 _ _ ls ⟨hP, hD, hS, lv_sub hl [0, 2, 3, 1] rfl⟩ hf
  · have hf := ifT hf c16
    clear c16
    refine lv_aload_n hx hb dX7_ofKind_7 rfl (lv_at hl 0 rfl) ?_
    refine lv_bipush (v := (-2)) hx hb dX7_ofKind_8 (by decide) ?_
    obtain ⟨r13, u14, hr15, hf⟩ := boE2 hf
    have hPc := hP.sub (ws' := [(q_t, oX7 q_t_now q_t_future q_t_draft q_t_kept v_t_isKept q_t_shelves q_t_tape q_t_reader q_t_hiddenWay q_t_sights q_t_choice q_t_refusals), (q_t_refusals, .inl (cy 0, 5, .inl v_t_refusals))]) [0, 3] rfl
    have hDc := hD.sub (ws' := [(q_t, oX7 q_t_now q_t_future q_t_draft q_t_kept v_t_isKept q_t_shelves q_t_tape q_t_reader q_t_hiddenWay q_t_sights q_t_choice q_t_refusals), (q_t_refusals, .inl (cy 0, 5, .inl v_t_refusals))]) [0, 3] (by decide) rfl
    refine xcQi (w1 := [(q_t, oX7 q_t_now q_t_future q_t_draft q_t_kept v_t_isKept q_t_shelves q_t_tape q_t_reader q_t_hiddenWay q_t_sights q_t_choice q_t_refusals), (q_t_refusals, .inl (cy 0, 5, .inl u14))]) (va_runV (As := [.int (-2 : Int32)]) (rest := []) ⟨hx, hb, hml, hown, hts⟩ (mX7_refuse l D cy q_t q_t_now q_t_future q_t_draft q_t_kept q_t_shelves q_t_tape q_t_reader q_t_hiddenWay q_t_sights q_t_choice q_t_refusals v_t_isKept v_t_refusals _ (-2 : Int32) hr15) (cwV 1 hts gX7_ofKind_X7_refuse rfl rfl rfl (by decide +kernel) ⟨Nat.le_of_ble_eq_true rfl, Nat.le_of_ble_eq_true rfl⟩) (xPVw hK hPc hDc (ci := 7) (q0 := 0) rfl rfl) rfl rfl hl.1 rfl (lv_room (Nat.le_of_ble_eq_true rfl)) dX7_ofKind_10 ⟨Nat.le_of_ble_eq_true rfl, Nat.le_of_ble_eq_true rfl⟩) hP hD hS hA [0, 3] rfl rfl (fun H locs hP hD hS => ?_)
    have hP : va_P D vwCl [(q_t, oX7 q_t_now q_t_future q_t_draft q_t_kept v_t_isKept q_t_shelves q_t_tape q_t_reader q_t_hiddenWay q_t_sights q_t_choice q_t_refusals), (q_t_now, oX5 v_t_now_places q_t_now_ways q_t_now_distances v_t_now_people q_t_now_kind q_t_now_a q_t_now_home q_t_now_aim q_t_now_at v_t_now_hour v_t_now_chance v_t_now_seed), (q_t_now_kind, .inl (cy 0, 8, .inl v_t_now_kind)), (q_t_refusals, .inl (cy 0, 5, .inl u14))] H := hP
    have hD : va_D A [(q_t, oX7 q_t_now q_t_future q_t_draft q_t_kept v_t_isKept q_t_shelves q_t_tape q_t_reader q_t_hiddenWay q_t_sights q_t_choice q_t_refusals), (q_t_now, oX5 v_t_now_places q_t_now_ways q_t_now_distances v_t_now_people q_t_now_kind q_t_now_a q_t_now_home q_t_now_aim q_t_now_at v_t_now_hour v_t_now_chance v_t_now_seed), (q_t_now_kind, .inl (cy 0, 8, .inl v_t_now_kind)), (q_t_refusals, .inl (cy 0, 5, .inl u14))] := hD
    cases hf
    exact W.iret hx hb hr (fun t ht hW => ⟨⟨_, (), rfl, rfl, xend ht hP⟩, hS.F ht⟩) hS.2.2 dX7_ofKind_13
