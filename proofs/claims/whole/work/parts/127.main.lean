def fX7_back (v_t_isKept : Int32) (v_t_now_places : Int32) (v_t_now_people : Int32) (v_t_now_hour : Int32) (v_t_now_chance : Int32) (v_t_now_seed : Int32) (v_t_now_ways : Nat → Int32) (v_t_now_distances : Nat → Int32) (v_t_now_kind : Nat → Int32) (v_t_now_a : Nat → Int32) (v_t_now_home : Nat → Int32) (v_t_now_aim : Nat → Int32) (v_t_now_at : Nat → Int32) (v_t_kept_places : Int32) (v_t_kept_people : Int32) (v_t_kept_hour : Int32) (v_t_kept_chance : Int32) (v_t_kept_seed : Int32) (v_t_kept_ways : Nat → Int32) (v_t_kept_distances : Nat → Int32) (v_t_kept_kind : Nat → Int32) (v_t_kept_a : Nat → Int32) (v_t_kept_home : Nat → Int32) (v_t_kept_aim : Nat → Int32) (v_t_kept_at : Nat → Int32) (v_t_refusals : Nat → Int32) (v_t_shelves_c : Nat → Int32) (v_t_shelves_z : Nat → Int32) : Option (Int32 × Int32 × Int32 × Int32 × Int32 × Int32 × (Nat → Int32) × (Nat → Int32) × (Nat → Int32) × (Nat → Int32) × (Nat → Int32) × (Nat → Int32) × (Nat → Int32) × (Nat → Int32) × (Nat → Int32) × (Nat → Int32)) :=
  if v_t_isKept = 0 then
    bo2 (fX7_refuse v_t_refusals (-5 : Int32)) fun r40 u41 =>
    some (r40, v_t_now_places, v_t_now_people, v_t_now_hour, v_t_now_chance, v_t_now_seed, v_t_now_ways, v_t_now_distances, v_t_now_kind, v_t_now_a, v_t_now_home, v_t_now_aim, v_t_now_at, u41, v_t_shelves_c, v_t_shelves_z)
  else
    bo12 (fX5_become v_t_kept_places v_t_kept_people v_t_kept_hour v_t_kept_chance v_t_kept_seed v_t_kept_ways v_t_kept_distances v_t_kept_kind v_t_kept_a v_t_kept_home v_t_kept_aim v_t_kept_at) fun u1 u2 u3 u4 u5 u6 u7 u8 u9 u10 u11 u12 =>
    lo3 (fun g17 (x14 : Int32) (u15 : Nat → Int32) (u16 : Nat → Int32) =>
      if (8 : Int32) ≤ x14 then
        some ((1 : Int32), u1, u2, u3, u4, u5, u6, u7, u8, u9, u10, u11, u12, v_t_refusals, u15, u16)
      else
        if x14 < 0 ∨ 8 ≤ x14.toNatClampNeg then none else
        bo1 (fX2_holdsPerson (u15 x14.toNatClampNeg)) fun r20 =>
        jo2 (fun (u22 : Nat → Int32) (u23 : Nat → Int32) =>
          vlet (x14 + (1 : Int32)) fun x25 =>
          g17 x25 u22 u23) fun k24 =>
        if r20 = 0 then
          k24 u15 u16
        else
          if x14 < 0 ∨ 8 ≤ x14.toNatClampNeg then none else
          bo1 (fX2_personNumber (u15 x14.toNatClampNeg)) fun r28 =>
          bo1 (fX7_isPerson u2 r28) fun r30 =>
          if r30 = 0 then
            if x14 < 0 ∨ 8 ≤ x14.toNatClampNeg then none else
            bo2 (fX2_takeNothing) fun u34 u35 =>
            k24 (va_up u15 x14.toNatClampNeg u34) (va_up u16 x14.toNatClampNeg u35)
          else
            k24 u15 u16) 400 (0 : Int32) v_t_shelves_c v_t_shelves_z
set_option maxHeartbeats 4000000 in
set_option maxRecDepth 100000 in
theorem mX7_back (l : Launch) (D : va_G) (cy : Nat → ClassId) (q_t q_t_now q_t_future q_t_draft q_t_kept q_t_shelves q_t_tape q_t_reader q_t_hiddenWay q_t_sights q_t_choice q_t_refusals q_t_now_ways q_t_now_distances q_t_now_kind q_t_now_a q_t_now_home q_t_now_aim q_t_now_at q_t_kept_ways q_t_kept_distances q_t_kept_kind q_t_kept_a q_t_kept_home q_t_kept_aim q_t_kept_at : Nat) (ad_t_shelves ae_t_shelves : Nat → Nat) (v_t_isKept : Int32) (v_t_now_places : Int32) (v_t_now_people : Int32) (v_t_now_hour : Int32) (v_t_now_chance : Int32) (v_t_now_seed : Int32) (v_t_now_ways : Nat → Int32) (v_t_now_distances : Nat → Int32) (v_t_now_kind : Nat → Int32) (v_t_now_a : Nat → Int32) (v_t_now_home : Nat → Int32) (v_t_now_aim : Nat → Int32) (v_t_now_at : Nat → Int32) (v_t_kept_places : Int32) (v_t_kept_people : Int32) (v_t_kept_hour : Int32) (v_t_kept_chance : Int32) (v_t_kept_seed : Int32) (v_t_kept_ways : Nat → Int32) (v_t_kept_distances : Nat → Int32) (v_t_kept_kind : Nat → Int32) (v_t_kept_a : Nat → Int32) (v_t_kept_home : Nat → Int32) (v_t_kept_aim : Nat → Int32) (v_t_kept_at : Nat → Int32) (v_t_refusals : Nat → Int32) (v_t_shelves_c : Nat → Int32) (v_t_shelves_z : Nat → Int32) (v_t_shelves_e : Nat → Nat → Int64) (sz : Nat) {r_ : Int32} {n_t_now_places : Int32} {n_t_now_people : Int32} {n_t_now_hour : Int32} {n_t_now_chance : Int32} {n_t_now_seed : Int32} {n_t_now_ways : Nat → Int32} {n_t_now_distances : Nat → Int32} {n_t_now_kind : Nat → Int32} {n_t_now_a : Nat → Int32} {n_t_now_home : Nat → Int32} {n_t_now_aim : Nat → Int32} {n_t_now_at : Nat → Int32} {n_t_refusals : Nat → Int32} {n_t_shelves_c : Nat → Int32} {n_t_shelves_z : Nat → Int32} (hf : fX7_back v_t_isKept v_t_now_places v_t_now_people v_t_now_hour v_t_now_chance v_t_now_seed v_t_now_ways v_t_now_distances v_t_now_kind v_t_now_a v_t_now_home v_t_now_aim v_t_now_at v_t_kept_places v_t_kept_people v_t_kept_hour v_t_kept_chance v_t_kept_seed v_t_kept_ways v_t_kept_distances v_t_kept_kind v_t_kept_a v_t_kept_home v_t_kept_aim v_t_kept_at v_t_refusals v_t_shelves_c v_t_shelves_z = some (r_, n_t_now_places, n_t_now_people, n_t_now_hour, n_t_now_chance, n_t_now_seed, n_t_now_ways, n_t_now_distances, n_t_now_kind, n_t_now_a, n_t_now_home, n_t_now_aim, n_t_now_at, n_t_refusals, n_t_shelves_c, n_t_shelves_z)) : Met l yX7_back wsX7_back ({ frames := 2, cells := 0, slots := 0, locals := 61 }) (va_Pc [.ref q_t] (fun U => U.heap.size = sz ∧ va_P D vwCl ([(q_t, oX7 q_t_now q_t_future q_t_draft q_t_kept v_t_isKept q_t_shelves q_t_tape q_t_reader q_t_hiddenWay q_t_sights q_t_choice q_t_refusals), (q_t_now, oX5 v_t_now_places q_t_now_ways q_t_now_distances v_t_now_people q_t_now_kind q_t_now_a q_t_now_home q_t_now_aim q_t_now_at v_t_now_hour v_t_now_chance v_t_now_seed), (q_t_now_ways, .inl (cy 0, 12, .inl v_t_now_ways)), (q_t_now_distances, .inl (cy 0, 144, .inl v_t_now_distances)), (q_t_now_kind, .inl (cy 0, 8, .inl v_t_now_kind)), (q_t_now_a, .inl (cy 0, 8, .inl v_t_now_a)), (q_t_now_home, .inl (cy 0, 8, .inl v_t_now_home)), (q_t_now_aim, .inl (cy 0, 8, .inl v_t_now_aim)), (q_t_now_at, .inl (cy 0, 8, .inl v_t_now_at)), (q_t_kept, oX5 v_t_kept_places q_t_kept_ways q_t_kept_distances v_t_kept_people q_t_kept_kind q_t_kept_a q_t_kept_home q_t_kept_aim q_t_kept_at v_t_kept_hour v_t_kept_chance v_t_kept_seed), (q_t_kept_ways, .inl (cy 0, 12, .inl v_t_kept_ways)), (q_t_kept_distances, .inl (cy 0, 144, .inl v_t_kept_distances)), (q_t_kept_kind, .inl (cy 0, 8, .inl v_t_kept_kind)), (q_t_kept_a, .inl (cy 0, 8, .inl v_t_kept_a)), (q_t_kept_home, .inl (cy 0, 8, .inl v_t_kept_home)), (q_t_kept_aim, .inl (cy 0, 8, .inl v_t_kept_aim)), (q_t_kept_at, .inl (cy 0, 8, .inl v_t_kept_at)), (q_t_shelves, .inl (cy 2, 8, .inr (.inr (.inr (.inr (fun i => some (ad_t_shelves i))))))), (q_t_refusals, .inl (cy 0, 5, .inl v_t_refusals))] ++ wSh cy ad_t_shelves ae_t_shelves v_t_shelves_c v_t_shelves_z v_t_shelves_e) U.heap ∧ xK D cy U ∧ va_D (fun _ => True) ([(q_t, oX7 q_t_now q_t_future q_t_draft q_t_kept v_t_isKept q_t_shelves q_t_tape q_t_reader q_t_hiddenWay q_t_sights q_t_choice q_t_refusals), (q_t_now, oX5 v_t_now_places q_t_now_ways q_t_now_distances v_t_now_people q_t_now_kind q_t_now_a q_t_now_home q_t_now_aim q_t_now_at v_t_now_hour v_t_now_chance v_t_now_seed), (q_t_now_ways, .inl (cy 0, 12, .inl v_t_now_ways)), (q_t_now_distances, .inl (cy 0, 144, .inl v_t_now_distances)), (q_t_now_kind, .inl (cy 0, 8, .inl v_t_now_kind)), (q_t_now_a, .inl (cy 0, 8, .inl v_t_now_a)), (q_t_now_home, .inl (cy 0, 8, .inl v_t_now_home)), (q_t_now_aim, .inl (cy 0, 8, .inl v_t_now_aim)), (q_t_now_at, .inl (cy 0, 8, .inl v_t_now_at)), (q_t_kept, oX5 v_t_kept_places q_t_kept_ways q_t_kept_distances v_t_kept_people q_t_kept_kind q_t_kept_a q_t_kept_home q_t_kept_aim q_t_kept_at v_t_kept_hour v_t_kept_chance v_t_kept_seed), (q_t_kept_ways, .inl (cy 0, 12, .inl v_t_kept_ways)), (q_t_kept_distances, .inl (cy 0, 144, .inl v_t_kept_distances)), (q_t_kept_kind, .inl (cy 0, 8, .inl v_t_kept_kind)), (q_t_kept_a, .inl (cy 0, 8, .inl v_t_kept_a)), (q_t_kept_home, .inl (cy 0, 8, .inl v_t_kept_home)), (q_t_kept_aim, .inl (cy 0, 8, .inl v_t_kept_aim)), (q_t_kept_at, .inl (cy 0, 8, .inl v_t_kept_at)), (q_t_shelves, .inl (cy 2, 8, .inr (.inr (.inr (.inr (fun i => some (ad_t_shelves i))))))), (q_t_refusals, .inl (cy 0, 5, .inl v_t_refusals))] ++ wSh cy ad_t_shelves ae_t_shelves v_t_shelves_c v_t_shelves_z v_t_shelves_e))) (va_Qi (fun (x : Int32) (_ : Unit) => x = r_) (fun _ t => va_P D vwCl ([(q_t, oX7 q_t_now q_t_future q_t_draft q_t_kept v_t_isKept q_t_shelves q_t_tape q_t_reader q_t_hiddenWay q_t_sights q_t_choice q_t_refusals), (q_t_now, oX5 n_t_now_places q_t_now_ways q_t_now_distances n_t_now_people q_t_now_kind q_t_now_a q_t_now_home q_t_now_aim q_t_now_at n_t_now_hour n_t_now_chance n_t_now_seed), (q_t_now_ways, .inl (cy 0, 12, .inl n_t_now_ways)), (q_t_now_distances, .inl (cy 0, 144, .inl n_t_now_distances)), (q_t_now_kind, .inl (cy 0, 8, .inl n_t_now_kind)), (q_t_now_a, .inl (cy 0, 8, .inl n_t_now_a)), (q_t_now_home, .inl (cy 0, 8, .inl n_t_now_home)), (q_t_now_aim, .inl (cy 0, 8, .inl n_t_now_aim)), (q_t_now_at, .inl (cy 0, 8, .inl n_t_now_at)), (q_t_kept, oX5 v_t_kept_places q_t_kept_ways q_t_kept_distances v_t_kept_people q_t_kept_kind q_t_kept_a q_t_kept_home q_t_kept_aim q_t_kept_at v_t_kept_hour v_t_kept_chance v_t_kept_seed), (q_t_kept_ways, .inl (cy 0, 12, .inl v_t_kept_ways)), (q_t_kept_distances, .inl (cy 0, 144, .inl v_t_kept_distances)), (q_t_kept_kind, .inl (cy 0, 8, .inl v_t_kept_kind)), (q_t_kept_a, .inl (cy 0, 8, .inl v_t_kept_a)), (q_t_kept_home, .inl (cy 0, 8, .inl v_t_kept_home)), (q_t_kept_aim, .inl (cy 0, 8, .inl v_t_kept_aim)), (q_t_kept_at, .inl (cy 0, 8, .inl v_t_kept_at)), (q_t_shelves, .inl (cy 2, 8, .inr (.inr (.inr (.inr (fun i => some (ad_t_shelves i))))))), (q_t_refusals, .inl (cy 0, 5, .inl n_t_refusals))] ++ wSh cy ad_t_shelves ae_t_shelves n_t_shelves_c n_t_shelves_z v_t_shelves_e) t.heap) (va_A ([(q_t, oX7 q_t_now q_t_future q_t_draft q_t_kept v_t_isKept q_t_shelves q_t_tape q_t_reader q_t_hiddenWay q_t_sights q_t_choice q_t_refusals), (q_t_now, oX5 v_t_now_places q_t_now_ways q_t_now_distances v_t_now_people q_t_now_kind q_t_now_a q_t_now_home q_t_now_aim q_t_now_at v_t_now_hour v_t_now_chance v_t_now_seed), (q_t_now_ways, .inl (cy 0, 12, .inl v_t_now_ways)), (q_t_now_distances, .inl (cy 0, 144, .inl v_t_now_distances)), (q_t_now_kind, .inl (cy 0, 8, .inl v_t_now_kind)), (q_t_now_a, .inl (cy 0, 8, .inl v_t_now_a)), (q_t_now_home, .inl (cy 0, 8, .inl v_t_now_home)), (q_t_now_aim, .inl (cy 0, 8, .inl v_t_now_aim)), (q_t_now_at, .inl (cy 0, 8, .inl v_t_now_at)), (q_t_kept, oX5 v_t_kept_places q_t_kept_ways q_t_kept_distances v_t_kept_people q_t_kept_kind q_t_kept_a q_t_kept_home q_t_kept_aim q_t_kept_at v_t_kept_hour v_t_kept_chance v_t_kept_seed), (q_t_kept_ways, .inl (cy 0, 12, .inl v_t_kept_ways)), (q_t_kept_distances, .inl (cy 0, 144, .inl v_t_kept_distances)), (q_t_kept_kind, .inl (cy 0, 8, .inl v_t_kept_kind)), (q_t_kept_a, .inl (cy 0, 8, .inl v_t_kept_a)), (q_t_kept_home, .inl (cy 0, 8, .inl v_t_kept_home)), (q_t_kept_aim, .inl (cy 0, 8, .inl v_t_kept_aim)), (q_t_kept_at, .inl (cy 0, 8, .inl v_t_kept_at)), (q_t_shelves, .inl (cy 2, 8, .inr (.inr (.inr (.inr (fun i => some (ad_t_shelves i))))))), (q_t_refusals, .inl (cy 0, 5, .inl v_t_refusals))] ++ wSh cy ad_t_shelves ae_t_shelves v_t_shelves_c v_t_shelves_z v_t_shelves_e) sz)) 0 0 (va_A ([(q_t, oX7 q_t_now q_t_future q_t_draft q_t_kept v_t_isKept q_t_shelves q_t_tape q_t_reader q_t_hiddenWay q_t_sights q_t_choice q_t_refusals), (q_t_now, oX5 v_t_now_places q_t_now_ways q_t_now_distances v_t_now_people q_t_now_kind q_t_now_a q_t_now_home q_t_now_aim q_t_now_at v_t_now_hour v_t_now_chance v_t_now_seed), (q_t_now_ways, .inl (cy 0, 12, .inl v_t_now_ways)), (q_t_now_distances, .inl (cy 0, 144, .inl v_t_now_distances)), (q_t_now_kind, .inl (cy 0, 8, .inl v_t_now_kind)), (q_t_now_a, .inl (cy 0, 8, .inl v_t_now_a)), (q_t_now_home, .inl (cy 0, 8, .inl v_t_now_home)), (q_t_now_aim, .inl (cy 0, 8, .inl v_t_now_aim)), (q_t_now_at, .inl (cy 0, 8, .inl v_t_now_at)), (q_t_kept, oX5 v_t_kept_places q_t_kept_ways q_t_kept_distances v_t_kept_people q_t_kept_kind q_t_kept_a q_t_kept_home q_t_kept_aim q_t_kept_at v_t_kept_hour v_t_kept_chance v_t_kept_seed), (q_t_kept_ways, .inl (cy 0, 12, .inl v_t_kept_ways)), (q_t_kept_distances, .inl (cy 0, 144, .inl v_t_kept_distances)), (q_t_kept_kind, .inl (cy 0, 8, .inl v_t_kept_kind)), (q_t_kept_a, .inl (cy 0, 8, .inl v_t_kept_a)), (q_t_kept_home, .inl (cy 0, 8, .inl v_t_kept_home)), (q_t_kept_aim, .inl (cy 0, 8, .inl v_t_kept_aim)), (q_t_kept_at, .inl (cy 0, 8, .inl v_t_kept_at)), (q_t_shelves, .inl (cy 2, 8, .inr (.inr (.inr (.inr (fun i => some (ad_t_shelves i))))))), (q_t_refusals, .inl (cy 0, 5, .inl v_t_refusals))] ++ wSh cy ad_t_shelves ae_t_shelves v_t_shelves_c v_t_shelves_z v_t_shelves_e) sz) := by
  refine Met.ofW (cc := cX7_back) (maxL := 2) (ret := (some .int)) (by decide) rfl ?_
  intro p e s m args below meth c s₁ B hml hv
  obtain ⟨rfl, hsz, hP, hK, hD0⟩ := hv
  have hx := B.exec
  have hb := B.bytes
  have hr := B.returns
  have hts := atoms_spec (ws := wsX7_back) B.pre
  have hown : s.vm.findClass RX7 = some m.cls := findClass_of_methodNamed B.named
  have hlocks := B.notSynchronized
  subst hsz
  have hD := hD0.self (sz := s.heap.size)
  generalize hAe : va_A ([(q_t, oX7 q_t_now q_t_future q_t_draft q_t_kept v_t_isKept q_t_shelves q_t_tape q_t_reader q_t_hiddenWay q_t_sights q_t_choice q_t_refusals), (q_t_now, oX5 v_t_now_places q_t_now_ways q_t_now_distances v_t_now_people q_t_now_kind q_t_now_a q_t_now_home q_t_now_aim q_t_now_at v_t_now_hour v_t_now_chance v_t_now_seed), (q_t_now_ways, .inl (cy 0, 12, .inl v_t_now_ways)), (q_t_now_distances, .inl (cy 0, 144, .inl v_t_now_distances)), (q_t_now_kind, .inl (cy 0, 8, .inl v_t_now_kind)), (q_t_now_a, .inl (cy 0, 8, .inl v_t_now_a)), (q_t_now_home, .inl (cy 0, 8, .inl v_t_now_home)), (q_t_now_aim, .inl (cy 0, 8, .inl v_t_now_aim)), (q_t_now_at, .inl (cy 0, 8, .inl v_t_now_at)), (q_t_kept, oX5 v_t_kept_places q_t_kept_ways q_t_kept_distances v_t_kept_people q_t_kept_kind q_t_kept_a q_t_kept_home q_t_kept_aim q_t_kept_at v_t_kept_hour v_t_kept_chance v_t_kept_seed), (q_t_kept_ways, .inl (cy 0, 12, .inl v_t_kept_ways)), (q_t_kept_distances, .inl (cy 0, 144, .inl v_t_kept_distances)), (q_t_kept_kind, .inl (cy 0, 8, .inl v_t_kept_kind)), (q_t_kept_a, .inl (cy 0, 8, .inl v_t_kept_a)), (q_t_kept_home, .inl (cy 0, 8, .inl v_t_kept_home)), (q_t_kept_aim, .inl (cy 0, 8, .inl v_t_kept_aim)), (q_t_kept_at, .inl (cy 0, 8, .inl v_t_kept_at)), (q_t_shelves, .inl (cy 2, 8, .inr (.inr (.inr (.inr (fun i => some (ad_t_shelves i))))))), (q_t_refusals, .inl (cy 0, 5, .inl v_t_refusals))] ++ wSh cy ad_t_shelves ae_t_shelves v_t_shelves_c v_t_shelves_z v_t_shelves_e) s.heap.size = A at hD ⊢
  have hA : ∀ q : Nat, s.heap.size ≤ q → A q := fun q h => by rw [← hAe]; exact Or.inr h
  have hS : va_S A s.heap s.heap [] := va_S.rf
  have hP : va_P D vwCl ([(q_t, oX7 q_t_now q_t_future q_t_draft q_t_kept v_t_isKept q_t_shelves q_t_tape q_t_reader q_t_hiddenWay q_t_sights q_t_choice q_t_refusals), (q_t_now, oX5 v_t_now_places q_t_now_ways q_t_now_distances v_t_now_people q_t_now_kind q_t_now_a q_t_now_home q_t_now_aim q_t_now_at v_t_now_hour v_t_now_chance v_t_now_seed), (q_t_now_ways, .inl (cy 0, 12, .inl v_t_now_ways)), (q_t_now_distances, .inl (cy 0, 144, .inl v_t_now_distances)), (q_t_now_kind, .inl (cy 0, 8, .inl v_t_now_kind)), (q_t_now_a, .inl (cy 0, 8, .inl v_t_now_a)), (q_t_now_home, .inl (cy 0, 8, .inl v_t_now_home)), (q_t_now_aim, .inl (cy 0, 8, .inl v_t_now_aim)), (q_t_now_at, .inl (cy 0, 8, .inl v_t_now_at)), (q_t_kept, oX5 v_t_kept_places q_t_kept_ways q_t_kept_distances v_t_kept_people q_t_kept_kind q_t_kept_a q_t_kept_home q_t_kept_aim q_t_kept_at v_t_kept_hour v_t_kept_chance v_t_kept_seed), (q_t_kept_ways, .inl (cy 0, 12, .inl v_t_kept_ways)), (q_t_kept_distances, .inl (cy 0, 144, .inl v_t_kept_distances)), (q_t_kept_kind, .inl (cy 0, 8, .inl v_t_kept_kind)), (q_t_kept_a, .inl (cy 0, 8, .inl v_t_kept_a)), (q_t_kept_home, .inl (cy 0, 8, .inl v_t_kept_home)), (q_t_kept_aim, .inl (cy 0, 8, .inl v_t_kept_aim)), (q_t_kept_at, .inl (cy 0, 8, .inl v_t_kept_at)), (q_t_shelves, .inl (cy 2, 8, .inr (.inr (.inr (.inr (fun i => some (ad_t_shelves i))))))), (q_t_refusals, .inl (cy 0, 5, .inl v_t_refusals))] ++ wSh cy ad_t_shelves ae_t_shelves v_t_shelves_c v_t_shelves_z v_t_shelves_e) s.heap := hP
  have hinX7 : ∀ w ∈ u_ws RX7 TX7 12, w ∈ wsX7_back := by decide +kernel
  have hk321 := hts (.fieldLink RX7 321 "ShowsWhereNobodyIs" "isKept" "Z") (by decide +kernel)
  have hk10 := hts (.fieldLink RX7 10 "ShowsWhereNobodyIs" "now" "LShowsWhereNobodyIs$Town;") (by decide +kernel)
  have hk22 := hts (.fieldLink RX7 22 "ShowsWhereNobodyIs" "kept" "LShowsWhereNobodyIs$Town;") (by decide +kernel)
  have hk27 := hts (.fieldLink RX7 27 "ShowsWhereNobodyIs" "shelves" "[LShowsWhereNobodyIs$Shelf;") (by decide +kernel)
  have hl := lv_entry ([.ref q_t]) (n := 2) (Nat.le_of_ble_eq_true rfl)
  rw [lg_entry_eq]
  generalize (lg_sl ([.ref q_t]) ++ List.replicate (2 - (lg_sl ([.ref q_t])).length) Slot.unset).toArray = ls at hl ⊢
  have hl : lv_has ls 2 [(0, .ref q_t)] := hl
  unfold fX7_back at hf
  refine lv_aload_n hx hb dX7_back_0 rfl (lv_at hl 0 rfl) ?_
  refine va_get (D := D) (ci := 7) (v := .int v_t_isKept) (C := RX7) (T := TX7) (N := 12) hx hb hts hinX7 hown hK.1 hP 0 rfl rfl 4 (by decide) hk321 (fun _ h9 => h9) rfl dX7_back_1 ?_
  refine lv_if_ne (tgt := 14) hx hb dX7_back_4 (by decide) (fun c43 => ?_) (fun c43 => ?_)
  · have hf := ifF hf c43
    clear c43
    refine lv_aload_n hx hb dX7_back_14 rfl (lv_at hl 0 rfl) ?_
    refine va_get (D := D) (ci := 7) (v := .ref q_t_now) (C := RX7) (T := TX7) (N := 12) hx hb hts hinX7 hown hK.1 hP 0 rfl rfl 0 (by decide) hk10 (fun _ h9 => h9) rfl dX7_back_15 ?_
    refine lv_aload_n hx hb dX7_back_18 rfl (lv_at hl 0 rfl) ?_
    refine va_get (D := D) (ci := 7) (v := .ref q_t_kept) (C := RX7) (T := TX7) (N := 12) hx hb hts hinX7 hown hK.1 hP 0 rfl rfl 3 (by decide) hk22 (fun _ h9 => h9) rfl dX7_back_19 ?_
    obtain ⟨u1, u2, u3, u4, u5, u6, u7, u8, u9, u10, u11, u12, hr13, hf⟩ := boE12 hf
    have hPc := hP.sub (ws' := [(q_t_now, oX5 v_t_now_places q_t_now_ways q_t_now_distances v_t_now_people q_t_now_kind q_t_now_a q_t_now_home q_t_now_aim q_t_now_at v_t_now_hour v_t_now_chance v_t_now_seed), (q_t_now_ways, .inl (cy 0, 12, .inl v_t_now_ways)), (q_t_now_distances, .inl (cy 0, 144, .inl v_t_now_distances)), (q_t_now_kind, .inl (cy 0, 8, .inl v_t_now_kind)), (q_t_now_a, .inl (cy 0, 8, .inl v_t_now_a)), (q_t_now_home, .inl (cy 0, 8, .inl v_t_now_home)), (q_t_now_aim, .inl (cy 0, 8, .inl v_t_now_aim)), (q_t_now_at, .inl (cy 0, 8, .inl v_t_now_at)), (q_t_kept, oX5 v_t_kept_places q_t_kept_ways q_t_kept_distances v_t_kept_people q_t_kept_kind q_t_kept_a q_t_kept_home q_t_kept_aim q_t_kept_at v_t_kept_hour v_t_kept_chance v_t_kept_seed), (q_t_kept_ways, .inl (cy 0, 12, .inl v_t_kept_ways)), (q_t_kept_distances, .inl (cy 0, 144, .inl v_t_kept_distances)), (q_t_kept_kind, .inl (cy 0, 8, .inl v_t_kept_kind)), (q_t_kept_a, .inl (cy 0, 8, .inl v_t_kept_a)), (q_t_kept_home, .inl (cy 0, 8, .inl v_t_kept_home)), (q_t_kept_aim, .inl (cy 0, 8, .inl v_t_kept_aim)), (q_t_kept_at, .inl (cy 0, 8, .inl v_t_kept_at))]) [1, 2, 3, 4, 5, 6, 7, 8, 9, 10, 11, 12, 13, 14, 15, 16] rfl
    have hDc := hD.sub (ws' := [(q_t_now, oX5 v_t_now_places q_t_now_ways q_t_now_distances v_t_now_people q_t_now_kind q_t_now_a q_t_now_home q_t_now_aim q_t_now_at v_t_now_hour v_t_now_chance v_t_now_seed), (q_t_now_ways, .inl (cy 0, 12, .inl v_t_now_ways)), (q_t_now_distances, .inl (cy 0, 144, .inl v_t_now_distances)), (q_t_now_kind, .inl (cy 0, 8, .inl v_t_now_kind)), (q_t_now_a, .inl (cy 0, 8, .inl v_t_now_a)), (q_t_now_home, .inl (cy 0, 8, .inl v_t_now_home)), (q_t_now_aim, .inl (cy 0, 8, .inl v_t_now_aim)), (q_t_now_at, .inl (cy 0, 8, .inl v_t_now_at)), (q_t_kept, oX5 v_t_kept_places q_t_kept_ways q_t_kept_distances v_t_kept_people q_t_kept_kind q_t_kept_a q_t_kept_home q_t_kept_aim q_t_kept_at v_t_kept_hour v_t_kept_chance v_t_kept_seed), (q_t_kept_ways, .inl (cy 0, 12, .inl v_t_kept_ways)), (q_t_kept_distances, .inl (cy 0, 144, .inl v_t_kept_distances)), (q_t_kept_kind, .inl (cy 0, 8, .inl v_t_kept_kind)), (q_t_kept_a, .inl (cy 0, 8, .inl v_t_kept_a)), (q_t_kept_home, .inl (cy 0, 8, .inl v_t_kept_home)), (q_t_kept_aim, .inl (cy 0, 8, .inl v_t_kept_aim)), (q_t_kept_at, .inl (cy 0, 8, .inl v_t_kept_at))]) [1, 2, 3, 4, 5, 6, 7, 8, 9, 10, 11, 12, 13, 14, 15, 16] (by decide) rfl
    refine xcQvQ (w1 := [(q_t_now, oX5 u1 q_t_now_ways q_t_now_distances u2 q_t_now_kind q_t_now_a q_t_now_home q_t_now_aim q_t_now_at u3 u4 u5), (q_t_now_ways, .inl (cy 0, 12, .inl u6)), (q_t_now_distances, .inl (cy 0, 144, .inl u7)), (q_t_now_kind, .inl (cy 0, 8, .inl u8)), (q_t_now_a, .inl (cy 0, 8, .inl u9)), (q_t_now_home, .inl (cy 0, 8, .inl u10)), (q_t_now_aim, .inl (cy 0, 8, .inl u11)), (q_t_now_at, .inl (cy 0, 8, .inl u12)), (q_t_kept, oX5 v_t_kept_places q_t_kept_ways q_t_kept_distances v_t_kept_people q_t_kept_kind q_t_kept_a q_t_kept_home q_t_kept_aim q_t_kept_at v_t_kept_hour v_t_kept_chance v_t_kept_seed), (q_t_kept_ways, .inl (cy 0, 12, .inl v_t_kept_ways)), (q_t_kept_distances, .inl (cy 0, 144, .inl v_t_kept_distances)), (q_t_kept_kind, .inl (cy 0, 8, .inl v_t_kept_kind)), (q_t_kept_a, .inl (cy 0, 8, .inl v_t_kept_a)), (q_t_kept_home, .inl (cy 0, 8, .inl v_t_kept_home)), (q_t_kept_aim, .inl (cy 0, 8, .inl v_t_kept_aim)), (q_t_kept_at, .inl (cy 0, 8, .inl v_t_kept_at))]) (va_runV (As := [.ref q_t_kept]) (rest := []) ⟨hx, hb, hml, hown, hts⟩ (mX5_become l D cy q_t_now q_t_kept q_t_now_ways q_t_now_distances q_t_now_kind q_t_now_a q_t_now_home q_t_now_aim q_t_now_at q_t_kept_ways q_t_kept_distances q_t_kept_kind q_t_kept_a q_t_kept_home q_t_kept_aim q_t_kept_at v_t_now_places v_t_now_people v_t_now_hour v_t_now_chance v_t_now_seed v_t_now_ways v_t_now_distances v_t_now_kind v_t_now_a v_t_now_home v_t_now_aim v_t_now_at v_t_kept_places v_t_kept_people v_t_kept_hour v_t_kept_chance v_t_kept_seed v_t_kept_ways v_t_kept_distances v_t_kept_kind v_t_kept_a v_t_kept_home v_t_kept_aim v_t_kept_at _  hr13) (cwV 1 hts gX7_back_X5_become rfl rfl rfl (by decide +kernel) ⟨Nat.le_of_ble_eq_true rfl, Nat.le_of_ble_eq_true rfl⟩) (xPVw hK hPc hDc (ci := 5) (q0 := 0) rfl rfl) rfl rfl hl.1 rfl (lv_room (Nat.le_of_ble_eq_true rfl)) dX7_back_22 ⟨Nat.le_of_ble_eq_true rfl, Nat.le_of_ble_eq_true rfl⟩) hP hD hS hA [1, 2, 3, 4, 5, 6, 7, 8, 9, 10, 11, 12, 13, 14, 15, 16] rfl rfl (fun H locs hP hD hS => ?_)
    have hP : va_P D vwCl ([(q_t, oX7 q_t_now q_t_future q_t_draft q_t_kept v_t_isKept q_t_shelves q_t_tape q_t_reader q_t_hiddenWay q_t_sights q_t_choice q_t_refusals), (q_t_now, oX5 u1 q_t_now_ways q_t_now_distances u2 q_t_now_kind q_t_now_a q_t_now_home q_t_now_aim q_t_now_at u3 u4 u5), (q_t_now_ways, .inl (cy 0, 12, .inl u6)), (q_t_now_distances, .inl (cy 0, 144, .inl u7)), (q_t_now_kind, .inl (cy 0, 8, .inl u8)), (q_t_now_a, .inl (cy 0, 8, .inl u9)), (q_t_now_home, .inl (cy 0, 8, .inl u10)), (q_t_now_aim, .inl (cy 0, 8, .inl u11)), (q_t_now_at, .inl (cy 0, 8, .inl u12)), (q_t_kept, oX5 v_t_kept_places q_t_kept_ways q_t_kept_distances v_t_kept_people q_t_kept_kind q_t_kept_a q_t_kept_home q_t_kept_aim q_t_kept_at v_t_kept_hour v_t_kept_chance v_t_kept_seed), (q_t_kept_ways, .inl (cy 0, 12, .inl v_t_kept_ways)), (q_t_kept_distances, .inl (cy 0, 144, .inl v_t_kept_distances)), (q_t_kept_kind, .inl (cy 0, 8, .inl v_t_kept_kind)), (q_t_kept_a, .inl (cy 0, 8, .inl v_t_kept_a)), (q_t_kept_home, .inl (cy 0, 8, .inl v_t_kept_home)), (q_t_kept_aim, .inl (cy 0, 8, .inl v_t_kept_aim)), (q_t_kept_at, .inl (cy 0, 8, .inl v_t_kept_at)), (q_t_shelves, .inl (cy 2, 8, .inr (.inr (.inr (.inr (fun i => some (ad_t_shelves i))))))), (q_t_refusals, .inl (cy 0, 5, .inl v_t_refusals))] ++ wSh cy ad_t_shelves ae_t_shelves v_t_shelves_c v_t_shelves_z v_t_shelves_e) H := hP
    have hD : va_D A ([(q_t, oX7 q_t_now q_t_future q_t_draft q_t_kept v_t_isKept q_t_shelves q_t_tape q_t_reader q_t_hiddenWay q_t_sights q_t_choice q_t_refusals), (q_t_now, oX5 u1 q_t_now_ways q_t_now_distances u2 q_t_now_kind q_t_now_a q_t_now_home q_t_now_aim q_t_now_at u3 u4 u5), (q_t_now_ways, .inl (cy 0, 12, .inl u6)), (q_t_now_distances, .inl (cy 0, 144, .inl u7)), (q_t_now_kind, .inl (cy 0, 8, .inl u8)), (q_t_now_a, .inl (cy 0, 8, .inl u9)), (q_t_now_home, .inl (cy 0, 8, .inl u10)), (q_t_now_aim, .inl (cy 0, 8, .inl u11)), (q_t_now_at, .inl (cy 0, 8, .inl u12)), (q_t_kept, oX5 v_t_kept_places q_t_kept_ways q_t_kept_distances v_t_kept_people q_t_kept_kind q_t_kept_a q_t_kept_home q_t_kept_aim q_t_kept_at v_t_kept_hour v_t_kept_chance v_t_kept_seed), (q_t_kept_ways, .inl (cy 0, 12, .inl v_t_kept_ways)), (q_t_kept_distances, .inl (cy 0, 144, .inl v_t_kept_distances)), (q_t_kept_kind, .inl (cy 0, 8, .inl v_t_kept_kind)), (q_t_kept_a, .inl (cy 0, 8, .inl v_t_kept_a)), (q_t_kept_home, .inl (cy 0, 8, .inl v_t_kept_home)), (q_t_kept_aim, .inl (cy 0, 8, .inl v_t_kept_aim)), (q_t_kept_at, .inl (cy 0, 8, .inl v_t_kept_at)), (q_t_shelves, .inl (cy 2, 8, .inr (.inr (.inr (.inr (fun i => some (ad_t_shelves i))))))), (q_t_refusals, .inl (cy 0, 5, .inl v_t_refusals))] ++ wSh cy ad_t_shelves ae_t_shelves v_t_shelves_c v_t_shelves_z v_t_shelves_e) := hD
    refine lv_iconst (v := 0) hx hb dX7_back_25 (by decide) ?_
    refine lv_istore_n (lv' := [(1, .int (0 : Int32)), (0, .ref q_t)]) hx hb dX7_back_26 rfl hl (by decide) rfl (fun ls hl => ?_)
    refine wlw3 27 (fun _ _ _ => []) (fun (x14 : Int32) (u15 : Nat → Int32) (u16 : Nat → Int32) H locs ls => va_P D vwCl ([(q_t, oX7 q_t_now q_t_future q_t_draft q_t_kept v_t_isKept q_t_shelves q_t_tape q_t_reader q_t_hiddenWay q_t_sights q_t_choice q_t_refusals), (q_t_now, oX5 u1 q_t_now_ways q_t_now_distances u2 q_t_now_kind q_t_now_a q_t_now_home q_t_now_aim q_t_now_at u3 u4 u5), (q_t_now_ways, .inl (cy 0, 12, .inl u6)), (q_t_now_distances, .inl (cy 0, 144, .inl u7)), (q_t_now_kind, .inl (cy 0, 8, .inl u8)), (q_t_now_a, .inl (cy 0, 8, .inl u9)), (q_t_now_home, .inl (cy 0, 8, .inl u10)), (q_t_now_aim, .inl (cy 0, 8, .inl u11)), (q_t_now_at, .inl (cy 0, 8, .inl u12)), (q_t_kept, oX5 v_t_kept_places q_t_kept_ways q_t_kept_distances v_t_kept_people q_t_kept_kind q_t_kept_a q_t_kept_home q_t_kept_aim q_t_kept_at v_t_kept_hour v_t_kept_chance v_t_kept_seed), (q_t_kept_ways, .inl (cy 0, 12, .inl v_t_kept_ways)), (q_t_kept_distances, .inl (cy 0, 144, .inl v_t_kept_distances)), (q_t_kept_kind, .inl (cy 0, 8, .inl v_t_kept_kind)), (q_t_kept_a, .inl (cy 0, 8, .inl v_t_kept_a)), (q_t_kept_home, .inl (cy 0, 8, .inl v_t_kept_home)), (q_t_kept_aim, .inl (cy 0, 8, .inl v_t_kept_aim)), (q_t_kept_at, .inl (cy 0, 8, .inl v_t_kept_at)), (q_t_shelves, .inl (cy 2, 8, .inr (.inr (.inr (.inr (fun i => some (ad_t_shelves i))))))), (q_t_refusals, .inl (cy 0, 5, .inl v_t_refusals))] ++ wSh cy ad_t_shelves ae_t_shelves u15 u16 v_t_shelves_e) H ∧ va_D A ([(q_t, oX7 q_t_now q_t_future q_t_draft q_t_kept v_t_isKept q_t_shelves q_t_tape q_t_reader q_t_hiddenWay q_t_sights q_t_choice q_t_refusals), (q_t_now, oX5 u1 q_t_now_ways q_t_now_distances u2 q_t_now_kind q_t_now_a q_t_now_home q_t_now_aim q_t_now_at u3 u4 u5), (q_t_now_ways, .inl (cy 0, 12, .inl u6)), (q_t_now_distances, .inl (cy 0, 144, .inl u7)), (q_t_now_kind, .inl (cy 0, 8, .inl u8)), (q_t_now_a, .inl (cy 0, 8, .inl u9)), (q_t_now_home, .inl (cy 0, 8, .inl u10)), (q_t_now_aim, .inl (cy 0, 8, .inl u11)), (q_t_now_at, .inl (cy 0, 8, .inl u12)), (q_t_kept, oX5 v_t_kept_places q_t_kept_ways q_t_kept_distances v_t_kept_people q_t_kept_kind q_t_kept_a q_t_kept_home q_t_kept_aim q_t_kept_at v_t_kept_hour v_t_kept_chance v_t_kept_seed), (q_t_kept_ways, .inl (cy 0, 12, .inl v_t_kept_ways)), (q_t_kept_distances, .inl (cy 0, 144, .inl v_t_kept_distances)), (q_t_kept_kind, .inl (cy 0, 8, .inl v_t_kept_kind)), (q_t_kept_a, .inl (cy 0, 8, .inl v_t_kept_a)), (q_t_kept_home, .inl (cy 0, 8, .inl v_t_kept_home)), (q_t_kept_aim, .inl (cy 0, 8, .inl v_t_kept_aim)), (q_t_kept_at, .inl (cy 0, 8, .inl v_t_kept_at)), (q_t_shelves, .inl (cy 2, 8, .inr (.inr (.inr (.inr (fun i => some (ad_t_shelves i))))))), (q_t_refusals, .inl (cy 0, 5, .inl v_t_refusals))] ++ wSh cy ad_t_shelves ae_t_shelves u15 u16 v_t_shelves_e) ∧ va_S A s.heap H locs ∧ lv_has ls 2 [(1, .int x14), (0, .ref q_t)]) (fun g17 L27 x14 u15 u16 H locs ls hI hf => ?_) 400 (0 : Int32) v_t_shelves_c v_t_shelves_z _ _ ls ⟨hP, hD, hS, lv_sub hl [0, 1] rfl⟩ hf
    obtain ⟨hP, hD, hS, hl⟩ := hI
    refine lv_iload_n hx hb dX7_back_27 rfl (lv_at hl 0 rfl) ?_
    refine lv_bipush (v := 8) hx hb dX7_back_28 (by decide) ?_
    refine lv_icmp_ge (tgt := 76) hx hb dX7_back_30 (by decide) (fun c39 => ?_) (fun c39 => ?_)
    · have hf := ifT hf c39
      clear c39
      refine lv_iconst (v := 1) hx hb dX7_back_76 (by decide) ?_
      have hg0 := Option.some.inj hf
      obtain ⟨ee0, hg1⟩ := Prod.mk.inj hg0
      obtain ⟨ee1, hg2⟩ := Prod.mk.inj hg1
      obtain ⟨ee2, hg3⟩ := Prod.mk.inj hg2
      obtain ⟨ee3, hg4⟩ := Prod.mk.inj hg3
      obtain ⟨ee4, hg5⟩ := Prod.mk.inj hg4
      obtain ⟨ee5, hg6⟩ := Prod.mk.inj hg5
      obtain ⟨ee6, hg7⟩ := Prod.mk.inj hg6
      obtain ⟨ee7, hg8⟩ := Prod.mk.inj hg7
      obtain ⟨ee8, hg9⟩ := Prod.mk.inj hg8
      obtain ⟨ee9, hg10⟩ := Prod.mk.inj hg9
      obtain ⟨ee10, hg11⟩ := Prod.mk.inj hg10
      obtain ⟨ee11, hg12⟩ := Prod.mk.inj hg11
      obtain ⟨ee12, hg13⟩ := Prod.mk.inj hg12
      obtain ⟨ee13, hg14⟩ := Prod.mk.inj hg13
      obtain ⟨ee14, hg15⟩ := Prod.mk.inj hg14
      clear hf hg0 hg1 hg2 hg3 hg4 hg5 hg6 hg7 hg8 hg9 hg10 hg11 hg12 hg13 hg14
      subst ee0
      subst ee1
      subst ee2
      subst ee3
      subst ee4
      subst ee5
      subst ee6
      subst ee7
      subst ee8
      subst ee9
      subst ee10
      subst ee11
      subst ee12
      subst ee13
      subst ee14
      subst hg15
      exact W.iret (v := (1 : Int32)) hx hb hr (fun t ht hW => ⟨⟨(1 : Int32), (), rfl, rfl, xend ht hP⟩, hS.F ht⟩) hS.2.2 dX7_back_77
    · have hf := ifF hf c39
      clear c39
      refine lv_aload_n hx hb dX7_back_33 rfl (lv_at hl 1 rfl) ?_
      refine va_get (D := D) (ci := 7) (v := .ref q_t_shelves) (C := RX7) (T := TX7) (N := 12) hx hb hts hinX7 hown hK.1 hP 0 rfl rfl 5 (by decide) hk27 (fun _ h9 => h9) rfl dX7_back_34 ?_
      refine lv_iload_n hx hb dX7_back_37 rfl (lv_at hl 0 rfl) ?_
      obtain ⟨hi18, hf⟩ := ckE hf
      have hj19 : x14.toNatClampNeg < 8 := xlt hi18
      refine va_aldq hx hb hK.1 hP 17 2 rfl rfl hi18 dX7_back_38 ?_
      refine W.eq (g2 := F0 m 39 ls [.ref (ad_t_shelves x14.toNatClampNeg)]) rfl ?_
      obtain ⟨r20, hr21, hf⟩ := boE1 hf
      have hPc := xshP hP hj19
      refine xcSi (va_runV (As := []) (rest := []) ⟨hx, hb, hml, hown, hts⟩ (mX2_holdsPerson l D cy (ad_t_shelves x14.toNatClampNeg) (ae_t_shelves x14.toNatClampNeg) (u15 x14.toNatClampNeg) (u16 x14.toNatClampNeg) (v_t_shelves_e x14.toNatClampNeg)   hr21) (cwV 0 hts gX7_back_X2_holdsPerson rfl rfl rfl (by decide +kernel) ⟨Nat.le_of_ble_eq_true rfl, Nat.le_of_ble_eq_true rfl⟩) (xPV hK hPc (ci := 2) (q0 := 0) rfl rfl) rfl rfl hl.1 rfl (lv_room (Nat.le_of_ble_eq_true rfl)) dX7_back_39 ⟨Nat.le_of_ble_eq_true rfl, Nat.le_of_ble_eq_true rfl⟩) ?_
      refine jww2 70 (fun (u22 : Nat → Int32) (u23 : Nat → Int32) => []) (fun (u22 : Nat → Int32) (u23 : Nat → Int32) H locs ls => va_P D vwCl ([(q_t, oX7 q_t_now q_t_future q_t_draft q_t_kept v_t_isKept q_t_shelves q_t_tape q_t_reader q_t_hiddenWay q_t_sights q_t_choice q_t_refusals), (q_t_now, oX5 u1 q_t_now_ways q_t_now_distances u2 q_t_now_kind q_t_now_a q_t_now_home q_t_now_aim q_t_now_at u3 u4 u5), (q_t_now_ways, .inl (cy 0, 12, .inl u6)), (q_t_now_distances, .inl (cy 0, 144, .inl u7)), (q_t_now_kind, .inl (cy 0, 8, .inl u8)), (q_t_now_a, .inl (cy 0, 8, .inl u9)), (q_t_now_home, .inl (cy 0, 8, .inl u10)), (q_t_now_aim, .inl (cy 0, 8, .inl u11)), (q_t_now_at, .inl (cy 0, 8, .inl u12)), (q_t_kept, oX5 v_t_kept_places q_t_kept_ways q_t_kept_distances v_t_kept_people q_t_kept_kind q_t_kept_a q_t_kept_home q_t_kept_aim q_t_kept_at v_t_kept_hour v_t_kept_chance v_t_kept_seed), (q_t_kept_ways, .inl (cy 0, 12, .inl v_t_kept_ways)), (q_t_kept_distances, .inl (cy 0, 144, .inl v_t_kept_distances)), (q_t_kept_kind, .inl (cy 0, 8, .inl v_t_kept_kind)), (q_t_kept_a, .inl (cy 0, 8, .inl v_t_kept_a)), (q_t_kept_home, .inl (cy 0, 8, .inl v_t_kept_home)), (q_t_kept_aim, .inl (cy 0, 8, .inl v_t_kept_aim)), (q_t_kept_at, .inl (cy 0, 8, .inl v_t_kept_at)), (q_t_shelves, .inl (cy 2, 8, .inr (.inr (.inr (.inr (fun i => some (ad_t_shelves i))))))), (q_t_refusals, .inl (cy 0, 5, .inl v_t_refusals))] ++ wSh cy ad_t_shelves ae_t_shelves u22 u23 v_t_shelves_e) H ∧ va_D A ([(q_t, oX7 q_t_now q_t_future q_t_draft q_t_kept v_t_isKept q_t_shelves q_t_tape q_t_reader q_t_hiddenWay q_t_sights q_t_choice q_t_refusals), (q_t_now, oX5 u1 q_t_now_ways q_t_now_distances u2 q_t_now_kind q_t_now_a q_t_now_home q_t_now_aim q_t_now_at u3 u4 u5), (q_t_now_ways, .inl (cy 0, 12, .inl u6)), (q_t_now_distances, .inl (cy 0, 144, .inl u7)), (q_t_now_kind, .inl (cy 0, 8, .inl u8)), (q_t_now_a, .inl (cy 0, 8, .inl u9)), (q_t_now_home, .inl (cy 0, 8, .inl u10)), (q_t_now_aim, .inl (cy 0, 8, .inl u11)), (q_t_now_at, .inl (cy 0, 8, .inl u12)), (q_t_kept, oX5 v_t_kept_places q_t_kept_ways q_t_kept_distances v_t_kept_people q_t_kept_kind q_t_kept_a q_t_kept_home q_t_kept_aim q_t_kept_at v_t_kept_hour v_t_kept_chance v_t_kept_seed), (q_t_kept_ways, .inl (cy 0, 12, .inl v_t_kept_ways)), (q_t_kept_distances, .inl (cy 0, 144, .inl v_t_kept_distances)), (q_t_kept_kind, .inl (cy 0, 8, .inl v_t_kept_kind)), (q_t_kept_a, .inl (cy 0, 8, .inl v_t_kept_a)), (q_t_kept_home, .inl (cy 0, 8, .inl v_t_kept_home)), (q_t_kept_aim, .inl (cy 0, 8, .inl v_t_kept_aim)), (q_t_kept_at, .inl (cy 0, 8, .inl v_t_kept_at)), (q_t_shelves, .inl (cy 2, 8, .inr (.inr (.inr (.inr (fun i => some (ad_t_shelves i))))))), (q_t_refusals, .inl (cy 0, 5, .inl v_t_refusals))] ++ wSh cy ad_t_shelves ae_t_shelves u22 u23 v_t_shelves_e) ∧ va_S A s.heap H locs ∧ lv_has ls 2 [(0, .ref q_t), (1, .int x14)]) hf (fun u22 u23 H locs ls hI hf => ?_) (fun k24 J70 hf => ?_)
      · obtain ⟨hP, hD, hS, hl⟩ := hI
        obtain ⟨x25, ex25⟩ : ∃ y : Int32, y = x14 + (1 : Int32) := ⟨_, rfl⟩
        have hf := vlE hf ex25
        refine lv_iinc (v := x25) (lv' := [(1, .int x25), (0, .ref q_t)]) hx hb dX7_back_70 hl (k := 1) rfl (by rw [ex25]; rfl) (by decide) rfl (fun ls hl => ?_)
        clear ex25
        refine lv_goto (tgt := 27) hx hb dX7_back_73 (by decide) ?_
        exact L27 x25 u22 u23 _ _ ls ⟨hP, hD, hS, lv_sub hl [0, 1] rfl⟩ hf
      · refine lv_if_eq (tgt := 70) hx hb dX7_back_42 (by decide) (fun c38 => ?_) (fun c38 => ?_)
        · have hf := ifT hf c38
          clear c38
          exact J70 u15 u16 _ _ ls ⟨hP, hD, hS, lv_sub hl [1, 0] rfl⟩ hf
        · have hf := ifF hf c38
          clear c38
          refine lv_aload_n hx hb dX7_back_45 rfl (lv_at hl 1 rfl) ?_
          refine lv_aload_n hx hb dX7_back_46 rfl (lv_at hl 1 rfl) ?_
          refine va_get (D := D) (ci := 7) (v := .ref q_t_shelves) (C := RX7) (T := TX7) (N := 12) hx hb hts hinX7 hown hK.1 hP 0 rfl rfl 5 (by decide) hk27 (fun _ h9 => h9) rfl dX7_back_47 ?_
          refine lv_iload_n hx hb dX7_back_50 rfl (lv_at hl 0 rfl) ?_
          obtain ⟨hi26, hf⟩ := ckE hf
          have hj27 : x14.toNatClampNeg < 8 := xlt hi26
          refine va_aldq hx hb hK.1 hP 17 2 rfl rfl hi26 dX7_back_51 ?_
          refine W.eq (g2 := F0 m 52 ls [.ref (ad_t_shelves x14.toNatClampNeg), .ref q_t]) rfl ?_
          obtain ⟨r28, hr29, hf⟩ := boE1 hf
          have hPc := xshP hP hj27
          refine xcSi (va_runV (As := []) (rest := [.ref q_t]) ⟨hx, hb, hml, hown, hts⟩ (mX2_personNumber l D cy (ad_t_shelves x14.toNatClampNeg) (ae_t_shelves x14.toNatClampNeg) (u15 x14.toNatClampNeg) (u16 x14.toNatClampNeg) (v_t_shelves_e x14.toNatClampNeg)   hr29) (cwV 0 hts gX7_back_X2_personNumber rfl rfl rfl (by decide +kernel) ⟨Nat.le_of_ble_eq_true rfl, Nat.le_of_ble_eq_true rfl⟩) (xPV hK hPc (ci := 2) (q0 := 0) rfl rfl) rfl rfl hl.1 rfl (lv_room (Nat.le_of_ble_eq_true rfl)) dX7_back_52 ⟨Nat.le_of_ble_eq_true rfl, Nat.le_of_ble_eq_true rfl⟩) ?_
          obtain ⟨r30, hr31, hf⟩ := boE1 hf
          have hPc := hP.sub (ws' := [(q_t, oX7 q_t_now q_t_future q_t_draft q_t_kept v_t_isKept q_t_shelves q_t_tape q_t_reader q_t_hiddenWay q_t_sights q_t_choice q_t_refusals), (q_t_now, oX5 u1 q_t_now_ways q_t_now_distances u2 q_t_now_kind q_t_now_a q_t_now_home q_t_now_aim q_t_now_at u3 u4 u5)]) [0, 1] rfl
          refine xcSi (va_runV (As := [.int r28]) (rest := []) ⟨hx, hb, hml, hown, hts⟩ (mX7_isPerson l D cy q_t q_t_now q_t_future q_t_draft q_t_kept q_t_shelves q_t_tape q_t_reader q_t_hiddenWay q_t_sights q_t_choice q_t_refusals q_t_now_ways q_t_now_distances q_t_now_kind q_t_now_a q_t_now_home q_t_now_aim q_t_now_at v_t_isKept u1 u2 u3 u4 u5  r28 hr31) (cwV 1 hts gX7_back_X7_isPerson rfl rfl rfl (by decide +kernel) ⟨Nat.le_of_ble_eq_true rfl, Nat.le_of_ble_eq_true rfl⟩) (xPV hK hPc (ci := 7) (q0 := 0) rfl rfl) rfl rfl hl.1 rfl (lv_room (Nat.le_of_ble_eq_true rfl)) dX7_back_55 ⟨Nat.le_of_ble_eq_true rfl, Nat.le_of_ble_eq_true rfl⟩) ?_
          refine lv_if_ne (tgt := 70) hx hb dX7_back_58 (by decide) (fun c37 => ?_) (fun c37 => ?_)
          · have hf := ifF hf c37
            clear c37
            exact J70 u15 u16 _ _ ls ⟨hP, hD, hS, lv_sub hl [1, 0] rfl⟩ hf
          · have hf := ifT hf c37
            clear c37
            refine lv_aload_n hx hb dX7_back_61 rfl (lv_at hl 1 rfl) ?_
            refine va_get (D := D) (ci := 7) (v := .ref q_t_shelves) (C := RX7) (T := TX7) (N := 12) hx hb hts hinX7 hown hK.1 hP 0 rfl rfl 5 (by decide) hk27 (fun _ h9 => h9) rfl dX7_back_62 ?_
            refine lv_iload_n hx hb dX7_back_65 rfl (lv_at hl 0 rfl) ?_
            obtain ⟨hi32, hf⟩ := ckE hf
            have hj33 : x14.toNatClampNeg < 8 := xlt hi32
            refine va_aldq hx hb hK.1 hP 17 2 rfl rfl hi32 dX7_back_66 ?_
            refine W.eq (g2 := F0 m 67 ls [.ref (ad_t_shelves x14.toNatClampNeg)]) rfl ?_
            obtain ⟨u34, u35, hr36, hf⟩ := boE2 hf
            have hPc := xshP hP hj33
            have hDc := xshD hD hj33
            refine xcQvS (va_runV (As := []) (rest := []) ⟨hx, hb, hml, hown, hts⟩ (mX2_takeNothing l D cy (ad_t_shelves x14.toNatClampNeg) (ae_t_shelves x14.toNatClampNeg) (u15 x14.toNatClampNeg) (u16 x14.toNatClampNeg) (v_t_shelves_e x14.toNatClampNeg) _  hr36) (cwV 0 hts gX7_back_X2_takeNothing rfl rfl rfl (by decide +kernel) ⟨Nat.le_of_ble_eq_true rfl, Nat.le_of_ble_eq_true rfl⟩) (xPVw hK hPc hDc (ci := 2) (q0 := 0) rfl rfl) rfl rfl hl.1 rfl (lv_room (Nat.le_of_ble_eq_true rfl)) dX7_back_67 ⟨Nat.le_of_ble_eq_true rfl, Nat.le_of_ble_eq_true rfl⟩) hP hD hS hA hj33 (fun H locs hP hD hS => ?_)
            simp only [xup_self] at hP hD
            have hP : va_P D vwCl ([(q_t, oX7 q_t_now q_t_future q_t_draft q_t_kept v_t_isKept q_t_shelves q_t_tape q_t_reader q_t_hiddenWay q_t_sights q_t_choice q_t_refusals), (q_t_now, oX5 u1 q_t_now_ways q_t_now_distances u2 q_t_now_kind q_t_now_a q_t_now_home q_t_now_aim q_t_now_at u3 u4 u5), (q_t_now_ways, .inl (cy 0, 12, .inl u6)), (q_t_now_distances, .inl (cy 0, 144, .inl u7)), (q_t_now_kind, .inl (cy 0, 8, .inl u8)), (q_t_now_a, .inl (cy 0, 8, .inl u9)), (q_t_now_home, .inl (cy 0, 8, .inl u10)), (q_t_now_aim, .inl (cy 0, 8, .inl u11)), (q_t_now_at, .inl (cy 0, 8, .inl u12)), (q_t_kept, oX5 v_t_kept_places q_t_kept_ways q_t_kept_distances v_t_kept_people q_t_kept_kind q_t_kept_a q_t_kept_home q_t_kept_aim q_t_kept_at v_t_kept_hour v_t_kept_chance v_t_kept_seed), (q_t_kept_ways, .inl (cy 0, 12, .inl v_t_kept_ways)), (q_t_kept_distances, .inl (cy 0, 144, .inl v_t_kept_distances)), (q_t_kept_kind, .inl (cy 0, 8, .inl v_t_kept_kind)), (q_t_kept_a, .inl (cy 0, 8, .inl v_t_kept_a)), (q_t_kept_home, .inl (cy 0, 8, .inl v_t_kept_home)), (q_t_kept_aim, .inl (cy 0, 8, .inl v_t_kept_aim)), (q_t_kept_at, .inl (cy 0, 8, .inl v_t_kept_at)), (q_t_shelves, .inl (cy 2, 8, .inr (.inr (.inr (.inr (fun i => some (ad_t_shelves i))))))), (q_t_refusals, .inl (cy 0, 5, .inl v_t_refusals))] ++ wSh cy ad_t_shelves ae_t_shelves (va_up u15 x14.toNatClampNeg u34) (va_up u16 x14.toNatClampNeg u35) v_t_shelves_e) H := hP
            have hD : va_D A ([(q_t, oX7 q_t_now q_t_future q_t_draft q_t_kept v_t_isKept q_t_shelves q_t_tape q_t_reader q_t_hiddenWay q_t_sights q_t_choice q_t_refusals), (q_t_now, oX5 u1 q_t_now_ways q_t_now_distances u2 q_t_now_kind q_t_now_a q_t_now_home q_t_now_aim q_t_now_at u3 u4 u5), (q_t_now_ways, .inl (cy 0, 12, .inl u6)), (q_t_now_distances, .inl (cy 0, 144, .inl u7)), (q_t_now_kind, .inl (cy 0, 8, .inl u8)), (q_t_now_a, .inl (cy 0, 8, .inl u9)), (q_t_now_home, .inl (cy 0, 8, .inl u10)), (q_t_now_aim, .inl (cy 0, 8, .inl u11)), (q_t_now_at, .inl (cy 0, 8, .inl u12)), (q_t_kept, oX5 v_t_kept_places q_t_kept_ways q_t_kept_distances v_t_kept_people q_t_kept_kind q_t_kept_a q_t_kept_home q_t_kept_aim q_t_kept_at v_t_kept_hour v_t_kept_chance v_t_kept_seed), (q_t_kept_ways, .inl (cy 0, 12, .inl v_t_kept_ways)), (q_t_kept_distances, .inl (cy 0, 144, .inl v_t_kept_distances)), (q_t_kept_kind, .inl (cy 0, 8, .inl v_t_kept_kind)), (q_t_kept_a, .inl (cy 0, 8, .inl v_t_kept_a)), (q_t_kept_home, .inl (cy 0, 8, .inl v_t_kept_home)), (q_t_kept_aim, .inl (cy 0, 8, .inl v_t_kept_aim)), (q_t_kept_at, .inl (cy 0, 8, .inl v_t_kept_at)), (q_t_shelves, .inl (cy 2, 8, .inr (.inr (.inr (.inr (fun i => some (ad_t_shelves i))))))), (q_t_refusals, .inl (cy 0, 5, .inl v_t_refusals))] ++ wSh cy ad_t_shelves ae_t_shelves (va_up u15 x14.toNatClampNeg u34) (va_up u16 x14.toNatClampNeg u35) v_t_shelves_e) := hD
            exact J70 (va_up u15 x14.toNatClampNeg u34) (va_up u16 x14.toNatClampNeg u35) _ _ ls ⟨hP, hD, hS, lv_sub hl [1, 0] rfl⟩ hf
  · have hf := ifT hf c43
    clear c43
    refine lv_aload_n hx hb dX7_back_7 rfl (lv_at hl 0 rfl) ?_
    refine lv_bipush (v := (-5)) hx hb dX7_back_8 (by decide) ?_
    obtain ⟨r40, u41, hr42, hf⟩ := boE2 hf
    have hPc := hP.sub (ws' := [(q_t, oX7 q_t_now q_t_future q_t_draft q_t_kept v_t_isKept q_t_shelves q_t_tape q_t_reader q_t_hiddenWay q_t_sights q_t_choice q_t_refusals), (q_t_refusals, .inl (cy 0, 5, .inl v_t_refusals))]) [0, 18] rfl
    have hDc := hD.sub (ws' := [(q_t, oX7 q_t_now q_t_future q_t_draft q_t_kept v_t_isKept q_t_shelves q_t_tape q_t_reader q_t_hiddenWay q_t_sights q_t_choice q_t_refusals), (q_t_refusals, .inl (cy 0, 5, .inl v_t_refusals))]) [0, 18] (by decide) rfl
    refine xcQiQ (w1 := [(q_t, oX7 q_t_now q_t_future q_t_draft q_t_kept v_t_isKept q_t_shelves q_t_tape q_t_reader q_t_hiddenWay q_t_sights q_t_choice q_t_refusals), (q_t_refusals, .inl (cy 0, 5, .inl u41))]) (va_runV (As := [.int (-5 : Int32)]) (rest := []) ⟨hx, hb, hml, hown, hts⟩ (mX7_refuse l D cy q_t q_t_now q_t_future q_t_draft q_t_kept q_t_shelves q_t_tape q_t_reader q_t_hiddenWay q_t_sights q_t_choice q_t_refusals v_t_isKept v_t_refusals _ (-5 : Int32) hr42) (cwV 1 hts gX7_back_X7_refuse rfl rfl rfl (by decide +kernel) ⟨Nat.le_of_ble_eq_true rfl, Nat.le_of_ble_eq_true rfl⟩) (xPVw hK hPc hDc (ci := 7) (q0 := 0) rfl rfl) rfl rfl hl.1 rfl (lv_room (Nat.le_of_ble_eq_true rfl)) dX7_back_10 ⟨Nat.le_of_ble_eq_true rfl, Nat.le_of_ble_eq_true rfl⟩) hP hD hS hA [0, 18] rfl rfl (fun H locs hP hD hS => ?_)
    have hP : va_P D vwCl ([(q_t, oX7 q_t_now q_t_future q_t_draft q_t_kept v_t_isKept q_t_shelves q_t_tape q_t_reader q_t_hiddenWay q_t_sights q_t_choice q_t_refusals), (q_t_now, oX5 v_t_now_places q_t_now_ways q_t_now_distances v_t_now_people q_t_now_kind q_t_now_a q_t_now_home q_t_now_aim q_t_now_at v_t_now_hour v_t_now_chance v_t_now_seed), (q_t_now_ways, .inl (cy 0, 12, .inl v_t_now_ways)), (q_t_now_distances, .inl (cy 0, 144, .inl v_t_now_distances)), (q_t_now_kind, .inl (cy 0, 8, .inl v_t_now_kind)), (q_t_now_a, .inl (cy 0, 8, .inl v_t_now_a)), (q_t_now_home, .inl (cy 0, 8, .inl v_t_now_home)), (q_t_now_aim, .inl (cy 0, 8, .inl v_t_now_aim)), (q_t_now_at, .inl (cy 0, 8, .inl v_t_now_at)), (q_t_kept, oX5 v_t_kept_places q_t_kept_ways q_t_kept_distances v_t_kept_people q_t_kept_kind q_t_kept_a q_t_kept_home q_t_kept_aim q_t_kept_at v_t_kept_hour v_t_kept_chance v_t_kept_seed), (q_t_kept_ways, .inl (cy 0, 12, .inl v_t_kept_ways)), (q_t_kept_distances, .inl (cy 0, 144, .inl v_t_kept_distances)), (q_t_kept_kind, .inl (cy 0, 8, .inl v_t_kept_kind)), (q_t_kept_a, .inl (cy 0, 8, .inl v_t_kept_a)), (q_t_kept_home, .inl (cy 0, 8, .inl v_t_kept_home)), (q_t_kept_aim, .inl (cy 0, 8, .inl v_t_kept_aim)), (q_t_kept_at, .inl (cy 0, 8, .inl v_t_kept_at)), (q_t_shelves, .inl (cy 2, 8, .inr (.inr (.inr (.inr (fun i => some (ad_t_shelves i))))))), (q_t_refusals, .inl (cy 0, 5, .inl u41))] ++ wSh cy ad_t_shelves ae_t_shelves v_t_shelves_c v_t_shelves_z v_t_shelves_e) H := hP
    have hD : va_D A ([(q_t, oX7 q_t_now q_t_future q_t_draft q_t_kept v_t_isKept q_t_shelves q_t_tape q_t_reader q_t_hiddenWay q_t_sights q_t_choice q_t_refusals), (q_t_now, oX5 v_t_now_places q_t_now_ways q_t_now_distances v_t_now_people q_t_now_kind q_t_now_a q_t_now_home q_t_now_aim q_t_now_at v_t_now_hour v_t_now_chance v_t_now_seed), (q_t_now_ways, .inl (cy 0, 12, .inl v_t_now_ways)), (q_t_now_distances, .inl (cy 0, 144, .inl v_t_now_distances)), (q_t_now_kind, .inl (cy 0, 8, .inl v_t_now_kind)), (q_t_now_a, .inl (cy 0, 8, .inl v_t_now_a)), (q_t_now_home, .inl (cy 0, 8, .inl v_t_now_home)), (q_t_now_aim, .inl (cy 0, 8, .inl v_t_now_aim)), (q_t_now_at, .inl (cy 0, 8, .inl v_t_now_at)), (q_t_kept, oX5 v_t_kept_places q_t_kept_ways q_t_kept_distances v_t_kept_people q_t_kept_kind q_t_kept_a q_t_kept_home q_t_kept_aim q_t_kept_at v_t_kept_hour v_t_kept_chance v_t_kept_seed), (q_t_kept_ways, .inl (cy 0, 12, .inl v_t_kept_ways)), (q_t_kept_distances, .inl (cy 0, 144, .inl v_t_kept_distances)), (q_t_kept_kind, .inl (cy 0, 8, .inl v_t_kept_kind)), (q_t_kept_a, .inl (cy 0, 8, .inl v_t_kept_a)), (q_t_kept_home, .inl (cy 0, 8, .inl v_t_kept_home)), (q_t_kept_aim, .inl (cy 0, 8, .inl v_t_kept_aim)), (q_t_kept_at, .inl (cy 0, 8, .inl v_t_kept_at)), (q_t_shelves, .inl (cy 2, 8, .inr (.inr (.inr (.inr (fun i => some (ad_t_shelves i))))))), (q_t_refusals, .inl (cy 0, 5, .inl u41))] ++ wSh cy ad_t_shelves ae_t_shelves v_t_shelves_c v_t_shelves_z v_t_shelves_e) := hD
    have hg0 := Option.some.inj hf
    obtain ⟨ee0, hg1⟩ := Prod.mk.inj hg0
    obtain ⟨ee1, hg2⟩ := Prod.mk.inj hg1
    obtain ⟨ee2, hg3⟩ := Prod.mk.inj hg2
    obtain ⟨ee3, hg4⟩ := Prod.mk.inj hg3
    obtain ⟨ee4, hg5⟩ := Prod.mk.inj hg4
    obtain ⟨ee5, hg6⟩ := Prod.mk.inj hg5
    obtain ⟨ee6, hg7⟩ := Prod.mk.inj hg6
    obtain ⟨ee7, hg8⟩ := Prod.mk.inj hg7
    obtain ⟨ee8, hg9⟩ := Prod.mk.inj hg8
    obtain ⟨ee9, hg10⟩ := Prod.mk.inj hg9
    obtain ⟨ee10, hg11⟩ := Prod.mk.inj hg10
    obtain ⟨ee11, hg12⟩ := Prod.mk.inj hg11
    obtain ⟨ee12, hg13⟩ := Prod.mk.inj hg12
    obtain ⟨ee13, hg14⟩ := Prod.mk.inj hg13
    obtain ⟨ee14, hg15⟩ := Prod.mk.inj hg14
    clear hf hg0 hg1 hg2 hg3 hg4 hg5 hg6 hg7 hg8 hg9 hg10 hg11 hg12 hg13 hg14
    subst ee0
    subst ee1
    subst ee2
    subst ee3
    subst ee4
    subst ee5
    subst ee6
    subst ee7
    subst ee8
    subst ee9
    subst ee10
    subst ee11
    subst ee12
    subst ee13
    subst ee14
    subst hg15
    exact W.iret hx hb hr (fun t ht hW => ⟨⟨_, (), rfl, rfl, xend ht hP⟩, hS.F ht⟩) hS.2.2 dX7_back_13
def fX7_fullShelves (v_t_shelves_c : Nat → Int32) : Option (Int32) :=
  lo2 (fun g3 (x1 : Int32) (x2 : Int32) =>
    if (8 : Int32) ≤ x2 then
      some x1
    else
      if x2 < 0 ∨ 8 ≤ x2.toNatClampNeg then none else
      bo1 (fX2_holdsNothing (v_t_shelves_c x2.toNatClampNeg)) fun r6 =>
      jo1 (fun (x8 : Int32) =>
        vlet (x2 + (1 : Int32)) fun x10 =>
        g3 x8 x10) fun k9 =>
      if r6 = 0 then
        vlet (x1 + (1 : Int32)) fun x11 =>
        k9 x11
      else
        k9 x1) 400 (0 : Int32) (0 : Int32)
set_option maxHeartbeats 4000000 in
set_option maxRecDepth 100000 in
theorem mX7_fullShelves (l : Launch) (D : va_G) (cy : Nat → ClassId) (q_t q_t_now q_t_future q_t_draft q_t_kept q_t_shelves q_t_tape q_t_reader q_t_hiddenWay q_t_sights q_t_choice q_t_refusals : Nat) (ad_t_shelves ae_t_shelves : Nat → Nat) (v_t_isKept : Int32) (v_t_shelves_c : Nat → Int32) (v_t_shelves_z : Nat → Int32) (v_t_shelves_e : Nat → Nat → Int64) {r_ : Int32} (hf : fX7_fullShelves v_t_shelves_c = some r_) : Met l yX7_fullShelves wsX7_fullShelves ({ frames := 1, cells := 0, slots := 0, locals := 20 }) (va_Pc [.ref q_t] (fun U => va_P D vwCl ([(q_t, oX7 q_t_now q_t_future q_t_draft q_t_kept v_t_isKept q_t_shelves q_t_tape q_t_reader q_t_hiddenWay q_t_sights q_t_choice q_t_refusals), (q_t_shelves, .inl (cy 2, 8, .inr (.inr (.inr (.inr (fun i => some (ad_t_shelves i)))))))] ++ wSh cy ad_t_shelves ae_t_shelves v_t_shelves_c v_t_shelves_z v_t_shelves_e) U.heap ∧ xK D cy U)) (vp_Si (fun x => x = r_)) 0 0 (fun _ => False) := by
  refine Met.ofW (cc := cX7_fullShelves) (maxL := 3) (ret := (some .int)) (by decide) rfl ?_
  intro p e s m args below meth c s₁ B hml hv
  obtain ⟨rfl, hP, hK⟩ := hv
  have hx := B.exec
  have hb := B.bytes
  have hr := B.returns
  have hts := atoms_spec (ws := wsX7_fullShelves) B.pre
  have hown : s.vm.findClass RX7 = some m.cls := findClass_of_methodNamed B.named
  have hlocks := B.notSynchronized
  have hP : va_P D vwCl ([(q_t, oX7 q_t_now q_t_future q_t_draft q_t_kept v_t_isKept q_t_shelves q_t_tape q_t_reader q_t_hiddenWay q_t_sights q_t_choice q_t_refusals), (q_t_shelves, .inl (cy 2, 8, .inr (.inr (.inr (.inr (fun i => some (ad_t_shelves i)))))))] ++ wSh cy ad_t_shelves ae_t_shelves v_t_shelves_c v_t_shelves_z v_t_shelves_e) s.heap := hP
  have hinX7 : ∀ w ∈ u_ws RX7 TX7 12, w ∈ wsX7_fullShelves := by decide +kernel
  have hk27 := hts (.fieldLink RX7 27 "ShowsWhereNobodyIs" "shelves" "[LShowsWhereNobodyIs$Shelf;") (by decide +kernel)
  have hl := lv_entry ([.ref q_t]) (n := 3) (Nat.le_of_ble_eq_true rfl)
  rw [lg_entry_eq]
  generalize (lg_sl ([.ref q_t]) ++ List.replicate (3 - (lg_sl ([.ref q_t])).length) Slot.unset).toArray = ls at hl ⊢
  have hl : lv_has ls 3 [(0, .ref q_t)] := hl
  unfold fX7_fullShelves at hf
  refine lv_iconst (v := 0) hx hb dX7_fullShelves_0 (by decide) ?_
  refine lv_istore_n (lv' := [(1, .int (0 : Int32)), (0, .ref q_t)]) hx hb dX7_fullShelves_1 rfl hl (by decide) rfl (fun ls hl => ?_)
  refine lv_iconst (v := 0) hx hb dX7_fullShelves_2 (by decide) ?_
  refine lv_istore_n (lv' := [(2, .int (0 : Int32)), (1, .int (0 : Int32)), (0, .ref q_t)]) hx hb dX7_fullShelves_3 rfl hl (by decide) rfl (fun ls hl => ?_)
  refine wlr2 4 (fun _ _ => []) (fun (x1 : Int32) (x2 : Int32) ls => lv_has ls 3 [(1, .int x1), (2, .int x2), (0, .ref q_t)]) (fun g3 L4 x1 x2 ls hl hf => ?_) 400 (0 : Int32) (0 : Int32) ls (lv_sub hl [1, 0, 2] rfl) hf
  refine lv_iload_n hx hb dX7_fullShelves_4 rfl (lv_at hl 1 rfl) ?_
  refine lv_bipush (v := 8) hx hb dX7_fullShelves_5 (by decide) ?_
  refine lv_icmp_ge (tgt := 31) hx hb dX7_fullShelves_7 (by decide) (fun c13 => ?_) (fun c13 => ?_)
  · have hf := ifT hf c13
    clear c13
    refine lv_iload_n hx hb dX7_fullShelves_31 rfl (lv_at hl 0 rfl) ?_
    exact W.iret (v := x1) hx hb hr (fun t ht hW => ⟨x1, rfl, Option.some.inj hf, ht⟩) (fun q h => nomatch h) dX7_fullShelves_32
  · have hf := ifF hf c13
    clear c13
    refine lv_aload_n hx hb dX7_fullShelves_10 rfl (lv_at hl 2 rfl) ?_
    refine va_get (D := D) (ci := 7) (v := .ref q_t_shelves) (C := RX7) (T := TX7) (N := 12) hx hb hts hinX7 hown hK.1 hP 0 rfl rfl 5 (by decide) hk27 (fun _ h9 => h9) rfl dX7_fullShelves_11 ?_
    refine lv_iload_n hx hb dX7_fullShelves_14 rfl (lv_at hl 1 rfl) ?_
    obtain ⟨hi4, hf⟩ := ckE hf
    have hj5 : x2.toNatClampNeg < 8 := xlt hi4
    refine va_aldq hx hb hK.1 hP 1 2 rfl rfl hi4 dX7_fullShelves_15 ?_
    refine W.eq (g2 := F0 m 16 ls [.ref (ad_t_shelves x2.toNatClampNeg)]) rfl ?_
    obtain ⟨r6, hr7, hf⟩ := boE1 hf
    have hPc := xshP hP hj5
    refine xcSi (va_runV (As := []) (rest := []) ⟨hx, hb, hml, hown, hts⟩ (mX2_holdsNothing l D cy (ad_t_shelves x2.toNatClampNeg) (ae_t_shelves x2.toNatClampNeg) (v_t_shelves_c x2.toNatClampNeg) (v_t_shelves_z x2.toNatClampNeg) (v_t_shelves_e x2.toNatClampNeg)   hr7) (cwV 0 hts gX7_fullShelves_X2_holdsNothing rfl rfl rfl (by decide +kernel) ⟨Nat.le_of_ble_eq_true rfl, Nat.le_of_ble_eq_true rfl⟩) (xPV hK hPc (ci := 2) (q0 := 0) rfl rfl) rfl rfl hl.1 rfl (lv_room (Nat.le_of_ble_eq_true rfl)) dX7_fullShelves_16 ⟨Nat.le_of_ble_eq_true rfl, Nat.le_of_ble_eq_true rfl⟩) ?_
    refine jwr1 25 (fun (x8 : Int32) => []) (fun (x8 : Int32) ls => lv_has ls 3 [(1, .int x8), (0, .ref q_t), (2, .int x2)]) hf (fun x8 ls hl hf => ?_) (fun k9 J25 hf => ?_)
    · obtain ⟨x10, ex10⟩ : ∃ y : Int32, y = x2 + (1 : Int32) := ⟨_, rfl⟩
      have hf := vlE hf ex10
      refine lv_iinc (v := x10) (lv' := [(2, .int x10), (1, .int x8), (0, .ref q_t)]) hx hb dX7_fullShelves_25 hl (k := 2) rfl (by rw [ex10]; rfl) (by decide) rfl (fun ls hl => ?_)
      clear ex10
      refine lv_goto (tgt := 4) hx hb dX7_fullShelves_28 (by decide) ?_
      exact L4 x8 x10 ls (lv_sub hl [1, 0, 2] rfl) hf
    · refine lv_if_ne (tgt := 25) hx hb dX7_fullShelves_19 (by decide) (fun c12 => ?_) (fun c12 => ?_)
      · have hf := ifF hf c12
        clear c12
        exact J25 x1 ls (lv_sub hl [0, 2, 1] rfl) hf
      · have hf := ifT hf c12
        clear c12
        obtain ⟨x11, ex11⟩ : ∃ y : Int32, y = x1 + (1 : Int32) := ⟨_, rfl⟩
        have hf := vlE hf ex11
        refine lv_iinc (v := x11) (lv' := [(1, .int x11), (2, .int x2), (0, .ref q_t)]) hx hb dX7_fullShelves_22 hl (k := 0) rfl (by rw [ex11]; rfl) (by decide) rfl (fun ls hl => ?_)
        clear ex11
        exact J25 x11 ls (lv_sub hl [0, 2, 1] rfl) hf
def fX7_status (v_t_now_places : Int32) (v_t_now_people : Int32) (v_t_now_hour : Int32) (v_t_now_chance : Int32) (v_t_now_seed : Int32) (v_t_now_ways : Nat → Int32) (v_t_now_kind : Nat → Int32) (v_t_now_at : Nat → Int32) (v_t_tape_size : Int32) (v_t_refusals : Nat → Int32) (v_t_shelves_c : Nat → Int32) (p0 : Int32) : Option (Int32) :=
  jo0 (
    if p0 = (0 : Int32) then
      some v_t_now_places
    else
      if p0 = (1 : Int32) then
        bo1 (fX5_countWays v_t_now_places v_t_now_ways) fun r15 =>
        some r15
      else
        if p0 = (2 : Int32) then
          some v_t_now_people
        else
          if p0 = (3 : Int32) then
            some v_t_now_hour
          else
            if p0 = (4 : Int32) then
              some v_t_now_chance
            else
              if p0 = (5 : Int32) then
                bo1 (fX5_shiningPlaces v_t_now_places v_t_now_people v_t_now_kind v_t_now_at) fun r13 =>
                some r13
              else
                if p0 = (6 : Int32) then
                  some v_t_tape_size
                else
                  if p0 = (7 : Int32) then
                    some v_t_now_seed
                  else
                    if p0 = (8 : Int32) then
                      bo1 (fX7_fullShelves v_t_shelves_c) fun r11 =>
                      some r11
                    else
                      some (-1 : Int32)) fun k1 =>
  if p0 < (12 : Int32) then
    k1
  else
    if (17 : Int32) ≤ p0 then
      k1
    else
      if (p0 - (12 : Int32)) < 0 ∨ 5 ≤ (p0 - (12 : Int32)).toNatClampNeg then none else
      some (v_t_refusals (p0 - (12 : Int32)).toNatClampNeg)
set_option maxHeartbeats 4000000 in
set_option maxRecDepth 100000 in
theorem mX7_status (l : Launch) (D : va_G) (cy : Nat → ClassId) (q_t q_t_now q_t_future q_t_draft q_t_kept q_t_shelves q_t_tape q_t_reader q_t_hiddenWay q_t_sights q_t_choice q_t_refusals q_t_now_ways q_t_now_distances q_t_now_kind q_t_now_a q_t_now_home q_t_now_aim q_t_now_at q_t_tape_bytes : Nat) (ad_t_shelves ae_t_shelves : Nat → Nat) (v_t_isKept : Int32) (v_t_now_places : Int32) (v_t_now_people : Int32) (v_t_now_hour : Int32) (v_t_now_chance : Int32) (v_t_now_seed : Int32) (v_t_now_ways : Nat → Int32) (v_t_now_kind : Nat → Int32) (v_t_now_at : Nat → Int32) (v_t_tape_size : Int32) (v_t_refusals : Nat → Int32) (v_t_shelves_c : Nat → Int32) (v_t_shelves_z : Nat → Int32) (v_t_shelves_e : Nat → Nat → Int64) (p0 : Int32) {r_ : Int32} (hf : fX7_status v_t_now_places v_t_now_people v_t_now_hour v_t_now_chance v_t_now_seed v_t_now_ways v_t_now_kind v_t_now_at v_t_tape_size v_t_refusals v_t_shelves_c p0 = some r_) : Met l yX7_status wsX7_status ({ frames := 3, cells := 0, slots := 0, locals := 63 }) (va_Pc [.ref q_t, .int p0] (fun U => va_P D vwCl ([(q_t, oX7 q_t_now q_t_future q_t_draft q_t_kept v_t_isKept q_t_shelves q_t_tape q_t_reader q_t_hiddenWay q_t_sights q_t_choice q_t_refusals), (q_t_now, oX5 v_t_now_places q_t_now_ways q_t_now_distances v_t_now_people q_t_now_kind q_t_now_a q_t_now_home q_t_now_aim q_t_now_at v_t_now_hour v_t_now_chance v_t_now_seed), (q_t_now_ways, .inl (cy 0, 12, .inl v_t_now_ways)), (q_t_now_kind, .inl (cy 0, 8, .inl v_t_now_kind)), (q_t_now_at, .inl (cy 0, 8, .inl v_t_now_at)), (q_t_shelves, .inl (cy 2, 8, .inr (.inr (.inr (.inr (fun i => some (ad_t_shelves i))))))), (q_t_tape, oX4 q_t_tape_bytes v_t_tape_size), (q_t_refusals, .inl (cy 0, 5, .inl v_t_refusals))] ++ wSh cy ad_t_shelves ae_t_shelves v_t_shelves_c v_t_shelves_z v_t_shelves_e) U.heap ∧ xK D cy U)) (vp_Si (fun x => x = r_)) 0 0 (fun _ => False) := by
  refine Met.ofW (cc := cX7_status) (maxL := 2) (ret := (some .int)) (by decide) rfl ?_
  intro p e s m args below meth c s₁ B hml hv
  obtain ⟨rfl, hP, hK⟩ := hv
  have hx := B.exec
  have hb := B.bytes
  have hr := B.returns
  have hts := atoms_spec (ws := wsX7_status) B.pre
  have hown : s.vm.findClass RX7 = some m.cls := findClass_of_methodNamed B.named
  have hlocks := B.notSynchronized
  have hP : va_P D vwCl ([(q_t, oX7 q_t_now q_t_future q_t_draft q_t_kept v_t_isKept q_t_shelves q_t_tape q_t_reader q_t_hiddenWay q_t_sights q_t_choice q_t_refusals), (q_t_now, oX5 v_t_now_places q_t_now_ways q_t_now_distances v_t_now_people q_t_now_kind q_t_now_a q_t_now_home q_t_now_aim q_t_now_at v_t_now_hour v_t_now_chance v_t_now_seed), (q_t_now_ways, .inl (cy 0, 12, .inl v_t_now_ways)), (q_t_now_kind, .inl (cy 0, 8, .inl v_t_now_kind)), (q_t_now_at, .inl (cy 0, 8, .inl v_t_now_at)), (q_t_shelves, .inl (cy 2, 8, .inr (.inr (.inr (.inr (fun i => some (ad_t_shelves i))))))), (q_t_tape, oX4 q_t_tape_bytes v_t_tape_size), (q_t_refusals, .inl (cy 0, 5, .inl v_t_refusals))] ++ wSh cy ad_t_shelves ae_t_shelves v_t_shelves_c v_t_shelves_z v_t_shelves_e) s.heap := hP
  have hinX7 : ∀ w ∈ u_ws RX7 TX7 12, w ∈ wsX7_status := by decide +kernel
  have hk10 := hts (.fieldLink RX7 10 "ShowsWhereNobodyIs" "now" "LShowsWhereNobodyIs$Town;") (by decide +kernel)
  have hinX5 : ∀ w ∈ u_ws RX5 TX5 12, w ∈ wsX7_status := by decide +kernel
  have hk318 := hts (.fieldLink RX7 318 "ShowsWhereNobodyIs$Town" "seed" "I") (by decide +kernel)
  have hk43 := hts (.fieldLink RX7 43 "ShowsWhereNobodyIs" "tape" "LShowsWhereNobodyIs$Tape;") (by decide +kernel)
  have hinX4 : ∀ w ∈ u_ws RX4 TX4 2, w ∈ wsX7_status := by decide +kernel
  have hk190 := hts (.fieldLink RX7 190 "ShowsWhereNobodyIs$Tape" "size" "I") (by decide +kernel)
  have hk187 := hts (.fieldLink RX7 187 "ShowsWhereNobodyIs$Town" "chance" "I") (by decide +kernel)
  have hk184 := hts (.fieldLink RX7 184 "ShowsWhereNobodyIs$Town" "hour" "I") (by decide +kernel)
  have hk171 := hts (.fieldLink RX7 171 "ShowsWhereNobodyIs$Town" "people" "I") (by decide +kernel)
  have hk152 := hts (.fieldLink RX7 152 "ShowsWhereNobodyIs$Town" "places" "I") (by decide +kernel)
  have hk65 := hts (.fieldLink RX7 65 "ShowsWhereNobodyIs" "refusals" "[I") (by decide +kernel)
  have hl := lv_entry ([.ref q_t, .int p0]) (n := 2) (Nat.le_of_ble_eq_true rfl)
  rw [lg_entry_eq]
  generalize (lg_sl ([.ref q_t, .int p0]) ++ List.replicate (2 - (lg_sl ([.ref q_t, .int p0])).length) Slot.unset).toArray = ls at hl ⊢
  have hl : lv_has ls 2 [(0, .ref q_t), (1, .int p0)] := hl
  unfold fX7_status at hf
  refine lv_iload_n hx hb dX7_status_0 rfl (lv_at hl 1 rfl) ?_
  refine lv_bipush (v := 12) hx hb dX7_status_1 (by decide) ?_
  refine jwr0 22 [] (fun  ls => lv_has ls 2 [(0, .ref q_t), (1, .int p0)]) hf (fun  ls hl hf => ?_) (fun k1 J22 hf => ?_)
  · refine lv_iload_n hx hb dX7_status_22 rfl (lv_at hl 1 rfl) ?_
    by_cases c2 : p0 = (0 : Int32)
    · have hf := ifT hf c2
      refine lv_tableIn (tgt := 72) hx hb dX7_status_23 (by rw [c2]; decide) (by rw [c2]; decide) (by rw [c2]; rfl) (by decide) ?_
      refine lv_aload_n hx hb dX7_status_72 rfl (lv_at hl 0 rfl) ?_
      refine va_get (D := D) (ci := 7) (v := .ref q_t_now) (C := RX7) (T := TX7) (N := 12) hx hb hts hinX7 hown hK.1 hP 0 rfl rfl 0 (by decide) hk10 (fun _ h9 => h9) rfl dX7_status_73 ?_
      refine va_get (D := D) (ci := 5) (v := .int v_t_now_places) (C := RX5) (T := TX5) (N := 12) hx hb hts hinX5 hown hK.1 hP 1 rfl rfl 0 (by decide) hk152 (fun _ h9 => h9) rfl dX7_status_76 ?_
      exact W.iret (v := v_t_now_places) hx hb hr (fun t ht hW => ⟨v_t_now_places, rfl, Option.some.inj hf, ht⟩) (fun q h => nomatch h) dX7_status_79
    · have hf := ifF hf c2
      by_cases c3 : p0 = (1 : Int32)
      · have hf := ifT hf c3
        refine lv_tableIn (tgt := 80) hx hb dX7_status_23 (by rw [c3]; decide) (by rw [c3]; decide) (by rw [c3]; rfl) (by decide) ?_
        refine lv_aload_n hx hb dX7_status_80 rfl (lv_at hl 0 rfl) ?_
        refine va_get (D := D) (ci := 7) (v := .ref q_t_now) (C := RX7) (T := TX7) (N := 12) hx hb hts hinX7 hown hK.1 hP 0 rfl rfl 0 (by decide) hk10 (fun _ h9 => h9) rfl dX7_status_81 ?_
        obtain ⟨r15, hr16, hf⟩ := boE1 hf
        have hPc := hP.sub (ws' := [(q_t_now, oX5 v_t_now_places q_t_now_ways q_t_now_distances v_t_now_people q_t_now_kind q_t_now_a q_t_now_home q_t_now_aim q_t_now_at v_t_now_hour v_t_now_chance v_t_now_seed), (q_t_now_ways, .inl (cy 0, 12, .inl v_t_now_ways))]) [1, 2] rfl
        refine xcSi (va_runV (As := []) (rest := []) ⟨hx, hb, hml, hown, hts⟩ (mX5_countWays l D cy q_t_now q_t_now_ways q_t_now_distances q_t_now_kind q_t_now_a q_t_now_home q_t_now_aim q_t_now_at v_t_now_places v_t_now_people v_t_now_hour v_t_now_chance v_t_now_seed v_t_now_ways   hr16) (cwV 0 hts gX7_status_X5_countWays rfl rfl rfl (by decide +kernel) ⟨Nat.le_of_ble_eq_true rfl, Nat.le_of_ble_eq_true rfl⟩) (xPV hK hPc (ci := 5) (q0 := 0) rfl rfl) rfl rfl hl.1 rfl (lv_room (Nat.le_of_ble_eq_true rfl)) dX7_status_84 ⟨Nat.le_of_ble_eq_true rfl, Nat.le_of_ble_eq_true rfl⟩) ?_
        exact W.iret (v := r15) hx hb hr (fun t ht hW => ⟨r15, rfl, Option.some.inj hf, ht⟩) (fun q h => nomatch h) dX7_status_87
      · have hf := ifF hf c3
        by_cases c4 : p0 = (2 : Int32)
        · have hf := ifT hf c4
          refine lv_tableIn (tgt := 88) hx hb dX7_status_23 (by rw [c4]; decide) (by rw [c4]; decide) (by rw [c4]; rfl) (by decide) ?_
          refine lv_aload_n hx hb dX7_status_88 rfl (lv_at hl 0 rfl) ?_
          refine va_get (D := D) (ci := 7) (v := .ref q_t_now) (C := RX7) (T := TX7) (N := 12) hx hb hts hinX7 hown hK.1 hP 0 rfl rfl 0 (by decide) hk10 (fun _ h9 => h9) rfl dX7_status_89 ?_
          refine va_get (D := D) (ci := 5) (v := .int v_t_now_people) (C := RX5) (T := TX5) (N := 12) hx hb hts hinX5 hown hK.1 hP 1 rfl rfl 3 (by decide) hk171 (fun _ h9 => h9) rfl dX7_status_92 ?_
          exact W.iret (v := v_t_now_people) hx hb hr (fun t ht hW => ⟨v_t_now_people, rfl, Option.some.inj hf, ht⟩) (fun q h => nomatch h) dX7_status_95
        · have hf := ifF hf c4
          by_cases c5 : p0 = (3 : Int32)
          · have hf := ifT hf c5
            refine lv_tableIn (tgt := 96) hx hb dX7_status_23 (by rw [c5]; decide) (by rw [c5]; decide) (by rw [c5]; rfl) (by decide) ?_
            refine lv_aload_n hx hb dX7_status_96 rfl (lv_at hl 0 rfl) ?_
            refine va_get (D := D) (ci := 7) (v := .ref q_t_now) (C := RX7) (T := TX7) (N := 12) hx hb hts hinX7 hown hK.1 hP 0 rfl rfl 0 (by decide) hk10 (fun _ h9 => h9) rfl dX7_status_97 ?_
            refine va_get (D := D) (ci := 5) (v := .int v_t_now_hour) (C := RX5) (T := TX5) (N := 12) hx hb hts hinX5 hown hK.1 hP 1 rfl rfl 9 (by decide) hk184 (fun _ h9 => h9) rfl dX7_status_100 ?_
            exact W.iret (v := v_t_now_hour) hx hb hr (fun t ht hW => ⟨v_t_now_hour, rfl, Option.some.inj hf, ht⟩) (fun q h => nomatch h) dX7_status_103
          · have hf := ifF hf c5
            by_cases c6 : p0 = (4 : Int32)
            · have hf := ifT hf c6
              refine lv_tableIn (tgt := 104) hx hb dX7_status_23 (by rw [c6]; decide) (by rw [c6]; decide) (by rw [c6]; rfl) (by decide) ?_
              refine lv_aload_n hx hb dX7_status_104 rfl (lv_at hl 0 rfl) ?_
              refine va_get (D := D) (ci := 7) (v := .ref q_t_now) (C := RX7) (T := TX7) (N := 12) hx hb hts hinX7 hown hK.1 hP 0 rfl rfl 0 (by decide) hk10 (fun _ h9 => h9) rfl dX7_status_105 ?_
              refine va_get (D := D) (ci := 5) (v := .int v_t_now_chance) (C := RX5) (T := TX5) (N := 12) hx hb hts hinX5 hown hK.1 hP 1 rfl rfl 10 (by decide) hk187 (fun _ h9 => h9) rfl dX7_status_108 ?_
              exact W.iret (v := v_t_now_chance) hx hb hr (fun t ht hW => ⟨v_t_now_chance, rfl, Option.some.inj hf, ht⟩) (fun q h => nomatch h) dX7_status_111
            · have hf := ifF hf c6
              by_cases c7 : p0 = (5 : Int32)
              · have hf := ifT hf c7
                refine lv_tableIn (tgt := 112) hx hb dX7_status_23 (by rw [c7]; decide) (by rw [c7]; decide) (by rw [c7]; rfl) (by decide) ?_
                refine lv_aload_n hx hb dX7_status_112 rfl (lv_at hl 0 rfl) ?_
                refine va_get (D := D) (ci := 7) (v := .ref q_t_now) (C := RX7) (T := TX7) (N := 12) hx hb hts hinX7 hown hK.1 hP 0 rfl rfl 0 (by decide) hk10 (fun _ h9 => h9) rfl dX7_status_113 ?_
                obtain ⟨r13, hr14, hf⟩ := boE1 hf
                have hPc := hP.sub (ws' := [(q_t_now, oX5 v_t_now_places q_t_now_ways q_t_now_distances v_t_now_people q_t_now_kind q_t_now_a q_t_now_home q_t_now_aim q_t_now_at v_t_now_hour v_t_now_chance v_t_now_seed), (q_t_now_kind, .inl (cy 0, 8, .inl v_t_now_kind)), (q_t_now_at, .inl (cy 0, 8, .inl v_t_now_at))]) [1, 3, 4] rfl
                refine xcSi (va_runV (As := []) (rest := []) ⟨hx, hb, hml, hown, hts⟩ (mX5_shiningPlaces l D cy q_t_now q_t_now_ways q_t_now_distances q_t_now_kind q_t_now_a q_t_now_home q_t_now_aim q_t_now_at v_t_now_places v_t_now_people v_t_now_hour v_t_now_chance v_t_now_seed v_t_now_kind v_t_now_at   hr14) (cwV 0 hts gX7_status_X5_shiningPlaces rfl rfl rfl (by decide +kernel) ⟨Nat.le_of_ble_eq_true rfl, Nat.le_of_ble_eq_true rfl⟩) (xPV hK hPc (ci := 5) (q0 := 0) rfl rfl) rfl rfl hl.1 rfl (lv_room (Nat.le_of_ble_eq_true rfl)) dX7_status_116 ⟨Nat.le_of_ble_eq_true rfl, Nat.le_of_ble_eq_true rfl⟩) ?_
                exact W.iret (v := r13) hx hb hr (fun t ht hW => ⟨r13, rfl, Option.some.inj hf, ht⟩) (fun q h => nomatch h) dX7_status_119
              · have hf := ifF hf c7
                by_cases c8 : p0 = (6 : Int32)
                · have hf := ifT hf c8
                  refine lv_tableIn (tgt := 120) hx hb dX7_status_23 (by rw [c8]; decide) (by rw [c8]; decide) (by rw [c8]; rfl) (by decide) ?_
                  refine lv_aload_n hx hb dX7_status_120 rfl (lv_at hl 0 rfl) ?_
                  refine va_get (D := D) (ci := 7) (v := .ref q_t_tape) (C := RX7) (T := TX7) (N := 12) hx hb hts hinX7 hown hK.1 hP 0 rfl rfl 6 (by decide) hk43 (fun _ h9 => h9) rfl dX7_status_121 ?_
                  refine va_get (D := D) (ci := 4) (v := .int v_t_tape_size) (C := RX4) (T := TX4) (N := 2) hx hb hts hinX4 hown hK.1 hP 6 rfl rfl 1 (by decide) hk190 (fun _ h9 => h9) rfl dX7_status_124 ?_
                  exact W.iret (v := v_t_tape_size) hx hb hr (fun t ht hW => ⟨v_t_tape_size, rfl, Option.some.inj hf, ht⟩) (fun q h => nomatch h) dX7_status_127
                · have hf := ifF hf c8
                  by_cases c9 : p0 = (7 : Int32)
                  · have hf := ifT hf c9
                    refine lv_tableIn (tgt := 128) hx hb dX7_status_23 (by rw [c9]; decide) (by rw [c9]; decide) (by rw [c9]; rfl) (by decide) ?_
                    refine lv_aload_n hx hb dX7_status_128 rfl (lv_at hl 0 rfl) ?_
                    refine va_get (D := D) (ci := 7) (v := .ref q_t_now) (C := RX7) (T := TX7) (N := 12) hx hb hts hinX7 hown hK.1 hP 0 rfl rfl 0 (by decide) hk10 (fun _ h9 => h9) rfl dX7_status_129 ?_
                    refine va_get (D := D) (ci := 5) (v := .int v_t_now_seed) (C := RX5) (T := TX5) (N := 12) hx hb hts hinX5 hown hK.1 hP 1 rfl rfl 11 (by decide) hk318 (fun _ h9 => h9) rfl dX7_status_132 ?_
                    exact W.iret (v := v_t_now_seed) hx hb hr (fun t ht hW => ⟨v_t_now_seed, rfl, Option.some.inj hf, ht⟩) (fun q h => nomatch h) dX7_status_135
                  · have hf := ifF hf c9
                    by_cases c10 : p0 = (8 : Int32)
                    · have hf := ifT hf c10
                      refine lv_tableIn (tgt := 136) hx hb dX7_status_23 (by rw [c10]; decide) (by rw [c10]; decide) (by rw [c10]; rfl) (by decide) ?_
                      refine lv_aload_n hx hb dX7_status_136 rfl (lv_at hl 0 rfl) ?_
                      obtain ⟨r11, hr12, hf⟩ := boE1 hf
                      have hPc : va_P D vwCl ([(q_t, oX7 q_t_now q_t_future q_t_draft q_t_kept v_t_isKept q_t_shelves q_t_tape q_t_reader q_t_hiddenWay q_t_sights q_t_choice q_t_refusals), (q_t_shelves, .inl (cy 2, 8, .inr (.inr (.inr (.inr (fun i => some (ad_t_shelves i)))))))] ++ wSh cy ad_t_shelves ae_t_shelves v_t_shelves_c v_t_shelves_z v_t_shelves_e) _ := hP.part [0, 5] rfl
                      refine xcSi (va_runV (As := []) (rest := []) ⟨hx, hb, hml, hown, hts⟩ (mX7_fullShelves l D cy q_t q_t_now q_t_future q_t_draft q_t_kept q_t_shelves q_t_tape q_t_reader q_t_hiddenWay q_t_sights q_t_choice q_t_refusals ad_t_shelves ae_t_shelves v_t_isKept v_t_shelves_c v_t_shelves_z v_t_shelves_e   hr12) (cwV 0 hts gX7_status_X7_fullShelves rfl rfl rfl (by decide +kernel) ⟨Nat.le_of_ble_eq_true rfl, Nat.le_of_ble_eq_true rfl⟩) (xPV hK hPc (ci := 7) (q0 := 0) rfl rfl) rfl rfl hl.1 rfl (lv_room (Nat.le_of_ble_eq_true rfl)) dX7_status_137 ⟨Nat.le_of_ble_eq_true rfl, Nat.le_of_ble_eq_true rfl⟩) ?_
                      exact W.iret (v := r11) hx hb hr (fun t ht hW => ⟨r11, rfl, Option.some.inj hf, ht⟩) (fun q h => nomatch h) dX7_status_140
                    · have hf := ifF hf c10
                      refine lv_tableOut (tgt := 141) hx hb dX7_status_23 (by have n0 := lv_neT c2 (a := 0) (by decide); have n1 := lv_neT c3 (a := 1) (by decide); have n2 := lv_neT c4 (a := 2) (by decide); have n3 := lv_neT c5 (a := 3) (by decide); have n4 := lv_neT c6 (a := 4) (by decide); have n5 := lv_neT c7 (a := 5) (by decide); have n6 := lv_neT c8 (a := 6) (by decide); have n7 := lv_neT c9 (a := 7) (by decide); have n8 := lv_neT c10 (a := 8) (by decide); omega) (by decide) ?_
                      refine lv_iconst (v := (-1)) hx hb dX7_status_141 (by decide) ?_
                      exact W.iret (v := (-1 : Int32)) hx hb hr (fun t ht hW => ⟨(-1 : Int32), rfl, Option.some.inj hf, ht⟩) (fun q h => nomatch h) dX7_status_142
  · refine lv_icmp_lt (tgt := 22) hx hb dX7_status_3 (by decide) (fun c19 => ?_) (fun c19 => ?_)
    · have hf := ifT hf c19
      clear c19
      exact J22 ls (lv_sub hl [0, 1] rfl) hf
    · have hf := ifF hf c19
      clear c19
      refine lv_iload_n hx hb dX7_status_6 rfl (lv_at hl 1 rfl) ?_
      refine lv_bipush (v := 17) hx hb dX7_status_7 (by decide) ?_
      refine lv_icmp_ge (tgt := 22) hx hb dX7_status_9 (by decide) (fun c18 => ?_) (fun c18 => ?_)
      · have hf := ifT hf c18
        clear c18
        exact J22 ls (lv_sub hl [0, 1] rfl) hf
      · have hf := ifF hf c18
        clear c18
        refine lv_aload_n hx hb dX7_status_12 rfl (lv_at hl 0 rfl) ?_
        refine va_get (D := D) (ci := 7) (v := .ref q_t_refusals) (C := RX7) (T := TX7) (N := 12) hx hb hts hinX7 hown hK.1 hP 0 rfl rfl 11 (by decide) hk65 (fun _ h9 => h9) rfl dX7_status_13 ?_
        refine lv_iload_n hx hb dX7_status_16 rfl (lv_at hl 1 rfl) ?_
        refine lv_bipush (v := 12) hx hb dX7_status_17 (by decide) ?_
        refine lv_isub hx hb dX7_status_19 ?_
        obtain ⟨hi17, hf⟩ := ckE hf
        refine va_iald hx hb hK.1 hP 7 0 rfl rfl hi17 dX7_status_20 ?_
        exact W.iret (v := (v_t_refusals (p0 - (12 : Int32)).toNatClampNeg)) hx hb hr (fun t ht hW => ⟨(v_t_refusals (p0 - (12 : Int32)).toNatClampNeg), rfl, Option.some.inj hf, ht⟩) (fun q h => nomatch h) dX7_status_21
