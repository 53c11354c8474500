def fX6_readPerson (v_t_fault : Int32) (v_t_position : Int32) (v_t_token : Int32) (v_t_start : Int32) (v_t_value : Int32) (v_t_tape_size : Int32) (v_t_tape_bytes : Nat → Int32) (v_o0_places : Int32) (v_o0_people : Int32) (v_o0_kind : Nat → Int32) (v_o0_a : Nat → Int32) (v_o0_home : Nat → Int32) (v_o0_aim : Nat → Int32) (v_o0_at : Nat → Int32) : Option (Int32 × Int32 × Int32 × Int32 × Int32 × Int32 × (Nat → Int32) × (Nat → Int32) × (Nat → Int32) × (Nat → Int32) × (Nat → Int32)) :=
  bo6 (fX6_takeNumber v_t_fault v_t_position v_t_token v_t_start v_t_value v_t_tape_size v_t_tape_bytes (0 : Int32) (5 : Int32)) fun r1 u2 u3 u4 u5 u6 =>
  bo6 (fX6_takeNumber u2 u3 u4 u5 u6 v_t_tape_size v_t_tape_bytes (0 : Int32) (9 : Int32)) fun r8 u9 u10 u11 u12 u13 =>
  bo6 (fX6_takeNumber u9 u10 u11 u12 u13 v_t_tape_size v_t_tape_bytes (0 : Int32) (v_o0_places - (1 : Int32))) fun r15 u16 u17 u18 u19 u20 =>
  bo6 (fX6_takeNumber u16 u17 u18 u19 u20 v_t_tape_size v_t_tape_bytes (0 : Int32) (v_o0_places - (1 : Int32))) fun r22 u23 u24 u25 u26 u27 =>
  if u23 = (-1 : Int32) then
    bo7 (fX5_addPerson v_o0_people v_o0_kind v_o0_a v_o0_home v_o0_aim v_o0_at r1 r8 r15 r22) fun r29 u30 u31 u32 u33 u34 u35 =>
    some (u23, u24, u25, u26, u27, u30, u31, u32, u33, u34, u35)
  else
    some (u23, u24, u25, u26, u27, v_o0_people, v_o0_kind, v_o0_a, v_o0_home, v_o0_aim, v_o0_at)
set_option maxHeartbeats 4000000 in
set_option maxRecDepth 100000 in
theorem mX6_readPerson (l : Launch) (D : va_G) (cy : Nat → ClassId) (q_t q_o0 q_t_tape q_t_tape_bytes q_o0_ways q_o0_distances q_o0_kind q_o0_a q_o0_home q_o0_aim q_o0_at : Nat) (v_t_fault : Int32) (v_t_position : Int32) (v_t_token : Int32) (v_t_start : Int32) (v_t_value : Int32) (v_t_tape_size : Int32) (v_t_tape_bytes : Nat → Int32) (v_o0_places : Int32) (v_o0_people : Int32) (v_o0_hour : Int32) (v_o0_chance : Int32) (v_o0_seed : Int32) (v_o0_kind : Nat → Int32) (v_o0_a : Nat → Int32) (v_o0_home : Nat → Int32) (v_o0_aim : Nat → Int32) (v_o0_at : Nat → Int32) (sz : Nat) {n_t_fault : Int32} {n_t_position : Int32} {n_t_token : Int32} {n_t_start : Int32} {n_t_value : Int32} {n_o0_people : Int32} {n_o0_kind : Nat → Int32} {n_o0_a : Nat → Int32} {n_o0_home : Nat → Int32} {n_o0_aim : Nat → Int32} {n_o0_at : Nat → Int32} (hf : fX6_readPerson v_t_fault v_t_position v_t_token v_t_start v_t_value v_t_tape_size v_t_tape_bytes v_o0_places v_o0_people v_o0_kind v_o0_a v_o0_home v_o0_aim v_o0_at = some (n_t_fault, n_t_position, n_t_token, n_t_start, n_t_value, n_o0_people, n_o0_kind, n_o0_a, n_o0_home, n_o0_aim, n_o0_at)) : Met l yX6_readPerson wsX6_readPerson ({ frames := 4, cells := 0, slots := 0, locals := 84 }) (va_Pc [.ref q_t, .ref q_o0] (fun U => U.heap.size = sz ∧ va_P D vwCl [(q_t, oX6 q_t_tape v_t_fault v_t_position v_t_token v_t_start v_t_value), (q_t_tape, oX4 q_t_tape_bytes v_t_tape_size), (q_t_tape_bytes, .inl (cy 0, 250, .inl v_t_tape_bytes)), (q_o0, oX5 v_o0_places q_o0_ways q_o0_distances v_o0_people q_o0_kind q_o0_a q_o0_home q_o0_aim q_o0_at v_o0_hour v_o0_chance v_o0_seed), (q_o0_kind, .inl (cy 0, 8, .inl v_o0_kind)), (q_o0_a, .inl (cy 0, 8, .inl v_o0_a)), (q_o0_home, .inl (cy 0, 8, .inl v_o0_home)), (q_o0_aim, .inl (cy 0, 8, .inl v_o0_aim)), (q_o0_at, .inl (cy 0, 8, .inl v_o0_at))] U.heap ∧ xK D cy U ∧ va_D (fun _ => True) [(q_t, oX6 q_t_tape v_t_fault v_t_position v_t_token v_t_start v_t_value), (q_t_tape, oX4 q_t_tape_bytes v_t_tape_size), (q_t_tape_bytes, .inl (cy 0, 250, .inl v_t_tape_bytes)), (q_o0, oX5 v_o0_places q_o0_ways q_o0_distances v_o0_people q_o0_kind q_o0_a q_o0_home q_o0_aim q_o0_at v_o0_hour v_o0_chance v_o0_seed), (q_o0_kind, .inl (cy 0, 8, .inl v_o0_kind)), (q_o0_a, .inl (cy 0, 8, .inl v_o0_a)), (q_o0_home, .inl (cy 0, 8, .inl v_o0_home)), (q_o0_aim, .inl (cy 0, 8, .inl v_o0_aim)), (q_o0_at, .inl (cy 0, 8, .inl v_o0_at))])) (va_Qv (fun (_ : Unit) => True) (fun _ t => va_P D vwCl [(q_t, oX6 q_t_tape n_t_fault n_t_position n_t_token n_t_start n_t_value), (q_t_tape, oX4 q_t_tape_bytes v_t_tape_size), (q_t_tape_bytes, .inl (cy 0, 250, .inl v_t_tape_bytes)), (q_o0, oX5 v_o0_places q_o0_ways q_o0_distances n_o0_people q_o0_kind q_o0_a q_o0_home q_o0_aim q_o0_at v_o0_hour v_o0_chance v_o0_seed), (q_o0_kind, .inl (cy 0, 8, .inl n_o0_kind)), (q_o0_a, .inl (cy 0, 8, .inl n_o0_a)), (q_o0_home, .inl (cy 0, 8, .inl n_o0_home)), (q_o0_aim, .inl (cy 0, 8, .inl n_o0_aim)), (q_o0_at, .inl (cy 0, 8, .inl n_o0_at))] t.heap) (va_A [(q_t, oX6 q_t_tape v_t_fault v_t_position v_t_token v_t_start v_t_value), (q_t_tape, oX4 q_t_tape_bytes v_t_tape_size), (q_t_tape_bytes, .inl (cy 0, 250, .inl v_t_tape_bytes)), (q_o0, oX5 v_o0_places q_o0_ways q_o0_distances v_o0_people q_o0_kind q_o0_a q_o0_home q_o0_aim q_o0_at v_o0_hour v_o0_chance v_o0_seed), (q_o0_kind, .inl (cy 0, 8, .inl v_o0_kind)), (q_o0_a, .inl (cy 0, 8, .inl v_o0_a)), (q_o0_home, .inl (cy 0, 8, .inl v_o0_home)), (q_o0_aim, .inl (cy 0, 8, .inl v_o0_aim)), (q_o0_at, .inl (cy 0, 8, .inl v_o0_at))] sz)) 0 0 (va_A [(q_t, oX6 q_t_tape v_t_fault v_t_position v_t_token v_t_start v_t_value), (q_t_tape, oX4 q_t_tape_bytes v_t_tape_size), (q_t_tape_bytes, .inl (cy 0, 250, .inl v_t_tape_bytes)), (q_o0, oX5 v_o0_places q_o0_ways q_o0_distances v_o0_people q_o0_kind q_o0_a q_o0_home q_o0_aim q_o0_at v_o0_hour v_o0_chance v_o0_seed), (q_o0_kind, .inl (cy 0, 8, .inl v_o0_kind)), (q_o0_a, .inl (cy 0, 8, .inl v_o0_a)), (q_o0_home, .inl (cy 0, 8, .inl v_o0_home)), (q_o0_aim, .inl (cy 0, 8, .inl v_o0_aim)), (q_o0_at, .inl (cy 0, 8, .inl v_o0_at))] sz) := by
  refine Met.ofW (cc := cX6_readPerson) (maxL := 6) (ret := none) (by decide) rfl ?_
  intro p e s m args below meth c s₁ B hml hv
  obtain ⟨rfl, hsz, hP, hK, hD0⟩ := hv
  have hx := B.exec
  have hb := B.bytes
  have hr := B.returns
  have hts := atoms_spec (ws := wsX6_readPerson) B.pre
  have hown : s.vm.findClass RX6 = some m.cls := findClass_of_methodNamed B.named
  have hlocks := B.notSynchronized
  subst hsz
  have hD := hD0.self (sz := s.heap.size)
  generalize hAe : va_A [(q_t, oX6 q_t_tape v_t_fault v_t_position v_t_token v_t_start v_t_value), (q_t_tape, oX4 q_t_tape_bytes v_t_tape_size), (q_t_tape_bytes, .inl (cy 0, 250, .inl v_t_tape_bytes)), (q_o0, oX5 v_o0_places q_o0_ways q_o0_distances v_o0_people q_o0_kind q_o0_a q_o0_home q_o0_aim q_o0_at v_o0_hour v_o0_chance v_o0_seed), (q_o0_kind, .inl (cy 0, 8, .inl v_o0_kind)), (q_o0_a, .inl (cy 0, 8, .inl v_o0_a)), (q_o0_home, .inl (cy 0, 8, .inl v_o0_home)), (q_o0_aim, .inl (cy 0, 8, .inl v_o0_aim)), (q_o0_at, .inl (cy 0, 8, .inl v_o0_at))] s.heap.size = A at hD ⊢
  have hA : ∀ q : Nat, s.heap.size ≤ q → A q := fun q h => by rw [← hAe]; exact Or.inr h
  have hS : va_S A s.heap s.heap [] := va_S.rf
  have hP : va_P D vwCl [(q_t, oX6 q_t_tape v_t_fault v_t_position v_t_token v_t_start v_t_value), (q_t_tape, oX4 q_t_tape_bytes v_t_tape_size), (q_t_tape_bytes, .inl (cy 0, 250, .inl v_t_tape_bytes)), (q_o0, oX5 v_o0_places q_o0_ways q_o0_distances v_o0_people q_o0_kind q_o0_a q_o0_home q_o0_aim q_o0_at v_o0_hour v_o0_chance v_o0_seed), (q_o0_kind, .inl (cy 0, 8, .inl v_o0_kind)), (q_o0_a, .inl (cy 0, 8, .inl v_o0_a)), (q_o0_home, .inl (cy 0, 8, .inl v_o0_home)), (q_o0_aim, .inl (cy 0, 8, .inl v_o0_aim)), (q_o0_at, .inl (cy 0, 8, .inl v_o0_at))] s.heap := hP
  have hinX5 : ∀ w ∈ u_ws RX5 TX5 12, w ∈ wsX6_readPerson := by decide +kernel
  have hk80 := hts (.fieldLink RX6 80 "ShowsWhereNobodyIs$Town" "places" "I") (by decide +kernel)
  have hinX6 : ∀ w ∈ u_ws RX6 TX6 6, w ∈ wsX6_readPerson := by decide +kernel
  have hk18 := hts (.fieldLink RX6 18 "ShowsWhereNobodyIs$TownReader" "fault" "I") (by decide +kernel)
  have hl := lv_entry ([.ref q_t, .ref q_o0]) (n := 6) (Nat.le_of_ble_eq_true rfl)
  rw [lg_entry_eq]
  generalize (lg_sl ([.ref q_t, .ref q_o0]) ++ List.replicate (6 - (lg_sl ([.ref q_t, .ref q_o0])).length) Slot.unset).toArray = ls at hl ⊢
  have hl : lv_has ls 6 [(0, .ref q_t), (1, .ref q_o0)] := hl
  unfold fX6_readPerson at hf
  refine lv_aload_n hx hb dX6_readPerson_0 rfl (lv_at hl 0 rfl) ?_
  refine lv_iconst (v := 0) hx hb dX6_readPerson_1 (by decide) ?_
  refine lv_iconst (v := 5) hx hb dX6_readPerson_2 (by decide) ?_
  obtain ⟨r1, u2, u3, u4, u5, u6, hr7, hf⟩ := boE6 hf
  have hPc := hP.sub (ws' := [(q_t, oX6 q_t_tape v_t_fault v_t_position v_t_token v_t_start v_t_value), (q_t_tape, oX4 q_t_tape_bytes v_t_tape_size), (q_t_tape_bytes, .inl (cy 0, 250, .inl v_t_tape_bytes))]) [0, 1, 2] rfl
  have hDc := hD.sub (ws' := [(q_t, oX6 q_t_tape v_t_fault v_t_position v_t_token v_t_start v_t_value), (q_t_tape, oX4 q_t_tape_bytes v_t_tape_size), (q_t_tape_bytes, .inl (cy 0, 250, .inl v_t_tape_bytes))]) [0, 1, 2] (by decide) rfl
  refine xcQi (w1 := [(q_t, oX6 q_t_tape u2 u3 u4 u5 u6), (q_t_tape, oX4 q_t_tape_bytes v_t_tape_size), (q_t_tape_bytes, .inl (cy 0, 250, .inl v_t_tape_bytes))]) (va_runV (As := [.int (0 : Int32), .int (5 : Int32)]) (rest := []) ⟨hx, hb, hml, hown, hts⟩ (mX6_takeNumber l D cy q_t q_t_tape q_t_tape_bytes v_t_fault v_t_position v_t_token v_t_start v_t_value v_t_tape_size v_t_tape_bytes _ (0 : Int32) (5 : Int32) hr7) (cwV 2 hts gX6_readPerson_X6_takeNumber rfl rfl rfl (by decide +kernel) ⟨Nat.le_of_ble_eq_true rfl, Nat.le_of_ble_eq_true rfl⟩) (xPVw hK hPc hDc (ci := 6) (q0 := 0) rfl rfl) rfl rfl hl.1 rfl (lv_room (Nat.le_of_ble_eq_true rfl)) dX6_readPerson_3 ⟨Nat.le_of_ble_eq_true rfl, Nat.le_of_ble_eq_true rfl⟩) hP hD hS hA [0, 1, 2] rfl rfl (fun H locs hP hD hS => ?_)
  have hP : va_P D vwCl [(q_t, oX6 q_t_tape u2 u3 u4 u5 u6), (q_t_tape, oX4 q_t_tape_bytes v_t_tape_size), (q_t_tape_bytes, .inl (cy 0, 250, .inl v_t_tape_bytes)), (q_o0, oX5 v_o0_places q_o0_ways q_o0_distances v_o0_people q_o0_kind q_o0_a q_o0_home q_o0_aim q_o0_at v_o0_hour v_o0_chance v_o0_seed), (q_o0_kind, .inl (cy 0, 8, .inl v_o0_kind)), (q_o0_a, .inl (cy 0, 8, .inl v_o0_a)), (q_o0_home, .inl (cy 0, 8, .inl v_o0_home)), (q_o0_aim, .inl (cy 0, 8, .inl v_o0_aim)), (q_o0_at, .inl (cy 0, 8, .inl v_o0_at))] H := hP
  have hD : va_D A [(q_t, oX6 q_t_tape u2 u3 u4 u5 u6), (q_t_tape, oX4 q_t_tape_bytes v_t_tape_size), (q_t_tape_bytes, .inl (cy 0, 250, .inl v_t_tape_bytes)), (q_o0, oX5 v_o0_places q_o0_ways q_o0_distances v_o0_people q_o0_kind q_o0_a q_o0_home q_o0_aim q_o0_at v_o0_hour v_o0_chance v_o0_seed), (q_o0_kind, .inl (cy 0, 8, .inl v_o0_kind)), (q_o0_a, .inl (cy 0, 8, .inl v_o0_a)), (q_o0_home, .inl (cy 0, 8, .inl v_o0_home)), (q_o0_aim, .inl (cy 0, 8, .inl v_o0_aim)), (q_o0_at, .inl (cy 0, 8, .inl v_o0_at))] := hD
  refine lv_istore_n (lv' := [(2, .int r1), (0, .ref q_t), (1, .ref q_o0)]) hx hb dX6_readPerson_6 rfl hl (by decide) rfl (fun ls hl => ?_)
  refine lv_aload_n hx hb dX6_readPerson_7 rfl (lv_at hl 1 rfl) ?_
  refine lv_iconst (v := 0) hx hb dX6_readPerson_8 (by decide) ?_
  refine lv_bipush (v := 9) hx hb dX6_readPerson_9 (by decide) ?_
  obtain ⟨r8, u9, u10, u11, u12, u13, hr14, hf⟩ := boE6 hf
  have hPc := hP.sub (ws' := [(q_t, oX6 q_t_tape u2 u3 u4 u5 u6), (q_t_tape, oX4 q_t_tape_bytes v_t_tape_size), (q_t_tape_bytes, .inl (cy 0, 250, .inl v_t_tape_bytes))]) [0, 1, 2] rfl
  have hDc := hD.sub (ws' := [(q_t, oX6 q_t_tape u2 u3 u4 u5 u6), (q_t_tape, oX4 q_t_tape_bytes v_t_tape_size), (q_t_tape_bytes, .inl (cy 0, 250, .inl v_t_tape_bytes))]) [0, 1, 2] (by decide) rfl
  refine xcQi (w1 := [(q_t, oX6 q_t_tape u9 u10 u11 u12 u13), (q_t_tape, oX4 q_t_tape_bytes v_t_tape_size), (q_t_tape_bytes, .inl (cy 0, 250, .inl v_t_tape_bytes))]) (va_runV (As := [.int (0 : Int32), .int (9 : Int32)]) (rest := []) ⟨hx, hb, hml, hown, hts⟩ (mX6_takeNumber l D cy q_t q_t_tape q_t_tape_bytes u2 u3 u4 u5 u6 v_t_tape_size v_t_tape_bytes _ (0 : Int32) (9 : Int32) hr14) (cwV 2 hts gX6_readPerson_X6_takeNumber rfl rfl rfl (by decide +kernel) ⟨Nat.le_of_ble_eq_true rfl, Nat.le_of_ble_eq_true rfl⟩) (xPVw hK hPc hDc (ci := 6) (q0 := 0) rfl rfl) rfl rfl hl.1 rfl (lv_room (Nat.le_of_ble_eq_true rfl)) dX6_readPerson_11 ⟨Nat.le_of_ble_eq_true rfl, Nat.le_of_ble_eq_true rfl⟩) hP hD hS hA [0, 1, 2] rfl rfl (fun H locs hP hD hS => ?_)
  have hP : va_P D vwCl [(q_t, oX6 q_t_tape u9 u10 u11 u12 u13), (q_t_tape, oX4 q_t_tape_bytes v_t_tape_size), (q_t_tape_bytes, .inl (cy 0, 250, .inl v_t_tape_bytes)), (q_o0, oX5 v_o0_places q_o0_ways q_o0_distances v_o0_people q_o0_kind q_o0_a q_o0_home q_o0_aim q_o0_at v_o0_hour v_o0_chance v_o0_seed), (q_o0_kind, .inl (cy 0, 8, .inl v_o0_kind)), (q_o0_a, .inl (cy 0, 8, .inl v_o0_a)), (q_o0_home, .inl (cy 0, 8, .inl v_o0_home)), (q_o0_aim, .inl (cy 0, 8, .inl v_o0_aim)), (q_o0_at, .inl (cy 0, 8, .inl v_o0_at))] H := hP
  have hD : va_D A [(q_t, oX6 q_t_tape u9 u10 u11 u12 u13), (q_t_tape, oX4 q_t_tape_bytes v_t_tape_size), (q_t_tape_bytes, .inl (cy 0, 250, .inl v_t_tape_bytes)), (q_o0, oX5 v_o0_places q_o0_ways q_o0_distances v_o0_people q_o0_kind q_o0_a q_o0_home q_o0_aim q_o0_at v_o0_hour v_o0_chance v_o0_seed), (q_o0_kind, .inl (cy 0, 8, .inl v_o0_kind)), (q_o0_a, .inl (cy 0, 8, .inl v_o0_a)), (q_o0_home, .inl (cy 0, 8, .inl v_o0_home)), (q_o0_aim, .inl (cy 0, 8, .inl v_o0_aim)), (q_o0_at, .inl (cy 0, 8, .inl v_o0_at))] := hD
  refine lv_istore_n (lv' := [(3, .int r8), (2, .int r1), (0, .ref q_t), (1, .ref q_o0)]) hx hb dX6_readPerson_14 rfl hl (by decide) rfl (fun ls hl => ?_)
  refine lv_aload_n hx hb dX6_readPerson_15 rfl (lv_at hl 2 rfl) ?_
  refine lv_iconst (v := 0) hx hb dX6_readPerson_16 (by decide) ?_
  refine lv_aload_n hx hb dX6_readPerson_17 rfl (lv_at hl 3 rfl) ?_
  refine va_get (D := D) (ci := 5) (v := .int v_o0_places) (C := RX5) (T := TX5) (N := 12) hx hb hts hinX5 hown hK.1 hP 3 rfl rfl 0 (by decide) hk80 (fun _ h9 => h9) rfl dX6_readPerson_18 ?_
  refine lv_iconst (v := 1) hx hb dX6_readPerson_21 (by decide) ?_
  refine lv_isub hx hb dX6_readPerson_22 ?_
  obtain ⟨r15, u16, u17, u18, u19, u20, hr21, hf⟩ := boE6 hf
  have hPc := hP.sub (ws' := [(q_t, oX6 q_t_tape u9 u10 u11 u12 u13), (q_t_tape, oX4 q_t_tape_bytes v_t_tape_size), (q_t_tape_bytes, .inl (cy 0, 250, .inl v_t_tape_bytes))]) [0, 1, 2] rfl
  have hDc := hD.sub (ws' := [(q_t, oX6 q_t_tape u9 u10 u11 u12 u13), (q_t_tape, oX4 q_t_tape_bytes v_t_tape_size), (q_t_tape_bytes, .inl (cy 0, 250, .inl v_t_tape_bytes))]) [0, 1, 2] (by decide) rfl
  refine xcQi (w1 := [(q_t, oX6 q_t_tape u16 u17 u18 u19 u20), (q_t_tape, oX4 q_t_tape_bytes v_t_tape_size), (q_t_tape_bytes, .inl (cy 0, 250, .inl v_t_tape_bytes))]) (va_runV (As := [.int (0 : Int32), .int (v_o0_places - (1 : Int32))]) (rest := []) ⟨hx, hb, hml, hown, hts⟩ (mX6_takeNumber l D cy q_t q_t_tape q_t_tape_bytes u9 u10 u11 u12 u13 v_t_tape_size v_t_tape_bytes _ (0 : Int32) (v_o0_places - (1 : Int32)) hr21) (cwV 2 hts gX6_readPerson_X6_takeNumber rfl rfl rfl (by decide +kernel) ⟨Nat.le_of_ble_eq_true rfl, Nat.le_of_ble_eq_true rfl⟩) (xPVw hK hPc hDc (ci := 6) (q0 := 0) rfl rfl) rfl rfl hl.1 rfl (lv_room (Nat.le_of_ble_eq_true rfl)) dX6_readPerson_23 ⟨Nat.le_of_ble_eq_true rfl, Nat.le_of_ble_eq_true rfl⟩) hP hD hS hA [0, 1, 2] rfl rfl (fun H locs hP hD hS => ?_)
  have hP : va_P D vwCl [(q_t, oX6 q_t_tape u16 u17 u18 u19 u20), (q_t_tape, oX4 q_t_tape_bytes v_t_tape_size), (q_t_tape_bytes, .inl (cy 0, 250, .inl v_t_tape_bytes)), (q_o0, oX5 v_o0_places q_o0_ways q_o0_distances v_o0_people q_o0_kind q_o0_a q_o0_home q_o0_aim q_o0_at v_o0_hour v_o0_chance v_o0_seed), (q_o0_kind, .inl (cy 0, 8, .inl v_o0_kind)), (q_o0_a, .inl (cy 0, 8, .inl v_o0_a)), (q_o0_home, .inl (cy 0, 8, .inl v_o0_home)), (q_o0_aim, .inl (cy 0, 8, .inl v_o0_aim)), (q_o0_at, .inl (cy 0, 8, .inl v_o0_at))] H := hP
  have hD : va_D A [(q_t, oX6 q_t_tape u16 u17 u18 u19 u20), (q_t_tape, oX4 q_t_tape_bytes v_t_tape_size), (q_t_tape_bytes, .inl (cy 0, 250, .inl v_t_tape_bytes)), (q_o0, oX5 v_o0_places q_o0_ways q_o0_distances v_o0_people q_o0_kind q_o0_a q_o0_home q_o0_aim q_o0_at v_o0_hour v_o0_chance v_o0_seed), (q_o0_kind, .inl (cy 0, 8, .inl v_o0_kind)), (q_o0_a, .inl (cy 0, 8, .inl v_o0_a)), (q_o0_home, .inl (cy 0, 8, .inl v_o0_home)), (q_o0_aim, .inl (cy 0, 8, .inl v_o0_aim)), (q_o0_at, .inl (cy 0, 8, .inl v_o0_at))] := hD
  refine lv_istore (lv' := [(4, .int r15), (3, .int r8), (2, .int r1), (0, .ref q_t), (1, .ref q_o0)]) hx hb dX6_readPerson_26 hl (by decide) rfl (fun ls hl => ?_)
  refine lv_aload_n hx hb dX6_readPerson_28 rfl (lv_at hl 3 rfl) ?_
  refine lv_iconst (v := 0) hx hb dX6_readPerson_29 (by decide) ?_
  refine lv_aload_n hx hb dX6_readPerson_30 rfl (lv_at hl 4 rfl) ?_
  refine va_get (D := D) (ci := 5) (v := .int v_o0_places) (C := RX5) (T := TX5) (N := 12) hx hb hts hinX5 hown hK.1 hP 3 rfl rfl 0 (by decide) hk80 (fun _ h9 => h9) rfl dX6_readPerson_31 ?_
  refine lv_iconst (v := 1) hx hb dX6_readPerson_34 (by decide) ?_
  refine lv_isub hx hb dX6_readPerson_35 ?_
  obtain ⟨r22, u23, u24, u25, u26, u27, hr28, hf⟩ := boE6 hf
  have hPc := hP.sub (ws' := [(q_t, oX6 q_t_tape u16 u17 u18 u19 u20), (q_t_tape, oX4 q_t_tape_bytes v_t_tape_size), (q_t_tape_bytes, .inl (cy 0, 250, .inl v_t_tape_bytes))]) [0, 1, 2] rfl
  have hDc := hD.sub (ws' := [(q_t, oX6 q_t_tape u16 u17 u18 u19 u20), (q_t_tape, oX4 q_t_tape_bytes v_t_tape_size), (q_t_tape_bytes, .inl (cy 0, 250, .inl v_t_tape_bytes))]) [0, 1, 2] (by decide) rfl
  refine xcQi (w1 := [(q_t, oX6 q_t_tape u23 u24 u25 u26 u27), (q_t_tape, oX4 q_t_tape_bytes v_t_tape_size), (q_t_tape_bytes, .inl (cy 0, 250, .inl v_t_tape_bytes))]) (va_runV (As := [.int (0 : Int32), .int (v_o0_places - (1 : Int32))]) (rest := []) ⟨hx, hb, hml, hown, hts⟩ (mX6_takeNumber l D cy q_t q_t_tape q_t_tape_bytes u16 u17 u18 u19 u20 v_t_tape_size v_t_tape_bytes _ (0 : Int32) (v_o0_places - (1 : Int32)) hr28) (cwV 2 hts gX6_readPerson_X6_takeNumber rfl rfl rfl (by decide +kernel) ⟨Nat.le_of_ble_eq_true rfl, Nat.le_of_ble_eq_true rfl⟩) (xPVw hK hPc hDc (ci := 6) (q0 := 0) rfl rfl) rfl rfl hl.1 rfl (lv_room (Nat.le_of_ble_eq_true rfl)) dX6_readPerson_36 ⟨Nat.le_of_ble_eq_true rfl, Nat.le_of_ble_eq_true rfl⟩) hP hD hS hA [0, 1, 2] rfl rfl (fun H locs hP hD hS => ?_)
  have hP : va_P D vwCl [(q_t, oX6 q_t_tape u23 u24 u25 u26 u27), (q_t_tape, oX4 q_t_tape_bytes v_t_tape_size), (q_t_tape_bytes, .inl (cy 0, 250, .inl v_t_tape_bytes)), (q_o0, oX5 v_o0_places q_o0_ways q_o0_distances v_o0_people q_o0_kind q_o0_a q_o0_home q_o0_aim q_o0_at v_o0_hour v_o0_chance v_o0_seed), (q_o0_kind, .inl (cy 0, 8, .inl v_o0_kind)), (q_o0_a, .inl (cy 0, 8, .inl v_o0_a)), (q_o0_home, .inl (cy 0, 8, .inl v_o0_home)), (q_o0_aim, .inl (cy 0, 8, .inl v_o0_aim)), (q_o0_at, .inl (cy 0, 8, .inl v_o0_at))] H := hP
  have hD : va_D A [(q_t, oX6 q_t_tape u23 u24 u25 u26 u27), (q_t_tape, oX4 q_t_tape_bytes v_t_tape_size), (q_t_tape_bytes, .inl (cy 0, 250, .inl v_t_tape_bytes)), (q_o0, oX5 v_o0_places q_o0_ways q_o0_distances v_o0_people q_o0_kind q_o0_a q_o0_home q_o0_aim q_o0_at v_o0_hour v_o0_chance v_o0_seed), (q_o0_kind, .inl (cy 0, 8, .inl v_o0_kind)), (q_o0_a, .inl (cy 0, 8, .inl v_o0_a)), (q_o0_home, .inl (cy 0, 8, .inl v_o0_home)), (q_o0_aim, .inl (cy 0, 8, .inl v_o0_aim)), (q_o0_at, .inl (cy 0, 8, .inl v_o0_at))] := hD
  refine lv_istore (lv' := [(5, .int r22), (4, .int r15), (3, .int r8), (2, .int r1), (0, .ref q_t), (1, .ref q_o0)]) hx hb dX6_readPerson_39 hl (by decide) rfl (fun ls hl => ?_)
  refine lv_aload_n hx hb dX6_readPerson_41 rfl (lv_at hl 4 rfl) ?_
  refine va_get (D := D) (ci := 6) (v := .int u23) (C := RX6) (T := TX6) (N := 6) hx hb hts hinX6 hown hK.1 hP 0 rfl rfl 1 (by decide) hk18 (fun _ h9 => h9) rfl dX6_readPerson_42 ?_
  refine lv_iconst (v := (-1)) hx hb dX6_readPerson_45 (by decide) ?_
  refine lv_icmp_ne (tgt := 60) hx hb dX6_readPerson_46 (by decide) (fun c37 => ?_) (fun c37 => ?_)
  · have hf := ifF hf c37
    clear c37
    cases hf
    exact W.vret hx hb hr (fun t ht hW => ⟨⟨(), rfl, trivial, xend ht hP⟩, hS.F ht⟩) hS.2.2 dX6_readPerson_60
  · have hf := ifT hf c37
    clear c37
    refine lv_aload_n hx hb dX6_readPerson_49 rfl (lv_at hl 5 rfl) ?_
    refine lv_iload_n hx hb dX6_readPerson_50 rfl (lv_at hl 3 rfl) ?_
    refine lv_iload_n hx hb dX6_readPerson_51 rfl (lv_at hl 2 rfl) ?_
    refine lv_iload hx hb dX6_readPerson_52 (lv_at hl 1 rfl) ?_
    refine lv_iload hx hb dX6_readPerson_54 (lv_at hl 0 rfl) ?_
    obtain ⟨r29, u30, u31, u32, u33, u34, u35, hr36, hf⟩ := boE7 hf
    have hPc := hP.sub (ws' := [(q_o0, oX5 v_o0_places q_o0_ways q_o0_distances v_o0_people q_o0_kind q_o0_a q_o0_home q_o0_aim q_o0_at v_o0_hour v_o0_chance v_o0_seed), (q_o0_kind, .inl (cy 0, 8, .inl v_o0_kind)), (q_o0_a, .inl (cy 0, 8, .inl v_o0_a)), (q_o0_home, .inl (cy 0, 8, .inl v_o0_home)), (q_o0_aim, .inl (cy 0, 8, .inl v_o0_aim)), (q_o0_at, .inl (cy 0, 8, .inl v_o0_at))]) [3, 4, 5, 6, 7, 8] rfl
    have hDc := hD.sub (ws' := [(q_o0, oX5 v_o0_places q_o0_ways q_o0_distances v_o0_people q_o0_kind q_o0_a q_o0_home q_o0_aim q_o0_at v_o0_hour v_o0_chance v_o0_seed), (q_o0_kind, .inl (cy 0, 8, .inl v_o0_kind)), (q_o0_a, .inl (cy 0, 8, .inl v_o0_a)), (q_o0_home, .inl (cy 0, 8, .inl v_o0_home)), (q_o0_aim, .inl (cy 0, 8, .inl v_o0_aim)), (q_o0_at, .inl (cy 0, 8, .inl v_o0_at))]) [3, 4, 5, 6, 7, 8] (by decide) rfl
    refine xcQi (w1 := [(q_o0, oX5 v_o0_places q_o0_ways q_o0_distances u30 q_o0_kind q_o0_a q_o0_home q_o0_aim q_o0_at v_o0_hour v_o0_chance v_o0_seed), (q_o0_kind, .inl (cy 0, 8, .inl u31)), (q_o0_a, .inl (cy 0, 8, .inl u32)), (q_o0_home, .inl (cy 0, 8, .inl u33)), (q_o0_aim, .inl (cy 0, 8, .inl u34)), (q_o0_at, .inl (cy 0, 8, .inl u35))]) (va_runV (As := [.int r1, .int r8, .int r15, .int r22]) (rest := []) ⟨hx, hb, hml, hown, hts⟩ (mX5_addPerson l D cy q_o0 q_o0_ways q_o0_distances q_o0_kind q_o0_a q_o0_home q_o0_aim q_o0_at v_o0_places v_o0_people v_o0_hour v_o0_chance v_o0_seed v_o0_kind v_o0_a v_o0_home v_o0_aim v_o0_at _ r1 r8 r15 r22 hr36) (cwV 4 hts gX6_readPerson_X5_addPerson rfl rfl rfl (by decide +kernel) ⟨Nat.le_of_ble_eq_true rfl, Nat.le_of_ble_eq_true rfl⟩) (xPVw hK hPc hDc (ci := 5) (q0 := 0) rfl rfl) rfl rfl hl.1 rfl (lv_room (Nat.le_of_ble_eq_true rfl)) dX6_readPerson_56 ⟨Nat.le_of_ble_eq_true rfl, Nat.le_of_ble_eq_true rfl⟩) hP hD hS hA [3, 4, 5, 6, 7, 8] rfl rfl (fun H locs hP hD hS => ?_)
    have hP : va_P D vwCl [(q_t, oX6 q_t_tape u23 u24 u25 u26 u27), (q_t_tape, oX4 q_t_tape_bytes v_t_tape_size), (q_t_tape_bytes, .inl (cy 0, 250, .inl v_t_tape_bytes)), (q_o0, oX5 v_o0_places q_o0_ways q_o0_distances u30 q_o0_kind q_o0_a q_o0_home q_o0_aim q_o0_at v_o0_hour v_o0_chance v_o0_seed), (q_o0_kind, .inl (cy 0, 8, .inl u31)), (q_o0_a, .inl (cy 0, 8, .inl u32)), (q_o0_home, .inl (cy 0, 8, .inl u33)), (q_o0_aim, .inl (cy 0, 8, .inl u34)), (q_o0_at, .inl (cy 0, 8, .inl u35))] H := hP
    have hD : va_D A [(q_t, oX6 q_t_tape u23 u24 u25 u26 u27), (q_t_tape, oX4 q_t_tape_bytes v_t_tape_size), (q_t_tape_bytes, .inl (cy 0, 250, .inl v_t_tape_bytes)), (q_o0, oX5 v_o0_places q_o0_ways q_o0_distances u30 q_o0_kind q_o0_a q_o0_home q_o0_aim q_o0_at v_o0_hour v_o0_chance v_o0_seed), (q_o0_kind, .inl (cy 0, 8, .inl u31)), (q_o0_a, .inl (cy 0, 8, .inl u32)), (q_o0_home, .inl (cy 0, 8, .inl u33)), (q_o0_aim, .inl (cy 0, 8, .inl u34)), (q_o0_at, .inl (cy 0, 8, .inl u35))] := hD
    refine lv_pop hx hb dX6_readPerson_59 rfl ?_
    cases hf
    exact W.vret hx hb hr (fun t ht hW => ⟨⟨(), rfl, trivial, xend ht hP⟩, hS.F ht⟩) hS.2.2 dX6_readPerson_60
def fX6_readAt (v_t_fault : Int32) (v_t_position : Int32) (v_t_token : Int32) (v_t_start : Int32) (v_t_value : Int32) (v_t_tape_size : Int32) (v_t_tape_bytes : Nat → Int32) (v_o0_places : Int32) (v_o0_people : Int32) (v_o0_at : Nat → Int32) : Option (Int32 × Int32 × Int32 × Int32 × Int32 × (Nat → Int32)) :=
  bo6 (fX6_takeNumber v_t_fault v_t_position v_t_token v_t_start v_t_value v_t_tape_size v_t_tape_bytes (0 : Int32) (v_o0_people - (1 : Int32))) fun r1 u2 u3 u4 u5 u6 =>
  bo6 (fX6_takeNumber u2 u3 u4 u5 u6 v_t_tape_size v_t_tape_bytes (0 : Int32) (v_o0_places - (1 : Int32))) fun r8 u9 u10 u11 u12 u13 =>
  if u9 = (-1 : Int32) then
    if r1 < 0 ∨ 8 ≤ r1.toNatClampNeg then none else
    some (u9, u10, u11, u12, u13, upd v_o0_at r1.toNatClampNeg r8)
  else
    some (u9, u10, u11, u12, u13, v_o0_at)
set_option maxHeartbeats 4000000 in
set_option maxRecDepth 100000 in
theorem mX6_readAt (l : Launch) (D : va_G) (cy : Nat → ClassId) (q_t q_o0 q_t_tape q_t_tape_bytes q_o0_ways q_o0_distances q_o0_kind q_o0_a q_o0_home q_o0_aim q_o0_at : Nat) (v_t_fault : Int32) (v_t_position : Int32) (v_t_token : Int32) (v_t_start : Int32) (v_t_value : Int32) (v_t_tape_size : Int32) (v_t_tape_bytes : Nat → Int32) (v_o0_places : Int32) (v_o0_people : Int32) (v_o0_hour : Int32) (v_o0_chance : Int32) (v_o0_seed : Int32) (v_o0_at : Nat → Int32) (sz : Nat) {n_t_fault : Int32} {n_t_position : Int32} {n_t_token : Int32} {n_t_start : Int32} {n_t_value : Int32} {n_o0_at : Nat → Int32} (hf : fX6_readAt v_t_fault v_t_position v_t_token v_t_start v_t_value v_t_tape_size v_t_tape_bytes v_o0_places v_o0_people v_o0_at = some (n_t_fault, n_t_position, n_t_token, n_t_start, n_t_value, n_o0_at)) : Met l yX6_readAt wsX6_readAt ({ frames := 4, cells := 0, slots := 0, locals := 84 }) (va_Pc [.ref q_t, .ref q_o0] (fun U => U.heap.size = sz ∧ va_P D vwCl [(q_t, oX6 q_t_tape v_t_fault v_t_position v_t_token v_t_start v_t_value), (q_t_tape, oX4 q_t_tape_bytes v_t_tape_size), (q_t_tape_bytes, .inl (cy 0, 250, .inl v_t_tape_bytes)), (q_o0, oX5 v_o0_places q_o0_ways q_o0_distances v_o0_people q_o0_kind q_o0_a q_o0_home q_o0_aim q_o0_at v_o0_hour v_o0_chance v_o0_seed), (q_o0_at, .inl (cy 0, 8, .inl v_o0_at))] U.heap ∧ xK D cy U ∧ va_D (fun _ => True) [(q_t, oX6 q_t_tape v_t_fault v_t_position v_t_token v_t_start v_t_value), (q_t_tape, oX4 q_t_tape_bytes v_t_tape_size), (q_t_tape_bytes, .inl (cy 0, 250, .inl v_t_tape_bytes)), (q_o0, oX5 v_o0_places q_o0_ways q_o0_distances v_o0_people q_o0_kind q_o0_a q_o0_home q_o0_aim q_o0_at v_o0_hour v_o0_chance v_o0_seed), (q_o0_at, .inl (cy 0, 8, .inl v_o0_at))])) (va_Qv (fun (_ : Unit) => True) (fun _ t => va_P D vwCl [(q_t, oX6 q_t_tape n_t_fault n_t_position n_t_token n_t_start n_t_value), (q_t_tape, oX4 q_t_tape_bytes v_t_tape_size), (q_t_tape_bytes, .inl (cy 0, 250, .inl v_t_tape_bytes)), (q_o0, oX5 v_o0_places q_o0_ways q_o0_distances v_o0_people q_o0_kind q_o0_a q_o0_home q_o0_aim q_o0_at v_o0_hour v_o0_chance v_o0_seed), (q_o0_at, .inl (cy 0, 8, .inl n_o0_at))] t.heap) (va_A [(q_t, oX6 q_t_tape v_t_fault v_t_position v_t_token v_t_start v_t_value), (q_t_tape, oX4 q_t_tape_bytes v_t_tape_size), (q_t_tape_bytes, .inl (cy 0, 250, .inl v_t_tape_bytes)), (q_o0, oX5 v_o0_places q_o0_ways q_o0_distances v_o0_people q_o0_kind q_o0_a q_o0_home q_o0_aim q_o0_at v_o0_hour v_o0_chance v_o0_seed), (q_o0_at, .inl (cy 0, 8, .inl v_o0_at))] sz)) 0 0 (va_A [(q_t, oX6 q_t_tape v_t_fault v_t_position v_t_token v_t_start v_t_value), (q_t_tape, oX4 q_t_tape_bytes v_t_tape_size), (q_t_tape_bytes, .inl (cy 0, 250, .inl v_t_tape_bytes)), (q_o0, oX5 v_o0_places q_o0_ways q_o0_distances v_o0_people q_o0_kind q_o0_a q_o0_home q_o0_aim q_o0_at v_o0_hour v_o0_chance v_o0_seed), (q_o0_at, .inl (cy 0, 8, .inl v_o0_at))] sz) := by
  refine Met.ofW (cc := cX6_readAt) (maxL := 4) (ret := none) (by decide) rfl ?_
  intro p e s m args below meth c s₁ B hml hv
  obtain ⟨rfl, hsz, hP, hK, hD0⟩ := hv
  have hx := B.exec
  have hb := B.bytes
  have hr := B.returns
  have hts := atoms_spec (ws := wsX6_readAt) B.pre
  have hown : s.vm.findClass RX6 = some m.cls := findClass_of_methodNamed B.named
  have hlocks := B.notSynchronized
  subst hsz
  have hD := hD0.self (sz := s.heap.size)
  generalize hAe : va_A [(q_t, oX6 q_t_tape v_t_fault v_t_position v_t_token v_t_start v_t_value), (q_t_tape, oX4 q_t_tape_bytes v_t_tape_size), (q_t_tape_bytes, .inl (cy 0, 250, .inl v_t_tape_bytes)), (q_o0, oX5 v_o0_places q_o0_ways q_o0_distances v_o0_people q_o0_kind q_o0_a q_o0_home q_o0_aim q_o0_at v_o0_hour v_o0_chance v_o0_seed), (q_o0_at, .inl (cy 0, 8, .inl v_o0_at))] s.heap.size = A at hD ⊢
  have hA : ∀ q : Nat, s.heap.size ≤ q → A q := fun q h => by rw [← hAe]; exact Or.inr h
  have hS : va_S A s.heap s.heap [] := va_S.rf
  have hP : va_P D vwCl [(q_t, oX6 q_t_tape v_t_fault v_t_position v_t_token v_t_start v_t_value), (q_t_tape, oX4 q_t_tape_bytes v_t_tape_size), (q_t_tape_bytes, .inl (cy 0, 250, .inl v_t_tape_bytes)), (q_o0, oX5 v_o0_places q_o0_ways q_o0_distances v_o0_people q_o0_kind q_o0_a q_o0_home q_o0_aim q_o0_at v_o0_hour v_o0_chance v_o0_seed), (q_o0_at, .inl (cy 0, 8, .inl v_o0_at))] s.heap := hP
  have hinX5 : ∀ w ∈ u_ws RX5 TX5 12, w ∈ wsX6_readAt := by decide +kernel
  have hk57 := hts (.fieldLink RX6 57 "ShowsWhereNobodyIs$Town" "people" "I") (by decide +kernel)
  have hk80 := hts (.fieldLink RX6 80 "ShowsWhereNobodyIs$Town" "places" "I") (by decide +kernel)
  have hinX6 : ∀ w ∈ u_ws RX6 TX6 6, w ∈ wsX6_readAt := by decide +kernel
  have hk18 := hts (.fieldLink RX6 18 "ShowsWhereNobodyIs$TownReader" "fault" "I") (by decide +kernel)
  have hk94 := hts (.fieldLink RX6 94 "ShowsWhereNobodyIs$Town" "at" "[I") (by decide +kernel)
  have hl := lv_entry ([.ref q_t, .ref q_o0]) (n := 4) (Nat.le_of_ble_eq_true rfl)
  rw [lg_entry_eq]
  generalize (lg_sl ([.ref q_t, .ref q_o0]) ++ List.replicate (4 - (lg_sl ([.ref q_t, .ref q_o0])).length) Slot.unset).toArray = ls at hl ⊢
  have hl : lv_has ls 4 [(0, .ref q_t), (1, .ref q_o0)] := hl
  unfold fX6_readAt at hf
  refine lv_aload_n hx hb dX6_readAt_0 rfl (lv_at hl 0 rfl) ?_
  refine lv_iconst (v := 0) hx hb dX6_readAt_1 (by decide) ?_
  refine lv_aload_n hx hb dX6_readAt_2 rfl (lv_at hl 1 rfl) ?_
  refine va_get (D := D) (ci := 5) (v := .int v_o0_people) (C := RX5) (T := TX5) (N := 12) hx hb hts hinX5 hown hK.1 hP 3 rfl rfl 3 (by decide) hk57 (fun _ h9 => h9) rfl dX6_readAt_3 ?_
  refine lv_iconst (v := 1) hx hb dX6_readAt_6 (by decide) ?_
  refine lv_isub hx hb dX6_readAt_7 ?_
  obtain ⟨r1, u2, u3, u4, u5, u6, hr7, hf⟩ := boE6 hf
  have hPc := hP.sub (ws' := [(q_t, oX6 q_t_tape v_t_fault v_t_position v_t_token v_t_start v_t_value), (q_t_tape, oX4 q_t_tape_bytes v_t_tape_size), (q_t_tape_bytes, .inl (cy 0, 250, .inl v_t_tape_bytes))]) [0, 1, 2] rfl
  have hDc := hD.sub (ws' := [(q_t, oX6 q_t_tape v_t_fault v_t_position v_t_token v_t_start v_t_value), (q_t_tape, oX4 q_t_tape_bytes v_t_tape_size), (q_t_tape_bytes, .inl (cy 0, 250, .inl v_t_tape_bytes))]) [0, 1, 2] (by decide) rfl
  refine xcQi (w1 := [(q_t, oX6 q_t_tape u2 u3 u4 u5 u6), (q_t_tape, oX4 q_t_tape_bytes v_t_tape_size), (q_t_tape_bytes, .inl (cy 0, 250, .inl v_t_tape_bytes))]) (va_runV (As := [.int (0 : Int32), .int (v_o0_people - (1 : Int32))]) (rest := []) ⟨hx, hb, hml, hown, hts⟩ (mX6_takeNumber l D cy q_t q_t_tape q_t_tape_bytes v_t_fault v_t_position v_t_token v_t_start v_t_value v_t_tape_size v_t_tape_bytes _ (0 : Int32) (v_o0_people - (1 : Int32)) hr7) (cwV 2 hts gX6_readAt_X6_takeNumber rfl rfl rfl (by decide +kernel) ⟨Nat.le_of_ble_eq_true rfl, Nat.le_of_ble_eq_true rfl⟩) (xPVw hK hPc hDc (ci := 6) (q0 := 0) rfl rfl) rfl rfl hl.1 rfl (lv_room (Nat.le_of_ble_eq_true rfl)) dX6_readAt_8 ⟨Nat.le_of_ble_eq_true rfl, Nat.le_of_ble_eq_true rfl⟩) hP hD hS hA [0, 1, 2] rfl rfl (fun H locs hP hD hS => ?_)
  have hP : va_P D vwCl [(q_t, oX6 q_t_tape u2 u3 u4 u5 u6), (q_t_tape, oX4 q_t_tape_bytes v_t_tape_size), (q_t_tape_bytes, .inl (cy 0, 250, .inl v_t_tape_bytes)), (q_o0, oX5 v_o0_places q_o0_ways q_o0_distances v_o0_people q_o0_kind q_o0_a q_o0_home q_o0_aim q_o0_at v_o0_hour v_o0_chance v_o0_seed), (q_o0_at, .inl (cy 0, 8, .inl v_o0_at))] H := hP
  have hD : va_D A [(q_t, oX6 q_t_tape u2 u3 u4 u5 u6), (q_t_tape, oX4 q_t_tape_bytes v_t_tape_size), (q_t_tape_bytes, .inl (cy 0, 250, .inl v_t_tape_bytes)), (q_o0, oX5 v_o0_places q_o0_ways q_o0_distances v_o0_people q_o0_kind q_o0_a q_o0_home q_o0_aim q_o0_at v_o0_hour v_o0_chance v_o0_seed), (q_o0_at, .inl (cy 0, 8, .inl v_o0_at))] := hD
  refine lv_istore_n (lv' := [(2, .int r1), (0, .ref q_t), (1, .ref q_o0)]) hx hb dX6_readAt_11 rfl hl (by decide) rfl (fun ls hl => ?_)
  refine lv_aload_n hx hb dX6_readAt_12 rfl (lv_at hl 1 rfl) ?_
  refine lv_iconst (v := 0) hx hb dX6_readAt_13 (by decide) ?_
  refine lv_aload_n hx hb dX6_readAt_14 rfl (lv_at hl 2 rfl) ?_
  refine va_get (D := D) (ci := 5) (v := .int v_o0_places) (C := RX5) (T := TX5) (N := 12) hx hb hts hinX5 hown hK.1 hP 3 rfl rfl 0 (by decide) hk80 (fun _ h9 => h9) rfl dX6_readAt_15 ?_
  refine lv_iconst (v := 1) hx hb dX6_readAt_18 (by decide) ?_
  refine lv_isub hx hb dX6_readAt_19 ?_
  obtain ⟨r8, u9, u10, u11, u12, u13, hr14, hf⟩ := boE6 hf
  have hPc := hP.sub (ws' := [(q_t, oX6 q_t_tape u2 u3 u4 u5 u6), (q_t_tape, oX4 q_t_tape_bytes v_t_tape_size), (q_t_tape_bytes, .inl (cy 0, 250, .inl v_t_tape_bytes))]) [0, 1, 2] rfl
  have hDc := hD.sub (ws' := [(q_t, oX6 q_t_tape u2 u3 u4 u5 u6), (q_t_tape, oX4 q_t_tape_bytes v_t_tape_size), (q_t_tape_bytes, .inl (cy 0, 250, .inl v_t_tape_bytes))]) [0, 1, 2] (by decide) rfl
  refine xcQi (w1 := [(q_t, oX6 q_t_tape u9 u10 u11 u12 u13), (q_t_tape, oX4 q_t_tape_bytes v_t_tape_size), (q_t_tape_bytes, .inl (cy 0, 250, .inl v_t_tape_bytes))]) (va_runV (As := [.int (0 : Int32), .int (v_o0_places - (1 : Int32))]) (rest := []) ⟨hx, hb, hml, hown, hts⟩ (mX6_takeNumber l D cy q_t q_t_tape q_t_tape_bytes u2 u3 u4 u5 u6 v_t_tape_size v_t_tape_bytes _ (0 : Int32) (v_o0_places - (1 : Int32)) hr14) (cwV 2 hts gX6_readAt_X6_takeNumber rfl rfl rfl (by decide +kernel) ⟨Nat.le_of_ble_eq_true rfl, Nat.le_of_ble_eq_true rfl⟩) (xPVw hK hPc hDc (ci := 6) (q0 := 0) rfl rfl) rfl rfl hl.1 rfl (lv_room (Nat.le_of_ble_eq_true rfl)) dX6_readAt_20 ⟨Nat.le_of_ble_eq_true rfl, Nat.le_of_ble_eq_true rfl⟩) hP hD hS hA [0, 1, 2] rfl rfl (fun H locs hP hD hS => ?_)
  have hP : va_P D vwCl [(q_t, oX6 q_t_tape u9 u10 u11 u12 u13), (q_t_tape, oX4 q_t_tape_bytes v_t_tape_size), (q_t_tape_bytes, .inl (cy 0, 250, .inl v_t_tape_bytes)), (q_o0, oX5 v_o0_places q_o0_ways q_o0_distances v_o0_people q_o0_kind q_o0_a q_o0_home q_o0_aim q_o0_at v_o0_hour v_o0_chance v_o0_seed), (q_o0_at, .inl (cy 0, 8, .inl v_o0_at))] H := hP
  have hD : va_D A [(q_t, oX6 q_t_tape u9 u10 u11 u12 u13), (q_t_tape, oX4 q_t_tape_bytes v_t_tape_size), (q_t_tape_bytes, .inl (cy 0, 250, .inl v_t_tape_bytes)), (q_o0, oX5 v_o0_places q_o0_ways q_o0_distances v_o0_people q_o0_kind q_o0_a q_o0_home q_o0_aim q_o0_at v_o0_hour v_o0_chance v_o0_seed), (q_o0_at, .inl (cy 0, 8, .inl v_o0_at))] := hD
  refine lv_istore_n (lv' := [(3, .int r8), (2, .int r1), (0, .ref q_t), (1, .ref q_o0)]) hx hb dX6_readAt_23 rfl hl (by decide) rfl (fun ls hl => ?_)
  refine lv_aload_n hx hb dX6_readAt_24 rfl (lv_at hl 2 rfl) ?_
  refine va_get (D := D) (ci := 6) (v := .int u9) (C := RX6) (T := TX6) (N := 6) hx hb hts hinX6 hown hK.1 hP 0 rfl rfl 1 (by decide) hk18 (fun _ h9 => h9) rfl dX6_readAt_25 ?_
  refine lv_iconst (v := (-1)) hx hb dX6_readAt_28 (by decide) ?_
  refine lv_icmp_ne (tgt := 39) hx hb dX6_readAt_29 (by decide) (fun c16 => ?_) (fun c16 => ?_)
  · have hf := ifF hf c16
    clear c16
    cases hf
    exact W.vret hx hb hr (fun t ht hW => ⟨⟨(), rfl, trivial, xend ht hP⟩, hS.F ht⟩) hS.2.2 dX6_readAt_39
  · have hf := ifT hf c16
    clear c16
    refine lv_aload_n hx hb dX6_readAt_32 rfl (lv_at hl 3 rfl) ?_
    refine va_get (D := D) (ci := 5) (v := .ref q_o0_at) (C := RX5) (T := TX5) (N := 12) hx hb hts hinX5 hown hK.1 hP 3 rfl rfl 8 (by decide) hk94 (fun _ h9 => h9) rfl dX6_readAt_33 ?_
    refine lv_iload_n hx hb dX6_readAt_36 rfl (lv_at hl 1 rfl) ?_
    refine lv_iload_n hx hb dX6_readAt_37 rfl (lv_at hl 0 rfl) ?_
    obtain ⟨hi15, hf⟩ := ckE hf
    refine va_iast hx hb hK.1 hP hD hS 4 0 rfl rfl hi15 dX6_readAt_38 (fun H locs hP hD hS => ?_)
    have hP : va_P D vwCl [(q_t, oX6 q_t_tape u9 u10 u11 u12 u13), (q_t_tape, oX4 q_t_tape_bytes v_t_tape_size), (q_t_tape_bytes, .inl (cy 0, 250, .inl v_t_tape_bytes)), (q_o0, oX5 v_o0_places q_o0_ways q_o0_distances v_o0_people q_o0_kind q_o0_a q_o0_home q_o0_aim q_o0_at v_o0_hour v_o0_chance v_o0_seed), (q_o0_at, .inl (cy 0, 8, .inl (upd v_o0_at r1.toNatClampNeg r8)))] H := hP
    have hD : va_D A [(q_t, oX6 q_t_tape u9 u10 u11 u12 u13), (q_t_tape, oX4 q_t_tape_bytes v_t_tape_size), (q_t_tape_bytes, .inl (cy 0, 250, .inl v_t_tape_bytes)), (q_o0, oX5 v_o0_places q_o0_ways q_o0_distances v_o0_people q_o0_kind q_o0_a q_o0_home q_o0_aim q_o0_at v_o0_hour v_o0_chance v_o0_seed), (q_o0_at, .inl (cy 0, 8, .inl (upd v_o0_at r1.toNatClampNeg r8)))] := hD
    cases hf
    exact W.vret hx hb hr (fun t ht hW => ⟨⟨(), rfl, trivial, xend ht hP⟩, hS.F ht⟩) hS.2.2 dX6_readAt_39
def fX6_readHour (v_t_fault : Int32) (v_t_position : Int32) (v_t_token : Int32) (v_t_start : Int32) (v_t_value : Int32) (v_t_tape_size : Int32) (v_t_tape_bytes : Nat → Int32) (v_o0_hour : Int32) : Option (Int32 × Int32 × Int32 × Int32 × Int32 × Int32) :=
  bo6 (fX6_takeNumber v_t_fault v_t_position v_t_token v_t_start v_t_value v_t_tape_size v_t_tape_bytes (0 : Int32) (999 : Int32)) fun r1 u2 u3 u4 u5 u6 =>
  if u2 = (-1 : Int32) then
    some (u2, u3, u4, u5, u6, r1)
  else
    some (u2, u3, u4, u5, u6, v_o0_hour)
set_option maxHeartbeats 4000000 in
set_option maxRecDepth 100000 in
theorem mX6_readHour (l : Launch) (D : va_G) (cy : Nat → ClassId) (q_t q_o0 q_t_tape q_t_tape_bytes q_o0_ways q_o0_distances q_o0_kind q_o0_a q_o0_home q_o0_aim q_o0_at : Nat) (v_t_fault : Int32) (v_t_position : Int32) (v_t_token : Int32) (v_t_start : Int32) (v_t_value : Int32) (v_t_tape_size : Int32) (v_t_tape_bytes : Nat → Int32) (v_o0_places : Int32) (v_o0_people : Int32) (v_o0_hour : Int32) (v_o0_chance : Int32) (v_o0_seed : Int32) (sz : Nat) {n_t_fault : Int32} {n_t_position : Int32} {n_t_token : Int32} {n_t_start : Int32} {n_t_value : Int32} {n_o0_hour : Int32} (hf : fX6_readHour v_t_fault v_t_position v_t_token v_t_start v_t_value v_t_tape_size v_t_tape_bytes v_o0_hour = some (n_t_fault, n_t_position, n_t_token, n_t_start, n_t_value, n_o0_hour)) : Met l yX6_readHour wsX6_readHour ({ frames := 4, cells := 0, slots := 0, locals := 84 }) (va_Pc [.ref q_t, .ref q_o0] (fun U => U.heap.size = sz ∧ va_P D vwCl [(q_t, oX6 q_t_tape v_t_fault v_t_position v_t_token v_t_start v_t_value), (q_t_tape, oX4 q_t_tape_bytes v_t_tape_size), (q_t_tape_bytes, .inl (cy 0, 250, .inl v_t_tape_bytes)), (q_o0, oX5 v_o0_places q_o0_ways q_o0_distances v_o0_people q_o0_kind q_o0_a q_o0_home q_o0_aim q_o0_at v_o0_hour v_o0_chance v_o0_seed)] U.heap ∧ xK D cy U ∧ va_D (fun _ => True) [(q_t, oX6 q_t_tape v_t_fault v_t_position v_t_token v_t_start v_t_value), (q_t_tape, oX4 q_t_tape_bytes v_t_tape_size), (q_t_tape_bytes, .inl (cy 0, 250, .inl v_t_tape_bytes)), (q_o0, oX5 v_o0_places q_o0_ways q_o0_distances v_o0_people q_o0_kind q_o0_a q_o0_home q_o0_aim q_o0_at v_o0_hour v_o0_chance v_o0_seed)])) (va_Qv (fun (_ : Unit) => True) (fun _ t => va_P D vwCl [(q_t, oX6 q_t_tape n_t_fault n_t_position n_t_token n_t_start n_t_value), (q_t_tape, oX4 q_t_tape_bytes v_t_tape_size), (q_t_tape_bytes, .inl (cy 0, 250, .inl v_t_tape_bytes)), (q_o0, oX5 v_o0_places q_o0_ways q_o0_distances v_o0_people q_o0_kind q_o0_a q_o0_home q_o0_aim q_o0_at n_o0_hour v_o0_chance v_o0_seed)] t.heap) (va_A [(q_t, oX6 q_t_tape v_t_fault v_t_position v_t_token v_t_start v_t_value), (q_t_tape, oX4 q_t_tape_bytes v_t_tape_size), (q_t_tape_bytes, .inl (cy 0, 250, .inl v_t_tape_bytes)), (q_o0, oX5 v_o0_places q_o0_ways q_o0_distances v_o0_people q_o0_kind q_o0_a q_o0_home q_o0_aim q_o0_at v_o0_hour v_o0_chance v_o0_seed)] sz)) 0 0 (va_A [(q_t, oX6 q_t_tape v_t_fault v_t_position v_t_token v_t_start v_t_value), (q_t_tape, oX4 q_t_tape_bytes v_t_tape_size), (q_t_tape_bytes, .inl (cy 0, 250, .inl v_t_tape_bytes)), (q_o0, oX5 v_o0_places q_o0_ways q_o0_distances v_o0_people q_o0_kind q_o0_a q_o0_home q_o0_aim q_o0_at v_o0_hour v_o0_chance v_o0_seed)] sz) := by
  refine Met.ofW (cc := cX6_readHour) (maxL := 3) (ret := none) (by decide) rfl ?_
  intro p e s m args below meth c s₁ B hml hv
  obtain ⟨rfl, hsz, hP, hK, hD0⟩ := hv
  have hx := B.exec
  have hb := B.bytes
  have hr := B.returns
  have hts := atoms_spec (ws := wsX6_readHour) B.pre
  have hown : s.vm.findClass RX6 = some m.cls := findClass_of_methodNamed B.named
  have hlocks := B.notSynchronized
  subst hsz
  have hD := hD0.self (sz := s.heap.size)
  generalize hAe : va_A [(q_t, oX6 q_t_tape v_t_fault v_t_position v_t_token v_t_start v_t_value), (q_t_tape, oX4 q_t_tape_bytes v_t_tape_size), (q_t_tape_bytes, .inl (cy 0, 250, .inl v_t_tape_bytes)), (q_o0, oX5 v_o0_places q_o0_ways q_o0_distances v_o0_people q_o0_kind q_o0_a q_o0_home q_o0_aim q_o0_at v_o0_hour v_o0_chance v_o0_seed)] s.heap.size = A at hD ⊢
  have hA : ∀ q : Nat, s.heap.size ≤ q → A q := fun q h => by rw [← hAe]; exact Or.inr h
  have hS : va_S A s.heap s.heap [] := va_S.rf
  have hP : va_P D vwCl [(q_t, oX6 q_t_tape v_t_fault v_t_position v_t_token v_t_start v_t_value), (q_t_tape, oX4 q_t_tape_bytes v_t_tape_size), (q_t_tape_bytes, .inl (cy 0, 250, .inl v_t_tape_bytes)), (q_o0, oX5 v_o0_places q_o0_ways q_o0_distances v_o0_people q_o0_kind q_o0_a q_o0_home q_o0_aim q_o0_at v_o0_hour v_o0_chance v_o0_seed)] s.heap := hP
  have hinX6 : ∀ w ∈ u_ws RX6 TX6 6, w ∈ wsX6_readHour := by decide +kernel
  have hk18 := hts (.fieldLink RX6 18 "ShowsWhereNobodyIs$TownReader" "fault" "I") (by decide +kernel)
  have hinX5 : ∀ w ∈ u_ws RX5 TX5 12, w ∈ wsX6_readHour := by decide +kernel
  have hk97 := hts (.fieldLink RX6 97 "ShowsWhereNobodyIs$Town" "hour" "I") (by decide +kernel)
  have hl := lv_entry ([.ref q_t, .ref q_o0]) (n := 3) (Nat.le_of_ble_eq_true rfl)
  rw [lg_entry_eq]
  generalize (lg_sl ([.ref q_t, .ref q_o0]) ++ List.replicate (3 - (lg_sl ([.ref q_t, .ref q_o0])).length) Slot.unset).toArray = ls at hl ⊢
  have hl : lv_has ls 3 [(0, .ref q_t), (1, .ref q_o0)] := hl
  unfold fX6_readHour at hf
  refine lv_aload_n hx hb dX6_readHour_0 rfl (lv_at hl 0 rfl) ?_
  refine lv_iconst (v := 0) hx hb dX6_readHour_1 (by decide) ?_
  refine lv_sipush (v := 999) hx hb dX6_readHour_2 (by decide) ?_
  obtain ⟨r1, u2, u3, u4, u5, u6, hr7, hf⟩ := boE6 hf
  have hPc := hP.sub (ws' := [(q_t, oX6 q_t_tape v_t_fault v_t_position v_t_token v_t_start v_t_value), (q_t_tape, oX4 q_t_tape_bytes v_t_tape_size), (q_t_tape_bytes, .inl (cy 0, 250, .inl v_t_tape_bytes))]) [0, 1, 2] rfl
  have hDc := hD.sub (ws' := [(q_t, oX6 q_t_tape v_t_fault v_t_position v_t_token v_t_start v_t_value), (q_t_tape, oX4 q_t_tape_bytes v_t_tape_size), (q_t_tape_bytes, .inl (cy 0, 250, .inl v_t_tape_bytes))]) [0, 1, 2] (by decide) rfl
  refine xcQi (w1 := [(q_t, oX6 q_t_tape u2 u3 u4 u5 u6), (q_t_tape, oX4 q_t_tape_bytes v_t_tape_size), (q_t_tape_bytes, .inl (cy 0, 250, .inl v_t_tape_bytes))]) (va_runV (As := [.int (0 : Int32), .int (999 : Int32)]) (rest := []) ⟨hx, hb, hml, hown, hts⟩ (mX6_takeNumber l D cy q_t q_t_tape q_t_tape_bytes v_t_fault v_t_position v_t_token v_t_start v_t_value v_t_tape_size v_t_tape_bytes _ (0 : Int32) (999 : Int32) hr7) (cwV 2 hts gX6_readHour_X6_takeNumber rfl rfl rfl (by decide +kernel) ⟨Nat.le_of_ble_eq_true rfl, Nat.le_of_ble_eq_true rfl⟩) (xPVw hK hPc hDc (ci := 6) (q0 := 0) rfl rfl) rfl rfl hl.1 rfl (lv_room (Nat.le_of_ble_eq_true rfl)) dX6_readHour_5 ⟨Nat.le_of_ble_eq_true rfl, Nat.le_of_ble_eq_true rfl⟩) hP hD hS hA [0, 1, 2] rfl rfl (fun H locs hP hD hS => ?_)
  have hP : va_P D vwCl [(q_t, oX6 q_t_tape u2 u3 u4 u5 u6), (q_t_tape, oX4 q_t_tape_bytes v_t_tape_size), (q_t_tape_bytes, .inl (cy 0, 250, .inl v_t_tape_bytes)), (q_o0, oX5 v_o0_places q_o0_ways q_o0_distances v_o0_people q_o0_kind q_o0_a q_o0_home q_o0_aim q_o0_at v_o0_hour v_o0_chance v_o0_seed)] H := hP
  have hD : va_D A [(q_t, oX6 q_t_tape u2 u3 u4 u5 u6), (q_t_tape, oX4 q_t_tape_bytes v_t_tape_size), (q_t_tape_bytes, .inl (cy 0, 250, .inl v_t_tape_bytes)), (q_o0, oX5 v_o0_places q_o0_ways q_o0_distances v_o0_people q_o0_kind q_o0_a q_o0_home q_o0_aim q_o0_at v_o0_hour v_o0_chance v_o0_seed)] := hD
  refine lv_istore_n (lv' := [(2, .int r1), (0, .ref q_t), (1, .ref q_o0)]) hx hb dX6_readHour_8 rfl hl (by decide) rfl (fun ls hl => ?_)
  refine lv_aload_n hx hb dX6_readHour_9 rfl (lv_at hl 1 rfl) ?_
  refine va_get (D := D) (ci := 6) (v := .int u2) (C := RX6) (T := TX6) (N := 6) hx hb hts hinX6 hown hK.1 hP 0 rfl rfl 1 (by decide) hk18 (fun _ h9 => h9) rfl dX6_readHour_10 ?_
  refine lv_iconst (v := (-1)) hx hb dX6_readHour_13 (by decide) ?_
  refine lv_icmp_ne (tgt := 22) hx hb dX6_readHour_14 (by decide) (fun c8 => ?_) (fun c8 => ?_)
  · have hf := ifF hf c8
    clear c8
    cases hf
    exact W.vret hx hb hr (fun t ht hW => ⟨⟨(), rfl, trivial, xend ht hP⟩, hS.F ht⟩) hS.2.2 dX6_readHour_22
  · have hf := ifT hf c8
    clear c8
    refine lv_aload_n hx hb dX6_readHour_17 rfl (lv_at hl 2 rfl) ?_
    refine lv_iload_n hx hb dX6_readHour_18 rfl (lv_at hl 0 rfl) ?_
    refine va_put (D := D) (ci := 5) (v := .int r1) (ty := .int) (C := RX5) (T := TX5) (N := 12) hx hb hts hinX5 tyX5 tyX5_ok nmX5 hown hK.1 hP hD hS 3 rfl rfl 9 (by decide) hk97 (fun _ h9 => h9) rfl (by decide +kernel) rfl rfl (Nat.le_of_ble_eq_true rfl) dX6_readHour_19 (fun H locs hP hD hS => ?_)
    have hP : va_P D vwCl [(q_t, oX6 q_t_tape u2 u3 u4 u5 u6), (q_t_tape, oX4 q_t_tape_bytes v_t_tape_size), (q_t_tape_bytes, .inl (cy 0, 250, .inl v_t_tape_bytes)), (q_o0, oX5 v_o0_places q_o0_ways q_o0_distances v_o0_people q_o0_kind q_o0_a q_o0_home q_o0_aim q_o0_at r1 v_o0_chance v_o0_seed)] H := hP
    have hD : va_D A [(q_t, oX6 q_t_tape u2 u3 u4 u5 u6), (q_t_tape, oX4 q_t_tape_bytes v_t_tape_size), (q_t_tape_bytes, .inl (cy 0, 250, .inl v_t_tape_bytes)), (q_o0, oX5 v_o0_places q_o0_ways q_o0_distances v_o0_people q_o0_kind q_o0_a q_o0_home q_o0_aim q_o0_at r1 v_o0_chance v_o0_seed)] := hD
    cases hf
    exact W.vret hx hb hr (fun t ht hW => ⟨⟨(), rfl, trivial, xend ht hP⟩, hS.F ht⟩) hS.2.2 dX6_readHour_22
def fX6_readChance (v_t_fault : Int32) (v_t_position : Int32) (v_t_token : Int32) (v_t_start : Int32) (v_t_value : Int32) (v_t_tape_size : Int32) (v_t_tape_bytes : Nat → Int32) (v_o0_chance : Int32) : Option (Int32 × Int32 × Int32 × Int32 × Int32 × Int32) :=
  bo6 (fX6_takeNumber v_t_fault v_t_position v_t_token v_t_start v_t_value v_t_tape_size v_t_tape_bytes (0 : Int32) (12 : Int32)) fun r1 u2 u3 u4 u5 u6 =>
  if u2 = (-1 : Int32) then
    some (u2, u3, u4, u5, u6, r1)
  else
    some (u2, u3, u4, u5, u6, v_o0_chance)
set_option maxHeartbeats 4000000 in
set_option maxRecDepth 100000 in
theorem mX6_readChance (l : Launch) (D : va_G) (cy : Nat → ClassId) (q_t q_o0 q_t_tape q_t_tape_bytes q_o0_ways q_o0_distances q_o0_kind q_o0_a q_o0_home q_o0_aim q_o0_at : Nat) (v_t_fault : Int32) (v_t_position : Int32) (v_t_token : Int32) (v_t_start : Int32) (v_t_value : Int32) (v_t_tape_size : Int32) (v_t_tape_bytes : Nat → Int32) (v_o0_places : Int32) (v_o0_people : Int32) (v_o0_hour : Int32) (v_o0_chance : Int32) (v_o0_seed : Int32) (sz : Nat) {n_t_fault : Int32} {n_t_position : Int32} {n_t_token : Int32} {n_t_start : Int32} {n_t_value : Int32} {n_o0_chance : Int32} (hf : fX6_readChance v_t_fault v_t_position v_t_token v_t_start v_t_value v_t_tape_size v_t_tape_bytes v_o0_chance = some (n_t_fault, n_t_position, n_t_token, n_t_start, n_t_value, n_o0_chance)) : Met l yX6_readChance wsX6_readChance ({ frames := 4, cells := 0, slots := 0, locals := 84 }) (va_Pc [.ref q_t, .ref q_o0] (fun U => U.heap.size = sz ∧ va_P D vwCl [(q_t, oX6 q_t_tape v_t_fault v_t_position v_t_token v_t_start v_t_value), (q_t_tape, oX4 q_t_tape_bytes v_t_tape_size), (q_t_tape_bytes, .inl (cy 0, 250, .inl v_t_tape_bytes)), (q_o0, oX5 v_o0_places q_o0_ways q_o0_distances v_o0_people q_o0_kind q_o0_a q_o0_home q_o0_aim q_o0_at v_o0_hour v_o0_chance v_o0_seed)] U.heap ∧ xK D cy U ∧ va_D (fun _ => True) [(q_t, oX6 q_t_tape v_t_fault v_t_position v_t_token v_t_start v_t_value), (q_t_tape, oX4 q_t_tape_bytes v_t_tape_size), (q_t_tape_bytes, .inl (cy 0, 250, .inl v_t_tape_bytes)), (q_o0, oX5 v_o0_places q_o0_ways q_o0_distances v_o0_people q_o0_kind q_o0_a q_o0_home q_o0_aim q_o0_at v_o0_hour v_o0_chance v_o0_seed)])) (va_Qv (fun (_ : Unit) => True) (fun _ t => va_P D vwCl [(q_t, oX6 q_t_tape n_t_fault n_t_position n_t_token n_t_start n_t_value), (q_t_tape, oX4 q_t_tape_bytes v_t_tape_size), (q_t_tape_bytes, .inl (cy 0, 250, .inl v_t_tape_bytes)), (q_o0, oX5 v_o0_places q_o0_ways q_o0_distances v_o0_people q_o0_kind q_o0_a q_o0_home q_o0_aim q_o0_at v_o0_hour n_o0_chance v_o0_seed)] t.heap) (va_A [(q_t, oX6 q_t_tape v_t_fault v_t_position v_t_token v_t_start v_t_value), (q_t_tape, oX4 q_t_tape_bytes v_t_tape_size), (q_t_tape_bytes, .inl (cy 0, 250, .inl v_t_tape_bytes)), (q_o0, oX5 v_o0_places q_o0_ways q_o0_distances v_o0_people q_o0_kind q_o0_a q_o0_home q_o0_aim q_o0_at v_o0_hour v_o0_chance v_o0_seed)] sz)) 0 0 (va_A [(q_t, oX6 q_t_tape v_t_fault v_t_position v_t_token v_t_start v_t_value), (q_t_tape, oX4 q_t_tape_bytes v_t_tape_size), (q_t_tape_bytes, .inl (cy 0, 250, .inl v_t_tape_bytes)), (q_o0, oX5 v_o0_places q_o0_ways q_o0_distances v_o0_people q_o0_kind q_o0_a q_o0_home q_o0_aim q_o0_at v_o0_hour v_o0_chance v_o0_seed)] sz) := by
  refine Met.ofW (cc := cX6_readChance) (maxL := 3) (ret := none) (by decide) rfl ?_
  intro p e s m args below meth c s₁ B hml hv
  obtain ⟨rfl, hsz, hP, hK, hD0⟩ := hv
  have hx := B.exec
  have hb := B.bytes
  have hr := B.returns
  have hts := atoms_spec (ws := wsX6_readChance) B.pre
  have hown : s.vm.findClass RX6 = some m.cls := findClass_of_methodNamed B.named
  have hlocks := B.notSynchronized
  subst hsz
  have hD := hD0.self (sz := s.heap.size)
  generalize hAe : va_A [(q_t, oX6 q_t_tape v_t_fault v_t_position v_t_token v_t_start v_t_value), (q_t_tape, oX4 q_t_tape_bytes v_t_tape_size), (q_t_tape_bytes, .inl (cy 0, 250, .inl v_t_tape_bytes)), (q_o0, oX5 v_o0_places q_o0_ways q_o0_distances v_o0_people q_o0_kind q_o0_a q_o0_home q_o0_aim q_o0_at v_o0_hour v_o0_chance v_o0_seed)] s.heap.size = A at hD ⊢
  have hA : ∀ q : Nat, s.heap.size ≤ q → A q := fun q h => by rw [← hAe]; exact Or.inr h
  have hS : va_S A s.heap s.heap [] := va_S.rf
  have hP : va_P D vwCl [(q_t, oX6 q_t_tape v_t_fault v_t_position v_t_token v_t_start v_t_value), (q_t_tape, oX4 q_t_tape_bytes v_t_tape_size), (q_t_tape_bytes, .inl (cy 0, 250, .inl v_t_tape_bytes)), (q_o0, oX5 v_o0_places q_o0_ways q_o0_distances v_o0_people q_o0_kind q_o0_a q_o0_home q_o0_aim q_o0_at v_o0_hour v_o0_chance v_o0_seed)] s.heap := hP
  have hinX6 : ∀ w ∈ u_ws RX6 TX6 6, w ∈ wsX6_readChance := by decide +kernel
  have hk18 := hts (.fieldLink RX6 18 "ShowsWhereNobodyIs$TownReader" "fault" "I") (by decide +kernel)
  have hinX5 : ∀ w ∈ u_ws RX5 TX5 12, w ∈ wsX6_readChance := by decide +kernel
  have hk99 := hts (.fieldLink RX6 99 "ShowsWhereNobodyIs$Town" "chance" "I") (by decide +kernel)
  have hl := lv_entry ([.ref q_t, .ref q_o0]) (n := 3) (Nat.le_of_ble_eq_true rfl)
  rw [lg_entry_eq]
  generalize (lg_sl ([.ref q_t, .ref q_o0]) ++ List.replicate (3 - (lg_sl ([.ref q_t, .ref q_o0])).length) Slot.unset).toArray = ls at hl ⊢
  have hl : lv_has ls 3 [(0, .ref q_t), (1, .ref q_o0)] := hl
  unfold fX6_readChance at hf
  refine lv_aload_n hx hb dX6_readChance_0 rfl (lv_at hl 0 rfl) ?_
  refine lv_iconst (v := 0) hx hb dX6_readChance_1 (by decide) ?_
  refine lv_bipush (v := 12) hx hb dX6_readChance_2 (by decide) ?_
  obtain ⟨r1, u2, u3, u4, u5, u6, hr7, hf⟩ := boE6 hf
  have hPc := hP.sub (ws' := [(q_t, oX6 q_t_tape v_t_fault v_t_position v_t_token v_t_start v_t_value), (q_t_tape, oX4 q_t_tape_bytes v_t_tape_size), (q_t_tape_bytes, .inl (cy 0, 250, .inl v_t_tape_bytes))]) [0, 1, 2] rfl
  have hDc := hD.sub (ws' := [(q_t, oX6 q_t_tape v_t_fault v_t_position v_t_token v_t_start v_t_value), (q_t_tape, oX4 q_t_tape_bytes v_t_tape_size), (q_t_tape_bytes, .inl (cy 0, 250, .inl v_t_tape_bytes))]) [0, 1, 2] (by decide) rfl
  refine xcQi (w1 := [(q_t, oX6 q_t_tape u2 u3 u4 u5 u6), (q_t_tape, oX4 q_t_tape_bytes v_t_tape_size), (q_t_tape_bytes, .inl (cy 0, 250, .inl v_t_tape_bytes))]) (va_runV (As := [.int (0 : Int32), .int (12 : Int32)]) (rest := []) ⟨hx, hb, hml, hown, hts⟩ (mX6_takeNumber l D cy q_t q_t_tape q_t_tape_bytes v_t_fault v_t_position v_t_token v_t_start v_t_value v_t_tape_size v_t_tape_bytes _ (0 : Int32) (12 : Int32) hr7) (cwV 2 hts gX6_readChance_X6_takeNumber rfl rfl rfl (by decide +kernel) ⟨Nat.le_of_ble_eq_true rfl, Nat.le_of_ble_eq_true rfl⟩) (xPVw hK hPc hDc (ci := 6) (q0 := 0) rfl rfl) rfl rfl hl.1 rfl (lv_room (Nat.le_of_ble_eq_true rfl)) dX6_readChance_4 ⟨Nat.le_of_ble_eq_true rfl, Nat.le_of_ble_eq_true rfl⟩) hP hD hS hA [0, 1, 2] rfl rfl (fun H locs hP hD hS => ?_)
  have hP : va_P D vwCl [(q_t, oX6 q_t_tape u2 u3 u4 u5 u6), (q_t_tape, oX4 q_t_tape_bytes v_t_tape_size), (q_t_tape_bytes, .inl (cy 0, 250, .inl v_t_tape_bytes)), (q_o0, oX5 v_o0_places q_o0_ways q_o0_distances v_o0_people q_o0_kind q_o0_a q_o0_home q_o0_aim q_o0_at v_o0_hour v_o0_chance v_o0_seed)] H := hP
  have hD : va_D A [(q_t, oX6 q_t_tape u2 u3 u4 u5 u6), (q_t_tape, oX4 q_t_tape_bytes v_t_tape_size), (q_t_tape_bytes, .inl (cy 0, 250, .inl v_t_tape_bytes)), (q_o0, oX5 v_o0_places q_o0_ways q_o0_distances v_o0_people q_o0_kind q_o0_a q_o0_home q_o0_aim q_o0_at v_o0_hour v_o0_chance v_o0_seed)] := hD
  refine lv_istore_n (lv' := [(2, .int r1), (0, .ref q_t), (1, .ref q_o0)]) hx hb dX6_readChance_7 rfl hl (by decide) rfl (fun ls hl => ?_)
  refine lv_aload_n hx hb dX6_readChance_8 rfl (lv_at hl 1 rfl) ?_
  refine va_get (D := D) (ci := 6) (v := .int u2) (C := RX6) (T := TX6) (N := 6) hx hb hts hinX6 hown hK.1 hP 0 rfl rfl 1 (by decide) hk18 (fun _ h9 => h9) rfl dX6_readChance_9 ?_
  refine lv_iconst (v := (-1)) hx hb dX6_readChance_12 (by decide) ?_
  refine lv_icmp_ne (tgt := 21) hx hb dX6_readChance_13 (by decide) (fun c8 => ?_) (fun c8 => ?_)
  · have hf := ifF hf c8
    clear c8
    cases hf
    exact W.vret hx hb hr (fun t ht hW => ⟨⟨(), rfl, trivial, xend ht hP⟩, hS.F ht⟩) hS.2.2 dX6_readChance_21
  · have hf := ifT hf c8
    clear c8
    refine lv_aload_n hx hb dX6_readChance_16 rfl (lv_at hl 2 rfl) ?_
    refine lv_iload_n hx hb dX6_readChance_17 rfl (lv_at hl 0 rfl) ?_
    refine va_put (D := D) (ci := 5) (v := .int r1) (ty := .int) (C := RX5) (T := TX5) (N := 12) hx hb hts hinX5 tyX5 tyX5_ok nmX5 hown hK.1 hP hD hS 3 rfl rfl 10 (by decide) hk99 (fun _ h9 => h9) rfl (by decide +kernel) rfl rfl (Nat.le_of_ble_eq_true rfl) dX6_readChance_18 (fun H locs hP hD hS => ?_)
    have hP : va_P D vwCl [(q_t, oX6 q_t_tape u2 u3 u4 u5 u6), (q_t_tape, oX4 q_t_tape_bytes v_t_tape_size), (q_t_tape_bytes, .inl (cy 0, 250, .inl v_t_tape_bytes)), (q_o0, oX5 v_o0_places q_o0_ways q_o0_distances v_o0_people q_o0_kind q_o0_a q_o0_home q_o0_aim q_o0_at v_o0_hour r1 v_o0_seed)] H := hP
    have hD : va_D A [(q_t, oX6 q_t_tape u2 u3 u4 u5 u6), (q_t_tape, oX4 q_t_tape_bytes v_t_tape_size), (q_t_tape_bytes, .inl (cy 0, 250, .inl v_t_tape_bytes)), (q_o0, oX5 v_o0_places q_o0_ways q_o0_distances v_o0_people q_o0_kind q_o0_a q_o0_home q_o0_aim q_o0_at v_o0_hour r1 v_o0_seed)] := hD
    cases hf
    exact W.vret hx hb hr (fun t ht hW => ⟨⟨(), rfl, trivial, xend ht hP⟩, hS.F ht⟩) hS.2.2 dX6_readChance_21
def fX6_readStatement (v_t_fault : Int32) (v_t_position : Int32) (v_t_value : Int32) (v_t_tape_size : Int32) (v_t_tape_bytes : Nat → Int32) (v_o0_places : Int32) (v_o0_people : Int32) (v_o0_hour : Int32) (v_o0_chance : Int32) (v_o0_ways : Nat → Int32) (v_o0_kind : Nat → Int32) (v_o0_a : Nat → Int32) (v_o0_home : Nat → Int32) (v_o0_aim : Nat → Int32) (v_o0_at : Nat → Int32) : Option (Int32 × Int32 × Int32 × Int32 × Int32 × Int32 × Int32 × Int32 × Int32 × (Nat → Int32) × (Nat → Int32) × (Nat → Int32) × (Nat → Int32) × (Nat → Int32) × (Nat → Int32)) :=
  bo4 (fX6_takeToken v_t_position v_t_value v_t_tape_size v_t_tape_bytes) fun u1 u2 u3 u4 =>
  bo1 (fX6_isWord u1 u2 u3 v_t_tape_size v_t_tape_bytes 0) fun r6 =>
  if r6 = 0 then
    bo1 (fX6_isWord u1 u2 u3 v_t_tape_size v_t_tape_bytes 1) fun r8 =>
    if r8 = 0 then
      bo1 (fX6_isWord u1 u2 u3 v_t_tape_size v_t_tape_bytes 2) fun r10 =>
      if r10 = 0 then
        bo1 (fX6_isWord u1 u2 u3 v_t_tape_size v_t_tape_bytes 3) fun r12 =>
        jo0 (
          bo1 (fX6_isWord u1 u2 u3 v_t_tape_size v_t_tape_bytes 4) fun r15 =>
          if r15 = 0 then
            bo1 (fX6_isWord u1 u2 u3 v_t_tape_size v_t_tape_bytes 5) fun r17 =>
            if r17 = 0 then
              bo1 (fX6_isWord u1 u2 u3 v_t_tape_size v_t_tape_bytes 6) fun r19 =>
              if r19 = 0 then
                some (u3, u1, u2, u3, u4, v_o0_places, v_o0_people, v_o0_hour, v_o0_chance, v_o0_ways, v_o0_kind, v_o0_a, v_o0_home, v_o0_aim, v_o0_at)
              else
                bo6 (fX6_readChance v_t_fault u1 u2 u3 u4 v_t_tape_size v_t_tape_bytes v_o0_chance) fun u21 u22 u23 u24 u25 u26 =>
                some (u21, u22, u23, u24, u25, v_o0_places, v_o0_people, v_o0_hour, u26, v_o0_ways, v_o0_kind, v_o0_a, v_o0_home, v_o0_aim, v_o0_at)
            else
              bo6 (fX6_readHour v_t_fault u1 u2 u3 u4 v_t_tape_size v_t_tape_bytes v_o0_hour) fun u29 u30 u31 u32 u33 u34 =>
              some (u29, u30, u31, u32, u33, v_o0_places, v_o0_people, u34, v_o0_chance, v_o0_ways, v_o0_kind, v_o0_a, v_o0_home, v_o0_aim, v_o0_at)
          else
            bo6 (fX6_readAt v_t_fault u1 u2 u3 u4 v_t_tape_size v_t_tape_bytes v_o0_places v_o0_people v_o0_at) fun u37 u38 u39 u40 u41 u42 =>
            some (u37, u38, u39, u40, u41, v_o0_places, v_o0_people, v_o0_hour, v_o0_chance, v_o0_ways, v_o0_kind, v_o0_a, v_o0_home, v_o0_aim, u42)) fun k14 =>
        if r12 = 0 then
          k14
        else
          if (8 : Int32) ≤ v_o0_people then
            k14
          else
            bo11 (fX6_readPerson v_t_fault u1 u2 u3 u4 v_t_tape_size v_t_tape_bytes v_o0_places v_o0_people v_o0_kind v_o0_a v_o0_home v_o0_aim v_o0_at) fun u45 u46 u47 u48 u49 u50 u51 u52 u53 u54 u55 =>
            some (u45, u46, u47, u48, u49, v_o0_places, u50, v_o0_hour, v_o0_chance, v_o0_ways, u51, u52, u53, u54, u55)
      else
        bo6 (fX6_readWay v_t_fault u1 u2 u3 u4 v_t_tape_size v_t_tape_bytes v_o0_places v_o0_ways (0 : Int32)) fun u59 u60 u61 u62 u63 u64 =>
        some (u59, u60, u61, u62, u63, v_o0_places, v_o0_people, v_o0_hour, v_o0_chance, u64, v_o0_kind, v_o0_a, v_o0_home, v_o0_aim, v_o0_at)
    else
      bo6 (fX6_readWay v_t_fault u1 u2 u3 u4 v_t_tape_size v_t_tape_bytes v_o0_places v_o0_ways (1 : Int32)) fun u67 u68 u69 u70 u71 u72 =>
      some (u67, u68, u69, u70, u71, v_o0_places, v_o0_people, v_o0_hour, v_o0_chance, u72, v_o0_kind, v_o0_a, v_o0_home, v_o0_aim, v_o0_at)
  else
    bo6 (fX6_readPlaces v_t_fault u1 u2 u3 u4 v_t_tape_size v_t_tape_bytes v_o0_places) fun u75 u76 u77 u78 u79 u80 =>
    some (u75, u76, u77, u78, u79, u80, v_o0_people, v_o0_hour, v_o0_chance, v_o0_ways, v_o0_kind, v_o0_a, v_o0_home, v_o0_aim, v_o0_at)
set_option maxHeartbeats 4000000 in
set_option maxRecDepth 100000 in
theorem mX6_readStatement (l : Launch) (D : va_G) (cy : Nat → ClassId) (q_t q_o0 q_t_tape q_t_tape_bytes q_o0_ways q_o0_distances q_o0_kind q_o0_a q_o0_home q_o0_aim q_o0_at : Nat) (adK adV : Nat → Nat) (v_t_fault : Int32) (v_t_position : Int32) (v_t_token : Int32) (v_t_start : Int32) (v_t_value : Int32) (v_t_tape_size : Int32) (v_t_tape_bytes : Nat → Int32) (v_o0_places : Int32) (v_o0_people : Int32) (v_o0_hour : Int32) (v_o0_chance : Int32) (v_o0_seed : Int32) (v_o0_ways : Nat → Int32) (v_o0_kind : Nat → Int32) (v_o0_a : Nat → Int32) (v_o0_home : Nat → Int32) (v_o0_aim : Nat → Int32) (v_o0_at : Nat → Int32) (sz : Nat) {n_t_fault : Int32} {n_t_position : Int32} {n_t_token : Int32} {n_t_start : Int32} {n_t_value : Int32} {n_o0_places : Int32} {n_o0_people : Int32} {n_o0_hour : Int32} {n_o0_chance : Int32} {n_o0_ways : Nat → Int32} {n_o0_kind : Nat → Int32} {n_o0_a : Nat → Int32} {n_o0_home : Nat → Int32} {n_o0_aim : Nat → Int32} {n_o0_at : Nat → Int32} (hf : fX6_readStatement v_t_fault v_t_position v_t_value v_t_tape_size v_t_tape_bytes v_o0_places v_o0_people v_o0_hour v_o0_chance v_o0_ways v_o0_kind v_o0_a v_o0_home v_o0_aim v_o0_at = some (n_t_fault, n_t_position, n_t_token, n_t_start, n_t_value, n_o0_places, n_o0_people, n_o0_hour, n_o0_chance, n_o0_ways, n_o0_kind, n_o0_a, n_o0_home, n_o0_aim, n_o0_at)) : Met l yX6_readStatement wsX6_readStatement ({ frames := 5, cells := 0, slots := 0, locals := 109 }) (va_Pc [.ref q_t, .ref q_o0] (fun U => U.heap.size = sz ∧ va_P D vwCl [(q_t, oX6 q_t_tape v_t_fault v_t_position v_t_token v_t_start v_t_value), (q_t_tape, oX4 q_t_tape_bytes v_t_tape_size), (q_t_tape_bytes, .inl (cy 0, 250, .inl v_t_tape_bytes)), (q_o0, oX5 v_o0_places q_o0_ways q_o0_distances v_o0_people q_o0_kind q_o0_a q_o0_home q_o0_aim q_o0_at v_o0_hour v_o0_chance v_o0_seed), (q_o0_ways, .inl (cy 0, 12, .inl v_o0_ways)), (q_o0_kind, .inl (cy 0, 8, .inl v_o0_kind)), (q_o0_a, .inl (cy 0, 8, .inl v_o0_a)), (q_o0_home, .inl (cy 0, 8, .inl v_o0_home)), (q_o0_aim, .inl (cy 0, 8, .inl v_o0_aim)), (q_o0_at, .inl (cy 0, 8, .inl v_o0_at))] U.heap ∧ xK D cy U ∧ va_D (fun _ => True) [(q_t, oX6 q_t_tape v_t_fault v_t_position v_t_token v_t_start v_t_value), (q_t_tape, oX4 q_t_tape_bytes v_t_tape_size), (q_t_tape_bytes, .inl (cy 0, 250, .inl v_t_tape_bytes)), (q_o0, oX5 v_o0_places q_o0_ways q_o0_distances v_o0_people q_o0_kind q_o0_a q_o0_home q_o0_aim q_o0_at v_o0_hour v_o0_chance v_o0_seed), (q_o0_ways, .inl (cy 0, 12, .inl v_o0_ways)), (q_o0_kind, .inl (cy 0, 8, .inl v_o0_kind)), (q_o0_a, .inl (cy 0, 8, .inl v_o0_a)), (q_o0_home, .inl (cy 0, 8, .inl v_o0_home)), (q_o0_aim, .inl (cy 0, 8, .inl v_o0_aim)), (q_o0_at, .inl (cy 0, 8, .inl v_o0_at))] ∧ xStr adK adV (va_A [(q_t, oX6 q_t_tape v_t_fault v_t_position v_t_token v_t_start v_t_value), (q_t_tape, oX4 q_t_tape_bytes v_t_tape_size), (q_t_tape_bytes, .inl (cy 0, 250, .inl v_t_tape_bytes)), (q_o0, oX5 v_o0_places q_o0_ways q_o0_distances v_o0_people q_o0_kind q_o0_a q_o0_home q_o0_aim q_o0_at v_o0_hour v_o0_chance v_o0_seed), (q_o0_ways, .inl (cy 0, 12, .inl v_o0_ways)), (q_o0_kind, .inl (cy 0, 8, .inl v_o0_kind)), (q_o0_a, .inl (cy 0, 8, .inl v_o0_a)), (q_o0_home, .inl (cy 0, 8, .inl v_o0_home)), (q_o0_aim, .inl (cy 0, 8, .inl v_o0_aim)), (q_o0_at, .inl (cy 0, 8, .inl v_o0_at))] sz) U U.heap ∧ xRef adK U)) (va_Qv (fun (_ : Unit) => True) (fun _ t => va_P D vwCl [(q_t, oX6 q_t_tape n_t_fault n_t_position n_t_token n_t_start n_t_value), (q_t_tape, oX4 q_t_tape_bytes v_t_tape_size), (q_t_tape_bytes, .inl (cy 0, 250, .inl v_t_tape_bytes)), (q_o0, oX5 n_o0_places q_o0_ways q_o0_distances n_o0_people q_o0_kind q_o0_a q_o0_home q_o0_aim q_o0_at n_o0_hour n_o0_chance v_o0_seed), (q_o0_ways, .inl (cy 0, 12, .inl n_o0_ways)), (q_o0_kind, .inl (cy 0, 8, .inl n_o0_kind)), (q_o0_a, .inl (cy 0, 8, .inl n_o0_a)), (q_o0_home, .inl (cy 0, 8, .inl n_o0_home)), (q_o0_aim, .inl (cy 0, 8, .inl n_o0_aim)), (q_o0_at, .inl (cy 0, 8, .inl n_o0_at))] t.heap) (va_A [(q_t, oX6 q_t_tape v_t_fault v_t_position v_t_token v_t_start v_t_value), (q_t_tape, oX4 q_t_tape_bytes v_t_tape_size), (q_t_tape_bytes, .inl (cy 0, 250, .inl v_t_tape_bytes)), (q_o0, oX5 v_o0_places q_o0_ways q_o0_distances v_o0_people q_o0_kind q_o0_a q_o0_home q_o0_aim q_o0_at v_o0_hour v_o0_chance v_o0_seed), (q_o0_ways, .inl (cy 0, 12, .inl v_o0_ways)), (q_o0_kind, .inl (cy 0, 8, .inl v_o0_kind)), (q_o0_a, .inl (cy 0, 8, .inl v_o0_a)), (q_o0_home, .inl (cy 0, 8, .inl v_o0_home)), (q_o0_aim, .inl (cy 0, 8, .inl v_o0_aim)), (q_o0_at, .inl (cy 0, 8, .inl v_o0_at))] sz)) 0 0 (va_A [(q_t, oX6 q_t_tape v_t_fault v_t_position v_t_token v_t_start v_t_value), (q_t_tape, oX4 q_t_tape_bytes v_t_tape_size), (q_t_tape_bytes, .inl (cy 0, 250, .inl v_t_tape_bytes)), (q_o0, oX5 v_o0_places q_o0_ways q_o0_distances v_o0_people q_o0_kind q_o0_a q_o0_home q_o0_aim q_o0_at v_o0_hour v_o0_chance v_o0_seed), (q_o0_ways, .inl (cy 0, 12, .inl v_o0_ways)), (q_o0_kind, .inl (cy 0, 8, .inl v_o0_kind)), (q_o0_a, .inl (cy 0, 8, .inl v_o0_a)), (q_o0_home, .inl (cy 0, 8, .inl v_o0_home)), (q_o0_aim, .inl (cy 0, 8, .inl v_o0_aim)), (q_o0_at, .inl (cy 0, 8, .inl v_o0_at))] sz) := by
  refine Met.ofW (cc := cX6_readStatement) (maxL := 2) (ret := none) (by decide) rfl ?_
  intro p e s m args below meth c s₁ B hml hv
  obtain ⟨rfl, hsz, hP, hK, hD0, hE, hR⟩ := hv
  have hx := B.exec
  have hb := B.bytes
  have hr := B.returns
  have hts := atoms_spec (ws := wsX6_readStatement) B.pre
  have hown : s.vm.findClass RX6 = some m.cls := findClass_of_methodNamed B.named
  have hlocks := B.notSynchronized
  subst hsz
  have hD := hD0.self (sz := s.heap.size)
  generalize hAe : va_A [(q_t, oX6 q_t_tape v_t_fault v_t_position v_t_token v_t_start v_t_value), (q_t_tape, oX4 q_t_tape_bytes v_t_tape_size), (q_t_tape_bytes, .inl (cy 0, 250, .inl v_t_tape_bytes)), (q_o0, oX5 v_o0_places q_o0_ways q_o0_distances v_o0_people q_o0_kind q_o0_a q_o0_home q_o0_aim q_o0_at v_o0_hour v_o0_chance v_o0_seed), (q_o0_ways, .inl (cy 0, 12, .inl v_o0_ways)), (q_o0_kind, .inl (cy 0, 8, .inl v_o0_kind)), (q_o0_a, .inl (cy 0, 8, .inl v_o0_a)), (q_o0_home, .inl (cy 0, 8, .inl v_o0_home)), (q_o0_aim, .inl (cy 0, 8, .inl v_o0_aim)), (q_o0_at, .inl (cy 0, 8, .inl v_o0_at))] s.heap.size = A at hD hE ⊢
  have hA : ∀ q : Nat, s.heap.size ≤ q → A q := fun q h => by rw [← hAe]; exact Or.inr h
  have hS : va_S A s.heap s.heap [] := va_S.rf
  have hP : va_P D vwCl [(q_t, oX6 q_t_tape v_t_fault v_t_position v_t_token v_t_start v_t_value), (q_t_tape, oX4 q_t_tape_bytes v_t_tape_size), (q_t_tape_bytes, .inl (cy 0, 250, .inl v_t_tape_bytes)), (q_o0, oX5 v_o0_places q_o0_ways q_o0_distances v_o0_people q_o0_kind q_o0_a q_o0_home q_o0_aim q_o0_at v_o0_hour v_o0_chance v_o0_seed), (q_o0_ways, .inl (cy 0, 12, .inl v_o0_ways)), (q_o0_kind, .inl (cy 0, 8, .inl v_o0_kind)), (q_o0_a, .inl (cy 0, 8, .inl v_o0_a)), (q_o0_home, .inl (cy 0, 8, .inl v_o0_home)), (q_o0_aim, .inl (cy 0, 8, .inl v_o0_aim)), (q_o0_at, .inl (cy 0, 8, .inl v_o0_at))] s.heap := hP
  have hinX6 : ∀ w ∈ u_ws RX6 TX6 6, w ∈ wsX6_readStatement := by decide +kernel
  have hk35 := hts (.fieldLink RX6 35 "ShowsWhereNobodyIs$TownReader" "start" "I") (by decide +kernel)
  have hk18 := hts (.fieldLink RX6 18 "ShowsWhereNobodyIs$TownReader" "fault" "I") (by decide +kernel)
  have hinX5 : ∀ w ∈ u_ws RX5 TX5 12, w ∈ wsX6_readStatement := by decide +kernel
  have hk57 := hts (.fieldLink RX6 57 "ShowsWhereNobodyIs$Town" "people" "I") (by decide +kernel)
  have hl := lv_entry ([.ref q_t, .ref q_o0]) (n := 2) (Nat.le_of_ble_eq_true rfl)
  rw [lg_entry_eq]
  generalize (lg_sl ([.ref q_t, .ref q_o0]) ++ List.replicate (2 - (lg_sl ([.ref q_t, .ref q_o0])).length) Slot.unset).toArray = ls at hl ⊢
  have hl : lv_has ls 2 [(0, .ref q_t), (1, .ref q_o0)] := hl
  unfold fX6_readStatement at hf
  refine lv_aload_n hx hb dX6_readStatement_0 rfl (lv_at hl 0 rfl) ?_
  obtain ⟨u1, u2, u3, u4, hr5, hf⟩ := boE4 hf
  have hPc := hP.sub (ws' := [(q_t, oX6 q_t_tape v_t_fault v_t_position v_t_token v_t_start v_t_value), (q_t_tape, oX4 q_t_tape_bytes v_t_tape_size), (q_t_tape_bytes, .inl (cy 0, 250, .inl v_t_tape_bytes))]) [0, 1, 2] rfl
  have hDc := hD.sub (ws' := [(q_t, oX6 q_t_tape v_t_fault v_t_position v_t_token v_t_start v_t_value), (q_t_tape, oX4 q_t_tape_bytes v_t_tape_size), (q_t_tape_bytes, .inl (cy 0, 250, .inl v_t_tape_bytes))]) [0, 1, 2] (by decide) rfl
  refine xcQv (w1 := [(q_t, oX6 q_t_tape v_t_fault u1 u2 u3 u4), (q_t_tape, oX4 q_t_tape_bytes v_t_tape_size), (q_t_tape_bytes, .inl (cy 0, 250, .inl v_t_tape_bytes))]) (va_runV (As := []) (rest := []) ⟨hx, hb, hml, hown, hts⟩ (mX6_takeToken l D cy q_t q_t_tape q_t_tape_bytes v_t_fault v_t_position v_t_token v_t_start v_t_value v_t_tape_size v_t_tape_bytes _  hr5) (cwV 0 hts gX6_readStatement_X6_takeToken rfl rfl rfl (by decide +kernel) ⟨Nat.le_of_ble_eq_true rfl, Nat.le_of_ble_eq_true rfl⟩) (xPVw hK hPc hDc (ci := 6) (q0 := 0) rfl rfl) rfl rfl hl.1 rfl (lv_room (Nat.le_of_ble_eq_true rfl)) dX6_readStatement_1 ⟨Nat.le_of_ble_eq_true rfl, Nat.le_of_ble_eq_true rfl⟩) hP hD hS hA [0, 1, 2] rfl rfl (fun H locs hP hD hS => ?_)
  have hP : va_P D vwCl [(q_t, oX6 q_t_tape v_t_fault u1 u2 u3 u4), (q_t_tape, oX4 q_t_tape_bytes v_t_tape_size), (q_t_tape_bytes, .inl (cy 0, 250, .inl v_t_tape_bytes)), (q_o0, oX5 v_o0_places q_o0_ways q_o0_distances v_o0_people q_o0_kind q_o0_a q_o0_home q_o0_aim q_o0_at v_o0_hour v_o0_chance v_o0_seed), (q_o0_ways, .inl (cy 0, 12, .inl v_o0_ways)), (q_o0_kind, .inl (cy 0, 8, .inl v_o0_kind)), (q_o0_a, .inl (cy 0, 8, .inl v_o0_a)), (q_o0_home, .inl (cy 0, 8, .inl v_o0_home)), (q_o0_aim, .inl (cy 0, 8, .inl v_o0_aim)), (q_o0_at, .inl (cy 0, 8, .inl v_o0_at))] H := hP
  have hD : va_D A [(q_t, oX6 q_t_tape v_t_fault u1 u2 u3 u4), (q_t_tape, oX4 q_t_tape_bytes v_t_tape_size), (q_t_tape_bytes, .inl (cy 0, 250, .inl v_t_tape_bytes)), (q_o0, oX5 v_o0_places q_o0_ways q_o0_distances v_o0_people q_o0_kind q_o0_a q_o0_home q_o0_aim q_o0_at v_o0_hour v_o0_chance v_o0_seed), (q_o0_ways, .inl (cy 0, 12, .inl v_o0_ways)), (q_o0_kind, .inl (cy 0, 8, .inl v_o0_kind)), (q_o0_a, .inl (cy 0, 8, .inl v_o0_a)), (q_o0_home, .inl (cy 0, 8, .inl v_o0_home)), (q_o0_aim, .inl (cy 0, 8, .inl v_o0_aim)), (q_o0_at, .inl (cy 0, 8, .inl v_o0_at))] := hD
  refine lv_aload_n hx hb dX6_readStatement_4 rfl (lv_at hl 0 rfl) ?_
  refine va_ldcS hx hb hown hR.1.1 dX6_readStatement_5 ?_
  obtain ⟨r6, hr7, hf⟩ := boE1 hf
  have hPc := hP.sub (ws' := [(q_t, oX6 q_t_tape v_t_fault u1 u2 u3 u4), (q_t_tape, oX4 q_t_tape_bytes v_t_tape_size), (q_t_tape_bytes, .inl (cy 0, 250, .inl v_t_tape_bytes))]) [0, 1, 2] rfl
  refine xcSi (va_runV (As := [.ref (adK 0)]) (rest := []) ⟨hx, hb, hml, hown, hts⟩ (mX6_isWord l D cy q_t q_t_tape q_t_tape_bytes adK adV v_t_fault u1 u2 u3 u4 v_t_tape_size v_t_tape_bytes  0 (by decide) hr7) (cwV 1 hts gX6_readStatement_X6_isWord rfl rfl rfl (by decide +kernel) ⟨Nat.le_of_ble_eq_true rfl, Nat.le_of_ble_eq_true rfl⟩) (xPVs hK hPc ((hE.kept hS.2.1).narrow (fun _ h => h.elim)) hR (ci := 6) (q0 := 0) rfl rfl) rfl rfl hl.1 rfl (lv_room (Nat.le_of_ble_eq_true rfl)) dX6_readStatement_7 ⟨Nat.le_of_ble_eq_true rfl, Nat.le_of_ble_eq_true rfl⟩) ?_
  refine lv_if_eq (tgt := 21) hx hb dX6_readStatement_10 (by decide) (fun c82 => ?_) (fun c82 => ?_)
  · have hf := ifT hf c82
    clear c82
    refine lv_aload_n hx hb dX6_readStatement_21 rfl (lv_at hl 0 rfl) ?_
    refine va_ldcS hx hb hown hR.1.2.1 dX6_readStatement_22 ?_
    obtain ⟨r8, hr9, hf⟩ := boE1 hf
    have hPc := hP.sub (ws' := [(q_t, oX6 q_t_tape v_t_fault u1 u2 u3 u4), (q_t_tape, oX4 q_t_tape_bytes v_t_tape_size), (q_t_tape_bytes, .inl (cy 0, 250, .inl v_t_tape_bytes))]) [0, 1, 2] rfl
    refine xcSi (va_runV (As := [.ref (adK 1)]) (rest := []) ⟨hx, hb, hml, hown, hts⟩ (mX6_isWord l D cy q_t q_t_tape q_t_tape_bytes adK adV v_t_fault u1 u2 u3 u4 v_t_tape_size v_t_tape_bytes  1 (by decide) hr9) (cwV 1 hts gX6_readStatement_X6_isWord rfl rfl rfl (by decide +kernel) ⟨Nat.le_of_ble_eq_true rfl, Nat.le_of_ble_eq_true rfl⟩) (xPVs hK hPc ((hE.kept hS.2.1).narrow (fun _ h => h.elim)) hR (ci := 6) (q0 := 0) rfl rfl) rfl rfl hl.1 rfl (lv_room (Nat.le_of_ble_eq_true rfl)) dX6_readStatement_24 ⟨Nat.le_of_ble_eq_true rfl, Nat.le_of_ble_eq_true rfl⟩) ?_
    refine lv_if_eq (tgt := 39) hx hb dX6_readStatement_27 (by decide) (fun c74 => ?_) (fun c74 => ?_)
    · have hf := ifT hf c74
      clear c74
      refine lv_aload_n hx hb dX6_readStatement_39 rfl (lv_at hl 0 rfl) ?_
      refine va_ldcS hx hb hown hR.1.2.2.1 dX6_readStatement_40 ?_
      obtain ⟨r10, hr11, hf⟩ := boE1 hf
      have hPc := hP.sub (ws' := [(q_t, oX6 q_t_tape v_t_fault u1 u2 u3 u4), (q_t_tape, oX4 q_t_tape_bytes v_t_tape_size), (q_t_tape_bytes, .inl (cy 0, 250, .inl v_t_tape_bytes))]) [0, 1, 2] rfl
      refine xcSi (va_runV (As := [.ref (adK 2)]) (rest := []) ⟨hx, hb, hml, hown, hts⟩ (mX6_isWord l D cy q_t q_t_tape q_t_tape_bytes adK adV v_t_fault u1 u2 u3 u4 v_t_tape_size v_t_tape_bytes  2 (by decide) hr11) (cwV 1 hts gX6_readStatement_X6_isWord rfl rfl rfl (by decide +kernel) ⟨Nat.le_of_ble_eq_true rfl, Nat.le_of_ble_eq_true rfl⟩) (xPVs hK hPc ((hE.kept hS.2.1).narrow (fun _ h => h.elim)) hR (ci := 6) (q0 := 0) rfl rfl) rfl rfl hl.1 rfl (lv_room (Nat.le_of_ble_eq_true rfl)) dX6_readStatement_42 ⟨Nat.le_of_ble_eq_true rfl, Nat.le_of_ble_eq_true rfl⟩) ?_
      refine lv_if_eq (tgt := 57) hx hb dX6_readStatement_45 (by decide) (fun c66 => ?_) (fun c66 => ?_)
      · have hf := ifT hf c66
        clear c66
        refine lv_aload_n hx hb dX6_readStatement_57 rfl (lv_at hl 0 rfl) ?_
        refine va_ldcS hx hb hown hR.1.2.2.2.1 dX6_readStatement_58 ?_
        obtain ⟨r12, hr13, hf⟩ := boE1 hf
        have hPc := hP.sub (ws' := [(q_t, oX6 q_t_tape v_t_fault u1 u2 u3 u4), (q_t_tape, oX4 q_t_tape_bytes v_t_tape_size), (q_t_tape_bytes, .inl (cy 0, 250, .inl v_t_tape_bytes))]) [0, 1, 2] rfl
        refine xcSi (va_runV (As := [.ref (adK 3)]) (rest := []) ⟨hx, hb, hml, hown, hts⟩ (mX6_isWord l D cy q_t q_t_tape q_t_tape_bytes adK adV v_t_fault u1 u2 u3 u4 v_t_tape_size v_t_tape_bytes  3 (by decide) hr13) (cwV 1 hts gX6_readStatement_X6_isWord rfl rfl rfl (by decide +kernel) ⟨Nat.le_of_ble_eq_true rfl, Nat.le_of_ble_eq_true rfl⟩) (xPVs hK hPc ((hE.kept hS.2.1).narrow (fun _ h => h.elim)) hR (ci := 6) (q0 := 0) rfl rfl) rfl rfl hl.1 rfl (lv_room (Nat.le_of_ble_eq_true rfl)) dX6_readStatement_60 ⟨Nat.le_of_ble_eq_true rfl, Nat.le_of_ble_eq_true rfl⟩) ?_
        refine jww0 83 [] (fun  H locs ls => va_P D vwCl [(q_t, oX6 q_t_tape v_t_fault u1 u2 u3 u4), (q_t_tape, oX4 q_t_tape_bytes v_t_tape_size), (q_t_tape_bytes, .inl (cy 0, 250, .inl v_t_tape_bytes)), (q_o0, oX5 v_o0_places q_o0_ways q_o0_distances v_o0_people q_o0_kind q_o0_a q_o0_home q_o0_aim q_o0_at v_o0_hour v_o0_chance v_o0_seed), (q_o0_ways, .inl (cy 0, 12, .inl v_o0_ways)), (q_o0_kind, .inl (cy 0, 8, .inl v_o0_kind)), (q_o0_a, .inl (cy 0, 8, .inl v_o0_a)), (q_o0_home, .inl (cy 0, 8, .inl v_o0_home)), (q_o0_aim, .inl (cy 0, 8, .inl v_o0_aim)), (q_o0_at, .inl (cy 0, 8, .inl v_o0_at))] H ∧ va_D A [(q_t, oX6 q_t_tape v_t_fault u1 u2 u3 u4), (q_t_tape, oX4 q_t_tape_bytes v_t_tape_size), (q_t_tape_bytes, .inl (cy 0, 250, .inl v_t_tape_bytes)), (q_o0, oX5 v_o0_places q_o0_ways q_o0_distances v_o0_people q_o0_kind q_o0_a q_o0_home q_o0_aim q_o0_at v_o0_hour v_o0_chance v_o0_seed), (q_o0_ways, .inl (cy 0, 12, .inl v_o0_ways)), (q_o0_kind, .inl (cy 0, 8, .inl v_o0_kind)), (q_o0_a, .inl (cy 0, 8, .inl v_o0_a)), (q_o0_home, .inl (cy 0, 8, .inl v_o0_home)), (q_o0_aim, .inl (cy 0, 8, .inl v_o0_aim)), (q_o0_at, .inl (cy 0, 8, .inl v_o0_at))] ∧ va_S A s.heap H locs ∧ lv_has ls 2 [(0, .ref q_t), (1, .ref q_o0)]) hf (fun  H locs ls hI hf => ?_) (fun k14 J83 hf => ?_)
        · obtain ⟨hP, hD, hS, hl⟩ := hI
          refine lv_aload_n hx hb dX6_readStatement_83 rfl (lv_at hl 0 rfl) ?_
          refine va_ldcS hx hb hown hR.1.2.2.2.2.1 dX6_readStatement_84 ?_
          obtain ⟨r15, hr16, hf⟩ := boE1 hf
          have hPc := hP.sub (ws' := [(q_t, oX6 q_t_tape v_t_fault u1 u2 u3 u4), (q_t_tape, oX4 q_t_tape_bytes v_t_tape_size), (q_t_tape_bytes, .inl (cy 0, 250, .inl v_t_tape_bytes))]) [0, 1, 2] rfl
          refine xcSi (va_runV (As := [.ref (adK 4)]) (rest := []) ⟨hx, hb, hml, hown, hts⟩ (mX6_isWord l D cy q_t q_t_tape q_t_tape_bytes adK adV v_t_fault u1 u2 u3 u4 v_t_tape_size v_t_tape_bytes  4 (by decide) hr16) (cwV 1 hts gX6_readStatement_X6_isWord rfl rfl rfl (by decide +kernel) ⟨Nat.le_of_ble_eq_true rfl, Nat.le_of_ble_eq_true rfl⟩) (xPVs hK hPc ((hE.kept hS.2.1).narrow (fun _ h => h.elim)) hR (ci := 6) (q0 := 0) rfl rfl) rfl rfl hl.1 rfl (lv_room (Nat.le_of_ble_eq_true rfl)) dX6_readStatement_86 ⟨Nat.le_of_ble_eq_true rfl, Nat.le_of_ble_eq_true rfl⟩) ?_
          refine lv_if_eq (tgt := 100) hx hb dX6_readStatement_89 (by decide) (fun c44 => ?_) (fun c44 => ?_)
          · have hf := ifT hf c44
            clear c44
            refine lv_aload_n hx hb dX6_readStatement_100 rfl (lv_at hl 0 rfl) ?_
            refine va_ldcS hx hb hown hR.1.2.2.2.2.2.1 dX6_readStatement_101 ?_
            obtain ⟨r17, hr18, hf⟩ := boE1 hf
            have hPc := hP.sub (ws' := [(q_t, oX6 q_t_tape v_t_fault u1 u2 u3 u4), (q_t_tape, oX4 q_t_tape_bytes v_t_tape_size), (q_t_tape_bytes, .inl (cy 0, 250, .inl v_t_tape_bytes))]) [0, 1, 2] rfl
            refine xcSi (va_runV (As := [.ref (adK 5)]) (rest := []) ⟨hx, hb, hml, hown, hts⟩ (mX6_isWord l D cy q_t q_t_tape q_t_tape_bytes adK adV v_t_fault u1 u2 u3 u4 v_t_tape_size v_t_tape_bytes  5 (by decide) hr18) (cwV 1 hts gX6_readStatement_X6_isWord rfl rfl rfl (by decide +kernel) ⟨Nat.le_of_ble_eq_true rfl, Nat.le_of_ble_eq_true rfl⟩) (xPVs hK hPc ((hE.kept hS.2.1).narrow (fun _ h => h.elim)) hR (ci := 6) (q0 := 0) rfl rfl) rfl rfl hl.1 rfl (lv_room (Nat.le_of_ble_eq_true rfl)) dX6_readStatement_103 ⟨Nat.le_of_ble_eq_true rfl, Nat.le_of_ble_eq_true rfl⟩) ?_
            refine lv_if_eq (tgt := 117) hx hb dX6_readStatement_106 (by decide) (fun c36 => ?_) (fun c36 => ?_)
            · have hf := ifT hf c36
              clear c36
              refine lv_aload_n hx hb dX6_readStatement_117 rfl (lv_at hl 0 rfl) ?_
              refine va_ldcS hx hb hown hR.1.2.2.2.2.2.2 dX6_readStatement_118 ?_
              obtain ⟨r19, hr20, hf⟩ := boE1 hf
              have hPc := hP.sub (ws' := [(q_t, oX6 q_t_tape v_t_fault u1 u2 u3 u4), (q_t_tape, oX4 q_t_tape_bytes v_t_tape_size), (q_t_tape_bytes, .inl (cy 0, 250, .inl v_t_tape_bytes))]) [0, 1, 2] rfl
              refine xcSi (va_runV (As := [.ref (adK 6)]) (rest := []) ⟨hx, hb, hml, hown, hts⟩ (mX6_isWord l D cy q_t q_t_tape q_t_tape_bytes adK adV v_t_fault u1 u2 u3 u4 v_t_tape_size v_t_tape_bytes  6 (by decide) hr20) (cwV 1 hts gX6_readStatement_X6_isWord rfl rfl rfl (by decide +kernel) ⟨Nat.le_of_ble_eq_true rfl, Nat.le_of_ble_eq_true rfl⟩) (xPVs hK hPc ((hE.kept hS.2.1).narrow (fun _ h => h.elim)) hR (ci := 6) (q0 := 0) rfl rfl) rfl rfl hl.1 rfl (lv_room (Nat.le_of_ble_eq_true rfl)) dX6_readStatement_120 ⟨Nat.le_of_ble_eq_true rfl, Nat.le_of_ble_eq_true rfl⟩) ?_
              refine lv_if_eq (tgt := 134) hx hb dX6_readStatement_123 (by decide) (fun c28 => ?_) (fun c28 => ?_)
              · have hf := ifT hf c28
                clear c28
                refine lv_aload_n hx hb dX6_readStatement_134 rfl (lv_at hl 0 rfl) ?_
                refine lv_aload_n hx hb dX6_readStatement_135 rfl (lv_at hl 0 rfl) ?_
                refine va_get (D := D) (ci := 6) (v := .int u3) (C := RX6) (T := TX6) (N := 6) hx hb hts hinX6 hown hK.1 hP 0 rfl rfl 4 (by decide) hk35 (fun _ h9 => h9) rfl dX6_readStatement_136 ?_
                refine va_put (D := D) (ci := 6) (v := .int u3) (ty := .int) (C := RX6) (T := TX6) (N := 6) hx hb hts hinX6 tyX6 tyX6_ok nmX6 hown hK.1 hP hD hS 0 rfl rfl 1 (by decide) hk18 (fun _ h9 => h9) rfl (by decide +kernel) rfl rfl (Nat.le_of_ble_eq_true rfl) dX6_readStatement_139 (fun H locs hP hD hS => ?_)
                have hP : va_P D vwCl [(q_t, oX6 q_t_tape u3 u1 u2 u3 u4), (q_t_tape, oX4 q_t_tape_bytes v_t_tape_size), (q_t_tape_bytes, .inl (cy 0, 250, .inl v_t_tape_bytes)), (q_o0, oX5 v_o0_places q_o0_ways q_o0_distances v_o0_people q_o0_kind q_o0_a q_o0_home q_o0_aim q_o0_at v_o0_hour v_o0_chance v_o0_seed), (q_o0_ways, .inl (cy 0, 12, .inl v_o0_ways)), (q_o0_kind, .inl (cy 0, 8, .inl v_o0_kind)), (q_o0_a, .inl (cy 0, 8, .inl v_o0_a)), (q_o0_home, .inl (cy 0, 8, .inl v_o0_home)), (q_o0_aim, .inl (cy 0, 8, .inl v_o0_aim)), (q_o0_at, .inl (cy 0, 8, .inl v_o0_at))] H := hP
                have hD : va_D A [(q_t, oX6 q_t_tape u3 u1 u2 u3 u4), (q_t_tape, oX4 q_t_tape_bytes v_t_tape_size), (q_t_tape_bytes, .inl (cy 0, 250, .inl v_t_tape_bytes)), (q_o0, oX5 v_o0_places q_o0_ways q_o0_distances v_o0_people q_o0_kind q_o0_a q_o0_home q_o0_aim q_o0_at v_o0_hour v_o0_chance v_o0_seed), (q_o0_ways, .inl (cy 0, 12, .inl v_o0_ways)), (q_o0_kind, .inl (cy 0, 8, .inl v_o0_kind)), (q_o0_a, .inl (cy 0, 8, .inl v_o0_a)), (q_o0_home, .inl (cy 0, 8, .inl v_o0_home)), (q_o0_aim, .inl (cy 0, 8, .inl v_o0_aim)), (q_o0_at, .inl (cy 0, 8, .inl v_o0_at))] := hD
                have hg0 := Option.some.inj hf
                obtain ⟨ee0, hg1⟩ := Prod.mk.inj hg0
                obtain ⟨ee1, hg2⟩ := Prod.mk.inj hg1
                obtain ⟨ee2, hg3⟩ := Prod.mk.inj hg2
                obtain ⟨ee3, hg4⟩ := Prod.mk.inj hg3
                obtain ⟨ee4, hg5⟩ := Prod.mk.inj hg4
                obtain ⟨ee5, hg6⟩ := Prod.mk.inj hg5
                obtain ⟨ee6, hg7⟩ := Prod.mk.inj hg6
                obtain ⟨ee7, hg8⟩ := Prod.mk.inj hg7
                obtain ⟨ee8, hg9⟩ := Prod.mk.inj hg8
                obtain ⟨ee9, hg10⟩ := Prod.mk.inj hg9
                obtain ⟨ee10, hg11⟩ := Prod.mk.inj hg10
                obtain ⟨ee11, hg12⟩ := Prod.mk.inj hg11
                obtain ⟨ee12, hg13⟩ := Prod.mk.inj hg12
                obtain ⟨ee13, hg14⟩ := Prod.mk.inj hg13
                clear hf hg0 hg1 hg2 hg3 hg4 hg5 hg6 hg7 hg8 hg9 hg10 hg11 hg12 hg13
                subst ee0
                subst ee1
                subst ee2
                subst ee3
                subst ee4
                subst ee5
                subst ee6
                subst ee7
                subst ee8
                subst ee9
                subst ee10
                subst ee11
                subst ee12
                subst ee13
                subst hg14
                exact W.vret hx hb hr (fun t ht hW => ⟨⟨(), rfl, trivial, xend ht hP⟩, hS.F ht⟩) hS.2.2 dX6_readStatement_142
              · have hf := ifF hf c28
                clear c28
                refine lv_aload_n hx hb dX6_readStatement_126 rfl (lv_at hl 0 rfl) ?_
                refine lv_aload_n hx hb dX6_readStatement_127 rfl (lv_at hl 1 rfl) ?_
                obtain ⟨u21, u22, u23, u24, u25, u26, hr27, hf⟩ := boE6 hf
                have hPc := hP.sub (ws' := [(q_t, oX6 q_t_tape v_t_fault u1 u2 u3 u4), (q_t_tape, oX4 q_t_tape_bytes v_t_tape_size), (q_t_tape_bytes, .inl (cy 0, 250, .inl v_t_tape_bytes)), (q_o0, oX5 v_o0_places q_o0_ways q_o0_distances v_o0_people q_o0_kind q_o0_a q_o0_home q_o0_aim q_o0_at v_o0_hour v_o0_chance v_o0_seed)]) [0, 1, 2, 3] rfl
                have hDc := hD.sub (ws' := [(q_t, oX6 q_t_tape v_t_fault u1 u2 u3 u4), (q_t_tape, oX4 q_t_tape_bytes v_t_tape_size), (q_t_tape_bytes, .inl (cy 0, 250, .inl v_t_tape_bytes)), (q_o0, oX5 v_o0_places q_o0_ways q_o0_distances v_o0_people q_o0_kind q_o0_a q_o0_home q_o0_aim q_o0_at v_o0_hour v_o0_chance v_o0_seed)]) [0, 1, 2, 3] (by decide) rfl
                refine xcQv (w1 := [(q_t, oX6 q_t_tape u21 u22 u23 u24 u25), (q_t_tape, oX4 q_t_tape_bytes v_t_tape_size), (q_t_tape_bytes, .inl (cy 0, 250, .inl v_t_tape_bytes)), (q_o0, oX5 v_o0_places q_o0_ways q_o0_distances v_o0_people q_o0_kind q_o0_a q_o0_home q_o0_aim q_o0_at v_o0_hour u26 v_o0_seed)]) (va_runV (As := [.ref q_o0]) (rest := []) ⟨hx, hb, hml, hown, hts⟩ (mX6_readChance l D cy q_t q_o0 q_t_tape q_t_tape_bytes q_o0_ways q_o0_distances q_o0_kind q_o0_a q_o0_home q_o0_aim q_o0_at v_t_fault u1 u2 u3 u4 v_t_tape_size v_t_tape_bytes v_o0_places v_o0_people v_o0_hour v_o0_chance v_o0_seed _  hr27) (cwV 1 hts gX6_readStatement_X6_readChance rfl rfl rfl (by decide +kernel) ⟨Nat.le_of_ble_eq_true rfl, Nat.le_of_ble_eq_true rfl⟩) (xPVw hK hPc hDc (ci := 6) (q0 := 0) rfl rfl) rfl rfl hl.1 rfl (lv_room (Nat.le_of_ble_eq_true rfl)) dX6_readStatement_128 ⟨Nat.le_of_ble_eq_true rfl, Nat.le_of_ble_eq_true rfl⟩) hP hD hS hA [0, 1, 2, 3] rfl rfl (fun H locs hP hD hS => ?_)
                have hP : va_P D vwCl [(q_t, oX6 q_t_tape u21 u22 u23 u24 u25), (q_t_tape, oX4 q_t_tape_bytes v_t_tape_size), (q_t_tape_bytes, .inl (cy 0, 250, .inl v_t_tape_bytes)), (q_o0, oX5 v_o0_places q_o0_ways q_o0_distances v_o0_people q_o0_kind q_o0_a q_o0_home q_o0_aim q_o0_at v_o0_hour u26 v_o0_seed), (q_o0_ways, .inl (cy 0, 12, .inl v_o0_ways)), (q_o0_kind, .inl (cy 0, 8, .inl v_o0_kind)), (q_o0_a, .inl (cy 0, 8, .inl v_o0_a)), (q_o0_home, .inl (cy 0, 8, .inl v_o0_home)), (q_o0_aim, .inl (cy 0, 8, .inl v_o0_aim)), (q_o0_at, .inl (cy 0, 8, .inl v_o0_at))] H := hP
                have hD : va_D A [(q_t, oX6 q_t_tape u21 u22 u23 u24 u25), (q_t_tape, oX4 q_t_tape_bytes v_t_tape_size), (q_t_tape_bytes, .inl (cy 0, 250, .inl v_t_tape_bytes)), (q_o0, oX5 v_o0_places q_o0_ways q_o0_distances v_o0_people q_o0_kind q_o0_a q_o0_home q_o0_aim q_o0_at v_o0_hour u26 v_o0_seed), (q_o0_ways, .inl (cy 0, 12, .inl v_o0_ways)), (q_o0_kind, .inl (cy 0, 8, .inl v_o0_kind)), (q_o0_a, .inl (cy 0, 8, .inl v_o0_a)), (q_o0_home, .inl (cy 0, 8, .inl v_o0_home)), (q_o0_aim, .inl (cy 0, 8, .inl v_o0_aim)), (q_o0_at, .inl (cy 0, 8, .inl v_o0_at))] := hD
                refine lv_goto (tgt := 142) hx hb dX6_readStatement_131 (by decide) ?_
                have hg0 := Option.some.inj hf
                obtain ⟨ee0, hg1⟩ := Prod.mk.inj hg0
                obtain ⟨ee1, hg2⟩ := Prod.mk.inj hg1
                obtain ⟨ee2, hg3⟩ := Prod.mk.inj hg2
                obtain ⟨ee3, hg4⟩ := Prod.mk.inj hg3
                obtain ⟨ee4, hg5⟩ := Prod.mk.inj hg4
                obtain ⟨ee5, hg6⟩ := Prod.mk.inj hg5
                obtain ⟨ee6, hg7⟩ := Prod.mk.inj hg6
                obtain ⟨ee7, hg8⟩ := Prod.mk.inj hg7
                obtain ⟨ee8, hg9⟩ := Prod.mk.inj hg8
                obtain ⟨ee9, hg10⟩ := Prod.mk.inj hg9
                obtain ⟨ee10, hg11⟩ := Prod.mk.inj hg10
                obtain ⟨ee11, hg12⟩ := Prod.mk.inj hg11
                obtain ⟨ee12, hg13⟩ := Prod.mk.inj hg12
                obtain ⟨ee13, hg14⟩ := Prod.mk.inj hg13
                clear hf hg0 hg1 hg2 hg3 hg4 hg5 hg6 hg7 hg8 hg9 hg10 hg11 hg12 hg13
                subst ee0
                subst ee1
                subst ee2
                subst ee3
                subst ee4
                subst ee5
                subst ee6
                subst ee7
                subst ee8
                subst ee9
                subst ee10
                subst ee11
                subst ee12
                subst ee13
                subst hg14
                exact W.vret hx hb hr (fun t ht hW => ⟨⟨(), rfl, trivial, xend ht hP⟩, hS.F ht⟩) hS.2.2 dX6_readStatement_142
            · have hf := ifF hf c36
              clear c36
              refine lv_aload_n hx hb dX6_readStatement_109 rfl (lv_at hl 0 rfl) ?_
              refine lv_aload_n hx hb dX6_readStatement_110 rfl (lv_at hl 1 rfl) ?_
              obtain ⟨u29, u30, u31, u32, u33, u34, hr35, hf⟩ := boE6 hf
              have hPc := hP.sub (ws' := [(q_t, oX6 q_t_tape v_t_fault u1 u2 u3 u4), (q_t_tape, oX4 q_t_tape_bytes v_t_tape_size), (q_t_tape_bytes, .inl (cy 0, 250, .inl v_t_tape_bytes)), (q_o0, oX5 v_o0_places q_o0_ways q_o0_distances v_o0_people q_o0_kind q_o0_a q_o0_home q_o0_aim q_o0_at v_o0_hour v_o0_chance v_o0_seed)]) [0, 1, 2, 3] rfl
              have hDc := hD.sub (ws' := [(q_t, oX6 q_t_tape v_t_fault u1 u2 u3 u4), (q_t_tape, oX4 q_t_tape_bytes v_t_tape_size), (q_t_tape_bytes, .inl (cy 0, 250, .inl v_t_tape_bytes)), (q_o0, oX5 v_o0_places q_o0_ways q_o0_distances v_o0_people q_o0_kind q_o0_a q_o0_home q_o0_aim q_o0_at v_o0_hour v_o0_chance v_o0_seed)]) [0, 1, 2, 3] (by decide) rfl
              refine xcQv (w1 := [(q_t, oX6 q_t_tape u29 u30 u31 u32 u33), (q_t_tape, oX4 q_t_tape_bytes v_t_tape_size), (q_t_tape_bytes, .inl (cy 0, 250, .inl v_t_tape_bytes)), (q_o0, oX5 v_o0_places q_o0_ways q_o0_distances v_o0_people q_o0_kind q_o0_a q_o0_home q_o0_aim q_o0_at u34 v_o0_chance v_o0_seed)]) (va_runV (As := [.ref q_o0]) (rest := []) ⟨hx, hb, hml, hown, hts⟩ (mX6_readHour l D cy q_t q_o0 q_t_tape q_t_tape_bytes q_o0_ways q_o0_distances q_o0_kind q_o0_a q_o0_home q_o0_aim q_o0_at v_t_fault u1 u2 u3 u4 v_t_tape_size v_t_tape_bytes v_o0_places v_o0_people v_o0_hour v_o0_chance v_o0_seed _  hr35) (cwV 1 hts gX6_readStatement_X6_readHour rfl rfl rfl (by decide +kernel) ⟨Nat.le_of_ble_eq_true rfl, Nat.le_of_ble_eq_true rfl⟩) (xPVw hK hPc hDc (ci := 6) (q0 := 0) rfl rfl) rfl rfl hl.1 rfl (lv_room (Nat.le_of_ble_eq_true rfl)) dX6_readStatement_111 ⟨Nat.le_of_ble_eq_true rfl, Nat.le_of_ble_eq_true rfl⟩) hP hD hS hA [0, 1, 2, 3] rfl rfl (fun H locs hP hD hS => ?_)
              have hP : va_P D vwCl [(q_t, oX6 q_t_tape u29 u30 u31 u32 u33), (q_t_tape, oX4 q_t_tape_bytes v_t_tape_size), (q_t_tape_bytes, .inl (cy 0, 250, .inl v_t_tape_bytes)), (q_o0, oX5 v_o0_places q_o0_ways q_o0_distances v_o0_people q_o0_kind q_o0_a q_o0_home q_o0_aim q_o0_at u34 v_o0_chance v_o0_seed), (q_o0_ways, .inl (cy 0, 12, .inl v_o0_ways)), (q_o0_kind, .inl (cy 0, 8, .inl v_o0_kind)), (q_o0_a, .inl (cy 0, 8, .inl v_o0_a)), (q_o0_home, .inl (cy 0, 8, .inl v_o0_home)), (q_o0_aim, .inl (cy 0, 8, .inl v_o0_aim)), (q_o0_at, .inl (cy 0, 8, .inl v_o0_at))] H := hP
              have hD : va_D A [(q_t, oX6 q_t_tape u29 u30 u31 u32 u33), (q_t_tape, oX4 q_t_tape_bytes v_t_tape_size), (q_t_tape_bytes, .inl (cy 0, 250, .inl v_t_tape_bytes)), (q_o0, oX5 v_o0_places q_o0_ways q_o0_distances v_o0_people q_o0_kind q_o0_a q_o0_home q_o0_aim q_o0_at u34 v_o0_chance v_o0_seed), (q_o0_ways, .inl (cy 0, 12, .inl v_o0_ways)), (q_o0_kind, .inl (cy 0, 8, .inl v_o0_kind)), (q_o0_a, .inl (cy 0, 8, .inl v_o0_a)), (q_o0_home, .inl (cy 0, 8, .inl v_o0_home)), (q_o0_aim, .inl (cy 0, 8, .inl v_o0_aim)), (q_o0_at, .inl (cy 0, 8, .inl v_o0_at))] := hD
              refine lv_goto (tgt := 142) hx hb dX6_readStatement_114 (by decide) ?_
              have hg0 := Option.some.inj hf
              obtain ⟨ee0, hg1⟩ := Prod.mk.inj hg0
              obtain ⟨ee1, hg2⟩ := Prod.mk.inj hg1
              obtain ⟨ee2, hg3⟩ := Prod.mk.inj hg2
              obtain ⟨ee3, hg4⟩ := Prod.mk.inj hg3
              obtain ⟨ee4, hg5⟩ := Prod.mk.inj hg4
              obtain ⟨ee5, hg6⟩ := Prod.mk.inj hg5
              obtain ⟨ee6, hg7⟩ := Prod.mk.inj hg6
              obtain ⟨ee7, hg8⟩ := Prod.mk.inj hg7
              obtain ⟨ee8, hg9⟩ := Prod.mk.inj hg8
              obtain ⟨ee9, hg10⟩ := Prod.mk.inj hg9
              obtain ⟨ee10, hg11⟩ := Prod.mk.inj hg10
              obtain ⟨ee11, hg12⟩ := Prod.mk.inj hg11
              obtain ⟨ee12, hg13⟩ := Prod.mk.inj hg12
              obtain ⟨ee13, hg14⟩ := Prod.mk.inj hg13
              clear hf hg0 hg1 hg2 hg3 hg4 hg5 hg6 hg7 hg8 hg9 hg10 hg11 hg12 hg13
              subst ee0
              subst ee1
              subst ee2
              subst ee3
              subst ee4
              subst ee5
              subst ee6
              subst ee7
              subst ee8
              subst ee9
              subst ee10
              subst ee11
              subst ee12
              subst ee13
              subst hg14
              exact W.vret hx hb hr (fun t ht hW => ⟨⟨(), rfl, trivial, xend ht hP⟩, hS.F ht⟩) hS.2.2 dX6_readStatement_142
          · have hf := ifF hf c44
            clear c44
            refine lv_aload_n hx hb dX6_readStatement_92 rfl (lv_at hl 0 rfl) ?_
            refine lv_aload_n hx hb dX6_readStatement_93 rfl (lv_at hl 1 rfl) ?_
            obtain ⟨u37, u38, u39, u40, u41, u42, hr43, hf⟩ := boE6 hf
            have hPc := hP.sub (ws' := [(q_t, oX6 q_t_tape v_t_fault u1 u2 u3 u4), (q_t_tape, oX4 q_t_tape_bytes v_t_tape_size), (q_t_tape_bytes, .inl (cy 0, 250, .inl v_t_tape_bytes)), (q_o0, oX5 v_o0_places q_o0_ways q_o0_distances v_o0_people q_o0_kind q_o0_a q_o0_home q_o0_aim q_o0_at v_o0_hour v_o0_chance v_o0_seed), (q_o0_at, .inl (cy 0, 8, .inl v_o0_at))]) [0, 1, 2, 3, 9] rfl
            have hDc := hD.sub (ws' := [(q_t, oX6 q_t_tape v_t_fault u1 u2 u3 u4), (q_t_tape, oX4 q_t_tape_bytes v_t_tape_size), (q_t_tape_bytes, .inl (cy 0, 250, .inl v_t_tape_bytes)), (q_o0, oX5 v_o0_places q_o0_ways q_o0_distances v_o0_people q_o0_kind q_o0_a q_o0_home q_o0_aim q_o0_at v_o0_hour v_o0_chance v_o0_seed), (q_o0_at, .inl (cy 0, 8, .inl v_o0_at))]) [0, 1, 2, 3, 9] (by decide) rfl
            refine xcQv (w1 := [(q_t, oX6 q_t_tape u37 u38 u39 u40 u41), (q_t_tape, oX4 q_t_tape_bytes v_t_tape_size), (q_t_tape_bytes, .inl (cy 0, 250, .inl v_t_tape_bytes)), (q_o0, oX5 v_o0_places q_o0_ways q_o0_distances v_o0_people q_o0_kind q_o0_a q_o0_home q_o0_aim q_o0_at v_o0_hour v_o0_chance v_o0_seed), (q_o0_at, .inl (cy 0, 8, .inl u42))]) (va_runV (As := [.ref q_o0]) (rest := []) ⟨hx, hb, hml, hown, hts⟩ (mX6_readAt l D cy q_t q_o0 q_t_tape q_t_tape_bytes q_o0_ways q_o0_distances q_o0_kind q_o0_a q_o0_home q_o0_aim q_o0_at v_t_fault u1 u2 u3 u4 v_t_tape_size v_t_tape_bytes v_o0_places v_o0_people v_o0_hour v_o0_chance v_o0_seed v_o0_at _  hr43) (cwV 1 hts gX6_readStatement_X6_readAt rfl rfl rfl (by decide +kernel) ⟨Nat.le_of_ble_eq_true rfl, Nat.le_of_ble_eq_true rfl⟩) (xPVw hK hPc hDc (ci := 6) (q0 := 0) rfl rfl) rfl rfl hl.1 rfl (lv_room (Nat.le_of_ble_eq_true rfl)) dX6_readStatement_94 ⟨Nat.le_of_ble_eq_true rfl, Nat.le_of_ble_eq_true rfl⟩) hP hD hS hA [0, 1, 2, 3, 9] rfl rfl (fun H locs hP hD hS => ?_)
            have hP : va_P D vwCl [(q_t, oX6 q_t_tape u37 u38 u39 u40 u41), (q_t_tape, oX4 q_t_tape_bytes v_t_tape_size), (q_t_tape_bytes, .inl (cy 0, 250, .inl v_t_tape_bytes)), (q_o0, oX5 v_o0_places q_o0_ways q_o0_distances v_o0_people q_o0_kind q_o0_a q_o0_home q_o0_aim q_o0_at v_o0_hour v_o0_chance v_o0_seed), (q_o0_ways, .inl (cy 0, 12, .inl v_o0_ways)), (q_o0_kind, .inl (cy 0, 8, .inl v_o0_kind)), (q_o0_a, .inl (cy 0, 8, .inl v_o0_a)), (q_o0_home, .inl (cy 0, 8, .inl v_o0_home)), (q_o0_aim, .inl (cy 0, 8, .inl v_o0_aim)), (q_o0_at, .inl (cy 0, 8, .inl u42))] H := hP
            have hD : va_D A [(q_t, oX6 q_t_tape u37 u38 u39 u40 u41), (q_t_tape, oX4 q_t_tape_bytes v_t_tape_size), (q_t_tape_bytes, .inl (cy 0, 250, .inl v_t_tape_bytes)), (q_o0, oX5 v_o0_places q_o0_ways q_o0_distances v_o0_people q_o0_kind q_o0_a q_o0_home q_o0_aim q_o0_at v_o0_hour v_o0_chance v_o0_seed), (q_o0_ways, .inl (cy 0, 12, .inl v_o0_ways)), (q_o0_kind, .inl (cy 0, 8, .inl v_o0_kind)), (q_o0_a, .inl (cy 0, 8, .inl v_o0_a)), (q_o0_home, .inl (cy 0, 8, .inl v_o0_home)), (q_o0_aim, .inl (cy 0, 8, .inl v_o0_aim)), (q_o0_at, .inl (cy 0, 8, .inl u42))] := hD
            refine lv_goto (tgt := 142) hx hb dX6_readStatement_97 (by decide) ?_
            have hg0 := Option.some.inj hf
            obtain ⟨ee0, hg1⟩ := Prod.mk.inj hg0
            obtain ⟨ee1, hg2⟩ := Prod.mk.inj hg1
            obtain ⟨ee2, hg3⟩ := Prod.mk.inj hg2
            obtain ⟨ee3, hg4⟩ := Prod.mk.inj hg3
            obtain ⟨ee4, hg5⟩ := Prod.mk.inj hg4
            obtain ⟨ee5, hg6⟩ := Prod.mk.inj hg5
            obtain ⟨ee6, hg7⟩ := Prod.mk.inj hg6
            obtain ⟨ee7, hg8⟩ := Prod.mk.inj hg7
            obtain ⟨ee8, hg9⟩ := Prod.mk.inj hg8
            obtain ⟨ee9, hg10⟩ := Prod.mk.inj hg9
            obtain ⟨ee10, hg11⟩ := Prod.mk.inj hg10
            obtain ⟨ee11, hg12⟩ := Prod.mk.inj hg11
            obtain ⟨ee12, hg13⟩ := Prod.mk.inj hg12
            obtain ⟨ee13, hg14⟩ := Prod.mk.inj hg13
            clear hf hg0 hg1 hg2 hg3 hg4 hg5 hg6 hg7 hg8 hg9 hg10 hg11 hg12 hg13
            subst ee0
            subst ee1
            subst ee2
            subst ee3
            subst ee4
            subst ee5
            subst ee6
            subst ee7
            subst ee8
            subst ee9
            subst ee10
            subst ee11
            subst ee12
            subst ee13
            subst hg14
            exact W.vret hx hb hr (fun t ht hW => ⟨⟨(), rfl, trivial, xend ht hP⟩, hS.F ht⟩) hS.2.2 dX6_readStatement_142
        · refine lv_if_eq (tgt := 83) hx hb dX6_readStatement_63 (by decide) (fun c58 => ?_) (fun c58 => ?_)
          · have hf := ifT hf c58
            clear c58
            exact J83 _ _ ls ⟨hP, hD, hS, lv_sub hl [0, 1] rfl⟩ hf
          · have hf := ifF hf c58
            clear c58
            refine lv_aload_n hx hb dX6_readStatement_66 rfl (lv_at hl 1 rfl) ?_
            refine va_get (D := D) (ci := 5) (v := .int v_o0_people) (C := RX5) (T := TX5) (N := 12) hx hb hts hinX5 hown hK.1 hP 3 rfl rfl 3 (by decide) hk57 (fun _ h9 => h9) rfl dX6_readStatement_67 ?_
            refine lv_bipush (v := 8) hx hb dX6_readStatement_70 (by decide) ?_
            refine lv_icmp_ge (tgt := 83) hx hb dX6_readStatement_72 (by decide) (fun c57 => ?_) (fun c57 => ?_)
            · have hf := ifT hf c57
              clear c57
              exact J83 _ _ ls ⟨hP, hD, hS, lv_sub hl [0, 1] rfl⟩ hf
            · have hf := ifF hf c57
              clear c57
              refine lv_aload_n hx hb dX6_readStatement_75 rfl (lv_at hl 0 rfl) ?_
              refine lv_aload_n hx hb dX6_readStatement_76 rfl (lv_at hl 1 rfl) ?_
              obtain ⟨u45, u46, u47, u48, u49, u50, u51, u52, u53, u54, u55, hr56, hf⟩ := boE11 hf
              have hPc := hP.sub (ws' := [(q_t, oX6 q_t_tape v_t_fault u1 u2 u3 u4), (q_t_tape, oX4 q_t_tape_bytes v_t_tape_size), (q_t_tape_bytes, .inl (cy 0, 250, .inl v_t_tape_bytes)), (q_o0, oX5 v_o0_places q_o0_ways q_o0_distances v_o0_people q_o0_kind q_o0_a q_o0_home q_o0_aim q_o0_at v_o0_hour v_o0_chance v_o0_seed), (q_o0_kind, .inl (cy 0, 8, .inl v_o0_kind)), (q_o0_a, .inl (cy 0, 8, .inl v_o0_a)), (q_o0_home, .inl (cy 0, 8, .inl v_o0_home)), (q_o0_aim, .inl (cy 0, 8, .inl v_o0_aim)), (q_o0_at, .inl (cy 0, 8, .inl v_o0_at))]) [0, 1, 2, 3, 5, 6, 7, 8, 9] rfl
              have hDc := hD.sub (ws' := [(q_t, oX6 q_t_tape v_t_fault u1 u2 u3 u4), (q_t_tape, oX4 q_t_tape_bytes v_t_tape_size), (q_t_tape_bytes, .inl (cy 0, 250, .inl v_t_tape_bytes)), (q_o0, oX5 v_o0_places q_o0_ways q_o0_distances v_o0_people q_o0_kind q_o0_a q_o0_home q_o0_aim q_o0_at v_o0_hour v_o0_chance v_o0_seed), (q_o0_kind, .inl (cy 0, 8, .inl v_o0_kind)), (q_o0_a, .inl (cy 0, 8, .inl v_o0_a)), (q_o0_home, .inl (cy 0, 8, .inl v_o0_home)), (q_o0_aim, .inl (cy 0, 8, .inl v_o0_aim)), (q_o0_at, .inl (cy 0, 8, .inl v_o0_at))]) [0, 1, 2, 3, 5, 6, 7, 8, 9] (by decide) rfl
              refine xcQv (w1 := [(q_t, oX6 q_t_tape u45 u46 u47 u48 u49), (q_t_tape, oX4 q_t_tape_bytes v_t_tape_size), (q_t_tape_bytes, .inl (cy 0, 250, .inl v_t_tape_bytes)), (q_o0, oX5 v_o0_places q_o0_ways q_o0_distances u50 q_o0_kind q_o0_a q_o0_home q_o0_aim q_o0_at v_o0_hour v_o0_chance v_o0_seed), (q_o0_kind, .inl (cy 0, 8, .inl u51)), (q_o0_a, .inl (cy 0, 8, .inl u52)), (q_o0_home, .inl (cy 0, 8, .inl u53)), (q_o0_aim, .inl (cy 0, 8, .inl u54)), (q_o0_at, .inl (cy 0, 8, .inl u55))]) (va_runV (As := [.ref q_o0]) (rest := []) ⟨hx, hb, hml, hown, hts⟩ (mX6_readPerson l D cy q_t q_o0 q_t_tape q_t_tape_bytes q_o0_ways q_o0_distances q_o0_kind q_o0_a q_o0_home q_o0_aim q_o0_at v_t_fault u1 u2 u3 u4 v_t_tape_size v_t_tape_bytes v_o0_places v_o0_people v_o0_hour v_o0_chance v_o0_seed v_o0_kind v_o0_a v_o0_home v_o0_aim v_o0_at _  hr56) (cwV 1 hts gX6_readStatement_X6_readPerson rfl rfl rfl (by decide +kernel) ⟨Nat.le_of_ble_eq_true rfl, Nat.le_of_ble_eq_true rfl⟩) (xPVw hK hPc hDc (ci := 6) (q0 := 0) rfl rfl) rfl rfl hl.1 rfl (lv_room (Nat.le_of_ble_eq_true rfl)) dX6_readStatement_77 ⟨Nat.le_of_ble_eq_true rfl, Nat.le_of_ble_eq_true rfl⟩) hP hD hS hA [0, 1, 2, 3, 5, 6, 7, 8, 9] rfl rfl (fun H locs hP hD hS => ?_)
              have hP : va_P D vwCl [(q_t, oX6 q_t_tape u45 u46 u47 u48 u49), (q_t_tape, oX4 q_t_tape_bytes v_t_tape_size), (q_t_tape_bytes, .inl (cy 0, 250, .inl v_t_tape_bytes)), (q_o0, oX5 v_o0_places q_o0_ways q_o0_distances u50 q_o0_kind q_o0_a q_o0_home q_o0_aim q_o0_at v_o0_hour v_o0_chance v_o0_seed), (q_o0_ways, .inl (cy 0, 12, .inl v_o0_ways)), (q_o0_kind, .inl (cy 0, 8, .inl u51)), (q_o0_a, .inl (cy 0, 8, .inl u52)), (q_o0_home, .inl (cy 0, 8, .inl u53)), (q_o0_aim, .inl (cy 0, 8, .inl u54)), (q_o0_at, .inl (cy 0, 8, .inl u55))] H := hP
              have hD : va_D A [(q_t, oX6 q_t_tape u45 u46 u47 u48 u49), (q_t_tape, oX4 q_t_tape_bytes v_t_tape_size), (q_t_tape_bytes, .inl (cy 0, 250, .inl v_t_tape_bytes)), (q_o0, oX5 v_o0_places q_o0_ways q_o0_distances u50 q_o0_kind q_o0_a q_o0_home q_o0_aim q_o0_at v_o0_hour v_o0_chance v_o0_seed), (q_o0_ways, .inl (cy 0, 12, .inl v_o0_ways)), (q_o0_kind, .inl (cy 0, 8, .inl u51)), (q_o0_a, .inl (cy 0, 8, .inl u52)), (q_o0_home, .inl (cy 0, 8, .inl u53)), (q_o0_aim, .inl (cy 0, 8, .inl u54)), (q_o0_at, .inl (cy 0, 8, .inl u55))] := hD
              refine lv_goto (tgt := 142) hx hb dX6_readStatement_80 (by decide) ?_
              have hg0 := Option.some.inj hf
              obtain ⟨ee0, hg1⟩ := Prod.mk.inj hg0
              obtain ⟨ee1, hg2⟩ := Prod.mk.inj hg1
              obtain ⟨ee2, hg3⟩ := Prod.mk.inj hg2
              obtain ⟨ee3, hg4⟩ := Prod.mk.inj hg3
              obtain ⟨ee4, hg5⟩ := Prod.mk.inj hg4
              obtain ⟨ee5, hg6⟩ := Prod.mk.inj hg5
              obtain ⟨ee6, hg7⟩ := Prod.mk.inj hg6
              obtain ⟨ee7, hg8⟩ := Prod.mk.inj hg7
              obtain ⟨ee8, hg9⟩ := Prod.mk.inj hg8
              obtain ⟨ee9, hg10⟩ := Prod.mk.inj hg9
              obtain ⟨ee10, hg11⟩ := Prod.mk.inj hg10
              obtain ⟨ee11, hg12⟩ := Prod.mk.inj hg11
              obtain ⟨ee12, hg13⟩ := Prod.mk.inj hg12
              obtain ⟨ee13, hg14⟩ := Prod.mk.inj hg13
              clear hf hg0 hg1 hg2 hg3 hg4 hg5 hg6 hg7 hg8 hg9 hg10 hg11 hg12 hg13
              subst ee0
              subst ee1
              subst ee2
              subst ee3
              subst ee4
              subst ee5
              subst ee6
              subst ee7
              subst ee8
              subst ee9
              subst ee10
              subst ee11
              subst ee12
              subst ee13
              subst hg14
              exact W.vret hx hb hr (fun t ht hW => ⟨⟨(), rfl, trivial, xend ht hP⟩, hS.F ht⟩) hS.2.2 dX6_readStatement_142
      · have hf := ifF hf c66
        clear c66
        refine lv_aload_n hx hb dX6_readStatement_48 rfl (lv_at hl 0 rfl) ?_
        refine lv_aload_n hx hb dX6_readStatement_49 rfl (lv_at hl 1 rfl) ?_
        refine lv_iconst (v := 0) hx hb dX6_readStatement_50 (by decide) ?_
        obtain ⟨u59, u60, u61, u62, u63, u64, hr65, hf⟩ := boE6 hf
        have hPc := hP.sub (ws' := [(q_t, oX6 q_t_tape v_t_fault u1 u2 u3 u4), (q_t_tape, oX4 q_t_tape_bytes v_t_tape_size), (q_t_tape_bytes, .inl (cy 0, 250, .inl v_t_tape_bytes)), (q_o0, oX5 v_o0_places q_o0_ways q_o0_distances v_o0_people q_o0_kind q_o0_a q_o0_home q_o0_aim q_o0_at v_o0_hour v_o0_chance v_o0_seed), (q_o0_ways, .inl (cy 0, 12, .inl v_o0_ways))]) [0, 1, 2, 3, 4] rfl
        have hDc := hD.sub (ws' := [(q_t, oX6 q_t_tape v_t_fault u1 u2 u3 u4), (q_t_tape, oX4 q_t_tape_bytes v_t_tape_size), (q_t_tape_bytes, .inl (cy 0, 250, .inl v_t_tape_bytes)), (q_o0, oX5 v_o0_places q_o0_ways q_o0_distances v_o0_people q_o0_kind q_o0_a q_o0_home q_o0_aim q_o0_at v_o0_hour v_o0_chance v_o0_seed), (q_o0_ways, .inl (cy 0, 12, .inl v_o0_ways))]) [0, 1, 2, 3, 4] (by decide) rfl
        refine xcQv (w1 := [(q_t, oX6 q_t_tape u59 u60 u61 u62 u63), (q_t_tape, oX4 q_t_tape_bytes v_t_tape_size), (q_t_tape_bytes, .inl (cy 0, 250, .inl v_t_tape_bytes)), (q_o0, oX5 v_o0_places q_o0_ways q_o0_distances v_o0_people q_o0_kind q_o0_a q_o0_home q_o0_aim q_o0_at v_o0_hour v_o0_chance v_o0_seed), (q_o0_ways, .inl (cy 0, 12, .inl u64))]) (va_runV (As := [.ref q_o0, .int (0 : Int32)]) (rest := []) ⟨hx, hb, hml, hown, hts⟩ (mX6_readWay l D cy q_t q_o0 q_t_tape q_t_tape_bytes q_o0_ways q_o0_distances q_o0_kind q_o0_a q_o0_home q_o0_aim q_o0_at v_t_fault u1 u2 u3 u4 v_t_tape_size v_t_tape_bytes v_o0_places v_o0_people v_o0_hour v_o0_chance v_o0_seed v_o0_ways _ (0 : Int32) hr65) (cwV 2 hts gX6_readStatement_X6_readWay rfl rfl rfl (by decide +kernel) ⟨Nat.le_of_ble_eq_true rfl, Nat.le_of_ble_eq_true rfl⟩) (xPVw hK hPc hDc (ci := 6) (q0 := 0) rfl rfl) rfl rfl hl.1 rfl (lv_room (Nat.le_of_ble_eq_true rfl)) dX6_readStatement_51 ⟨Nat.le_of_ble_eq_true rfl, Nat.le_of_ble_eq_true rfl⟩) hP hD hS hA [0, 1, 2, 3, 4] rfl rfl (fun H locs hP hD hS => ?_)
        have hP : va_P D vwCl [(q_t, oX6 q_t_tape u59 u60 u61 u62 u63), (q_t_tape, oX4 q_t_tape_bytes v_t_tape_size), (q_t_tape_bytes, .inl (cy 0, 250, .inl v_t_tape_bytes)), (q_o0, oX5 v_o0_places q_o0_ways q_o0_distances v_o0_people q_o0_kind q_o0_a q_o0_home q_o0_aim q_o0_at v_o0_hour v_o0_chance v_o0_seed), (q_o0_ways, .inl (cy 0, 12, .inl u64)), (q_o0_kind, .inl (cy 0, 8, .inl v_o0_kind)), (q_o0_a, .inl (cy 0, 8, .inl v_o0_a)), (q_o0_home, .inl (cy 0, 8, .inl v_o0_home)), (q_o0_aim, .inl (cy 0, 8, .inl v_o0_aim)), (q_o0_at, .inl (cy 0, 8, .inl v_o0_at))] H := hP
        have hD : va_D A [(q_t, oX6 q_t_tape u59 u60 u61 u62 u63), (q_t_tape, oX4 q_t_tape_bytes v_t_tape_size), (q_t_tape_bytes, .inl (cy 0, 250, .inl v_t_tape_bytes)), (q_o0, oX5 v_o0_places q_o0_ways q_o0_distances v_o0_people q_o0_kind q_o0_a q_o0_home q_o0_aim q_o0_at v_o0_hour v_o0_chance v_o0_seed), (q_o0_ways, .inl (cy 0, 12, .inl u64)), (q_o0_kind, .inl (cy 0, 8, .inl v_o0_kind)), (q_o0_a, .inl (cy 0, 8, .inl v_o0_a)), (q_o0_home, .inl (cy 0, 8, .inl v_o0_home)), (q_o0_aim, .inl (cy 0, 8, .inl v_o0_aim)), (q_o0_at, .inl (cy 0, 8, .inl v_o0_at))] := hD
        refine lv_goto (tgt := 142) hx hb dX6_readStatement_54 (by decide) ?_
        have hg0 := Option.some.inj hf
        obtain ⟨ee0, hg1⟩ := Prod.mk.inj hg0
        obtain ⟨ee1, hg2⟩ := Prod.mk.inj hg1
        obtain ⟨ee2, hg3⟩ := Prod.mk.inj hg2
        obtain ⟨ee3, hg4⟩ := Prod.mk.inj hg3
        obtain ⟨ee4, hg5⟩ := Prod.mk.inj hg4
        obtain ⟨ee5, hg6⟩ := Prod.mk.inj hg5
        obtain ⟨ee6, hg7⟩ := Prod.mk.inj hg6
        obtain ⟨ee7, hg8⟩ := Prod.mk.inj hg7
        obtain ⟨ee8, hg9⟩ := Prod.mk.inj hg8
        obtain ⟨ee9, hg10⟩ := Prod.mk.inj hg9
        obtain ⟨ee10, hg11⟩ := Prod.mk.inj hg10
        obtain ⟨ee11, hg12⟩ := Prod.mk.inj hg11
        obtain ⟨ee12, hg13⟩ := Prod.mk.inj hg12
        obtain ⟨ee13, hg14⟩ := Prod.mk.inj hg13
        clear hf hg0 hg1 hg2 hg3 hg4 hg5 hg6 hg7 hg8 hg9 hg10 hg11 hg12 hg13
        subst ee0
        subst ee1
        subst ee2
        subst ee3
        subst ee4
        subst ee5
        subst ee6
        subst ee7
        subst ee8
        subst ee9
        subst ee10
        subst ee11
        subst ee12
        subst ee13
        subst hg14
        exact W.vret hx hb hr (fun t ht hW => ⟨⟨(), rfl, trivial, xend ht hP⟩, hS.F ht⟩) hS.2.2 dX6_readStatement_142
    · have hf := ifF hf c74
      clear c74
      refine lv_aload_n hx hb dX6_readStatement_30 rfl (lv_at hl 0 rfl) ?_
      refine lv_aload_n hx hb dX6_readStatement_31 rfl (lv_at hl 1 rfl) ?_
      refine lv_iconst (v := 1) hx hb dX6_readStatement_32 (by decide) ?_
      obtain ⟨u67, u68, u69, u70, u71, u72, hr73, hf⟩ := boE6 hf
      have hPc := hP.sub (ws' := [(q_t, oX6 q_t_tape v_t_fault u1 u2 u3 u4), (q_t_tape, oX4 q_t_tape_bytes v_t_tape_size), (q_t_tape_bytes, .inl (cy 0, 250, .inl v_t_tape_bytes)), (q_o0, oX5 v_o0_places q_o0_ways q_o0_distances v_o0_people q_o0_kind q_o0_a q_o0_home q_o0_aim q_o0_at v_o0_hour v_o0_chance v_o0_seed), (q_o0_ways, .inl (cy 0, 12, .inl v_o0_ways))]) [0, 1, 2, 3, 4] rfl
      have hDc := hD.sub (ws' := [(q_t, oX6 q_t_tape v_t_fault u1 u2 u3 u4), (q_t_tape, oX4 q_t_tape_bytes v_t_tape_size), (q_t_tape_bytes, .inl (cy 0, 250, .inl v_t_tape_bytes)), (q_o0, oX5 v_o0_places q_o0_ways q_o0_distances v_o0_people q_o0_kind q_o0_a q_o0_home q_o0_aim q_o0_at v_o0_hour v_o0_chance v_o0_seed), (q_o0_ways, .inl (cy 0, 12, .inl v_o0_ways))]) [0, 1, 2, 3, 4] (by decide) rfl
      refine xcQv (w1 := [(q_t, oX6 q_t_tape u67 u68 u69 u70 u71), (q_t_tape, oX4 q_t_tape_bytes v_t_tape_size), (q_t_tape_bytes, .inl (cy 0, 250, .inl v_t_tape_bytes)), (q_o0, oX5 v_o0_places q_o0_ways q_o0_distances v_o0_people q_o0_kind q_o0_a q_o0_home q_o0_aim q_o0_at v_o0_hour v_o0_chance v_o0_seed), (q_o0_ways, .inl (cy 0, 12, .inl u72))]) (va_runV (As := [.ref q_o0, .int (1 : Int32)]) (rest := []) ⟨hx, hb, hml, hown, hts⟩ (mX6_readWay l D cy q_t q_o0 q_t_tape q_t_tape_bytes q_o0_ways q_o0_distances q_o0_kind q_o0_a q_o0_home q_o0_aim q_o0_at v_t_fault u1 u2 u3 u4 v_t_tape_size v_t_tape_bytes v_o0_places v_o0_people v_o0_hour v_o0_chance v_o0_seed v_o0_ways _ (1 : Int32) hr73) (cwV 2 hts gX6_readStatement_X6_readWay rfl rfl rfl (by decide +kernel) ⟨Nat.le_of_ble_eq_true rfl, Nat.le_of_ble_eq_true rfl⟩) (xPVw hK hPc hDc (ci := 6) (q0 := 0) rfl rfl) rfl rfl hl.1 rfl (lv_room (Nat.le_of_ble_eq_true rfl)) dX6_readStatement_33 ⟨Nat.le_of_ble_eq_true rfl, Nat.le_of_ble_eq_true rfl⟩) hP hD hS hA [0, 1, 2, 3, 4] rfl rfl (fun H locs hP hD hS => ?_)
      have hP : va_P D vwCl [(q_t, oX6 q_t_tape u67 u68 u69 u70 u71), (q_t_tape, oX4 q_t_tape_bytes v_t_tape_size), (q_t_tape_bytes, .inl (cy 0, 250, .inl v_t_tape_bytes)), (q_o0, oX5 v_o0_places q_o0_ways q_o0_distances v_o0_people q_o0_kind q_o0_a q_o0_home q_o0_aim q_o0_at v_o0_hour v_o0_chance v_o0_seed), (q_o0_ways, .inl (cy 0, 12, .inl u72)), (q_o0_kind, .inl (cy 0, 8, .inl v_o0_kind)), (q_o0_a, .inl (cy 0, 8, .inl v_o0_a)), (q_o0_home, .inl (cy 0, 8, .inl v_o0_home)), (q_o0_aim, .inl (cy 0, 8, .inl v_o0_aim)), (q_o0_at, .inl (cy 0, 8, .inl v_o0_at))] H := hP
      have hD : va_D A [(q_t, oX6 q_t_tape u67 u68 u69 u70 u71), (q_t_tape, oX4 q_t_tape_bytes v_t_tape_size), (q_t_tape_bytes, .inl (cy 0, 250, .inl v_t_tape_bytes)), (q_o0, oX5 v_o0_places q_o0_ways q_o0_distances v_o0_people q_o0_kind q_o0_a q_o0_home q_o0_aim q_o0_at v_o0_hour v_o0_chance v_o0_seed), (q_o0_ways, .inl (cy 0, 12, .inl u72)), (q_o0_kind, .inl (cy 0, 8, .inl v_o0_kind)), (q_o0_a, .inl (cy 0, 8, .inl v_o0_a)), (q_o0_home, .inl (cy 0, 8, .inl v_o0_home)), (q_o0_aim, .inl (cy 0, 8, .inl v_o0_aim)), (q_o0_at, .inl (cy 0, 8, .inl v_o0_at))] := hD
      refine lv_goto (tgt := 142) hx hb dX6_readStatement_36 (by decide) ?_
      have hg0 := Option.some.inj hf
      obtain ⟨ee0, hg1⟩ := Prod.mk.inj hg0
      obtain ⟨ee1, hg2⟩ := Prod.mk.inj hg1
      obtain ⟨ee2, hg3⟩ := Prod.mk.inj hg2
      obtain ⟨ee3, hg4⟩ := Prod.mk.inj hg3
      obtain ⟨ee4, hg5⟩ := Prod.mk.inj hg4
      obtain ⟨ee5, hg6⟩ := Prod.mk.inj hg5
      obtain ⟨ee6, hg7⟩ := Prod.mk.inj hg6
      obtain ⟨ee7, hg8⟩ := Prod.mk.inj hg7
      obtain ⟨ee8, hg9⟩ := Prod.mk.inj hg8
      obtain ⟨ee9, hg10⟩ := Prod.mk.inj hg9
      obtain ⟨ee10, hg11⟩ := Prod.mk.inj hg10
      obtain ⟨ee11, hg12⟩ := Prod.mk.inj hg11
      obtain ⟨ee12, hg13⟩ := Prod.mk.inj hg12
      obtain ⟨ee13, hg14⟩ := Prod.mk.inj hg13
      clear hf hg0 hg1 hg2 hg3 hg4 hg5 hg6 hg7 hg8 hg9 hg10 hg11 hg12 hg13
      subst ee0
      subst ee1
      subst ee2
      subst ee3
      subst ee4
      subst ee5
      subst ee6
      subst ee7
      subst ee8
      subst ee9
      subst ee10
      subst ee11
      subst ee12
      subst ee13
      subst hg14
      exact W.vret hx hb hr (fun t ht hW => ⟨⟨(), rfl, trivial, xend ht hP⟩, hS.F ht⟩) hS.2.2 dX6_readStatement_142
  · have hf := ifF hf c82
    clear c82
    refine lv_aload_n hx hb dX6_readStatement_13 rfl (lv_at hl 0 rfl) ?_
    refine lv_aload_n hx hb dX6_readStatement_14 rfl (lv_at hl 1 rfl) ?_
    obtain ⟨u75, u76, u77, u78, u79, u80, hr81, hf⟩ := boE6 hf
    have hPc := hP.sub (ws' := [(q_t, oX6 q_t_tape v_t_fault u1 u2 u3 u4), (q_t_tape, oX4 q_t_tape_bytes v_t_tape_size), (q_t_tape_bytes, .inl (cy 0, 250, .inl v_t_tape_bytes)), (q_o0, oX5 v_o0_places q_o0_ways q_o0_distances v_o0_people q_o0_kind q_o0_a q_o0_home q_o0_aim q_o0_at v_o0_hour v_o0_chance v_o0_seed)]) [0, 1, 2, 3] rfl
    have hDc := hD.sub (ws' := [(q_t, oX6 q_t_tape v_t_fault u1 u2 u3 u4), (q_t_tape, oX4 q_t_tape_bytes v_t_tape_size), (q_t_tape_bytes, .inl (cy 0, 250, .inl v_t_tape_bytes)), (q_o0, oX5 v_o0_places q_o0_ways q_o0_distances v_o0_people q_o0_kind q_o0_a q_o0_home q_o0_aim q_o0_at v_o0_hour v_o0_chance v_o0_seed)]) [0, 1, 2, 3] (by decide) rfl
    refine xcQv (w1 := [(q_t, oX6 q_t_tape u75 u76 u77 u78 u79), (q_t_tape, oX4 q_t_tape_bytes v_t_tape_size), (q_t_tape_bytes, .inl (cy 0, 250, .inl v_t_tape_bytes)), (q_o0, oX5 u80 q_o0_ways q_o0_distances v_o0_people q_o0_kind q_o0_a q_o0_home q_o0_aim q_o0_at v_o0_hour v_o0_chance v_o0_seed)]) (va_runV (As := [.ref q_o0]) (rest := []) ⟨hx, hb, hml, hown, hts⟩ (mX6_readPlaces l D cy q_t q_o0 q_t_tape q_t_tape_bytes q_o0_ways q_o0_distances q_o0_kind q_o0_a q_o0_home q_o0_aim q_o0_at v_t_fault u1 u2 u3 u4 v_t_tape_size v_t_tape_bytes v_o0_places v_o0_people v_o0_hour v_o0_chance v_o0_seed _  hr81) (cwV 1 hts gX6_readStatement_X6_readPlaces rfl rfl rfl (by decide +kernel) ⟨Nat.le_of_ble_eq_true rfl, Nat.le_of_ble_eq_true rfl⟩) (xPVw hK hPc hDc (ci := 6) (q0 := 0) rfl rfl) rfl rfl hl.1 rfl (lv_room (Nat.le_of_ble_eq_true rfl)) dX6_readStatement_15 ⟨Nat.le_of_ble_eq_true rfl, Nat.le_of_ble_eq_true rfl⟩) hP hD hS hA [0, 1, 2, 3] rfl rfl (fun H locs hP hD hS => ?_)
    have hP : va_P D vwCl [(q_t, oX6 q_t_tape u75 u76 u77 u78 u79), (q_t_tape, oX4 q_t_tape_bytes v_t_tape_size), (q_t_tape_bytes, .inl (cy 0, 250, .inl v_t_tape_bytes)), (q_o0, oX5 u80 q_o0_ways q_o0_distances v_o0_people q_o0_kind q_o0_a q_o0_home q_o0_aim q_o0_at v_o0_hour v_o0_chance v_o0_seed), (q_o0_ways, .inl (cy 0, 12, .inl v_o0_ways)), (q_o0_kind, .inl (cy 0, 8, .inl v_o0_kind)), (q_o0_a, .inl (cy 0, 8, .inl v_o0_a)), (q_o0_home, .inl (cy 0, 8, .inl v_o0_home)), (q_o0_aim, .inl (cy 0, 8, .inl v_o0_aim)), (q_o0_at, .inl (cy 0, 8, .inl v_o0_at))] H := hP
    have hD : va_D A [(q_t, oX6 q_t_tape u75 u76 u77 u78 u79), (q_t_tape, oX4 q_t_tape_bytes v_t_tape_size), (q_t_tape_bytes, .inl (cy 0, 250, .inl v_t_tape_bytes)), (q_o0, oX5 u80 q_o0_ways q_o0_distances v_o0_people q_o0_kind q_o0_a q_o0_home q_o0_aim q_o0_at v_o0_hour v_o0_chance v_o0_seed), (q_o0_ways, .inl (cy 0, 12, .inl v_o0_ways)), (q_o0_kind, .inl (cy 0, 8, .inl v_o0_kind)), (q_o0_a, .inl (cy 0, 8, .inl v_o0_a)), (q_o0_home, .inl (cy 0, 8, .inl v_o0_home)), (q_o0_aim, .inl (cy 0, 8, .inl v_o0_aim)), (q_o0_at, .inl (cy 0, 8, .inl v_o0_at))] := hD
    refine lv_goto (tgt := 142) hx hb dX6_readStatement_18 (by decide) ?_
    have hg0 := Option.some.inj hf
    obtain ⟨ee0, hg1⟩ := Prod.mk.inj hg0
    obtain ⟨ee1, hg2⟩ := Prod.mk.inj hg1
    obtain ⟨ee2, hg3⟩ := Prod.mk.inj hg2
    obtain ⟨ee3, hg4⟩ := Prod.mk.inj hg3
    obtain ⟨ee4, hg5⟩ := Prod.mk.inj hg4
    obtain ⟨ee5, hg6⟩ := Prod.mk.inj hg5
    obtain ⟨ee6, hg7⟩ := Prod.mk.inj hg6
    obtain ⟨ee7, hg8⟩ := Prod.mk.inj hg7
    obtain ⟨ee8, hg9⟩ := Prod.mk.inj hg8
    obtain ⟨ee9, hg10⟩ := Prod.mk.inj hg9
    obtain ⟨ee10, hg11⟩ := Prod.mk.inj hg10
    obtain ⟨ee11, hg12⟩ := Prod.mk.inj hg11
    obtain ⟨ee12, hg13⟩ := Prod.mk.inj hg12
    obtain ⟨ee13, hg14⟩ := Prod.mk.inj hg13
    clear hf hg0 hg1 hg2 hg3 hg4 hg5 hg6 hg7 hg8 hg9 hg10 hg11 hg12 hg13
    subst ee0
    subst ee1
    subst ee2
    subst ee3
    subst ee4
    subst ee5
    subst ee6
    subst ee7
    subst ee8
    subst ee9
    subst ee10
    subst ee11
    subst ee12
    subst ee13
    subst hg14
    exact W.vret hx hb hr (fun t ht hW => ⟨⟨(), rfl, trivial, xend ht hP⟩, hS.F ht⟩) hS.2.2 dX6_readStatement_142
