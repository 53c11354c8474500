def fX6_readTown (v_t_token : Int32) (v_t_start : Int32) (v_t_value : Int32) (v_t_tape_size : Int32) (v_t_tape_bytes : Nat → Int32) (v_o0_places : Int32) (v_o0_people : Int32) (v_o0_hour : Int32) (v_o0_chance : Int32) (v_o0_ways : Nat → Int32) (v_o0_kind : Nat → Int32) (v_o0_a : Nat → Int32) (v_o0_home : Nat → Int32) (v_o0_aim : Nat → Int32) (v_o0_at : Nat → Int32) : Option (Int32 × Int32 × Int32 × Int32 × Int32 × Int32 × Int32 × Int32 × Int32 × Int32 × (Nat → Int32) × (Nat → Int32) × (Nat → Int32) × (Nat → Int32) × (Nat → Int32) × (Nat → Int32)) :=
  lo17 (fun g18 (x1 : Int32) (x2 : Int32) (u3 : Int32) (u4 : Int32) (u5 : Int32) (u6 : Int32) (u7 : Int32) (u8 : Int32) (u9 : Int32) (u10 : Int32) (u11 : Int32) (u12 : Nat → Int32) (u13 : Nat → Int32) (u14 : Nat → Int32) (u15 : Nat → Int32) (u16 : Nat → Int32) (u17 : Nat → Int32) =>
    if (250 : Int32) < x2 then
      some (x1, u3, u4, u5, u6, u7, u8, u9, u10, u11, u12, u13, u14, u15, u16, u17)
    else
      bo15 (fX6_readStatement u3 u4 u7 v_t_tape_size v_t_tape_bytes u8 u9 u10 u11 u12 u13 u14 u15 u16 u17) fun u19 u20 u21 u22 u23 u24 u25 u26 u27 u28 u29 u30 u31 u32 u33 =>
      if u19 = (-1 : Int32) then
        vlet (x1 + (1 : Int32)) fun x35 =>
        bo4 (fX6_takeToken u20 u23 v_t_tape_size v_t_tape_bytes) fun u36 u37 u38 u39 =>
        if u37 = 0 then
          some (x35, u19, u36, u37, u38, u39, u24, u25, u26, u27, u28, u29, u30, u31, u32, u33)
        else
          if u37 = (3 : Int32) then
            vlet (x2 + (1 : Int32)) fun x41 =>
            g18 x35 x41 u19 u36 u37 u38 u39 u24 u25 u26 u27 u28 u29 u30 u31 u32 u33
          else
            some (x35, u38, u36, u37, u38, u39, u24, u25, u26, u27, u28, u29, u30, u31, u32, u33)
      else
        some (x1, u19, u20, u21, u22, u23, u24, u25, u26, u27, u28, u29, u30, u31, u32, u33)) 400 (0 : Int32) (0 : Int32) (-1 : Int32) (0 : Int32) v_t_token v_t_start v_t_value v_o0_places v_o0_people v_o0_hour v_o0_chance v_o0_ways v_o0_kind v_o0_a v_o0_home v_o0_aim v_o0_at
set_option maxHeartbeats 4000000 in
set_option maxRecDepth 100000 in
theorem mX6_readTown (l : Launch) (D : va_G) (cy : Nat → ClassId) (q_t q_o0 q_t_tape q_t_tape_bytes q_o0_ways q_o0_distances q_o0_kind q_o0_a q_o0_home q_o0_aim q_o0_at : Nat) (adK adV : Nat → Nat) (v_t_fault : Int32) (v_t_position : Int32) (v_t_token : Int32) (v_t_start : Int32) (v_t_value : Int32) (v_t_tape_size : Int32) (v_t_tape_bytes : Nat → Int32) (v_o0_places : Int32) (v_o0_people : Int32) (v_o0_hour : Int32) (v_o0_chance : Int32) (v_o0_seed : Int32) (v_o0_ways : Nat → Int32) (v_o0_kind : Nat → Int32) (v_o0_a : Nat → Int32) (v_o0_home : Nat → Int32) (v_o0_aim : Nat → Int32) (v_o0_at : Nat → Int32) (sz : Nat) {r_ : Int32} {n_t_fault : Int32} {n_t_position : Int32} {n_t_token : Int32} {n_t_start : Int32} {n_t_value : Int32} {n_o0_places : Int32} {n_o0_people : Int32} {n_o0_hour : Int32} {n_o0_chance : Int32} {n_o0_ways : Nat → Int32} {n_o0_kind : Nat → Int32} {n_o0_a : Nat → Int32} {n_o0_home : Nat → Int32} {n_o0_aim : Nat → Int32} {n_o0_at : Nat → Int32} (hf : fX6_readTown v_t_token v_t_start v_t_value v_t_tape_size v_t_tape_bytes v_o0_places v_o0_people v_o0_hour v_o0_chance v_o0_ways v_o0_kind v_o0_a v_o0_home v_o0_aim v_o0_at = some (r_, n_t_fault, n_t_position, n_t_token, n_t_start, n_t_value, n_o0_places, n_o0_people, n_o0_hour, n_o0_chance, n_o0_ways, n_o0_kind, n_o0_a, n_o0_home, n_o0_aim, n_o0_at)) : Met l yX6_readTown wsX6_readTown ({ frames := 6, cells := 0, slots := 0, locals := 130 }) (va_Pc [.ref q_t, .ref q_o0] (fun U => U.heap.size = sz ∧ va_P D vwCl [(q_t, oX6 q_t_tape v_t_fault v_t_position v_t_token v_t_start v_t_value), (q_t_tape, oX4 q_t_tape_bytes v_t_tape_size), (q_t_tape_bytes, .inl (cy 0, 250, .inl v_t_tape_bytes)), (q_o0, oX5 v_o0_places q_o0_ways q_o0_distances v_o0_people q_o0_kind q_o0_a q_o0_home q_o0_aim q_o0_at v_o0_hour v_o0_chance v_o0_seed), (q_o0_ways, .inl (cy 0, 12, .inl v_o0_ways)), (q_o0_kind, .inl (cy 0, 8, .inl v_o0_kind)), (q_o0_a, .inl (cy 0, 8, .inl v_o0_a)), (q_o0_home, .inl (cy 0, 8, .inl v_o0_home)), (q_o0_aim, .inl (cy 0, 8, .inl v_o0_aim)), (q_o0_at, .inl (cy 0, 8, .inl v_o0_at))] U.heap ∧ xK D cy U ∧ va_D (fun _ => True) [(q_t, oX6 q_t_tape v_t_fault v_t_position v_t_token v_t_start v_t_value), (q_t_tape, oX4 q_t_tape_bytes v_t_tape_size), (q_t_tape_bytes, .inl (cy 0, 250, .inl v_t_tape_bytes)), (q_o0, oX5 v_o0_places q_o0_ways q_o0_distances v_o0_people q_o0_kind q_o0_a q_o0_home q_o0_aim q_o0_at v_o0_hour v_o0_chance v_o0_seed), (q_o0_ways, .inl (cy 0, 12, .inl v_o0_ways)), (q_o0_kind, .inl (cy 0, 8, .inl v_o0_kind)), (q_o0_a, .inl (cy 0, 8, .inl v_o0_a)), (q_o0_home, .inl (cy 0, 8, .inl v_o0_home)), (q_o0_aim, .inl (cy 0, 8, .inl v_o0_aim)), (q_o0_at, .inl (cy 0, 8, .inl v_o0_at))] ∧ xStr adK adV (va_A [(q_t, oX6 q_t_tape v_t_fault v_t_position v_t_token v_t_start v_t_value), (q_t_tape, oX4 q_t_tape_bytes v_t_tape_size), (q_t_tape_bytes, .inl (cy 0, 250, .inl v_t_tape_bytes)), (q_o0, oX5 v_o0_places q_o0_ways q_o0_distances v_o0_people q_o0_kind q_o0_a q_o0_home q_o0_aim q_o0_at v_o0_hour v_o0_chance v_o0_seed), (q_o0_ways, .inl (cy 0, 12, .inl v_o0_ways)), (q_o0_kind, .inl (cy 0, 8, .inl v_o0_kind)), (q_o0_a, .inl (cy 0, 8, .inl v_o0_a)), (q_o0_home, .inl (cy 0, 8, .inl v_o0_home)), (q_o0_aim, .inl (cy 0, 8, .inl v_o0_aim)), (q_o0_at, .inl (cy 0, 8, .inl v_o0_at))] sz) U U.heap ∧ xRef adK U)) (va_Qi (fun (x : Int32) (_ : Unit) => x = r_) (fun _ t => va_P D vwCl [(q_t, oX6 q_t_tape n_t_fault n_t_position n_t_token n_t_start n_t_value), (q_t_tape, oX4 q_t_tape_bytes v_t_tape_size), (q_t_tape_bytes, .inl (cy 0, 250, .inl v_t_tape_bytes)), (q_o0, oX5 n_o0_places q_o0_ways q_o0_distances n_o0_people q_o0_kind q_o0_a q_o0_home q_o0_aim q_o0_at n_o0_hour n_o0_chance v_o0_seed), (q_o0_ways, .inl (cy 0, 12, .inl n_o0_ways)), (q_o0_kind, .inl (cy 0, 8, .inl n_o0_kind)), (q_o0_a, .inl (cy 0, 8, .inl n_o0_a)), (q_o0_home, .inl (cy 0, 8, .inl n_o0_home)), (q_o0_aim, .inl (cy 0, 8, .inl n_o0_aim)), (q_o0_at, .inl (cy 0, 8, .inl n_o0_at))] t.heap) (va_A [(q_t, oX6 q_t_tape v_t_fault v_t_position v_t_token v_t_start v_t_value), (q_t_tape, oX4 q_t_tape_bytes v_t_tape_size), (q_t_tape_bytes, .inl (cy 0, 250, .inl v_t_tape_bytes)), (q_o0, oX5 v_o0_places q_o0_ways q_o0_distances v_o0_people q_o0_kind q_o0_a q_o0_home q_o0_aim q_o0_at v_o0_hour v_o0_chance v_o0_seed), (q_o0_ways, .inl (cy 0, 12, .inl v_o0_ways)), (q_o0_kind, .inl (cy 0, 8, .inl v_o0_kind)), (q_o0_a, .inl (cy 0, 8, .inl v_o0_a)), (q_o0_home, .inl (cy 0, 8, .inl v_o0_home)), (q_o0_aim, .inl (cy 0, 8, .inl v_o0_aim)), (q_o0_at, .inl (cy 0, 8, .inl v_o0_at))] sz)) 0 0 (va_A [(q_t, oX6 q_t_tape v_t_fault v_t_position v_t_token v_t_start v_t_value), (q_t_tape, oX4 q_t_tape_bytes v_t_tape_size), (q_t_tape_bytes, .inl (cy 0, 250, .inl v_t_tape_bytes)), (q_o0, oX5 v_o0_places q_o0_ways q_o0_distances v_o0_people q_o0_kind q_o0_a q_o0_home q_o0_aim q_o0_at v_o0_hour v_o0_chance v_o0_seed), (q_o0_ways, .inl (cy 0, 12, .inl v_o0_ways)), (q_o0_kind, .inl (cy 0, 8, .inl v_o0_kind)), (q_o0_a, .inl (cy 0, 8, .inl v_o0_a)), (q_o0_home, .inl (cy 0, 8, .inl v_o0_home)), (q_o0_aim, .inl (cy 0, 8, .inl v_o0_aim)), (q_o0_at, .inl (cy 0, 8, .inl v_o0_at))] sz) := by
  refine Met.ofW (cc := cX6_readTown) (maxL := 4) (ret := (some .int)) (by decide) rfl ?_
  intro p e s m args below meth c s₁ B hml hv
  obtain ⟨rfl, hsz, hP, hK, hD0, hE, hR⟩ := hv
  have hx := B.exec
  have hb := B.bytes
  have hr := B.returns
  have hts := atoms_spec (ws := wsX6_readTown) B.pre
  have hown : s.vm.findClass RX6 = some m.cls := findClass_of_methodNamed B.named
  have hlocks := B.notSynchronized
  subst hsz
  have hD := hD0.self (sz := s.heap.size)
  generalize hAe : va_A [(q_t, oX6 q_t_tape v_t_fault v_t_position v_t_token v_t_start v_t_value), (q_t_tape, oX4 q_t_tape_bytes v_t_tape_size), (q_t_tape_bytes, .inl (cy 0, 250, .inl v_t_tape_bytes)), (q_o0, oX5 v_o0_places q_o0_ways q_o0_distances v_o0_people q_o0_kind q_o0_a q_o0_home q_o0_aim q_o0_at v_o0_hour v_o0_chance v_o0_seed), (q_o0_ways, .inl (cy 0, 12, .inl v_o0_ways)), (q_o0_kind, .inl (cy 0, 8, .inl v_o0_kind)), (q_o0_a, .inl (cy 0, 8, .inl v_o0_a)), (q_o0_home, .inl (cy 0, 8, .inl v_o0_home)), (q_o0_aim, .inl (cy 0, 8, .inl v_o0_aim)), (q_o0_at, .inl (cy 0, 8, .inl v_o0_at))] s.heap.size = A at hD hE ⊢
  have hA : ∀ q : Nat, s.heap.size ≤ q → A q := fun q h => by rw [← hAe]; exact Or.inr h
  have hS : va_S A s.heap s.heap [] := va_S.rf
  have hP : va_P D vwCl [(q_t, oX6 q_t_tape v_t_fault v_t_position v_t_token v_t_start v_t_value), (q_t_tape, oX4 q_t_tape_bytes v_t_tape_size), (q_t_tape_bytes, .inl (cy 0, 250, .inl v_t_tape_bytes)), (q_o0, oX5 v_o0_places q_o0_ways q_o0_distances v_o0_people q_o0_kind q_o0_a q_o0_home q_o0_aim q_o0_at v_o0_hour v_o0_chance v_o0_seed), (q_o0_ways, .inl (cy 0, 12, .inl v_o0_ways)), (q_o0_kind, .inl (cy 0, 8, .inl v_o0_kind)), (q_o0_a, .inl (cy 0, 8, .inl v_o0_a)), (q_o0_home, .inl (cy 0, 8, .inl v_o0_home)), (q_o0_aim, .inl (cy 0, 8, .inl v_o0_aim)), (q_o0_at, .inl (cy 0, 8, .inl v_o0_at))] s.heap := hP
  have hinX6 : ∀ w ∈ u_ws RX6 TX6 6, w ∈ wsX6_readTown := by decide +kernel
  have hk22 := hts (.fieldLink RX6 22 "ShowsWhereNobodyIs$TownReader" "position" "I") (by decide +kernel)
  have hk18 := hts (.fieldLink RX6 18 "ShowsWhereNobodyIs$TownReader" "fault" "I") (by decide +kernel)
  have hk32 := hts (.fieldLink RX6 32 "ShowsWhereNobodyIs$TownReader" "token" "I") (by decide +kernel)
  have hk35 := hts (.fieldLink RX6 35 "ShowsWhereNobodyIs$TownReader" "start" "I") (by decide +kernel)
  have hl := lv_entry ([.ref q_t, .ref q_o0]) (n := 4) (Nat.le_of_ble_eq_true rfl)
  rw [lg_entry_eq]
  generalize (lg_sl ([.ref q_t, .ref q_o0]) ++ List.replicate (4 - (lg_sl ([.ref q_t, .ref q_o0])).length) Slot.unset).toArray = ls at hl ⊢
  have hl : lv_has ls 4 [(0, .ref q_t), (1, .ref q_o0)] := hl
  unfold fX6_readTown at hf
  refine lv_aload_n hx hb dX6_readTown_0 rfl (lv_at hl 0 rfl) ?_
  refine lv_iconst (v := 0) hx hb dX6_readTown_1 (by decide) ?_
  refine va_put (D := D) (ci := 6) (v := .int (0 : Int32)) (ty := .int) (C := RX6) (T := TX6) (N := 6) hx hb hts hinX6 tyX6 tyX6_ok nmX6 hown hK.1 hP hD hS 0 rfl rfl 2 (by decide) hk22 (fun _ h9 => h9) rfl (by decide +kernel) rfl rfl (Nat.le_of_ble_eq_true rfl) dX6_readTown_2 (fun H locs hP hD hS => ?_)
  have hP : va_P D vwCl [(q_t, oX6 q_t_tape v_t_fault (0 : Int32) v_t_token v_t_start v_t_value), (q_t_tape, oX4 q_t_tape_bytes v_t_tape_size), (q_t_tape_bytes, .inl (cy 0, 250, .inl v_t_tape_bytes)), (q_o0, oX5 v_o0_places q_o0_ways q_o0_distances v_o0_people q_o0_kind q_o0_a q_o0_home q_o0_aim q_o0_at v_o0_hour v_o0_chance v_o0_seed), (q_o0_ways, .inl (cy 0, 12, .inl v_o0_ways)), (q_o0_kind, .inl (cy 0, 8, .inl v_o0_kind)), (q_o0_a, .inl (cy 0, 8, .inl v_o0_a)), (q_o0_home, .inl (cy 0, 8, .inl v_o0_home)), (q_o0_aim, .inl (cy 0, 8, .inl v_o0_aim)), (q_o0_at, .inl (cy 0, 8, .inl v_o0_at))] H := hP
  have hD : va_D A [(q_t, oX6 q_t_tape v_t_fault (0 : Int32) v_t_token v_t_start v_t_value), (q_t_tape, oX4 q_t_tape_bytes v_t_tape_size), (q_t_tape_bytes, .inl (cy 0, 250, .inl v_t_tape_bytes)), (q_o0, oX5 v_o0_places q_o0_ways q_o0_distances v_o0_people q_o0_kind q_o0_a q_o0_home q_o0_aim q_o0_at v_o0_hour v_o0_chance v_o0_seed), (q_o0_ways, .inl (cy 0, 12, .inl v_o0_ways)), (q_o0_kind, .inl (cy 0, 8, .inl v_o0_kind)), (q_o0_a, .inl (cy 0, 8, .inl v_o0_a)), (q_o0_home, .inl (cy 0, 8, .inl v_o0_home)), (q_o0_aim, .inl (cy 0, 8, .inl v_o0_aim)), (q_o0_at, .inl (cy 0, 8, .inl v_o0_at))] := hD
  refine lv_aload_n hx hb dX6_readTown_5 rfl (lv_at hl 0 rfl) ?_
  refine lv_iconst (v := (-1)) hx hb dX6_readTown_6 (by decide) ?_
  refine va_put (D := D) (ci := 6) (v := .int (-1 : Int32)) (ty := .int) (C := RX6) (T := TX6) (N := 6) hx hb hts hinX6 tyX6 tyX6_ok nmX6 hown hK.1 hP hD hS 0 rfl rfl 1 (by decide) hk18 (fun _ h9 => h9) rfl (by decide +kernel) rfl rfl (Nat.le_of_ble_eq_true rfl) dX6_readTown_7 (fun H locs hP hD hS => ?_)
  have hP : va_P D vwCl [(q_t, oX6 q_t_tape (-1 : Int32) (0 : Int32) v_t_token v_t_start v_t_value), (q_t_tape, oX4 q_t_tape_bytes v_t_tape_size), (q_t_tape_bytes, .inl (cy 0, 250, .inl v_t_tape_bytes)), (q_o0, oX5 v_o0_places q_o0_ways q_o0_distances v_o0_people q_o0_kind q_o0_a q_o0_home q_o0_aim q_o0_at v_o0_hour v_o0_chance v_o0_seed), (q_o0_ways, .inl (cy 0, 12, .inl v_o0_ways)), (q_o0_kind, .inl (cy 0, 8, .inl v_o0_kind)), (q_o0_a, .inl (cy 0, 8, .inl v_o0_a)), (q_o0_home, .inl (cy 0, 8, .inl v_o0_home)), (q_o0_aim, .inl (cy 0, 8, .inl v_o0_aim)), (q_o0_at, .inl (cy 0, 8, .inl v_o0_at))] H := hP
  have hD : va_D A [(q_t, oX6 q_t_tape (-1 : Int32) (0 : Int32) v_t_token v_t_start v_t_value), (q_t_tape, oX4 q_t_tape_bytes v_t_tape_size), (q_t_tape_bytes, .inl (cy 0, 250, .inl v_t_tape_bytes)), (q_o0, oX5 v_o0_places q_o0_ways q_o0_distances v_o0_people q_o0_kind q_o0_a q_o0_home q_o0_aim q_o0_at v_o0_hour v_o0_chance v_o0_seed), (q_o0_ways, .inl (cy 0, 12, .inl v_o0_ways)), (q_o0_kind, .inl (cy 0, 8, .inl v_o0_kind)), (q_o0_a, .inl (cy 0, 8, .inl v_o0_a)), (q_o0_home, .inl (cy 0, 8, .inl v_o0_home)), (q_o0_aim, .inl (cy 0, 8, .inl v_o0_aim)), (q_o0_at, .inl (cy 0, 8, .inl v_o0_at))] := hD
  refine lv_iconst (v := 0) hx hb dX6_readTown_10 (by decide) ?_
  refine lv_istore_n (lv' := [(2, .int (0 : Int32)), (0, .ref q_t), (1, .ref q_o0)]) hx hb dX6_readTown_11 rfl hl (by decide) rfl (fun ls hl => ?_)
  refine lv_iconst (v := 0) hx hb dX6_readTown_12 (by decide) ?_
  refine lv_istore_n (lv' := [(3, .int (0 : Int32)), (2, .int (0 : Int32)), (0, .ref q_t), (1, .ref q_o0)]) hx hb dX6_readTown_13 rfl hl (by decide) rfl (fun ls hl => ?_)
  refine wlw17 14 (fun _ _ _ _ _ _ _ _ _ _ _ _ _ _ _ _ _ => []) (fun (x1 : Int32) (x2 : Int32) (u3 : Int32) (u4 : Int32) (u5 : Int32) (u6 : Int32) (u7 : Int32) (u8 : Int32) (u9 : Int32) (u10 : Int32) (u11 : Int32) (u12 : Nat → Int32) (u13 : Nat → Int32) (u14 : Nat → Int32) (u15 : Nat → Int32) (u16 : Nat → Int32) (u17 : Nat → Int32) H locs ls => va_P D vwCl [(q_t, oX6 q_t_tape u3 u4 u5 u6 u7), (q_t_tape, oX4 q_t_tape_bytes v_t_tape_size), (q_t_tape_bytes, .inl (cy 0, 250, .inl v_t_tape_bytes)), (q_o0, oX5 u8 q_o0_ways q_o0_distances u9 q_o0_kind q_o0_a q_o0_home q_o0_aim q_o0_at u10 u11 v_o0_seed), (q_o0_ways, .inl (cy 0, 12, .inl u12)), (q_o0_kind, .inl (cy 0, 8, .inl u13)), (q_o0_a, .inl (cy 0, 8, .inl u14)), (q_o0_home, .inl (cy 0, 8, .inl u15)), (q_o0_aim, .inl (cy 0, 8, .inl u16)), (q_o0_at, .inl (cy 0, 8, .inl u17))] H ∧ va_D A [(q_t, oX6 q_t_tape u3 u4 u5 u6 u7), (q_t_tape, oX4 q_t_tape_bytes v_t_tape_size), (q_t_tape_bytes, .inl (cy 0, 250, .inl v_t_tape_bytes)), (q_o0, oX5 u8 q_o0_ways q_o0_distances u9 q_o0_kind q_o0_a q_o0_home q_o0_aim q_o0_at u10 u11 v_o0_seed), (q_o0_ways, .inl (cy 0, 12, .inl u12)), (q_o0_kind, .inl (cy 0, 8, .inl u13)), (q_o0_a, .inl (cy 0, 8, .inl u14)), (q_o0_home, .inl (cy 0, 8, .inl u15)), (q_o0_aim, .inl (cy 0, 8, .inl u16)), (q_o0_at, .inl (cy 0, 8, .inl u17))] ∧ va_S A s.heap H locs ∧ lv_has ls 4 [(2, .int x1), (3, .int x2), (0, .ref q_t), (1, .ref q_o0)]) (fun g18 L14 x1 x2 u3 u4 u5 u6 u7 u8 u9 u10 u11 u12 u13 u14 u15 u16 u17 H locs ls hI hf => ?_) 400 (0 : Int32) (0 : Int32) (-1 : Int32) (0 : Int32) v_t_token v_t_start v_t_value v_o0_places v_o0_people v_o0_hour v_o0_chance v_o0_ways v_o0_kind v_o0_a v_o0_home v_o0_aim v_o0_at _ _ ls ⟨hP, hD, hS, lv_sub hl [1, 0, 2, 3] rfl⟩ hf
  obtain ⟨hP, hD, hS, hl⟩ := hI
  refine lv_iload_n hx hb dX6_readTown_14 rfl (lv_at hl 1 rfl) ?_
  refine lv_sipush (v := 250) hx hb dX6_readTown_15 (by decide) ?_
  refine lv_icmp_gt (tgt := 76) hx hb dX6_readTown_18 (by decide) (fun c45 => ?_) (fun c45 => ?_)
  · have hf := ifT hf c45
    clear c45
    refine lv_iload_n hx hb dX6_readTown_76 rfl (lv_at hl 0 rfl) ?_
    have hg0 := Option.some.inj hf
    obtain ⟨ee0, hg1⟩ := Prod.mk.inj hg0
    obtain ⟨ee1, hg2⟩ := Prod.mk.inj hg1
    obtain ⟨ee2, hg3⟩ := Prod.mk.inj hg2
    obtain ⟨ee3, hg4⟩ := Prod.mk.inj hg3
    obtain ⟨ee4, hg5⟩ := Prod.mk.inj hg4
    obtain ⟨ee5, hg6⟩ := Prod.mk.inj hg5
    obtain ⟨ee6, hg7⟩ := Prod.mk.inj hg6
    obtain ⟨ee7, hg8⟩ := Prod.mk.inj hg7
    obtain ⟨ee8, hg9⟩ := Prod.mk.inj hg8
    obtain ⟨ee9, hg10⟩ := Prod.mk.inj hg9
    obtain ⟨ee10, hg11⟩ := Prod.mk.inj hg10
    obtain ⟨ee11, hg12⟩ := Prod.mk.inj hg11
    obtain ⟨ee12, hg13⟩ := Prod.mk.inj hg12
    obtain ⟨ee13, hg14⟩ := Prod.mk.inj hg13
    obtain ⟨ee14, hg15⟩ := Prod.mk.inj hg14
    clear hf hg0 hg1 hg2 hg3 hg4 hg5 hg6 hg7 hg8 hg9 hg10 hg11 hg12 hg13 hg14
    subst ee0
    subst ee1
    subst ee2
    subst ee3
    subst ee4
    subst ee5
    subst ee6
    subst ee7
    subst ee8
    subst ee9
    subst ee10
    subst ee11
    subst ee12
    subst ee13
    subst ee14
    subst hg15
    exact W.iret hx hb hr (fun t ht hW => ⟨⟨_, (), rfl, rfl, xend ht hP⟩, hS.F ht⟩) hS.2.2 dX6_readTown_77
  · have hf := ifF hf c45
    clear c45
    refine lv_aload_n hx hb dX6_readTown_21 rfl (lv_at hl 2 rfl) ?_
    refine lv_aload_n hx hb dX6_readTown_22 rfl (lv_at hl 3 rfl) ?_
    obtain ⟨u19, u20, u21, u22, u23, u24, u25, u26, u27, u28, u29, u30, u31, u32, u33, hr34, hf⟩ := boE15 hf
    have hPc := hP.sub (ws' := [(q_t, oX6 q_t_tape u3 u4 u5 u6 u7), (q_t_tape, oX4 q_t_tape_bytes v_t_tape_size), (q_t_tape_bytes, .inl (cy 0, 250, .inl v_t_tape_bytes)), (q_o0, oX5 u8 q_o0_ways q_o0_distances u9 q_o0_kind q_o0_a q_o0_home q_o0_aim q_o0_at u10 u11 v_o0_seed), (q_o0_ways, .inl (cy 0, 12, .inl u12)), (q_o0_kind, .inl (cy 0, 8, .inl u13)), (q_o0_a, .inl (cy 0, 8, .inl u14)), (q_o0_home, .inl (cy 0, 8, .inl u15)), (q_o0_aim, .inl (cy 0, 8, .inl u16)), (q_o0_at, .inl (cy 0, 8, .inl u17))]) [0, 1, 2, 3, 4, 5, 6, 7, 8, 9] rfl
    have hDc := hD.sub (ws' := [(q_t, oX6 q_t_tape u3 u4 u5 u6 u7), (q_t_tape, oX4 q_t_tape_bytes v_t_tape_size), (q_t_tape_bytes, .inl (cy 0, 250, .inl v_t_tape_bytes)), (q_o0, oX5 u8 q_o0_ways q_o0_distances u9 q_o0_kind q_o0_a q_o0_home q_o0_aim q_o0_at u10 u11 v_o0_seed), (q_o0_ways, .inl (cy 0, 12, .inl u12)), (q_o0_kind, .inl (cy 0, 8, .inl u13)), (q_o0_a, .inl (cy 0, 8, .inl u14)), (q_o0_home, .inl (cy 0, 8, .inl u15)), (q_o0_aim, .inl (cy 0, 8, .inl u16)), (q_o0_at, .inl (cy 0, 8, .inl u17))]) [0, 1, 2, 3, 4, 5, 6, 7, 8, 9] (by decide) rfl
    refine xcQv (w1 := [(q_t, oX6 q_t_tape u19 u20 u21 u22 u23), (q_t_tape, oX4 q_t_tape_bytes v_t_tape_size), (q_t_tape_bytes, .inl (cy 0, 250, .inl v_t_tape_bytes)), (q_o0, oX5 u24 q_o0_ways q_o0_distances u25 q_o0_kind q_o0_a q_o0_home q_o0_aim q_o0_at u26 u27 v_o0_seed), (q_o0_ways, .inl (cy 0, 12, .inl u28)), (q_o0_kind, .inl (cy 0, 8, .inl u29)), (q_o0_a, .inl (cy 0, 8, .inl u30)), (q_o0_home, .inl (cy 0, 8, .inl u31)), (q_o0_aim, .inl (cy 0, 8, .inl u32)), (q_o0_at, .inl (cy 0, 8, .inl u33))]) (va_runV (As := [.ref q_o0]) (rest := []) ⟨hx, hb, hml, hown, hts⟩ (mX6_readStatement l D cy q_t q_o0 q_t_tape q_t_tape_bytes q_o0_ways q_o0_distances q_o0_kind q_o0_a q_o0_home q_o0_aim q_o0_at adK adV u3 u4 u5 u6 u7 v_t_tape_size v_t_tape_bytes u8 u9 u10 u11 v_o0_seed u12 u13 u14 u15 u16 u17 _  hr34) (cwV 1 hts gX6_readTown_X6_readStatement rfl rfl rfl (by decide +kernel) ⟨Nat.le_of_ble_eq_true rfl, Nat.le_of_ble_eq_true rfl⟩) (xPVsw hK hPc hDc ((hE.kept hS.2.1).narrow (va_free hD hS hA [0, 1, 2, 3, 4, 5, 6, 7, 8, 9] rfl)) hR (ci := 6) (q0 := 0) rfl rfl) rfl rfl hl.1 rfl (lv_room (Nat.le_of_ble_eq_true rfl)) dX6_readTown_23 ⟨Nat.le_of_ble_eq_true rfl, Nat.le_of_ble_eq_true rfl⟩) hP hD hS hA [0, 1, 2, 3, 4, 5, 6, 7, 8, 9] rfl rfl (fun H locs hP hD hS => ?_)
    have hP : va_P D vwCl [(q_t, oX6 q_t_tape u19 u20 u21 u22 u23), (q_t_tape, oX4 q_t_tape_bytes v_t_tape_size), (q_t_tape_bytes, .inl (cy 0, 250, .inl v_t_tape_bytes)), (q_o0, oX5 u24 q_o0_ways q_o0_distances u25 q_o0_kind q_o0_a q_o0_home q_o0_aim q_o0_at u26 u27 v_o0_seed), (q_o0_ways, .inl (cy 0, 12, .inl u28)), (q_o0_kind, .inl (cy 0, 8, .inl u29)), (q_o0_a, .inl (cy 0, 8, .inl u30)), (q_o0_home, .inl (cy 0, 8, .inl u31)), (q_o0_aim, .inl (cy 0, 8, .inl u32)), (q_o0_at, .inl (cy 0, 8, .inl u33))] H := hP
    have hD : va_D A [(q_t, oX6 q_t_tape u19 u20 u21 u22 u23), (q_t_tape, oX4 q_t_tape_bytes v_t_tape_size), (q_t_tape_bytes, .inl (cy 0, 250, .inl v_t_tape_bytes)), (q_o0, oX5 u24 q_o0_ways q_o0_distances u25 q_o0_kind q_o0_a q_o0_home q_o0_aim q_o0_at u26 u27 v_o0_seed), (q_o0_ways, .inl (cy 0, 12, .inl u28)), (q_o0_kind, .inl (cy 0, 8, .inl u29)), (q_o0_a, .inl (cy 0, 8, .inl u30)), (q_o0_home, .inl (cy 0, 8, .inl u31)), (q_o0_aim, .inl (cy 0, 8, .inl u32)), (q_o0_at, .inl (cy 0, 8, .inl u33))] := hD
    refine lv_aload_n hx hb dX6_readTown_26 rfl (lv_at hl 2 rfl) ?_
    refine va_get (D := D) (ci := 6) (v := .int u19) (C := RX6) (T := TX6) (N := 6) hx hb hts hinX6 hown hK.1 hP 0 rfl rfl 1 (by decide) hk18 (fun _ h9 => h9) rfl dX6_readTown_27 ?_
    refine lv_iconst (v := (-1)) hx hb dX6_readTown_30 (by decide) ?_
    refine lv_icmp_eq (tgt := 36) hx hb dX6_readTown_31 (by decide) (fun c44 => ?_) (fun c44 => ?_)
    · have hf := ifT hf c44
      clear c44
      obtain ⟨x35, ex35⟩ : ∃ y : Int32, y = x1 + (1 : Int32) := ⟨_, rfl⟩
      have hf := vlE hf ex35
      refine lv_iinc (v := x35) (lv' := [(2, .int x35), (3, .int x2), (0, .ref q_t), (1, .ref q_o0)]) hx hb dX6_readTown_36 hl (k := 0) rfl (by rw [ex35]; rfl) (by decide) rfl (fun ls hl => ?_)
      clear ex35
      refine lv_aload_n hx hb dX6_readTown_39 rfl (lv_at hl 2 rfl) ?_
      obtain ⟨u36, u37, u38, u39, hr40, hf⟩ := boE4 hf
      have hPc := hP.sub (ws' := [(q_t, oX6 q_t_tape u19 u20 u21 u22 u23), (q_t_tape, oX4 q_t_tape_bytes v_t_tape_size), (q_t_tape_bytes, .inl (cy 0, 250, .inl v_t_tape_bytes))]) [0, 1, 2] rfl
      have hDc := hD.sub (ws' := [(q_t, oX6 q_t_tape u19 u20 u21 u22 u23), (q_t_tape, oX4 q_t_tape_bytes v_t_tape_size), (q_t_tape_bytes, .inl (cy 0, 250, .inl v_t_tape_bytes))]) [0, 1, 2] (by decide) rfl
      refine xcQv (w1 := [(q_t, oX6 q_t_tape u19 u36 u37 u38 u39), (q_t_tape, oX4 q_t_tape_bytes v_t_tape_size), (q_t_tape_bytes, .inl (cy 0, 250, .inl v_t_tape_bytes))]) (va_runV (As := []) (rest := []) ⟨hx, hb, hml, hown, hts⟩ (mX6_takeToken l D cy q_t q_t_tape q_t_tape_bytes u19 u20 u21 u22 u23 v_t_tape_size v_t_tape_bytes _  hr40) (cwV 0 hts gX6_readTown_X6_takeToken rfl rfl rfl (by decide +kernel) ⟨Nat.le_of_ble_eq_true rfl, Nat.le_of_ble_eq_true rfl⟩) (xPVw hK hPc hDc (ci := 6) (q0 := 0) rfl rfl) rfl rfl hl.1 rfl (lv_room (Nat.le_of_ble_eq_true rfl)) dX6_readTown_40 ⟨Nat.le_of_ble_eq_true rfl, Nat.le_of_ble_eq_true rfl⟩) hP hD hS hA [0, 1, 2] rfl rfl (fun H locs hP hD hS => ?_)
      have hP : va_P D vwCl [(q_t, oX6 q_t_tape u19 u36 u37 u38 u39), (q_t_tape, oX4 q_t_tape_bytes v_t_tape_size), (q_t_tape_bytes, .inl (cy 0, 250, .inl v_t_tape_bytes)), (q_o0, oX5 u24 q_o0_ways q_o0_distances u25 q_o0_kind q_o0_a q_o0_home q_o0_aim q_o0_at u26 u27 v_o0_seed), (q_o0_ways, .inl (cy 0, 12, .inl u28)), (q_o0_kind, .inl (cy 0, 8, .inl u29)), (q_o0_a, .inl (cy 0, 8, .inl u30)), (q_o0_home, .inl (cy 0, 8, .inl u31)), (q_o0_aim, .inl (cy 0, 8, .inl u32)), (q_o0_at, .inl (cy 0, 8, .inl u33))] H := hP
      have hD : va_D A [(q_t, oX6 q_t_tape u19 u36 u37 u38 u39), (q_t_tape, oX4 q_t_tape_bytes v_t_tape_size), (q_t_tape_bytes, .inl (cy 0, 250, .inl v_t_tape_bytes)), (q_o0, oX5 u24 q_o0_ways q_o0_distances u25 q_o0_kind q_o0_a q_o0_home q_o0_aim q_o0_at u26 u27 v_o0_seed), (q_o0_ways, .inl (cy 0, 12, .inl u28)), (q_o0_kind, .inl (cy 0, 8, .inl u29)), (q_o0_a, .inl (cy 0, 8, .inl u30)), (q_o0_home, .inl (cy 0, 8, .inl u31)), (q_o0_aim, .inl (cy 0, 8, .inl u32)), (q_o0_at, .inl (cy 0, 8, .inl u33))] := hD
      refine lv_aload_n hx hb dX6_readTown_43 rfl (lv_at hl 2 rfl) ?_
      refine va_get (D := D) (ci := 6) (v := .int u37) (C := RX6) (T := TX6) (N := 6) hx hb hts hinX6 hown hK.1 hP 0 rfl rfl 3 (by decide) hk32 (fun _ h9 => h9) rfl dX6_readTown_44 ?_
      refine lv_if_ne (tgt := 52) hx hb dX6_readTown_47 (by decide) (fun c43 => ?_) (fun c43 => ?_)
      · have hf := ifF hf c43
        clear c43
        refine lv_aload_n hx hb dX6_readTown_52 rfl (lv_at hl 2 rfl) ?_
        refine va_get (D := D) (ci := 6) (v := .int u37) (C := RX6) (T := TX6) (N := 6) hx hb hts hinX6 hown hK.1 hP 0 rfl rfl 3 (by decide) hk32 (fun _ h9 => h9) rfl dX6_readTown_53 ?_
        refine lv_iconst (v := 3) hx hb dX6_readTown_56 (by decide) ?_
        refine lv_icmp_eq (tgt := 70) hx hb dX6_readTown_57 (by decide) (fun c42 => ?_) (fun c42 => ?_)
        · have hf := ifT hf c42
          clear c42
          obtain ⟨x41, ex41⟩ : ∃ y : Int32, y = x2 + (1 : Int32) := ⟨_, rfl⟩
          have hf := vlE hf ex41
          refine lv_iinc (v := x41) (lv' := [(3, .int x41), (2, .int x35), (0, .ref q_t), (1, .ref q_o0)]) hx hb dX6_readTown_70 hl (k := 1) rfl (by rw [ex41]; rfl) (by decide) rfl (fun ls hl => ?_)
          clear ex41
          refine lv_goto (tgt := 14) hx hb dX6_readTown_73 (by decide) ?_
          exact L14 x35 x41 u19 u36 u37 u38 u39 u24 u25 u26 u27 u28 u29 u30 u31 u32 u33 _ _ ls ⟨hP, hD, hS, lv_sub hl [1, 0, 2, 3] rfl⟩ hf
        · have hf := ifF hf c42
          clear c42
          refine lv_aload_n hx hb dX6_readTown_60 rfl (lv_at hl 2 rfl) ?_
          refine lv_aload_n hx hb dX6_readTown_61 rfl (lv_at hl 2 rfl) ?_
          refine va_get (D := D) (ci := 6) (v := .int u38) (C := RX6) (T := TX6) (N := 6) hx hb hts hinX6 hown hK.1 hP 0 rfl rfl 4 (by decide) hk35 (fun _ h9 => h9) rfl dX6_readTown_62 ?_
          refine va_put (D := D) (ci := 6) (v := .int u38) (ty := .int) (C := RX6) (T := TX6) (N := 6) hx hb hts hinX6 tyX6 tyX6_ok nmX6 hown hK.1 hP hD hS 0 rfl rfl 1 (by decide) hk18 (fun _ h9 => h9) rfl (by decide +kernel) rfl rfl (Nat.le_of_ble_eq_true rfl) dX6_readTown_65 (fun H locs hP hD hS => ?_)
          have hP : va_P D vwCl [(q_t, oX6 q_t_tape u38 u36 u37 u38 u39), (q_t_tape, oX4 q_t_tape_bytes v_t_tape_size), (q_t_tape_bytes, .inl (cy 0, 250, .inl v_t_tape_bytes)), (q_o0, oX5 u24 q_o0_ways q_o0_distances u25 q_o0_kind q_o0_a q_o0_home q_o0_aim q_o0_at u26 u27 v_o0_seed), (q_o0_ways, .inl (cy 0, 12, .inl u28)), (q_o0_kind, .inl (cy 0, 8, .inl u29)), (q_o0_a, .inl (cy 0, 8, .inl u30)), (q_o0_home, .inl (cy 0, 8, .inl u31)), (q_o0_aim, .inl (cy 0, 8, .inl u32)), (q_o0_at, .inl (cy 0, 8, .inl u33))] H := hP
          have hD : va_D A [(q_t, oX6 q_t_tape u38 u36 u37 u38 u39), (q_t_tape, oX4 q_t_tape_bytes v_t_tape_size), (q_t_tape_bytes, .inl (cy 0, 250, .inl v_t_tape_bytes)), (q_o0, oX5 u24 q_o0_ways q_o0_distances u25 q_o0_kind q_o0_a q_o0_home q_o0_aim q_o0_at u26 u27 v_o0_seed), (q_o0_ways, .inl (cy 0, 12, .inl u28)), (q_o0_kind, .inl (cy 0, 8, .inl u29)), (q_o0_a, .inl (cy 0, 8, .inl u30)), (q_o0_home, .inl (cy 0, 8, .inl u31)), (q_o0_aim, .inl (cy 0, 8, .inl u32)), (q_o0_at, .inl (cy 0, 8, .inl u33))] := hD
          refine lv_iload_n hx hb dX6_readTown_68 rfl (lv_at hl 0 rfl) ?_
          have hg0 := Option.some.inj hf
          obtain ⟨ee0, hg1⟩ := Prod.mk.inj hg0
          obtain ⟨ee1, hg2⟩ := Prod.mk.inj hg1
          obtain ⟨ee2, hg3⟩ := Prod.mk.inj hg2
          obtain ⟨ee3, hg4⟩ := Prod.mk.inj hg3
          obtain ⟨ee4, hg5⟩ := Prod.mk.inj hg4
          obtain ⟨ee5, hg6⟩ := Prod.mk.inj hg5
          obtain ⟨ee6, hg7⟩ := Prod.mk.inj hg6
          obtain ⟨ee7, hg8⟩ := Prod.mk.inj hg7
          obtain ⟨ee8, hg9⟩ := Prod.mk.inj hg8
          obtain ⟨ee9, hg10⟩ := Prod.mk.inj hg9
          obtain ⟨ee10, hg11⟩ := Prod.mk.inj hg10
          obtain ⟨ee11, hg12⟩ := Prod.mk.inj hg11
          obtain ⟨ee12, hg13⟩ := Prod.mk.inj hg12
          obtain ⟨ee13, hg14⟩ := Prod.mk.inj hg13
          obtain ⟨ee14, hg15⟩ := Prod.mk.inj hg14
          clear hf hg0 hg1 hg2 hg3 hg4 hg5 hg6 hg7 hg8 hg9 hg10 hg11 hg12 hg13 hg14
          subst ee0
          subst ee1
          subst ee2
          subst ee3
          subst ee4
          subst ee5
          subst ee6
          subst ee7
          subst ee8
          subst ee9
          subst ee10
          subst ee11
          subst ee12
          subst ee13
          subst ee14
          subst hg15
          exact W.iret hx hb hr (fun t ht hW => ⟨⟨_, (), rfl, rfl, xend ht hP⟩, hS.F ht⟩) hS.2.2 dX6_readTown_69
      · have hf := ifT hf c43
        clear c43
        refine lv_iload_n hx hb dX6_readTown_50 rfl (lv_at hl 0 rfl) ?_
        have hg0 := Option.some.inj hf
        obtain ⟨ee0, hg1⟩ := Prod.mk.inj hg0
        obtain ⟨ee1, hg2⟩ := Prod.mk.inj hg1
        obtain ⟨ee2, hg3⟩ := Prod.mk.inj hg2
        obtain ⟨ee3, hg4⟩ := Prod.mk.inj hg3
        obtain ⟨ee4, hg5⟩ := Prod.mk.inj hg4
        obtain ⟨ee5, hg6⟩ := Prod.mk.inj hg5
        obtain ⟨ee6, hg7⟩ := Prod.mk.inj hg6
        obtain ⟨ee7, hg8⟩ := Prod.mk.inj hg7
        obtain ⟨ee8, hg9⟩ := Prod.mk.inj hg8
        obtain ⟨ee9, hg10⟩ := Prod.mk.inj hg9
        obtain ⟨ee10, hg11⟩ := Prod.mk.inj hg10
        obtain ⟨ee11, hg12⟩ := Prod.mk.inj hg11
        obtain ⟨ee12, hg13⟩ := Prod.mk.inj hg12
        obtain ⟨ee13, hg14⟩ := Prod.mk.inj hg13
        obtain ⟨ee14, hg15⟩ := Prod.mk.inj hg14
        clear hf hg0 hg1 hg2 hg3 hg4 hg5 hg6 hg7 hg8 hg9 hg10 hg11 hg12 hg13 hg14
        subst ee0
        subst ee1
        subst ee2
        subst ee3
        subst ee4
        subst ee5
        subst ee6
        subst ee7
        subst ee8
        subst ee9
        subst ee10
        subst ee11
        subst ee12
        subst ee13
        subst ee14
        subst hg15
        exact W.iret hx hb hr (fun t ht hW => ⟨⟨_, (), rfl, rfl, xend ht hP⟩, hS.F ht⟩) hS.2.2 dX6_readTown_51
    · have hf := ifF hf c44
      clear c44
      refine lv_iload_n hx hb dX6_readTown_34 rfl (lv_at hl 0 rfl) ?_
      have hg0 := Option.some.inj hf
      obtain ⟨ee0, hg1⟩ := Prod.mk.inj hg0
      obtain ⟨ee1, hg2⟩ := Prod.mk.inj hg1
      obtain ⟨ee2, hg3⟩ := Prod.mk.inj hg2
      obtain ⟨ee3, hg4⟩ := Prod.mk.inj hg3
      obtain ⟨ee4, hg5⟩ := Prod.mk.inj hg4
      obtain ⟨ee5, hg6⟩ := Prod.mk.inj hg5
      obtain ⟨ee6, hg7⟩ := Prod.mk.inj hg6
      obtain ⟨ee7, hg8⟩ := Prod.mk.inj hg7
      obtain ⟨ee8, hg9⟩ := Prod.mk.inj hg8
      obtain ⟨ee9, hg10⟩ := Prod.mk.inj hg9
      obtain ⟨ee10, hg11⟩ := Prod.mk.inj hg10
      obtain ⟨ee11, hg12⟩ := Prod.mk.inj hg11
      obtain ⟨ee12, hg13⟩ := Prod.mk.inj hg12
      obtain ⟨ee13, hg14⟩ := Prod.mk.inj hg13
      obtain ⟨ee14, hg15⟩ := Prod.mk.inj hg14
      clear hf hg0 hg1 hg2 hg3 hg4 hg5 hg6 hg7 hg8 hg9 hg10 hg11 hg12 hg13 hg14
      subst ee0
      subst ee1
      subst ee2
      subst ee3
      subst ee4
      subst ee5
      subst ee6
      subst ee7
      subst ee8
      subst ee9
      subst ee10
      subst ee11
      subst ee12
      subst ee13
      subst ee14
      subst hg15
      exact W.iret hx hb hr (fun t ht hW => ⟨⟨_, (), rfl, rfl, xend ht hP⟩, hS.F ht⟩) hS.2.2 dX6_readTown_35
