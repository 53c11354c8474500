def fX8_best (v_t_places : Int32) (v_t_people : Int32) (v_t_hour : Int32) (v_t_now : Int32) (v_t_gone : Int32) (v_t_refused : Nat → Int32) (v_t_ways : Nat → Int32) (v_t_kind : Nat → Int32) (v_t_home : Nat → Int32) (v_t_aim : Nat → Int32) (v_t_at0 : Nat → Int32) (v_t_steps : Nat → Int32) (v_t_spot : Nat → Int32) (v_t_then : Nat → Int32) (p0 : Int32) (p1 : Int32) : Option (Int32 × Int32 × (Nat → Int32) × (Nat → Int32) × (Nat → Int32) × (Nat → Int32) × (Nat → Int32)) :=
  bo1 (fX8_isPerson v_t_people p0) fun r1 =>
  jo0 (
    bo2 (fX8_refuse v_t_refused (-2 : Int32)) fun r4 u5 =>
    some (r4, v_t_now, u5, v_t_at0, v_t_steps, v_t_spot, v_t_then)) fun k3 =>
  if r1 = 0 then
    k3
  else
    bo1 (fX8_isTime p1) fun r7 =>
    if r7 = 0 then
      k3
    else
      if p0 < 0 ∨ 8 ≤ p0.toNatClampNeg then none else
      vlet (v_t_at0 p0.toNatClampNeg) fun x10 =>
      lo8 (fun g19 (x11 : Int32) (x12 : Int32) (x13 : Int32) (u14 : Int32) (u15 : Nat → Int32) (u16 : Nat → Int32) (u17 : Nat → Int32) (u18 : Nat → Int32) =>
        if v_t_places ≤ x13 then
          if p0 < 0 ∨ 8 ≤ p0.toNatClampNeg then none else
          some (x11, u14, v_t_refused, upd u15 p0.toNatClampNeg x10, u16, u17, u18)
        else
          if p0 < 0 ∨ 8 ≤ p0.toNatClampNeg then none else
          bo4 (fX8_goesOn v_t_places v_t_people v_t_hour v_t_gone v_t_ways v_t_kind v_t_home v_t_aim (upd u15 p0.toNatClampNeg x13) u16 u17 u18 p1) fun u22 u23 u24 u25 =>
          bo1 (fX8_light v_t_places v_t_people v_t_gone v_t_kind u24) fun r27 =>
          bo1 (fX8_bits r27) fun r29 =>
          jo1 (fun (y31 : Int32) =>
            jo1 (fun (y33 : Int32) =>
              vlet (x13 + (1 : Int32)) fun x35 =>
              g19 y31 y33 x35 u22 (upd u15 p0.toNatClampNeg x13) u23 u24 u25) fun k34 =>
            if r29 ≤ x12 then
              k34 x12
            else
              k34 r29) fun k32 =>
          if r29 ≤ x12 then
            k32 x11
          else
            k32 x13) 400 (0 : Int32) (-1 : Int32) (0 : Int32) v_t_now v_t_at0 v_t_steps v_t_spot v_t_then
set_option maxHeartbeats 4000000 in
set_option maxRecDepth 100000 in
theorem mX8_best (l : Launch) (D : va_G) (cy : Nat → ClassId) (q_t q_t_shelf q_t_rowSort q_t_rowSize q_t_rows q_t_moved q_t_shown q_t_tape q_t_refused q_t_ways q_t_kind q_t_by q_t_home q_t_aim q_t_at0 q_t_told q_t_steps q_t_spot q_t_then q_t_sights q_t_darkAt q_t_can : Nat) (v_t_tapeSize : Int32) (v_t_places : Int32) (v_t_people : Int32) (v_t_hour : Int32) (v_t_chance : Int32) (v_t_seed : Int32) (w_t_kept : Value) (w_t_tried : Value) (v_t_at : Int32) (v_t_token : Int32) (v_t_from : Int32) (v_t_figures : Int32) (v_t_fault : Int32) (v_t_statements : Int32) (v_t_now : Int32) (v_t_gone : Int32) (v_t_refused : Nat → Int32) (v_t_ways : Nat → Int32) (v_t_kind : Nat → Int32) (v_t_home : Nat → Int32) (v_t_aim : Nat → Int32) (v_t_at0 : Nat → Int32) (v_t_steps : Nat → Int32) (v_t_spot : Nat → Int32) (v_t_then : Nat → Int32) (sz : Nat) (p0 : Int32) (p1 : Int32) {r_ : Int32} {n_t_now : Int32} {n_t_refused : Nat → Int32} {n_t_at0 : Nat → Int32} {n_t_steps : Nat → Int32} {n_t_spot : Nat → Int32} {n_t_then : Nat → Int32} (hf : fX8_best v_t_places v_t_people v_t_hour v_t_now v_t_gone v_t_refused v_t_ways v_t_kind v_t_home v_t_aim v_t_at0 v_t_steps v_t_spot v_t_then p0 p1 = some (r_, n_t_now, n_t_refused, n_t_at0, n_t_steps, n_t_spot, n_t_then)) : Met l yX8_best wsX8_best ({ frames := 5, cells := 0, slots := 0, locals := 112 }) (va_Pc [.ref q_t, .int p0, .int p1] (fun U => U.heap.size = sz ∧ va_P D vwCl [(q_t, oX8 q_t_shelf q_t_rowSort q_t_rowSize q_t_rows q_t_moved q_t_shown q_t_tape v_t_tapeSize q_t_refused v_t_places q_t_ways v_t_people q_t_kind q_t_by q_t_home q_t_aim q_t_at0 v_t_hour v_t_chance v_t_seed w_t_kept w_t_tried v_t_at v_t_token v_t_from v_t_figures v_t_fault q_t_told v_t_statements q_t_steps q_t_spot q_t_then v_t_now v_t_gone q_t_sights q_t_darkAt q_t_can), (q_t_refused, .inl (cy 0, 8, .inl v_t_refused)), (q_t_ways, .inl (cy 0, 12, .inl v_t_ways)), (q_t_kind, .inl (cy 0, 8, .inl v_t_kind)), (q_t_home, .inl (cy 0, 8, .inl v_t_home)), (q_t_aim, .inl (cy 0, 8, .inl v_t_aim)), (q_t_at0, .inl (cy 0, 8, .inl v_t_at0)), (q_t_steps, .inl (cy 0, 12, .inl v_t_steps)), (q_t_spot, .inl (cy 0, 8, .inl v_t_spot)), (q_t_then, .inl (cy 0, 8, .inl v_t_then))] U.heap ∧ xK D cy U ∧ va_D (fun _ => True) [(q_t, oX8 q_t_shelf q_t_rowSort q_t_rowSize q_t_rows q_t_moved q_t_shown q_t_tape v_t_tapeSize q_t_refused v_t_places q_t_ways v_t_people q_t_kind q_t_by q_t_home q_t_aim q_t_at0 v_t_hour v_t_chance v_t_seed w_t_kept w_t_tried v_t_at v_t_token v_t_from v_t_figures v_t_fault q_t_told v_t_statements q_t_steps q_t_spot q_t_then v_t_now v_t_gone q_t_sights q_t_darkAt q_t_can), (q_t_refused, .inl (cy 0, 8, .inl v_t_refused)), (q_t_ways, .inl (cy 0, 12, .inl v_t_ways)), (q_t_kind, .inl (cy 0, 8, .inl v_t_kind)), (q_t_home, .inl (cy 0, 8, .inl v_t_home)), (q_t_aim, .inl (cy 0, 8, .inl v_t_aim)), (q_t_at0, .inl (cy 0, 8, .inl v_t_at0)), (q_t_steps, .inl (cy 0, 12, .inl v_t_steps)), (q_t_spot, .inl (cy 0, 8, .inl v_t_spot)), (q_t_then, .inl (cy 0, 8, .inl v_t_then))])) (va_Qi (fun (x : Int32) (_ : Unit) => x = r_) (fun _ t => va_P D vwCl [(q_t, oX8 q_t_shelf q_t_rowSort q_t_rowSize q_t_rows q_t_moved q_t_shown q_t_tape v_t_tapeSize q_t_refused v_t_places q_t_ways v_t_people q_t_kind q_t_by q_t_home q_t_aim q_t_at0 v_t_hour v_t_chance v_t_seed w_t_kept w_t_tried v_t_at v_t_token v_t_from v_t_figures v_t_fault q_t_told v_t_statements q_t_steps q_t_spot q_t_then n_t_now v_t_gone q_t_sights q_t_darkAt q_t_can), (q_t_refused, .inl (cy 0, 8, .inl n_t_refused)), (q_t_ways, .inl (cy 0, 12, .inl v_t_ways)), (q_t_kind, .inl (cy 0, 8, .inl v_t_kind)), (q_t_home, .inl (cy 0, 8, .inl v_t_home)), (q_t_aim, .inl (cy 0, 8, .inl v_t_aim)), (q_t_at0, .inl (cy 0, 8, .inl n_t_at0)), (q_t_steps, .inl (cy 0, 12, .inl n_t_steps)), (q_t_spot, .inl (cy 0, 8, .inl n_t_spot)), (q_t_then, .inl (cy 0, 8, .inl n_t_then))] t.heap) (va_A [(q_t, oX8 q_t_shelf q_t_rowSort q_t_rowSize q_t_rows q_t_moved q_t_shown q_t_tape v_t_tapeSize q_t_refused v_t_places q_t_ways v_t_people q_t_kind q_t_by q_t_home q_t_aim q_t_at0 v_t_hour v_t_chance v_t_seed w_t_kept w_t_tried v_t_at v_t_token v_t_from v_t_figures v_t_fault q_t_told v_t_statements q_t_steps q_t_spot q_t_then v_t_now v_t_gone q_t_sights q_t_darkAt q_t_can), (q_t_refused, .inl (cy 0, 8, .inl v_t_refused)), (q_t_ways, .inl (cy 0, 12, .inl v_t_ways)), (q_t_kind, .inl (cy 0, 8, .inl v_t_kind)), (q_t_home, .inl (cy 0, 8, .inl v_t_home)), (q_t_aim, .inl (cy 0, 8, .inl v_t_aim)), (q_t_at0, .inl (cy 0, 8, .inl v_t_at0)), (q_t_steps, .inl (cy 0, 12, .inl v_t_steps)), (q_t_spot, .inl (cy 0, 8, .inl v_t_spot)), (q_t_then, .inl (cy 0, 8, .inl v_t_then))] sz)) 0 0 (va_A [(q_t, oX8 q_t_shelf q_t_rowSort q_t_rowSize q_t_rows q_t_moved q_t_shown q_t_tape v_t_tapeSize q_t_refused v_t_places q_t_ways v_t_people q_t_kind q_t_by q_t_home q_t_aim q_t_at0 v_t_hour v_t_chance v_t_seed w_t_kept w_t_tried v_t_at v_t_token v_t_from v_t_figures v_t_fault q_t_told v_t_statements q_t_steps q_t_spot q_t_then v_t_now v_t_gone q_t_sights q_t_darkAt q_t_can), (q_t_refused, .inl (cy 0, 8, .inl v_t_refused)), (q_t_ways, .inl (cy 0, 12, .inl v_t_ways)), (q_t_kind, .inl (cy 0, 8, .inl v_t_kind)), (q_t_home, .inl (cy 0, 8, .inl v_t_home)), (q_t_aim, .inl (cy 0, 8, .inl v_t_aim)), (q_t_at0, .inl (cy 0, 8, .inl v_t_at0)), (q_t_steps, .inl (cy 0, 12, .inl v_t_steps)), (q_t_spot, .inl (cy 0, 8, .inl v_t_spot)), (q_t_then, .inl (cy 0, 8, .inl v_t_then))] sz) := by
  refine Met.ofW (cc := cX8_best) (maxL := 8) (ret := (some .int)) (by decide) rfl ?_
  intro p e s m args below meth c s₁ B hml hv
  obtain ⟨rfl, hsz, hP, hK, hD0⟩ := hv
  have hx := B.exec
  have hb := B.bytes
  have hr := B.returns
  have hts := atoms_spec (ws := wsX8_best) B.pre
  have hown : s.vm.findClass RX8 = some m.cls := findClass_of_methodNamed B.named
  have hlocks := B.notSynchronized
  subst hsz
  have hD := hD0.self (sz := s.heap.size)
  generalize hAe : va_A [(q_t, oX8 q_t_shelf q_t_rowSort q_t_rowSize q_t_rows q_t_moved q_t_shown q_t_tape v_t_tapeSize q_t_refused v_t_places q_t_ways v_t_people q_t_kind q_t_by q_t_home q_t_aim q_t_at0 v_t_hour v_t_chance v_t_seed w_t_kept w_t_tried v_t_at v_t_token v_t_from v_t_figures v_t_fault q_t_told v_t_statements q_t_steps q_t_spot q_t_then v_t_now v_t_gone q_t_sights q_t_darkAt q_t_can), (q_t_refused, .inl (cy 0, 8, .inl v_t_refused)), (q_t_ways, .inl (cy 0, 12, .inl v_t_ways)), (q_t_kind, .inl (cy 0, 8, .inl v_t_kind)), (q_t_home, .inl (cy 0, 8, .inl v_t_home)), (q_t_aim, .inl (cy 0, 8, .inl v_t_aim)), (q_t_at0, .inl (cy 0, 8, .inl v_t_at0)), (q_t_steps, .inl (cy 0, 12, .inl v_t_steps)), (q_t_spot, .inl (cy 0, 8, .inl v_t_spot)), (q_t_then, .inl (cy 0, 8, .inl v_t_then))] s.heap.size = A at hD ⊢
  have hA : ∀ q : Nat, s.heap.size ≤ q → A q := fun q h => by rw [← hAe]; exact Or.inr h
  have hS : va_S A s.heap s.heap [] := va_S.rf
  have hP : va_P D vwCl [(q_t, oX8 q_t_shelf q_t_rowSort q_t_rowSize q_t_rows q_t_moved q_t_shown q_t_tape v_t_tapeSize q_t_refused v_t_places q_t_ways v_t_people q_t_kind q_t_by q_t_home q_t_aim q_t_at0 v_t_hour v_t_chance v_t_seed w_t_kept w_t_tried v_t_at v_t_token v_t_from v_t_figures v_t_fault q_t_told v_t_statements q_t_steps q_t_spot q_t_then v_t_now v_t_gone q_t_sights q_t_darkAt q_t_can), (q_t_refused, .inl (cy 0, 8, .inl v_t_refused)), (q_t_ways, .inl (cy 0, 12, .inl v_t_ways)), (q_t_kind, .inl (cy 0, 8, .inl v_t_kind)), (q_t_home, .inl (cy 0, 8, .inl v_t_home)), (q_t_aim, .inl (cy 0, 8, .inl v_t_aim)), (q_t_at0, .inl (cy 0, 8, .inl v_t_at0)), (q_t_steps, .inl (cy 0, 12, .inl v_t_steps)), (q_t_spot, .inl (cy 0, 8, .inl v_t_spot)), (q_t_then, .inl (cy 0, 8, .inl v_t_then))] s.heap := hP
  have hinX8 : ∀ w ∈ u_ws RX8 TX8 37, w ∈ wsX8_best := by decide +kernel
  have hk56 := hts (.fieldLink RX8 56 "ShowsWhereNobodyIsModel" "at0" "[I") (by decide +kernel)
  have hk37 := hts (.fieldLink RX8 37 "ShowsWhereNobodyIsModel" "places" "I") (by decide +kernel)
  have hl := lv_entry ([.ref q_t, .int p0, .int p1]) (n := 8) (Nat.le_of_ble_eq_true rfl)
  rw [lg_entry_eq]
  generalize (lg_sl ([.ref q_t, .int p0, .int p1]) ++ List.replicate (8 - (lg_sl ([.ref q_t, .int p0, .int p1])).length) Slot.unset).toArray = ls at hl ⊢
  have hl : lv_has ls 8 [(0, .ref q_t), (1, .int p0), (2, .int p1)] := hl
  unfold fX8_best at hf
  refine lv_aload_n hx hb dX8_best_0 rfl (lv_at hl 0 rfl) ?_
  refine lv_iload_n hx hb dX8_best_1 rfl (lv_at hl 1 rfl) ?_
  obtain ⟨r1, hr2, hf⟩ := boE1 hf
  have hPc := hP.sub (ws' := [(q_t, oX8 q_t_shelf q_t_rowSort q_t_rowSize q_t_rows q_t_moved q_t_shown q_t_tape v_t_tapeSize q_t_refused v_t_places q_t_ways v_t_people q_t_kind q_t_by q_t_home q_t_aim q_t_at0 v_t_hour v_t_chance v_t_seed w_t_kept w_t_tried v_t_at v_t_token v_t_from v_t_figures v_t_fault q_t_told v_t_statements q_t_steps q_t_spot q_t_then v_t_now v_t_gone q_t_sights q_t_darkAt q_t_can)]) [0] rfl
  refine xcSi (va_runV (As := [.int p0]) (rest := []) ⟨hx, hb, hml, hown, hts⟩ (mX8_isPerson l D cy q_t q_t_shelf q_t_rowSort q_t_rowSize q_t_rows q_t_moved q_t_shown q_t_tape q_t_refused q_t_ways q_t_kind q_t_by q_t_home q_t_aim q_t_at0 q_t_told q_t_steps q_t_spot q_t_then q_t_sights q_t_darkAt q_t_can v_t_tapeSize v_t_places v_t_people v_t_hour v_t_chance v_t_seed w_t_kept w_t_tried v_t_at v_t_token v_t_from v_t_figures v_t_fault v_t_statements v_t_now v_t_gone  p0 hr2) (cwV 1 hts gX8_best_X8_isPerson rfl rfl rfl (by decide +kernel) ⟨Nat.le_of_ble_eq_true rfl, Nat.le_of_ble_eq_true rfl⟩) (xPV hK hPc (ci := 8) (q0 := 0) rfl rfl) rfl rfl hl.1 rfl (lv_room (Nat.le_of_ble_eq_true rfl)) dX8_best_2 ⟨Nat.le_of_ble_eq_true rfl, Nat.le_of_ble_eq_true rfl⟩) ?_
  refine jww0 15 [] (fun  H locs ls => va_P D vwCl [(q_t, oX8 q_t_shelf q_t_rowSort q_t_rowSize q_t_rows q_t_moved q_t_shown q_t_tape v_t_tapeSize q_t_refused v_t_places q_t_ways v_t_people q_t_kind q_t_by q_t_home q_t_aim q_t_at0 v_t_hour v_t_chance v_t_seed w_t_kept w_t_tried v_t_at v_t_token v_t_from v_t_figures v_t_fault q_t_told v_t_statements q_t_steps q_t_spot q_t_then v_t_now v_t_gone q_t_sights q_t_darkAt q_t_can), (q_t_refused, .inl (cy 0, 8, .inl v_t_refused)), (q_t_ways, .inl (cy 0, 12, .inl v_t_ways)), (q_t_kind, .inl (cy 0, 8, .inl v_t_kind)), (q_t_home, .inl (cy 0, 8, .inl v_t_home)), (q_t_aim, .inl (cy 0, 8, .inl v_t_aim)), (q_t_at0, .inl (cy 0, 8, .inl v_t_at0)), (q_t_steps, .inl (cy 0, 12, .inl v_t_steps)), (q_t_spot, .inl (cy 0, 8, .inl v_t_spot)), (q_t_then, .inl (cy 0, 8, .inl v_t_then))] H ∧ va_D A [(q_t, oX8 q_t_shelf q_t_rowSort q_t_rowSize q_t_rows q_t_moved q_t_shown q_t_tape v_t_tapeSize q_t_refused v_t_places q_t_ways v_t_people q_t_kind q_t_by q_t_home q_t_aim q_t_at0 v_t_hour v_t_chance v_t_seed w_t_kept w_t_tried v_t_at v_t_token v_t_from v_t_figures v_t_fault q_t_told v_t_statements q_t_steps q_t_spot q_t_then v_t_now v_t_gone q_t_sights q_t_darkAt q_t_can), (q_t_refused, .inl (cy 0, 8, .inl v_t_refused)), (q_t_ways, .inl (cy 0, 12, .inl v_t_ways)), (q_t_kind, .inl (cy 0, 8, .inl v_t_kind)), (q_t_home, .inl (cy 0, 8, .inl v_t_home)), (q_t_aim, .inl (cy 0, 8, .inl v_t_aim)), (q_t_at0, .inl (cy 0, 8, .inl v_t_at0)), (q_t_steps, .inl (cy 0, 12, .inl v_t_steps)), (q_t_spot, .inl (cy 0, 8, .inl v_t_spot)), (q_t_then, .inl (cy 0, 8, .inl v_t_then))] ∧ va_S A s.heap H locs ∧ lv_has ls 8 [(0, .ref q_t)]) hf (fun  H locs ls hI hf => ?_) (fun k3 J15 hf => ?_)
  · obtain ⟨hP, hD, hS, hl⟩ := hI
    refine lv_aload_n hx hb dX8_best_15 rfl (lv_at hl 0 rfl) ?_
    refine lv_bipush (v := (-2)) hx hb dX8_best_16 (by decide) ?_
    obtain ⟨r4, u5, hr6, hf⟩ := boE2 hf
    have hPc := hP.sub (ws' := [(q_t, oX8 q_t_shelf q_t_rowSort q_t_rowSize q_t_rows q_t_moved q_t_shown q_t_tape v_t_tapeSize q_t_refused v_t_places q_t_ways v_t_people q_t_kind q_t_by q_t_home q_t_aim q_t_at0 v_t_hour v_t_chance v_t_seed w_t_kept w_t_tried v_t_at v_t_token v_t_from v_t_figures v_t_fault q_t_told v_t_statements q_t_steps q_t_spot q_t_then v_t_now v_t_gone q_t_sights q_t_darkAt q_t_can), (q_t_refused, .inl (cy 0, 8, .inl v_t_refused))]) [0, 1] rfl
    have hDc := hD.sub (ws' := [(q_t, oX8 q_t_shelf q_t_rowSort q_t_rowSize q_t_rows q_t_moved q_t_shown q_t_tape v_t_tapeSize q_t_refused v_t_places q_t_ways v_t_people q_t_kind q_t_by q_t_home q_t_aim q_t_at0 v_t_hour v_t_chance v_t_seed w_t_kept w_t_tried v_t_at v_t_token v_t_from v_t_figures v_t_fault q_t_told v_t_statements q_t_steps q_t_spot q_t_then v_t_now v_t_gone q_t_sights q_t_darkAt q_t_can), (q_t_refused, .inl (cy 0, 8, .inl v_t_refused))]) [0, 1] (by decide) rfl
    refine xcQi (w1 := [(q_t, oX8 q_t_shelf q_t_rowSort q_t_rowSize q_t_rows q_t_moved q_t_shown q_t_tape v_t_tapeSize q_t_refused v_t_places q_t_ways v_t_people q_t_kind q_t_by q_t_home q_t_aim q_t_at0 v_t_hour v_t_chance v_t_seed w_t_kept w_t_tried v_t_at v_t_token v_t_from v_t_figures v_t_fault q_t_told v_t_statements q_t_steps q_t_spot q_t_then v_t_now v_t_gone q_t_sights q_t_darkAt q_t_can), (q_t_refused, .inl (cy 0, 8, .inl u5))]) (va_runV (As := [.int (-2 : Int32)]) (rest := []) ⟨hx, hb, hml, hown, hts⟩ (mX8_refuse l D cy q_t q_t_shelf q_t_rowSort q_t_rowSize q_t_rows q_t_moved q_t_shown q_t_tape q_t_refused q_t_ways q_t_kind q_t_by q_t_home q_t_aim q_t_at0 q_t_told q_t_steps q_t_spot q_t_then q_t_sights q_t_darkAt q_t_can v_t_tapeSize v_t_places v_t_people v_t_hour v_t_chance v_t_seed w_t_kept w_t_tried v_t_at v_t_token v_t_from v_t_figures v_t_fault v_t_statements v_t_now v_t_gone v_t_refused _ (-2 : Int32) hr6) (cwV 1 hts gX8_best_X8_refuse rfl rfl rfl (by decide +kernel) ⟨Nat.le_of_ble_eq_true rfl, Nat.le_of_ble_eq_true rfl⟩) (xPVw hK hPc hDc (ci := 8) (q0 := 0) rfl rfl) rfl rfl hl.1 rfl (lv_room (Nat.le_of_ble_eq_true rfl)) dX8_best_18 ⟨Nat.le_of_ble_eq_true rfl, Nat.le_of_ble_eq_true rfl⟩) hP hD hS hA [0, 1] rfl rfl (fun H locs hP hD hS => ?_)
    have hP : va_P D vwCl [(q_t, oX8 q_t_shelf q_t_rowSort q_t_rowSize q_t_rows q_t_moved q_t_shown q_t_tape v_t_tapeSize q_t_refused v_t_places q_t_ways v_t_people q_t_kind q_t_by q_t_home q_t_aim q_t_at0 v_t_hour v_t_chance v_t_seed w_t_kept w_t_tried v_t_at v_t_token v_t_from v_t_figures v_t_fault q_t_told v_t_statements q_t_steps q_t_spot q_t_then v_t_now v_t_gone q_t_sights q_t_darkAt q_t_can), (q_t_refused, .inl (cy 0, 8, .inl u5)), (q_t_ways, .inl (cy 0, 12, .inl v_t_ways)), (q_t_kind, .inl (cy 0, 8, .inl v_t_kind)), (q_t_home, .inl (cy 0, 8, .inl v_t_home)), (q_t_aim, .inl (cy 0, 8, .inl v_t_aim)), (q_t_at0, .inl (cy 0, 8, .inl v_t_at0)), (q_t_steps, .inl (cy 0, 12, .inl v_t_steps)), (q_t_spot, .inl (cy 0, 8, .inl v_t_spot)), (q_t_then, .inl (cy 0, 8, .inl v_t_then))] H := hP
    have hD : va_D A [(q_t, oX8 q_t_shelf q_t_rowSort q_t_rowSize q_t_rows q_t_moved q_t_shown q_t_tape v_t_tapeSize q_t_refused v_t_places q_t_ways v_t_people q_t_kind q_t_by q_t_home q_t_aim q_t_at0 v_t_hour v_t_chance v_t_seed w_t_kept w_t_tried v_t_at v_t_token v_t_from v_t_figures v_t_fault q_t_told v_t_statements q_t_steps q_t_spot q_t_then v_t_now v_t_gone q_t_sights q_t_darkAt q_t_can), (q_t_refused, .inl (cy 0, 8, .inl u5)), (q_t_ways, .inl (cy 0, 12, .inl v_t_ways)), (q_t_kind, .inl (cy 0, 8, .inl v_t_kind)), (q_t_home, .inl (cy 0, 8, .inl v_t_home)), (q_t_aim, .inl (cy 0, 8, .inl v_t_aim)), (q_t_at0, .inl (cy 0, 8, .inl v_t_at0)), (q_t_steps, .inl (cy 0, 12, .inl v_t_steps)), (q_t_spot, .inl (cy 0, 8, .inl v_t_spot)), (q_t_then, .inl (cy 0, 8, .inl v_t_then))] := hD
    cases hf
    exact W.iret hx hb hr (fun t ht hW => ⟨⟨_, (), rfl, rfl, xend ht hP⟩, hS.F ht⟩) hS.2.2 dX8_best_21
  · refine lv_if_eq (tgt := 15) hx hb dX8_best_5 (by decide) (fun c40 => ?_) (fun c40 => ?_)
    · have hf := ifT hf c40
      clear c40
      exact J15 _ _ ls ⟨hP, hD, hS, lv_sub hl [0] rfl⟩ hf
    · have hf := ifF hf c40
      clear c40
      refine lv_iload_n hx hb dX8_best_8 rfl (lv_at hl 2 rfl) ?_
      obtain ⟨r7, hr8, hf⟩ := boE1 hf
      have hPc := hP.sub (ws' := []) [] rfl
      refine xcSi (va_runS (As := [.int p1]) (rest := []) ⟨hx, hb, hml, hown, hts⟩ (mX8_isTime l D cy    p1 hr8) (va_cwS 1 hts gX8_best_X8_isTime rfl rfl rfl (by decide +kernel) ⟨Nat.le_of_ble_eq_true rfl, Nat.le_of_ble_eq_true rfl⟩) (xPS hK hPc) rfl rfl hl.1 rfl (lv_room (Nat.le_of_ble_eq_true rfl)) dX8_best_9 ⟨Nat.le_of_ble_eq_true rfl, Nat.le_of_ble_eq_true rfl⟩) ?_
      refine lv_if_ne (tgt := 22) hx hb dX8_best_12 (by decide) (fun c39 => ?_) (fun c39 => ?_)
      · have hf := ifF hf c39
        clear c39
        refine lv_aload_n hx hb dX8_best_22 rfl (lv_at hl 0 rfl) ?_
        refine va_get (D := D) (ci := 8) (v := .ref q_t_at0) (C := RX8) (T := TX8) (N := 37) hx hb hts hinX8 hown hK.1 hP 0 rfl rfl 16 (by decide) hk56 (fun _ h9 => h9) rfl dX8_best_23 ?_
        refine lv_iload_n hx hb dX8_best_26 rfl (lv_at hl 1 rfl) ?_
        obtain ⟨hi9, hf⟩ := ckE hf
        refine va_iald hx hb hK.1 hP 6 0 rfl rfl hi9 dX8_best_27 ?_
        refine lv_topi (fun x10 ex10 => ?_)
        have hf := vlE hf ex10
        clear ex10
        refine lv_istore_n (lv' := [(3, .int x10), (0, .ref q_t), (1, .int p0), (2, .int p1)]) hx hb dX8_best_28 rfl hl (by decide) rfl (fun ls hl => ?_)
        refine lv_iconst (v := 0) hx hb dX8_best_29 (by decide) ?_
        refine lv_istore (lv' := [(4, .int (0 : Int32)), (3, .int x10), (0, .ref q_t), (1, .int p0), (2, .int p1)]) hx hb dX8_best_30 hl (by decide) rfl (fun ls hl => ?_)
        refine lv_iconst (v := (-1)) hx hb dX8_best_32 (by decide) ?_
        refine lv_istore (lv' := [(5, .int (-1 : Int32)), (4, .int (0 : Int32)), (3, .int x10), (0, .ref q_t), (1, .int p0), (2, .int p1)]) hx hb dX8_best_33 hl (by decide) rfl (fun ls hl => ?_)
        refine lv_iconst (v := 0) hx hb dX8_best_35 (by decide) ?_
        refine lv_istore (lv' := [(6, .int (0 : Int32)), (5, .int (-1 : Int32)), (4, .int (0 : Int32)), (3, .int x10), (0, .ref q_t), (1, .int p0), (2, .int p1)]) hx hb dX8_best_36 hl (by decide) rfl (fun ls hl => ?_)
        refine wlw8 38 (fun _ _ _ _ _ _ _ _ => []) (fun (x11 : Int32) (x12 : Int32) (x13 : Int32) (u14 : Int32) (u15 : Nat → Int32) (u16 : Nat → Int32) (u17 : Nat → Int32) (u18 : Nat → Int32) H locs ls => va_P D vwCl [(q_t, oX8 q_t_shelf q_t_rowSort q_t_rowSize q_t_rows q_t_moved q_t_shown q_t_tape v_t_tapeSize q_t_refused v_t_places q_t_ways v_t_people q_t_kind q_t_by q_t_home q_t_aim q_t_at0 v_t_hour v_t_chance v_t_seed w_t_kept w_t_tried v_t_at v_t_token v_t_from v_t_figures v_t_fault q_t_told v_t_statements q_t_steps q_t_spot q_t_then u14 v_t_gone q_t_sights q_t_darkAt q_t_can), (q_t_refused, .inl (cy 0, 8, .inl v_t_refused)), (q_t_ways, .inl (cy 0, 12, .inl v_t_ways)), (q_t_kind, .inl (cy 0, 8, .inl v_t_kind)), (q_t_home, .inl (cy 0, 8, .inl v_t_home)), (q_t_aim, .inl (cy 0, 8, .inl v_t_aim)), (q_t_at0, .inl (cy 0, 8, .inl u15)), (q_t_steps, .inl (cy 0, 12, .inl u16)), (q_t_spot, .inl (cy 0, 8, .inl u17)), (q_t_then, .inl (cy 0, 8, .inl u18))] H ∧ va_D A [(q_t, oX8 q_t_shelf q_t_rowSort q_t_rowSize q_t_rows q_t_moved q_t_shown q_t_tape v_t_tapeSize q_t_refused v_t_places q_t_ways v_t_people q_t_kind q_t_by q_t_home q_t_aim q_t_at0 v_t_hour v_t_chance v_t_seed w_t_kept w_t_tried v_t_at v_t_token v_t_from v_t_figures v_t_fault q_t_told v_t_statements q_t_steps q_t_spot q_t_then u14 v_t_gone q_t_sights q_t_darkAt q_t_can), (q_t_refused, .inl (cy 0, 8, .inl v_t_refused)), (q_t_ways, .inl (cy 0, 12, .inl v_t_ways)), (q_t_kind, .inl (cy 0, 8, .inl v_t_kind)), (q_t_home, .inl (cy 0, 8, .inl v_t_home)), (q_t_aim, .inl (cy 0, 8, .inl v_t_aim)), (q_t_at0, .inl (cy 0, 8, .inl u15)), (q_t_steps, .inl (cy 0, 12, .inl u16)), (q_t_spot, .inl (cy 0, 8, .inl u17)), (q_t_then, .inl (cy 0, 8, .inl u18))] ∧ va_S A s.heap H locs ∧ lv_has ls 8 [(4, .int x11), (5, .int x12), (6, .int x13), (3, .int x10), (0, .ref q_t), (1, .int p0), (2, .int p1)]) (fun g19 L38 x11 x12 x13 u14 u15 u16 u17 u18 H locs ls hI hf => ?_) 400 (0 : Int32) (-1 : Int32) (0 : Int32) v_t_now v_t_at0 v_t_steps v_t_spot v_t_then _ _ ls ⟨hP, hD, hS, lv_sub hl [2, 1, 0, 3, 4, 5, 6] rfl⟩ hf
        obtain ⟨hP, hD, hS, hl⟩ := hI
        refine lv_iload hx hb dX8_best_38 (lv_at hl 2 rfl) ?_
        refine lv_aload_n hx hb dX8_best_40 rfl (lv_at hl 4 rfl) ?_
        refine va_get (D := D) (ci := 8) (v := .int v_t_places) (C := RX8) (T := TX8) (N := 37) hx hb hts hinX8 hown hK.1 hP 0 rfl rfl 9 (by decide) hk37 (fun _ h9 => h9) rfl dX8_best_41 ?_
        refine lv_icmp_ge (tgt := 107) hx hb dX8_best_44 (by decide) (fun c38 => ?_) (fun c38 => ?_)
        · have hf := ifT hf c38
          clear c38
          refine lv_aload_n hx hb dX8_best_107 rfl (lv_at hl 4 rfl) ?_
          refine va_get (D := D) (ci := 8) (v := .ref q_t_at0) (C := RX8) (T := TX8) (N := 37) hx hb hts hinX8 hown hK.1 hP 0 rfl rfl 16 (by decide) hk56 (fun _ h9 => h9) rfl dX8_best_108 ?_
          refine lv_iload_n hx hb dX8_best_111 rfl (lv_at hl 5 rfl) ?_
          refine lv_iload_n hx hb dX8_best_112 rfl (lv_at hl 3 rfl) ?_
          obtain ⟨hi20, hf⟩ := ckE hf
          refine va_iast hx hb hK.1 hP hD hS 6 0 rfl rfl hi20 dX8_best_113 (fun H locs hP hD hS => ?_)
          have hP : va_P D vwCl [(q_t, oX8 q_t_shelf q_t_rowSort q_t_rowSize q_t_rows q_t_moved q_t_shown q_t_tape v_t_tapeSize q_t_refused v_t_places q_t_ways v_t_people q_t_kind q_t_by q_t_home q_t_aim q_t_at0 v_t_hour v_t_chance v_t_seed w_t_kept w_t_tried v_t_at v_t_token v_t_from v_t_figures v_t_fault q_t_told v_t_statements q_t_steps q_t_spot q_t_then u14 v_t_gone q_t_sights q_t_darkAt q_t_can), (q_t_refused, .inl (cy 0, 8, .inl v_t_refused)), (q_t_ways, .inl (cy 0, 12, .inl v_t_ways)), (q_t_kind, .inl (cy 0, 8, .inl v_t_kind)), (q_t_home, .inl (cy 0, 8, .inl v_t_home)), (q_t_aim, .inl (cy 0, 8, .inl v_t_aim)), (q_t_at0, .inl (cy 0, 8, .inl (upd u15 p0.toNatClampNeg x10))), (q_t_steps, .inl (cy 0, 12, .inl u16)), (q_t_spot, .inl (cy 0, 8, .inl u17)), (q_t_then, .inl (cy 0, 8, .inl u18))] H := hP
          have hD : va_D A [(q_t, oX8 q_t_shelf q_t_rowSort q_t_rowSize q_t_rows q_t_moved q_t_shown q_t_tape v_t_tapeSize q_t_refused v_t_places q_t_ways v_t_people q_t_kind q_t_by q_t_home q_t_aim q_t_at0 v_t_hour v_t_chance v_t_seed w_t_kept w_t_tried v_t_at v_t_token v_t_from v_t_figures v_t_fault q_t_told v_t_statements q_t_steps q_t_spot q_t_then u14 v_t_gone q_t_sights q_t_darkAt q_t_can), (q_t_refused, .inl (cy 0, 8, .inl v_t_refused)), (q_t_ways, .inl (cy 0, 12, .inl v_t_ways)), (q_t_kind, .inl (cy 0, 8, .inl v_t_kind)), (q_t_home, .inl (cy 0, 8, .inl v_t_home)), (q_t_aim, .inl (cy 0, 8, .inl v_t_aim)), (q_t_at0, .inl (cy 0, 8, .inl (upd u15 p0.toNatClampNeg x10))), (q_t_steps, .inl (cy 0, 12, .inl u16)), (q_t_spot, .inl (cy 0, 8, .inl u17)), (q_t_then, .inl (cy 0, 8, .inl u18))] := hD
          refine lv_iload hx hb dX8_best_114 (lv_at hl 0 rfl) ?_
          cases hf
          exact W.iret hx hb hr (fun t ht hW => ⟨⟨_, (), rfl, rfl, xend ht hP⟩, hS.F ht⟩) hS.2.2 dX8_best_116
        · have hf := ifF hf c38
          clear c38
          refine lv_aload_n hx hb dX8_best_47 rfl (lv_at hl 4 rfl) ?_
          refine va_get (D := D) (ci := 8) (v := .ref q_t_at0) (C := RX8) (T := TX8) (N := 37) hx hb hts hinX8 hown hK.1 hP 0 rfl rfl 16 (by decide) hk56 (fun _ h9 => h9) rfl dX8_best_48 ?_
          refine lv_iload_n hx hb dX8_best_51 rfl (lv_at hl 5 rfl) ?_
          refine lv_iload hx hb dX8_best_52 (lv_at hl 2 rfl) ?_
          obtain ⟨hi21, hf⟩ := ckE hf
          refine va_iast hx hb hK.1 hP hD hS 6 0 rfl rfl hi21 dX8_best_54 (fun H locs hP hD hS => ?_)
          have hP : va_P D vwCl [(q_t, oX8 q_t_shelf q_t_rowSort q_t_rowSize q_t_rows q_t_moved q_t_shown q_t_tape v_t_tapeSize q_t_refused v_t_places q_t_ways v_t_people q_t_kind q_t_by q_t_home q_t_aim q_t_at0 v_t_hour v_t_chance v_t_seed w_t_kept w_t_tried v_t_at v_t_token v_t_from v_t_figures v_t_fault q_t_told v_t_statements q_t_steps q_t_spot q_t_then u14 v_t_gone q_t_sights q_t_darkAt q_t_can), (q_t_refused, .inl (cy 0, 8, .inl v_t_refused)), (q_t_ways, .inl (cy 0, 12, .inl v_t_ways)), (q_t_kind, .inl (cy 0, 8, .inl v_t_kind)), (q_t_home, .inl (cy 0, 8, .inl v_t_home)), (q_t_aim, .inl (cy 0, 8, .inl v_t_aim)), (q_t_at0, .inl (cy 0, 8, .inl (upd u15 p0.toNatClampNeg x13))), (q_t_steps, .inl (cy 0, 12, .inl u16)), (q_t_spot, .inl (cy 0, 8, .inl u17)), (q_t_then, .inl (cy 0, 8, .inl u18))] H := hP
          have hD : va_D A [(q_t, oX8 q_t_shelf q_t_rowSort q_t_rowSize q_t_rows q_t_moved q_t_shown q_t_tape v_t_tapeSize q_t_refused v_t_places q_t_ways v_t_people q_t_kind q_t_by q_t_home q_t_aim q_t_at0 v_t_hour v_t_chance v_t_seed w_t_kept w_t_tried v_t_at v_t_token v_t_from v_t_figures v_t_fault q_t_told v_t_statements q_t_steps q_t_spot q_t_then u14 v_t_gone q_t_sights q_t_darkAt q_t_can), (q_t_refused, .inl (cy 0, 8, .inl v_t_refused)), (q_t_ways, .inl (cy 0, 12, .inl v_t_ways)), (q_t_kind, .inl (cy 0, 8, .inl v_t_kind)), (q_t_home, .inl (cy 0, 8, .inl v_t_home)), (q_t_aim, .inl (cy 0, 8, .inl v_t_aim)), (q_t_at0, .inl (cy 0, 8, .inl (upd u15 p0.toNatClampNeg x13))), (q_t_steps, .inl (cy 0, 12, .inl u16)), (q_t_spot, .inl (cy 0, 8, .inl u17)), (q_t_then, .inl (cy 0, 8, .inl u18))] := hD
          refine lv_aload_n hx hb dX8_best_55 rfl (lv_at hl 4 rfl) ?_
          refine lv_iload_n hx hb dX8_best_56 rfl (lv_at hl 6 rfl) ?_
          obtain ⟨u22, u23, u24, u25, hr26, hf⟩ := boE4 hf
          have hPc := hP.sub (ws' := [(q_t, oX8 q_t_shelf q_t_rowSort q_t_rowSize q_t_rows q_t_moved q_t_shown q_t_tape v_t_tapeSize q_t_refused v_t_places q_t_ways v_t_people q_t_kind q_t_by q_t_home q_t_aim q_t_at0 v_t_hour v_t_chance v_t_seed w_t_kept w_t_tried v_t_at v_t_token v_t_from v_t_figures v_t_fault q_t_told v_t_statements q_t_steps q_t_spot q_t_then u14 v_t_gone q_t_sights q_t_darkAt q_t_can), (q_t_ways, .inl (cy 0, 12, .inl v_t_ways)), (q_t_kind, .inl (cy 0, 8, .inl v_t_kind)), (q_t_home, .inl (cy 0, 8, .inl v_t_home)), (q_t_aim, .inl (cy 0, 8, .inl v_t_aim)), (q_t_at0, .inl (cy 0, 8, .inl (upd u15 p0.toNatClampNeg x13))), (q_t_steps, .inl (cy 0, 12, .inl u16)), (q_t_spot, .inl (cy 0, 8, .inl u17)), (q_t_then, .inl (cy 0, 8, .inl u18))]) [0, 2, 3, 4, 5, 6, 7, 8, 9] rfl
          have hDc := hD.sub (ws' := [(q_t, oX8 q_t_shelf q_t_rowSort q_t_rowSize q_t_rows q_t_moved q_t_shown q_t_tape v_t_tapeSize q_t_refused v_t_places q_t_ways v_t_people q_t_kind q_t_by q_t_home q_t_aim q_t_at0 v_t_hour v_t_chance v_t_seed w_t_kept w_t_tried v_t_at v_t_token v_t_from v_t_figures v_t_fault q_t_told v_t_statements q_t_steps q_t_spot q_t_then u14 v_t_gone q_t_sights q_t_darkAt q_t_can), (q_t_ways, .inl (cy 0, 12, .inl v_t_ways)), (q_t_kind, .inl (cy 0, 8, .inl v_t_kind)), (q_t_home, .inl (cy 0, 8, .inl v_t_home)), (q_t_aim, .inl (cy 0, 8, .inl v_t_aim)), (q_t_at0, .inl (cy 0, 8, .inl (upd u15 p0.toNatClampNeg x13))), (q_t_steps, .inl (cy 0, 12, .inl u16)), (q_t_spot, .inl (cy 0, 8, .inl u17)), (q_t_then, .inl (cy 0, 8, .inl u18))]) [0, 2, 3, 4, 5, 6, 7, 8, 9] (by decide) rfl
          refine xcQv (w1 := [(q_t, oX8 q_t_shelf q_t_rowSort q_t_rowSize q_t_rows q_t_moved q_t_shown q_t_tape v_t_tapeSize q_t_refused v_t_places q_t_ways v_t_people q_t_kind q_t_by q_t_home q_t_aim q_t_at0 v_t_hour v_t_chance v_t_seed w_t_kept w_t_tried v_t_at v_t_token v_t_from v_t_figures v_t_fault q_t_told v_t_statements q_t_steps q_t_spot q_t_then u22 v_t_gone q_t_sights q_t_darkAt q_t_can), (q_t_ways, .inl (cy 0, 12, .inl v_t_ways)), (q_t_kind, .inl (cy 0, 8, .inl v_t_kind)), (q_t_home, .inl (cy 0, 8, .inl v_t_home)), (q_t_aim, .inl (cy 0, 8, .inl v_t_aim)), (q_t_at0, .inl (cy 0, 8, .inl (upd u15 p0.toNatClampNeg x13))), (q_t_steps, .inl (cy 0, 12, .inl u23)), (q_t_spot, .inl (cy 0, 8, .inl u24)), (q_t_then, .inl (cy 0, 8, .inl u25))]) (va_runV (As := [.int p1]) (rest := []) ⟨hx, hb, hml, hown, hts⟩ (mX8_goesOn l D cy q_t q_t_shelf q_t_rowSort q_t_rowSize q_t_rows q_t_moved q_t_shown q_t_tape q_t_refused q_t_ways q_t_kind q_t_by q_t_home q_t_aim q_t_at0 q_t_told q_t_steps q_t_spot q_t_then q_t_sights q_t_darkAt q_t_can v_t_tapeSize v_t_places v_t_people v_t_hour v_t_chance v_t_seed w_t_kept w_t_tried v_t_at v_t_token v_t_from v_t_figures v_t_fault v_t_statements u14 v_t_gone v_t_ways v_t_kind v_t_home v_t_aim (upd u15 p0.toNatClampNeg x13) u16 u17 u18 _ p1 hr26) (cwV 1 hts gX8_best_X8_goesOn rfl rfl rfl (by decide +kernel) ⟨Nat.le_of_ble_eq_true rfl, Nat.le_of_ble_eq_true rfl⟩) (xPVw hK hPc hDc (ci := 8) (q0 := 0) rfl rfl) rfl rfl hl.1 rfl (lv_room (Nat.le_of_ble_eq_true rfl)) dX8_best_57 ⟨Nat.le_of_ble_eq_true rfl, Nat.le_of_ble_eq_true rfl⟩) hP hD hS hA [0, 2, 3, 4, 5, 6, 7, 8, 9] rfl rfl (fun H locs hP hD hS => ?_)
          have hP : va_P D vwCl [(q_t, oX8 q_t_shelf q_t_rowSort q_t_rowSize q_t_rows q_t_moved q_t_shown q_t_tape v_t_tapeSize q_t_refused v_t_places q_t_ways v_t_people q_t_kind q_t_by q_t_home q_t_aim q_t_at0 v_t_hour v_t_chance v_t_seed w_t_kept w_t_tried v_t_at v_t_token v_t_from v_t_figures v_t_fault q_t_told v_t_statements q_t_steps q_t_spot q_t_then u22 v_t_gone q_t_sights q_t_darkAt q_t_can), (q_t_refused, .inl (cy 0, 8, .inl v_t_refused)), (q_t_ways, .inl (cy 0, 12, .inl v_t_ways)), (q_t_kind, .inl (cy 0, 8, .inl v_t_kind)), (q_t_home, .inl (cy 0, 8, .inl v_t_home)), (q_t_aim, .inl (cy 0, 8, .inl v_t_aim)), (q_t_at0, .inl (cy 0, 8, .inl (upd u15 p0.toNatClampNeg x13))), (q_t_steps, .inl (cy 0, 12, .inl u23)), (q_t_spot, .inl (cy 0, 8, .inl u24)), (q_t_then, .inl (cy 0, 8, .inl u25))] H := hP
          have hD : va_D A [(q_t, oX8 q_t_shelf q_t_rowSort q_t_rowSize q_t_rows q_t_moved q_t_shown q_t_tape v_t_tapeSize q_t_refused v_t_places q_t_ways v_t_people q_t_kind q_t_by q_t_home q_t_aim q_t_at0 v_t_hour v_t_chance v_t_seed w_t_kept w_t_tried v_t_at v_t_token v_t_from v_t_figures v_t_fault q_t_told v_t_statements q_t_steps q_t_spot q_t_then u22 v_t_gone q_t_sights q_t_darkAt q_t_can), (q_t_refused, .inl (cy 0, 8, .inl v_t_refused)), (q_t_ways, .inl (cy 0, 12, .inl v_t_ways)), (q_t_kind, .inl (cy 0, 8, .inl v_t_kind)), (q_t_home, .inl (cy 0, 8, .inl v_t_home)), (q_t_aim, .inl (cy 0, 8, .inl v_t_aim)), (q_t_at0, .inl (cy 0, 8, .inl (upd u15 p0.toNatClampNeg x13))), (q_t_steps, .inl (cy 0, 12, .inl u23)), (q_t_spot, .inl (cy 0, 8, .inl u24)), (q_t_then, .inl (cy 0, 8, .inl u25))] := hD
          refine lv_aload_n hx hb dX8_best_60 rfl (lv_at hl 4 rfl) ?_
          obtain ⟨r27, hr28, hf⟩ := boE1 hf
          have hPc := hP.sub (ws' := [(q_t, oX8 q_t_shelf q_t_rowSort q_t_rowSize q_t_rows q_t_moved q_t_shown q_t_tape v_t_tapeSize q_t_refused v_t_places q_t_ways v_t_people q_t_kind q_t_by q_t_home q_t_aim q_t_at0 v_t_hour v_t_chance v_t_seed w_t_kept w_t_tried v_t_at v_t_token v_t_from v_t_figures v_t_fault q_t_told v_t_statements q_t_steps q_t_spot q_t_then u22 v_t_gone q_t_sights q_t_darkAt q_t_can), (q_t_kind, .inl (cy 0, 8, .inl v_t_kind)), (q_t_spot, .inl (cy 0, 8, .inl u24))]) [0, 3, 8] rfl
          refine xcSi (va_runV (As := []) (rest := []) ⟨hx, hb, hml, hown, hts⟩ (mX8_light l D cy q_t q_t_shelf q_t_rowSort q_t_rowSize q_t_rows q_t_moved q_t_shown q_t_tape q_t_refused q_t_ways q_t_kind q_t_by q_t_home q_t_aim q_t_at0 q_t_told q_t_steps q_t_spot q_t_then q_t_sights q_t_darkAt q_t_can v_t_tapeSize v_t_places v_t_people v_t_hour v_t_chance v_t_seed w_t_kept w_t_tried v_t_at v_t_token v_t_from v_t_figures v_t_fault v_t_statements u22 v_t_gone v_t_kind u24   hr28) (cwV 0 hts gX8_best_X8_light rfl rfl rfl (by decide +kernel) ⟨Nat.le_of_ble_eq_true rfl, Nat.le_of_ble_eq_true rfl⟩) (xPV hK hPc (ci := 8) (q0 := 0) rfl rfl) rfl rfl hl.1 rfl (lv_room (Nat.le_of_ble_eq_true rfl)) dX8_best_61 ⟨Nat.le_of_ble_eq_true rfl, Nat.le_of_ble_eq_true rfl⟩) ?_
          obtain ⟨r29, hr30, hf⟩ := boE1 hf
          have hPc := hP.sub (ws' := []) [] rfl
          refine xcSi (va_runS (As := [.int r27]) (rest := []) ⟨hx, hb, hml, hown, hts⟩ (mX8_bits l D cy    r27 hr30) (va_cwS 1 hts gX8_best_X8_bits rfl rfl rfl (by decide +kernel) ⟨Nat.le_of_ble_eq_true rfl, Nat.le_of_ble_eq_true rfl⟩) (xPS hK hPc) rfl rfl hl.1 rfl (lv_room (Nat.le_of_ble_eq_true rfl)) dX8_best_64 ⟨Nat.le_of_ble_eq_true rfl, Nat.le_of_ble_eq_true rfl⟩) ?_
          refine lv_istore (lv' := [(7, .int r29), (4, .int x11), (5, .int x12), (6, .int x13), (3, .int x10), (0, .ref q_t), (1, .int p0), (2, .int p1)]) hx hb dX8_best_67 hl (by decide) rfl (fun ls hl => ?_)
          refine lv_iload hx hb dX8_best_69 (lv_at hl 0 rfl) ?_
          refine lv_iload hx hb dX8_best_71 (lv_at hl 2 rfl) ?_
          refine jww1 83 (fun (y31 : Int32) => [.int y31]) (fun (y31 : Int32) H locs ls => va_P D vwCl [(q_t, oX8 q_t_shelf q_t_rowSort q_t_rowSize q_t_rows q_t_moved q_t_shown q_t_tape v_t_tapeSize q_t_refused v_t_places q_t_ways v_t_people q_t_kind q_t_by q_t_home q_t_aim q_t_at0 v_t_hour v_t_chance v_t_seed w_t_kept w_t_tried v_t_at v_t_token v_t_from v_t_figures v_t_fault q_t_told v_t_statements q_t_steps q_t_spot q_t_then u22 v_t_gone q_t_sights q_t_darkAt q_t_can), (q_t_refused, .inl (cy 0, 8, .inl v_t_refused)), (q_t_ways, .inl (cy 0, 12, .inl v_t_ways)), (q_t_kind, .inl (cy 0, 8, .inl v_t_kind)), (q_t_home, .inl (cy 0, 8, .inl v_t_home)), (q_t_aim, .inl (cy 0, 8, .inl v_t_aim)), (q_t_at0, .inl (cy 0, 8, .inl (upd u15 p0.toNatClampNeg x13))), (q_t_steps, .inl (cy 0, 12, .inl u23)), (q_t_spot, .inl (cy 0, 8, .inl u24)), (q_t_then, .inl (cy 0, 8, .inl u25))] H ∧ va_D A [(q_t, oX8 q_t_shelf q_t_rowSort q_t_rowSize q_t_rows q_t_moved q_t_shown q_t_tape v_t_tapeSize q_t_refused v_t_places q_t_ways v_t_people q_t_kind q_t_by q_t_home q_t_aim q_t_at0 v_t_hour v_t_chance v_t_seed w_t_kept w_t_tried v_t_at v_t_token v_t_from v_t_figures v_t_fault q_t_told v_t_statements q_t_steps q_t_spot q_t_then u22 v_t_gone q_t_sights q_t_darkAt q_t_can), (q_t_refused, .inl (cy 0, 8, .inl v_t_refused)), (q_t_ways, .inl (cy 0, 12, .inl v_t_ways)), (q_t_kind, .inl (cy 0, 8, .inl v_t_kind)), (q_t_home, .inl (cy 0, 8, .inl v_t_home)), (q_t_aim, .inl (cy 0, 8, .inl v_t_aim)), (q_t_at0, .inl (cy 0, 8, .inl (upd u15 p0.toNatClampNeg x13))), (q_t_steps, .inl (cy 0, 12, .inl u23)), (q_t_spot, .inl (cy 0, 8, .inl u24)), (q_t_then, .inl (cy 0, 8, .inl u25))] ∧ va_S A s.heap H locs ∧ lv_has ls 8 [(0, .ref q_t), (1, .int p0), (2, .int p1), (3, .int x10), (5, .int x12), (6, .int x13), (7, .int r29)]) hf (fun y31 H locs ls hI hf => ?_) (fun k32 J83 hf => ?_)
          · obtain ⟨hP, hD, hS, hl⟩ := hI
            refine lv_istore (lv' := [(4, .int y31), (0, .ref q_t), (1, .int p0), (2, .int p1), (3, .int x10), (5, .int x12), (6, .int x13), (7, .int r29)]) hx hb dX8_best_83 hl (by decide) rfl (fun ls hl => ?_)
            refine lv_iload hx hb dX8_best_85 (lv_at hl 7 rfl) ?_
            refine lv_iload hx hb dX8_best_87 (lv_at hl 5 rfl) ?_
            refine jww1 99 (fun (y33 : Int32) => [.int y33]) (fun (y33 : Int32) H locs ls => va_P D vwCl [(q_t, oX8 q_t_shelf q_t_rowSort q_t_rowSize q_t_rows q_t_moved q_t_shown q_t_tape v_t_tapeSize q_t_refused v_t_places q_t_ways v_t_people q_t_kind q_t_by q_t_home q_t_aim q_t_at0 v_t_hour v_t_chance v_t_seed w_t_kept w_t_tried v_t_at v_t_token v_t_from v_t_figures v_t_fault q_t_told v_t_statements q_t_steps q_t_spot q_t_then u22 v_t_gone q_t_sights q_t_darkAt q_t_can), (q_t_refused, .inl (cy 0, 8, .inl v_t_refused)), (q_t_ways, .inl (cy 0, 12, .inl v_t_ways)), (q_t_kind, .inl (cy 0, 8, .inl v_t_kind)), (q_t_home, .inl (cy 0, 8, .inl v_t_home)), (q_t_aim, .inl (cy 0, 8, .inl v_t_aim)), (q_t_at0, .inl (cy 0, 8, .inl (upd u15 p0.toNatClampNeg x13))), (q_t_steps, .inl (cy 0, 12, .inl u23)), (q_t_spot, .inl (cy 0, 8, .inl u24)), (q_t_then, .inl (cy 0, 8, .inl u25))] H ∧ va_D A [(q_t, oX8 q_t_shelf q_t_rowSort q_t_rowSize q_t_rows q_t_moved q_t_shown q_t_tape v_t_tapeSize q_t_refused v_t_places q_t_ways v_t_people q_t_kind q_t_by q_t_home q_t_aim q_t_at0 v_t_hour v_t_chance v_t_seed w_t_kept w_t_tried v_t_at v_t_token v_t_from v_t_figures v_t_fault q_t_told v_t_statements q_t_steps q_t_spot q_t_then u22 v_t_gone q_t_sights q_t_darkAt q_t_can), (q_t_refused, .inl (cy 0, 8, .inl v_t_refused)), (q_t_ways, .inl (cy 0, 12, .inl v_t_ways)), (q_t_kind, .inl (cy 0, 8, .inl v_t_kind)), (q_t_home, .inl (cy 0, 8, .inl v_t_home)), (q_t_aim, .inl (cy 0, 8, .inl v_t_aim)), (q_t_at0, .inl (cy 0, 8, .inl (upd u15 p0.toNatClampNeg x13))), (q_t_steps, .inl (cy 0, 12, .inl u23)), (q_t_spot, .inl (cy 0, 8, .inl u24)), (q_t_then, .inl (cy 0, 8, .inl u25))] ∧ va_S A s.heap H locs ∧ lv_has ls 8 [(0, .ref q_t), (1, .int p0), (2, .int p1), (3, .int x10), (4, .int y31), (6, .int x13)]) hf (fun y33 H locs ls hI hf => ?_) (fun k34 J99 hf => ?_)
            · obtain ⟨hP, hD, hS, hl⟩ := hI
              refine lv_istore (lv' := [(5, .int y33), (0, .ref q_t), (1, .int p0), (2, .int p1), (3, .int x10), (4, .int y31), (6, .int x13)]) hx hb dX8_best_99 hl (by decide) rfl (fun ls hl => ?_)
              obtain ⟨x35, ex35⟩ : ∃ y : Int32, y = x13 + (1 : Int32) := ⟨_, rfl⟩
              have hf := vlE hf ex35
              refine lv_iinc (v := x35) (lv' := [(6, .int x35), (5, .int y33), (0, .ref q_t), (1, .int p0), (2, .int p1), (3, .int x10), (4, .int y31)]) hx hb dX8_best_101 hl (k := 6) rfl (by rw [ex35]; rfl) (by decide) rfl (fun ls hl => ?_)
              clear ex35
              refine lv_goto (tgt := 38) hx hb dX8_best_104 (by decide) ?_
              exact L38 y31 y33 x35 u22 (upd u15 p0.toNatClampNeg x13) u23 u24 u25 _ _ ls ⟨hP, hD, hS, lv_sub hl [6, 1, 0, 5, 2, 3, 4] rfl⟩ hf
            · refine lv_icmp_le (tgt := 97) hx hb dX8_best_89 (by decide) (fun c36 => ?_) (fun c36 => ?_)
              · have hf := ifT hf c36
                clear c36
                refine lv_iload hx hb dX8_best_97 (lv_at hl 5 rfl) ?_
                exact J99 x12 _ _ ls ⟨hP, hD, hS, lv_sub hl [1, 2, 3, 4, 0, 6] rfl⟩ hf
              · have hf := ifF hf c36
                clear c36
                refine lv_iload hx hb dX8_best_92 (lv_at hl 7 rfl) ?_
                refine lv_goto (tgt := 99) hx hb dX8_best_94 (by decide) ?_
                exact J99 r29 _ _ ls ⟨hP, hD, hS, lv_sub hl [1, 2, 3, 4, 0, 6] rfl⟩ hf
          · refine lv_icmp_le (tgt := 81) hx hb dX8_best_73 (by decide) (fun c37 => ?_) (fun c37 => ?_)
            · have hf := ifT hf c37
              clear c37
              refine lv_iload hx hb dX8_best_81 (lv_at hl 1 rfl) ?_
              exact J83 x11 _ _ ls ⟨hP, hD, hS, lv_sub hl [5, 6, 7, 4, 2, 3, 0] rfl⟩ hf
            · have hf := ifF hf c37
              clear c37
              refine lv_iload hx hb dX8_best_76 (lv_at hl 3 rfl) ?_
              refine lv_goto (tgt := 83) hx hb dX8_best_78 (by decide) ?_
              exact J83 x13 _ _ ls ⟨hP, hD, hS, lv_sub hl [5, 6, 7, 4, 2, 3, 0] rfl⟩ hf
      · have hf := ifT hf c39
        clear c39
        exact J15 _ _ ls ⟨hP, hD, hS, lv_sub hl [0] rfl⟩ hf
def fX8_ofKind (v_t_people : Int32) (v_t_refused : Nat → Int32) (v_t_kind : Nat → Int32) (p0 : Int32) : Option (Int32 × (Nat → Int32)) :=
  bo1 (fX8_in p0.toInt64 (0 : Int64) (5 : Int64)) fun r1 =>
  if r1 = 0 then
    bo2 (fX8_refuse v_t_refused (-2 : Int32)) fun r13 u14 =>
    some (r13, u14)
  else
    lo2 (fun g5 (x3 : Int32) (x4 : Int32) =>
      if v_t_people ≤ x4 then
        some (x3, v_t_refused)
      else
        if x4 < 0 ∨ 8 ≤ x4.toNatClampNeg then none else
        jo1 (fun (y7 : Int32) =>
          vlet (x3 + y7) fun x9 =>
          vlet (x4 + (1 : Int32)) fun x10 =>
          g5 x9 x10) fun k8 =>
        if (v_t_kind x4.toNatClampNeg) = p0 then
          k8 (1 : Int32)
        else
          k8 (0 : Int32)) 400 (0 : Int32) (0 : Int32)
set_option maxHeartbeats 4000000 in
set_option maxRecDepth 100000 in
theorem mX8_ofKind (l : Launch) (D : va_G) (cy : Nat → ClassId) (q_t q_t_shelf q_t_rowSort q_t_rowSize q_t_rows q_t_moved q_t_shown q_t_tape q_t_refused q_t_ways q_t_kind q_t_by q_t_home q_t_aim q_t_at0 q_t_told q_t_steps q_t_spot q_t_then q_t_sights q_t_darkAt q_t_can : Nat) (v_t_tapeSize : Int32) (v_t_places : Int32) (v_t_people : Int32) (v_t_hour : Int32) (v_t_chance : Int32) (v_t_seed : Int32) (w_t_kept : Value) (w_t_tried : Value) (v_t_at : Int32) (v_t_token : Int32) (v_t_from : Int32) (v_t_figures : Int32) (v_t_fault : Int32) (v_t_statements : Int32) (v_t_now : Int32) (v_t_gone : Int32) (v_t_refused : Nat → Int32) (v_t_kind : Nat → Int32) (sz : Nat) (p0 : Int32) {r_ : Int32} {n_t_refused : Nat → Int32} (hf : fX8_ofKind v_t_people v_t_refused v_t_kind p0 = some (r_, n_t_refused)) : Met l yX8_ofKind wsX8_ofKind ({ frames := 1, cells := 0, slots := 0, locals := 25 }) (va_Pc [.ref q_t, .int p0] (fun U => U.heap.size = sz ∧ va_P D vwCl [(q_t, oX8 q_t_shelf q_t_rowSort q_t_rowSize q_t_rows q_t_moved q_t_shown q_t_tape v_t_tapeSize q_t_refused v_t_places q_t_ways v_t_people q_t_kind q_t_by q_t_home q_t_aim q_t_at0 v_t_hour v_t_chance v_t_seed w_t_kept w_t_tried v_t_at v_t_token v_t_from v_t_figures v_t_fault q_t_told v_t_statements q_t_steps q_t_spot q_t_then v_t_now v_t_gone q_t_sights q_t_darkAt q_t_can), (q_t_refused, .inl (cy 0, 8, .inl v_t_refused)), (q_t_kind, .inl (cy 0, 8, .inl v_t_kind))] U.heap ∧ xK D cy U ∧ va_D (fun _ => True) [(q_t, oX8 q_t_shelf q_t_rowSort q_t_rowSize q_t_rows q_t_moved q_t_shown q_t_tape v_t_tapeSize q_t_refused v_t_places q_t_ways v_t_people q_t_kind q_t_by q_t_home q_t_aim q_t_at0 v_t_hour v_t_chance v_t_seed w_t_kept w_t_tried v_t_at v_t_token v_t_from v_t_figures v_t_fault q_t_told v_t_statements q_t_steps q_t_spot q_t_then v_t_now v_t_gone q_t_sights q_t_darkAt q_t_can), (q_t_refused, .inl (cy 0, 8, .inl v_t_refused)), (q_t_kind, .inl (cy 0, 8, .inl v_t_kind))])) (va_Qi (fun (x : Int32) (_ : Unit) => x = r_) (fun _ t => va_P D vwCl [(q_t, oX8 q_t_shelf q_t_rowSort q_t_rowSize q_t_rows q_t_moved q_t_shown q_t_tape v_t_tapeSize q_t_refused v_t_places q_t_ways v_t_people q_t_kind q_t_by q_t_home q_t_aim q_t_at0 v_t_hour v_t_chance v_t_seed w_t_kept w_t_tried v_t_at v_t_token v_t_from v_t_figures v_t_fault q_t_told v_t_statements q_t_steps q_t_spot q_t_then v_t_now v_t_gone q_t_sights q_t_darkAt q_t_can), (q_t_refused, .inl (cy 0, 8, .inl n_t_refused)), (q_t_kind, .inl (cy 0, 8, .inl v_t_kind))] t.heap) (va_A [(q_t, oX8 q_t_shelf q_t_rowSort q_t_rowSize q_t_rows q_t_moved q_t_shown q_t_tape v_t_tapeSize q_t_refused v_t_places q_t_ways v_t_people q_t_kind q_t_by q_t_home q_t_aim q_t_at0 v_t_hour v_t_chance v_t_seed w_t_kept w_t_tried v_t_at v_t_token v_t_from v_t_figures v_t_fault q_t_told v_t_statements q_t_steps q_t_spot q_t_then v_t_now v_t_gone q_t_sights q_t_darkAt q_t_can), (q_t_refused, .inl (cy 0, 8, .inl v_t_refused)), (q_t_kind, .inl (cy 0, 8, .inl v_t_kind))] sz)) 0 0 (va_A [(q_t, oX8 q_t_shelf q_t_rowSort q_t_rowSize q_t_rows q_t_moved q_t_shown q_t_tape v_t_tapeSize q_t_refused v_t_places q_t_ways v_t_people q_t_kind q_t_by q_t_home q_t_aim q_t_at0 v_t_hour v_t_chance v_t_seed w_t_kept w_t_tried v_t_at v_t_token v_t_from v_t_figures v_t_fault q_t_told v_t_statements q_t_steps q_t_spot q_t_then v_t_now v_t_gone q_t_sights q_t_darkAt q_t_can), (q_t_refused, .inl (cy 0, 8, .inl v_t_refused)), (q_t_kind, .inl (cy 0, 8, .inl v_t_kind))] sz) := by
  refine Met.ofW (cc := cX8_ofKind) (maxL := 4) (ret := (some .int)) (by decide) rfl ?_
  intro p e s m args below meth c s₁ B hml hv
  obtain ⟨rfl, hsz, hP, hK, hD0⟩ := hv
  have hx := B.exec
  have hb := B.bytes
  have hr := B.returns
  have hts := atoms_spec (ws := wsX8_ofKind) B.pre
  have hown : s.vm.findClass RX8 = some m.cls := findClass_of_methodNamed B.named
  have hlocks := B.notSynchronized
  subst hsz
  have hD := hD0.self (sz := s.heap.size)
  generalize hAe : va_A [(q_t, oX8 q_t_shelf q_t_rowSort q_t_rowSize q_t_rows q_t_moved q_t_shown q_t_tape v_t_tapeSize q_t_refused v_t_places q_t_ways v_t_people q_t_kind q_t_by q_t_home q_t_aim q_t_at0 v_t_hour v_t_chance v_t_seed w_t_kept w_t_tried v_t_at v_t_token v_t_from v_t_figures v_t_fault q_t_told v_t_statements q_t_steps q_t_spot q_t_then v_t_now v_t_gone q_t_sights q_t_darkAt q_t_can), (q_t_refused, .inl (cy 0, 8, .inl v_t_refused)), (q_t_kind, .inl (cy 0, 8, .inl v_t_kind))] s.heap.size = A at hD ⊢
  have hA : ∀ q : Nat, s.heap.size ≤ q → A q := fun q h => by rw [← hAe]; exact Or.inr h
  have hS : va_S A s.heap s.heap [] := va_S.rf
  have hP : va_P D vwCl [(q_t, oX8 q_t_shelf q_t_rowSort q_t_rowSize q_t_rows q_t_moved q_t_shown q_t_tape v_t_tapeSize q_t_refused v_t_places q_t_ways v_t_people q_t_kind q_t_by q_t_home q_t_aim q_t_at0 v_t_hour v_t_chance v_t_seed w_t_kept w_t_tried v_t_at v_t_token v_t_from v_t_figures v_t_fault q_t_told v_t_statements q_t_steps q_t_spot q_t_then v_t_now v_t_gone q_t_sights q_t_darkAt q_t_can), (q_t_refused, .inl (cy 0, 8, .inl v_t_refused)), (q_t_kind, .inl (cy 0, 8, .inl v_t_kind))] s.heap := hP
  have hc119 := hts (.constantLong RX8 119 (5)) (by decide +kernel)
  have hinX8 : ∀ w ∈ u_ws RX8 TX8 37, w ∈ wsX8_ofKind := by decide +kernel
  have hk95 := hts (.fieldLink RX8 95 "ShowsWhereNobodyIsModel" "people" "I") (by decide +kernel)
  have hk44 := hts (.fieldLink RX8 44 "ShowsWhereNobodyIsModel" "kind" "[I") (by decide +kernel)
  have hl := lv_entry ([.ref q_t, .int p0]) (n := 4) (Nat.le_of_ble_eq_true rfl)
  rw [lg_entry_eq]
  generalize (lg_sl ([.ref q_t, .int p0]) ++ List.replicate (4 - (lg_sl ([.ref q_t, .int p0])).length) Slot.unset).toArray = ls at hl ⊢
  have hl : lv_has ls 4 [(0, .ref q_t), (1, .int p0)] := hl
  unfold fX8_ofKind at hf
  refine lv_iload_n hx hb dX8_ofKind_0 rfl (lv_at hl 1 rfl) ?_
  refine lv_i2l hx hb dX8_ofKind_1 rfl ?_
  refine lv_lconst (v := 0) hx hb dX8_ofKind_2 (by decide) ?_
  refine lv_ldc2 hx hb hown hc119 dX8_ofKind_3 ?_
  obtain ⟨r1, hr2, hf⟩ := boE1 hf
  have hPc := hP.sub (ws' := []) [] rfl
  refine xcSi (va_runS (As := [.long p0.toInt64, .long (0 : Int64), .long (5 : Int64)]) (rest := []) ⟨hx, hb, hml, hown, hts⟩ (mX8_in l D cy    p0.toInt64 (0 : Int64) (5 : Int64) hr2) (va_cwS 3 hts gX8_ofKind_X8_in rfl rfl rfl (by decide +kernel) ⟨Nat.le_of_ble_eq_true rfl, Nat.le_of_ble_eq_true rfl⟩) (xPS hK hPc) rfl rfl hl.1 rfl (lv_room (Nat.le_of_ble_eq_true rfl)) dX8_ofKind_6 ⟨Nat.le_of_ble_eq_true rfl, Nat.le_of_ble_eq_true rfl⟩) ?_
  refine lv_if_ne (tgt := 19) hx hb dX8_ofKind_9 (by decide) (fun c16 => ?_) (fun c16 => ?_)
  · have hf := ifF hf c16
    clear c16
    refine lv_iconst (v := 0) hx hb dX8_ofKind_19 (by decide) ?_
    refine lv_istore_n (lv' := [(2, .int (0 : Int32)), (0, .ref q_t), (1, .int p0)]) hx hb dX8_ofKind_20 rfl hl (by decide) rfl (fun ls hl => ?_)
    refine lv_iconst (v := 0) hx hb dX8_ofKind_21 (by decide) ?_
    refine lv_istore_n (lv' := [(3, .int (0 : Int32)), (2, .int (0 : Int32)), (0, .ref q_t), (1, .int p0)]) hx hb dX8_ofKind_22 rfl hl (by decide) rfl (fun ls hl => ?_)
    refine wlw2 23 (fun _ _ => []) (fun (x3 : Int32) (x4 : Int32) H locs ls => va_P D vwCl [(q_t, oX8 q_t_shelf q_t_rowSort q_t_rowSize q_t_rows q_t_moved q_t_shown q_t_tape v_t_tapeSize q_t_refused v_t_places q_t_ways v_t_people q_t_kind q_t_by q_t_home q_t_aim q_t_at0 v_t_hour v_t_chance v_t_seed w_t_kept w_t_tried v_t_at v_t_token v_t_from v_t_figures v_t_fault q_t_told v_t_statements q_t_steps q_t_spot q_t_then v_t_now v_t_gone q_t_sights q_t_darkAt q_t_can), (q_t_refused, .inl (cy 0, 8, .inl v_t_refused)), (q_t_kind, .inl (cy 0, 8, .inl v_t_kind))] H ∧ va_D A [(q_t, oX8 q_t_shelf q_t_rowSort q_t_rowSize q_t_rows q_t_moved q_t_shown q_t_tape v_t_tapeSize q_t_refused v_t_places q_t_ways v_t_people q_t_kind q_t_by q_t_home q_t_aim q_t_at0 v_t_hour v_t_chance v_t_seed w_t_kept w_t_tried v_t_at v_t_token v_t_from v_t_figures v_t_fault q_t_told v_t_statements q_t_steps q_t_spot q_t_then v_t_now v_t_gone q_t_sights q_t_darkAt q_t_can), (q_t_refused, .inl (cy 0, 8, .inl v_t_refused)), (q_t_kind, .inl (cy 0, 8, .inl v_t_kind))] ∧ va_S A s.heap H locs ∧ lv_has ls 4 [(2, .int x3), (3, .int x4), (0, .ref q_t), (1, .int p0)]) (fun g5 L23 x3 x4 H locs ls hI hf => ?_) 400 (0 : Int32) (0 : Int32) _ _ ls ⟨hP, hD, hS, lv_sub hl [1, 0, 2, 3] rfl⟩ hf
    obtain ⟨hP, hD, hS, hl⟩ := hI
    refine lv_iload_n hx hb dX8_ofKind_23 rfl (lv_at hl 1 rfl) ?_
    refine lv_aload_n hx hb dX8_ofKind_24 rfl (lv_at hl 2 rfl) ?_
    refine va_get (D := D) (ci := 8) (v := .int v_t_people) (C := RX8) (T := TX8) (N := 37) hx hb hts hinX8 hown hK.1 hP 0 rfl rfl 11 (by decide) hk95 (fun _ h9 => h9) rfl dX8_ofKind_25 ?_
    refine lv_icmp_ge (tgt := 55) hx hb dX8_ofKind_28 (by decide) (fun c12 => ?_) (fun c12 => ?_)
    · have hf := ifT hf c12
      clear c12
      refine lv_iload_n hx hb dX8_ofKind_55 rfl (lv_at hl 0 rfl) ?_
      cases hf
      exact W.iret hx hb hr (fun t ht hW => ⟨⟨_, (), rfl, rfl, xend ht hP⟩, hS.F ht⟩) hS.2.2 dX8_ofKind_56
    · have hf := ifF hf c12
      clear c12
      refine lv_iload_n hx hb dX8_ofKind_31 rfl (lv_at hl 0 rfl) ?_
      refine lv_aload_n hx hb dX8_ofKind_32 rfl (lv_at hl 2 rfl) ?_
      refine va_get (D := D) (ci := 8) (v := .ref q_t_kind) (C := RX8) (T := TX8) (N := 37) hx hb hts hinX8 hown hK.1 hP 0 rfl rfl 12 (by decide) hk44 (fun _ h9 => h9) rfl dX8_ofKind_33 ?_
      refine lv_iload_n hx hb dX8_ofKind_36 rfl (lv_at hl 1 rfl) ?_
      obtain ⟨hi6, hf⟩ := ckE hf
      refine va_iald hx hb hK.1 hP 2 0 rfl rfl hi6 dX8_ofKind_37 ?_
      refine lv_iload_n hx hb dX8_ofKind_38 rfl (lv_at hl 3 rfl) ?_
      refine jww1 47 (fun (y7 : Int32) => [.int y7, .int x3]) (fun (y7 : Int32) H locs ls => va_P D vwCl [(q_t, oX8 q_t_shelf q_t_rowSort q_t_rowSize q_t_rows q_t_moved q_t_shown q_t_tape v_t_tapeSize q_t_refused v_t_places q_t_ways v_t_people q_t_kind q_t_by q_t_home q_t_aim q_t_at0 v_t_hour v_t_chance v_t_seed w_t_kept w_t_tried v_t_at v_t_token v_t_from v_t_figures v_t_fault q_t_told v_t_statements q_t_steps q_t_spot q_t_then v_t_now v_t_gone q_t_sights q_t_darkAt q_t_can), (q_t_refused, .inl (cy 0, 8, .inl v_t_refused)), (q_t_kind, .inl (cy 0, 8, .inl v_t_kind))] H ∧ va_D A [(q_t, oX8 q_t_shelf q_t_rowSort q_t_rowSize q_t_rows q_t_moved q_t_shown q_t_tape v_t_tapeSize q_t_refused v_t_places q_t_ways v_t_people q_t_kind q_t_by q_t_home q_t_aim q_t_at0 v_t_hour v_t_chance v_t_seed w_t_kept w_t_tried v_t_at v_t_token v_t_from v_t_figures v_t_fault q_t_told v_t_statements q_t_steps q_t_spot q_t_then v_t_now v_t_gone q_t_sights q_t_darkAt q_t_can), (q_t_refused, .inl (cy 0, 8, .inl v_t_refused)), (q_t_kind, .inl (cy 0, 8, .inl v_t_kind))] ∧ va_S A s.heap H locs ∧ lv_has ls 4 [(0, .ref q_t), (1, .int p0), (3, .int x4)]) hf (fun y7 H locs ls hI hf => ?_) (fun k8 J47 hf => ?_)
      · obtain ⟨hP, hD, hS, hl⟩ := hI
        refine lv_iadd hx hb dX8_ofKind_47 ?_
        refine lv_topi (fun x9 ex9 => ?_)
        have hf := vlE hf ex9
        clear ex9
        refine lv_istore_n (lv' := [(2, .int x9), (0, .ref q_t), (1, .int p0), (3, .int x4)]) hx hb dX8_ofKind_48 rfl hl (by decide) rfl (fun ls hl => ?_)
        obtain ⟨x10, ex10⟩ : ∃ y : Int32, y = x4 + (1 : Int32) := ⟨_, rfl⟩
        have hf := vlE hf ex10
        refine lv_iinc (v := x10) (lv' := [(3, .int x10), (2, .int x9), (0, .ref q_t), (1, .int p0)]) hx hb dX8_ofKind_49 hl (k := 3) rfl (by rw [ex10]; rfl) (by decide) rfl (fun ls hl => ?_)
        clear ex10
        refine lv_goto (tgt := 23) hx hb dX8_ofKind_52 (by decide) ?_
        exact L23 x9 x10 _ _ ls ⟨hP, hD, hS, lv_sub hl [1, 0, 2, 3] rfl⟩ hf
      · refine lv_icmp_ne (tgt := 46) hx hb dX8_ofKind_39 (by decide) (fun c11 => ?_) (fun c11 => ?_)
        · have hf := ifF hf c11
          clear c11
          refine lv_iconst (v := 0) hx hb dX8_ofKind_46 (by decide) ?_
          exact J47 (0 : Int32) _ _ ls ⟨hP, hD, hS, lv_sub hl [2, 3, 1] rfl⟩ hf
        · have hf := ifT hf c11
          clear c11
          refine lv_iconst (v := 1) hx hb dX8_ofKind_42 (by decide) ?_
          refine lv_goto (tgt := 47) hx hb dX8_ofKind_43 (by decide) ?_
          exact J47 (1 : Int32) _ _ ls ⟨hP, hD, hS, lv_sub hl [2, 3, 1] rfl⟩ hf
  · have hf := ifT hf c16
    clear c16
    refine lv_aload_n hx hb dX8_ofKind_12 rfl (lv_at hl 0 rfl) ?_
    refine lv_bipush (v := (-2)) hx hb dX8_ofKind_13 (by decide) ?_
    obtain ⟨r13, u14, hr15, hf⟩ := boE2 hf
    have hPc := hP.sub (ws' := [(q_t, oX8 q_t_shelf q_t_rowSort q_t_rowSize q_t_rows q_t_moved q_t_shown q_t_tape v_t_tapeSize q_t_refused v_t_places q_t_ways v_t_people q_t_kind q_t_by q_t_home q_t_aim q_t_at0 v_t_hour v_t_chance v_t_seed w_t_kept w_t_tried v_t_at v_t_token v_t_from v_t_figures v_t_fault q_t_told v_t_statements q_t_steps q_t_spot q_t_then v_t_now v_t_gone q_t_sights q_t_darkAt q_t_can), (q_t_refused, .inl (cy 0, 8, .inl v_t_refused))]) [0, 1] rfl
    have hDc := hD.sub (ws' := [(q_t, oX8 q_t_shelf q_t_rowSort q_t_rowSize q_t_rows q_t_moved q_t_shown q_t_tape v_t_tapeSize q_t_refused v_t_places q_t_ways v_t_people q_t_kind q_t_by q_t_home q_t_aim q_t_at0 v_t_hour v_t_chance v_t_seed w_t_kept w_t_tried v_t_at v_t_token v_t_from v_t_figures v_t_fault q_t_told v_t_statements q_t_steps q_t_spot q_t_then v_t_now v_t_gone q_t_sights q_t_darkAt q_t_can), (q_t_refused, .inl (cy 0, 8, .inl v_t_refused))]) [0, 1] (by decide) rfl
    refine xcQi (w1 := [(q_t, oX8 q_t_shelf q_t_rowSort q_t_rowSize q_t_rows q_t_moved q_t_shown q_t_tape v_t_tapeSize q_t_refused v_t_places q_t_ways v_t_people q_t_kind q_t_by q_t_home q_t_aim q_t_at0 v_t_hour v_t_chance v_t_seed w_t_kept w_t_tried v_t_at v_t_token v_t_from v_t_figures v_t_fault q_t_told v_t_statements q_t_steps q_t_spot q_t_then v_t_now v_t_gone q_t_sights q_t_darkAt q_t_can), (q_t_refused, .inl (cy 0, 8, .inl u14))]) (va_runV (As := [.int (-2 : Int32)]) (rest := []) ⟨hx, hb, hml, hown, hts⟩ (mX8_refuse l D cy q_t q_t_shelf q_t_rowSort q_t_rowSize q_t_rows q_t_moved q_t_shown q_t_tape q_t_refused q_t_ways q_t_kind q_t_by q_t_home q_t_aim q_t_at0 q_t_told q_t_steps q_t_spot q_t_then q_t_sights q_t_darkAt q_t_can v_t_tapeSize v_t_places v_t_people v_t_hour v_t_chance v_t_seed w_t_kept w_t_tried v_t_at v_t_token v_t_from v_t_figures v_t_fault v_t_statements v_t_now v_t_gone v_t_refused _ (-2 : Int32) hr15) (cwV 1 hts gX8_ofKind_X8_refuse rfl rfl rfl (by decide +kernel) ⟨Nat.le_of_ble_eq_true rfl, Nat.le_of_ble_eq_true rfl⟩) (xPVw hK hPc hDc (ci := 8) (q0 := 0) rfl rfl) rfl rfl hl.1 rfl (lv_room (Nat.le_of_ble_eq_true rfl)) dX8_ofKind_15 ⟨Nat.le_of_ble_eq_true rfl, Nat.le_of_ble_eq_true rfl⟩) hP hD hS hA [0, 1] rfl rfl (fun H locs hP hD hS => ?_)
    have hP : va_P D vwCl [(q_t, oX8 q_t_shelf q_t_rowSort q_t_rowSize q_t_rows q_t_moved q_t_shown q_t_tape v_t_tapeSize q_t_refused v_t_places q_t_ways v_t_people q_t_kind q_t_by q_t_home q_t_aim q_t_at0 v_t_hour v_t_chance v_t_seed w_t_kept w_t_tried v_t_at v_t_token v_t_from v_t_figures v_t_fault q_t_told v_t_statements q_t_steps q_t_spot q_t_then v_t_now v_t_gone q_t_sights q_t_darkAt q_t_can), (q_t_refused, .inl (cy 0, 8, .inl u14)), (q_t_kind, .inl (cy 0, 8, .inl v_t_kind))] H := hP
    have hD : va_D A [(q_t, oX8 q_t_shelf q_t_rowSort q_t_rowSize q_t_rows q_t_moved q_t_shown q_t_tape v_t_tapeSize q_t_refused v_t_places q_t_ways v_t_people q_t_kind q_t_by q_t_home q_t_aim q_t_at0 v_t_hour v_t_chance v_t_seed w_t_kept w_t_tried v_t_at v_t_token v_t_from v_t_figures v_t_fault q_t_told v_t_statements q_t_steps q_t_spot q_t_then v_t_now v_t_gone q_t_sights q_t_darkAt q_t_can), (q_t_refused, .inl (cy 0, 8, .inl u14)), (q_t_kind, .inl (cy 0, 8, .inl v_t_kind))] := hD
    cases hf
    exact W.iret hx hb hr (fun t ht hW => ⟨⟨_, (), rfl, rfl, xend ht hP⟩, hS.F ht⟩) hS.2.2 dX8_ofKind_18
def fX8_wrongIn (v_t_places : Int32) (v_t_people : Int32) (v_t_hour : Int32) (v_t_gone : Int32) (v_t_ways : Nat → Int32) (v_t_kind : Nat → Int32) (v_t_home : Nat → Int32) (v_t_aim : Nat → Int32) (v_t_at0 : Nat → Int32) (v_t_steps : Nat → Int32) (v_t_spot : Nat → Int32) (v_t_then : Nat → Int32) (v_t_rows : Nat → Nat → Int64) (p0 : Int32) (p1 : Int32) : Option (Int32 × Int32 × (Nat → Int32) × (Nat → Int32) × (Nat → Int32)) :=
  bo2 (fX8_begin v_t_people v_t_hour v_t_at0 v_t_spot) fun u1 u2 =>
  lo5 (fun g9 (x4 : Int32) (u5 : Int32) (u6 : Nat → Int32) (u7 : Nat → Int32) (u8 : Nat → Int32) =>
    if p1 ≤ x4 then
      some ((-1 : Int32), u5, u6, u7, u8)
    else
      if p0 < 0 ∨ 8 ≤ p0.toNatClampNeg then none else
      if x4 < 0 ∨ 40 ≤ x4.toNatClampNeg then none else
      bo1 (fX8_light v_t_places v_t_people v_t_gone v_t_kind u7) fun r13 =>
      if (lg_cmp (v_t_rows p0.toNatClampNeg x4.toNatClampNeg) r13.toInt64) = 0 then
        bo4 (fX8_goes v_t_places v_t_people u5 v_t_gone v_t_ways v_t_kind v_t_home v_t_aim u6 u7 u8) fun u15 u16 u17 u18 =>
        vlet (x4 + (1 : Int32)) fun x20 =>
        g9 x20 u15 u16 u17 u18
      else
        some (x4, u5, u6, u7, u8)) 400 (0 : Int32) u1 v_t_steps u2 v_t_then
set_option maxHeartbeats 4000000 in
set_option maxRecDepth 100000 in
theorem mX8_wrongIn (l : Launch) (D : va_G) (cy : Nat → ClassId) (q_t q_t_shelf q_t_rowSort q_t_rowSize q_t_rows q_t_moved q_t_shown q_t_tape q_t_refused q_t_ways q_t_kind q_t_by q_t_home q_t_aim q_t_at0 q_t_told q_t_steps q_t_spot q_t_then q_t_sights q_t_darkAt q_t_can : Nat) (ad_t_rows : Nat → Nat) (v_t_tapeSize : Int32) (v_t_places : Int32) (v_t_people : Int32) (v_t_hour : Int32) (v_t_chance : Int32) (v_t_seed : Int32) (w_t_kept : Value) (w_t_tried : Value) (v_t_at : Int32) (v_t_token : Int32) (v_t_from : Int32) (v_t_figures : Int32) (v_t_fault : Int32) (v_t_statements : Int32) (v_t_now : Int32) (v_t_gone : Int32) (v_t_ways : Nat → Int32) (v_t_kind : Nat → Int32) (v_t_home : Nat → Int32) (v_t_aim : Nat → Int32) (v_t_at0 : Nat → Int32) (v_t_steps : Nat → Int32) (v_t_spot : Nat → Int32) (v_t_then : Nat → Int32) (v_t_rows : Nat → Nat → Int64) (sz : Nat) (p0 : Int32) (p1 : Int32) {r_ : Int32} {n_t_now : Int32} {n_t_steps : Nat → Int32} {n_t_spot : Nat → Int32} {n_t_then : Nat → Int32} (hf : fX8_wrongIn v_t_places v_t_people v_t_hour v_t_gone v_t_ways v_t_kind v_t_home v_t_aim v_t_at0 v_t_steps v_t_spot v_t_then v_t_rows p0 p1 = some (r_, n_t_now, n_t_steps, n_t_spot, n_t_then)) : Met l yX8_wrongIn wsX8_wrongIn ({ frames := 4, cells := 0, slots := 0, locals := 90 }) (va_Pc [.ref q_t, .int p0, .int p1] (fun U => U.heap.size = sz ∧ va_P D vwCl ([(q_t, oX8 q_t_shelf q_t_rowSort q_t_rowSize q_t_rows q_t_moved q_t_shown q_t_tape v_t_tapeSize q_t_refused v_t_places q_t_ways v_t_people q_t_kind q_t_by q_t_home q_t_aim q_t_at0 v_t_hour v_t_chance v_t_seed w_t_kept w_t_tried v_t_at v_t_token v_t_from v_t_figures v_t_fault q_t_told v_t_statements q_t_steps q_t_spot q_t_then v_t_now v_t_gone q_t_sights q_t_darkAt q_t_can), (q_t_rows, .inl (cy 4, 8, .inr (.inr (.inr (.inr (fun i => some (ad_t_rows i))))))), (q_t_ways, .inl (cy 0, 12, .inl v_t_ways)), (q_t_kind, .inl (cy 0, 8, .inl v_t_kind)), (q_t_home, .inl (cy 0, 8, .inl v_t_home)), (q_t_aim, .inl (cy 0, 8, .inl v_t_aim)), (q_t_at0, .inl (cy 0, 8, .inl v_t_at0)), (q_t_steps, .inl (cy 0, 12, .inl v_t_steps)), (q_t_spot, .inl (cy 0, 8, .inl v_t_spot)), (q_t_then, .inl (cy 0, 8, .inl v_t_then))] ++ wFJ cy 8 40 ad_t_rows v_t_rows) U.heap ∧ xK D cy U ∧ va_D (fun _ => True) ([(q_t, oX8 q_t_shelf q_t_rowSort q_t_rowSize q_t_rows q_t_moved q_t_shown q_t_tape v_t_tapeSize q_t_refused v_t_places q_t_ways v_t_people q_t_kind q_t_by q_t_home q_t_aim q_t_at0 v_t_hour v_t_chance v_t_seed w_t_kept w_t_tried v_t_at v_t_token v_t_from v_t_figures v_t_fault q_t_told v_t_statements q_t_steps q_t_spot q_t_then v_t_now v_t_gone q_t_sights q_t_darkAt q_t_can), (q_t_rows, .inl (cy 4, 8, .inr (.inr (.inr (.inr (fun i => some (ad_t_rows i))))))), (q_t_ways, .inl (cy 0, 12, .inl v_t_ways)), (q_t_kind, .inl (cy 0, 8, .inl v_t_kind)), (q_t_home, .inl (cy 0, 8, .inl v_t_home)), (q_t_aim, .inl (cy 0, 8, .inl v_t_aim)), (q_t_at0, .inl (cy 0, 8, .inl v_t_at0)), (q_t_steps, .inl (cy 0, 12, .inl v_t_steps)), (q_t_spot, .inl (cy 0, 8, .inl v_t_spot)), (q_t_then, .inl (cy 0, 8, .inl v_t_then))] ++ wFJ cy 8 40 ad_t_rows v_t_rows))) (va_Qi (fun (x : Int32) (_ : Unit) => x = r_) (fun _ t => va_P D vwCl ([(q_t, oX8 q_t_shelf q_t_rowSort q_t_rowSize q_t_rows q_t_moved q_t_shown q_t_tape v_t_tapeSize q_t_refused v_t_places q_t_ways v_t_people q_t_kind q_t_by q_t_home q_t_aim q_t_at0 v_t_hour v_t_chance v_t_seed w_t_kept w_t_tried v_t_at v_t_token v_t_from v_t_figures v_t_fault q_t_told v_t_statements q_t_steps q_t_spot q_t_then n_t_now v_t_gone q_t_sights q_t_darkAt q_t_can), (q_t_rows, .inl (cy 4, 8, .inr (.inr (.inr (.inr (fun i => some (ad_t_rows i))))))), (q_t_ways, .inl (cy 0, 12, .inl v_t_ways)), (q_t_kind, .inl (cy 0, 8, .inl v_t_kind)), (q_t_home, .inl (cy 0, 8, .inl v_t_home)), (q_t_aim, .inl (cy 0, 8, .inl v_t_aim)), (q_t_at0, .inl (cy 0, 8, .inl v_t_at0)), (q_t_steps, .inl (cy 0, 12, .inl n_t_steps)), (q_t_spot, .inl (cy 0, 8, .inl n_t_spot)), (q_t_then, .inl (cy 0, 8, .inl n_t_then))] ++ wFJ cy 8 40 ad_t_rows v_t_rows) t.heap) (va_A ([(q_t, oX8 q_t_shelf q_t_rowSort q_t_rowSize q_t_rows q_t_moved q_t_shown q_t_tape v_t_tapeSize q_t_refused v_t_places q_t_ways v_t_people q_t_kind q_t_by q_t_home q_t_aim q_t_at0 v_t_hour v_t_chance v_t_seed w_t_kept w_t_tried v_t_at v_t_token v_t_from v_t_figures v_t_fault q_t_told v_t_statements q_t_steps q_t_spot q_t_then v_t_now v_t_gone q_t_sights q_t_darkAt q_t_can), (q_t_rows, .inl (cy 4, 8, .inr (.inr (.inr (.inr (fun i => some (ad_t_rows i))))))), (q_t_ways, .inl (cy 0, 12, .inl v_t_ways)), (q_t_kind, .inl (cy 0, 8, .inl v_t_kind)), (q_t_home, .inl (cy 0, 8, .inl v_t_home)), (q_t_aim, .inl (cy 0, 8, .inl v_t_aim)), (q_t_at0, .inl (cy 0, 8, .inl v_t_at0)), (q_t_steps, .inl (cy 0, 12, .inl v_t_steps)), (q_t_spot, .inl (cy 0, 8, .inl v_t_spot)), (q_t_then, .inl (cy 0, 8, .inl v_t_then))] ++ wFJ cy 8 40 ad_t_rows v_t_rows) sz)) 0 0 (va_A ([(q_t, oX8 q_t_shelf q_t_rowSort q_t_rowSize q_t_rows q_t_moved q_t_shown q_t_tape v_t_tapeSize q_t_refused v_t_places q_t_ways v_t_people q_t_kind q_t_by q_t_home q_t_aim q_t_at0 v_t_hour v_t_chance v_t_seed w_t_kept w_t_tried v_t_at v_t_token v_t_from v_t_figures v_t_fault q_t_told v_t_statements q_t_steps q_t_spot q_t_then v_t_now v_t_gone q_t_sights q_t_darkAt q_t_can), (q_t_rows, .inl (cy 4, 8, .inr (.inr (.inr (.inr (fun i => some (ad_t_rows i))))))), (q_t_ways, .inl (cy 0, 12, .inl v_t_ways)), (q_t_kind, .inl (cy 0, 8, .inl v_t_kind)), (q_t_home, .inl (cy 0, 8, .inl v_t_home)), (q_t_aim, .inl (cy 0, 8, .inl v_t_aim)), (q_t_at0, .inl (cy 0, 8, .inl v_t_at0)), (q_t_steps, .inl (cy 0, 12, .inl v_t_steps)), (q_t_spot, .inl (cy 0, 8, .inl v_t_spot)), (q_t_then, .inl (cy 0, 8, .inl v_t_then))] ++ wFJ cy 8 40 ad_t_rows v_t_rows) sz) := by
  refine Met.ofW (cc := cX8_wrongIn) (maxL := 4) (ret := (some .int)) (by decide) rfl ?_
  intro p e s m args below meth c s₁ B hml hv
  obtain ⟨rfl, hsz, hP, hK, hD0⟩ := hv
  have hx := B.exec
  have hb := B.bytes
  have hr := B.returns
  have hts := atoms_spec (ws := wsX8_wrongIn) B.pre
  have hown : s.vm.findClass RX8 = some m.cls := findClass_of_methodNamed B.named
  have hlocks := B.notSynchronized
  subst hsz
  have hD := hD0.self (sz := s.heap.size)
  generalize hAe : va_A ([(q_t, oX8 q_t_shelf q_t_rowSort q_t_rowSize q_t_rows q_t_moved q_t_shown q_t_tape v_t_tapeSize q_t_refused v_t_places q_t_ways v_t_people q_t_kind q_t_by q_t_home q_t_aim q_t_at0 v_t_hour v_t_chance v_t_seed w_t_kept w_t_tried v_t_at v_t_token v_t_from v_t_figures v_t_fault q_t_told v_t_statements q_t_steps q_t_spot q_t_then v_t_now v_t_gone q_t_sights q_t_darkAt q_t_can), (q_t_rows, .inl (cy 4, 8, .inr (.inr (.inr (.inr (fun i => some (ad_t_rows i))))))), (q_t_ways, .inl (cy 0, 12, .inl v_t_ways)), (q_t_kind, .inl (cy 0, 8, .inl v_t_kind)), (q_t_home, .inl (cy 0, 8, .inl v_t_home)), (q_t_aim, .inl (cy 0, 8, .inl v_t_aim)), (q_t_at0, .inl (cy 0, 8, .inl v_t_at0)), (q_t_steps, .inl (cy 0, 12, .inl v_t_steps)), (q_t_spot, .inl (cy 0, 8, .inl v_t_spot)), (q_t_then, .inl (cy 0, 8, .inl v_t_then))] ++ wFJ cy 8 40 ad_t_rows v_t_rows) s.heap.size = A at hD ⊢
  have hA : ∀ q : Nat, s.heap.size ≤ q → A q := fun q h => by rw [← hAe]; exact Or.inr h
  have hS : va_S A s.heap s.heap [] := va_S.rf
  have hP : va_P D vwCl ([(q_t, oX8 q_t_shelf q_t_rowSort q_t_rowSize q_t_rows q_t_moved q_t_shown q_t_tape v_t_tapeSize q_t_refused v_t_places q_t_ways v_t_people q_t_kind q_t_by q_t_home q_t_aim q_t_at0 v_t_hour v_t_chance v_t_seed w_t_kept w_t_tried v_t_at v_t_token v_t_from v_t_figures v_t_fault q_t_told v_t_statements q_t_steps q_t_spot q_t_then v_t_now v_t_gone q_t_sights q_t_darkAt q_t_can), (q_t_rows, .inl (cy 4, 8, .inr (.inr (.inr (.inr (fun i => some (ad_t_rows i))))))), (q_t_ways, .inl (cy 0, 12, .inl v_t_ways)), (q_t_kind, .inl (cy 0, 8, .inl v_t_kind)), (q_t_home, .inl (cy 0, 8, .inl v_t_home)), (q_t_aim, .inl (cy 0, 8, .inl v_t_aim)), (q_t_at0, .inl (cy 0, 8, .inl v_t_at0)), (q_t_steps, .inl (cy 0, 12, .inl v_t_steps)), (q_t_spot, .inl (cy 0, 8, .inl v_t_spot)), (q_t_then, .inl (cy 0, 8, .inl v_t_then))] ++ wFJ cy 8 40 ad_t_rows v_t_rows) s.heap := hP
  have hinX8 : ∀ w ∈ u_ws RX8 TX8 37, w ∈ wsX8_wrongIn := by decide +kernel
  have hk21 := hts (.fieldLink RX8 21 "ShowsWhereNobodyIsModel" "rows" "[[J") (by decide +kernel)
  have hl := lv_entry ([.ref q_t, .int p0, .int p1]) (n := 4) (Nat.le_of_ble_eq_true rfl)
  rw [lg_entry_eq]
  generalize (lg_sl ([.ref q_t, .int p0, .int p1]) ++ List.replicate (4 - (lg_sl ([.ref q_t, .int p0, .int p1])).length) Slot.unset).toArray = ls at hl ⊢
  have hl : lv_has ls 4 [(0, .ref q_t), (1, .int p0), (2, .int p1)] := hl
  unfold fX8_wrongIn at hf
  refine lv_aload_n hx hb dX8_wrongIn_0 rfl (lv_at hl 0 rfl) ?_
  obtain ⟨u1, u2, hr3, hf⟩ := boE2 hf
  have hPc := hP.sub (ws' := [(q_t, oX8 q_t_shelf q_t_rowSort q_t_rowSize q_t_rows q_t_moved q_t_shown q_t_tape v_t_tapeSize q_t_refused v_t_places q_t_ways v_t_people q_t_kind q_t_by q_t_home q_t_aim q_t_at0 v_t_hour v_t_chance v_t_seed w_t_kept w_t_tried v_t_at v_t_token v_t_from v_t_figures v_t_fault q_t_told v_t_statements q_t_steps q_t_spot q_t_then v_t_now v_t_gone q_t_sights q_t_darkAt q_t_can), (q_t_at0, .inl (cy 0, 8, .inl v_t_at0)), (q_t_spot, .inl (cy 0, 8, .inl v_t_spot))]) [0, 6, 8] rfl
  have hDc := hD.sub (ws' := [(q_t, oX8 q_t_shelf q_t_rowSort q_t_rowSize q_t_rows q_t_moved q_t_shown q_t_tape v_t_tapeSize q_t_refused v_t_places q_t_ways v_t_people q_t_kind q_t_by q_t_home q_t_aim q_t_at0 v_t_hour v_t_chance v_t_seed w_t_kept w_t_tried v_t_at v_t_token v_t_from v_t_figures v_t_fault q_t_told v_t_statements q_t_steps q_t_spot q_t_then v_t_now v_t_gone q_t_sights q_t_darkAt q_t_can), (q_t_at0, .inl (cy 0, 8, .inl v_t_at0)), (q_t_spot, .inl (cy 0, 8, .inl v_t_spot))]) [0, 6, 8] (by decide) rfl
  refine xcQvQ (w1 := [(q_t, oX8 q_t_shelf q_t_rowSort q_t_rowSize q_t_rows q_t_moved q_t_shown q_t_tape v_t_tapeSize q_t_refused v_t_places q_t_ways v_t_people q_t_kind q_t_by q_t_home q_t_aim q_t_at0 v_t_hour v_t_chance v_t_seed w_t_kept w_t_tried v_t_at v_t_token v_t_from v_t_figures v_t_fault q_t_told v_t_statements q_t_steps q_t_spot q_t_then u1 v_t_gone q_t_sights q_t_darkAt q_t_can), (q_t_at0, .inl (cy 0, 8, .inl v_t_at0)), (q_t_spot, .inl (cy 0, 8, .inl u2))]) (va_runV (As := []) (rest := []) ⟨hx, hb, hml, hown, hts⟩ (mX8_begin l D cy q_t q_t_shelf q_t_rowSort q_t_rowSize q_t_rows q_t_moved q_t_shown q_t_tape q_t_refused q_t_ways q_t_kind q_t_by q_t_home q_t_aim q_t_at0 q_t_told q_t_steps q_t_spot q_t_then q_t_sights q_t_darkAt q_t_can v_t_tapeSize v_t_places v_t_people v_t_hour v_t_chance v_t_seed w_t_kept w_t_tried v_t_at v_t_token v_t_from v_t_figures v_t_fault v_t_statements v_t_now v_t_gone v_t_at0 v_t_spot _  hr3) (cwV 0 hts gX8_wrongIn_X8_begin rfl rfl rfl (by decide +kernel) ⟨Nat.le_of_ble_eq_true rfl, Nat.le_of_ble_eq_true rfl⟩) (xPVw hK hPc hDc (ci := 8) (q0 := 0) rfl rfl) rfl rfl hl.1 rfl (lv_room (Nat.le_of_ble_eq_true rfl)) dX8_wrongIn_1 ⟨Nat.le_of_ble_eq_true rfl, Nat.le_of_ble_eq_true rfl⟩) hP hD hS hA [0, 6, 8] rfl rfl (fun H locs hP hD hS => ?_)
  have hP : va_P D vwCl ([(q_t, oX8 q_t_shelf q_t_rowSort q_t_rowSize q_t_rows q_t_moved q_t_shown q_t_tape v_t_tapeSize q_t_refused v_t_places q_t_ways v_t_people q_t_kind q_t_by q_t_home q_t_aim q_t_at0 v_t_hour v_t_chance v_t_seed w_t_kept w_t_tried v_t_at v_t_token v_t_from v_t_figures v_t_fault q_t_told v_t_statements q_t_steps q_t_spot q_t_then u1 v_t_gone q_t_sights q_t_darkAt q_t_can), (q_t_rows, .inl (cy 4, 8, .inr (.inr (.inr (.inr (fun i => some (ad_t_rows i))))))), (q_t_ways, .inl (cy 0, 12, .inl v_t_ways)), (q_t_kind, .inl (cy 0, 8, .inl v_t_kind)), (q_t_home, .inl (cy 0, 8, .inl v_t_home)), (q_t_aim, .inl (cy 0, 8, .inl v_t_aim)), (q_t_at0, .inl (cy 0, 8, .inl v_t_at0)), (q_t_steps, .inl (cy 0, 12, .inl v_t_steps)), (q_t_spot, .inl (cy 0, 8, .inl u2)), (q_t_then, .inl (cy 0, 8, .inl v_t_then))] ++ wFJ cy 8 40 ad_t_rows v_t_rows) H := hP
  have hD : va_D A ([(q_t, oX8 q_t_shelf q_t_rowSort q_t_rowSize q_t_rows q_t_moved q_t_shown q_t_tape v_t_tapeSize q_t_refused v_t_places q_t_ways v_t_people q_t_kind q_t_by q_t_home q_t_aim q_t_at0 v_t_hour v_t_chance v_t_seed w_t_kept w_t_tried v_t_at v_t_token v_t_from v_t_figures v_t_fault q_t_told v_t_statements q_t_steps q_t_spot q_t_then u1 v_t_gone q_t_sights q_t_darkAt q_t_can), (q_t_rows, .inl (cy 4, 8, .inr (.inr (.inr (.inr (fun i => some (ad_t_rows i))))))), (q_t_ways, .inl (cy 0, 12, .inl v_t_ways)), (q_t_kind, .inl (cy 0, 8, .inl v_t_kind)), (q_t_home, .inl (cy 0, 8, .inl v_t_home)), (q_t_aim, .inl (cy 0, 8, .inl v_t_aim)), (q_t_at0, .inl (cy 0, 8, .inl v_t_at0)), (q_t_steps, .inl (cy 0, 12, .inl v_t_steps)), (q_t_spot, .inl (cy 0, 8, .inl u2)), (q_t_then, .inl (cy 0, 8, .inl v_t_then))] ++ wFJ cy 8 40 ad_t_rows v_t_rows) := hD
  refine lv_iconst (v := 0) hx hb dX8_wrongIn_4 (by decide) ?_
  refine lv_istore_n (lv' := [(3, .int (0 : Int32)), (0, .ref q_t), (1, .int p0), (2, .int p1)]) hx hb dX8_wrongIn_5 rfl hl (by decide) rfl (fun ls hl => ?_)
  refine wlw5 6 (fun _ _ _ _ _ => []) (fun (x4 : Int32) (u5 : Int32) (u6 : Nat → Int32) (u7 : Nat → Int32) (u8 : Nat → Int32) H locs ls => va_P D vwCl ([(q_t, oX8 q_t_shelf q_t_rowSort q_t_rowSize q_t_rows q_t_moved q_t_shown q_t_tape v_t_tapeSize q_t_refused v_t_places q_t_ways v_t_people q_t_kind q_t_by q_t_home q_t_aim q_t_at0 v_t_hour v_t_chance v_t_seed w_t_kept w_t_tried v_t_at v_t_token v_t_from v_t_figures v_t_fault q_t_told v_t_statements q_t_steps q_t_spot q_t_then u5 v_t_gone q_t_sights q_t_darkAt q_t_can), (q_t_rows, .inl (cy 4, 8, .inr (.inr (.inr (.inr (fun i => some (ad_t_rows i))))))), (q_t_ways, .inl (cy 0, 12, .inl v_t_ways)), (q_t_kind, .inl (cy 0, 8, .inl v_t_kind)), (q_t_home, .inl (cy 0, 8, .inl v_t_home)), (q_t_aim, .inl (cy 0, 8, .inl v_t_aim)), (q_t_at0, .inl (cy 0, 8, .inl v_t_at0)), (q_t_steps, .inl (cy 0, 12, .inl u6)), (q_t_spot, .inl (cy 0, 8, .inl u7)), (q_t_then, .inl (cy 0, 8, .inl u8))] ++ wFJ cy 8 40 ad_t_rows v_t_rows) H ∧ va_D A ([(q_t, oX8 q_t_shelf q_t_rowSort q_t_rowSize q_t_rows q_t_moved q_t_shown q_t_tape v_t_tapeSize q_t_refused v_t_places q_t_ways v_t_people q_t_kind q_t_by q_t_home q_t_aim q_t_at0 v_t_hour v_t_chance v_t_seed w_t_kept w_t_tried v_t_at v_t_token v_t_from v_t_figures v_t_fault q_t_told v_t_statements q_t_steps q_t_spot q_t_then u5 v_t_gone q_t_sights q_t_darkAt q_t_can), (q_t_rows, .inl (cy 4, 8, .inr (.inr (.inr (.inr (fun i => some (ad_t_rows i))))))), (q_t_ways, .inl (cy 0, 12, .inl v_t_ways)), (q_t_kind, .inl (cy 0, 8, .inl v_t_kind)), (q_t_home, .inl (cy 0, 8, .inl v_t_home)), (q_t_aim, .inl (cy 0, 8, .inl v_t_aim)), (q_t_at0, .inl (cy 0, 8, .inl v_t_at0)), (q_t_steps, .inl (cy 0, 12, .inl u6)), (q_t_spot, .inl (cy 0, 8, .inl u7)), (q_t_then, .inl (cy 0, 8, .inl u8))] ++ wFJ cy 8 40 ad_t_rows v_t_rows) ∧ va_S A s.heap H locs ∧ lv_has ls 4 [(3, .int x4), (0, .ref q_t), (1, .int p0), (2, .int p1)]) (fun g9 L6 x4 u5 u6 u7 u8 H locs ls hI hf => ?_) 400 (0 : Int32) u1 v_t_steps u2 v_t_then _ _ ls ⟨hP, hD, hS, lv_sub hl [0, 1, 2, 3] rfl⟩ hf
  obtain ⟨hP, hD, hS, hl⟩ := hI
  refine lv_iload_n hx hb dX8_wrongIn_6 rfl (lv_at hl 0 rfl) ?_
  refine lv_iload_n hx hb dX8_wrongIn_7 rfl (lv_at hl 3 rfl) ?_
  refine lv_icmp_ge (tgt := 40) hx hb dX8_wrongIn_8 (by decide) (fun c22 => ?_) (fun c22 => ?_)
  · have hf := ifT hf c22
    clear c22
    refine lv_iconst (v := (-1)) hx hb dX8_wrongIn_40 (by decide) ?_
    cases hf
    exact W.iret (v := (-1 : Int32)) hx hb hr (fun t ht hW => ⟨⟨(-1 : Int32), (), rfl, rfl, xend ht hP⟩, hS.F ht⟩) hS.2.2 dX8_wrongIn_41
  · have hf := ifF hf c22
    clear c22
    refine lv_aload_n hx hb dX8_wrongIn_11 rfl (lv_at hl 1 rfl) ?_
    refine va_get (D := D) (ci := 8) (v := .ref q_t_rows) (C := RX8) (T := TX8) (N := 37) hx hb hts hinX8 hown hK.1 hP 0 rfl rfl 3 (by decide) hk21 (fun _ h9 => h9) rfl dX8_wrongIn_12 ?_
    refine lv_iload_n hx hb dX8_wrongIn_15 rfl (lv_at hl 2 rfl) ?_
    obtain ⟨hi10, hf⟩ := ckE hf
    have hj11 : p0.toNatClampNeg < 8 := xlt hi10
    refine va_alda hx hb hK.1 hP 1 4 rfl rfl hi10 dX8_wrongIn_16 ?_
    refine W.eq (g2 := F0 m 17 ls [.ref (ad_t_rows p0.toNatClampNeg)]) rfl ?_
    refine lv_iload_n hx hb dX8_wrongIn_17 rfl (lv_at hl 0 rfl) ?_
    obtain ⟨hi12, hf⟩ := ckE hf
    refine va_lald hx hb hK.1 hP _ 1 (xfj hj11) rfl hi12 dX8_wrongIn_18 ?_
    refine lv_aload_n hx hb dX8_wrongIn_19 rfl (lv_at hl 1 rfl) ?_
    obtain ⟨r13, hr14, hf⟩ := boE1 hf
    have hPc := hP.sub (ws' := [(q_t, oX8 q_t_shelf q_t_rowSort q_t_rowSize q_t_rows q_t_moved q_t_shown q_t_tape v_t_tapeSize q_t_refused v_t_places q_t_ways v_t_people q_t_kind q_t_by q_t_home q_t_aim q_t_at0 v_t_hour v_t_chance v_t_seed w_t_kept w_t_tried v_t_at v_t_token v_t_from v_t_figures v_t_fault q_t_told v_t_statements q_t_steps q_t_spot q_t_then u5 v_t_gone q_t_sights q_t_darkAt q_t_can), (q_t_kind, .inl (cy 0, 8, .inl v_t_kind)), (q_t_spot, .inl (cy 0, 8, .inl u7))]) [0, 3, 8] rfl
    refine xcSi (va_runV (As := []) (rest := [.long (v_t_rows p0.toNatClampNeg x4.toNatClampNeg)]) ⟨hx, hb, hml, hown, hts⟩ (mX8_light l D cy q_t q_t_shelf q_t_rowSort q_t_rowSize q_t_rows q_t_moved q_t_shown q_t_tape q_t_refused q_t_ways q_t_kind q_t_by q_t_home q_t_aim q_t_at0 q_t_told q_t_steps q_t_spot q_t_then q_t_sights q_t_darkAt q_t_can v_t_tapeSize v_t_places v_t_people v_t_hour v_t_chance v_t_seed w_t_kept w_t_tried v_t_at v_t_token v_t_from v_t_figures v_t_fault v_t_statements u5 v_t_gone v_t_kind u7   hr14) (cwV 0 hts gX8_wrongIn_X8_light rfl rfl rfl (by decide +kernel) ⟨Nat.le_of_ble_eq_true rfl, Nat.le_of_ble_eq_true rfl⟩) (xPV hK hPc (ci := 8) (q0 := 0) rfl rfl) rfl rfl hl.1 rfl (lv_room (Nat.le_of_ble_eq_true rfl)) dX8_wrongIn_20 ⟨Nat.le_of_ble_eq_true rfl, Nat.le_of_ble_eq_true rfl⟩) ?_
    refine lv_i2l hx hb dX8_wrongIn_23 rfl ?_
    refine W.lcmp hx hb dX8_wrongIn_24 ?_
    refine lv_if_eq (tgt := 30) hx hb dX8_wrongIn_25 (by decide) (fun c21 => ?_) (fun c21 => ?_)
    · have hf := ifT hf c21
      clear c21
      refine lv_aload_n hx hb dX8_wrongIn_30 rfl (lv_at hl 1 rfl) ?_
      obtain ⟨u15, u16, u17, u18, hr19, hf⟩ := boE4 hf
      have hPc := hP.sub (ws' := [(q_t, oX8 q_t_shelf q_t_rowSort q_t_rowSize q_t_rows q_t_moved q_t_shown q_t_tape v_t_tapeSize q_t_refused v_t_places q_t_ways v_t_people q_t_kind q_t_by q_t_home q_t_aim q_t_at0 v_t_hour v_t_chance v_t_seed w_t_kept w_t_tried v_t_at v_t_token v_t_from v_t_figures v_t_fault q_t_told v_t_statements q_t_steps q_t_spot q_t_then u5 v_t_gone q_t_sights q_t_darkAt q_t_can), (q_t_ways, .inl (cy 0, 12, .inl v_t_ways)), (q_t_kind, .inl (cy 0, 8, .inl v_t_kind)), (q_t_home, .inl (cy 0, 8, .inl v_t_home)), (q_t_aim, .inl (cy 0, 8, .inl v_t_aim)), (q_t_steps, .inl (cy 0, 12, .inl u6)), (q_t_spot, .inl (cy 0, 8, .inl u7)), (q_t_then, .inl (cy 0, 8, .inl u8))]) [0, 2, 3, 4, 5, 7, 8, 9] rfl
      have hDc := hD.sub (ws' := [(q_t, oX8 q_t_shelf q_t_rowSort q_t_rowSize q_t_rows q_t_moved q_t_shown q_t_tape v_t_tapeSize q_t_refused v_t_places q_t_ways v_t_people q_t_kind q_t_by q_t_home q_t_aim q_t_at0 v_t_hour v_t_chance v_t_seed w_t_kept w_t_tried v_t_at v_t_token v_t_from v_t_figures v_t_fault q_t_told v_t_statements q_t_steps q_t_spot q_t_then u5 v_t_gone q_t_sights q_t_darkAt q_t_can), (q_t_ways, .inl (cy 0, 12, .inl v_t_ways)), (q_t_kind, .inl (cy 0, 8, .inl v_t_kind)), (q_t_home, .inl (cy 0, 8, .inl v_t_home)), (q_t_aim, .inl (cy 0, 8, .inl v_t_aim)), (q_t_steps, .inl (cy 0, 12, .inl u6)), (q_t_spot, .inl (cy 0, 8, .inl u7)), (q_t_then, .inl (cy 0, 8, .inl u8))]) [0, 2, 3, 4, 5, 7, 8, 9] (by decide) rfl
      refine xcQvQ (w1 := [(q_t, oX8 q_t_shelf q_t_rowSort q_t_rowSize q_t_rows q_t_moved q_t_shown q_t_tape v_t_tapeSize q_t_refused v_t_places q_t_ways v_t_people q_t_kind q_t_by q_t_home q_t_aim q_t_at0 v_t_hour v_t_chance v_t_seed w_t_kept w_t_tried v_t_at v_t_token v_t_from v_t_figures v_t_fault q_t_told v_t_statements q_t_steps q_t_spot q_t_then u15 v_t_gone q_t_sights q_t_darkAt q_t_can), (q_t_ways, .inl (cy 0, 12, .inl v_t_ways)), (q_t_kind, .inl (cy 0, 8, .inl v_t_kind)), (q_t_home, .inl (cy 0, 8, .inl v_t_home)), (q_t_aim, .inl (cy 0, 8, .inl v_t_aim)), (q_t_steps, .inl (cy 0, 12, .inl u16)), (q_t_spot, .inl (cy 0, 8, .inl u17)), (q_t_then, .inl (cy 0, 8, .inl u18))]) (va_runV (As := []) (rest := []) ⟨hx, hb, hml, hown, hts⟩ (mX8_goes l D cy q_t q_t_shelf q_t_rowSort q_t_rowSize q_t_rows q_t_moved q_t_shown q_t_tape q_t_refused q_t_ways q_t_kind q_t_by q_t_home q_t_aim q_t_at0 q_t_told q_t_steps q_t_spot q_t_then q_t_sights q_t_darkAt q_t_can v_t_tapeSize v_t_places v_t_people v_t_hour v_t_chance v_t_seed w_t_kept w_t_tried v_t_at v_t_token v_t_from v_t_figures v_t_fault v_t_statements u5 v_t_gone v_t_ways v_t_kind v_t_home v_t_aim u6 u7 u8 _  hr19) (cwV 0 hts gX8_wrongIn_X8_goes rfl rfl rfl (by decide +kernel) ⟨Nat.le_of_ble_eq_true rfl, Nat.le_of_ble_eq_true rfl⟩) (xPVw hK hPc hDc (ci := 8) (q0 := 0) rfl rfl) rfl rfl hl.1 rfl (lv_room (Nat.le_of_ble_eq_true rfl)) dX8_wrongIn_31 ⟨Nat.le_of_ble_eq_true rfl, Nat.le_of_ble_eq_true rfl⟩) hP hD hS hA [0, 2, 3, 4, 5, 7, 8, 9] rfl rfl (fun H locs hP hD hS => ?_)
      have hP : va_P D vwCl ([(q_t, oX8 q_t_shelf q_t_rowSort q_t_rowSize q_t_rows q_t_moved q_t_shown q_t_tape v_t_tapeSize q_t_refused v_t_places q_t_ways v_t_people q_t_kind q_t_by q_t_home q_t_aim q_t_at0 v_t_hour v_t_chance v_t_seed w_t_kept w_t_tried v_t_at v_t_token v_t_from v_t_figures v_t_fault q_t_told v_t_statements q_t_steps q_t_spot q_t_then u15 v_t_gone q_t_sights q_t_darkAt q_t_can), (q_t_rows, .inl (cy 4, 8, .inr (.inr (.inr (.inr (fun i => some (ad_t_rows i))))))), (q_t_ways, .inl (cy 0, 12, .inl v_t_ways)), (q_t_kind, .inl (cy 0, 8, .inl v_t_kind)), (q_t_home, .inl (cy 0, 8, .inl v_t_home)), (q_t_aim, .inl (cy 0, 8, .inl v_t_aim)), (q_t_at0, .inl (cy 0, 8, .inl v_t_at0)), (q_t_steps, .inl (cy 0, 12, .inl u16)), (q_t_spot, .inl (cy 0, 8, .inl u17)), (q_t_then, .inl (cy 0, 8, .inl u18))] ++ wFJ cy 8 40 ad_t_rows v_t_rows) H := hP
      have hD : va_D A ([(q_t, oX8 q_t_shelf q_t_rowSort q_t_rowSize q_t_rows q_t_moved q_t_shown q_t_tape v_t_tapeSize q_t_refused v_t_places q_t_ways v_t_people q_t_kind q_t_by q_t_home q_t_aim q_t_at0 v_t_hour v_t_chance v_t_seed w_t_kept w_t_tried v_t_at v_t_token v_t_from v_t_figures v_t_fault q_t_told v_t_statements q_t_steps q_t_spot q_t_then u15 v_t_gone q_t_sights q_t_darkAt q_t_can), (q_t_rows, .inl (cy 4, 8, .inr (.inr (.inr (.inr (fun i => some (ad_t_rows i))))))), (q_t_ways, .inl (cy 0, 12, .inl v_t_ways)), (q_t_kind, .inl (cy 0, 8, .inl v_t_kind)), (q_t_home, .inl (cy 0, 8, .inl v_t_home)), (q_t_aim, .inl (cy 0, 8, .inl v_t_aim)), (q_t_at0, .inl (cy 0, 8, .inl v_t_at0)), (q_t_steps, .inl (cy 0, 12, .inl u16)), (q_t_spot, .inl (cy 0, 8, .inl u17)), (q_t_then, .inl (cy 0, 8, .inl u18))] ++ wFJ cy 8 40 ad_t_rows v_t_rows) := hD
      obtain ⟨x20, ex20⟩ : ∃ y : Int32, y = x4 + (1 : Int32) := ⟨_, rfl⟩
      have hf := vlE hf ex20
      refine lv_iinc (v := x20) (lv' := [(3, .int x20), (0, .ref q_t), (1, .int p0), (2, .int p1)]) hx hb dX8_wrongIn_34 hl (k := 0) rfl (by rw [ex20]; rfl) (by decide) rfl (fun ls hl => ?_)
      clear ex20
      refine lv_goto (tgt := 6) hx hb dX8_wrongIn_37 (by decide) ?_
      exact L6 x20 u15 u16 u17 u18 _ _ ls ⟨hP, hD, hS, lv_sub hl [0, 1, 2, 3] rfl⟩ hf
    · have hf := ifF hf c21
      clear c21
      refine lv_iload_n hx hb dX8_wrongIn_28 rfl (lv_at hl 0 rfl) ?_
      cases hf
      exact W.iret hx hb hr (fun t ht hW => ⟨⟨_, (), rfl, rfl, xend ht hP⟩, hS.F ht⟩) hS.2.2 dX8_wrongIn_29
def fX8_noWatch (v_t_shelf : Nat → Int32) (v_t_rowSize : Nat → Int32) (v_t_refused : Nat → Int32) (p0 : Int32) (p1 : Int32) (p2 : Int32) : Option (Int32 × (Nat → Int32)) :=
  bo1 (fX8_in p0.toInt64 (0 : Int64) (7 : Int64)) fun r1 =>
  jo0 (
    bo2 (fX8_refuse v_t_refused (-2 : Int32)) fun r4 u5 =>
    some (r4, u5)) fun k3 =>
  if r1 = 0 then
    k3
  else
    bo1 (fX8_in p1.toInt64 (0 : Int64) (40 : Int64)) fun r7 =>
    if r7 = 0 then
      k3
    else
      if p2 = 0 then
        k3
      else
        bo2 (fX8_noRow v_t_shelf v_t_refused p0) fun r9 u10 =>
        if r9 = 0 then
          if p0 < 0 ∨ 8 ≤ p0.toNatClampNeg then none else
          if p1 ≤ (v_t_rowSize p0.toNatClampNeg) then
            some ((0 : Int32), u10)
          else
            bo2 (fX8_refuse u10 (-2 : Int32)) fun r13 u14 =>
            some (r13, u14)
        else
          some (r9, u10)
set_option maxHeartbeats 4000000 in
set_option maxRecDepth 100000 in
theorem mX8_noWatch (l : Launch) (D : va_G) (cy : Nat → ClassId) (q_t q_t_shelf q_t_rowSort q_t_rowSize q_t_rows q_t_moved q_t_shown q_t_tape q_t_refused q_t_ways q_t_kind q_t_by q_t_home q_t_aim q_t_at0 q_t_told q_t_steps q_t_spot q_t_then q_t_sights q_t_darkAt q_t_can : Nat) (v_t_tapeSize : Int32) (v_t_places : Int32) (v_t_people : Int32) (v_t_hour : Int32) (v_t_chance : Int32) (v_t_seed : Int32) (w_t_kept : Value) (w_t_tried : Value) (v_t_at : Int32) (v_t_token : Int32) (v_t_from : Int32) (v_t_figures : Int32) (v_t_fault : Int32) (v_t_statements : Int32) (v_t_now : Int32) (v_t_gone : Int32) (v_t_shelf : Nat → Int32) (v_t_rowSize : Nat → Int32) (v_t_refused : Nat → Int32) (sz : Nat) (p0 : Int32) (p1 : Int32) (p2 : Int32) {r_ : Int32} {n_t_refused : Nat → Int32} (hf : fX8_noWatch v_t_shelf v_t_rowSize v_t_refused p0 p1 p2 = some (r_, n_t_refused)) : Met l yX8_noWatch wsX8_noWatch ({ frames := 2, cells := 0, slots := 0, locals := 46 }) (va_Pc [.ref q_t, .int p0, .int p1, .int p2] (fun U => U.heap.size = sz ∧ va_P D vwCl [(q_t, oX8 q_t_shelf q_t_rowSort q_t_rowSize q_t_rows q_t_moved q_t_shown q_t_tape v_t_tapeSize q_t_refused v_t_places q_t_ways v_t_people q_t_kind q_t_by q_t_home q_t_aim q_t_at0 v_t_hour v_t_chance v_t_seed w_t_kept w_t_tried v_t_at v_t_token v_t_from v_t_figures v_t_fault q_t_told v_t_statements q_t_steps q_t_spot q_t_then v_t_now v_t_gone q_t_sights q_t_darkAt q_t_can), (q_t_shelf, .inl (cy 0, 8, .inl v_t_shelf)), (q_t_rowSize, .inl (cy 0, 8, .inl v_t_rowSize)), (q_t_refused, .inl (cy 0, 8, .inl v_t_refused))] U.heap ∧ xK D cy U ∧ va_D (fun _ => True) [(q_t, oX8 q_t_shelf q_t_rowSort q_t_rowSize q_t_rows q_t_moved q_t_shown q_t_tape v_t_tapeSize q_t_refused v_t_places q_t_ways v_t_people q_t_kind q_t_by q_t_home q_t_aim q_t_at0 v_t_hour v_t_chance v_t_seed w_t_kept w_t_tried v_t_at v_t_token v_t_from v_t_figures v_t_fault q_t_told v_t_statements q_t_steps q_t_spot q_t_then v_t_now v_t_gone q_t_sights q_t_darkAt q_t_can), (q_t_shelf, .inl (cy 0, 8, .inl v_t_shelf)), (q_t_rowSize, .inl (cy 0, 8, .inl v_t_rowSize)), (q_t_refused, .inl (cy 0, 8, .inl v_t_refused))])) (va_Qi (fun (x : Int32) (_ : Unit) => x = r_) (fun _ t => va_P D vwCl [(q_t, oX8 q_t_shelf q_t_rowSort q_t_rowSize q_t_rows q_t_moved q_t_shown q_t_tape v_t_tapeSize q_t_refused v_t_places q_t_ways v_t_people q_t_kind q_t_by q_t_home q_t_aim q_t_at0 v_t_hour v_t_chance v_t_seed w_t_kept w_t_tried v_t_at v_t_token v_t_from v_t_figures v_t_fault q_t_told v_t_statements q_t_steps q_t_spot q_t_then v_t_now v_t_gone q_t_sights q_t_darkAt q_t_can), (q_t_shelf, .inl (cy 0, 8, .inl v_t_shelf)), (q_t_rowSize, .inl (cy 0, 8, .inl v_t_rowSize)), (q_t_refused, .inl (cy 0, 8, .inl n_t_refused))] t.heap) (va_A [(q_t, oX8 q_t_shelf q_t_rowSort q_t_rowSize q_t_rows q_t_moved q_t_shown q_t_tape v_t_tapeSize q_t_refused v_t_places q_t_ways v_t_people q_t_kind q_t_by q_t_home q_t_aim q_t_at0 v_t_hour v_t_chance v_t_seed w_t_kept w_t_tried v_t_at v_t_token v_t_from v_t_figures v_t_fault q_t_told v_t_statements q_t_steps q_t_spot q_t_then v_t_now v_t_gone q_t_sights q_t_darkAt q_t_can), (q_t_shelf, .inl (cy 0, 8, .inl v_t_shelf)), (q_t_rowSize, .inl (cy 0, 8, .inl v_t_rowSize)), (q_t_refused, .inl (cy 0, 8, .inl v_t_refused))] sz)) 0 0 (va_A [(q_t, oX8 q_t_shelf q_t_rowSort q_t_rowSize q_t_rows q_t_moved q_t_shown q_t_tape v_t_tapeSize q_t_refused v_t_places q_t_ways v_t_people q_t_kind q_t_by q_t_home q_t_aim q_t_at0 v_t_hour v_t_chance v_t_seed w_t_kept w_t_tried v_t_at v_t_token v_t_from v_t_figures v_t_fault q_t_told v_t_statements q_t_steps q_t_spot q_t_then v_t_now v_t_gone q_t_sights q_t_darkAt q_t_can), (q_t_shelf, .inl (cy 0, 8, .inl v_t_shelf)), (q_t_rowSize, .inl (cy 0, 8, .inl v_t_rowSize)), (q_t_refused, .inl (cy 0, 8, .inl v_t_refused))] sz) := by
  refine Met.ofW (cc := cX8_noWatch) (maxL := 5) (ret := (some .int)) (by decide) rfl ?_
  intro p e s m args below meth c s₁ B hml hv
  obtain ⟨rfl, hsz, hP, hK, hD0⟩ := hv
  have hx := B.exec
  have hb := B.bytes
  have hr := B.returns
  have hts := atoms_spec (ws := wsX8_noWatch) B.pre
  have hown : s.vm.findClass RX8 = some m.cls := findClass_of_methodNamed B.named
  have hlocks := B.notSynchronized
  subst hsz
  have hD := hD0.self (sz := s.heap.size)
  generalize hAe : va_A [(q_t, oX8 q_t_shelf q_t_rowSort q_t_rowSize q_t_rows q_t_moved q_t_shown q_t_tape v_t_tapeSize q_t_refused v_t_places q_t_ways v_t_people q_t_kind q_t_by q_t_home q_t_aim q_t_at0 v_t_hour v_t_chance v_t_seed w_t_kept w_t_tried v_t_at v_t_token v_t_from v_t_figures v_t_fault q_t_told v_t_statements q_t_steps q_t_spot q_t_then v_t_now v_t_gone q_t_sights q_t_darkAt q_t_can), (q_t_shelf, .inl (cy 0, 8, .inl v_t_shelf)), (q_t_rowSize, .inl (cy 0, 8, .inl v_t_rowSize)), (q_t_refused, .inl (cy 0, 8, .inl v_t_refused))] s.heap.size = A at hD ⊢
  have hA : ∀ q : Nat, s.heap.size ≤ q → A q := fun q h => by rw [← hAe]; exact Or.inr h
  have hS : va_S A s.heap s.heap [] := va_S.rf
  have hP : va_P D vwCl [(q_t, oX8 q_t_shelf q_t_rowSort q_t_rowSize q_t_rows q_t_moved q_t_shown q_t_tape v_t_tapeSize q_t_refused v_t_places q_t_ways v_t_people q_t_kind q_t_by q_t_home q_t_aim q_t_at0 v_t_hour v_t_chance v_t_seed w_t_kept w_t_tried v_t_at v_t_token v_t_from v_t_figures v_t_fault q_t_told v_t_statements q_t_steps q_t_spot q_t_then v_t_now v_t_gone q_t_sights q_t_darkAt q_t_can), (q_t_shelf, .inl (cy 0, 8, .inl v_t_shelf)), (q_t_rowSize, .inl (cy 0, 8, .inl v_t_rowSize)), (q_t_refused, .inl (cy 0, 8, .inl v_t_refused))] s.heap := hP
  have hc98 := hts (.constantLong RX8 98 (7)) (by decide +kernel)
  have hc102 := hts (.constantLong RX8 102 (40)) (by decide +kernel)
  have hinX8 : ∀ w ∈ u_ws RX8 TX8 37, w ∈ wsX8_noWatch := by decide +kernel
  have hk16 := hts (.fieldLink RX8 16 "ShowsWhereNobodyIsModel" "rowSize" "[I") (by decide +kernel)
  have hl := lv_entry ([.ref q_t, .int p0, .int p1, .int p2]) (n := 5) (Nat.le_of_ble_eq_true rfl)
  rw [lg_entry_eq]
  generalize (lg_sl ([.ref q_t, .int p0, .int p1, .int p2]) ++ List.replicate (5 - (lg_sl ([.ref q_t, .int p0, .int p1, .int p2])).length) Slot.unset).toArray = ls at hl ⊢
  have hl : lv_has ls 5 [(0, .ref q_t), (1, .int p0), (2, .int p1), (3, .int p2)] := hl
  unfold fX8_noWatch at hf
  refine lv_iload_n hx hb dX8_noWatch_0 rfl (lv_at hl 1 rfl) ?_
  refine lv_i2l hx hb dX8_noWatch_1 rfl ?_
  refine lv_lconst (v := 0) hx hb dX8_noWatch_2 (by decide) ?_
  refine lv_ldc2 hx hb hown hc98 dX8_noWatch_3 ?_
  obtain ⟨r1, hr2, hf⟩ := boE1 hf
  have hPc := hP.sub (ws' := []) [] rfl
  refine xcSi (va_runS (As := [.long p0.toInt64, .long (0 : Int64), .long (7 : Int64)]) (rest := []) ⟨hx, hb, hml, hown, hts⟩ (mX8_in l D cy    p0.toInt64 (0 : Int64) (7 : Int64) hr2) (va_cwS 3 hts gX8_noWatch_X8_in rfl rfl rfl (by decide +kernel) ⟨Nat.le_of_ble_eq_true rfl, Nat.le_of_ble_eq_true rfl⟩) (xPS hK hPc) rfl rfl hl.1 rfl (lv_room (Nat.le_of_ble_eq_true rfl)) dX8_noWatch_6 ⟨Nat.le_of_ble_eq_true rfl, Nat.le_of_ble_eq_true rfl⟩) ?_
  refine jww0 28 [] (fun  H locs ls => va_P D vwCl [(q_t, oX8 q_t_shelf q_t_rowSort q_t_rowSize q_t_rows q_t_moved q_t_shown q_t_tape v_t_tapeSize q_t_refused v_t_places q_t_ways v_t_people q_t_kind q_t_by q_t_home q_t_aim q_t_at0 v_t_hour v_t_chance v_t_seed w_t_kept w_t_tried v_t_at v_t_token v_t_from v_t_figures v_t_fault q_t_told v_t_statements q_t_steps q_t_spot q_t_then v_t_now v_t_gone q_t_sights q_t_darkAt q_t_can), (q_t_shelf, .inl (cy 0, 8, .inl v_t_shelf)), (q_t_rowSize, .inl (cy 0, 8, .inl v_t_rowSize)), (q_t_refused, .inl (cy 0, 8, .inl v_t_refused))] H ∧ va_D A [(q_t, oX8 q_t_shelf q_t_rowSort q_t_rowSize q_t_rows q_t_moved q_t_shown q_t_tape v_t_tapeSize q_t_refused v_t_places q_t_ways v_t_people q_t_kind q_t_by q_t_home q_t_aim q_t_at0 v_t_hour v_t_chance v_t_seed w_t_kept w_t_tried v_t_at v_t_token v_t_from v_t_figures v_t_fault q_t_told v_t_statements q_t_steps q_t_spot q_t_then v_t_now v_t_gone q_t_sights q_t_darkAt q_t_can), (q_t_shelf, .inl (cy 0, 8, .inl v_t_shelf)), (q_t_rowSize, .inl (cy 0, 8, .inl v_t_rowSize)), (q_t_refused, .inl (cy 0, 8, .inl v_t_refused))] ∧ va_S A s.heap H locs ∧ lv_has ls 5 [(0, .ref q_t)]) hf (fun  H locs ls hI hf => ?_) (fun k3 J28 hf => ?_)
  · obtain ⟨hP, hD, hS, hl⟩ := hI
    refine lv_aload_n hx hb dX8_noWatch_28 rfl (lv_at hl 0 rfl) ?_
    refine lv_bipush (v := (-2)) hx hb dX8_noWatch_29 (by decide) ?_
    obtain ⟨r4, u5, hr6, hf⟩ := boE2 hf
    have hPc := hP.sub (ws' := [(q_t, oX8 q_t_shelf q_t_rowSort q_t_rowSize q_t_rows q_t_moved q_t_shown q_t_tape v_t_tapeSize q_t_refused v_t_places q_t_ways v_t_people q_t_kind q_t_by q_t_home q_t_aim q_t_at0 v_t_hour v_t_chance v_t_seed w_t_kept w_t_tried v_t_at v_t_token v_t_from v_t_figures v_t_fault q_t_told v_t_statements q_t_steps q_t_spot q_t_then v_t_now v_t_gone q_t_sights q_t_darkAt q_t_can), (q_t_refused, .inl (cy 0, 8, .inl v_t_refused))]) [0, 3] rfl
    have hDc := hD.sub (ws' := [(q_t, oX8 q_t_shelf q_t_rowSort q_t_rowSize q_t_rows q_t_moved q_t_shown q_t_tape v_t_tapeSize q_t_refused v_t_places q_t_ways v_t_people q_t_kind q_t_by q_t_home q_t_aim q_t_at0 v_t_hour v_t_chance v_t_seed w_t_kept w_t_tried v_t_at v_t_token v_t_from v_t_figures v_t_fault q_t_told v_t_statements q_t_steps q_t_spot q_t_then v_t_now v_t_gone q_t_sights q_t_darkAt q_t_can), (q_t_refused, .inl (cy 0, 8, .inl v_t_refused))]) [0, 3] (by decide) rfl
    refine xcQi (w1 := [(q_t, oX8 q_t_shelf q_t_rowSort q_t_rowSize q_t_rows q_t_moved q_t_shown q_t_tape v_t_tapeSize q_t_refused v_t_places q_t_ways v_t_people q_t_kind q_t_by q_t_home q_t_aim q_t_at0 v_t_hour v_t_chance v_t_seed w_t_kept w_t_tried v_t_at v_t_token v_t_from v_t_figures v_t_fault q_t_told v_t_statements q_t_steps q_t_spot q_t_then v_t_now v_t_gone q_t_sights q_t_darkAt q_t_can), (q_t_refused, .inl (cy 0, 8, .inl u5))]) (va_runV (As := [.int (-2 : Int32)]) (rest := []) ⟨hx, hb, hml, hown, hts⟩ (mX8_refuse l D cy q_t q_t_shelf q_t_rowSort q_t_rowSize q_t_rows q_t_moved q_t_shown q_t_tape q_t_refused q_t_ways q_t_kind q_t_by q_t_home q_t_aim q_t_at0 q_t_told q_t_steps q_t_spot q_t_then q_t_sights q_t_darkAt q_t_can v_t_tapeSize v_t_places v_t_people v_t_hour v_t_chance v_t_seed w_t_kept w_t_tried v_t_at v_t_token v_t_from v_t_figures v_t_fault v_t_statements v_t_now v_t_gone v_t_refused _ (-2 : Int32) hr6) (cwV 1 hts gX8_noWatch_X8_refuse rfl rfl rfl (by decide +kernel) ⟨Nat.le_of_ble_eq_true rfl, Nat.le_of_ble_eq_true rfl⟩) (xPVw hK hPc hDc (ci := 8) (q0 := 0) rfl rfl) rfl rfl hl.1 rfl (lv_room (Nat.le_of_ble_eq_true rfl)) dX8_noWatch_31 ⟨Nat.le_of_ble_eq_true rfl, Nat.le_of_ble_eq_true rfl⟩) hP hD hS hA [0, 3] rfl rfl (fun H locs hP hD hS => ?_)
    have hP : va_P D vwCl [(q_t, oX8 q_t_shelf q_t_rowSort q_t_rowSize q_t_rows q_t_moved q_t_shown q_t_tape v_t_tapeSize q_t_refused v_t_places q_t_ways v_t_people q_t_kind q_t_by q_t_home q_t_aim q_t_at0 v_t_hour v_t_chance v_t_seed w_t_kept w_t_tried v_t_at v_t_token v_t_from v_t_figures v_t_fault q_t_told v_t_statements q_t_steps q_t_spot q_t_then v_t_now v_t_gone q_t_sights q_t_darkAt q_t_can), (q_t_shelf, .inl (cy 0, 8, .inl v_t_shelf)), (q_t_rowSize, .inl (cy 0, 8, .inl v_t_rowSize)), (q_t_refused, .inl (cy 0, 8, .inl u5))] H := hP
    have hD : va_D A [(q_t, oX8 q_t_shelf q_t_rowSort q_t_rowSize q_t_rows q_t_moved q_t_shown q_t_tape v_t_tapeSize q_t_refused v_t_places q_t_ways v_t_people q_t_kind q_t_by q_t_home q_t_aim q_t_at0 v_t_hour v_t_chance v_t_seed w_t_kept w_t_tried v_t_at v_t_token v_t_from v_t_figures v_t_fault q_t_told v_t_statements q_t_steps q_t_spot q_t_then v_t_now v_t_gone q_t_sights q_t_darkAt q_t_can), (q_t_shelf, .inl (cy 0, 8, .inl v_t_shelf)), (q_t_rowSize, .inl (cy 0, 8, .inl v_t_rowSize)), (q_t_refused, .inl (cy 0, 8, .inl u5))] := hD
    cases hf
    exact W.iret hx hb hr (fun t ht hW => ⟨⟨_, (), rfl, rfl, xend ht hP⟩, hS.F ht⟩) hS.2.2 dX8_noWatch_34
  · refine lv_if_eq (tgt := 28) hx hb dX8_noWatch_9 (by decide) (fun c20 => ?_) (fun c20 => ?_)
    · have hf := ifT hf c20
      clear c20
      exact J28 _ _ ls ⟨hP, hD, hS, lv_sub hl [0] rfl⟩ hf
    · have hf := ifF hf c20
      clear c20
      refine lv_iload_n hx hb dX8_noWatch_12 rfl (lv_at hl 2 rfl) ?_
      refine lv_i2l hx hb dX8_noWatch_13 rfl ?_
      refine lv_lconst (v := 0) hx hb dX8_noWatch_14 (by decide) ?_
      refine lv_ldc2 hx hb hown hc102 dX8_noWatch_15 ?_
      obtain ⟨r7, hr8, hf⟩ := boE1 hf
      have hPc := hP.sub (ws' := []) [] rfl
      refine xcSi (va_runS (As := [.long p1.toInt64, .long (0 : Int64), .long (40 : Int64)]) (rest := []) ⟨hx, hb, hml, hown, hts⟩ (mX8_in l D cy    p1.toInt64 (0 : Int64) (40 : Int64) hr8) (va_cwS 3 hts gX8_noWatch_X8_in rfl rfl rfl (by decide +kernel) ⟨Nat.le_of_ble_eq_true rfl, Nat.le_of_ble_eq_true rfl⟩) (xPS hK hPc) rfl rfl hl.1 rfl (lv_room (Nat.le_of_ble_eq_true rfl)) dX8_noWatch_18 ⟨Nat.le_of_ble_eq_true rfl, Nat.le_of_ble_eq_true rfl⟩) ?_
      refine lv_if_eq (tgt := 28) hx hb dX8_noWatch_21 (by decide) (fun c19 => ?_) (fun c19 => ?_)
      · have hf := ifT hf c19
        clear c19
        exact J28 _ _ ls ⟨hP, hD, hS, lv_sub hl [0] rfl⟩ hf
      · have hf := ifF hf c19
        clear c19
        refine lv_iload_n hx hb dX8_noWatch_24 rfl (lv_at hl 3 rfl) ?_
        refine lv_if_ne (tgt := 35) hx hb dX8_noWatch_25 (by decide) (fun c18 => ?_) (fun c18 => ?_)
        · have hf := ifF hf c18
          clear c18
          refine lv_aload_n hx hb dX8_noWatch_35 rfl (lv_at hl 0 rfl) ?_
          refine lv_iload_n hx hb dX8_noWatch_36 rfl (lv_at hl 1 rfl) ?_
          obtain ⟨r9, u10, hr11, hf⟩ := boE2 hf
          have hPc := hP.sub (ws' := [(q_t, oX8 q_t_shelf q_t_rowSort q_t_rowSize q_t_rows q_t_moved q_t_shown q_t_tape v_t_tapeSize q_t_refused v_t_places q_t_ways v_t_people q_t_kind q_t_by q_t_home q_t_aim q_t_at0 v_t_hour v_t_chance v_t_seed w_t_kept w_t_tried v_t_at v_t_token v_t_from v_t_figures v_t_fault q_t_told v_t_statements q_t_steps q_t_spot q_t_then v_t_now v_t_gone q_t_sights q_t_darkAt q_t_can), (q_t_shelf, .inl (cy 0, 8, .inl v_t_shelf)), (q_t_refused, .inl (cy 0, 8, .inl v_t_refused))]) [0, 1, 3] rfl
          have hDc := hD.sub (ws' := [(q_t, oX8 q_t_shelf q_t_rowSort q_t_rowSize q_t_rows q_t_moved q_t_shown q_t_tape v_t_tapeSize q_t_refused v_t_places q_t_ways v_t_people q_t_kind q_t_by q_t_home q_t_aim q_t_at0 v_t_hour v_t_chance v_t_seed w_t_kept w_t_tried v_t_at v_t_token v_t_from v_t_figures v_t_fault q_t_told v_t_statements q_t_steps q_t_spot q_t_then v_t_now v_t_gone q_t_sights q_t_darkAt q_t_can), (q_t_shelf, .inl (cy 0, 8, .inl v_t_shelf)), (q_t_refused, .inl (cy 0, 8, .inl v_t_refused))]) [0, 1, 3] (by decide) rfl
          refine xcQi (w1 := [(q_t, oX8 q_t_shelf q_t_rowSort q_t_rowSize q_t_rows q_t_moved q_t_shown q_t_tape v_t_tapeSize q_t_refused v_t_places q_t_ways v_t_people q_t_kind q_t_by q_t_home q_t_aim q_t_at0 v_t_hour v_t_chance v_t_seed w_t_kept w_t_tried v_t_at v_t_token v_t_from v_t_figures v_t_fault q_t_told v_t_statements q_t_steps q_t_spot q_t_then v_t_now v_t_gone q_t_sights q_t_darkAt q_t_can), (q_t_shelf, .inl (cy 0, 8, .inl v_t_shelf)), (q_t_refused, .inl (cy 0, 8, .inl u10))]) (va_runV (As := [.int p0]) (rest := []) ⟨hx, hb, hml, hown, hts⟩ (mX8_noRow l D cy q_t q_t_shelf q_t_rowSort q_t_rowSize q_t_rows q_t_moved q_t_shown q_t_tape q_t_refused q_t_ways q_t_kind q_t_by q_t_home q_t_aim q_t_at0 q_t_told q_t_steps q_t_spot q_t_then q_t_sights q_t_darkAt q_t_can v_t_tapeSize v_t_places v_t_people v_t_hour v_t_chance v_t_seed w_t_kept w_t_tried v_t_at v_t_token v_t_from v_t_figures v_t_fault v_t_statements v_t_now v_t_gone v_t_shelf v_t_refused _ p0 hr11) (cwV 1 hts gX8_noWatch_X8_noRow rfl rfl rfl (by decide +kernel) ⟨Nat.le_of_ble_eq_true rfl, Nat.le_of_ble_eq_true rfl⟩) (xPVw hK hPc hDc (ci := 8) (q0 := 0) rfl rfl) rfl rfl hl.1 rfl (lv_room (Nat.le_of_ble_eq_true rfl)) dX8_noWatch_37 ⟨Nat.le_of_ble_eq_true rfl, Nat.le_of_ble_eq_true rfl⟩) hP hD hS hA [0, 1, 3] rfl rfl (fun H locs hP hD hS => ?_)
          have hP : va_P D vwCl [(q_t, oX8 q_t_shelf q_t_rowSort q_t_rowSize q_t_rows q_t_moved q_t_shown q_t_tape v_t_tapeSize q_t_refused v_t_places q_t_ways v_t_people q_t_kind q_t_by q_t_home q_t_aim q_t_at0 v_t_hour v_t_chance v_t_seed w_t_kept w_t_tried v_t_at v_t_token v_t_from v_t_figures v_t_fault q_t_told v_t_statements q_t_steps q_t_spot q_t_then v_t_now v_t_gone q_t_sights q_t_darkAt q_t_can), (q_t_shelf, .inl (cy 0, 8, .inl v_t_shelf)), (q_t_rowSize, .inl (cy 0, 8, .inl v_t_rowSize)), (q_t_refused, .inl (cy 0, 8, .inl u10))] H := hP
          have hD : va_D A [(q_t, oX8 q_t_shelf q_t_rowSort q_t_rowSize q_t_rows q_t_moved q_t_shown q_t_tape v_t_tapeSize q_t_refused v_t_places q_t_ways v_t_people q_t_kind q_t_by q_t_home q_t_aim q_t_at0 v_t_hour v_t_chance v_t_seed w_t_kept w_t_tried v_t_at v_t_token v_t_from v_t_figures v_t_fault q_t_told v_t_statements q_t_steps q_t_spot q_t_then v_t_now v_t_gone q_t_sights q_t_darkAt q_t_can), (q_t_shelf, .inl (cy 0, 8, .inl v_t_shelf)), (q_t_rowSize, .inl (cy 0, 8, .inl v_t_rowSize)), (q_t_refused, .inl (cy 0, 8, .inl u10))] := hD
          refine lv_istore (lv' := [(4, .int r9), (0, .ref q_t), (1, .int p0), (2, .int p1), (3, .int p2)]) hx hb dX8_noWatch_40 hl (by decide) rfl (fun ls hl => ?_)
          refine lv_iload hx hb dX8_noWatch_42 (lv_at hl 0 rfl) ?_
          refine lv_if_eq (tgt := 50) hx hb dX8_noWatch_44 (by decide) (fun c17 => ?_) (fun c17 => ?_)
          · have hf := ifT hf c17
            clear c17
            refine lv_aload_n hx hb dX8_noWatch_50 rfl (lv_at hl 1 rfl) ?_
            refine va_get (D := D) (ci := 8) (v := .ref q_t_rowSize) (C := RX8) (T := TX8) (N := 37) hx hb hts hinX8 hown hK.1 hP 0 rfl rfl 2 (by decide) hk16 (fun _ h9 => h9) rfl dX8_noWatch_51 ?_
            refine lv_iload_n hx hb dX8_noWatch_54 rfl (lv_at hl 2 rfl) ?_
            obtain ⟨hi12, hf⟩ := ckE hf
            refine va_iald hx hb hK.1 hP 2 0 rfl rfl hi12 dX8_noWatch_55 ?_
            refine lv_iload_n hx hb dX8_noWatch_56 rfl (lv_at hl 3 rfl) ?_
            refine lv_icmp_ge (tgt := 69) hx hb dX8_noWatch_57 (by decide) (fun c16 => ?_) (fun c16 => ?_)
            · have hf := ifT hf c16
              clear c16
              refine lv_iconst (v := 0) hx hb dX8_noWatch_69 (by decide) ?_
              cases hf
              exact W.iret (v := (0 : Int32)) hx hb hr (fun t ht hW => ⟨⟨(0 : Int32), (), rfl, rfl, xend ht hP⟩, hS.F ht⟩) hS.2.2 dX8_noWatch_70
            · have hf := ifF hf c16
              clear c16
              refine lv_aload_n hx hb dX8_noWatch_60 rfl (lv_at hl 1 rfl) ?_
              refine lv_bipush (v := (-2)) hx hb dX8_noWatch_61 (by decide) ?_
              obtain ⟨r13, u14, hr15, hf⟩ := boE2 hf
              have hPc := hP.sub (ws' := [(q_t, oX8 q_t_shelf q_t_rowSort q_t_rowSize q_t_rows q_t_moved q_t_shown q_t_tape v_t_tapeSize q_t_refused v_t_places q_t_ways v_t_people q_t_kind q_t_by q_t_home q_t_aim q_t_at0 v_t_hour v_t_chance v_t_seed w_t_kept w_t_tried v_t_at v_t_token v_t_from v_t_figures v_t_fault q_t_told v_t_statements q_t_steps q_t_spot q_t_then v_t_now v_t_gone q_t_sights q_t_darkAt q_t_can), (q_t_refused, .inl (cy 0, 8, .inl u10))]) [0, 3] rfl
              have hDc := hD.sub (ws' := [(q_t, oX8 q_t_shelf q_t_rowSort q_t_rowSize q_t_rows q_t_moved q_t_shown q_t_tape v_t_tapeSize q_t_refused v_t_places q_t_ways v_t_people q_t_kind q_t_by q_t_home q_t_aim q_t_at0 v_t_hour v_t_chance v_t_seed w_t_kept w_t_tried v_t_at v_t_token v_t_from v_t_figures v_t_fault q_t_told v_t_statements q_t_steps q_t_spot q_t_then v_t_now v_t_gone q_t_sights q_t_darkAt q_t_can), (q_t_refused, .inl (cy 0, 8, .inl u10))]) [0, 3] (by decide) rfl
              refine xcQi (w1 := [(q_t, oX8 q_t_shelf q_t_rowSort q_t_rowSize q_t_rows q_t_moved q_t_shown q_t_tape v_t_tapeSize q_t_refused v_t_places q_t_ways v_t_people q_t_kind q_t_by q_t_home q_t_aim q_t_at0 v_t_hour v_t_chance v_t_seed w_t_kept w_t_tried v_t_at v_t_token v_t_from v_t_figures v_t_fault q_t_told v_t_statements q_t_steps q_t_spot q_t_then v_t_now v_t_gone q_t_sights q_t_darkAt q_t_can), (q_t_refused, .inl (cy 0, 8, .inl u14))]) (va_runV (As := [.int (-2 : Int32)]) (rest := []) ⟨hx, hb, hml, hown, hts⟩ (mX8_refuse l D cy q_t q_t_shelf q_t_rowSort q_t_rowSize q_t_rows q_t_moved q_t_shown q_t_tape q_t_refused q_t_ways q_t_kind q_t_by q_t_home q_t_aim q_t_at0 q_t_told q_t_steps q_t_spot q_t_then q_t_sights q_t_darkAt q_t_can v_t_tapeSize v_t_places v_t_people v_t_hour v_t_chance v_t_seed w_t_kept w_t_tried v_t_at v_t_token v_t_from v_t_figures v_t_fault v_t_statements v_t_now v_t_gone u10 _ (-2 : Int32) hr15) (cwV 1 hts gX8_noWatch_X8_refuse rfl rfl rfl (by decide +kernel) ⟨Nat.le_of_ble_eq_true rfl, Nat.le_of_ble_eq_true rfl⟩) (xPVw hK hPc hDc (ci := 8) (q0 := 0) rfl rfl) rfl rfl hl.1 rfl (lv_room (Nat.le_of_ble_eq_true rfl)) dX8_noWatch_63 ⟨Nat.le_of_ble_eq_true rfl, Nat.le_of_ble_eq_true rfl⟩) hP hD hS hA [0, 3] rfl rfl (fun H locs hP hD hS => ?_)
              have hP : va_P D vwCl [(q_t, oX8 q_t_shelf q_t_rowSort q_t_rowSize q_t_rows q_t_moved q_t_shown q_t_tape v_t_tapeSize q_t_refused v_t_places q_t_ways v_t_people q_t_kind q_t_by q_t_home q_t_aim q_t_at0 v_t_hour v_t_chance v_t_seed w_t_kept w_t_tried v_t_at v_t_token v_t_from v_t_figures v_t_fault q_t_told v_t_statements q_t_steps q_t_spot q_t_then v_t_now v_t_gone q_t_sights q_t_darkAt q_t_can), (q_t_shelf, .inl (cy 0, 8, .inl v_t_shelf)), (q_t_rowSize, .inl (cy 0, 8, .inl v_t_rowSize)), (q_t_refused, .inl (cy 0, 8, .inl u14))] H := hP
              have hD : va_D A [(q_t, oX8 q_t_shelf q_t_rowSort q_t_rowSize q_t_rows q_t_moved q_t_shown q_t_tape v_t_tapeSize q_t_refused v_t_places q_t_ways v_t_people q_t_kind q_t_by q_t_home q_t_aim q_t_at0 v_t_hour v_t_chance v_t_seed w_t_kept w_t_tried v_t_at v_t_token v_t_from v_t_figures v_t_fault q_t_told v_t_statements q_t_steps q_t_spot q_t_then v_t_now v_t_gone q_t_sights q_t_darkAt q_t_can), (q_t_shelf, .inl (cy 0, 8, .inl v_t_shelf)), (q_t_rowSize, .inl (cy 0, 8, .inl v_t_rowSize)), (q_t_refused, .inl (cy 0, 8, .inl u14))] := hD
              refine lv_goto (tgt := 70) hx hb dX8_noWatch_66 (by decide) ?_
              cases hf
              exact W.iret hx hb hr (fun t ht hW => ⟨⟨_, (), rfl, rfl, xend ht hP⟩, hS.F ht⟩) hS.2.2 dX8_noWatch_70
          · have hf := ifF hf c17
            clear c17
            refine lv_iload hx hb dX8_noWatch_47 (lv_at hl 0 rfl) ?_
            cases hf
            exact W.iret hx hb hr (fun t ht hW => ⟨⟨_, (), rfl, rfl, xend ht hP⟩, hS.F ht⟩) hS.2.2 dX8_noWatch_49
        · have hf := ifT hf c18
          clear c18
          exact J28 _ _ ls ⟨hP, hD, hS, lv_sub hl [0] rfl⟩ hf
