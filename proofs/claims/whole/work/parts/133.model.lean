def fX8_reach (v_t_places : Int32) (v_t_refused : Nat → Int32) (v_t_ways : Nat → Int32) (v_t_steps : Nat → Int32) (p0 : Int32) (p1 : Int32) : Option (Int32 × (Nat → Int32) × (Nat → Int32)) :=
  bo1 (fX8_isPlace v_t_places p0) fun r1 =>
  jo0 (
    bo2 (fX8_refuse v_t_refused (-2 : Int32)) fun r4 u5 =>
    some (r4, u5, v_t_steps)) fun k3 =>
  if r1 = 0 then
    k3
  else
    bo1 (fX8_in p1.toInt64 (0 : Int64) (12 : Int64)) fun r7 =>
    if r7 = 0 then
      k3
    else
      bo1 (fX8_findFar v_t_places v_t_ways v_t_steps p0) fun u9 =>
      lo2 (fun g13 (x11 : Int32) (x12 : Int32) =>
        if v_t_places ≤ x12 then
          some (x11, v_t_refused, u9)
        else
          if x12 < 0 ∨ 12 ≤ x12.toNatClampNeg then none else
          bo1 (fX8_in ((u9 x12.toNatClampNeg).toInt64) (0 : Int64) p1.toInt64) fun r15 =>
          jo1 (fun (y17 : Int32) =>
            vlet (x11 + y17) fun x19 =>
            vlet (x12 + (1 : Int32)) fun x20 =>
            g13 x19 x20) fun k18 =>
          if r15 = 0 then
            k18 (0 : Int32)
          else
            k18 (1 : Int32)) 400 (0 : Int32) (0 : Int32)
set_option maxHeartbeats 4000000 in
set_option maxRecDepth 100000 in
theorem mX8_reach (l : Launch) (D : va_G) (cy : Nat → ClassId) (q_t q_t_shelf q_t_rowSort q_t_rowSize q_t_rows q_t_moved q_t_shown q_t_tape q_t_refused q_t_ways q_t_kind q_t_by q_t_home q_t_aim q_t_at0 q_t_told q_t_steps q_t_spot q_t_then q_t_sights q_t_darkAt q_t_can : Nat) (v_t_tapeSize : Int32) (v_t_places : Int32) (v_t_people : Int32) (v_t_hour : Int32) (v_t_chance : Int32) (v_t_seed : Int32) (w_t_kept : Value) (w_t_tried : Value) (v_t_at : Int32) (v_t_token : Int32) (v_t_from : Int32) (v_t_figures : Int32) (v_t_fault : Int32) (v_t_statements : Int32) (v_t_now : Int32) (v_t_gone : Int32) (v_t_refused : Nat → Int32) (v_t_ways : Nat → Int32) (v_t_steps : Nat → Int32) (sz : Nat) (p0 : Int32) (p1 : Int32) {r_ : Int32} {n_t_refused : Nat → Int32} {n_t_steps : Nat → Int32} (hf : fX8_reach v_t_places v_t_refused v_t_ways v_t_steps p0 p1 = some (r_, n_t_refused, n_t_steps)) : Met l yX8_reach wsX8_reach ({ frames := 2, cells := 0, slots := 0, locals := 46 }) (va_Pc [.ref q_t, .int p0, .int p1] (fun U => U.heap.size = sz ∧ va_P D vwCl [(q_t, oX8 q_t_shelf q_t_rowSort q_t_rowSize q_t_rows q_t_moved q_t_shown q_t_tape v_t_tapeSize q_t_refused v_t_places q_t_ways v_t_people q_t_kind q_t_by q_t_home q_t_aim q_t_at0 v_t_hour v_t_chance v_t_seed w_t_kept w_t_tried v_t_at v_t_token v_t_from v_t_figures v_t_fault q_t_told v_t_statements q_t_steps q_t_spot q_t_then v_t_now v_t_gone q_t_sights q_t_darkAt q_t_can), (q_t_refused, .inl (cy 0, 8, .inl v_t_refused)), (q_t_ways, .inl (cy 0, 12, .inl v_t_ways)), (q_t_steps, .inl (cy 0, 12, .inl v_t_steps))] U.heap ∧ xK D cy U ∧ va_D (fun _ => True) [(q_t, oX8 q_t_shelf q_t_rowSort q_t_rowSize q_t_rows q_t_moved q_t_shown q_t_tape v_t_tapeSize q_t_refused v_t_places q_t_ways v_t_people q_t_kind q_t_by q_t_home q_t_aim q_t_at0 v_t_hour v_t_chance v_t_seed w_t_kept w_t_tried v_t_at v_t_token v_t_from v_t_figures v_t_fault q_t_told v_t_statements q_t_steps q_t_spot q_t_then v_t_now v_t_gone q_t_sights q_t_darkAt q_t_can), (q_t_refused, .inl (cy 0, 8, .inl v_t_refused)), (q_t_ways, .inl (cy 0, 12, .inl v_t_ways)), (q_t_steps, .inl (cy 0, 12, .inl v_t_steps))])) (va_Qi (fun (x : Int32) (_ : Unit) => x = r_) (fun _ t => va_P D vwCl [(q_t, oX8 q_t_shelf q_t_rowSort q_t_rowSize q_t_rows q_t_moved q_t_shown q_t_tape v_t_tapeSize q_t_refused v_t_places q_t_ways v_t_people q_t_kind q_t_by q_t_home q_t_aim q_t_at0 v_t_hour v_t_chance v_t_seed w_t_kept w_t_tried v_t_at v_t_token v_t_from v_t_figures v_t_fault q_t_told v_t_statements q_t_steps q_t_spot q_t_then v_t_now v_t_gone q_t_sights q_t_darkAt q_t_can), (q_t_refused, .inl (cy 0, 8, .inl n_t_refused)), (q_t_ways, .inl (cy 0, 12, .inl v_t_ways)), (q_t_steps, .inl (cy 0, 12, .inl n_t_steps))] t.heap) (va_A [(q_t, oX8 q_t_shelf q_t_rowSort q_t_rowSize q_t_rows q_t_moved q_t_shown q_t_tape v_t_tapeSize q_t_refused v_t_places q_t_ways v_t_people q_t_kind q_t_by q_t_home q_t_aim q_t_at0 v_t_hour v_t_chance v_t_seed w_t_kept w_t_tried v_t_at v_t_token v_t_from v_t_figures v_t_fault q_t_told v_t_statements q_t_steps q_t_spot q_t_then v_t_now v_t_gone q_t_sights q_t_darkAt q_t_can), (q_t_refused, .inl (cy 0, 8, .inl v_t_refused)), (q_t_ways, .inl (cy 0, 12, .inl v_t_ways)), (q_t_steps, .inl (cy 0, 12, .inl v_t_steps))] sz)) 0 0 (va_A [(q_t, oX8 q_t_shelf q_t_rowSort q_t_rowSize q_t_rows q_t_moved q_t_shown q_t_tape v_t_tapeSize q_t_refused v_t_places q_t_ways v_t_people q_t_kind q_t_by q_t_home q_t_aim q_t_at0 v_t_hour v_t_chance v_t_seed w_t_kept w_t_tried v_t_at v_t_token v_t_from v_t_figures v_t_fault q_t_told v_t_statements q_t_steps q_t_spot q_t_then v_t_now v_t_gone q_t_sights q_t_darkAt q_t_can), (q_t_refused, .inl (cy 0, 8, .inl v_t_refused)), (q_t_ways, .inl (cy 0, 12, .inl v_t_ways)), (q_t_steps, .inl (cy 0, 12, .inl v_t_steps))] sz) := by
  refine Met.ofW (cc := cX8_reach) (maxL := 5) (ret := (some .int)) (by decide) rfl ?_
  intro p e s m args below meth c s₁ B hml hv
  obtain ⟨rfl, hsz, hP, hK, hD0⟩ := hv
  have hx := B.exec
  have hb := B.bytes
  have hr := B.returns
  have hts := atoms_spec (ws := wsX8_reach) B.pre
  have hown : s.vm.findClass RX8 = some m.cls := findClass_of_methodNamed B.named
  have hlocks := B.notSynchronized
  subst hsz
  have hD := hD0.self (sz := s.heap.size)
  generalize hAe : va_A [(q_t, oX8 q_t_shelf q_t_rowSort q_t_rowSize q_t_rows q_t_moved q_t_shown q_t_tape v_t_tapeSize q_t_refused v_t_places q_t_ways v_t_people q_t_kind q_t_by q_t_home q_t_aim q_t_at0 v_t_hour v_t_chance v_t_seed w_t_kept w_t_tried v_t_at v_t_token v_t_from v_t_figures v_t_fault q_t_told v_t_statements q_t_steps q_t_spot q_t_then v_t_now v_t_gone q_t_sights q_t_darkAt q_t_can), (q_t_refused, .inl (cy 0, 8, .inl v_t_refused)), (q_t_ways, .inl (cy 0, 12, .inl v_t_ways)), (q_t_steps, .inl (cy 0, 12, .inl v_t_steps))] s.heap.size = A at hD ⊢
  have hA : ∀ q : Nat, s.heap.size ≤ q → A q := fun q h => by rw [← hAe]; exact Or.inr h
  have hS : va_S A s.heap s.heap [] := va_S.rf
  have hP : va_P D vwCl [(q_t, oX8 q_t_shelf q_t_rowSort q_t_rowSize q_t_rows q_t_moved q_t_shown q_t_tape v_t_tapeSize q_t_refused v_t_places q_t_ways v_t_people q_t_kind q_t_by q_t_home q_t_aim q_t_at0 v_t_hour v_t_chance v_t_seed w_t_kept w_t_tried v_t_at v_t_token v_t_from v_t_figures v_t_fault q_t_told v_t_statements q_t_steps q_t_spot q_t_then v_t_now v_t_gone q_t_sights q_t_darkAt q_t_can), (q_t_refused, .inl (cy 0, 8, .inl v_t_refused)), (q_t_ways, .inl (cy 0, 12, .inl v_t_ways)), (q_t_steps, .inl (cy 0, 12, .inl v_t_steps))] s.heap := hP
  have hc131 := hts (.constantLong RX8 131 (12)) (by decide +kernel)
  have hinX8 : ∀ w ∈ u_ws RX8 TX8 37, w ∈ wsX8_reach := by decide +kernel
  have hk37 := hts (.fieldLink RX8 37 "ShowsWhereNobodyIsModel" "places" "I") (by decide +kernel)
  have hk68 := hts (.fieldLink RX8 68 "ShowsWhereNobodyIsModel" "steps" "[I") (by decide +kernel)
  have hl := lv_entry ([.ref q_t, .int p0, .int p1]) (n := 5) (Nat.le_of_ble_eq_true rfl)
  rw [lg_entry_eq]
  generalize (lg_sl ([.ref q_t, .int p0, .int p1]) ++ List.replicate (5 - (lg_sl ([.ref q_t, .int p0, .int p1])).length) Slot.unset).toArray = ls at hl ⊢
  have hl : lv_has ls 5 [(0, .ref q_t), (1, .int p0), (2, .int p1)] := hl
  unfold fX8_reach at hf
  refine lv_aload_n hx hb dX8_reach_0 rfl (lv_at hl 0 rfl) ?_
  refine lv_iload_n hx hb dX8_reach_1 rfl (lv_at hl 1 rfl) ?_
  obtain ⟨r1, hr2, hf⟩ := boE1 hf
  have hPc := hP.sub (ws' := [(q_t, oX8 q_t_shelf q_t_rowSort q_t_rowSize q_t_rows q_t_moved q_t_shown q_t_tape v_t_tapeSize q_t_refused v_t_places q_t_ways v_t_people q_t_kind q_t_by q_t_home q_t_aim q_t_at0 v_t_hour v_t_chance v_t_seed w_t_kept w_t_tried v_t_at v_t_token v_t_from v_t_figures v_t_fault q_t_told v_t_statements q_t_steps q_t_spot q_t_then v_t_now v_t_gone q_t_sights q_t_darkAt q_t_can)]) [0] rfl
  refine xcSi (va_runV (As := [.int p0]) (rest := []) ⟨hx, hb, hml, hown, hts⟩ (mX8_isPlace l D cy q_t q_t_shelf q_t_rowSort q_t_rowSize q_t_rows q_t_moved q_t_shown q_t_tape q_t_refused q_t_ways q_t_kind q_t_by q_t_home q_t_aim q_t_at0 q_t_told q_t_steps q_t_spot q_t_then q_t_sights q_t_darkAt q_t_can v_t_tapeSize v_t_places v_t_people v_t_hour v_t_chance v_t_seed w_t_kept w_t_tried v_t_at v_t_token v_t_from v_t_figures v_t_fault v_t_statements v_t_now v_t_gone  p0 hr2) (cwV 1 hts gX8_reach_X8_isPlace rfl rfl rfl (by decide +kernel) ⟨Nat.le_of_ble_eq_true rfl, Nat.le_of_ble_eq_true rfl⟩) (xPV hK hPc (ci := 8) (q0 := 0) rfl rfl) rfl rfl hl.1 rfl (lv_room (Nat.le_of_ble_eq_true rfl)) dX8_reach_2 ⟨Nat.le_of_ble_eq_true rfl, Nat.le_of_ble_eq_true rfl⟩) ?_
  refine jww0 20 [] (fun  H locs ls => va_P D vwCl [(q_t, oX8 q_t_shelf q_t_rowSort q_t_rowSize q_t_rows q_t_moved q_t_shown q_t_tape v_t_tapeSize q_t_refused v_t_places q_t_ways v_t_people q_t_kind q_t_by q_t_home q_t_aim q_t_at0 v_t_hour v_t_chance v_t_seed w_t_kept w_t_tried v_t_at v_t_token v_t_from v_t_figures v_t_fault q_t_told v_t_statements q_t_steps q_t_spot q_t_then v_t_now v_t_gone q_t_sights q_t_darkAt q_t_can), (q_t_refused, .inl (cy 0, 8, .inl v_t_refused)), (q_t_ways, .inl (cy 0, 12, .inl v_t_ways)), (q_t_steps, .inl (cy 0, 12, .inl v_t_steps))] H ∧ va_D A [(q_t, oX8 q_t_shelf q_t_rowSort q_t_rowSize q_t_rows q_t_moved q_t_shown q_t_tape v_t_tapeSize q_t_refused v_t_places q_t_ways v_t_people q_t_kind q_t_by q_t_home q_t_aim q_t_at0 v_t_hour v_t_chance v_t_seed w_t_kept w_t_tried v_t_at v_t_token v_t_from v_t_figures v_t_fault q_t_told v_t_statements q_t_steps q_t_spot q_t_then v_t_now v_t_gone q_t_sights q_t_darkAt q_t_can), (q_t_refused, .inl (cy 0, 8, .inl v_t_refused)), (q_t_ways, .inl (cy 0, 12, .inl v_t_ways)), (q_t_steps, .inl (cy 0, 12, .inl v_t_steps))] ∧ va_S A s.heap H locs ∧ lv_has ls 5 [(0, .ref q_t)]) hf (fun  H locs ls hI hf => ?_) (fun k3 J20 hf => ?_)
  · obtain ⟨hP, hD, hS, hl⟩ := hI
    refine lv_aload_n hx hb dX8_reach_20 rfl (lv_at hl 0 rfl) ?_
    refine lv_bipush (v := (-2)) hx hb dX8_reach_21 (by decide) ?_
    obtain ⟨r4, u5, hr6, hf⟩ := boE2 hf
    have hPc := hP.sub (ws' := [(q_t, oX8 q_t_shelf q_t_rowSort q_t_rowSize q_t_rows q_t_moved q_t_shown q_t_tape v_t_tapeSize q_t_refused v_t_places q_t_ways v_t_people q_t_kind q_t_by q_t_home q_t_aim q_t_at0 v_t_hour v_t_chance v_t_seed w_t_kept w_t_tried v_t_at v_t_token v_t_from v_t_figures v_t_fault q_t_told v_t_statements q_t_steps q_t_spot q_t_then v_t_now v_t_gone q_t_sights q_t_darkAt q_t_can), (q_t_refused, .inl (cy 0, 8, .inl v_t_refused))]) [0, 1] rfl
    have hDc := hD.sub (ws' := [(q_t, oX8 q_t_shelf q_t_rowSort q_t_rowSize q_t_rows q_t_moved q_t_shown q_t_tape v_t_tapeSize q_t_refused v_t_places q_t_ways v_t_people q_t_kind q_t_by q_t_home q_t_aim q_t_at0 v_t_hour v_t_chance v_t_seed w_t_kept w_t_tried v_t_at v_t_token v_t_from v_t_figures v_t_fault q_t_told v_t_statements q_t_steps q_t_spot q_t_then v_t_now v_t_gone q_t_sights q_t_darkAt q_t_can), (q_t_refused, .inl (cy 0, 8, .inl v_t_refused))]) [0, 1] (by decide) rfl
    refine xcQi (w1 := [(q_t, oX8 q_t_shelf q_t_rowSort q_t_rowSize q_t_rows q_t_moved q_t_shown q_t_tape v_t_tapeSize q_t_refused v_t_places q_t_ways v_t_people q_t_kind q_t_by q_t_home q_t_aim q_t_at0 v_t_hour v_t_chance v_t_seed w_t_kept w_t_tried v_t_at v_t_token v_t_from v_t_figures v_t_fault q_t_told v_t_statements q_t_steps q_t_spot q_t_then v_t_now v_t_gone q_t_sights q_t_darkAt q_t_can), (q_t_refused, .inl (cy 0, 8, .inl u5))]) (va_runV (As := [.int (-2 : Int32)]) (rest := []) ⟨hx, hb, hml, hown, hts⟩ (mX8_refuse l D cy q_t q_t_shelf q_t_rowSort q_t_rowSize q_t_rows q_t_moved q_t_shown q_t_tape q_t_refused q_t_ways q_t_kind q_t_by q_t_home q_t_aim q_t_at0 q_t_told q_t_steps q_t_spot q_t_then q_t_sights q_t_darkAt q_t_can v_t_tapeSize v_t_places v_t_people v_t_hour v_t_chance v_t_seed w_t_kept w_t_tried v_t_at v_t_token v_t_from v_t_figures v_t_fault v_t_statements v_t_now v_t_gone v_t_refused _ (-2 : Int32) hr6) (cwV 1 hts gX8_reach_X8_refuse rfl rfl rfl (by decide +kernel) ⟨Nat.le_of_ble_eq_true rfl, Nat.le_of_ble_eq_true rfl⟩) (xPVw hK hPc hDc (ci := 8) (q0 := 0) rfl rfl) rfl rfl hl.1 rfl (lv_room (Nat.le_of_ble_eq_true rfl)) dX8_reach_23 ⟨Nat.le_of_ble_eq_true rfl, Nat.le_of_ble_eq_true rfl⟩) hP hD hS hA [0, 1] rfl rfl (fun H locs hP hD hS => ?_)
    have hP : va_P D vwCl [(q_t, oX8 q_t_shelf q_t_rowSort q_t_rowSize q_t_rows q_t_moved q_t_shown q_t_tape v_t_tapeSize q_t_refused v_t_places q_t_ways v_t_people q_t_kind q_t_by q_t_home q_t_aim q_t_at0 v_t_hour v_t_chance v_t_seed w_t_kept w_t_tried v_t_at v_t_token v_t_from v_t_figures v_t_fault q_t_told v_t_statements q_t_steps q_t_spot q_t_then v_t_now v_t_gone q_t_sights q_t_darkAt q_t_can), (q_t_refused, .inl (cy 0, 8, .inl u5)), (q_t_ways, .inl (cy 0, 12, .inl v_t_ways)), (q_t_steps, .inl (cy 0, 12, .inl v_t_steps))] H := hP
    have hD : va_D A [(q_t, oX8 q_t_shelf q_t_rowSort q_t_rowSize q_t_rows q_t_moved q_t_shown q_t_tape v_t_tapeSize q_t_refused v_t_places q_t_ways v_t_people q_t_kind q_t_by q_t_home q_t_aim q_t_at0 v_t_hour v_t_chance v_t_seed w_t_kept w_t_tried v_t_at v_t_token v_t_from v_t_figures v_t_fault q_t_told v_t_statements q_t_steps q_t_spot q_t_then v_t_now v_t_gone q_t_sights q_t_darkAt q_t_can), (q_t_refused, .inl (cy 0, 8, .inl u5)), (q_t_ways, .inl (cy 0, 12, .inl v_t_ways)), (q_t_steps, .inl (cy 0, 12, .inl v_t_steps))] := hD
    cases hf
    exact W.iret hx hb hr (fun t ht hW => ⟨⟨_, (), rfl, rfl, xend ht hP⟩, hS.F ht⟩) hS.2.2 dX8_reach_26
  · refine lv_if_eq (tgt := 20) hx hb dX8_reach_5 (by decide) (fun c24 => ?_) (fun c24 => ?_)
    · have hf := ifT hf c24
      clear c24
      exact J20 _ _ ls ⟨hP, hD, hS, lv_sub hl [0] rfl⟩ hf
    · have hf := ifF hf c24
      clear c24
      refine lv_iload_n hx hb dX8_reach_8 rfl (lv_at hl 2 rfl) ?_
      refine lv_i2l hx hb dX8_reach_9 rfl ?_
      refine lv_lconst (v := 0) hx hb dX8_reach_10 (by decide) ?_
      refine lv_ldc2 hx hb hown hc131 dX8_reach_11 ?_
      obtain ⟨r7, hr8, hf⟩ := boE1 hf
      have hPc := hP.sub (ws' := []) [] rfl
      refine xcSi (va_runS (As := [.long p1.toInt64, .long (0 : Int64), .long (12 : Int64)]) (rest := []) ⟨hx, hb, hml, hown, hts⟩ (mX8_in l D cy    p1.toInt64 (0 : Int64) (12 : Int64) hr8) (va_cwS 3 hts gX8_reach_X8_in rfl rfl rfl (by decide +kernel) ⟨Nat.le_of_ble_eq_true rfl, Nat.le_of_ble_eq_true rfl⟩) (xPS hK hPc) rfl rfl hl.1 rfl (lv_room (Nat.le_of_ble_eq_true rfl)) dX8_reach_14 ⟨Nat.le_of_ble_eq_true rfl, Nat.le_of_ble_eq_true rfl⟩) ?_
      refine lv_if_ne (tgt := 27) hx hb dX8_reach_17 (by decide) (fun c23 => ?_) (fun c23 => ?_)
      · have hf := ifF hf c23
        clear c23
        refine lv_aload_n hx hb dX8_reach_27 rfl (lv_at hl 0 rfl) ?_
        refine lv_iload_n hx hb dX8_reach_28 rfl (lv_at hl 1 rfl) ?_
        obtain ⟨u9, hr10, hf⟩ := boE1 hf
        have hPc := hP.sub (ws' := [(q_t, oX8 q_t_shelf q_t_rowSort q_t_rowSize q_t_rows q_t_moved q_t_shown q_t_tape v_t_tapeSize q_t_refused v_t_places q_t_ways v_t_people q_t_kind q_t_by q_t_home q_t_aim q_t_at0 v_t_hour v_t_chance v_t_seed w_t_kept w_t_tried v_t_at v_t_token v_t_from v_t_figures v_t_fault q_t_told v_t_statements q_t_steps q_t_spot q_t_then v_t_now v_t_gone q_t_sights q_t_darkAt q_t_can), (q_t_ways, .inl (cy 0, 12, .inl v_t_ways)), (q_t_steps, .inl (cy 0, 12, .inl v_t_steps))]) [0, 2, 3] rfl
        have hDc := hD.sub (ws' := [(q_t, oX8 q_t_shelf q_t_rowSort q_t_rowSize q_t_rows q_t_moved q_t_shown q_t_tape v_t_tapeSize q_t_refused v_t_places q_t_ways v_t_people q_t_kind q_t_by q_t_home q_t_aim q_t_at0 v_t_hour v_t_chance v_t_seed w_t_kept w_t_tried v_t_at v_t_token v_t_from v_t_figures v_t_fault q_t_told v_t_statements q_t_steps q_t_spot q_t_then v_t_now v_t_gone q_t_sights q_t_darkAt q_t_can), (q_t_ways, .inl (cy 0, 12, .inl v_t_ways)), (q_t_steps, .inl (cy 0, 12, .inl v_t_steps))]) [0, 2, 3] (by decide) rfl
        refine xcQv (w1 := [(q_t, oX8 q_t_shelf q_t_rowSort q_t_rowSize q_t_rows q_t_moved q_t_shown q_t_tape v_t_tapeSize q_t_refused v_t_places q_t_ways v_t_people q_t_kind q_t_by q_t_home q_t_aim q_t_at0 v_t_hour v_t_chance v_t_seed w_t_kept w_t_tried v_t_at v_t_token v_t_from v_t_figures v_t_fault q_t_told v_t_statements q_t_steps q_t_spot q_t_then v_t_now v_t_gone q_t_sights q_t_darkAt q_t_can), (q_t_ways, .inl (cy 0, 12, .inl v_t_ways)), (q_t_steps, .inl (cy 0, 12, .inl u9))]) (va_runV (As := [.int p0]) (rest := []) ⟨hx, hb, hml, hown, hts⟩ (mX8_findFar l D cy q_t q_t_shelf q_t_rowSort q_t_rowSize q_t_rows q_t_moved q_t_shown q_t_tape q_t_refused q_t_ways q_t_kind q_t_by q_t_home q_t_aim q_t_at0 q_t_told q_t_steps q_t_spot q_t_then q_t_sights q_t_darkAt q_t_can v_t_tapeSize v_t_places v_t_people v_t_hour v_t_chance v_t_seed w_t_kept w_t_tried v_t_at v_t_token v_t_from v_t_figures v_t_fault v_t_statements v_t_now v_t_gone v_t_ways v_t_steps _ p0 hr10) (cwV 1 hts gX8_reach_X8_findFar rfl rfl rfl (by decide +kernel) ⟨Nat.le_of_ble_eq_true rfl, Nat.le_of_ble_eq_true rfl⟩) (xPVw hK hPc hDc (ci := 8) (q0 := 0) rfl rfl) rfl rfl hl.1 rfl (lv_room (Nat.le_of_ble_eq_true rfl)) dX8_reach_29 ⟨Nat.le_of_ble_eq_true rfl, Nat.le_of_ble_eq_true rfl⟩) hP hD hS hA [0, 2, 3] rfl rfl (fun H locs hP hD hS => ?_)
        have hP : va_P D vwCl [(q_t, oX8 q_t_shelf q_t_rowSort q_t_rowSize q_t_rows q_t_moved q_t_shown q_t_tape v_t_tapeSize q_t_refused v_t_places q_t_ways v_t_people q_t_kind q_t_by q_t_home q_t_aim q_t_at0 v_t_hour v_t_chance v_t_seed w_t_kept w_t_tried v_t_at v_t_token v_t_from v_t_figures v_t_fault q_t_told v_t_statements q_t_steps q_t_spot q_t_then v_t_now v_t_gone q_t_sights q_t_darkAt q_t_can), (q_t_refused, .inl (cy 0, 8, .inl v_t_refused)), (q_t_ways, .inl (cy 0, 12, .inl v_t_ways)), (q_t_steps, .inl (cy 0, 12, .inl u9))] H := hP
        have hD : va_D A [(q_t, oX8 q_t_shelf q_t_rowSort q_t_rowSize q_t_rows q_t_moved q_t_shown q_t_tape v_t_tapeSize q_t_refused v_t_places q_t_ways v_t_people q_t_kind q_t_by q_t_home q_t_aim q_t_at0 v_t_hour v_t_chance v_t_seed w_t_kept w_t_tried v_t_at v_t_token v_t_from v_t_figures v_t_fault q_t_told v_t_statements q_t_steps q_t_spot q_t_then v_t_now v_t_gone q_t_sights q_t_darkAt q_t_can), (q_t_refused, .inl (cy 0, 8, .inl v_t_refused)), (q_t_ways, .inl (cy 0, 12, .inl v_t_ways)), (q_t_steps, .inl (cy 0, 12, .inl u9))] := hD
        refine lv_iconst (v := 0) hx hb dX8_reach_32 (by decide) ?_
        refine lv_istore_n (lv' := [(3, .int (0 : Int32)), (0, .ref q_t), (1, .int p0), (2, .int p1)]) hx hb dX8_reach_33 rfl hl (by decide) rfl (fun ls hl => ?_)
        refine lv_iconst (v := 0) hx hb dX8_reach_34 (by decide) ?_
        refine lv_istore (lv' := [(4, .int (0 : Int32)), (3, .int (0 : Int32)), (0, .ref q_t), (1, .int p0), (2, .int p1)]) hx hb dX8_reach_35 hl (by decide) rfl (fun ls hl => ?_)
        refine wlw2 37 (fun _ _ => []) (fun (x11 : Int32) (x12 : Int32) H locs ls => va_P D vwCl [(q_t, oX8 q_t_shelf q_t_rowSort q_t_rowSize q_t_rows q_t_moved q_t_shown q_t_tape v_t_tapeSize q_t_refused v_t_places q_t_ways v_t_people q_t_kind q_t_by q_t_home q_t_aim q_t_at0 v_t_hour v_t_chance v_t_seed w_t_kept w_t_tried v_t_at v_t_token v_t_from v_t_figures v_t_fault q_t_told v_t_statements q_t_steps q_t_spot q_t_then v_t_now v_t_gone q_t_sights q_t_darkAt q_t_can), (q_t_refused, .inl (cy 0, 8, .inl v_t_refused)), (q_t_ways, .inl (cy 0, 12, .inl v_t_ways)), (q_t_steps, .inl (cy 0, 12, .inl u9))] H ∧ va_D A [(q_t, oX8 q_t_shelf q_t_rowSort q_t_rowSize q_t_rows q_t_moved q_t_shown q_t_tape v_t_tapeSize q_t_refused v_t_places q_t_ways v_t_people q_t_kind q_t_by q_t_home q_t_aim q_t_at0 v_t_hour v_t_chance v_t_seed w_t_kept w_t_tried v_t_at v_t_token v_t_from v_t_figures v_t_fault q_t_told v_t_statements q_t_steps q_t_spot q_t_then v_t_now v_t_gone q_t_sights q_t_darkAt q_t_can), (q_t_refused, .inl (cy 0, 8, .inl v_t_refused)), (q_t_ways, .inl (cy 0, 12, .inl v_t_ways)), (q_t_steps, .inl (cy 0, 12, .inl u9))] ∧ va_S A s.heap H locs ∧ lv_has ls 5 [(3, .int x11), (4, .int x12), (0, .ref q_t), (2, .int p1)]) (fun g13 L37 x11 x12 H locs ls hI hf => ?_) 400 (0 : Int32) (0 : Int32) _ _ ls ⟨hP, hD, hS, lv_sub hl [1, 0, 2, 4] rfl⟩ hf
        obtain ⟨hP, hD, hS, hl⟩ := hI
        refine lv_iload hx hb dX8_reach_37 (lv_at hl 1 rfl) ?_
        refine lv_aload_n hx hb dX8_reach_39 rfl (lv_at hl 2 rfl) ?_
        refine va_get (D := D) (ci := 8) (v := .int v_t_places) (C := RX8) (T := TX8) (N := 37) hx hb hts hinX8 hown hK.1 hP 0 rfl rfl 9 (by decide) hk37 (fun _ h9 => h9) rfl dX8_reach_40 ?_
        refine lv_icmp_ge (tgt := 77) hx hb dX8_reach_43 (by decide) (fun c22 => ?_) (fun c22 => ?_)
        · have hf := ifT hf c22
          clear c22
          refine lv_iload_n hx hb dX8_reach_77 rfl (lv_at hl 0 rfl) ?_
          cases hf
          exact W.iret hx hb hr (fun t ht hW => ⟨⟨_, (), rfl, rfl, xend ht hP⟩, hS.F ht⟩) hS.2.2 dX8_reach_78
        · have hf := ifF hf c22
          clear c22
          refine lv_iload_n hx hb dX8_reach_46 rfl (lv_at hl 0 rfl) ?_
          refine lv_aload_n hx hb dX8_reach_47 rfl (lv_at hl 2 rfl) ?_
          refine va_get (D := D) (ci := 8) (v := .ref q_t_steps) (C := RX8) (T := TX8) (N := 37) hx hb hts hinX8 hown hK.1 hP 0 rfl rfl 29 (by decide) hk68 (fun _ h9 => h9) rfl dX8_reach_48 ?_
          refine lv_iload hx hb dX8_reach_51 (lv_at hl 1 rfl) ?_
          obtain ⟨hi14, hf⟩ := ckE hf
          refine va_iald hx hb hK.1 hP 3 0 rfl rfl hi14 dX8_reach_53 ?_
          refine lv_i2l hx hb dX8_reach_54 rfl ?_
          refine lv_lconst (v := 0) hx hb dX8_reach_55 (by decide) ?_
          refine lv_iload_n hx hb dX8_reach_56 rfl (lv_at hl 3 rfl) ?_
          refine lv_i2l hx hb dX8_reach_57 rfl ?_
          obtain ⟨r15, hr16, hf⟩ := boE1 hf
          have hPc := hP.sub (ws' := []) [] rfl
          refine xcSi (va_runS (As := [.long ((u9 x12.toNatClampNeg).toInt64), .long (0 : Int64), .long p1.toInt64]) (rest := [.int x11]) ⟨hx, hb, hml, hown, hts⟩ (mX8_in l D cy    ((u9 x12.toNatClampNeg).toInt64) (0 : Int64) p1.toInt64 hr16) (va_cwS 3 hts gX8_reach_X8_in rfl rfl rfl (by decide +kernel) ⟨Nat.le_of_ble_eq_true rfl, Nat.le_of_ble_eq_true rfl⟩) (xPS hK hPc) rfl rfl hl.1 rfl (lv_room (Nat.le_of_ble_eq_true rfl)) dX8_reach_58 ⟨Nat.le_of_ble_eq_true rfl, Nat.le_of_ble_eq_true rfl⟩) ?_
          refine jww1 69 (fun (y17 : Int32) => [.int y17, .int x11]) (fun (y17 : Int32) H locs ls => va_P D vwCl [(q_t, oX8 q_t_shelf q_t_rowSort q_t_rowSize q_t_rows q_t_moved q_t_shown q_t_tape v_t_tapeSize q_t_refused v_t_places q_t_ways v_t_people q_t_kind q_t_by q_t_home q_t_aim q_t_at0 v_t_hour v_t_chance v_t_seed w_t_kept w_t_tried v_t_at v_t_token v_t_from v_t_figures v_t_fault q_t_told v_t_statements q_t_steps q_t_spot q_t_then v_t_now v_t_gone q_t_sights q_t_darkAt q_t_can), (q_t_refused, .inl (cy 0, 8, .inl v_t_refused)), (q_t_ways, .inl (cy 0, 12, .inl v_t_ways)), (q_t_steps, .inl (cy 0, 12, .inl u9))] H ∧ va_D A [(q_t, oX8 q_t_shelf q_t_rowSort q_t_rowSize q_t_rows q_t_moved q_t_shown q_t_tape v_t_tapeSize q_t_refused v_t_places q_t_ways v_t_people q_t_kind q_t_by q_t_home q_t_aim q_t_at0 v_t_hour v_t_chance v_t_seed w_t_kept w_t_tried v_t_at v_t_token v_t_from v_t_figures v_t_fault q_t_told v_t_statements q_t_steps q_t_spot q_t_then v_t_now v_t_gone q_t_sights q_t_darkAt q_t_can), (q_t_refused, .inl (cy 0, 8, .inl v_t_refused)), (q_t_ways, .inl (cy 0, 12, .inl v_t_ways)), (q_t_steps, .inl (cy 0, 12, .inl u9))] ∧ va_S A s.heap H locs ∧ lv_has ls 5 [(0, .ref q_t), (2, .int p1), (4, .int x12)]) hf (fun y17 H locs ls hI hf => ?_) (fun k18 J69 hf => ?_)
          · obtain ⟨hP, hD, hS, hl⟩ := hI
            refine lv_iadd hx hb dX8_reach_69 ?_
            refine lv_topi (fun x19 ex19 => ?_)
            have hf := vlE hf ex19
            clear ex19
            refine lv_istore_n (lv' := [(3, .int x19), (0, .ref q_t), (2, .int p1), (4, .int x12)]) hx hb dX8_reach_70 rfl hl (by decide) rfl (fun ls hl => ?_)
            obtain ⟨x20, ex20⟩ : ∃ y : Int32, y = x12 + (1 : Int32) := ⟨_, rfl⟩
            have hf := vlE hf ex20
            refine lv_iinc (v := x20) (lv' := [(4, .int x20), (3, .int x19), (0, .ref q_t), (2, .int p1)]) hx hb dX8_reach_71 hl (k := 3) rfl (by rw [ex20]; rfl) (by decide) rfl (fun ls hl => ?_)
            clear ex20
            refine lv_goto (tgt := 37) hx hb dX8_reach_74 (by decide) ?_
            exact L37 x19 x20 _ _ ls ⟨hP, hD, hS, lv_sub hl [1, 0, 2, 3] rfl⟩ hf
          · refine lv_if_eq (tgt := 68) hx hb dX8_reach_61 (by decide) (fun c21 => ?_) (fun c21 => ?_)
            · have hf := ifT hf c21
              clear c21
              refine lv_iconst (v := 0) hx hb dX8_reach_68 (by decide) ?_
              exact J69 (0 : Int32) _ _ ls ⟨hP, hD, hS, lv_sub hl [2, 3, 1] rfl⟩ hf
            · have hf := ifF hf c21
              clear c21
              refine lv_iconst (v := 1) hx hb dX8_reach_64 (by decide) ?_
              refine lv_goto (tgt := 69) hx hb dX8_reach_65 (by decide) ?_
              exact J69 (1 : Int32) _ _ ls ⟨hP, hD, hS, lv_sub hl [2, 3, 1] rfl⟩ hf
      · have hf := ifT hf c23
        clear c23
        exact J20 _ _ ls ⟨hP, hD, hS, lv_sub hl [0] rfl⟩ hf
def fX8_farthest (v_t_places : Int32) (v_t_refused : Nat → Int32) (v_t_ways : Nat → Int32) (v_t_steps : Nat → Int32) (p0 : Int32) : Option (Int32 × (Nat → Int32) × (Nat → Int32)) :=
  bo1 (fX8_isPlace v_t_places p0) fun r1 =>
  if r1 = 0 then
    bo2 (fX8_refuse v_t_refused (-2 : Int32)) fun r15 u16 =>
    some (r15, u16, v_t_steps)
  else
    bo1 (fX8_findFar v_t_places v_t_ways v_t_steps p0) fun u3 =>
    lo2 (fun g7 (x5 : Int32) (x6 : Int32) =>
      if v_t_places ≤ x6 then
        some (x5, v_t_refused, u3)
      else
        if x6 < 0 ∨ 12 ≤ x6.toNatClampNeg then none else
        if x5 < 0 ∨ 12 ≤ x5.toNatClampNeg then none else
        jo1 (fun (y10 : Int32) =>
          vlet (x6 + (1 : Int32)) fun x12 =>
          g7 y10 x12) fun k11 =>
        if (u3 x6.toNatClampNeg) ≤ (u3 x5.toNatClampNeg) then
          k11 x5
        else
          k11 x6) 400 p0 (0 : Int32)
set_option maxHeartbeats 4000000 in
set_option maxRecDepth 100000 in
theorem mX8_farthest (l : Launch) (D : va_G) (cy : Nat → ClassId) (q_t q_t_shelf q_t_rowSort q_t_rowSize q_t_rows q_t_moved q_t_shown q_t_tape q_t_refused q_t_ways q_t_kind q_t_by q_t_home q_t_aim q_t_at0 q_t_told q_t_steps q_t_spot q_t_then q_t_sights q_t_darkAt q_t_can : Nat) (v_t_tapeSize : Int32) (v_t_places : Int32) (v_t_people : Int32) (v_t_hour : Int32) (v_t_chance : Int32) (v_t_seed : Int32) (w_t_kept : Value) (w_t_tried : Value) (v_t_at : Int32) (v_t_token : Int32) (v_t_from : Int32) (v_t_figures : Int32) (v_t_fault : Int32) (v_t_statements : Int32) (v_t_now : Int32) (v_t_gone : Int32) (v_t_refused : Nat → Int32) (v_t_ways : Nat → Int32) (v_t_steps : Nat → Int32) (sz : Nat) (p0 : Int32) {r_ : Int32} {n_t_refused : Nat → Int32} {n_t_steps : Nat → Int32} (hf : fX8_farthest v_t_places v_t_refused v_t_ways v_t_steps p0 = some (r_, n_t_refused, n_t_steps)) : Met l yX8_farthest wsX8_farthest ({ frames := 2, cells := 0, slots := 0, locals := 46 }) (va_Pc [.ref q_t, .int p0] (fun U => U.heap.size = sz ∧ va_P D vwCl [(q_t, oX8 q_t_shelf q_t_rowSort q_t_rowSize q_t_rows q_t_moved q_t_shown q_t_tape v_t_tapeSize q_t_refused v_t_places q_t_ways v_t_people q_t_kind q_t_by q_t_home q_t_aim q_t_at0 v_t_hour v_t_chance v_t_seed w_t_kept w_t_tried v_t_at v_t_token v_t_from v_t_figures v_t_fault q_t_told v_t_statements q_t_steps q_t_spot q_t_then v_t_now v_t_gone q_t_sights q_t_darkAt q_t_can), (q_t_refused, .inl (cy 0, 8, .inl v_t_refused)), (q_t_ways, .inl (cy 0, 12, .inl v_t_ways)), (q_t_steps, .inl (cy 0, 12, .inl v_t_steps))] U.heap ∧ xK D cy U ∧ va_D (fun _ => True) [(q_t, oX8 q_t_shelf q_t_rowSort q_t_rowSize q_t_rows q_t_moved q_t_shown q_t_tape v_t_tapeSize q_t_refused v_t_places q_t_ways v_t_people q_t_kind q_t_by q_t_home q_t_aim q_t_at0 v_t_hour v_t_chance v_t_seed w_t_kept w_t_tried v_t_at v_t_token v_t_from v_t_figures v_t_fault q_t_told v_t_statements q_t_steps q_t_spot q_t_then v_t_now v_t_gone q_t_sights q_t_darkAt q_t_can), (q_t_refused, .inl (cy 0, 8, .inl v_t_refused)), (q_t_ways, .inl (cy 0, 12, .inl v_t_ways)), (q_t_steps, .inl (cy 0, 12, .inl v_t_steps))])) (va_Qi (fun (x : Int32) (_ : Unit) => x = r_) (fun _ t => va_P D vwCl [(q_t, oX8 q_t_shelf q_t_rowSort q_t_rowSize q_t_rows q_t_moved q_t_shown q_t_tape v_t_tapeSize q_t_refused v_t_places q_t_ways v_t_people q_t_kind q_t_by q_t_home q_t_aim q_t_at0 v_t_hour v_t_chance v_t_seed w_t_kept w_t_tried v_t_at v_t_token v_t_from v_t_figures v_t_fault q_t_told v_t_statements q_t_steps q_t_spot q_t_then v_t_now v_t_gone q_t_sights q_t_darkAt q_t_can), (q_t_refused, .inl (cy 0, 8, .inl n_t_refused)), (q_t_ways, .inl (cy 0, 12, .inl v_t_ways)), (q_t_steps, .inl (cy 0, 12, .inl n_t_steps))] t.heap) (va_A [(q_t, oX8 q_t_shelf q_t_rowSort q_t_rowSize q_t_rows q_t_moved q_t_shown q_t_tape v_t_tapeSize q_t_refused v_t_places q_t_ways v_t_people q_t_kind q_t_by q_t_home q_t_aim q_t_at0 v_t_hour v_t_chance v_t_seed w_t_kept w_t_tried v_t_at v_t_token v_t_from v_t_figures v_t_fault q_t_told v_t_statements q_t_steps q_t_spot q_t_then v_t_now v_t_gone q_t_sights q_t_darkAt q_t_can), (q_t_refused, .inl (cy 0, 8, .inl v_t_refused)), (q_t_ways, .inl (cy 0, 12, .inl v_t_ways)), (q_t_steps, .inl (cy 0, 12, .inl v_t_steps))] sz)) 0 0 (va_A [(q_t, oX8 q_t_shelf q_t_rowSort q_t_rowSize q_t_rows q_t_moved q_t_shown q_t_tape v_t_tapeSize q_t_refused v_t_places q_t_ways v_t_people q_t_kind q_t_by q_t_home q_t_aim q_t_at0 v_t_hour v_t_chance v_t_seed w_t_kept w_t_tried v_t_at v_t_token v_t_from v_t_figures v_t_fault q_t_told v_t_statements q_t_steps q_t_spot q_t_then v_t_now v_t_gone q_t_sights q_t_darkAt q_t_can), (q_t_refused, .inl (cy 0, 8, .inl v_t_refused)), (q_t_ways, .inl (cy 0, 12, .inl v_t_ways)), (q_t_steps, .inl (cy 0, 12, .inl v_t_steps))] sz) := by
  refine Met.ofW (cc := cX8_farthest) (maxL := 4) (ret := (some .int)) (by decide) rfl ?_
  intro p e s m args below meth c s₁ B hml hv
  obtain ⟨rfl, hsz, hP, hK, hD0⟩ := hv
  have hx := B.exec
  have hb := B.bytes
  have hr := B.returns
  have hts := atoms_spec (ws := wsX8_farthest) B.pre
  have hown : s.vm.findClass RX8 = some m.cls := findClass_of_methodNamed B.named
  have hlocks := B.notSynchronized
  subst hsz
  have hD := hD0.self (sz := s.heap.size)
  generalize hAe : va_A [(q_t, oX8 q_t_shelf q_t_rowSort q_t_rowSize q_t_rows q_t_moved q_t_shown q_t_tape v_t_tapeSize q_t_refused v_t_places q_t_ways v_t_people q_t_kind q_t_by q_t_home q_t_aim q_t_at0 v_t_hour v_t_chance v_t_seed w_t_kept w_t_tried v_t_at v_t_token v_t_from v_t_figures v_t_fault q_t_told v_t_statements q_t_steps q_t_spot q_t_then v_t_now v_t_gone q_t_sights q_t_darkAt q_t_can), (q_t_refused, .inl (cy 0, 8, .inl v_t_refused)), (q_t_ways, .inl (cy 0, 12, .inl v_t_ways)), (q_t_steps, .inl (cy 0, 12, .inl v_t_steps))] s.heap.size = A at hD ⊢
  have hA : ∀ q : Nat, s.heap.size ≤ q → A q := fun q h => by rw [← hAe]; exact Or.inr h
  have hS : va_S A s.heap s.heap [] := va_S.rf
  have hP : va_P D vwCl [(q_t, oX8 q_t_shelf q_t_rowSort q_t_rowSize q_t_rows q_t_moved q_t_shown q_t_tape v_t_tapeSize q_t_refused v_t_places q_t_ways v_t_people q_t_kind q_t_by q_t_home q_t_aim q_t_at0 v_t_hour v_t_chance v_t_seed w_t_kept w_t_tried v_t_at v_t_token v_t_from v_t_figures v_t_fault q_t_told v_t_statements q_t_steps q_t_spot q_t_then v_t_now v_t_gone q_t_sights q_t_darkAt q_t_can), (q_t_refused, .inl (cy 0, 8, .inl v_t_refused)), (q_t_ways, .inl (cy 0, 12, .inl v_t_ways)), (q_t_steps, .inl (cy 0, 12, .inl v_t_steps))] s.heap := hP
  have hinX8 : ∀ w ∈ u_ws RX8 TX8 37, w ∈ wsX8_farthest := by decide +kernel
  have hk37 := hts (.fieldLink RX8 37 "ShowsWhereNobodyIsModel" "places" "I") (by decide +kernel)
  have hk68 := hts (.fieldLink RX8 68 "ShowsWhereNobodyIsModel" "steps" "[I") (by decide +kernel)
  have hl := lv_entry ([.ref q_t, .int p0]) (n := 4) (Nat.le_of_ble_eq_true rfl)
  rw [lg_entry_eq]
  generalize (lg_sl ([.ref q_t, .int p0]) ++ List.replicate (4 - (lg_sl ([.ref q_t, .int p0])).length) Slot.unset).toArray = ls at hl ⊢
  have hl : lv_has ls 4 [(0, .ref q_t), (1, .int p0)] := hl
  unfold fX8_farthest at hf
  refine lv_aload_n hx hb dX8_farthest_0 rfl (lv_at hl 0 rfl) ?_
  refine lv_iload_n hx hb dX8_farthest_1 rfl (lv_at hl 1 rfl) ?_
  obtain ⟨r1, hr2, hf⟩ := boE1 hf
  have hPc := hP.sub (ws' := [(q_t, oX8 q_t_shelf q_t_rowSort q_t_rowSize q_t_rows q_t_moved q_t_shown q_t_tape v_t_tapeSize q_t_refused v_t_places q_t_ways v_t_people q_t_kind q_t_by q_t_home q_t_aim q_t_at0 v_t_hour v_t_chance v_t_seed w_t_kept w_t_tried v_t_at v_t_token v_t_from v_t_figures v_t_fault q_t_told v_t_statements q_t_steps q_t_spot q_t_then v_t_now v_t_gone q_t_sights q_t_darkAt q_t_can)]) [0] rfl
  refine xcSi (va_runV (As := [.int p0]) (rest := []) ⟨hx, hb, hml, hown, hts⟩ (mX8_isPlace l D cy q_t q_t_shelf q_t_rowSort q_t_rowSize q_t_rows q_t_moved q_t_shown q_t_tape q_t_refused q_t_ways q_t_kind q_t_by q_t_home q_t_aim q_t_at0 q_t_told q_t_steps q_t_spot q_t_then q_t_sights q_t_darkAt q_t_can v_t_tapeSize v_t_places v_t_people v_t_hour v_t_chance v_t_seed w_t_kept w_t_tried v_t_at v_t_token v_t_from v_t_figures v_t_fault v_t_statements v_t_now v_t_gone  p0 hr2) (cwV 1 hts gX8_farthest_X8_isPlace rfl rfl rfl (by decide +kernel) ⟨Nat.le_of_ble_eq_true rfl, Nat.le_of_ble_eq_true rfl⟩) (xPV hK hPc (ci := 8) (q0 := 0) rfl rfl) rfl rfl hl.1 rfl (lv_room (Nat.le_of_ble_eq_true rfl)) dX8_farthest_2 ⟨Nat.le_of_ble_eq_true rfl, Nat.le_of_ble_eq_true rfl⟩) ?_
  refine lv_if_ne (tgt := 15) hx hb dX8_farthest_5 (by decide) (fun c18 => ?_) (fun c18 => ?_)
  · have hf := ifF hf c18
    clear c18
    refine lv_aload_n hx hb dX8_farthest_15 rfl (lv_at hl 0 rfl) ?_
    refine lv_iload_n hx hb dX8_farthest_16 rfl (lv_at hl 1 rfl) ?_
    obtain ⟨u3, hr4, hf⟩ := boE1 hf
    have hPc := hP.sub (ws' := [(q_t, oX8 q_t_shelf q_t_rowSort q_t_rowSize q_t_rows q_t_moved q_t_shown q_t_tape v_t_tapeSize q_t_refused v_t_places q_t_ways v_t_people q_t_kind q_t_by q_t_home q_t_aim q_t_at0 v_t_hour v_t_chance v_t_seed w_t_kept w_t_tried v_t_at v_t_token v_t_from v_t_figures v_t_fault q_t_told v_t_statements q_t_steps q_t_spot q_t_then v_t_now v_t_gone q_t_sights q_t_darkAt q_t_can), (q_t_ways, .inl (cy 0, 12, .inl v_t_ways)), (q_t_steps, .inl (cy 0, 12, .inl v_t_steps))]) [0, 2, 3] rfl
    have hDc := hD.sub (ws' := [(q_t, oX8 q_t_shelf q_t_rowSort q_t_rowSize q_t_rows q_t_moved q_t_shown q_t_tape v_t_tapeSize q_t_refused v_t_places q_t_ways v_t_people q_t_kind q_t_by q_t_home q_t_aim q_t_at0 v_t_hour v_t_chance v_t_seed w_t_kept w_t_tried v_t_at v_t_token v_t_from v_t_figures v_t_fault q_t_told v_t_statements q_t_steps q_t_spot q_t_then v_t_now v_t_gone q_t_sights q_t_darkAt q_t_can), (q_t_ways, .inl (cy 0, 12, .inl v_t_ways)), (q_t_steps, .inl (cy 0, 12, .inl v_t_steps))]) [0, 2, 3] (by decide) rfl
    refine xcQv (w1 := [(q_t, oX8 q_t_shelf q_t_rowSort q_t_rowSize q_t_rows q_t_moved q_t_shown q_t_tape v_t_tapeSize q_t_refused v_t_places q_t_ways v_t_people q_t_kind q_t_by q_t_home q_t_aim q_t_at0 v_t_hour v_t_chance v_t_seed w_t_kept w_t_tried v_t_at v_t_token v_t_from v_t_figures v_t_fault q_t_told v_t_statements q_t_steps q_t_spot q_t_then v_t_now v_t_gone q_t_sights q_t_darkAt q_t_can), (q_t_ways, .inl (cy 0, 12, .inl v_t_ways)), (q_t_steps, .inl (cy 0, 12, .inl u3))]) (va_runV (As := [.int p0]) (rest := []) ⟨hx, hb, hml, hown, hts⟩ (mX8_findFar l D cy q_t q_t_shelf q_t_rowSort q_t_rowSize q_t_rows q_t_moved q_t_shown q_t_tape q_t_refused q_t_ways q_t_kind q_t_by q_t_home q_t_aim q_t_at0 q_t_told q_t_steps q_t_spot q_t_then q_t_sights q_t_darkAt q_t_can v_t_tapeSize v_t_places v_t_people v_t_hour v_t_chance v_t_seed w_t_kept w_t_tried v_t_at v_t_token v_t_from v_t_figures v_t_fault v_t_statements v_t_now v_t_gone v_t_ways v_t_steps _ p0 hr4) (cwV 1 hts gX8_farthest_X8_findFar rfl rfl rfl (by decide +kernel) ⟨Nat.le_of_ble_eq_true rfl, Nat.le_of_ble_eq_true rfl⟩) (xPVw hK hPc hDc (ci := 8) (q0 := 0) rfl rfl) rfl rfl hl.1 rfl (lv_room (Nat.le_of_ble_eq_true rfl)) dX8_farthest_17 ⟨Nat.le_of_ble_eq_true rfl, Nat.le_of_ble_eq_true rfl⟩) hP hD hS hA [0, 2, 3] rfl rfl (fun H locs hP hD hS => ?_)
    have hP : va_P D vwCl [(q_t, oX8 q_t_shelf q_t_rowSort q_t_rowSize q_t_rows q_t_moved q_t_shown q_t_tape v_t_tapeSize q_t_refused v_t_places q_t_ways v_t_people q_t_kind q_t_by q_t_home q_t_aim q_t_at0 v_t_hour v_t_chance v_t_seed w_t_kept w_t_tried v_t_at v_t_token v_t_from v_t_figures v_t_fault q_t_told v_t_statements q_t_steps q_t_spot q_t_then v_t_now v_t_gone q_t_sights q_t_darkAt q_t_can), (q_t_refused, .inl (cy 0, 8, .inl v_t_refused)), (q_t_ways, .inl (cy 0, 12, .inl v_t_ways)), (q_t_steps, .inl (cy 0, 12, .inl u3))] H := hP
    have hD : va_D A [(q_t, oX8 q_t_shelf q_t_rowSort q_t_rowSize q_t_rows q_t_moved q_t_shown q_t_tape v_t_tapeSize q_t_refused v_t_places q_t_ways v_t_people q_t_kind q_t_by q_t_home q_t_aim q_t_at0 v_t_hour v_t_chance v_t_seed w_t_kept w_t_tried v_t_at v_t_token v_t_from v_t_figures v_t_fault q_t_told v_t_statements q_t_steps q_t_spot q_t_then v_t_now v_t_gone q_t_sights q_t_darkAt q_t_can), (q_t_refused, .inl (cy 0, 8, .inl v_t_refused)), (q_t_ways, .inl (cy 0, 12, .inl v_t_ways)), (q_t_steps, .inl (cy 0, 12, .inl u3))] := hD
    refine lv_iload_n hx hb dX8_farthest_20 rfl (lv_at hl 1 rfl) ?_
    refine lv_istore_n (lv' := [(2, .int p0), (0, .ref q_t), (1, .int p0)]) hx hb dX8_farthest_21 rfl hl (by decide) rfl (fun ls hl => ?_)
    refine lv_iconst (v := 0) hx hb dX8_farthest_22 (by decide) ?_
    refine lv_istore_n (lv' := [(3, .int (0 : Int32)), (2, .int p0), (0, .ref q_t), (1, .int p0)]) hx hb dX8_farthest_23 rfl hl (by decide) rfl (fun ls hl => ?_)
    refine wlw2 24 (fun _ _ => []) (fun (x5 : Int32) (x6 : Int32) H locs ls => va_P D vwCl [(q_t, oX8 q_t_shelf q_t_rowSort q_t_rowSize q_t_rows q_t_moved q_t_shown q_t_tape v_t_tapeSize q_t_refused v_t_places q_t_ways v_t_people q_t_kind q_t_by q_t_home q_t_aim q_t_at0 v_t_hour v_t_chance v_t_seed w_t_kept w_t_tried v_t_at v_t_token v_t_from v_t_figures v_t_fault q_t_told v_t_statements q_t_steps q_t_spot q_t_then v_t_now v_t_gone q_t_sights q_t_darkAt q_t_can), (q_t_refused, .inl (cy 0, 8, .inl v_t_refused)), (q_t_ways, .inl (cy 0, 12, .inl v_t_ways)), (q_t_steps, .inl (cy 0, 12, .inl u3))] H ∧ va_D A [(q_t, oX8 q_t_shelf q_t_rowSort q_t_rowSize q_t_rows q_t_moved q_t_shown q_t_tape v_t_tapeSize q_t_refused v_t_places q_t_ways v_t_people q_t_kind q_t_by q_t_home q_t_aim q_t_at0 v_t_hour v_t_chance v_t_seed w_t_kept w_t_tried v_t_at v_t_token v_t_from v_t_figures v_t_fault q_t_told v_t_statements q_t_steps q_t_spot q_t_then v_t_now v_t_gone q_t_sights q_t_darkAt q_t_can), (q_t_refused, .inl (cy 0, 8, .inl v_t_refused)), (q_t_ways, .inl (cy 0, 12, .inl v_t_ways)), (q_t_steps, .inl (cy 0, 12, .inl u3))] ∧ va_S A s.heap H locs ∧ lv_has ls 4 [(2, .int x5), (3, .int x6), (0, .ref q_t)]) (fun g7 L24 x5 x6 H locs ls hI hf => ?_) 400 p0 (0 : Int32) _ _ ls ⟨hP, hD, hS, lv_sub hl [1, 0, 2] rfl⟩ hf
    obtain ⟨hP, hD, hS, hl⟩ := hI
    refine lv_iload_n hx hb dX8_farthest_24 rfl (lv_at hl 1 rfl) ?_
    refine lv_aload_n hx hb dX8_farthest_25 rfl (lv_at hl 2 rfl) ?_
    refine va_get (D := D) (ci := 8) (v := .int v_t_places) (C := RX8) (T := TX8) (N := 37) hx hb hts hinX8 hown hK.1 hP 0 rfl rfl 9 (by decide) hk37 (fun _ h9 => h9) rfl dX8_farthest_26 ?_
    refine lv_icmp_ge (tgt := 59) hx hb dX8_farthest_29 (by decide) (fun c14 => ?_) (fun c14 => ?_)
    · have hf := ifT hf c14
      clear c14
      refine lv_iload_n hx hb dX8_farthest_59 rfl (lv_at hl 0 rfl) ?_
      cases hf
      exact W.iret hx hb hr (fun t ht hW => ⟨⟨_, (), rfl, rfl, xend ht hP⟩, hS.F ht⟩) hS.2.2 dX8_farthest_60
    · have hf := ifF hf c14
      clear c14
      refine lv_aload_n hx hb dX8_farthest_32 rfl (lv_at hl 2 rfl) ?_
      refine va_get (D := D) (ci := 8) (v := .ref q_t_steps) (C := RX8) (T := TX8) (N := 37) hx hb hts hinX8 hown hK.1 hP 0 rfl rfl 29 (by decide) hk68 (fun _ h9 => h9) rfl dX8_farthest_33 ?_
      refine lv_iload_n hx hb dX8_farthest_36 rfl (lv_at hl 1 rfl) ?_
      obtain ⟨hi8, hf⟩ := ckE hf
      refine va_iald hx hb hK.1 hP 3 0 rfl rfl hi8 dX8_farthest_37 ?_
      refine lv_aload_n hx hb dX8_farthest_38 rfl (lv_at hl 2 rfl) ?_
      refine va_get (D := D) (ci := 8) (v := .ref q_t_steps) (C := RX8) (T := TX8) (N := 37) hx hb hts hinX8 hown hK.1 hP 0 rfl rfl 29 (by decide) hk68 (fun _ h9 => h9) rfl dX8_farthest_39 ?_
      refine lv_iload_n hx hb dX8_farthest_42 rfl (lv_at hl 0 rfl) ?_
      obtain ⟨hi9, hf⟩ := ckE hf
      refine va_iald hx hb hK.1 hP 3 0 rfl rfl hi9 dX8_farthest_43 ?_
      refine jww1 52 (fun (y10 : Int32) => [.int y10]) (fun (y10 : Int32) H locs ls => va_P D vwCl [(q_t, oX8 q_t_shelf q_t_rowSort q_t_rowSize q_t_rows q_t_moved q_t_shown q_t_tape v_t_tapeSize q_t_refused v_t_places q_t_ways v_t_people q_t_kind q_t_by q_t_home q_t_aim q_t_at0 v_t_hour v_t_chance v_t_seed w_t_kept w_t_tried v_t_at v_t_token v_t_from v_t_figures v_t_fault q_t_told v_t_statements q_t_steps q_t_spot q_t_then v_t_now v_t_gone q_t_sights q_t_darkAt q_t_can), (q_t_refused, .inl (cy 0, 8, .inl v_t_refused)), (q_t_ways, .inl (cy 0, 12, .inl v_t_ways)), (q_t_steps, .inl (cy 0, 12, .inl u3))] H ∧ va_D A [(q_t, oX8 q_t_shelf q_t_rowSort q_t_rowSize q_t_rows q_t_moved q_t_shown q_t_tape v_t_tapeSize q_t_refused v_t_places q_t_ways v_t_people q_t_kind q_t_by q_t_home q_t_aim q_t_at0 v_t_hour v_t_chance v_t_seed w_t_kept w_t_tried v_t_at v_t_token v_t_from v_t_figures v_t_fault q_t_told v_t_statements q_t_steps q_t_spot q_t_then v_t_now v_t_gone q_t_sights q_t_darkAt q_t_can), (q_t_refused, .inl (cy 0, 8, .inl v_t_refused)), (q_t_ways, .inl (cy 0, 12, .inl v_t_ways)), (q_t_steps, .inl (cy 0, 12, .inl u3))] ∧ va_S A s.heap H locs ∧ lv_has ls 4 [(0, .ref q_t), (3, .int x6)]) hf (fun y10 H locs ls hI hf => ?_) (fun k11 J52 hf => ?_)
      · obtain ⟨hP, hD, hS, hl⟩ := hI
        refine lv_istore_n (lv' := [(2, .int y10), (0, .ref q_t), (3, .int x6)]) hx hb dX8_farthest_52 rfl hl (by decide) rfl (fun ls hl => ?_)
        obtain ⟨x12, ex12⟩ : ∃ y : Int32, y = x6 + (1 : Int32) := ⟨_, rfl⟩
        have hf := vlE hf ex12
        refine lv_iinc (v := x12) (lv' := [(3, .int x12), (2, .int y10), (0, .ref q_t)]) hx hb dX8_farthest_53 hl (k := 2) rfl (by rw [ex12]; rfl) (by decide) rfl (fun ls hl => ?_)
        clear ex12
        refine lv_goto (tgt := 24) hx hb dX8_farthest_56 (by decide) ?_
        exact L24 y10 x12 _ _ ls ⟨hP, hD, hS, lv_sub hl [1, 0, 2] rfl⟩ hf
      · refine lv_icmp_le (tgt := 51) hx hb dX8_farthest_44 (by decide) (fun c13 => ?_) (fun c13 => ?_)
        · have hf := ifT hf c13
          clear c13
          refine lv_iload_n hx hb dX8_farthest_51 rfl (lv_at hl 0 rfl) ?_
          exact J52 x5 _ _ ls ⟨hP, hD, hS, lv_sub hl [2, 1] rfl⟩ hf
        · have hf := ifF hf c13
          clear c13
          refine lv_iload_n hx hb dX8_farthest_47 rfl (lv_at hl 1 rfl) ?_
          refine lv_goto (tgt := 52) hx hb dX8_farthest_48 (by decide) ?_
          exact J52 x6 _ _ ls ⟨hP, hD, hS, lv_sub hl [2, 1] rfl⟩ hf
  · have hf := ifT hf c18
    clear c18
    refine lv_aload_n hx hb dX8_farthest_8 rfl (lv_at hl 0 rfl) ?_
    refine lv_bipush (v := (-2)) hx hb dX8_farthest_9 (by decide) ?_
    obtain ⟨r15, u16, hr17, hf⟩ := boE2 hf
    have hPc := hP.sub (ws' := [(q_t, oX8 q_t_shelf q_t_rowSort q_t_rowSize q_t_rows q_t_moved q_t_shown q_t_tape v_t_tapeSize q_t_refused v_t_places q_t_ways v_t_people q_t_kind q_t_by q_t_home q_t_aim q_t_at0 v_t_hour v_t_chance v_t_seed w_t_kept w_t_tried v_t_at v_t_token v_t_from v_t_figures v_t_fault q_t_told v_t_statements q_t_steps q_t_spot q_t_then v_t_now v_t_gone q_t_sights q_t_darkAt q_t_can), (q_t_refused, .inl (cy 0, 8, .inl v_t_refused))]) [0, 1] rfl
    have hDc := hD.sub (ws' := [(q_t, oX8 q_t_shelf q_t_rowSort q_t_rowSize q_t_rows q_t_moved q_t_shown q_t_tape v_t_tapeSize q_t_refused v_t_places q_t_ways v_t_people q_t_kind q_t_by q_t_home q_t_aim q_t_at0 v_t_hour v_t_chance v_t_seed w_t_kept w_t_tried v_t_at v_t_token v_t_from v_t_figures v_t_fault q_t_told v_t_statements q_t_steps q_t_spot q_t_then v_t_now v_t_gone q_t_sights q_t_darkAt q_t_can), (q_t_refused, .inl (cy 0, 8, .inl v_t_refused))]) [0, 1] (by decide) rfl
    refine xcQi (w1 := [(q_t, oX8 q_t_shelf q_t_rowSort q_t_rowSize q_t_rows q_t_moved q_t_shown q_t_tape v_t_tapeSize q_t_refused v_t_places q_t_ways v_t_people q_t_kind q_t_by q_t_home q_t_aim q_t_at0 v_t_hour v_t_chance v_t_seed w_t_kept w_t_tried v_t_at v_t_token v_t_from v_t_figures v_t_fault q_t_told v_t_statements q_t_steps q_t_spot q_t_then v_t_now v_t_gone q_t_sights q_t_darkAt q_t_can), (q_t_refused, .inl (cy 0, 8, .inl u16))]) (va_runV (As := [.int (-2 : Int32)]) (rest := []) ⟨hx, hb, hml, hown, hts⟩ (mX8_refuse l D cy q_t q_t_shelf q_t_rowSort q_t_rowSize q_t_rows q_t_moved q_t_shown q_t_tape q_t_refused q_t_ways q_t_kind q_t_by q_t_home q_t_aim q_t_at0 q_t_told q_t_steps q_t_spot q_t_then q_t_sights q_t_darkAt q_t_can v_t_tapeSize v_t_places v_t_people v_t_hour v_t_chance v_t_seed w_t_kept w_t_tried v_t_at v_t_token v_t_from v_t_figures v_t_fault v_t_statements v_t_now v_t_gone v_t_refused _ (-2 : Int32) hr17) (cwV 1 hts gX8_farthest_X8_refuse rfl rfl rfl (by decide +kernel) ⟨Nat.le_of_ble_eq_true rfl, Nat.le_of_ble_eq_true rfl⟩) (xPVw hK hPc hDc (ci := 8) (q0 := 0) rfl rfl) rfl rfl hl.1 rfl (lv_room (Nat.le_of_ble_eq_true rfl)) dX8_farthest_11 ⟨Nat.le_of_ble_eq_true rfl, Nat.le_of_ble_eq_true rfl⟩) hP hD hS hA [0, 1] rfl rfl (fun H locs hP hD hS => ?_)
    have hP : va_P D vwCl [(q_t, oX8 q_t_shelf q_t_rowSort q_t_rowSize q_t_rows q_t_moved q_t_shown q_t_tape v_t_tapeSize q_t_refused v_t_places q_t_ways v_t_people q_t_kind q_t_by q_t_home q_t_aim q_t_at0 v_t_hour v_t_chance v_t_seed w_t_kept w_t_tried v_t_at v_t_token v_t_from v_t_figures v_t_fault q_t_told v_t_statements q_t_steps q_t_spot q_t_then v_t_now v_t_gone q_t_sights q_t_darkAt q_t_can), (q_t_refused, .inl (cy 0, 8, .inl u16)), (q_t_ways, .inl (cy 0, 12, .inl v_t_ways)), (q_t_steps, .inl (cy 0, 12, .inl v_t_steps))] H := hP
    have hD : va_D A [(q_t, oX8 q_t_shelf q_t_rowSort q_t_rowSize q_t_rows q_t_moved q_t_shown q_t_tape v_t_tapeSize q_t_refused v_t_places q_t_ways v_t_people q_t_kind q_t_by q_t_home q_t_aim q_t_at0 v_t_hour v_t_chance v_t_seed w_t_kept w_t_tried v_t_at v_t_token v_t_from v_t_figures v_t_fault q_t_told v_t_statements q_t_steps q_t_spot q_t_then v_t_now v_t_gone q_t_sights q_t_darkAt q_t_can), (q_t_refused, .inl (cy 0, 8, .inl u16)), (q_t_ways, .inl (cy 0, 12, .inl v_t_ways)), (q_t_steps, .inl (cy 0, 12, .inl v_t_steps))] := hD
    cases hf
    exact W.iret hx hb hr (fun t ht hW => ⟨⟨_, (), rfl, rfl, xend ht hP⟩, hS.F ht⟩) hS.2.2 dX8_farthest_14
def fX8_middle (v_t_places : Int32) (v_t_people : Int32) (v_t_refused : Nat → Int32) (v_t_ways : Nat → Int32) (v_t_at0 : Nat → Int32) (v_t_steps : Nat → Int32) : Option (Int32 × (Nat → Int32) × (Nat → Int32)) :=
  if v_t_people = 0 then
    bo2 (fX8_refuse v_t_refused (-5 : Int32)) fun r29 u30 =>
    some (r29, u30, v_t_steps)
  else
    lo4 (fun g5 (x1 : Int32) (x2 : Int32) (x3 : Int32) (u4 : Nat → Int32) =>
      if v_t_places ≤ x3 then
        some (x1, v_t_refused, u4)
      else
        bo1 (fX8_findFar v_t_places v_t_ways u4 x3) fun u6 =>
        lo2 (fun g10 (x8 : Int32) (x9 : Int32) =>
          if v_t_people ≤ x9 then
            jo2 (fun (x11 : Int32) (x12 : Int32) =>
              vlet (x3 + (1 : Int32)) fun x14 =>
              g5 x11 x12 x14 u6) fun k13 =>
            jo0 (
              k13 x3 x8) fun k15 =>
            if x1 = (-1 : Int32) then
              k15
            else
              if x2 ≤ x8 then
                k13 x1 x2
              else
                k15
          else
            if x9 < 0 ∨ 8 ≤ x9.toNatClampNeg then none else
            if (v_t_at0 x9.toNatClampNeg) < 0 ∨ 12 ≤ (v_t_at0 x9.toNatClampNeg).toNatClampNeg then none else
            jo1 (fun (y20 : Int32) =>
              vlet (x8 + y20) fun x22 =>
              vlet (x9 + (1 : Int32)) fun x23 =>
              g10 x22 x23) fun k21 =>
            if (u6 (v_t_at0 x9.toNatClampNeg).toNatClampNeg) = (-1 : Int32) then
              k21 (12 : Int32)
            else
              if x9 < 0 ∨ 8 ≤ x9.toNatClampNeg then none else
              if (v_t_at0 x9.toNatClampNeg) < 0 ∨ 12 ≤ (v_t_at0 x9.toNatClampNeg).toNatClampNeg then none else
              k21 (u6 (v_t_at0 x9.toNatClampNeg).toNatClampNeg)) 400 (0 : Int32) (0 : Int32)) 400 (-1 : Int32) (0 : Int32) (0 : Int32) v_t_steps
set_option maxHeartbeats 4000000 in
set_option maxRecDepth 100000 in
theorem mX8_middle (l : Launch) (D : va_G) (cy : Nat → ClassId) (q_t q_t_shelf q_t_rowSort q_t_rowSize q_t_rows q_t_moved q_t_shown q_t_tape q_t_refused q_t_ways q_t_kind q_t_by q_t_home q_t_aim q_t_at0 q_t_told q_t_steps q_t_spot q_t_then q_t_sights q_t_darkAt q_t_can : Nat) (v_t_tapeSize : Int32) (v_t_places : Int32) (v_t_people : Int32) (v_t_hour : Int32) (v_t_chance : Int32) (v_t_seed : Int32) (w_t_kept : Value) (w_t_tried : Value) (v_t_at : Int32) (v_t_token : Int32) (v_t_from : Int32) (v_t_figures : Int32) (v_t_fault : Int32) (v_t_statements : Int32) (v_t_now : Int32) (v_t_gone : Int32) (v_t_refused : Nat → Int32) (v_t_ways : Nat → Int32) (v_t_at0 : Nat → Int32) (v_t_steps : Nat → Int32) (sz : Nat) {r_ : Int32} {n_t_refused : Nat → Int32} {n_t_steps : Nat → Int32} (hf : fX8_middle v_t_places v_t_people v_t_refused v_t_ways v_t_at0 v_t_steps = some (r_, n_t_refused, n_t_steps)) : Met l yX8_middle wsX8_middle ({ frames := 1, cells := 0, slots := 0, locals := 24 }) (va_Pc [.ref q_t] (fun U => U.heap.size = sz ∧ va_P D vwCl [(q_t, oX8 q_t_shelf q_t_rowSort q_t_rowSize q_t_rows q_t_moved q_t_shown q_t_tape v_t_tapeSize q_t_refused v_t_places q_t_ways v_t_people q_t_kind q_t_by q_t_home q_t_aim q_t_at0 v_t_hour v_t_chance v_t_seed w_t_kept w_t_tried v_t_at v_t_token v_t_from v_t_figures v_t_fault q_t_told v_t_statements q_t_steps q_t_spot q_t_then v_t_now v_t_gone q_t_sights q_t_darkAt q_t_can), (q_t_refused, .inl (cy 0, 8, .inl v_t_refused)), (q_t_ways, .inl (cy 0, 12, .inl v_t_ways)), (q_t_at0, .inl (cy 0, 8, .inl v_t_at0)), (q_t_steps, .inl (cy 0, 12, .inl v_t_steps))] U.heap ∧ xK D cy U ∧ va_D (fun _ => True) [(q_t, oX8 q_t_shelf q_t_rowSort q_t_rowSize q_t_rows q_t_moved q_t_shown q_t_tape v_t_tapeSize q_t_refused v_t_places q_t_ways v_t_people q_t_kind q_t_by q_t_home q_t_aim q_t_at0 v_t_hour v_t_chance v_t_seed w_t_kept w_t_tried v_t_at v_t_token v_t_from v_t_figures v_t_fault q_t_told v_t_statements q_t_steps q_t_spot q_t_then v_t_now v_t_gone q_t_sights q_t_darkAt q_t_can), (q_t_refused, .inl (cy 0, 8, .inl v_t_refused)), (q_t_ways, .inl (cy 0, 12, .inl v_t_ways)), (q_t_at0, .inl (cy 0, 8, .inl v_t_at0)), (q_t_steps, .inl (cy 0, 12, .inl v_t_steps))])) (va_Qi (fun (x : Int32) (_ : Unit) => x = r_) (fun _ t => va_P D vwCl [(q_t, oX8 q_t_shelf q_t_rowSort q_t_rowSize q_t_rows q_t_moved q_t_shown q_t_tape v_t_tapeSize q_t_refused v_t_places q_t_ways v_t_people q_t_kind q_t_by q_t_home q_t_aim q_t_at0 v_t_hour v_t_chance v_t_seed w_t_kept w_t_tried v_t_at v_t_token v_t_from v_t_figures v_t_fault q_t_told v_t_statements q_t_steps q_t_spot q_t_then v_t_now v_t_gone q_t_sights q_t_darkAt q_t_can), (q_t_refused, .inl (cy 0, 8, .inl n_t_refused)), (q_t_ways, .inl (cy 0, 12, .inl v_t_ways)), (q_t_at0, .inl (cy 0, 8, .inl v_t_at0)), (q_t_steps, .inl (cy 0, 12, .inl n_t_steps))] t.heap) (va_A [(q_t, oX8 q_t_shelf q_t_rowSort q_t_rowSize q_t_rows q_t_moved q_t_shown q_t_tape v_t_tapeSize q_t_refused v_t_places q_t_ways v_t_people q_t_kind q_t_by q_t_home q_t_aim q_t_at0 v_t_hour v_t_chance v_t_seed w_t_kept w_t_tried v_t_at v_t_token v_t_from v_t_figures v_t_fault q_t_told v_t_statements q_t_steps q_t_spot q_t_then v_t_now v_t_gone q_t_sights q_t_darkAt q_t_can), (q_t_refused, .inl (cy 0, 8, .inl v_t_refused)), (q_t_ways, .inl (cy 0, 12, .inl v_t_ways)), (q_t_at0, .inl (cy 0, 8, .inl v_t_at0)), (q_t_steps, .inl (cy 0, 12, .inl v_t_steps))] sz)) 0 0 (va_A [(q_t, oX8 q_t_shelf q_t_rowSort q_t_rowSize q_t_rows q_t_moved q_t_shown q_t_tape v_t_tapeSize q_t_refused v_t_places q_t_ways v_t_people q_t_kind q_t_by q_t_home q_t_aim q_t_at0 v_t_hour v_t_chance v_t_seed w_t_kept w_t_tried v_t_at v_t_token v_t_from v_t_figures v_t_fault q_t_told v_t_statements q_t_steps q_t_spot q_t_then v_t_now v_t_gone q_t_sights q_t_darkAt q_t_can), (q_t_refused, .inl (cy 0, 8, .inl v_t_refused)), (q_t_ways, .inl (cy 0, 12, .inl v_t_ways)), (q_t_at0, .inl (cy 0, 8, .inl v_t_at0)), (q_t_steps, .inl (cy 0, 12, .inl v_t_steps))] sz) := by
  refine Met.ofW (cc := cX8_middle) (maxL := 6) (ret := (some .int)) (by decide) rfl ?_
  intro p e s m args below meth c s₁ B hml hv
  obtain ⟨rfl, hsz, hP, hK, hD0⟩ := hv
  have hx := B.exec
  have hb := B.bytes
  have hr := B.returns
  have hts := atoms_spec (ws := wsX8_middle) B.pre
  have hown : s.vm.findClass RX8 = some m.cls := findClass_of_methodNamed B.named
  have hlocks := B.notSynchronized
  subst hsz
  have hD := hD0.self (sz := s.heap.size)
  generalize hAe : va_A [(q_t, oX8 q_t_shelf q_t_rowSort q_t_rowSize q_t_rows q_t_moved q_t_shown q_t_tape v_t_tapeSize q_t_refused v_t_places q_t_ways v_t_people q_t_kind q_t_by q_t_home q_t_aim q_t_at0 v_t_hour v_t_chance v_t_seed w_t_kept w_t_tried v_t_at v_t_token v_t_from v_t_figures v_t_fault q_t_told v_t_statements q_t_steps q_t_spot q_t_then v_t_now v_t_gone q_t_sights q_t_darkAt q_t_can), (q_t_refused, .inl (cy 0, 8, .inl v_t_refused)), (q_t_ways, .inl (cy 0, 12, .inl v_t_ways)), (q_t_at0, .inl (cy 0, 8, .inl v_t_at0)), (q_t_steps, .inl (cy 0, 12, .inl v_t_steps))] s.heap.size = A at hD ⊢
  have hA : ∀ q : Nat, s.heap.size ≤ q → A q := fun q h => by rw [← hAe]; exact Or.inr h
  have hS : va_S A s.heap s.heap [] := va_S.rf
  have hP : va_P D vwCl [(q_t, oX8 q_t_shelf q_t_rowSort q_t_rowSize q_t_rows q_t_moved q_t_shown q_t_tape v_t_tapeSize q_t_refused v_t_places q_t_ways v_t_people q_t_kind q_t_by q_t_home q_t_aim q_t_at0 v_t_hour v_t_chance v_t_seed w_t_kept w_t_tried v_t_at v_t_token v_t_from v_t_figures v_t_fault q_t_told v_t_statements q_t_steps q_t_spot q_t_then v_t_now v_t_gone q_t_sights q_t_darkAt q_t_can), (q_t_refused, .inl (cy 0, 8, .inl v_t_refused)), (q_t_ways, .inl (cy 0, 12, .inl v_t_ways)), (q_t_at0, .inl (cy 0, 8, .inl v_t_at0)), (q_t_steps, .inl (cy 0, 12, .inl v_t_steps))] s.heap := hP
  have hinX8 : ∀ w ∈ u_ws RX8 TX8 37, w ∈ wsX8_middle := by decide +kernel
  have hk95 := hts (.fieldLink RX8 95 "ShowsWhereNobodyIsModel" "people" "I") (by decide +kernel)
  have hk37 := hts (.fieldLink RX8 37 "ShowsWhereNobodyIsModel" "places" "I") (by decide +kernel)
  have hk68 := hts (.fieldLink RX8 68 "ShowsWhereNobodyIsModel" "steps" "[I") (by decide +kernel)
  have hk56 := hts (.fieldLink RX8 56 "ShowsWhereNobodyIsModel" "at0" "[I") (by decide +kernel)
  have hl := lv_entry ([.ref q_t]) (n := 6) (Nat.le_of_ble_eq_true rfl)
  rw [lg_entry_eq]
  generalize (lg_sl ([.ref q_t]) ++ List.replicate (6 - (lg_sl ([.ref q_t])).length) Slot.unset).toArray = ls at hl ⊢
  have hl : lv_has ls 6 [(0, .ref q_t)] := hl
  unfold fX8_middle at hf
  refine lv_aload_n hx hb dX8_middle_0 rfl (lv_at hl 0 rfl) ?_
  refine va_get (D := D) (ci := 8) (v := .int v_t_people) (C := RX8) (T := TX8) (N := 37) hx hb hts hinX8 hown hK.1 hP 0 rfl rfl 11 (by decide) hk95 (fun _ h9 => h9) rfl dX8_middle_1 ?_
  refine lv_if_ne (tgt := 14) hx hb dX8_middle_4 (by decide) (fun c32 => ?_) (fun c32 => ?_)
  · have hf := ifF hf c32
    clear c32
    refine lv_iconst (v := (-1)) hx hb dX8_middle_14 (by decide) ?_
    refine lv_istore_n (lv' := [(1, .int (-1 : Int32)), (0, .ref q_t)]) hx hb dX8_middle_15 rfl hl (by decide) rfl (fun ls hl => ?_)
    refine lv_iconst (v := 0) hx hb dX8_middle_16 (by decide) ?_
    refine lv_istore_n (lv' := [(2, .int (0 : Int32)), (1, .int (-1 : Int32)), (0, .ref q_t)]) hx hb dX8_middle_17 rfl hl (by decide) rfl (fun ls hl => ?_)
    refine lv_iconst (v := 0) hx hb dX8_middle_18 (by decide) ?_
    refine lv_istore_n (lv' := [(3, .int (0 : Int32)), (2, .int (0 : Int32)), (1, .int (-1 : Int32)), (0, .ref q_t)]) hx hb dX8_middle_19 rfl hl (by decide) rfl (fun ls hl => ?_)
    refine wlw4 20 (fun _ _ _ _ => []) (fun (x1 : Int32) (x2 : Int32) (x3 : Int32) (u4 : Nat → Int32) H locs ls => va_P D vwCl [(q_t, oX8 q_t_shelf q_t_rowSort q_t_rowSize q_t_rows q_t_moved q_t_shown q_t_tape v_t_tapeSize q_t_refused v_t_places q_t_ways v_t_people q_t_kind q_t_by q_t_home q_t_aim q_t_at0 v_t_hour v_t_chance v_t_seed w_t_kept w_t_tried v_t_at v_t_token v_t_from v_t_figures v_t_fault q_t_told v_t_statements q_t_steps q_t_spot q_t_then v_t_now v_t_gone q_t_sights q_t_darkAt q_t_can), (q_t_refused, .inl (cy 0, 8, .inl v_t_refused)), (q_t_ways, .inl (cy 0, 12, .inl v_t_ways)), (q_t_at0, .inl (cy 0, 8, .inl v_t_at0)), (q_t_steps, .inl (cy 0, 12, .inl u4))] H ∧ va_D A [(q_t, oX8 q_t_shelf q_t_rowSort q_t_rowSize q_t_rows q_t_moved q_t_shown q_t_tape v_t_tapeSize q_t_refused v_t_places q_t_ways v_t_people q_t_kind q_t_by q_t_home q_t_aim q_t_at0 v_t_hour v_t_chance v_t_seed w_t_kept w_t_tried v_t_at v_t_token v_t_from v_t_figures v_t_fault q_t_told v_t_statements q_t_steps q_t_spot q_t_then v_t_now v_t_gone q_t_sights q_t_darkAt q_t_can), (q_t_refused, .inl (cy 0, 8, .inl v_t_refused)), (q_t_ways, .inl (cy 0, 12, .inl v_t_ways)), (q_t_at0, .inl (cy 0, 8, .inl v_t_at0)), (q_t_steps, .inl (cy 0, 12, .inl u4))] ∧ va_S A s.heap H locs ∧ lv_has ls 6 [(1, .int x1), (2, .int x2), (3, .int x3), (0, .ref q_t)]) (fun g5 L20 x1 x2 x3 u4 H locs ls hI hf => ?_) 400 (-1 : Int32) (0 : Int32) (0 : Int32) v_t_steps _ _ ls ⟨hP, hD, hS, lv_sub hl [2, 1, 0, 3] rfl⟩ hf
    obtain ⟨hP, hD, hS, hl⟩ := hI
    refine lv_iload_n hx hb dX8_middle_20 rfl (lv_at hl 2 rfl) ?_
    refine lv_aload_n hx hb dX8_middle_21 rfl (lv_at hl 3 rfl) ?_
    refine va_get (D := D) (ci := 8) (v := .int v_t_places) (C := RX8) (T := TX8) (N := 37) hx hb hts hinX8 hown hK.1 hP 0 rfl rfl 9 (by decide) hk37 (fun _ h9 => h9) rfl dX8_middle_22 ?_
    refine lv_icmp_ge (tgt := 114) hx hb dX8_middle_25 (by decide) (fun c28 => ?_) (fun c28 => ?_)
    · have hf := ifT hf c28
      clear c28
      refine lv_iload_n hx hb dX8_middle_114 rfl (lv_at hl 0 rfl) ?_
      cases hf
      exact W.iret hx hb hr (fun t ht hW => ⟨⟨_, (), rfl, rfl, xend ht hP⟩, hS.F ht⟩) hS.2.2 dX8_middle_115
    · have hf := ifF hf c28
      clear c28
      refine lv_aload_n hx hb dX8_middle_28 rfl (lv_at hl 3 rfl) ?_
      refine lv_iload_n hx hb dX8_middle_29 rfl (lv_at hl 2 rfl) ?_
      obtain ⟨u6, hr7, hf⟩ := boE1 hf
      have hPc := hP.sub (ws' := [(q_t, oX8 q_t_shelf q_t_rowSort q_t_rowSize q_t_rows q_t_moved q_t_shown q_t_tape v_t_tapeSize q_t_refused v_t_places q_t_ways v_t_people q_t_kind q_t_by q_t_home q_t_aim q_t_at0 v_t_hour v_t_chance v_t_seed w_t_kept w_t_tried v_t_at v_t_token v_t_from v_t_figures v_t_fault q_t_told v_t_statements q_t_steps q_t_spot q_t_then v_t_now v_t_gone q_t_sights q_t_darkAt q_t_can), (q_t_ways, .inl (cy 0, 12, .inl v_t_ways)), (q_t_steps, .inl (cy 0, 12, .inl u4))]) [0, 2, 4] rfl
      have hDc := hD.sub (ws' := [(q_t, oX8 q_t_shelf q_t_rowSort q_t_rowSize q_t_rows q_t_moved q_t_shown q_t_tape v_t_tapeSize q_t_refused v_t_places q_t_ways v_t_people q_t_kind q_t_by q_t_home q_t_aim q_t_at0 v_t_hour v_t_chance v_t_seed w_t_kept w_t_tried v_t_at v_t_token v_t_from v_t_figures v_t_fault q_t_told v_t_statements q_t_steps q_t_spot q_t_then v_t_now v_t_gone q_t_sights q_t_darkAt q_t_can), (q_t_ways, .inl (cy 0, 12, .inl v_t_ways)), (q_t_steps, .inl (cy 0, 12, .inl u4))]) [0, 2, 4] (by decide) rfl
      refine xcQv (w1 := [(q_t, oX8 q_t_shelf q_t_rowSort q_t_rowSize q_t_rows q_t_moved q_t_shown q_t_tape v_t_tapeSize q_t_refused v_t_places q_t_ways v_t_people q_t_kind q_t_by q_t_home q_t_aim q_t_at0 v_t_hour v_t_chance v_t_seed w_t_kept w_t_tried v_t_at v_t_token v_t_from v_t_figures v_t_fault q_t_told v_t_statements q_t_steps q_t_spot q_t_then v_t_now v_t_gone q_t_sights q_t_darkAt q_t_can), (q_t_ways, .inl (cy 0, 12, .inl v_t_ways)), (q_t_steps, .inl (cy 0, 12, .inl u6))]) (va_runV (As := [.int x3]) (rest := []) ⟨hx, hb, hml, hown, hts⟩ (mX8_findFar l D cy q_t q_t_shelf q_t_rowSort q_t_rowSize q_t_rows q_t_moved q_t_shown q_t_tape q_t_refused q_t_ways q_t_kind q_t_by q_t_home q_t_aim q_t_at0 q_t_told q_t_steps q_t_spot q_t_then q_t_sights q_t_darkAt q_t_can v_t_tapeSize v_t_places v_t_people v_t_hour v_t_chance v_t_seed w_t_kept w_t_tried v_t_at v_t_token v_t_from v_t_figures v_t_fault v_t_statements v_t_now v_t_gone v_t_ways u4 _ x3 hr7) (cwV 1 hts gX8_middle_X8_findFar rfl rfl rfl (by decide +kernel) ⟨Nat.le_of_ble_eq_true rfl, Nat.le_of_ble_eq_true rfl⟩) (xPVw hK hPc hDc (ci := 8) (q0 := 0) rfl rfl) rfl rfl hl.1 rfl (lv_room (Nat.le_of_ble_eq_true rfl)) dX8_middle_30 ⟨Nat.le_of_ble_eq_true rfl, Nat.le_of_ble_eq_true rfl⟩) hP hD hS hA [0, 2, 4] rfl rfl (fun H locs hP hD hS => ?_)
      have hP : va_P D vwCl [(q_t, oX8 q_t_shelf q_t_rowSort q_t_rowSize q_t_rows q_t_moved q_t_shown q_t_tape v_t_tapeSize q_t_refused v_t_places q_t_ways v_t_people q_t_kind q_t_by q_t_home q_t_aim q_t_at0 v_t_hour v_t_chance v_t_seed w_t_kept w_t_tried v_t_at v_t_token v_t_from v_t_figures v_t_fault q_t_told v_t_statements q_t_steps q_t_spot q_t_then v_t_now v_t_gone q_t_sights q_t_darkAt q_t_can), (q_t_refused, .inl (cy 0, 8, .inl v_t_refused)), (q_t_ways, .inl (cy 0, 12, .inl v_t_ways)), (q_t_at0, .inl (cy 0, 8, .inl v_t_at0)), (q_t_steps, .inl (cy 0, 12, .inl u6))] H := hP
      have hD : va_D A [(q_t, oX8 q_t_shelf q_t_rowSort q_t_rowSize q_t_rows q_t_moved q_t_shown q_t_tape v_t_tapeSize q_t_refused v_t_places q_t_ways v_t_people q_t_kind q_t_by q_t_home q_t_aim q_t_at0 v_t_hour v_t_chance v_t_seed w_t_kept w_t_tried v_t_at v_t_token v_t_from v_t_figures v_t_fault q_t_told v_t_statements q_t_steps q_t_spot q_t_then v_t_now v_t_gone q_t_sights q_t_darkAt q_t_can), (q_t_refused, .inl (cy 0, 8, .inl v_t_refused)), (q_t_ways, .inl (cy 0, 12, .inl v_t_ways)), (q_t_at0, .inl (cy 0, 8, .inl v_t_at0)), (q_t_steps, .inl (cy 0, 12, .inl u6))] := hD
      refine lv_iconst (v := 0) hx hb dX8_middle_33 (by decide) ?_
      refine lv_istore (lv' := [(4, .int (0 : Int32)), (1, .int x1), (2, .int x2), (3, .int x3), (0, .ref q_t)]) hx hb dX8_middle_34 hl (by decide) rfl (fun ls hl => ?_)
      refine lv_iconst (v := 0) hx hb dX8_middle_36 (by decide) ?_
      refine lv_istore (lv' := [(5, .int (0 : Int32)), (4, .int (0 : Int32)), (1, .int x1), (2, .int x2), (3, .int x3), (0, .ref q_t)]) hx hb dX8_middle_37 hl (by decide) rfl (fun ls hl => ?_)
      refine wlw2 39 (fun _ _ => []) (fun (x8 : Int32) (x9 : Int32) H locs ls => va_P D vwCl [(q_t, oX8 q_t_shelf q_t_rowSort q_t_rowSize q_t_rows q_t_moved q_t_shown q_t_tape v_t_tapeSize q_t_refused v_t_places q_t_ways v_t_people q_t_kind q_t_by q_t_home q_t_aim q_t_at0 v_t_hour v_t_chance v_t_seed w_t_kept w_t_tried v_t_at v_t_token v_t_from v_t_figures v_t_fault q_t_told v_t_statements q_t_steps q_t_spot q_t_then v_t_now v_t_gone q_t_sights q_t_darkAt q_t_can), (q_t_refused, .inl (cy 0, 8, .inl v_t_refused)), (q_t_ways, .inl (cy 0, 12, .inl v_t_ways)), (q_t_at0, .inl (cy 0, 8, .inl v_t_at0)), (q_t_steps, .inl (cy 0, 12, .inl u6))] H ∧ va_D A [(q_t, oX8 q_t_shelf q_t_rowSort q_t_rowSize q_t_rows q_t_moved q_t_shown q_t_tape v_t_tapeSize q_t_refused v_t_places q_t_ways v_t_people q_t_kind q_t_by q_t_home q_t_aim q_t_at0 v_t_hour v_t_chance v_t_seed w_t_kept w_t_tried v_t_at v_t_token v_t_from v_t_figures v_t_fault q_t_told v_t_statements q_t_steps q_t_spot q_t_then v_t_now v_t_gone q_t_sights q_t_darkAt q_t_can), (q_t_refused, .inl (cy 0, 8, .inl v_t_refused)), (q_t_ways, .inl (cy 0, 12, .inl v_t_ways)), (q_t_at0, .inl (cy 0, 8, .inl v_t_at0)), (q_t_steps, .inl (cy 0, 12, .inl u6))] ∧ va_S A s.heap H locs ∧ lv_has ls 6 [(4, .int x8), (5, .int x9), (1, .int x1), (2, .int x2), (3, .int x3), (0, .ref q_t)]) (fun g10 L39 x8 x9 H locs ls hI hf => ?_) 400 (0 : Int32) (0 : Int32) _ _ ls ⟨hP, hD, hS, lv_sub hl [1, 0, 2, 3, 4, 5] rfl⟩ hf
      obtain ⟨hP, hD, hS, hl⟩ := hI
      refine lv_iload hx hb dX8_middle_39 (lv_at hl 1 rfl) ?_
      refine lv_aload_n hx hb dX8_middle_41 rfl (lv_at hl 5 rfl) ?_
      refine va_get (D := D) (ci := 8) (v := .int v_t_people) (C := RX8) (T := TX8) (N := 37) hx hb hts hinX8 hown hK.1 hP 0 rfl rfl 11 (by decide) hk95 (fun _ h9 => h9) rfl dX8_middle_42 ?_
      refine lv_icmp_ge (tgt := 92) hx hb dX8_middle_45 (by decide) (fun c27 => ?_) (fun c27 => ?_)
      · have hf := ifT hf c27
        clear c27
        refine lv_iload_n hx hb dX8_middle_92 rfl (lv_at hl 2 rfl) ?_
        refine lv_iconst (v := (-1)) hx hb dX8_middle_93 (by decide) ?_
        refine jww2 108 (fun (x11 : Int32) (x12 : Int32) => []) (fun (x11 : Int32) (x12 : Int32) H locs ls => va_P D vwCl [(q_t, oX8 q_t_shelf q_t_rowSort q_t_rowSize q_t_rows q_t_moved q_t_shown q_t_tape v_t_tapeSize q_t_refused v_t_places q_t_ways v_t_people q_t_kind q_t_by q_t_home q_t_aim q_t_at0 v_t_hour v_t_chance v_t_seed w_t_kept w_t_tried v_t_at v_t_token v_t_from v_t_figures v_t_fault q_t_told v_t_statements q_t_steps q_t_spot q_t_then v_t_now v_t_gone q_t_sights q_t_darkAt q_t_can), (q_t_refused, .inl (cy 0, 8, .inl v_t_refused)), (q_t_ways, .inl (cy 0, 12, .inl v_t_ways)), (q_t_at0, .inl (cy 0, 8, .inl v_t_at0)), (q_t_steps, .inl (cy 0, 12, .inl u6))] H ∧ va_D A [(q_t, oX8 q_t_shelf q_t_rowSort q_t_rowSize q_t_rows q_t_moved q_t_shown q_t_tape v_t_tapeSize q_t_refused v_t_places q_t_ways v_t_people q_t_kind q_t_by q_t_home q_t_aim q_t_at0 v_t_hour v_t_chance v_t_seed w_t_kept w_t_tried v_t_at v_t_token v_t_from v_t_figures v_t_fault q_t_told v_t_statements q_t_steps q_t_spot q_t_then v_t_now v_t_gone q_t_sights q_t_darkAt q_t_can), (q_t_refused, .inl (cy 0, 8, .inl v_t_refused)), (q_t_ways, .inl (cy 0, 12, .inl v_t_ways)), (q_t_at0, .inl (cy 0, 8, .inl v_t_at0)), (q_t_steps, .inl (cy 0, 12, .inl u6))] ∧ va_S A s.heap H locs ∧ lv_has ls 6 [(1, .int x11), (2, .int x12), (0, .ref q_t), (3, .int x3)]) hf (fun x11 x12 H locs ls hI hf => ?_) (fun k13 J108 hf => ?_)
        · obtain ⟨hP, hD, hS, hl⟩ := hI
          obtain ⟨x14, ex14⟩ : ∃ y : Int32, y = x3 + (1 : Int32) := ⟨_, rfl⟩
          have hf := vlE hf ex14
          refine lv_iinc (v := x14) (lv' := [(3, .int x14), (1, .int x11), (2, .int x12), (0, .ref q_t)]) hx hb dX8_middle_108 hl (k := 3) rfl (by rw [ex14]; rfl) (by decide) rfl (fun ls hl => ?_)
          clear ex14
          refine lv_goto (tgt := 20) hx hb dX8_middle_111 (by decide) ?_
          exact L20 x11 x12 x14 u6 _ _ ls ⟨hP, hD, hS, lv_sub hl [1, 2, 0, 3] rfl⟩ hf
        · refine jww0 103 [] (fun  H locs ls => va_P D vwCl [(q_t, oX8 q_t_shelf q_t_rowSort q_t_rowSize q_t_rows q_t_moved q_t_shown q_t_tape v_t_tapeSize q_t_refused v_t_places q_t_ways v_t_people q_t_kind q_t_by q_t_home q_t_aim q_t_at0 v_t_hour v_t_chance v_t_seed w_t_kept w_t_tried v_t_at v_t_token v_t_from v_t_figures v_t_fault q_t_told v_t_statements q_t_steps q_t_spot q_t_then v_t_now v_t_gone q_t_sights q_t_darkAt q_t_can), (q_t_refused, .inl (cy 0, 8, .inl v_t_refused)), (q_t_ways, .inl (cy 0, 12, .inl v_t_ways)), (q_t_at0, .inl (cy 0, 8, .inl v_t_at0)), (q_t_steps, .inl (cy 0, 12, .inl u6))] H ∧ va_D A [(q_t, oX8 q_t_shelf q_t_rowSort q_t_rowSize q_t_rows q_t_moved q_t_shown q_t_tape v_t_tapeSize q_t_refused v_t_places q_t_ways v_t_people q_t_kind q_t_by q_t_home q_t_aim q_t_at0 v_t_hour v_t_chance v_t_seed w_t_kept w_t_tried v_t_at v_t_token v_t_from v_t_figures v_t_fault q_t_told v_t_statements q_t_steps q_t_spot q_t_then v_t_now v_t_gone q_t_sights q_t_darkAt q_t_can), (q_t_refused, .inl (cy 0, 8, .inl v_t_refused)), (q_t_ways, .inl (cy 0, 12, .inl v_t_ways)), (q_t_at0, .inl (cy 0, 8, .inl v_t_at0)), (q_t_steps, .inl (cy 0, 12, .inl u6))] ∧ va_S A s.heap H locs ∧ lv_has ls 6 [(0, .ref q_t), (3, .int x3), (4, .int x8)]) hf (fun  H locs ls hI hf => ?_) (fun k15 J103 hf => ?_)
          · obtain ⟨hP, hD, hS, hl⟩ := hI
            refine lv_iload_n hx hb dX8_middle_103 rfl (lv_at hl 1 rfl) ?_
            refine lv_istore_n (lv' := [(1, .int x3), (0, .ref q_t), (3, .int x3), (4, .int x8)]) hx hb dX8_middle_104 rfl hl (by decide) rfl (fun ls hl => ?_)
            refine lv_iload hx hb dX8_middle_105 (lv_at hl 3 rfl) ?_
            refine lv_istore_n (lv' := [(2, .int x8), (1, .int x3), (0, .ref q_t), (3, .int x3), (4, .int x8)]) hx hb dX8_middle_107 rfl hl (by decide) rfl (fun ls hl => ?_)
            exact J108 x3 x8 _ _ ls ⟨hP, hD, hS, lv_sub hl [1, 0, 2, 3] rfl⟩ hf
          · refine lv_icmp_eq (tgt := 103) hx hb dX8_middle_94 (by decide) (fun c17 => ?_) (fun c17 => ?_)
            · have hf := ifT hf c17
              clear c17
              exact J103 _ _ ls ⟨hP, hD, hS, lv_sub hl [5, 4, 0] rfl⟩ hf
            · have hf := ifF hf c17
              clear c17
              refine lv_iload hx hb dX8_middle_97 (lv_at hl 0 rfl) ?_
              refine lv_iload_n hx hb dX8_middle_99 rfl (lv_at hl 3 rfl) ?_
              refine lv_icmp_ge (tgt := 108) hx hb dX8_middle_100 (by decide) (fun c16 => ?_) (fun c16 => ?_)
              · have hf := ifT hf c16
                clear c16
                exact J108 x1 x2 _ _ ls ⟨hP, hD, hS, lv_sub hl [2, 3, 5, 4] rfl⟩ hf
              · have hf := ifF hf c16
                clear c16
                exact J103 _ _ ls ⟨hP, hD, hS, lv_sub hl [5, 4, 0] rfl⟩ hf
      · have hf := ifF hf c27
        clear c27
        refine lv_iload hx hb dX8_middle_48 (lv_at hl 0 rfl) ?_
        refine lv_aload_n hx hb dX8_middle_50 rfl (lv_at hl 5 rfl) ?_
        refine va_get (D := D) (ci := 8) (v := .ref q_t_steps) (C := RX8) (T := TX8) (N := 37) hx hb hts hinX8 hown hK.1 hP 0 rfl rfl 29 (by decide) hk68 (fun _ h9 => h9) rfl dX8_middle_51 ?_
        refine lv_aload_n hx hb dX8_middle_54 rfl (lv_at hl 5 rfl) ?_
        refine va_get (D := D) (ci := 8) (v := .ref q_t_at0) (C := RX8) (T := TX8) (N := 37) hx hb hts hinX8 hown hK.1 hP 0 rfl rfl 16 (by decide) hk56 (fun _ h9 => h9) rfl dX8_middle_55 ?_
        refine lv_iload hx hb dX8_middle_58 (lv_at hl 1 rfl) ?_
        obtain ⟨hi18, hf⟩ := ckE hf
        refine va_iald hx hb hK.1 hP 3 0 rfl rfl hi18 dX8_middle_60 ?_
        obtain ⟨hi19, hf⟩ := ckE hf
        refine va_iald hx hb hK.1 hP 4 0 rfl rfl hi19 dX8_middle_61 ?_
        refine lv_iconst (v := (-1)) hx hb dX8_middle_62 (by decide) ?_
        refine jww1 83 (fun (y20 : Int32) => [.int y20, .int x8]) (fun (y20 : Int32) H locs ls => va_P D vwCl [(q_t, oX8 q_t_shelf q_t_rowSort q_t_rowSize q_t_rows q_t_moved q_t_shown q_t_tape v_t_tapeSize q_t_refused v_t_places q_t_ways v_t_people q_t_kind q_t_by q_t_home q_t_aim q_t_at0 v_t_hour v_t_chance v_t_seed w_t_kept w_t_tried v_t_at v_t_token v_t_from v_t_figures v_t_fault q_t_told v_t_statements q_t_steps q_t_spot q_t_then v_t_now v_t_gone q_t_sights q_t_darkAt q_t_can), (q_t_refused, .inl (cy 0, 8, .inl v_t_refused)), (q_t_ways, .inl (cy 0, 12, .inl v_t_ways)), (q_t_at0, .inl (cy 0, 8, .inl v_t_at0)), (q_t_steps, .inl (cy 0, 12, .inl u6))] H ∧ va_D A [(q_t, oX8 q_t_shelf q_t_rowSort q_t_rowSize q_t_rows q_t_moved q_t_shown q_t_tape v_t_tapeSize q_t_refused v_t_places q_t_ways v_t_people q_t_kind q_t_by q_t_home q_t_aim q_t_at0 v_t_hour v_t_chance v_t_seed w_t_kept w_t_tried v_t_at v_t_token v_t_from v_t_figures v_t_fault q_t_told v_t_statements q_t_steps q_t_spot q_t_then v_t_now v_t_gone q_t_sights q_t_darkAt q_t_can), (q_t_refused, .inl (cy 0, 8, .inl v_t_refused)), (q_t_ways, .inl (cy 0, 12, .inl v_t_ways)), (q_t_at0, .inl (cy 0, 8, .inl v_t_at0)), (q_t_steps, .inl (cy 0, 12, .inl u6))] ∧ va_S A s.heap H locs ∧ lv_has ls 6 [(0, .ref q_t), (1, .int x1), (2, .int x2), (3, .int x3), (5, .int x9)]) hf (fun y20 H locs ls hI hf => ?_) (fun k21 J83 hf => ?_)
        · obtain ⟨hP, hD, hS, hl⟩ := hI
          refine lv_iadd hx hb dX8_middle_83 ?_
          refine lv_topi (fun x22 ex22 => ?_)
          have hf := vlE hf ex22
          clear ex22
          refine lv_istore (lv' := [(4, .int x22), (0, .ref q_t), (1, .int x1), (2, .int x2), (3, .int x3), (5, .int x9)]) hx hb dX8_middle_84 hl (by decide) rfl (fun ls hl => ?_)
          obtain ⟨x23, ex23⟩ : ∃ y : Int32, y = x9 + (1 : Int32) := ⟨_, rfl⟩
          have hf := vlE hf ex23
          refine lv_iinc (v := x23) (lv' := [(5, .int x23), (4, .int x22), (0, .ref q_t), (1, .int x1), (2, .int x2), (3, .int x3)]) hx hb dX8_middle_86 hl (k := 5) rfl (by rw [ex23]; rfl) (by decide) rfl (fun ls hl => ?_)
          clear ex23
          refine lv_goto (tgt := 39) hx hb dX8_middle_89 (by decide) ?_
          exact L39 x22 x23 _ _ ls ⟨hP, hD, hS, lv_sub hl [1, 0, 3, 4, 5, 2] rfl⟩ hf
        · refine lv_icmp_ne (tgt := 71) hx hb dX8_middle_63 (by decide) (fun c26 => ?_) (fun c26 => ?_)
          · have hf := ifF hf c26
            clear c26
            refine lv_aload_n hx hb dX8_middle_71 rfl (lv_at hl 5 rfl) ?_
            refine va_get (D := D) (ci := 8) (v := .ref q_t_steps) (C := RX8) (T := TX8) (N := 37) hx hb hts hinX8 hown hK.1 hP 0 rfl rfl 29 (by decide) hk68 (fun _ h9 => h9) rfl dX8_middle_72 ?_
            refine lv_aload_n hx hb dX8_middle_75 rfl (lv_at hl 5 rfl) ?_
            refine va_get (D := D) (ci := 8) (v := .ref q_t_at0) (C := RX8) (T := TX8) (N := 37) hx hb hts hinX8 hown hK.1 hP 0 rfl rfl 16 (by decide) hk56 (fun _ h9 => h9) rfl dX8_middle_76 ?_
            refine lv_iload hx hb dX8_middle_79 (lv_at hl 1 rfl) ?_
            obtain ⟨hi24, hf⟩ := ckE hf
            refine va_iald hx hb hK.1 hP 3 0 rfl rfl hi24 dX8_middle_81 ?_
            obtain ⟨hi25, hf⟩ := ckE hf
            refine va_iald hx hb hK.1 hP 4 0 rfl rfl hi25 dX8_middle_82 ?_
            exact J83 (u6 (v_t_at0 x9.toNatClampNeg).toNatClampNeg) _ _ ls ⟨hP, hD, hS, lv_sub hl [5, 2, 3, 4, 1] rfl⟩ hf
          · have hf := ifT hf c26
            clear c26
            refine lv_bipush (v := 12) hx hb dX8_middle_66 (by decide) ?_
            refine lv_goto (tgt := 83) hx hb dX8_middle_68 (by decide) ?_
            exact J83 (12 : Int32) _ _ ls ⟨hP, hD, hS, lv_sub hl [5, 2, 3, 4, 1] rfl⟩ hf
  · have hf := ifT hf c32
    clear c32
    refine lv_aload_n hx hb dX8_middle_7 rfl (lv_at hl 0 rfl) ?_
    refine lv_bipush (v := (-5)) hx hb dX8_middle_8 (by decide) ?_
    obtain ⟨r29, u30, hr31, hf⟩ := boE2 hf
    have hPc := hP.sub (ws' := [(q_t, oX8 q_t_shelf q_t_rowSort q_t_rowSize q_t_rows q_t_moved q_t_shown q_t_tape v_t_tapeSize q_t_refused v_t_places q_t_ways v_t_people q_t_kind q_t_by q_t_home q_t_aim q_t_at0 v_t_hour v_t_chance v_t_seed w_t_kept w_t_tried v_t_at v_t_token v_t_from v_t_figures v_t_fault q_t_told v_t_statements q_t_steps q_t_spot q_t_then v_t_now v_t_gone q_t_sights q_t_darkAt q_t_can), (q_t_refused, .inl (cy 0, 8, .inl v_t_refused))]) [0, 1] rfl
    have hDc := hD.sub (ws' := [(q_t, oX8 q_t_shelf q_t_rowSort q_t_rowSize q_t_rows q_t_moved q_t_shown q_t_tape v_t_tapeSize q_t_refused v_t_places q_t_ways v_t_people q_t_kind q_t_by q_t_home q_t_aim q_t_at0 v_t_hour v_t_chance v_t_seed w_t_kept w_t_tried v_t_at v_t_token v_t_from v_t_figures v_t_fault q_t_told v_t_statements q_t_steps q_t_spot q_t_then v_t_now v_t_gone q_t_sights q_t_darkAt q_t_can), (q_t_refused, .inl (cy 0, 8, .inl v_t_refused))]) [0, 1] (by decide) rfl
    refine xcQi (w1 := [(q_t, oX8 q_t_shelf q_t_rowSort q_t_rowSize q_t_rows q_t_moved q_t_shown q_t_tape v_t_tapeSize q_t_refused v_t_places q_t_ways v_t_people q_t_kind q_t_by q_t_home q_t_aim q_t_at0 v_t_hour v_t_chance v_t_seed w_t_kept w_t_tried v_t_at v_t_token v_t_from v_t_figures v_t_fault q_t_told v_t_statements q_t_steps q_t_spot q_t_then v_t_now v_t_gone q_t_sights q_t_darkAt q_t_can), (q_t_refused, .inl (cy 0, 8, .inl u30))]) (va_runV (As := [.int (-5 : Int32)]) (rest := []) ⟨hx, hb, hml, hown, hts⟩ (mX8_refuse l D cy q_t q_t_shelf q_t_rowSort q_t_rowSize q_t_rows q_t_moved q_t_shown q_t_tape q_t_refused q_t_ways q_t_kind q_t_by q_t_home q_t_aim q_t_at0 q_t_told q_t_steps q_t_spot q_t_then q_t_sights q_t_darkAt q_t_can v_t_tapeSize v_t_places v_t_people v_t_hour v_t_chance v_t_seed w_t_kept w_t_tried v_t_at v_t_token v_t_from v_t_figures v_t_fault v_t_statements v_t_now v_t_gone v_t_refused _ (-5 : Int32) hr31) (cwV 1 hts gX8_middle_X8_refuse rfl rfl rfl (by decide +kernel) ⟨Nat.le_of_ble_eq_true rfl, Nat.le_of_ble_eq_true rfl⟩) (xPVw hK hPc hDc (ci := 8) (q0 := 0) rfl rfl) rfl rfl hl.1 rfl (lv_room (Nat.le_of_ble_eq_true rfl)) dX8_middle_10 ⟨Nat.le_of_ble_eq_true rfl, Nat.le_of_ble_eq_true rfl⟩) hP hD hS hA [0, 1] rfl rfl (fun H locs hP hD hS => ?_)
    have hP : va_P D vwCl [(q_t, oX8 q_t_shelf q_t_rowSort q_t_rowSize q_t_rows q_t_moved q_t_shown q_t_tape v_t_tapeSize q_t_refused v_t_places q_t_ways v_t_people q_t_kind q_t_by q_t_home q_t_aim q_t_at0 v_t_hour v_t_chance v_t_seed w_t_kept w_t_tried v_t_at v_t_token v_t_from v_t_figures v_t_fault q_t_told v_t_statements q_t_steps q_t_spot q_t_then v_t_now v_t_gone q_t_sights q_t_darkAt q_t_can), (q_t_refused, .inl (cy 0, 8, .inl u30)), (q_t_ways, .inl (cy 0, 12, .inl v_t_ways)), (q_t_at0, .inl (cy 0, 8, .inl v_t_at0)), (q_t_steps, .inl (cy 0, 12, .inl v_t_steps))] H := hP
    have hD : va_D A [(q_t, oX8 q_t_shelf q_t_rowSort q_t_rowSize q_t_rows q_t_moved q_t_shown q_t_tape v_t_tapeSize q_t_refused v_t_places q_t_ways v_t_people q_t_kind q_t_by q_t_home q_t_aim q_t_at0 v_t_hour v_t_chance v_t_seed w_t_kept w_t_tried v_t_at v_t_token v_t_from v_t_figures v_t_fault q_t_told v_t_statements q_t_steps q_t_spot q_t_then v_t_now v_t_gone q_t_sights q_t_darkAt q_t_can), (q_t_refused, .inl (cy 0, 8, .inl u30)), (q_t_ways, .inl (cy 0, 12, .inl v_t_ways)), (q_t_at0, .inl (cy 0, 8, .inl v_t_at0)), (q_t_steps, .inl (cy 0, 12, .inl v_t_steps))] := hD
    cases hf
    exact W.iret hx hb hr (fun t ht hW => ⟨⟨_, (), rfl, rfl, xend ht hP⟩, hS.F ht⟩) hS.2.2 dX8_middle_13
def fX8_countParts (v_t_places : Int32) (v_t_ways : Nat → Int32) (v_t_steps : Nat → Int32) : Option (Int32 × (Nat → Int32)) :=
  lo4 (fun g5 (x1 : Int32) (x2 : Int32) (x3 : Int32) (u4 : Nat → Int32) =>
    if v_t_places ≤ x3 then
      some (x2, u4)
    else
      jo3 (fun (x6 : Int32) (x7 : Int32) (u8 : Nat → Int32) =>
        vlet (x3 + (1 : Int32)) fun x10 =>
        g5 x6 x7 x10 u8) fun k9 =>
      if ((x1 >>> (x3 &&& 31)) &&& (1 : Int32)) = 0 then
        vlet (x2 + (1 : Int32)) fun x11 =>
        bo1 (fX8_findFar v_t_places v_t_ways u4 x3) fun u12 =>
        lo2 (fun g16 (x14 : Int32) (x15 : Int32) =>
          if v_t_places ≤ x15 then
            k9 x14 x11 u12
          else
            if x15 < 0 ∨ 12 ≤ x15.toNatClampNeg then none else
            jo1 (fun (y18 : Int32) =>
              vlet (x14 ||| y18) fun x20 =>
              vlet (x15 + (1 : Int32)) fun x21 =>
              g16 x20 x21) fun k19 =>
            if (u12 x15.toNatClampNeg) = (-1 : Int32) then
              k19 (0 : Int32)
            else
              k19 ((1 : Int32) <<< (x15 &&& 31))) 400 x1 (0 : Int32)
      else
        k9 x1 x2 u4) 400 (0 : Int32) (0 : Int32) (0 : Int32) v_t_steps
set_option maxHeartbeats 4000000 in
set_option maxRecDepth 100000 in
theorem mX8_countParts (l : Launch) (D : va_G) (cy : Nat → ClassId) (q_t q_t_shelf q_t_rowSort q_t_rowSize q_t_rows q_t_moved q_t_shown q_t_tape q_t_refused q_t_ways q_t_kind q_t_by q_t_home q_t_aim q_t_at0 q_t_told q_t_steps q_t_spot q_t_then q_t_sights q_t_darkAt q_t_can : Nat) (v_t_tapeSize : Int32) (v_t_places : Int32) (v_t_people : Int32) (v_t_hour : Int32) (v_t_chance : Int32) (v_t_seed : Int32) (w_t_kept : Value) (w_t_tried : Value) (v_t_at : Int32) (v_t_token : Int32) (v_t_from : Int32) (v_t_figures : Int32) (v_t_fault : Int32) (v_t_statements : Int32) (v_t_now : Int32) (v_t_gone : Int32) (v_t_ways : Nat → Int32) (v_t_steps : Nat → Int32) (sz : Nat) {r_ : Int32} {n_t_steps : Nat → Int32} (hf : fX8_countParts v_t_places v_t_ways v_t_steps = some (r_, n_t_steps)) : Met l yX8_countParts wsX8_countParts ({ frames := 1, cells := 0, slots := 0, locals := 24 }) (va_Pc [.ref q_t] (fun U => U.heap.size = sz ∧ va_P D vwCl [(q_t, oX8 q_t_shelf q_t_rowSort q_t_rowSize q_t_rows q_t_moved q_t_shown q_t_tape v_t_tapeSize q_t_refused v_t_places q_t_ways v_t_people q_t_kind q_t_by q_t_home q_t_aim q_t_at0 v_t_hour v_t_chance v_t_seed w_t_kept w_t_tried v_t_at v_t_token v_t_from v_t_figures v_t_fault q_t_told v_t_statements q_t_steps q_t_spot q_t_then v_t_now v_t_gone q_t_sights q_t_darkAt q_t_can), (q_t_ways, .inl (cy 0, 12, .inl v_t_ways)), (q_t_steps, .inl (cy 0, 12, .inl v_t_steps))] U.heap ∧ xK D cy U ∧ va_D (fun _ => True) [(q_t, oX8 q_t_shelf q_t_rowSort q_t_rowSize q_t_rows q_t_moved q_t_shown q_t_tape v_t_tapeSize q_t_refused v_t_places q_t_ways v_t_people q_t_kind q_t_by q_t_home q_t_aim q_t_at0 v_t_hour v_t_chance v_t_seed w_t_kept w_t_tried v_t_at v_t_token v_t_from v_t_figures v_t_fault q_t_told v_t_statements q_t_steps q_t_spot q_t_then v_t_now v_t_gone q_t_sights q_t_darkAt q_t_can), (q_t_ways, .inl (cy 0, 12, .inl v_t_ways)), (q_t_steps, .inl (cy 0, 12, .inl v_t_steps))])) (va_Qi (fun (x : Int32) (_ : Unit) => x = r_) (fun _ t => va_P D vwCl [(q_t, oX8 q_t_shelf q_t_rowSort q_t_rowSize q_t_rows q_t_moved q_t_shown q_t_tape v_t_tapeSize q_t_refused v_t_places q_t_ways v_t_people q_t_kind q_t_by q_t_home q_t_aim q_t_at0 v_t_hour v_t_chance v_t_seed w_t_kept w_t_tried v_t_at v_t_token v_t_from v_t_figures v_t_fault q_t_told v_t_statements q_t_steps q_t_spot q_t_then v_t_now v_t_gone q_t_sights q_t_darkAt q_t_can), (q_t_ways, .inl (cy 0, 12, .inl v_t_ways)), (q_t_steps, .inl (cy 0, 12, .inl n_t_steps))] t.heap) (va_A [(q_t, oX8 q_t_shelf q_t_rowSort q_t_rowSize q_t_rows q_t_moved q_t_shown q_t_tape v_t_tapeSize q_t_refused v_t_places q_t_ways v_t_people q_t_kind q_t_by q_t_home q_t_aim q_t_at0 v_t_hour v_t_chance v_t_seed w_t_kept w_t_tried v_t_at v_t_token v_t_from v_t_figures v_t_fault q_t_told v_t_statements q_t_steps q_t_spot q_t_then v_t_now v_t_gone q_t_sights q_t_darkAt q_t_can), (q_t_ways, .inl (cy 0, 12, .inl v_t_ways)), (q_t_steps, .inl (cy 0, 12, .inl v_t_steps))] sz)) 0 0 (va_A [(q_t, oX8 q_t_shelf q_t_rowSort q_t_rowSize q_t_rows q_t_moved q_t_shown q_t_tape v_t_tapeSize q_t_refused v_t_places q_t_ways v_t_people q_t_kind q_t_by q_t_home q_t_aim q_t_at0 v_t_hour v_t_chance v_t_seed w_t_kept w_t_tried v_t_at v_t_token v_t_from v_t_figures v_t_fault q_t_told v_t_statements q_t_steps q_t_spot q_t_then v_t_now v_t_gone q_t_sights q_t_darkAt q_t_can), (q_t_ways, .inl (cy 0, 12, .inl v_t_ways)), (q_t_steps, .inl (cy 0, 12, .inl v_t_steps))] sz) := by
  refine Met.ofW (cc := cX8_countParts) (maxL := 5) (ret := (some .int)) (by decide) rfl ?_
  intro p e s m args below meth c s₁ B hml hv
  obtain ⟨rfl, hsz, hP, hK, hD0⟩ := hv
  have hx := B.exec
  have hb := B.bytes
  have hr := B.returns
  have hts := atoms_spec (ws := wsX8_countParts) B.pre
  have hown : s.vm.findClass RX8 = some m.cls := findClass_of_methodNamed B.named
  have hlocks := B.notSynchronized
  subst hsz
  have hD := hD0.self (sz := s.heap.size)
  generalize hAe : va_A [(q_t, oX8 q_t_shelf q_t_rowSort q_t_rowSize q_t_rows q_t_moved q_t_shown q_t_tape v_t_tapeSize q_t_refused v_t_places q_t_ways v_t_people q_t_kind q_t_by q_t_home q_t_aim q_t_at0 v_t_hour v_t_chance v_t_seed w_t_kept w_t_tried v_t_at v_t_token v_t_from v_t_figures v_t_fault q_t_told v_t_statements q_t_steps q_t_spot q_t_then v_t_now v_t_gone q_t_sights q_t_darkAt q_t_can), (q_t_ways, .inl (cy 0, 12, .inl v_t_ways)), (q_t_steps, .inl (cy 0, 12, .inl v_t_steps))] s.heap.size = A at hD ⊢
  have hA : ∀ q : Nat, s.heap.size ≤ q → A q := fun q h => by rw [← hAe]; exact Or.inr h
  have hS : va_S A s.heap s.heap [] := va_S.rf
  have hP : va_P D vwCl [(q_t, oX8 q_t_shelf q_t_rowSort q_t_rowSize q_t_rows q_t_moved q_t_shown q_t_tape v_t_tapeSize q_t_refused v_t_places q_t_ways v_t_people q_t_kind q_t_by q_t_home q_t_aim q_t_at0 v_t_hour v_t_chance v_t_seed w_t_kept w_t_tried v_t_at v_t_token v_t_from v_t_figures v_t_fault q_t_told v_t_statements q_t_steps q_t_spot q_t_then v_t_now v_t_gone q_t_sights q_t_darkAt q_t_can), (q_t_ways, .inl (cy 0, 12, .inl v_t_ways)), (q_t_steps, .inl (cy 0, 12, .inl v_t_steps))] s.heap := hP
  have hinX8 : ∀ w ∈ u_ws RX8 TX8 37, w ∈ wsX8_countParts := by decide +kernel
  have hk37 := hts (.fieldLink RX8 37 "ShowsWhereNobodyIsModel" "places" "I") (by decide +kernel)
  have hk68 := hts (.fieldLink RX8 68 "ShowsWhereNobodyIsModel" "steps" "[I") (by decide +kernel)
  have hl := lv_entry ([.ref q_t]) (n := 5) (Nat.le_of_ble_eq_true rfl)
  rw [lg_entry_eq]
  generalize (lg_sl ([.ref q_t]) ++ List.replicate (5 - (lg_sl ([.ref q_t])).length) Slot.unset).toArray = ls at hl ⊢
  have hl : lv_has ls 5 [(0, .ref q_t)] := hl
  unfold fX8_countParts at hf
  refine lv_iconst (v := 0) hx hb dX8_countParts_0 (by decide) ?_
  refine lv_istore_n (lv' := [(1, .int (0 : Int32)), (0, .ref q_t)]) hx hb dX8_countParts_1 rfl hl (by decide) rfl (fun ls hl => ?_)
  refine lv_iconst (v := 0) hx hb dX8_countParts_2 (by decide) ?_
  refine lv_istore_n (lv' := [(2, .int (0 : Int32)), (1, .int (0 : Int32)), (0, .ref q_t)]) hx hb dX8_countParts_3 rfl hl (by decide) rfl (fun ls hl => ?_)
  refine lv_iconst (v := 0) hx hb dX8_countParts_4 (by decide) ?_
  refine lv_istore_n (lv' := [(3, .int (0 : Int32)), (2, .int (0 : Int32)), (1, .int (0 : Int32)), (0, .ref q_t)]) hx hb dX8_countParts_5 rfl hl (by decide) rfl (fun ls hl => ?_)
  refine wlw4 6 (fun _ _ _ _ => []) (fun (x1 : Int32) (x2 : Int32) (x3 : Int32) (u4 : Nat → Int32) H locs ls => va_P D vwCl [(q_t, oX8 q_t_shelf q_t_rowSort q_t_rowSize q_t_rows q_t_moved q_t_shown q_t_tape v_t_tapeSize q_t_refused v_t_places q_t_ways v_t_people q_t_kind q_t_by q_t_home q_t_aim q_t_at0 v_t_hour v_t_chance v_t_seed w_t_kept w_t_tried v_t_at v_t_token v_t_from v_t_figures v_t_fault q_t_told v_t_statements q_t_steps q_t_spot q_t_then v_t_now v_t_gone q_t_sights q_t_darkAt q_t_can), (q_t_ways, .inl (cy 0, 12, .inl v_t_ways)), (q_t_steps, .inl (cy 0, 12, .inl u4))] H ∧ va_D A [(q_t, oX8 q_t_shelf q_t_rowSort q_t_rowSize q_t_rows q_t_moved q_t_shown q_t_tape v_t_tapeSize q_t_refused v_t_places q_t_ways v_t_people q_t_kind q_t_by q_t_home q_t_aim q_t_at0 v_t_hour v_t_chance v_t_seed w_t_kept w_t_tried v_t_at v_t_token v_t_from v_t_figures v_t_fault q_t_told v_t_statements q_t_steps q_t_spot q_t_then v_t_now v_t_gone q_t_sights q_t_darkAt q_t_can), (q_t_ways, .inl (cy 0, 12, .inl v_t_ways)), (q_t_steps, .inl (cy 0, 12, .inl u4))] ∧ va_S A s.heap H locs ∧ lv_has ls 5 [(1, .int x1), (2, .int x2), (3, .int x3), (0, .ref q_t)]) (fun g5 L6 x1 x2 x3 u4 H locs ls hI hf => ?_) 400 (0 : Int32) (0 : Int32) (0 : Int32) v_t_steps _ _ ls ⟨hP, hD, hS, lv_sub hl [2, 1, 0, 3] rfl⟩ hf
  obtain ⟨hP, hD, hS, hl⟩ := hI
  refine lv_iload_n hx hb dX8_countParts_6 rfl (lv_at hl 2 rfl) ?_
  refine lv_aload_n hx hb dX8_countParts_7 rfl (lv_at hl 3 rfl) ?_
  refine va_get (D := D) (ci := 8) (v := .int v_t_places) (C := RX8) (T := TX8) (N := 37) hx hb hts hinX8 hown hK.1 hP 0 rfl rfl 9 (by decide) hk37 (fun _ h9 => h9) rfl dX8_countParts_8 ?_
  refine lv_icmp_ge (tgt := 76) hx hb dX8_countParts_11 (by decide) (fun c25 => ?_) (fun c25 => ?_)
  · have hf := ifT hf c25
    clear c25
    refine lv_iload_n hx hb dX8_countParts_76 rfl (lv_at hl 1 rfl) ?_
    cases hf
    exact W.iret hx hb hr (fun t ht hW => ⟨⟨_, (), rfl, rfl, xend ht hP⟩, hS.F ht⟩) hS.2.2 dX8_countParts_77
  · have hf := ifF hf c25
    clear c25
    refine lv_iload_n hx hb dX8_countParts_14 rfl (lv_at hl 0 rfl) ?_
    refine lv_iload_n hx hb dX8_countParts_15 rfl (lv_at hl 2 rfl) ?_
    refine lv_ishr hx hb dX8_countParts_16 ?_
    refine lv_iconst (v := 1) hx hb dX8_countParts_17 (by decide) ?_
    refine lv_iand hx hb dX8_countParts_18 ?_
    refine jww3 70 (fun (x6 : Int32) (x7 : Int32) (u8 : Nat → Int32) => []) (fun (x6 : Int32) (x7 : Int32) (u8 : Nat → Int32) H locs ls => va_P D vwCl [(q_t, oX8 q_t_shelf q_t_rowSort q_t_rowSize q_t_rows q_t_moved q_t_shown q_t_tape v_t_tapeSize q_t_refused v_t_places q_t_ways v_t_people q_t_kind q_t_by q_t_home q_t_aim q_t_at0 v_t_hour v_t_chance v_t_seed w_t_kept w_t_tried v_t_at v_t_token v_t_from v_t_figures v_t_fault q_t_told v_t_statements q_t_steps q_t_spot q_t_then v_t_now v_t_gone q_t_sights q_t_darkAt q_t_can), (q_t_ways, .inl (cy 0, 12, .inl v_t_ways)), (q_t_steps, .inl (cy 0, 12, .inl u8))] H ∧ va_D A [(q_t, oX8 q_t_shelf q_t_rowSort q_t_rowSize q_t_rows q_t_moved q_t_shown q_t_tape v_t_tapeSize q_t_refused v_t_places q_t_ways v_t_people q_t_kind q_t_by q_t_home q_t_aim q_t_at0 v_t_hour v_t_chance v_t_seed w_t_kept w_t_tried v_t_at v_t_token v_t_from v_t_figures v_t_fault q_t_told v_t_statements q_t_steps q_t_spot q_t_then v_t_now v_t_gone q_t_sights q_t_darkAt q_t_can), (q_t_ways, .inl (cy 0, 12, .inl v_t_ways)), (q_t_steps, .inl (cy 0, 12, .inl u8))] ∧ va_S A s.heap H locs ∧ lv_has ls 5 [(1, .int x6), (2, .int x7), (0, .ref q_t), (3, .int x3)]) hf (fun x6 x7 u8 H locs ls hI hf => ?_) (fun k9 J70 hf => ?_)
    · obtain ⟨hP, hD, hS, hl⟩ := hI
      obtain ⟨x10, ex10⟩ : ∃ y : Int32, y = x3 + (1 : Int32) := ⟨_, rfl⟩
      have hf := vlE hf ex10
      refine lv_iinc (v := x10) (lv' := [(3, .int x10), (1, .int x6), (2, .int x7), (0, .ref q_t)]) hx hb dX8_countParts_70 hl (k := 3) rfl (by rw [ex10]; rfl) (by decide) rfl (fun ls hl => ?_)
      clear ex10
      refine lv_goto (tgt := 6) hx hb dX8_countParts_73 (by decide) ?_
      exact L6 x6 x7 x10 u8 _ _ ls ⟨hP, hD, hS, lv_sub hl [1, 2, 0, 3] rfl⟩ hf
    · refine lv_if_ne (tgt := 70) hx hb dX8_countParts_19 (by decide) (fun c24 => ?_) (fun c24 => ?_)
      · have hf := ifF hf c24
        clear c24
        exact J70 x1 x2 u4 _ _ ls ⟨hP, hD, hS, lv_sub hl [0, 1, 3, 2] rfl⟩ hf
      · have hf := ifT hf c24
        clear c24
        obtain ⟨x11, ex11⟩ : ∃ y : Int32, y = x2 + (1 : Int32) := ⟨_, rfl⟩
        have hf := vlE hf ex11
        refine lv_iinc (v := x11) (lv' := [(2, .int x11), (1, .int x1), (3, .int x3), (0, .ref q_t)]) hx hb dX8_countParts_22 hl (k := 1) rfl (by rw [ex11]; rfl) (by decide) rfl (fun ls hl => ?_)
        clear ex11
        refine lv_aload_n hx hb dX8_countParts_25 rfl (lv_at hl 3 rfl) ?_
        refine lv_iload_n hx hb dX8_countParts_26 rfl (lv_at hl 2 rfl) ?_
        obtain ⟨u12, hr13, hf⟩ := boE1 hf
        have hPc := hP.sub (ws' := [(q_t, oX8 q_t_shelf q_t_rowSort q_t_rowSize q_t_rows q_t_moved q_t_shown q_t_tape v_t_tapeSize q_t_refused v_t_places q_t_ways v_t_people q_t_kind q_t_by q_t_home q_t_aim q_t_at0 v_t_hour v_t_chance v_t_seed w_t_kept w_t_tried v_t_at v_t_token v_t_from v_t_figures v_t_fault q_t_told v_t_statements q_t_steps q_t_spot q_t_then v_t_now v_t_gone q_t_sights q_t_darkAt q_t_can), (q_t_ways, .inl (cy 0, 12, .inl v_t_ways)), (q_t_steps, .inl (cy 0, 12, .inl u4))]) [0, 1, 2] rfl
        have hDc := hD.sub (ws' := [(q_t, oX8 q_t_shelf q_t_rowSort q_t_rowSize q_t_rows q_t_moved q_t_shown q_t_tape v_t_tapeSize q_t_refused v_t_places q_t_ways v_t_people q_t_kind q_t_by q_t_home q_t_aim q_t_at0 v_t_hour v_t_chance v_t_seed w_t_kept w_t_tried v_t_at v_t_token v_t_from v_t_figures v_t_fault q_t_told v_t_statements q_t_steps q_t_spot q_t_then v_t_now v_t_gone q_t_sights q_t_darkAt q_t_can), (q_t_ways, .inl (cy 0, 12, .inl v_t_ways)), (q_t_steps, .inl (cy 0, 12, .inl u4))]) [0, 1, 2] (by decide) rfl
        refine xcQv (w1 := [(q_t, oX8 q_t_shelf q_t_rowSort q_t_rowSize q_t_rows q_t_moved q_t_shown q_t_tape v_t_tapeSize q_t_refused v_t_places q_t_ways v_t_people q_t_kind q_t_by q_t_home q_t_aim q_t_at0 v_t_hour v_t_chance v_t_seed w_t_kept w_t_tried v_t_at v_t_token v_t_from v_t_figures v_t_fault q_t_told v_t_statements q_t_steps q_t_spot q_t_then v_t_now v_t_gone q_t_sights q_t_darkAt q_t_can), (q_t_ways, .inl (cy 0, 12, .inl v_t_ways)), (q_t_steps, .inl (cy 0, 12, .inl u12))]) (va_runV (As := [.int x3]) (rest := []) ⟨hx, hb, hml, hown, hts⟩ (mX8_findFar l D cy q_t q_t_shelf q_t_rowSort q_t_rowSize q_t_rows q_t_moved q_t_shown q_t_tape q_t_refused q_t_ways q_t_kind q_t_by q_t_home q_t_aim q_t_at0 q_t_told q_t_steps q_t_spot q_t_then q_t_sights q_t_darkAt q_t_can v_t_tapeSize v_t_places v_t_people v_t_hour v_t_chance v_t_seed w_t_kept w_t_tried v_t_at v_t_token v_t_from v_t_figures v_t_fault v_t_statements v_t_now v_t_gone v_t_ways u4 _ x3 hr13) (cwV 1 hts gX8_countParts_X8_findFar rfl rfl rfl (by decide +kernel) ⟨Nat.le_of_ble_eq_true rfl, Nat.le_of_ble_eq_true rfl⟩) (xPVw hK hPc hDc (ci := 8) (q0 := 0) rfl rfl) rfl rfl hl.1 rfl (lv_room (Nat.le_of_ble_eq_true rfl)) dX8_countParts_27 ⟨Nat.le_of_ble_eq_true rfl, Nat.le_of_ble_eq_true rfl⟩) hP hD hS hA [0, 1, 2] rfl rfl (fun H locs hP hD hS => ?_)
        have hP : va_P D vwCl [(q_t, oX8 q_t_shelf q_t_rowSort q_t_rowSize q_t_rows q_t_moved q_t_shown q_t_tape v_t_tapeSize q_t_refused v_t_places q_t_ways v_t_people q_t_kind q_t_by q_t_home q_t_aim q_t_at0 v_t_hour v_t_chance v_t_seed w_t_kept w_t_tried v_t_at v_t_token v_t_from v_t_figures v_t_fault q_t_told v_t_statements q_t_steps q_t_spot q_t_then v_t_now v_t_gone q_t_sights q_t_darkAt q_t_can), (q_t_ways, .inl (cy 0, 12, .inl v_t_ways)), (q_t_steps, .inl (cy 0, 12, .inl u12))] H := hP
        have hD : va_D A [(q_t, oX8 q_t_shelf q_t_rowSort q_t_rowSize q_t_rows q_t_moved q_t_shown q_t_tape v_t_tapeSize q_t_refused v_t_places q_t_ways v_t_people q_t_kind q_t_by q_t_home q_t_aim q_t_at0 v_t_hour v_t_chance v_t_seed w_t_kept w_t_tried v_t_at v_t_token v_t_from v_t_figures v_t_fault q_t_told v_t_statements q_t_steps q_t_spot q_t_then v_t_now v_t_gone q_t_sights q_t_darkAt q_t_can), (q_t_ways, .inl (cy 0, 12, .inl v_t_ways)), (q_t_steps, .inl (cy 0, 12, .inl u12))] := hD
        refine lv_iconst (v := 0) hx hb dX8_countParts_30 (by decide) ?_
        refine lv_istore (lv' := [(4, .int (0 : Int32)), (2, .int x11), (1, .int x1), (3, .int x3), (0, .ref q_t)]) hx hb dX8_countParts_31 hl (by decide) rfl (fun ls hl => ?_)
        refine wlw2 33 (fun _ _ => []) (fun (x14 : Int32) (x15 : Int32) H locs ls => va_P D vwCl [(q_t, oX8 q_t_shelf q_t_rowSort q_t_rowSize q_t_rows q_t_moved q_t_shown q_t_tape v_t_tapeSize q_t_refused v_t_places q_t_ways v_t_people q_t_kind q_t_by q_t_home q_t_aim q_t_at0 v_t_hour v_t_chance v_t_seed w_t_kept w_t_tried v_t_at v_t_token v_t_from v_t_figures v_t_fault q_t_told v_t_statements q_t_steps q_t_spot q_t_then v_t_now v_t_gone q_t_sights q_t_darkAt q_t_can), (q_t_ways, .inl (cy 0, 12, .inl v_t_ways)), (q_t_steps, .inl (cy 0, 12, .inl u12))] H ∧ va_D A [(q_t, oX8 q_t_shelf q_t_rowSort q_t_rowSize q_t_rows q_t_moved q_t_shown q_t_tape v_t_tapeSize q_t_refused v_t_places q_t_ways v_t_people q_t_kind q_t_by q_t_home q_t_aim q_t_at0 v_t_hour v_t_chance v_t_seed w_t_kept w_t_tried v_t_at v_t_token v_t_from v_t_figures v_t_fault q_t_told v_t_statements q_t_steps q_t_spot q_t_then v_t_now v_t_gone q_t_sights q_t_darkAt q_t_can), (q_t_ways, .inl (cy 0, 12, .inl v_t_ways)), (q_t_steps, .inl (cy 0, 12, .inl u12))] ∧ va_S A s.heap H locs ∧ lv_has ls 5 [(1, .int x14), (4, .int x15), (2, .int x11), (3, .int x3), (0, .ref q_t)]) (fun g16 L33 x14 x15 H locs ls hI hf => ?_) 400 x1 (0 : Int32) _ _ ls ⟨hP, hD, hS, lv_sub hl [2, 0, 1, 3, 4] rfl⟩ hf
        obtain ⟨hP, hD, hS, hl⟩ := hI
        refine lv_iload hx hb dX8_countParts_33 (lv_at hl 1 rfl) ?_
        refine lv_aload_n hx hb dX8_countParts_35 rfl (lv_at hl 4 rfl) ?_
        refine va_get (D := D) (ci := 8) (v := .int v_t_places) (C := RX8) (T := TX8) (N := 37) hx hb hts hinX8 hown hK.1 hP 0 rfl rfl 9 (by decide) hk37 (fun _ h9 => h9) rfl dX8_countParts_36 ?_
        refine lv_icmp_ge (tgt := 70) hx hb dX8_countParts_39 (by decide) (fun c23 => ?_) (fun c23 => ?_)
        · have hf := ifT hf c23
          clear c23
          exact J70 x14 x11 u12 _ _ ls ⟨hP, hD, hS, lv_sub hl [0, 2, 4, 3] rfl⟩ hf
        · have hf := ifF hf c23
          clear c23
          refine lv_iload_n hx hb dX8_countParts_42 rfl (lv_at hl 0 rfl) ?_
          refine lv_aload_n hx hb dX8_countParts_43 rfl (lv_at hl 4 rfl) ?_
          refine va_get (D := D) (ci := 8) (v := .ref q_t_steps) (C := RX8) (T := TX8) (N := 37) hx hb hts hinX8 hown hK.1 hP 0 rfl rfl 29 (by decide) hk68 (fun _ h9 => h9) rfl dX8_countParts_44 ?_
          refine lv_iload hx hb dX8_countParts_47 (lv_at hl 1 rfl) ?_
          obtain ⟨hi17, hf⟩ := ckE hf
          refine va_iald hx hb hK.1 hP 2 0 rfl rfl hi17 dX8_countParts_49 ?_
          refine lv_iconst (v := (-1)) hx hb dX8_countParts_50 (by decide) ?_
          refine jww1 62 (fun (y18 : Int32) => [.int y18, .int x14]) (fun (y18 : Int32) H locs ls => va_P D vwCl [(q_t, oX8 q_t_shelf q_t_rowSort q_t_rowSize q_t_rows q_t_moved q_t_shown q_t_tape v_t_tapeSize q_t_refused v_t_places q_t_ways v_t_people q_t_kind q_t_by q_t_home q_t_aim q_t_at0 v_t_hour v_t_chance v_t_seed w_t_kept w_t_tried v_t_at v_t_token v_t_from v_t_figures v_t_fault q_t_told v_t_statements q_t_steps q_t_spot q_t_then v_t_now v_t_gone q_t_sights q_t_darkAt q_t_can), (q_t_ways, .inl (cy 0, 12, .inl v_t_ways)), (q_t_steps, .inl (cy 0, 12, .inl u12))] H ∧ va_D A [(q_t, oX8 q_t_shelf q_t_rowSort q_t_rowSize q_t_rows q_t_moved q_t_shown q_t_tape v_t_tapeSize q_t_refused v_t_places q_t_ways v_t_people q_t_kind q_t_by q_t_home q_t_aim q_t_at0 v_t_hour v_t_chance v_t_seed w_t_kept w_t_tried v_t_at v_t_token v_t_from v_t_figures v_t_fault q_t_told v_t_statements q_t_steps q_t_spot q_t_then v_t_now v_t_gone q_t_sights q_t_darkAt q_t_can), (q_t_ways, .inl (cy 0, 12, .inl v_t_ways)), (q_t_steps, .inl (cy 0, 12, .inl u12))] ∧ va_S A s.heap H locs ∧ lv_has ls 5 [(0, .ref q_t), (2, .int x11), (3, .int x3), (4, .int x15)]) hf (fun y18 H locs ls hI hf => ?_) (fun k19 J62 hf => ?_)
          · obtain ⟨hP, hD, hS, hl⟩ := hI
            refine lv_ior hx hb dX8_countParts_62 ?_
            refine lv_topi (fun x20 ex20 => ?_)
            have hf := vlE hf ex20
            clear ex20
            refine lv_istore_n (lv' := [(1, .int x20), (0, .ref q_t), (2, .int x11), (3, .int x3), (4, .int x15)]) hx hb dX8_countParts_63 rfl hl (by decide) rfl (fun ls hl => ?_)
            obtain ⟨x21, ex21⟩ : ∃ y : Int32, y = x15 + (1 : Int32) := ⟨_, rfl⟩
            have hf := vlE hf ex21
            refine lv_iinc (v := x21) (lv' := [(4, .int x21), (1, .int x20), (0, .ref q_t), (2, .int x11), (3, .int x3)]) hx hb dX8_countParts_64 hl (k := 4) rfl (by rw [ex21]; rfl) (by decide) rfl (fun ls hl => ?_)
            clear ex21
            refine lv_goto (tgt := 33) hx hb dX8_countParts_67 (by decide) ?_
            exact L33 x20 x21 _ _ ls ⟨hP, hD, hS, lv_sub hl [1, 0, 3, 4, 2] rfl⟩ hf
          · refine lv_icmp_ne (tgt := 58) hx hb dX8_countParts_51 (by decide) (fun c22 => ?_) (fun c22 => ?_)
            · have hf := ifF hf c22
              clear c22
              refine lv_iconst (v := 1) hx hb dX8_countParts_58 (by decide) ?_
              refine lv_iload hx hb dX8_countParts_59 (lv_at hl 1 rfl) ?_
              refine lv_ishl hx hb dX8_countParts_61 ?_
              exact J62 ((1 : Int32) <<< (x15 &&& 31)) _ _ ls ⟨hP, hD, hS, lv_sub hl [4, 2, 3, 1] rfl⟩ hf
            · have hf := ifT hf c22
              clear c22
              refine lv_iconst (v := 0) hx hb dX8_countParts_54 (by decide) ?_
              refine lv_goto (tgt := 62) hx hb dX8_countParts_55 (by decide) ?_
              exact J62 (0 : Int32) _ _ ls ⟨hP, hD, hS, lv_sub hl [4, 2, 3, 1] rfl⟩ hf
def fX8_parts (v_t_places : Int32) (v_t_ways : Nat → Int32) (v_t_steps : Nat → Int32) : Option (Int32 × (Nat → Int32)) :=
  bo2 (fX8_countParts v_t_places v_t_ways v_t_steps) fun r1 u2 =>
  some (r1, u2)
set_option maxHeartbeats 4000000 in
set_option maxRecDepth 100000 in
theorem mX8_parts (l : Launch) (D : va_G) (cy : Nat → ClassId) (q_t q_t_shelf q_t_rowSort q_t_rowSize q_t_rows q_t_moved q_t_shown q_t_tape q_t_refused q_t_ways q_t_kind q_t_by q_t_home q_t_aim q_t_at0 q_t_told q_t_steps q_t_spot q_t_then q_t_sights q_t_darkAt q_t_can : Nat) (v_t_tapeSize : Int32) (v_t_places : Int32) (v_t_people : Int32) (v_t_hour : Int32) (v_t_chance : Int32) (v_t_seed : Int32) (w_t_kept : Value) (w_t_tried : Value) (v_t_at : Int32) (v_t_token : Int32) (v_t_from : Int32) (v_t_figures : Int32) (v_t_fault : Int32) (v_t_statements : Int32) (v_t_now : Int32) (v_t_gone : Int32) (v_t_ways : Nat → Int32) (v_t_steps : Nat → Int32) (sz : Nat) {r_ : Int32} {n_t_steps : Nat → Int32} (hf : fX8_parts v_t_places v_t_ways v_t_steps = some (r_, n_t_steps)) : Met l yX8_parts wsX8_parts ({ frames := 2, cells := 0, slots := 0, locals := 48 }) (va_Pc [.ref q_t] (fun U => U.heap.size = sz ∧ va_P D vwCl [(q_t, oX8 q_t_shelf q_t_rowSort q_t_rowSize q_t_rows q_t_moved q_t_shown q_t_tape v_t_tapeSize q_t_refused v_t_places q_t_ways v_t_people q_t_kind q_t_by q_t_home q_t_aim q_t_at0 v_t_hour v_t_chance v_t_seed w_t_kept w_t_tried v_t_at v_t_token v_t_from v_t_figures v_t_fault q_t_told v_t_statements q_t_steps q_t_spot q_t_then v_t_now v_t_gone q_t_sights q_t_darkAt q_t_can), (q_t_ways, .inl (cy 0, 12, .inl v_t_ways)), (q_t_steps, .inl (cy 0, 12, .inl v_t_steps))] U.heap ∧ xK D cy U ∧ va_D (fun _ => True) [(q_t, oX8 q_t_shelf q_t_rowSort q_t_rowSize q_t_rows q_t_moved q_t_shown q_t_tape v_t_tapeSize q_t_refused v_t_places q_t_ways v_t_people q_t_kind q_t_by q_t_home q_t_aim q_t_at0 v_t_hour v_t_chance v_t_seed w_t_kept w_t_tried v_t_at v_t_token v_t_from v_t_figures v_t_fault q_t_told v_t_statements q_t_steps q_t_spot q_t_then v_t_now v_t_gone q_t_sights q_t_darkAt q_t_can), (q_t_ways, .inl (cy 0, 12, .inl v_t_ways)), (q_t_steps, .inl (cy 0, 12, .inl v_t_steps))])) (va_Qi (fun (x : Int32) (_ : Unit) => x = r_) (fun _ t => va_P D vwCl [(q_t, oX8 q_t_shelf q_t_rowSort q_t_rowSize q_t_rows q_t_moved q_t_shown q_t_tape v_t_tapeSize q_t_refused v_t_places q_t_ways v_t_people q_t_kind q_t_by q_t_home q_t_aim q_t_at0 v_t_hour v_t_chance v_t_seed w_t_kept w_t_tried v_t_at v_t_token v_t_from v_t_figures v_t_fault q_t_told v_t_statements q_t_steps q_t_spot q_t_then v_t_now v_t_gone q_t_sights q_t_darkAt q_t_can), (q_t_ways, .inl (cy 0, 12, .inl v_t_ways)), (q_t_steps, .inl (cy 0, 12, .inl n_t_steps))] t.heap) (va_A [(q_t, oX8 q_t_shelf q_t_rowSort q_t_rowSize q_t_rows q_t_moved q_t_shown q_t_tape v_t_tapeSize q_t_refused v_t_places q_t_ways v_t_people q_t_kind q_t_by q_t_home q_t_aim q_t_at0 v_t_hour v_t_chance v_t_seed w_t_kept w_t_tried v_t_at v_t_token v_t_from v_t_figures v_t_fault q_t_told v_t_statements q_t_steps q_t_spot q_t_then v_t_now v_t_gone q_t_sights q_t_darkAt q_t_can), (q_t_ways, .inl (cy 0, 12, .inl v_t_ways)), (q_t_steps, .inl (cy 0, 12, .inl v_t_steps))] sz)) 0 0 (va_A [(q_t, oX8 q_t_shelf q_t_rowSort q_t_rowSize q_t_rows q_t_moved q_t_shown q_t_tape v_t_tapeSize q_t_refused v_t_places q_t_ways v_t_people q_t_kind q_t_by q_t_home q_t_aim q_t_at0 v_t_hour v_t_chance v_t_seed w_t_kept w_t_tried v_t_at v_t_token v_t_from v_t_figures v_t_fault q_t_told v_t_statements q_t_steps q_t_spot q_t_then v_t_now v_t_gone q_t_sights q_t_darkAt q_t_can), (q_t_ways, .inl (cy 0, 12, .inl v_t_ways)), (q_t_steps, .inl (cy 0, 12, .inl v_t_steps))] sz) := by
  refine Met.ofW (cc := cX8_parts) (maxL := 1) (ret := (some .int)) (by decide) rfl ?_
  intro p e s m args below meth c s₁ B hml hv
  obtain ⟨rfl, hsz, hP, hK, hD0⟩ := hv
  have hx := B.exec
  have hb := B.bytes
  have hr := B.returns
  have hts := atoms_spec (ws := wsX8_parts) B.pre
  have hown : s.vm.findClass RX8 = some m.cls := findClass_of_methodNamed B.named
  have hlocks := B.notSynchronized
  subst hsz
  have hD := hD0.self (sz := s.heap.size)
  generalize hAe : va_A [(q_t, oX8 q_t_shelf q_t_rowSort q_t_rowSize q_t_rows q_t_moved q_t_shown q_t_tape v_t_tapeSize q_t_refused v_t_places q_t_ways v_t_people q_t_kind q_t_by q_t_home q_t_aim q_t_at0 v_t_hour v_t_chance v_t_seed w_t_kept w_t_tried v_t_at v_t_token v_t_from v_t_figures v_t_fault q_t_told v_t_statements q_t_steps q_t_spot q_t_then v_t_now v_t_gone q_t_sights q_t_darkAt q_t_can), (q_t_ways, .inl (cy 0, 12, .inl v_t_ways)), (q_t_steps, .inl (cy 0, 12, .inl v_t_steps))] s.heap.size = A at hD ⊢
  have hA : ∀ q : Nat, s.heap.size ≤ q → A q := fun q h => by rw [← hAe]; exact Or.inr h
  have hS : va_S A s.heap s.heap [] := va_S.rf
  have hP : va_P D vwCl [(q_t, oX8 q_t_shelf q_t_rowSort q_t_rowSize q_t_rows q_t_moved q_t_shown q_t_tape v_t_tapeSize q_t_refused v_t_places q_t_ways v_t_people q_t_kind q_t_by q_t_home q_t_aim q_t_at0 v_t_hour v_t_chance v_t_seed w_t_kept w_t_tried v_t_at v_t_token v_t_from v_t_figures v_t_fault q_t_told v_t_statements q_t_steps q_t_spot q_t_then v_t_now v_t_gone q_t_sights q_t_darkAt q_t_can), (q_t_ways, .inl (cy 0, 12, .inl v_t_ways)), (q_t_steps, .inl (cy 0, 12, .inl v_t_steps))] s.heap := hP
  have hl := lv_entry ([.ref q_t]) (n := 1) (Nat.le_of_ble_eq_true rfl)
  rw [lg_entry_eq]
  generalize (lg_sl ([.ref q_t]) ++ List.replicate (1 - (lg_sl ([.ref q_t])).length) Slot.unset).toArray = ls at hl ⊢
  have hl : lv_has ls 1 [(0, .ref q_t)] := hl
  unfold fX8_parts at hf
  refine lv_aload_n hx hb dX8_parts_0 rfl (lv_at hl 0 rfl) ?_
  obtain ⟨r1, u2, hr3, hf⟩ := boE2 hf
  have hPc := hP.sub (ws' := [(q_t, oX8 q_t_shelf q_t_rowSort q_t_rowSize q_t_rows q_t_moved q_t_shown q_t_tape v_t_tapeSize q_t_refused v_t_places q_t_ways v_t_people q_t_kind q_t_by q_t_home q_t_aim q_t_at0 v_t_hour v_t_chance v_t_seed w_t_kept w_t_tried v_t_at v_t_token v_t_from v_t_figures v_t_fault q_t_told v_t_statements q_t_steps q_t_spot q_t_then v_t_now v_t_gone q_t_sights q_t_darkAt q_t_can), (q_t_ways, .inl (cy 0, 12, .inl v_t_ways)), (q_t_steps, .inl (cy 0, 12, .inl v_t_steps))]) [0, 1, 2] rfl
  have hDc := hD.sub (ws' := [(q_t, oX8 q_t_shelf q_t_rowSort q_t_rowSize q_t_rows q_t_moved q_t_shown q_t_tape v_t_tapeSize q_t_refused v_t_places q_t_ways v_t_people q_t_kind q_t_by q_t_home q_t_aim q_t_at0 v_t_hour v_t_chance v_t_seed w_t_kept w_t_tried v_t_at v_t_token v_t_from v_t_figures v_t_fault q_t_told v_t_statements q_t_steps q_t_spot q_t_then v_t_now v_t_gone q_t_sights q_t_darkAt q_t_can), (q_t_ways, .inl (cy 0, 12, .inl v_t_ways)), (q_t_steps, .inl (cy 0, 12, .inl v_t_steps))]) [0, 1, 2] (by decide) rfl
  refine xcQi (w1 := [(q_t, oX8 q_t_shelf q_t_rowSort q_t_rowSize q_t_rows q_t_moved q_t_shown q_t_tape v_t_tapeSize q_t_refused v_t_places q_t_ways v_t_people q_t_kind q_t_by q_t_home q_t_aim q_t_at0 v_t_hour v_t_chance v_t_seed w_t_kept w_t_tried v_t_at v_t_token v_t_from v_t_figures v_t_fault q_t_told v_t_statements q_t_steps q_t_spot q_t_then v_t_now v_t_gone q_t_sights q_t_darkAt q_t_can), (q_t_ways, .inl (cy 0, 12, .inl v_t_ways)), (q_t_steps, .inl (cy 0, 12, .inl u2))]) (va_runV (As := []) (rest := []) ⟨hx, hb, hml, hown, hts⟩ (mX8_countParts l D cy q_t q_t_shelf q_t_rowSort q_t_rowSize q_t_rows q_t_moved q_t_shown q_t_tape q_t_refused q_t_ways q_t_kind q_t_by q_t_home q_t_aim q_t_at0 q_t_told q_t_steps q_t_spot q_t_then q_t_sights q_t_darkAt q_t_can v_t_tapeSize v_t_places v_t_people v_t_hour v_t_chance v_t_seed w_t_kept w_t_tried v_t_at v_t_token v_t_from v_t_figures v_t_fault v_t_statements v_t_now v_t_gone v_t_ways v_t_steps _  hr3) (cwV 0 hts gX8_parts_X8_countParts rfl rfl rfl (by decide +kernel) ⟨Nat.le_of_ble_eq_true rfl, Nat.le_of_ble_eq_true rfl⟩) (xPVw hK hPc hDc (ci := 8) (q0 := 0) rfl rfl) rfl rfl hl.1 rfl (lv_room (Nat.le_of_ble_eq_true rfl)) dX8_parts_1 ⟨Nat.le_of_ble_eq_true rfl, Nat.le_of_ble_eq_true rfl⟩) hP hD hS hA [0, 1, 2] rfl rfl (fun H locs hP hD hS => ?_)
  have hP : va_P D vwCl [(q_t, oX8 q_t_shelf q_t_rowSort q_t_rowSize q_t_rows q_t_moved q_t_shown q_t_tape v_t_tapeSize q_t_refused v_t_places q_t_ways v_t_people q_t_kind q_t_by q_t_home q_t_aim q_t_at0 v_t_hour v_t_chance v_t_seed w_t_kept w_t_tried v_t_at v_t_token v_t_from v_t_figures v_t_fault q_t_told v_t_statements q_t_steps q_t_spot q_t_then v_t_now v_t_gone q_t_sights q_t_darkAt q_t_can), (q_t_ways, .inl (cy 0, 12, .inl v_t_ways)), (q_t_steps, .inl (cy 0, 12, .inl u2))] H := hP
  have hD : va_D A [(q_t, oX8 q_t_shelf q_t_rowSort q_t_rowSize q_t_rows q_t_moved q_t_shown q_t_tape v_t_tapeSize q_t_refused v_t_places q_t_ways v_t_people q_t_kind q_t_by q_t_home q_t_aim q_t_at0 v_t_hour v_t_chance v_t_seed w_t_kept w_t_tried v_t_at v_t_token v_t_from v_t_figures v_t_fault q_t_told v_t_statements q_t_steps q_t_spot q_t_then v_t_now v_t_gone q_t_sights q_t_darkAt q_t_can), (q_t_ways, .inl (cy 0, 12, .inl v_t_ways)), (q_t_steps, .inl (cy 0, 12, .inl u2))] := hD
  cases hf
  exact W.iret hx hb hr (fun t ht hW => ⟨⟨_, (), rfl, rfl, xend ht hP⟩, hS.F ht⟩) hS.2.2 dX8_parts_4
