def fX8_personOf (v_t_people : Int32) (v_t_gone : Int32) (v_t_refused : Nat → Int32) (v_t_kind : Nat → Int32) (v_t_by : Nat → Int32) (v_t_home : Nat → Int32) (v_t_aim : Nat → Int32) (v_t_at0 : Nat → Int32) (p0 : Int32) (p1 : Int32) : Option (Int32 × (Nat → Int32)) :=
  bo1 (fX8_isPerson v_t_people p0) fun r1 =>
  jo0 (
    bo2 (fX8_refuse v_t_refused (-2 : Int32)) fun r4 u5 =>
    some (r4, u5)) fun k3 =>
  if r1 = 0 then
    k3
  else
    bo1 (fX8_in p1.toInt64 (0 : Int64) (5 : Int64)) fun r7 =>
    if r7 = 0 then
      k3
    else
      if p1 = (0 : Int32) then
        if p0 < 0 ∨ 8 ≤ p0.toNatClampNeg then none else
        some (v_t_kind p0.toNatClampNeg, v_t_refused)
      else
        if p1 = (1 : Int32) then
          if p0 < 0 ∨ 8 ≤ p0.toNatClampNeg then none else
          some (v_t_by p0.toNatClampNeg, v_t_refused)
        else
          if p1 = (2 : Int32) then
            if p0 < 0 ∨ 8 ≤ p0.toNatClampNeg then none else
            some (v_t_home p0.toNatClampNeg, v_t_refused)
          else
            if p1 = (3 : Int32) then
              if p0 < 0 ∨ 8 ≤ p0.toNatClampNeg then none else
              some (v_t_aim p0.toNatClampNeg, v_t_refused)
            else
              if p1 = (4 : Int32) then
                if p0 < 0 ∨ 8 ≤ p0.toNatClampNeg then none else
                some (v_t_at0 p0.toNatClampNeg, v_t_refused)
              else
                bo1 (fX8_darkens v_t_gone v_t_kind p0) fun r9 =>
                if r9 = 0 then
                  some ((0 : Int32), v_t_refused)
                else
                  some ((1 : Int32), v_t_refused)
set_option maxHeartbeats 4000000 in
set_option maxRecDepth 100000 in
theorem mX8_personOf (l : Launch) (D : va_G) (cy : Nat → ClassId) (q_t q_t_shelf q_t_rowSort q_t_rowSize q_t_rows q_t_moved q_t_shown q_t_tape q_t_refused q_t_ways q_t_kind q_t_by q_t_home q_t_aim q_t_at0 q_t_told q_t_steps q_t_spot q_t_then q_t_sights q_t_darkAt q_t_can : Nat) (v_t_tapeSize : Int32) (v_t_places : Int32) (v_t_people : Int32) (v_t_hour : Int32) (v_t_chance : Int32) (v_t_seed : Int32) (w_t_kept : Value) (w_t_tried : Value) (v_t_at : Int32) (v_t_token : Int32) (v_t_from : Int32) (v_t_figures : Int32) (v_t_fault : Int32) (v_t_statements : Int32) (v_t_now : Int32) (v_t_gone : Int32) (v_t_refused : Nat → Int32) (v_t_kind : Nat → Int32) (v_t_by : Nat → Int32) (v_t_home : Nat → Int32) (v_t_aim : Nat → Int32) (v_t_at0 : Nat → Int32) (sz : Nat) (p0 : Int32) (p1 : Int32) {r_ : Int32} {n_t_refused : Nat → Int32} (hf : fX8_personOf v_t_people v_t_gone v_t_refused v_t_kind v_t_by v_t_home v_t_aim v_t_at0 p0 p1 = some (r_, n_t_refused)) : Met l yX8_personOf wsX8_personOf ({ frames := 2, cells := 0, slots := 0, locals := 46 }) (va_Pc [.ref q_t, .int p0, .int p1] (fun U => U.heap.size = sz ∧ va_P D vwCl [(q_t, oX8 q_t_shelf q_t_rowSort q_t_rowSize q_t_rows q_t_moved q_t_shown q_t_tape v_t_tapeSize q_t_refused v_t_places q_t_ways v_t_people q_t_kind q_t_by q_t_home q_t_aim q_t_at0 v_t_hour v_t_chance v_t_seed w_t_kept w_t_tried v_t_at v_t_token v_t_from v_t_figures v_t_fault q_t_told v_t_statements q_t_steps q_t_spot q_t_then v_t_now v_t_gone q_t_sights q_t_darkAt q_t_can), (q_t_refused, .inl (cy 0, 8, .inl v_t_refused)), (q_t_kind, .inl (cy 0, 8, .inl v_t_kind)), (q_t_by, .inl (cy 0, 8, .inl v_t_by)), (q_t_home, .inl (cy 0, 8, .inl v_t_home)), (q_t_aim, .inl (cy 0, 8, .inl v_t_aim)), (q_t_at0, .inl (cy 0, 8, .inl v_t_at0))] U.heap ∧ xK D cy U ∧ va_D (fun _ => True) [(q_t, oX8 q_t_shelf q_t_rowSort q_t_rowSize q_t_rows q_t_moved q_t_shown q_t_tape v_t_tapeSize q_t_refused v_t_places q_t_ways v_t_people q_t_kind q_t_by q_t_home q_t_aim q_t_at0 v_t_hour v_t_chance v_t_seed w_t_kept w_t_tried v_t_at v_t_token v_t_from v_t_figures v_t_fault q_t_told v_t_statements q_t_steps q_t_spot q_t_then v_t_now v_t_gone q_t_sights q_t_darkAt q_t_can), (q_t_refused, .inl (cy 0, 8, .inl v_t_refused)), (q_t_kind, .inl (cy 0, 8, .inl v_t_kind)), (q_t_by, .inl (cy 0, 8, .inl v_t_by)), (q_t_home, .inl (cy 0, 8, .inl v_t_home)), (q_t_aim, .inl (cy 0, 8, .inl v_t_aim)), (q_t_at0, .inl (cy 0, 8, .inl v_t_at0))])) (va_Qi (fun (x : Int32) (_ : Unit) => x = r_) (fun _ t => va_P D vwCl [(q_t, oX8 q_t_shelf q_t_rowSort q_t_rowSize q_t_rows q_t_moved q_t_shown q_t_tape v_t_tapeSize q_t_refused v_t_places q_t_ways v_t_people q_t_kind q_t_by q_t_home q_t_aim q_t_at0 v_t_hour v_t_chance v_t_seed w_t_kept w_t_tried v_t_at v_t_token v_t_from v_t_figures v_t_fault q_t_told v_t_statements q_t_steps q_t_spot q_t_then v_t_now v_t_gone q_t_sights q_t_darkAt q_t_can), (q_t_refused, .inl (cy 0, 8, .inl n_t_refused)), (q_t_kind, .inl (cy 0, 8, .inl v_t_kind)), (q_t_by, .inl (cy 0, 8, .inl v_t_by)), (q_t_home, .inl (cy 0, 8, .inl v_t_home)), (q_t_aim, .inl (cy 0, 8, .inl v_t_aim)), (q_t_at0, .inl (cy 0, 8, .inl v_t_at0))] t.heap) (va_A [(q_t, oX8 q_t_shelf q_t_rowSort q_t_rowSize q_t_rows q_t_moved q_t_shown q_t_tape v_t_tapeSize q_t_refused v_t_places q_t_ways v_t_people q_t_kind q_t_by q_t_home q_t_aim q_t_at0 v_t_hour v_t_chance v_t_seed w_t_kept w_t_tried v_t_at v_t_token v_t_from v_t_figures v_t_fault q_t_told v_t_statements q_t_steps q_t_spot q_t_then v_t_now v_t_gone q_t_sights q_t_darkAt q_t_can), (q_t_refused, .inl (cy 0, 8, .inl v_t_refused)), (q_t_kind, .inl (cy 0, 8, .inl v_t_kind)), (q_t_by, .inl (cy 0, 8, .inl v_t_by)), (q_t_home, .inl (cy 0, 8, .inl v_t_home)), (q_t_aim, .inl (cy 0, 8, .inl v_t_aim)), (q_t_at0, .inl (cy 0, 8, .inl v_t_at0))] sz)) 0 0 (va_A [(q_t, oX8 q_t_shelf q_t_rowSort q_t_rowSize q_t_rows q_t_moved q_t_shown q_t_tape v_t_tapeSize q_t_refused v_t_places q_t_ways v_t_people q_t_kind q_t_by q_t_home q_t_aim q_t_at0 v_t_hour v_t_chance v_t_seed w_t_kept w_t_tried v_t_at v_t_token v_t_from v_t_figures v_t_fault q_t_told v_t_statements q_t_steps q_t_spot q_t_then v_t_now v_t_gone q_t_sights q_t_darkAt q_t_can), (q_t_refused, .inl (cy 0, 8, .inl v_t_refused)), (q_t_kind, .inl (cy 0, 8, .inl v_t_kind)), (q_t_by, .inl (cy 0, 8, .inl v_t_by)), (q_t_home, .inl (cy 0, 8, .inl v_t_home)), (q_t_aim, .inl (cy 0, 8, .inl v_t_aim)), (q_t_at0, .inl (cy 0, 8, .inl v_t_at0))] sz) := by
  refine Met.ofW (cc := cX8_personOf) (maxL := 3) (ret := (some .int)) (by decide) rfl ?_
  intro p e s m args below meth c s₁ B hml hv
  obtain ⟨rfl, hsz, hP, hK, hD0⟩ := hv
  have hx := B.exec
  have hb := B.bytes
  have hr := B.returns
  have hts := atoms_spec (ws := wsX8_personOf) B.pre
  have hown : s.vm.findClass RX8 = some m.cls := findClass_of_methodNamed B.named
  have hlocks := B.notSynchronized
  subst hsz
  have hD := hD0.self (sz := s.heap.size)
  generalize hAe : va_A [(q_t, oX8 q_t_shelf q_t_rowSort q_t_rowSize q_t_rows q_t_moved q_t_shown q_t_tape v_t_tapeSize q_t_refused v_t_places q_t_ways v_t_people q_t_kind q_t_by q_t_home q_t_aim q_t_at0 v_t_hour v_t_chance v_t_seed w_t_kept w_t_tried v_t_at v_t_token v_t_from v_t_figures v_t_fault q_t_told v_t_statements q_t_steps q_t_spot q_t_then v_t_now v_t_gone q_t_sights q_t_darkAt q_t_can), (q_t_refused, .inl (cy 0, 8, .inl v_t_refused)), (q_t_kind, .inl (cy 0, 8, .inl v_t_kind)), (q_t_by, .inl (cy 0, 8, .inl v_t_by)), (q_t_home, .inl (cy 0, 8, .inl v_t_home)), (q_t_aim, .inl (cy 0, 8, .inl v_t_aim)), (q_t_at0, .inl (cy 0, 8, .inl v_t_at0))] s.heap.size = A at hD ⊢
  have hA : ∀ q : Nat, s.heap.size ≤ q → A q := fun q h => by rw [← hAe]; exact Or.inr h
  have hS : va_S A s.heap s.heap [] := va_S.rf
  have hP : va_P D vwCl [(q_t, oX8 q_t_shelf q_t_rowSort q_t_rowSize q_t_rows q_t_moved q_t_shown q_t_tape v_t_tapeSize q_t_refused v_t_places q_t_ways v_t_people q_t_kind q_t_by q_t_home q_t_aim q_t_at0 v_t_hour v_t_chance v_t_seed w_t_kept w_t_tried v_t_at v_t_token v_t_from v_t_figures v_t_fault q_t_told v_t_statements q_t_steps q_t_spot q_t_then v_t_now v_t_gone q_t_sights q_t_darkAt q_t_can), (q_t_refused, .inl (cy 0, 8, .inl v_t_refused)), (q_t_kind, .inl (cy 0, 8, .inl v_t_kind)), (q_t_by, .inl (cy 0, 8, .inl v_t_by)), (q_t_home, .inl (cy 0, 8, .inl v_t_home)), (q_t_aim, .inl (cy 0, 8, .inl v_t_aim)), (q_t_at0, .inl (cy 0, 8, .inl v_t_at0))] s.heap := hP
  have hc119 := hts (.constantLong RX8 119 (5)) (by decide +kernel)
  have hinX8 : ∀ w ∈ u_ws RX8 TX8 37, w ∈ wsX8_personOf := by decide +kernel
  have hk56 := hts (.fieldLink RX8 56 "ShowsWhereNobodyIsModel" "at0" "[I") (by decide +kernel)
  have hk53 := hts (.fieldLink RX8 53 "ShowsWhereNobodyIsModel" "aim" "[I") (by decide +kernel)
  have hk50 := hts (.fieldLink RX8 50 "ShowsWhereNobodyIsModel" "home" "[I") (by decide +kernel)
  have hk47 := hts (.fieldLink RX8 47 "ShowsWhereNobodyIsModel" "by" "[I") (by decide +kernel)
  have hk44 := hts (.fieldLink RX8 44 "ShowsWhereNobodyIsModel" "kind" "[I") (by decide +kernel)
  have hl := lv_entry ([.ref q_t, .int p0, .int p1]) (n := 3) (Nat.le_of_ble_eq_true rfl)
  rw [lg_entry_eq]
  generalize (lg_sl ([.ref q_t, .int p0, .int p1]) ++ List.replicate (3 - (lg_sl ([.ref q_t, .int p0, .int p1])).length) Slot.unset).toArray = ls at hl ⊢
  have hl : lv_has ls 3 [(0, .ref q_t), (1, .int p0), (2, .int p1)] := hl
  unfold fX8_personOf at hf
  refine lv_aload_n hx hb dX8_personOf_0 rfl (lv_at hl 0 rfl) ?_
  refine lv_iload_n hx hb dX8_personOf_1 rfl (lv_at hl 1 rfl) ?_
  obtain ⟨r1, hr2, hf⟩ := boE1 hf
  have hPc := hP.sub (ws' := [(q_t, oX8 q_t_shelf q_t_rowSort q_t_rowSize q_t_rows q_t_moved q_t_shown q_t_tape v_t_tapeSize q_t_refused v_t_places q_t_ways v_t_people q_t_kind q_t_by q_t_home q_t_aim q_t_at0 v_t_hour v_t_chance v_t_seed w_t_kept w_t_tried v_t_at v_t_token v_t_from v_t_figures v_t_fault q_t_told v_t_statements q_t_steps q_t_spot q_t_then v_t_now v_t_gone q_t_sights q_t_darkAt q_t_can)]) [0] rfl
  refine xcSi (va_runV (As := [.int p0]) (rest := []) ⟨hx, hb, hml, hown, hts⟩ (mX8_isPerson l D cy q_t q_t_shelf q_t_rowSort q_t_rowSize q_t_rows q_t_moved q_t_shown q_t_tape q_t_refused q_t_ways q_t_kind q_t_by q_t_home q_t_aim q_t_at0 q_t_told q_t_steps q_t_spot q_t_then q_t_sights q_t_darkAt q_t_can v_t_tapeSize v_t_places v_t_people v_t_hour v_t_chance v_t_seed w_t_kept w_t_tried v_t_at v_t_token v_t_from v_t_figures v_t_fault v_t_statements v_t_now v_t_gone  p0 hr2) (cwV 1 hts gX8_personOf_X8_isPerson rfl rfl rfl (by decide +kernel) ⟨Nat.le_of_ble_eq_true rfl, Nat.le_of_ble_eq_true rfl⟩) (xPV hK hPc (ci := 8) (q0 := 0) rfl rfl) rfl rfl hl.1 rfl (lv_room (Nat.le_of_ble_eq_true rfl)) dX8_personOf_2 ⟨Nat.le_of_ble_eq_true rfl, Nat.le_of_ble_eq_true rfl⟩) ?_
  refine jww0 20 [] (fun  H locs ls => va_P D vwCl [(q_t, oX8 q_t_shelf q_t_rowSort q_t_rowSize q_t_rows q_t_moved q_t_shown q_t_tape v_t_tapeSize q_t_refused v_t_places q_t_ways v_t_people q_t_kind q_t_by q_t_home q_t_aim q_t_at0 v_t_hour v_t_chance v_t_seed w_t_kept w_t_tried v_t_at v_t_token v_t_from v_t_figures v_t_fault q_t_told v_t_statements q_t_steps q_t_spot q_t_then v_t_now v_t_gone q_t_sights q_t_darkAt q_t_can), (q_t_refused, .inl (cy 0, 8, .inl v_t_refused)), (q_t_kind, .inl (cy 0, 8, .inl v_t_kind)), (q_t_by, .inl (cy 0, 8, .inl v_t_by)), (q_t_home, .inl (cy 0, 8, .inl v_t_home)), (q_t_aim, .inl (cy 0, 8, .inl v_t_aim)), (q_t_at0, .inl (cy 0, 8, .inl v_t_at0))] H ∧ va_D A [(q_t, oX8 q_t_shelf q_t_rowSort q_t_rowSize q_t_rows q_t_moved q_t_shown q_t_tape v_t_tapeSize q_t_refused v_t_places q_t_ways v_t_people q_t_kind q_t_by q_t_home q_t_aim q_t_at0 v_t_hour v_t_chance v_t_seed w_t_kept w_t_tried v_t_at v_t_token v_t_from v_t_figures v_t_fault q_t_told v_t_statements q_t_steps q_t_spot q_t_then v_t_now v_t_gone q_t_sights q_t_darkAt q_t_can), (q_t_refused, .inl (cy 0, 8, .inl v_t_refused)), (q_t_kind, .inl (cy 0, 8, .inl v_t_kind)), (q_t_by, .inl (cy 0, 8, .inl v_t_by)), (q_t_home, .inl (cy 0, 8, .inl v_t_home)), (q_t_aim, .inl (cy 0, 8, .inl v_t_aim)), (q_t_at0, .inl (cy 0, 8, .inl v_t_at0))] ∧ va_S A s.heap H locs ∧ lv_has ls 3 [(0, .ref q_t)]) hf (fun  H locs ls hI hf => ?_) (fun k3 J20 hf => ?_)
  · obtain ⟨hP, hD, hS, hl⟩ := hI
    refine lv_aload_n hx hb dX8_personOf_20 rfl (lv_at hl 0 rfl) ?_
    refine lv_bipush (v := (-2)) hx hb dX8_personOf_21 (by decide) ?_
    obtain ⟨r4, u5, hr6, hf⟩ := boE2 hf
    have hPc := hP.sub (ws' := [(q_t, oX8 q_t_shelf q_t_rowSort q_t_rowSize q_t_rows q_t_moved q_t_shown q_t_tape v_t_tapeSize q_t_refused v_t_places q_t_ways v_t_people q_t_kind q_t_by q_t_home q_t_aim q_t_at0 v_t_hour v_t_chance v_t_seed w_t_kept w_t_tried v_t_at v_t_token v_t_from v_t_figures v_t_fault q_t_told v_t_statements q_t_steps q_t_spot q_t_then v_t_now v_t_gone q_t_sights q_t_darkAt q_t_can), (q_t_refused, .inl (cy 0, 8, .inl v_t_refused))]) [0, 1] rfl
    have hDc := hD.sub (ws' := [(q_t, oX8 q_t_shelf q_t_rowSort q_t_rowSize q_t_rows q_t_moved q_t_shown q_t_tape v_t_tapeSize q_t_refused v_t_places q_t_ways v_t_people q_t_kind q_t_by q_t_home q_t_aim q_t_at0 v_t_hour v_t_chance v_t_seed w_t_kept w_t_tried v_t_at v_t_token v_t_from v_t_figures v_t_fault q_t_told v_t_statements q_t_steps q_t_spot q_t_then v_t_now v_t_gone q_t_sights q_t_darkAt q_t_can), (q_t_refused, .inl (cy 0, 8, .inl v_t_refused))]) [0, 1] (by decide) rfl
    refine xcQi (w1 := [(q_t, oX8 q_t_shelf q_t_rowSort q_t_rowSize q_t_rows q_t_moved q_t_shown q_t_tape v_t_tapeSize q_t_refused v_t_places q_t_ways v_t_people q_t_kind q_t_by q_t_home q_t_aim q_t_at0 v_t_hour v_t_chance v_t_seed w_t_kept w_t_tried v_t_at v_t_token v_t_from v_t_figures v_t_fault q_t_told v_t_statements q_t_steps q_t_spot q_t_then v_t_now v_t_gone q_t_sights q_t_darkAt q_t_can), (q_t_refused, .inl (cy 0, 8, .inl u5))]) (va_runV (As := [.int (-2 : Int32)]) (rest := []) ⟨hx, hb, hml, hown, hts⟩ (mX8_refuse l D cy q_t q_t_shelf q_t_rowSort q_t_rowSize q_t_rows q_t_moved q_t_shown q_t_tape q_t_refused q_t_ways q_t_kind q_t_by q_t_home q_t_aim q_t_at0 q_t_told q_t_steps q_t_spot q_t_then q_t_sights q_t_darkAt q_t_can v_t_tapeSize v_t_places v_t_people v_t_hour v_t_chance v_t_seed w_t_kept w_t_tried v_t_at v_t_token v_t_from v_t_figures v_t_fault v_t_statements v_t_now v_t_gone v_t_refused _ (-2 : Int32) hr6) (cwV 1 hts gX8_personOf_X8_refuse rfl rfl rfl (by decide +kernel) ⟨Nat.le_of_ble_eq_true rfl, Nat.le_of_ble_eq_true rfl⟩) (xPVw hK hPc hDc (ci := 8) (q0 := 0) rfl rfl) rfl rfl hl.1 rfl (lv_room (Nat.le_of_ble_eq_true rfl)) dX8_personOf_23 ⟨Nat.le_of_ble_eq_true rfl, Nat.le_of_ble_eq_true rfl⟩) hP hD hS hA [0, 1] rfl rfl (fun H locs hP hD hS => ?_)
    have hP : va_P D vwCl [(q_t, oX8 q_t_shelf q_t_rowSort q_t_rowSize q_t_rows q_t_moved q_t_shown q_t_tape v_t_tapeSize q_t_refused v_t_places q_t_ways v_t_people q_t_kind q_t_by q_t_home q_t_aim q_t_at0 v_t_hour v_t_chance v_t_seed w_t_kept w_t_tried v_t_at v_t_token v_t_from v_t_figures v_t_fault q_t_told v_t_statements q_t_steps q_t_spot q_t_then v_t_now v_t_gone q_t_sights q_t_darkAt q_t_can), (q_t_refused, .inl (cy 0, 8, .inl u5)), (q_t_kind, .inl (cy 0, 8, .inl v_t_kind)), (q_t_by, .inl (cy 0, 8, .inl v_t_by)), (q_t_home, .inl (cy 0, 8, .inl v_t_home)), (q_t_aim, .inl (cy 0, 8, .inl v_t_aim)), (q_t_at0, .inl (cy 0, 8, .inl v_t_at0))] H := hP
    have hD : va_D A [(q_t, oX8 q_t_shelf q_t_rowSort q_t_rowSize q_t_rows q_t_moved q_t_shown q_t_tape v_t_tapeSize q_t_refused v_t_places q_t_ways v_t_people q_t_kind q_t_by q_t_home q_t_aim q_t_at0 v_t_hour v_t_chance v_t_seed w_t_kept w_t_tried v_t_at v_t_token v_t_from v_t_figures v_t_fault q_t_told v_t_statements q_t_steps q_t_spot q_t_then v_t_now v_t_gone q_t_sights q_t_darkAt q_t_can), (q_t_refused, .inl (cy 0, 8, .inl u5)), (q_t_kind, .inl (cy 0, 8, .inl v_t_kind)), (q_t_by, .inl (cy 0, 8, .inl v_t_by)), (q_t_home, .inl (cy 0, 8, .inl v_t_home)), (q_t_aim, .inl (cy 0, 8, .inl v_t_aim)), (q_t_at0, .inl (cy 0, 8, .inl v_t_at0))] := hD
    cases hf
    exact W.iret hx hb hr (fun t ht hW => ⟨⟨_, (), rfl, rfl, xend ht hP⟩, hS.F ht⟩) hS.2.2 dX8_personOf_26
  · refine lv_if_eq (tgt := 20) hx hb dX8_personOf_5 (by decide) (fun c23 => ?_) (fun c23 => ?_)
    · have hf := ifT hf c23
      clear c23
      exact J20 _ _ ls ⟨hP, hD, hS, lv_sub hl [0] rfl⟩ hf
    · have hf := ifF hf c23
      clear c23
      refine lv_iload_n hx hb dX8_personOf_8 rfl (lv_at hl 2 rfl) ?_
      refine lv_i2l hx hb dX8_personOf_9 rfl ?_
      refine lv_lconst (v := 0) hx hb dX8_personOf_10 (by decide) ?_
      refine lv_ldc2 hx hb hown hc119 dX8_personOf_11 ?_
      obtain ⟨r7, hr8, hf⟩ := boE1 hf
      have hPc := hP.sub (ws' := []) [] rfl
      refine xcSi (va_runS (As := [.long p1.toInt64, .long (0 : Int64), .long (5 : Int64)]) (rest := []) ⟨hx, hb, hml, hown, hts⟩ (mX8_in l D cy    p1.toInt64 (0 : Int64) (5 : Int64) hr8) (va_cwS 3 hts gX8_personOf_X8_in rfl rfl rfl (by decide +kernel) ⟨Nat.le_of_ble_eq_true rfl, Nat.le_of_ble_eq_true rfl⟩) (xPS hK hPc) rfl rfl hl.1 rfl (lv_room (Nat.le_of_ble_eq_true rfl)) dX8_personOf_14 ⟨Nat.le_of_ble_eq_true rfl, Nat.le_of_ble_eq_true rfl⟩) ?_
      refine lv_if_ne (tgt := 27) hx hb dX8_personOf_17 (by decide) (fun c22 => ?_) (fun c22 => ?_)
      · have hf := ifF hf c22
        clear c22
        refine lv_iload_n hx hb dX8_personOf_27 rfl (lv_at hl 2 rfl) ?_
        by_cases c12 : p1 = (0 : Int32)
        · have hf := ifT hf c12
          refine lv_tableIn (tgt := 64) hx hb dX8_personOf_28 (by rw [c12]; decide) (by rw [c12]; decide) (by rw [c12]; rfl) (by decide) ?_
          refine lv_aload_n hx hb dX8_personOf_64 rfl (lv_at hl 0 rfl) ?_
          refine va_get (D := D) (ci := 8) (v := .ref q_t_kind) (C := RX8) (T := TX8) (N := 37) hx hb hts hinX8 hown hK.1 hP 0 rfl rfl 12 (by decide) hk44 (fun _ h9 => h9) rfl dX8_personOf_65 ?_
          refine lv_iload_n hx hb dX8_personOf_68 rfl (lv_at hl 1 rfl) ?_
          obtain ⟨hi21, hf⟩ := ckE hf
          refine va_iald hx hb hK.1 hP 2 0 rfl rfl hi21 dX8_personOf_69 ?_
          cases hf
          exact W.iret hx hb hr (fun t ht hW => ⟨⟨_, (), rfl, rfl, xend ht hP⟩, hS.F ht⟩) hS.2.2 dX8_personOf_70
        · have hf := ifF hf c12
          by_cases c13 : p1 = (1 : Int32)
          · have hf := ifT hf c13
            refine lv_tableIn (tgt := 71) hx hb dX8_personOf_28 (by rw [c13]; decide) (by rw [c13]; decide) (by rw [c13]; rfl) (by decide) ?_
            refine lv_aload_n hx hb dX8_personOf_71 rfl (lv_at hl 0 rfl) ?_
            refine va_get (D := D) (ci := 8) (v := .ref q_t_by) (C := RX8) (T := TX8) (N := 37) hx hb hts hinX8 hown hK.1 hP 0 rfl rfl 13 (by decide) hk47 (fun _ h9 => h9) rfl dX8_personOf_72 ?_
            refine lv_iload_n hx hb dX8_personOf_75 rfl (lv_at hl 1 rfl) ?_
            obtain ⟨hi20, hf⟩ := ckE hf
            refine va_iald hx hb hK.1 hP 3 0 rfl rfl hi20 dX8_personOf_76 ?_
            cases hf
            exact W.iret hx hb hr (fun t ht hW => ⟨⟨_, (), rfl, rfl, xend ht hP⟩, hS.F ht⟩) hS.2.2 dX8_personOf_77
          · have hf := ifF hf c13
            by_cases c14 : p1 = (2 : Int32)
            · have hf := ifT hf c14
              refine lv_tableIn (tgt := 78) hx hb dX8_personOf_28 (by rw [c14]; decide) (by rw [c14]; decide) (by rw [c14]; rfl) (by decide) ?_
              refine lv_aload_n hx hb dX8_personOf_78 rfl (lv_at hl 0 rfl) ?_
              refine va_get (D := D) (ci := 8) (v := .ref q_t_home) (C := RX8) (T := TX8) (N := 37) hx hb hts hinX8 hown hK.1 hP 0 rfl rfl 14 (by decide) hk50 (fun _ h9 => h9) rfl dX8_personOf_79 ?_
              refine lv_iload_n hx hb dX8_personOf_82 rfl (lv_at hl 1 rfl) ?_
              obtain ⟨hi19, hf⟩ := ckE hf
              refine va_iald hx hb hK.1 hP 4 0 rfl rfl hi19 dX8_personOf_83 ?_
              cases hf
              exact W.iret hx hb hr (fun t ht hW => ⟨⟨_, (), rfl, rfl, xend ht hP⟩, hS.F ht⟩) hS.2.2 dX8_personOf_84
            · have hf := ifF hf c14
              by_cases c15 : p1 = (3 : Int32)
              · have hf := ifT hf c15
                refine lv_tableIn (tgt := 85) hx hb dX8_personOf_28 (by rw [c15]; decide) (by rw [c15]; decide) (by rw [c15]; rfl) (by decide) ?_
                refine lv_aload_n hx hb dX8_personOf_85 rfl (lv_at hl 0 rfl) ?_
                refine va_get (D := D) (ci := 8) (v := .ref q_t_aim) (C := RX8) (T := TX8) (N := 37) hx hb hts hinX8 hown hK.1 hP 0 rfl rfl 15 (by decide) hk53 (fun _ h9 => h9) rfl dX8_personOf_86 ?_
                refine lv_iload_n hx hb dX8_personOf_89 rfl (lv_at hl 1 rfl) ?_
                obtain ⟨hi18, hf⟩ := ckE hf
                refine va_iald hx hb hK.1 hP 5 0 rfl rfl hi18 dX8_personOf_90 ?_
                cases hf
                exact W.iret hx hb hr (fun t ht hW => ⟨⟨_, (), rfl, rfl, xend ht hP⟩, hS.F ht⟩) hS.2.2 dX8_personOf_91
              · have hf := ifF hf c15
                by_cases c16 : p1 = (4 : Int32)
                · have hf := ifT hf c16
                  refine lv_tableIn (tgt := 92) hx hb dX8_personOf_28 (by rw [c16]; decide) (by rw [c16]; decide) (by rw [c16]; rfl) (by decide) ?_
                  refine lv_aload_n hx hb dX8_personOf_92 rfl (lv_at hl 0 rfl) ?_
                  refine va_get (D := D) (ci := 8) (v := .ref q_t_at0) (C := RX8) (T := TX8) (N := 37) hx hb hts hinX8 hown hK.1 hP 0 rfl rfl 16 (by decide) hk56 (fun _ h9 => h9) rfl dX8_personOf_93 ?_
                  refine lv_iload_n hx hb dX8_personOf_96 rfl (lv_at hl 1 rfl) ?_
                  obtain ⟨hi17, hf⟩ := ckE hf
                  refine va_iald hx hb hK.1 hP 6 0 rfl rfl hi17 dX8_personOf_97 ?_
                  cases hf
                  exact W.iret hx hb hr (fun t ht hW => ⟨⟨_, (), rfl, rfl, xend ht hP⟩, hS.F ht⟩) hS.2.2 dX8_personOf_98
                · have hf := ifF hf c16
                  refine lv_tableOut (tgt := 99) hx hb dX8_personOf_28 (by have n0 := lv_neT c12 (a := 0) (by decide); have n1 := lv_neT c13 (a := 1) (by decide); have n2 := lv_neT c14 (a := 2) (by decide); have n3 := lv_neT c15 (a := 3) (by decide); have n4 := lv_neT c16 (a := 4) (by decide); omega) (by decide) ?_
                  refine lv_aload_n hx hb dX8_personOf_99 rfl (lv_at hl 0 rfl) ?_
                  refine lv_iload_n hx hb dX8_personOf_100 rfl (lv_at hl 1 rfl) ?_
                  obtain ⟨r9, hr10, hf⟩ := boE1 hf
                  have hPc := hP.sub (ws' := [(q_t, oX8 q_t_shelf q_t_rowSort q_t_rowSize q_t_rows q_t_moved q_t_shown q_t_tape v_t_tapeSize q_t_refused v_t_places q_t_ways v_t_people q_t_kind q_t_by q_t_home q_t_aim q_t_at0 v_t_hour v_t_chance v_t_seed w_t_kept w_t_tried v_t_at v_t_token v_t_from v_t_figures v_t_fault q_t_told v_t_statements q_t_steps q_t_spot q_t_then v_t_now v_t_gone q_t_sights q_t_darkAt q_t_can), (q_t_kind, .inl (cy 0, 8, .inl v_t_kind))]) [0, 2] rfl
                  refine xcSi (va_runV (As := [.int p0]) (rest := []) ⟨hx, hb, hml, hown, hts⟩ (mX8_darkens l D cy q_t q_t_shelf q_t_rowSort q_t_rowSize q_t_rows q_t_moved q_t_shown q_t_tape q_t_refused q_t_ways q_t_kind q_t_by q_t_home q_t_aim q_t_at0 q_t_told q_t_steps q_t_spot q_t_then q_t_sights q_t_darkAt q_t_can v_t_tapeSize v_t_places v_t_people v_t_hour v_t_chance v_t_seed w_t_kept w_t_tried v_t_at v_t_token v_t_from v_t_figures v_t_fault v_t_statements v_t_now v_t_gone v_t_kind  p0 hr10) (cwV 1 hts gX8_personOf_X8_darkens rfl rfl rfl (by decide +kernel) ⟨Nat.le_of_ble_eq_true rfl, Nat.le_of_ble_eq_true rfl⟩) (xPV hK hPc (ci := 8) (q0 := 0) rfl rfl) rfl rfl hl.1 rfl (lv_room (Nat.le_of_ble_eq_true rfl)) dX8_personOf_101 ⟨Nat.le_of_ble_eq_true rfl, Nat.le_of_ble_eq_true rfl⟩) ?_
                  refine lv_if_eq (tgt := 111) hx hb dX8_personOf_104 (by decide) (fun c11 => ?_) (fun c11 => ?_)
                  · have hf := ifT hf c11
                    clear c11
                    refine lv_iconst (v := 0) hx hb dX8_personOf_111 (by decide) ?_
                    cases hf
                    exact W.iret (v := (0 : Int32)) hx hb hr (fun t ht hW => ⟨⟨(0 : Int32), (), rfl, rfl, xend ht hP⟩, hS.F ht⟩) hS.2.2 dX8_personOf_112
                  · have hf := ifF hf c11
                    clear c11
                    refine lv_iconst (v := 1) hx hb dX8_personOf_107 (by decide) ?_
                    refine lv_goto (tgt := 112) hx hb dX8_personOf_108 (by decide) ?_
                    cases hf
                    exact W.iret (v := (1 : Int32)) hx hb hr (fun t ht hW => ⟨⟨(1 : Int32), (), rfl, rfl, xend ht hP⟩, hS.F ht⟩) hS.2.2 dX8_personOf_112
      · have hf := ifT hf c22
        clear c22
        exact J20 _ _ ls ⟨hP, hD, hS, lv_sub hl [0] rfl⟩ hf
def fX8_far (v_t_places : Int32) (v_t_refused : Nat → Int32) (v_t_ways : Nat → Int32) (v_t_steps : Nat → Int32) (p0 : Int32) (p1 : Int32) : Option (Int32 × (Nat → Int32) × (Nat → Int32)) :=
  bo1 (fX8_isPlace v_t_places p0) fun r1 =>
  jo0 (
    bo2 (fX8_refuse v_t_refused (-2 : Int32)) fun r4 u5 =>
    some (r4, u5, v_t_steps)) fun k3 =>
  if r1 = 0 then
    k3
  else
    bo1 (fX8_isPlace v_t_places p1) fun r7 =>
    if r7 = 0 then
      k3
    else
      bo1 (fX8_findFar v_t_places v_t_ways v_t_steps p0) fun u9 =>
      if p1 < 0 ∨ 12 ≤ p1.toNatClampNeg then none else
      some (u9 p1.toNatClampNeg, v_t_refused, u9)
set_option maxHeartbeats 4000000 in
set_option maxRecDepth 100000 in
theorem mX8_far (l : Launch) (D : va_G) (cy : Nat → ClassId) (q_t q_t_shelf q_t_rowSort q_t_rowSize q_t_rows q_t_moved q_t_shown q_t_tape q_t_refused q_t_ways q_t_kind q_t_by q_t_home q_t_aim q_t_at0 q_t_told q_t_steps q_t_spot q_t_then q_t_sights q_t_darkAt q_t_can : Nat) (v_t_tapeSize : Int32) (v_t_places : Int32) (v_t_people : Int32) (v_t_hour : Int32) (v_t_chance : Int32) (v_t_seed : Int32) (w_t_kept : Value) (w_t_tried : Value) (v_t_at : Int32) (v_t_token : Int32) (v_t_from : Int32) (v_t_figures : Int32) (v_t_fault : Int32) (v_t_statements : Int32) (v_t_now : Int32) (v_t_gone : Int32) (v_t_refused : Nat → Int32) (v_t_ways : Nat → Int32) (v_t_steps : Nat → Int32) (sz : Nat) (p0 : Int32) (p1 : Int32) {r_ : Int32} {n_t_refused : Nat → Int32} {n_t_steps : Nat → Int32} (hf : fX8_far v_t_places v_t_refused v_t_ways v_t_steps p0 p1 = some (r_, n_t_refused, n_t_steps)) : Met l yX8_far wsX8_far ({ frames := 2, cells := 0, slots := 0, locals := 46 }) (va_Pc [.ref q_t, .int p0, .int p1] (fun U => U.heap.size = sz ∧ va_P D vwCl [(q_t, oX8 q_t_shelf q_t_rowSort q_t_rowSize q_t_rows q_t_moved q_t_shown q_t_tape v_t_tapeSize q_t_refused v_t_places q_t_ways v_t_people q_t_kind q_t_by q_t_home q_t_aim q_t_at0 v_t_hour v_t_chance v_t_seed w_t_kept w_t_tried v_t_at v_t_token v_t_from v_t_figures v_t_fault q_t_told v_t_statements q_t_steps q_t_spot q_t_then v_t_now v_t_gone q_t_sights q_t_darkAt q_t_can), (q_t_refused, .inl (cy 0, 8, .inl v_t_refused)), (q_t_ways, .inl (cy 0, 12, .inl v_t_ways)), (q_t_steps, .inl (cy 0, 12, .inl v_t_steps))] U.heap ∧ xK D cy U ∧ va_D (fun _ => True) [(q_t, oX8 q_t_shelf q_t_rowSort q_t_rowSize q_t_rows q_t_moved q_t_shown q_t_tape v_t_tapeSize q_t_refused v_t_places q_t_ways v_t_people q_t_kind q_t_by q_t_home q_t_aim q_t_at0 v_t_hour v_t_chance v_t_seed w_t_kept w_t_tried v_t_at v_t_token v_t_from v_t_figures v_t_fault q_t_told v_t_statements q_t_steps q_t_spot q_t_then v_t_now v_t_gone q_t_sights q_t_darkAt q_t_can), (q_t_refused, .inl (cy 0, 8, .inl v_t_refused)), (q_t_ways, .inl (cy 0, 12, .inl v_t_ways)), (q_t_steps, .inl (cy 0, 12, .inl v_t_steps))])) (va_Qi (fun (x : Int32) (_ : Unit) => x = r_) (fun _ t => va_P D vwCl [(q_t, oX8 q_t_shelf q_t_rowSort q_t_rowSize q_t_rows q_t_moved q_t_shown q_t_tape v_t_tapeSize q_t_refused v_t_places q_t_ways v_t_people q_t_kind q_t_by q_t_home q_t_aim q_t_at0 v_t_hour v_t_chance v_t_seed w_t_kept w_t_tried v_t_at v_t_token v_t_from v_t_figures v_t_fault q_t_told v_t_statements q_t_steps q_t_spot q_t_then v_t_now v_t_gone q_t_sights q_t_darkAt q_t_can), (q_t_refused, .inl (cy 0, 8, .inl n_t_refused)), (q_t_ways, .inl (cy 0, 12, .inl v_t_ways)), (q_t_steps, .inl (cy 0, 12, .inl n_t_steps))] t.heap) (va_A [(q_t, oX8 q_t_shelf q_t_rowSort q_t_rowSize q_t_rows q_t_moved q_t_shown q_t_tape v_t_tapeSize q_t_refused v_t_places q_t_ways v_t_people q_t_kind q_t_by q_t_home q_t_aim q_t_at0 v_t_hour v_t_chance v_t_seed w_t_kept w_t_tried v_t_at v_t_token v_t_from v_t_figures v_t_fault q_t_told v_t_statements q_t_steps q_t_spot q_t_then v_t_now v_t_gone q_t_sights q_t_darkAt q_t_can), (q_t_refused, .inl (cy 0, 8, .inl v_t_refused)), (q_t_ways, .inl (cy 0, 12, .inl v_t_ways)), (q_t_steps, .inl (cy 0, 12, .inl v_t_steps))] sz)) 0 0 (va_A [(q_t, oX8 q_t_shelf q_t_rowSort q_t_rowSize q_t_rows q_t_moved q_t_shown q_t_tape v_t_tapeSize q_t_refused v_t_places q_t_ways v_t_people q_t_kind q_t_by q_t_home q_t_aim q_t_at0 v_t_hour v_t_chance v_t_seed w_t_kept w_t_tried v_t_at v_t_token v_t_from v_t_figures v_t_fault q_t_told v_t_statements q_t_steps q_t_spot q_t_then v_t_now v_t_gone q_t_sights q_t_darkAt q_t_can), (q_t_refused, .inl (cy 0, 8, .inl v_t_refused)), (q_t_ways, .inl (cy 0, 12, .inl v_t_ways)), (q_t_steps, .inl (cy 0, 12, .inl v_t_steps))] sz) := by
  refine Met.ofW (cc := cX8_far) (maxL := 3) (ret := (some .int)) (by decide) rfl ?_
  intro p e s m args below meth c s₁ B hml hv
  obtain ⟨rfl, hsz, hP, hK, hD0⟩ := hv
  have hx := B.exec
  have hb := B.bytes
  have hr := B.returns
  have hts := atoms_spec (ws := wsX8_far) B.pre
  have hown : s.vm.findClass RX8 = some m.cls := findClass_of_methodNamed B.named
  have hlocks := B.notSynchronized
  subst hsz
  have hD := hD0.self (sz := s.heap.size)
  generalize hAe : va_A [(q_t, oX8 q_t_shelf q_t_rowSort q_t_rowSize q_t_rows q_t_moved q_t_shown q_t_tape v_t_tapeSize q_t_refused v_t_places q_t_ways v_t_people q_t_kind q_t_by q_t_home q_t_aim q_t_at0 v_t_hour v_t_chance v_t_seed w_t_kept w_t_tried v_t_at v_t_token v_t_from v_t_figures v_t_fault q_t_told v_t_statements q_t_steps q_t_spot q_t_then v_t_now v_t_gone q_t_sights q_t_darkAt q_t_can), (q_t_refused, .inl (cy 0, 8, .inl v_t_refused)), (q_t_ways, .inl (cy 0, 12, .inl v_t_ways)), (q_t_steps, .inl (cy 0, 12, .inl v_t_steps))] s.heap.size = A at hD ⊢
  have hA : ∀ q : Nat, s.heap.size ≤ q → A q := fun q h => by rw [← hAe]; exact Or.inr h
  have hS : va_S A s.heap s.heap [] := va_S.rf
  have hP : va_P D vwCl [(q_t, oX8 q_t_shelf q_t_rowSort q_t_rowSize q_t_rows q_t_moved q_t_shown q_t_tape v_t_tapeSize q_t_refused v_t_places q_t_ways v_t_people q_t_kind q_t_by q_t_home q_t_aim q_t_at0 v_t_hour v_t_chance v_t_seed w_t_kept w_t_tried v_t_at v_t_token v_t_from v_t_figures v_t_fault q_t_told v_t_statements q_t_steps q_t_spot q_t_then v_t_now v_t_gone q_t_sights q_t_darkAt q_t_can), (q_t_refused, .inl (cy 0, 8, .inl v_t_refused)), (q_t_ways, .inl (cy 0, 12, .inl v_t_ways)), (q_t_steps, .inl (cy 0, 12, .inl v_t_steps))] s.heap := hP
  have hinX8 : ∀ w ∈ u_ws RX8 TX8 37, w ∈ wsX8_far := by decide +kernel
  have hk68 := hts (.fieldLink RX8 68 "ShowsWhereNobodyIsModel" "steps" "[I") (by decide +kernel)
  have hl := lv_entry ([.ref q_t, .int p0, .int p1]) (n := 3) (Nat.le_of_ble_eq_true rfl)
  rw [lg_entry_eq]
  generalize (lg_sl ([.ref q_t, .int p0, .int p1]) ++ List.replicate (3 - (lg_sl ([.ref q_t, .int p0, .int p1])).length) Slot.unset).toArray = ls at hl ⊢
  have hl : lv_has ls 3 [(0, .ref q_t), (1, .int p0), (2, .int p1)] := hl
  unfold fX8_far at hf
  refine lv_aload_n hx hb dX8_far_0 rfl (lv_at hl 0 rfl) ?_
  refine lv_iload_n hx hb dX8_far_1 rfl (lv_at hl 1 rfl) ?_
  obtain ⟨r1, hr2, hf⟩ := boE1 hf
  have hPc := hP.sub (ws' := [(q_t, oX8 q_t_shelf q_t_rowSort q_t_rowSize q_t_rows q_t_moved q_t_shown q_t_tape v_t_tapeSize q_t_refused v_t_places q_t_ways v_t_people q_t_kind q_t_by q_t_home q_t_aim q_t_at0 v_t_hour v_t_chance v_t_seed w_t_kept w_t_tried v_t_at v_t_token v_t_from v_t_figures v_t_fault q_t_told v_t_statements q_t_steps q_t_spot q_t_then v_t_now v_t_gone q_t_sights q_t_darkAt q_t_can)]) [0] rfl
  refine xcSi (va_runV (As := [.int p0]) (rest := []) ⟨hx, hb, hml, hown, hts⟩ (mX8_isPlace l D cy q_t q_t_shelf q_t_rowSort q_t_rowSize q_t_rows q_t_moved q_t_shown q_t_tape q_t_refused q_t_ways q_t_kind q_t_by q_t_home q_t_aim q_t_at0 q_t_told q_t_steps q_t_spot q_t_then q_t_sights q_t_darkAt q_t_can v_t_tapeSize v_t_places v_t_people v_t_hour v_t_chance v_t_seed w_t_kept w_t_tried v_t_at v_t_token v_t_from v_t_figures v_t_fault v_t_statements v_t_now v_t_gone  p0 hr2) (cwV 1 hts gX8_far_X8_isPlace rfl rfl rfl (by decide +kernel) ⟨Nat.le_of_ble_eq_true rfl, Nat.le_of_ble_eq_true rfl⟩) (xPV hK hPc (ci := 8) (q0 := 0) rfl rfl) rfl rfl hl.1 rfl (lv_room (Nat.le_of_ble_eq_true rfl)) dX8_far_2 ⟨Nat.le_of_ble_eq_true rfl, Nat.le_of_ble_eq_true rfl⟩) ?_
  refine jww0 16 [] (fun  H locs ls => va_P D vwCl [(q_t, oX8 q_t_shelf q_t_rowSort q_t_rowSize q_t_rows q_t_moved q_t_shown q_t_tape v_t_tapeSize q_t_refused v_t_places q_t_ways v_t_people q_t_kind q_t_by q_t_home q_t_aim q_t_at0 v_t_hour v_t_chance v_t_seed w_t_kept w_t_tried v_t_at v_t_token v_t_from v_t_figures v_t_fault q_t_told v_t_statements q_t_steps q_t_spot q_t_then v_t_now v_t_gone q_t_sights q_t_darkAt q_t_can), (q_t_refused, .inl (cy 0, 8, .inl v_t_refused)), (q_t_ways, .inl (cy 0, 12, .inl v_t_ways)), (q_t_steps, .inl (cy 0, 12, .inl v_t_steps))] H ∧ va_D A [(q_t, oX8 q_t_shelf q_t_rowSort q_t_rowSize q_t_rows q_t_moved q_t_shown q_t_tape v_t_tapeSize q_t_refused v_t_places q_t_ways v_t_people q_t_kind q_t_by q_t_home q_t_aim q_t_at0 v_t_hour v_t_chance v_t_seed w_t_kept w_t_tried v_t_at v_t_token v_t_from v_t_figures v_t_fault q_t_told v_t_statements q_t_steps q_t_spot q_t_then v_t_now v_t_gone q_t_sights q_t_darkAt q_t_can), (q_t_refused, .inl (cy 0, 8, .inl v_t_refused)), (q_t_ways, .inl (cy 0, 12, .inl v_t_ways)), (q_t_steps, .inl (cy 0, 12, .inl v_t_steps))] ∧ va_S A s.heap H locs ∧ lv_has ls 3 [(0, .ref q_t)]) hf (fun  H locs ls hI hf => ?_) (fun k3 J16 hf => ?_)
  · obtain ⟨hP, hD, hS, hl⟩ := hI
    refine lv_aload_n hx hb dX8_far_16 rfl (lv_at hl 0 rfl) ?_
    refine lv_bipush (v := (-2)) hx hb dX8_far_17 (by decide) ?_
    obtain ⟨r4, u5, hr6, hf⟩ := boE2 hf
    have hPc := hP.sub (ws' := [(q_t, oX8 q_t_shelf q_t_rowSort q_t_rowSize q_t_rows q_t_moved q_t_shown q_t_tape v_t_tapeSize q_t_refused v_t_places q_t_ways v_t_people q_t_kind q_t_by q_t_home q_t_aim q_t_at0 v_t_hour v_t_chance v_t_seed w_t_kept w_t_tried v_t_at v_t_token v_t_from v_t_figures v_t_fault q_t_told v_t_statements q_t_steps q_t_spot q_t_then v_t_now v_t_gone q_t_sights q_t_darkAt q_t_can), (q_t_refused, .inl (cy 0, 8, .inl v_t_refused))]) [0, 1] rfl
    have hDc := hD.sub (ws' := [(q_t, oX8 q_t_shelf q_t_rowSort q_t_rowSize q_t_rows q_t_moved q_t_shown q_t_tape v_t_tapeSize q_t_refused v_t_places q_t_ways v_t_people q_t_kind q_t_by q_t_home q_t_aim q_t_at0 v_t_hour v_t_chance v_t_seed w_t_kept w_t_tried v_t_at v_t_token v_t_from v_t_figures v_t_fault q_t_told v_t_statements q_t_steps q_t_spot q_t_then v_t_now v_t_gone q_t_sights q_t_darkAt q_t_can), (q_t_refused, .inl (cy 0, 8, .inl v_t_refused))]) [0, 1] (by decide) rfl
    refine xcQi (w1 := [(q_t, oX8 q_t_shelf q_t_rowSort q_t_rowSize q_t_rows q_t_moved q_t_shown q_t_tape v_t_tapeSize q_t_refused v_t_places q_t_ways v_t_people q_t_kind q_t_by q_t_home q_t_aim q_t_at0 v_t_hour v_t_chance v_t_seed w_t_kept w_t_tried v_t_at v_t_token v_t_from v_t_figures v_t_fault q_t_told v_t_statements q_t_steps q_t_spot q_t_then v_t_now v_t_gone q_t_sights q_t_darkAt q_t_can), (q_t_refused, .inl (cy 0, 8, .inl u5))]) (va_runV (As := [.int (-2 : Int32)]) (rest := []) ⟨hx, hb, hml, hown, hts⟩ (mX8_refuse l D cy q_t q_t_shelf q_t_rowSort q_t_rowSize q_t_rows q_t_moved q_t_shown q_t_tape q_t_refused q_t_ways q_t_kind q_t_by q_t_home q_t_aim q_t_at0 q_t_told q_t_steps q_t_spot q_t_then q_t_sights q_t_darkAt q_t_can v_t_tapeSize v_t_places v_t_people v_t_hour v_t_chance v_t_seed w_t_kept w_t_tried v_t_at v_t_token v_t_from v_t_figures v_t_fault v_t_statements v_t_now v_t_gone v_t_refused _ (-2 : Int32) hr6) (cwV 1 hts gX8_far_X8_refuse rfl rfl rfl (by decide +kernel) ⟨Nat.le_of_ble_eq_true rfl, Nat.le_of_ble_eq_true rfl⟩) (xPVw hK hPc hDc (ci := 8) (q0 := 0) rfl rfl) rfl rfl hl.1 rfl (lv_room (Nat.le_of_ble_eq_true rfl)) dX8_far_19 ⟨Nat.le_of_ble_eq_true rfl, Nat.le_of_ble_eq_true rfl⟩) hP hD hS hA [0, 1] rfl rfl (fun H locs hP hD hS => ?_)
    have hP : va_P D vwCl [(q_t, oX8 q_t_shelf q_t_rowSort q_t_rowSize q_t_rows q_t_moved q_t_shown q_t_tape v_t_tapeSize q_t_refused v_t_places q_t_ways v_t_people q_t_kind q_t_by q_t_home q_t_aim q_t_at0 v_t_hour v_t_chance v_t_seed w_t_kept w_t_tried v_t_at v_t_token v_t_from v_t_figures v_t_fault q_t_told v_t_statements q_t_steps q_t_spot q_t_then v_t_now v_t_gone q_t_sights q_t_darkAt q_t_can), (q_t_refused, .inl (cy 0, 8, .inl u5)), (q_t_ways, .inl (cy 0, 12, .inl v_t_ways)), (q_t_steps, .inl (cy 0, 12, .inl v_t_steps))] H := hP
    have hD : va_D A [(q_t, oX8 q_t_shelf q_t_rowSort q_t_rowSize q_t_rows q_t_moved q_t_shown q_t_tape v_t_tapeSize q_t_refused v_t_places q_t_ways v_t_people q_t_kind q_t_by q_t_home q_t_aim q_t_at0 v_t_hour v_t_chance v_t_seed w_t_kept w_t_tried v_t_at v_t_token v_t_from v_t_figures v_t_fault q_t_told v_t_statements q_t_steps q_t_spot q_t_then v_t_now v_t_gone q_t_sights q_t_darkAt q_t_can), (q_t_refused, .inl (cy 0, 8, .inl u5)), (q_t_ways, .inl (cy 0, 12, .inl v_t_ways)), (q_t_steps, .inl (cy 0, 12, .inl v_t_steps))] := hD
    cases hf
    exact W.iret hx hb hr (fun t ht hW => ⟨⟨_, (), rfl, rfl, xend ht hP⟩, hS.F ht⟩) hS.2.2 dX8_far_22
  · refine lv_if_eq (tgt := 16) hx hb dX8_far_5 (by decide) (fun c13 => ?_) (fun c13 => ?_)
    · have hf := ifT hf c13
      clear c13
      exact J16 _ _ ls ⟨hP, hD, hS, lv_sub hl [0] rfl⟩ hf
    · have hf := ifF hf c13
      clear c13
      refine lv_aload_n hx hb dX8_far_8 rfl (lv_at hl 0 rfl) ?_
      refine lv_iload_n hx hb dX8_far_9 rfl (lv_at hl 2 rfl) ?_
      obtain ⟨r7, hr8, hf⟩ := boE1 hf
      have hPc := hP.sub (ws' := [(q_t, oX8 q_t_shelf q_t_rowSort q_t_rowSize q_t_rows q_t_moved q_t_shown q_t_tape v_t_tapeSize q_t_refused v_t_places q_t_ways v_t_people q_t_kind q_t_by q_t_home q_t_aim q_t_at0 v_t_hour v_t_chance v_t_seed w_t_kept w_t_tried v_t_at v_t_token v_t_from v_t_figures v_t_fault q_t_told v_t_statements q_t_steps q_t_spot q_t_then v_t_now v_t_gone q_t_sights q_t_darkAt q_t_can)]) [0] rfl
      refine xcSi (va_runV (As := [.int p1]) (rest := []) ⟨hx, hb, hml, hown, hts⟩ (mX8_isPlace l D cy q_t q_t_shelf q_t_rowSort q_t_rowSize q_t_rows q_t_moved q_t_shown q_t_tape q_t_refused q_t_ways q_t_kind q_t_by q_t_home q_t_aim q_t_at0 q_t_told q_t_steps q_t_spot q_t_then q_t_sights q_t_darkAt q_t_can v_t_tapeSize v_t_places v_t_people v_t_hour v_t_chance v_t_seed w_t_kept w_t_tried v_t_at v_t_token v_t_from v_t_figures v_t_fault v_t_statements v_t_now v_t_gone  p1 hr8) (cwV 1 hts gX8_far_X8_isPlace rfl rfl rfl (by decide +kernel) ⟨Nat.le_of_ble_eq_true rfl, Nat.le_of_ble_eq_true rfl⟩) (xPV hK hPc (ci := 8) (q0 := 0) rfl rfl) rfl rfl hl.1 rfl (lv_room (Nat.le_of_ble_eq_true rfl)) dX8_far_10 ⟨Nat.le_of_ble_eq_true rfl, Nat.le_of_ble_eq_true rfl⟩) ?_
      refine lv_if_ne (tgt := 23) hx hb dX8_far_13 (by decide) (fun c12 => ?_) (fun c12 => ?_)
      · have hf := ifF hf c12
        clear c12
        refine lv_aload_n hx hb dX8_far_23 rfl (lv_at hl 0 rfl) ?_
        refine lv_iload_n hx hb dX8_far_24 rfl (lv_at hl 1 rfl) ?_
        obtain ⟨u9, hr10, hf⟩ := boE1 hf
        have hPc := hP.sub (ws' := [(q_t, oX8 q_t_shelf q_t_rowSort q_t_rowSize q_t_rows q_t_moved q_t_shown q_t_tape v_t_tapeSize q_t_refused v_t_places q_t_ways v_t_people q_t_kind q_t_by q_t_home q_t_aim q_t_at0 v_t_hour v_t_chance v_t_seed w_t_kept w_t_tried v_t_at v_t_token v_t_from v_t_figures v_t_fault q_t_told v_t_statements q_t_steps q_t_spot q_t_then v_t_now v_t_gone q_t_sights q_t_darkAt q_t_can), (q_t_ways, .inl (cy 0, 12, .inl v_t_ways)), (q_t_steps, .inl (cy 0, 12, .inl v_t_steps))]) [0, 2, 3] rfl
        have hDc := hD.sub (ws' := [(q_t, oX8 q_t_shelf q_t_rowSort q_t_rowSize q_t_rows q_t_moved q_t_shown q_t_tape v_t_tapeSize q_t_refused v_t_places q_t_ways v_t_people q_t_kind q_t_by q_t_home q_t_aim q_t_at0 v_t_hour v_t_chance v_t_seed w_t_kept w_t_tried v_t_at v_t_token v_t_from v_t_figures v_t_fault q_t_told v_t_statements q_t_steps q_t_spot q_t_then v_t_now v_t_gone q_t_sights q_t_darkAt q_t_can), (q_t_ways, .inl (cy 0, 12, .inl v_t_ways)), (q_t_steps, .inl (cy 0, 12, .inl v_t_steps))]) [0, 2, 3] (by decide) rfl
        refine xcQv (w1 := [(q_t, oX8 q_t_shelf q_t_rowSort q_t_rowSize q_t_rows q_t_moved q_t_shown q_t_tape v_t_tapeSize q_t_refused v_t_places q_t_ways v_t_people q_t_kind q_t_by q_t_home q_t_aim q_t_at0 v_t_hour v_t_chance v_t_seed w_t_kept w_t_tried v_t_at v_t_token v_t_from v_t_figures v_t_fault q_t_told v_t_statements q_t_steps q_t_spot q_t_then v_t_now v_t_gone q_t_sights q_t_darkAt q_t_can), (q_t_ways, .inl (cy 0, 12, .inl v_t_ways)), (q_t_steps, .inl (cy 0, 12, .inl u9))]) (va_runV (As := [.int p0]) (rest := []) ⟨hx, hb, hml, hown, hts⟩ (mX8_findFar l D cy q_t q_t_shelf q_t_rowSort q_t_rowSize q_t_rows q_t_moved q_t_shown q_t_tape q_t_refused q_t_ways q_t_kind q_t_by q_t_home q_t_aim q_t_at0 q_t_told q_t_steps q_t_spot q_t_then q_t_sights q_t_darkAt q_t_can v_t_tapeSize v_t_places v_t_people v_t_hour v_t_chance v_t_seed w_t_kept w_t_tried v_t_at v_t_token v_t_from v_t_figures v_t_fault v_t_statements v_t_now v_t_gone v_t_ways v_t_steps _ p0 hr10) (cwV 1 hts gX8_far_X8_findFar rfl rfl rfl (by decide +kernel) ⟨Nat.le_of_ble_eq_true rfl, Nat.le_of_ble_eq_true rfl⟩) (xPVw hK hPc hDc (ci := 8) (q0 := 0) rfl rfl) rfl rfl hl.1 rfl (lv_room (Nat.le_of_ble_eq_true rfl)) dX8_far_25 ⟨Nat.le_of_ble_eq_true rfl, Nat.le_of_ble_eq_true rfl⟩) hP hD hS hA [0, 2, 3] rfl rfl (fun H locs hP hD hS => ?_)
        have hP : va_P D vwCl [(q_t, oX8 q_t_shelf q_t_rowSort q_t_rowSize q_t_rows q_t_moved q_t_shown q_t_tape v_t_tapeSize q_t_refused v_t_places q_t_ways v_t_people q_t_kind q_t_by q_t_home q_t_aim q_t_at0 v_t_hour v_t_chance v_t_seed w_t_kept w_t_tried v_t_at v_t_token v_t_from v_t_figures v_t_fault q_t_told v_t_statements q_t_steps q_t_spot q_t_then v_t_now v_t_gone q_t_sights q_t_darkAt q_t_can), (q_t_refused, .inl (cy 0, 8, .inl v_t_refused)), (q_t_ways, .inl (cy 0, 12, .inl v_t_ways)), (q_t_steps, .inl (cy 0, 12, .inl u9))] H := hP
        have hD : va_D A [(q_t, oX8 q_t_shelf q_t_rowSort q_t_rowSize q_t_rows q_t_moved q_t_shown q_t_tape v_t_tapeSize q_t_refused v_t_places q_t_ways v_t_people q_t_kind q_t_by q_t_home q_t_aim q_t_at0 v_t_hour v_t_chance v_t_seed w_t_kept w_t_tried v_t_at v_t_token v_t_from v_t_figures v_t_fault q_t_told v_t_statements q_t_steps q_t_spot q_t_then v_t_now v_t_gone q_t_sights q_t_darkAt q_t_can), (q_t_refused, .inl (cy 0, 8, .inl v_t_refused)), (q_t_ways, .inl (cy 0, 12, .inl v_t_ways)), (q_t_steps, .inl (cy 0, 12, .inl u9))] := hD
        refine lv_aload_n hx hb dX8_far_28 rfl (lv_at hl 0 rfl) ?_
        refine va_get (D := D) (ci := 8) (v := .ref q_t_steps) (C := RX8) (T := TX8) (N := 37) hx hb hts hinX8 hown hK.1 hP 0 rfl rfl 29 (by decide) hk68 (fun _ h9 => h9) rfl dX8_far_29 ?_
        refine lv_iload_n hx hb dX8_far_32 rfl (lv_at hl 2 rfl) ?_
        obtain ⟨hi11, hf⟩ := ckE hf
        refine va_iald hx hb hK.1 hP 3 0 rfl rfl hi11 dX8_far_33 ?_
        cases hf
        exact W.iret hx hb hr (fun t ht hW => ⟨⟨_, (), rfl, rfl, xend ht hP⟩, hS.F ht⟩) hS.2.2 dX8_far_34
      · have hf := ifT hf c12
        clear c12
        exact J16 _ _ ls ⟨hP, hD, hS, lv_sub hl [0] rfl⟩ hf
def fX8_reach (v_t_places : Int32) (v_t_refused : Nat → Int32) (v_t_ways : Nat → Int32) (v_t_steps : Nat → Int32) (p0 : Int32) (p1 : Int32) : Option (Int32 × (Nat → Int32) × (Nat → Int32)) :=
  bo1 (fX8_isPlace v_t_places p0) fun r1 =>
  jo0 (
    bo2 (fX8_refuse v_t_refused (-2 : Int32)) fun r4 u5 =>
    some (r4, u5, v_t_steps)) fun k3 =>
  if r1 = 0 then
    k3
  else
    bo1 (fX8_in p1.toInt64 (0 : Int64) (12 : Int64)) fun r7 =>
    if r7 = 0 then
      k3
    else
      bo1 (fX8_findFar v_t_places v_t_ways v_t_steps p0) fun u9 =>
      lo2 (fun g13 (x11 : Int32) (x12 : Int32) =>
        if v_t_places ≤ x12 then
          some (x11, v_t_refused, u9)
        else
          if x12 < 0 ∨ 12 ≤ x12.toNatClampNeg then none else
          bo1 (fX8_in ((u9 x12.toNatClampNeg).toInt64) (0 : Int64) p1.toInt64) fun r15 =>
          jo1 (fun (y17 : Int32) =>
            vlet (x11 + y17) fun x19 =>
            vlet (x12 + (1 : Int32)) fun x20 =>
            g13 x19 x20) fun k18 =>
          if r15 = 0 then
            k18 (0 : Int32)
          else
            k18 (1 : Int32)) 400 (0 : Int32) (0 : Int32)
set_option maxHeartbeats 4000000 in
set_option maxRecDepth 100000 in
theorem mX8_reach (l : Launch) (D : va_G) (cy : Nat → ClassId) (q_t q_t_shelf q_t_rowSort q_t_rowSize q_t_rows q_t_moved q_t_shown q_t_tape q_t_refused q_t_ways q_t_kind q_t_by q_t_home q_t_aim q_t_at0 q_t_told q_t_steps q_t_spot q_t_then q_t_sights q_t_darkAt q_t_can : Nat) (v_t_tapeSize : Int32) (v_t_places : Int32) (v_t_people : Int32) (v_t_hour : Int32) (v_t_chance : Int32) (v_t_seed : Int32) (w_t_kept : Value) (w_t_tried : Value) (v_t_at : Int32) (v_t_token : Int32) (v_t_from : Int32) (v_t_figures : Int32) (v_t_fault : Int32) (v_t_statements : Int32) (v_t_now : Int32) (v_t_gone : Int32) (v_t_refused : Nat → Int32) (v_t_ways : Nat → Int32) (v_t_steps : Nat → Int32) (sz : Nat) (p0 : Int32) (p1 : Int32) {r_ : Int32} {n_t_refused : Nat → Int32} {n_t_steps : Nat → Int32} (hf : fX8_reach v_t_places v_t_refused v_t_ways v_t_steps p0 p1 = some (r_, n_t_refused, n_t_steps)) : Met l yX8_reach wsX8_reach ({ frames := 2, cells := 0, slots := 0, locals := 46 }) (va_Pc [.ref q_t, .int p0, .int p1] (fun U => U.heap.size = sz ∧ va_P D vwCl [(q_t, oX8 q_t_shelf q_t_rowSort q_t_rowSize q_t_rows q_t_moved q_t_shown q_t_tape v_t_tapeSize q_t_refused v_t_places q_t_ways v_t_people q_t_kind q_t_by q_t_home q_t_aim q_t_at0 v_t_hour v_t_chance v_t_seed w_t_kept w_t_tried v_t_at v_t_token v_t_from v_t_figures v_t_fault q_t_told v_t_statements q_t_steps q_t_spot q_t_then v_t_now v_t_gone q_t_sights q_t_darkAt q_t_can), (q_t_refused, .inl (cy 0, 8, .inl v_t_refused)), (q_t_ways, .inl (cy 0, 12, .inl v_t_ways)), (q_t_steps, .inl (cy 0, 12, .inl v_t_steps))] U.heap ∧ xK D cy U ∧ va_D (fun _ => True) [(q_t, oX8 q_t_shelf q_t_rowSort q_t_rowSize q_t_rows q_t_moved q_t_shown q_t_tape v_t_tapeSize q_t_refused v_t_places q_t_ways v_t_people q_t_kind q_t_by q_t_home q_t_aim q_t_at0 v_t_hour v_t_chance v_t_seed w_t_kept w_t_tried v_t_at v_t_token v_t_from v_t_figures v_t_fault q_t_told v_t_statements q_t_steps q_t_spot q_t_then v_t_now v_t_gone q_t_sights q_t_darkAt q_t_can), (q_t_refused, .inl (cy 0, 8, .inl v_t_refused)), (q_t_ways, .inl (cy 0, 12, .inl v_t_ways)), (q_t_steps, .inl (cy 0, 12, .inl v_t_steps))])) (va_Qi (fun (x : Int32) (_ : Unit) => x = r_) (fun _ t => va_P D vwCl [(q_t, oX8 q_t_shelf q_t_rowSort q_t_rowSize q_t_rows q_t_moved q_t_shown q_t_tape v_t_tapeSize q_t_refused v_t_places q_t_ways v_t_people q_t_kind q_t_by q_t_home q_t_aim q_t_at0 v_t_hour v_t_chance v_t_seed w_t_kept w_t_tried v_t_at v_t_token v_t_from v_t_figures v_t_fault q_t_told v_t_statements q_t_steps q_t_spot q_t_then v_t_now v_t_gone q_t_sights q_t_darkAt q_t_can), (q_t_refused, .inl (cy 0, 8, .inl n_t_refused)), (q_t_ways, .inl (cy 0, 12, .inl v_t_ways)), (q_t_steps, .inl (cy 0, 12, .inl n_t_steps))] t.heap) (va_A [(q_t, oX8 q_t_shelf q_t_rowSort q_t_rowSize q_t_rows q_t_moved q_t_shown q_t_tape v_t_tapeSize q_t_refused v_t_places q_t_ways v_t_people q_t_kind q_t_by q_t_home q_t_aim q_t_at0 v_t_hour v_t_chance v_t_seed w_t_kept w_t_tried v_t_at v_t_token v_t_from v_t_figures v_t_fault q_t_told v_t_statements q_t_steps q_t_spot q_t_then v_t_now v_t_gone q_t_sights q_t_darkAt q_t_can), (q_t_refused, .inl (cy 0, 8, .inl v_t_refused)), (q_t_ways, .inl (cy 0, 12, .inl v_t_ways)), (q_t_steps, .inl (cy 0, 12, .inl v_t_steps))] sz)) 0 0 (va_A [(q_t, oX8 q_t_shelf q_t_rowSort q_t_rowSize q_t_rows q_t_moved q_t_shown q_t_tape v_t_tapeSize q_t_refused v_t_places q_t_ways v_t_people q_t_kind q_t_by q_t_home q_t_aim q_t_at0 v_t_hour v_t_chance v_t_seed w_t_kept w_t_tried v_t_at v_t_token v_t_from v_t_figures v_t_fault q_t_told v_t_statements q_t_steps q_t_spot q_t_then v_t_now v_t_gone q_t_sights q_t_darkAt q_t_can), (q_t_refused, .inl (cy 0, 8, .inl v_t_refused)), (q_t_ways, .inl (cy 0, 12, .inl v_t_ways)), (q_t_steps, .inl (cy 0, 12, .inl v_t_steps))] sz) := by
  refine Met.ofW (cc := cX8_reach) (maxL := 5) (ret := (some .int)) (by decide) rfl ?_
  intro p e s m args below meth c s₁ B hml hv
  obtain ⟨rfl, hsz, hP, hK, hD0⟩ := hv
  have hx := B.exec
  have hb := B.bytes
  have hr := B.returns
  have hts := atoms_spec (ws := wsX8_reach) B.pre
  have hown : s.vm.findClass RX8 = some m.cls := findClass_of_methodNamed B.named
  have hlocks := B.notSynchronized
  subst hsz
  have hD := hD0.self (sz := s.heap.size)
  generalize hAe : va_A [(q_t, oX8 q_t_shelf q_t_rowSort q_t_rowSize q_t_rows q_t_moved q_t_shown q_t_tape v_t_tapeSize q_t_refused v_t_places q_t_ways v_t_people q_t_kind q_t_by q_t_home q_t_aim q_t_at0 v_t_hour v_t_chance v_t_seed w_t_kept w_t_tried v_t_at v_t_token v_t_from v_t_figures v_t_fault q_t_told v_t_statements q_t_steps q_t_spot q_t_then v_t_now v_t_gone q_t_sights q_t_darkAt q_t_can), (q_t_refused, .inl (cy 0, 8, .inl v_t_refused)), (q_t_ways, .inl (cy 0, 12, .inl v_t_ways)), (q_t_steps, .inl (cy 0, 12, .inl v_t_steps))] s.heap.size = A at hD ⊢
  have hA : ∀ q : Nat, s.heap.size ≤ q → A q := fun q h => by rw [← hAe]; exact Or.inr h
  have hS : va_S A s.heap s.heap [] := va_S.rf
  have hP : va_P D vwCl [(q_t, oX8 q_t_shelf q_t_rowSort q_t_rowSize q_t_rows q_t_moved q_t_shown q_t_tape v_t_tapeSize q_t_refused v_t_places q_t_ways v_t_people q_t_kind q_t_by q_t_home q_t_aim q_t_at0 v_t_hour v_t_chance v_t_seed w_t_kept w_t_tried v_t_at v_t_token v_t_from v_t_figures v_t_fault q_t_told v_t_statements q_t_steps q_t_spot q_t_then v_t_now v_t_gone q_t_sights q_t_darkAt q_t_can), (q_t_refused, .inl (cy 0, 8, .inl v_t_refused)), (q_t_ways, .inl (cy 0, 12, .inl v_t_ways)), (q_t_steps, .inl (cy 0, 12, .inl v_t_steps))] s.heap := hP
  have hc131 := hts (.constantLong RX8 131 (12)) (by decide +kernel)
  have hinX8 : ∀ w ∈ u_ws RX8 TX8 37, w ∈ wsX8_reach := by decide +kernel
  have hk37 := hts (.fieldLink RX8 37 "ShowsWhereNobodyIsModel" "places" "I") (by decide +kernel)
  have hk68 := hts (.fieldLink RX8 68 "ShowsWhereNobodyIsModel" "steps" "[I") (by decide +kernel)
  have hl := lv_entry ([.ref q_t, .int p0, .int p1]) (n := 5) (Nat.le_of_ble_eq_true rfl)
  rw [lg_entry_eq]
  generalize (lg_sl ([.ref q_t, .int p0, .int p1]) ++ List.replicate (5 - (lg_sl ([.ref q_t, .int p0, .int p1])).length) Slot.unset).toArray = ls at hl ⊢
  have hl : lv_has ls 5 [(0, .ref q_t), (1, .int p0), (2, .int p1)] := hl
  unfold fX8_reach at hf
  refine lv_aload_n hx hb dX8_reach_0 rfl (lv_at hl 0 rfl) ?_
  refine lv_iload_n hx hb dX8_reach_1 rfl (lv_at hl 1 rfl) ?_
  obtain ⟨r1, hr2, hf⟩ := boE1 hf
  have hPc := hP.sub (ws' := [(q_t, oX8 q_t_shelf q_t_rowSort q_t_rowSize q_t_rows q_t_moved q_t_shown q_t_tape v_t_tapeSize q_t_refused v_t_places q_t_ways v_t_people q_t_kind q_t_by q_t_home q_t_aim q_t_at0 v_t_hour v_t_chance v_t_seed w_t_kept w_t_tried v_t_at v_t_token v_t_from v_t_figures v_t_fault q_t_told v_t_statements q_t_steps q_t_spot q_t_then v_t_now v_t_gone q_t_sights q_t_darkAt q_t_can)]) [0] rfl
  refine xcSi (va_runV (As := [.int p0]) (rest := []) ⟨hx, hb, hml, hown, hts⟩ (mX8_isPlace l D cy q_t q_t_shelf q_t_rowSort q_t_rowSize q_t_rows q_t_moved q_t_shown q_t_tape q_t_refused q_t_ways q_t_kind q_t_by q_t_home q_t_aim q_t_at0 q_t_told q_t_steps q_t_spot q_t_then q_t_sights q_t_darkAt q_t_can v_t_tapeSize v_t_places v_t_people v_t_hour v_t_chance v_t_seed w_t_kept w_t_tried v_t_at v_t_token v_t_from v_t_figures v_t_fault v_t_statements v_t_now v_t_gone  p0 hr2) (cwV 1 hts gX8_reach_X8_isPlace rfl rfl rfl (by decide +kernel) ⟨Nat.le_of_ble_eq_true rfl, Nat.le_of_ble_eq_true rfl⟩) (xPV hK hPc (ci := 8) (q0 := 0) rfl rfl) rfl rfl hl.1 rfl (lv_room (Nat.le_of_ble_eq_true rfl)) dX8_reach_2 ⟨Nat.le_of_ble_eq_true rfl, Nat.le_of_ble_eq_true rfl⟩) ?_
  refine jww0 20 [] (fun  H locs ls => va_P D vwCl [(q_t, oX8 q_t_shelf q_t_rowSort q_t_rowSize q_t_rows q_t_moved q_t_shown q_t_tape v_t_tapeSize q_t_refused v_t_places q_t_ways v_t_people q_t_kind q_t_by q_t_home q_t_aim q_t_at0 v_t_hour v_t_chance v_t_seed w_t_kept w_t_tried v_t_at v_t_token v_t_from v_t_figures v_t_fault q_t_told v_t_statements q_t_steps q_t_spot q_t_then v_t_now v_t_gone q_t_sights q_t_darkAt q_t_can), (q_t_refused, .inl (cy 0, 8, .inl v_t_refused)), (q_t_ways, .inl (cy 0, 12, .inl v_t_ways)), (q_t_steps, .inl (cy 0, 12, .inl v_t_steps))] H ∧ va_D A [(q_t, oX8 q_t_shelf q_t_rowSort q_t_rowSize q_t_rows q_t_moved q_t_shown q_t_tape v_t_tapeSize q_t_refused v_t_places q_t_ways v_t_people q_t_kind q_t_by q_t_home q_t_aim q_t_at0 v_t_hour v_t_chance v_t_seed w_t_kept w_t_tried v_t_at v_t_token v_t_from v_t_figures v_t_fault q_t_told v_t_statements q_t_steps q_t_spot q_t_then v_t_now v_t_gone q_t_sights q_t_darkAt q_t_can), (q_t_refused, .inl (cy 0, 8, .inl v_t_refused)), (q_t_ways, .inl (cy 0, 12, .inl v_t_ways)), (q_t_steps, .inl (cy 0, 12, .inl v_t_steps))] ∧ va_S A s.heap H locs ∧ lv_has ls 5 [(0, .ref q_t)]) hf (fun  H locs ls hI hf => ?_) (fun k3 J20 hf => ?_)
  · obtain ⟨hP, hD, hS, hl⟩ := hI
    refine lv_aload_n hx hb dX8_reach_20 rfl (lv_at hl 0 rfl) ?_
    refine lv_bipush (v := (-2)) hx hb dX8_reach_21 (by decide) ?_
    obtain ⟨r4, u5, hr6, hf⟩ := boE2 hf
    have hPc := hP.sub (ws' := [(q_t, oX8 q_t_shelf q_t_rowSort q_t_rowSize q_t_rows q_t_moved q_t_shown q_t_tape v_t_tapeSize q_t_refused v_t_places q_t_ways v_t_people q_t_kind q_t_by q_t_home q_t_aim q_t_at0 v_t_hour v_t_chance v_t_seed w_t_kept w_t_tried v_t_at v_t_token v_t_from v_t_figures v_t_fault q_t_told v_t_statements q_t_steps q_t_spot q_t_then v_t_now v_t_gone q_t_sights q_t_darkAt q_t_can), (q_t_refused, .inl (cy 0, 8, .inl v_t_refused))]) [0, 1] rfl
    have hDc := hD.sub (ws' := [(q_t, oX8 q_t_shelf q_t_rowSort q_t_rowSize q_t_rows q_t_moved q_t_shown q_t_tape v_t_tapeSize q_t_refused v_t_places q_t_ways v_t_people q_t_kind q_t_by q_t_home q_t_aim q_t_at0 v_t_hour v_t_chance v_t_seed w_t_kept w_t_tried v_t_at v_t_token v_t_from v_t_figures v_t_fault q_t_told v_t_statements q_t_steps q_t_spot q_t_then v_t_now v_t_gone q_t_sights q_t_darkAt q_t_can), (q_t_refused, .inl (cy 0, 8, .inl v_t_refused))]) [0, 1] (by decide) rfl
    refine xcQi (w1 := [(q_t, oX8 q_t_shelf q_t_rowSort q_t_rowSize q_t_rows q_t_moved q_t_shown q_t_tape v_t_tapeSize q_t_refused v_t_places q_t_ways v_t_people q_t_kind q_t_by q_t_home q_t_aim q_t_at0 v_t_hour v_t_chance v_t_seed w_t_kept w_t_tried v_t_at v_t_token v_t_from v_t_figures v_t_fault q_t_told v_t_statements q_t_steps q_t_spot q_t_then v_t_now v_t_gone q_t_sights q_t_darkAt q_t_can), (q_t_refused, .inl (cy 0, 8, .inl u5))]) (va_runV (As := [.int (-2 : Int32)]) (rest := []) ⟨hx, hb, hml, hown, hts⟩ (mX8_refuse l D cy q_t q_t_shelf q_t_rowSort q_t_rowSize q_t_rows q_t_moved q_t_shown q_t_tape q_t_refused q_t_ways q_t_kind q_t_by q_t_home q_t_aim q_t_at0 q_t_told q_t_steps q_t_spot q_t_then q_t_sights q_t_darkAt q_t_can v_t_tapeSize v_t_places v_t_people v_t_hour v_t_chance v_t_seed w_t_kept w_t_tried v_t_at v_t_token v_t_from v_t_figures v_t_fault v_t_statements v_t_now v_t_gone v_t_refused _ (-2 : Int32) hr6) (cwV 1 hts gX8_reach_X8_refuse rfl rfl rfl (by decide +kernel) ⟨Nat.le_of_ble_eq_true rfl, Nat.le_of_ble_eq_true rfl⟩) (xPVw hK hPc hDc (ci := 8) (q0 := 0) rfl rfl) rfl rfl hl.1 rfl (lv_room (Nat.le_of_ble_eq_true rfl)) dX8_reach_23 ⟨Nat.le_of_ble_eq_true rfl, Nat.le_of_ble_eq_true rfl⟩) hP hD hS hA [0, 1] rfl rfl (fun H locs hP hD hS => ?_)
    have hP : va_P D vwCl [(q_t, oX8 q_t_shelf q_t_rowSort q_t_rowSize q_t_rows q_t_moved q_t_shown q_t_tape v_t_tapeSize q_t_refused v_t_places q_t_ways v_t_people q_t_kind q_t_by q_t_home q_t_aim q_t_at0 v_t_hour v_t_chance v_t_seed w_t_kept w_t_tried v_t_at v_t_token v_t_from v_t_figures v_t_fault q_t_told v_t_statements q_t_steps q_t_spot q_t_then v_t_now v_t_gone q_t_sights q_t_darkAt q_t_can), (q_t_refused, .inl (cy 0, 8, .inl u5)), (q_t_ways, .inl (cy 0, 12, .inl v_t_ways)), (q_t_steps, .inl (cy 0, 12, .inl v_t_steps))] H := hP
    have hD : va_D A [(q_t, oX8 q_t_shelf q_t_rowSort q_t_rowSize q_t_rows q_t_moved q_t_shown q_t_tape v_t_tapeSize q_t_refused v_t_places q_t_ways v_t_people q_t_kind q_t_by q_t_home q_t_aim q_t_at0 v_t_hour v_t_chance v_t_seed w_t_kept w_t_tried v_t_at v_t_token v_t_from v_t_figures v_t_fault q_t_told v_t_statements q_t_steps q_t_spot q_t_then v_t_now v_t_gone q_t_sights q_t_darkAt q_t_can), (q_t_refused, .inl (cy 0, 8, .inl u5)), (q_t_ways, .inl (cy 0, 12, .inl v_t_ways)), (q_t_steps, .inl (cy 0, 12, .inl v_t_steps))] := hD
    cases hf
    exact W.iret hx hb hr (fun t ht hW => ⟨⟨_, (), rfl, rfl, xend ht hP⟩, hS.F ht⟩) hS.2.2 dX8_reach_26
  · refine lv_if_eq (tgt := 20) hx hb dX8_reach_5 (by decide) (fun c24 => ?_) (fun c24 => ?_)
    · have hf := ifT hf c24
      clear c24
      exact J20 _ _ ls ⟨hP, hD, hS, lv_sub hl [0] rfl⟩ hf
    · have hf := ifF hf c24
      clear c24
      refine lv_iload_n hx hb dX8_reach_8 rfl (lv_at hl 2 rfl) ?_
      refine lv_i2l hx hb dX8_reach_9 rfl ?_
      refine lv_lconst (v := 0) hx hb dX8_reach_10 (by decide) ?_
      refine lv_ldc2 hx hb hown hc131 dX8_reach_11 ?_
      obtain ⟨r7, hr8, hf⟩ := boE1 hf
      have hPc := hP.sub (ws' := []) [] rfl
      refine xcSi (va_runS (As := [.long p1.toInt64, .long (0 : Int64), .long (12 : Int64)]) (rest := []) ⟨hx, hb, hml, hown, hts⟩ (mX8_in l D cy    p1.toInt64 (0 : Int64) (12 : Int64) hr8) (va_cwS 3 hts gX8_reach_X8_in rfl rfl rfl (by decide +kernel) ⟨Nat.le_of_ble_eq_true rfl, Nat.le_of_ble_eq_true rfl⟩) (xPS hK hPc) rfl rfl hl.1 rfl (lv_room (Nat.le_of_ble_eq_true rfl)) dX8_reach_14 ⟨Nat.le_of_ble_eq_true rfl, Nat.le_of_ble_eq_true rfl⟩) ?_
      refine lv_if_ne (tgt := 27) hx hb dX8_reach_17 (by decide) (fun c23 => ?_) (fun c23 => ?_)
      · have hf := ifF hf c23
        clear c23
        refine lv_aload_n hx hb dX8_reach_27 rfl (lv_at hl 0 rfl) ?_
        refine lv_iload_n hx hb dX8_reach_28 rfl (lv_at hl 1 rfl) ?_
        obtain ⟨u9, hr10, hf⟩ := boE1 hf
        have hPc := hP.sub (ws' := [(q_t, oX8 q_t_shelf q_t_rowSort q_t_rowSize q_t_rows q_t_moved q_t_shown q_t_tape v_t_tapeSize q_t_refused v_t_places q_t_ways v_t_people q_t_kind q_t_by q_t_home q_t_aim q_t_at0 v_t_hour v_t_chance v_t_seed w_t_kept w_t_tried v_t_at v_t_token v_t_from v_t_figures v_t_fault q_t_told v_t_statements q_t_steps q_t_spot q_t_then v_t_now v_t_gone q_t_sights q_t_darkAt q_t_can), (q_t_ways, .inl (cy 0, 12, .inl v_t_ways)), (q_t_steps, .inl (cy 0, 12, .inl v_t_steps))]) [0, 2, 3] rfl
        have hDc := hD.sub (ws' := [(q_t, oX8 q_t_shelf q_t_rowSort q_t_rowSize q_t_rows q_t_moved q_t_shown q_t_tape v_t_tapeSize q_t_refused v_t_places q_t_ways v_t_people q_t_kind q_t_by q_t_home q_t_aim q_t_at0 v_t_hour v_t_chance v_t_seed w_t_kept w_t_tried v_t_at v_t_token v_t_from v_t_figures v_t_fault q_t_told v_t_statements q_t_steps q_t_spot q_t_then v_t_now v_t_gone q_t_sights q_t_darkAt q_t_can), (q_t_ways, .inl (cy 0, 12, .inl v_t_ways)), (q_t_steps, .inl (cy 0, 12, .inl v_t_steps))]) [0, 2, 3] (by decide) rfl
        refine xcQv (w1 := [(q_t, oX8 q_t_shelf q_t_rowSort q_t_rowSize q_t_rows q_t_moved q_t_shown q_t_tape v_t_tapeSize q_t_refused v_t_places q_t_ways v_t_people q_t_kind q_t_by q_t_home q_t_aim q_t_at0 v_t_hour v_t_chance v_t_seed w_t_kept w_t_tried v_t_at v_t_token v_t_from v_t_figures v_t_fault q_t_told v_t_statements q_t_steps q_t_spot q_t_then v_t_now v_t_gone q_t_sights q_t_darkAt q_t_can), (q_t_ways, .inl (cy 0, 12, .inl v_t_ways)), (q_t_steps, .inl (cy 0, 12, .inl u9))]) (va_runV (As := [.int p0]) (rest := []) ⟨hx, hb, hml, hown, hts⟩ (mX8_findFar l D cy q_t q_t_shelf q_t_rowSort q_t_rowSize q_t_rows q_t_moved q_t_shown q_t_tape q_t_refused q_t_ways q_t_kind q_t_by q_t_home q_t_aim q_t_at0 q_t_told q_t_steps q_t_spot q_t_then q_t_sights q_t_darkAt q_t_can v_t_tapeSize v_t_places v_t_people v_t_hour v_t_chance v_t_seed w_t_kept w_t_tried v_t_at v_t_token v_t_from v_t_figures v_t_fault v_t_statements v_t_now v_t_gone v_t_ways v_t_steps _ p0 hr10) (cwV 1 hts gX8_reach_X8_findFar rfl rfl rfl (by decide +kernel) ⟨Nat.le_of_ble_eq_true rfl, Nat.le_of_ble_eq_true rfl⟩) (xPVw hK hPc hDc (ci := 8) (q0 := 0) rfl rfl) rfl rfl hl.1 rfl (lv_room (Nat.le_of_ble_eq_true rfl)) dX8_reach_29 ⟨Nat.le_of_ble_eq_true rfl, Nat.le_of_ble_eq_true rfl⟩) hP hD hS hA [0, 2, 3] rfl rfl (fun H locs hP hD hS => ?_)
        have hP : va_P D vwCl [(q_t, oX8 q_t_shelf q_t_rowSort q_t_rowSize q_t_rows q_t_moved q_t_shown q_t_tape v_t_tapeSize q_t_refused v_t_places q_t_ways v_t_people q_t_kind q_t_by q_t_home q_t_aim q_t_at0 v_t_hour v_t_chance v_t_seed w_t_kept w_t_tried v_t_at v_t_token v_t_from v_t_figures v_t_fault q_t_told v_t_statements q_t_steps q_t_spot q_t_then v_t_now v_t_gone q_t_sights q_t_darkAt q_t_can), (q_t_refused, .inl (cy 0, 8, .inl v_t_refused)), (q_t_ways, .inl (cy 0, 12, .inl v_t_ways)), (q_t_steps, .inl (cy 0, 12, .inl u9))] H := hP
        have hD : va_D A [(q_t, oX8 q_t_shelf q_t_rowSort q_t_rowSize q_t_rows q_t_moved q_t_shown q_t_tape v_t_tapeSize q_t_refused v_t_places q_t_ways v_t_people q_t_kind q_t_by q_t_home q_t_aim q_t_at0 v_t_hour v_t_chance v_t_seed w_t_kept w_t_tried v_t_at v_t_token v_t_from v_t_figures v_t_fault q_t_told v_t_statements q_t_steps q_t_spot q_t_then v_t_now v_t_gone q_t_sights q_t_darkAt q_t_can), (q_t_refused, .inl (cy 0, 8, .inl v_t_refused)), (q_t_ways, .inl (cy 0, 12, .inl v_t_ways)), (q_t_steps, .inl (cy 0, 12, .inl u9))] := hD
        refine lv_iconst (v := 0) hx hb dX8_reach_32 (by decide) ?_
        refine lv_istore_n (lv' := [(3, .int (0 : Int32)), (0, .ref q_t), (1, .int p0), (2, .int p1)]) hx hb dX8_reach_33 rfl hl (by decide) rfl (fun ls hl => ?_)
        refine lv_iconst (v := 0) hx hb dX8_reach_34 (by decide) ?_
        refine lv_istore (lv' := [(4, .int (0 : Int32)), (3, .int (0 : Int32)), (0, .ref q_t), (1, .int p0), (2, .int p1)]) hx hb dX8_reach_35 hl (by decide) rfl (fun ls hl => ?_)
        refine wlw2 37 (fun _ _ => []) (fun (x11 : Int32) (x12 : Int32) H locs ls => va_P D vwCl [(q_t, oX8 q_t_shelf q_t_rowSort q_t_rowSize q_t_rows q_t_moved q_t_shown q_t_tape v_t_tapeSize q_t_refused v_t_places q_t_ways v_t_people q_t_kind q_t_by q_t_home q_t_aim q_t_at0 v_t_hour v_t_chance v_t_seed w_t_kept w_t_tried v_t_at v_t_token v_t_from v_t_figures v_t_fault q_t_told v_t_statements q_t_steps q_t_spot q_t_then v_t_now v_t_gone q_t_sights q_t_darkAt q_t_can), (q_t_refused, .inl (cy 0, 8, .inl v_t_refused)), (q_t_ways, .inl (cy 0, 12, .inl v_t_ways)), (q_t_steps, .inl (cy 0, 12, .inl u9))] H ∧ va_D A [(q_t, oX8 q_t_shelf q_t_rowSort q_t_rowSize q_t_rows q_t_moved q_t_shown q_t_tape v_t_tapeSize q_t_refused v_t_places q_t_ways v_t_people q_t_kind q_t_by q_t_home q_t_aim q_t_at0 v_t_hour v_t_chance v_t_seed w_t_kept w_t_tried v_t_at v_t_token v_t_from v_t_figures v_t_fault q_t_told v_t_statements q_t_steps q_t_spot q_t_then v_t_now v_t_gone q_t_sights q_t_darkAt q_t_can), (q_t_refused, .inl (cy 0, 8, .inl v_t_refused)), (q_t_ways, .inl (cy 0, 12, .inl v_t_ways)), (q_t_steps, .inl (cy 0, 12, .inl u9))] ∧ va_S A s.heap H locs ∧ lv_has ls 5 [(3, .int x11), (4, .int x12), (0, .ref q_t), (2, .int p1)]) (fun g13 L37 x11 x12 H locs ls hI hf => ?_) 400 (0 : Int32) (0 : Int32) _ _ ls ⟨hP, hD, hS, lv_sub hl [1, 0, 2, 4] rfl⟩ hf
        obtain ⟨hP, hD, hS, hl⟩ := hI
        refine lv_iload hx hb dX8_reach_37 (lv_at hl 1 rfl) ?_
        refine lv_aload_n hx hb dX8_reach_39 rfl (lv_at hl 2 rfl) ?_
        refine va_get (D := D) (ci := 8) (v := .int v_t_places) (C := RX8) (T := TX8) (N := 37) hx hb hts hinX8 hown hK.1 hP 0 rfl rfl 9 (by decide) hk37 (fun _ h9 => h9) rfl dX8_reach_40 ?_
        refine lv_icmp_ge (tgt := 77) hx hb dX8_reach_43 (by decide) (fun c22 => ?_) (fun c22 => ?_)
        · have hf := ifT hf c22
          clear c22
          refine lv_iload_n hx hb dX8_reach_77 rfl (lv_at hl 0 rfl) ?_
          cases hf
          exact W.iret hx hb hr (fun t ht hW => ⟨⟨_, (), rfl, rfl, xend ht hP⟩, hS.F ht⟩) hS.2.2 dX8_reach_78
        · have hf := ifF hf c22
          clear c22
          refine lv_iload_n hx hb dX8_reach_46 rfl (lv_at hl 0 rfl) ?_
          refine lv_aload_n hx hb dX8_reach_47 rfl (lv_at hl 2 rfl) ?_
          refine va_get (D := D) (ci := 8) (v := .ref q_t_steps) (C := RX8) (T := TX8) (N := 37) hx hb hts hinX8 hown hK.1 hP 0 rfl rfl 29 (by decide) hk68 (fun _ h9 => h9) rfl dX8_reach_48 ?_
          refine lv_iload hx hb dX8_reach_51 (lv_at hl 1 rfl) ?_
          obtain ⟨hi14, hf⟩ := ckE hf
          refine va_iald hx hb hK.1 hP 3 0 rfl rfl hi14 dX8_reach_53 ?_
          refine lv_i2l hx hb dX8_reach_54 rfl ?_
          refine lv_lconst (v := 0) hx hb dX8_reach_55 (by decide) ?_
          refine lv_iload_n hx hb dX8_reach_56 rfl (lv_at hl 3 rfl) ?_
          refine lv_i2l hx hb dX8_reach_57 rfl ?_
          obtain ⟨r15, hr16, hf⟩ := boE1 hf
          have hPc := hP.sub (ws' := []) [] rfl
          refine xcSi (va_runS (As := [.long ((u9 x12.toNatClampNeg).toInt64), .long (0 : Int64), .long p1.toInt64]) (rest := [.int x11]) ⟨hx, hb, hml, hown, hts⟩ (mX8_in l D cy    ((u9 x12.toNatClampNeg).toInt64) (0 : Int64) p1.toInt64 hr16) (va_cwS 3 hts gX8_reach_X8_in rfl rfl rfl (by decide +kernel) ⟨Nat.le_of_ble_eq_true rfl, Nat.le_of_ble_eq_true rfl⟩) (xPS hK hPc) rfl rfl hl.1 rfl (lv_room (Nat.le_of_ble_eq_true rfl)) dX8_reach_58 ⟨Nat.le_of_ble_eq_true rfl, Nat.le_of_ble_eq_true rfl⟩) ?_
          refine jww1 69 (fun (y17 : Int32) => [.int y17, .int x11]) (fun (y17 : Int32) H locs ls => va_P D vwCl [(q_t, oX8 q_t_shelf q_t_rowSort q_t_rowSize q_t_rows q_t_moved q_t_shown q_t_tape v_t_tapeSize q_t_refused v_t_places q_t_ways v_t_people q_t_kind q_t_by q_t_home q_t_aim q_t_at0 v_t_hour v_t_chance v_t_seed w_t_kept w_t_tried v_t_at v_t_token v_t_from v_t_figures v_t_fault q_t_told v_t_statements q_t_steps q_t_spot q_t_then v_t_now v_t_gone q_t_sights q_t_darkAt q_t_can), (q_t_refused, .inl (cy 0, 8, .inl v_t_refused)), (q_t_ways, .inl (cy 0, 12, .inl v_t_ways)), (q_t_steps, .inl (cy 0, 12, .inl u9))] H ∧ va_D A [(q_t, oX8 q_t_shelf q_t_rowSort q_t_rowSize q_t_rows q_t_moved q_t_shown q_t_tape v_t_tapeSize q_t_refused v_t_places q_t_ways v_t_people q_t_kind q_t_by q_t_home q_t_aim q_t_at0 v_t_hour v_t_chance v_t_seed w_t_kept w_t_tried v_t_at v_t_token v_t_from v_t_figures v_t_fault q_t_told v_t_statements q_t_steps q_t_spot q_t_then v_t_now v_t_gone q_t_sights q_t_darkAt q_t_can), (q_t_refused, .inl (cy 0, 8, .inl v_t_refused)), (q_t_ways, .inl (cy 0, 12, .inl v_t_ways)), (q_t_steps, .inl (cy 0, 12, .inl u9))] ∧ va_S A s.heap H locs ∧ lv_has ls 5 [(0, .ref q_t), (2, .int p1), (4, .int x12)]) hf (fun y17 H locs ls hI hf => ?_) (fun k18 J69 hf => ?_)
          · obtain ⟨hP, hD, hS, hl⟩ := hI
            refine lv_iadd hx hb dX8_reach_69 ?_
            refine lv_topi (fun x19 ex19 => ?_)
            have hf := vlE hf ex19
            clear ex19
            refine lv_istore_n (lv' := [(3, .int x19), (0, .ref q_t), (2, .int p1), (4, .int x12)]) hx hb dX8_reach_70 rfl hl (by decide) rfl (fun ls hl => ?_)
            obtain ⟨x20, ex20⟩ : ∃ y : Int32, y = x12 + (1 : Int32) := ⟨_, rfl⟩
            have hf := vlE hf ex20
            refine lv_iinc (v := x20) (lv' := [(4, .int x20), (3, .int x19), (0, .ref q_t), (2, .int p1)]) hx hb dX8_reach_71 hl (k := 3) rfl (by rw [ex20]; rfl) (by decide) rfl (fun ls hl => ?_)
            clear ex20
            refine lv_goto (tgt := 37) hx hb dX8_reach_74 (by decide) ?_
            exact L37 x19 x20 _ _ ls ⟨hP, hD, hS, lv_sub hl [1, 0, 2, 3] rfl⟩ hf
          · refine lv_if_eq (tgt := 68) hx hb dX8_reach_61 (by decide) (fun c21 => ?_) (fun c21 => ?_)
            · have hf := ifT hf c21
              clear c21
              refine lv_iconst (v := 0) hx hb dX8_reach_68 (by decide) ?_
              exact J69 (0 : Int32) _ _ ls ⟨hP, hD, hS, lv_sub hl [2, 3, 1] rfl⟩ hf
            · have hf := ifF hf c21
              clear c21
              refine lv_iconst (v := 1) hx hb dX8_reach_64 (by decide) ?_
              refine lv_goto (tgt := 69) hx hb dX8_reach_65 (by decide) ?_
              exact J69 (1 : Int32) _ _ ls ⟨hP, hD, hS, lv_sub hl [2, 3, 1] rfl⟩ hf
      · have hf := ifT hf c23
        clear c23
        exact J20 _ _ ls ⟨hP, hD, hS, lv_sub hl [0] rfl⟩ hf
def fX8_farthest (v_t_places : Int32) (v_t_refused : Nat → Int32) (v_t_ways : Nat → Int32) (v_t_steps : Nat → Int32) (p0 : Int32) : Option (Int32 × (Nat → Int32) × (Nat → Int32)) :=
  bo1 (fX8_isPlace v_t_places p0) fun r1 =>
  if r1 = 0 then
    bo2 (fX8_refuse v_t_refused (-2 : Int32)) fun r15 u16 =>
    some (r15, u16, v_t_steps)
  else
    bo1 (fX8_findFar v_t_places v_t_ways v_t_steps p0) fun u3 =>
    lo2 (fun g7 (x5 : Int32) (x6 : Int32) =>
      if v_t_places ≤ x6 then
        some (x5, v_t_refused, u3)
      else
        if x6 < 0 ∨ 12 ≤ x6.toNatClampNeg then none else
        if x5 < 0 ∨ 12 ≤ x5.toNatClampNeg then none else
        jo1 (fun (y10 : Int32) =>
          vlet (x6 + (1 : Int32)) fun x12 =>
          g7 y10 x12) fun k11 =>
        if (u3 x6.toNatClampNeg) ≤ (u3 x5.toNatClampNeg) then
          k11 x5
        else
          k11 x6) 400 p0 (0 : Int32)
set_option maxHeartbeats 4000000 in
set_option maxRecDepth 100000 in
theorem mX8_farthest (l : Launch) (D : va_G) (cy : Nat → ClassId) (q_t q_t_shelf q_t_rowSort q_t_rowSize q_t_rows q_t_moved q_t_shown q_t_tape q_t_refused q_t_ways q_t_kind q_t_by q_t_home q_t_aim q_t_at0 q_t_told q_t_steps q_t_spot q_t_then q_t_sights q_t_darkAt q_t_can : Nat) (v_t_tapeSize : Int32) (v_t_places : Int32) (v_t_people : Int32) (v_t_hour : Int32) (v_t_chance : Int32) (v_t_seed : Int32) (w_t_kept : Value) (w_t_tried : Value) (v_t_at : Int32) (v_t_token : Int32) (v_t_from : Int32) (v_t_figures : Int32) (v_t_fault : Int32) (v_t_statements : Int32) (v_t_now : Int32) (v_t_gone : Int32) (v_t_refused : Nat → Int32) (v_t_ways : Nat → Int32) (v_t_steps : Nat → Int32) (sz : Nat) (p0 : Int32) {r_ : Int32} {n_t_refused : Nat → Int32} {n_t_steps : Nat → Int32} (hf : fX8_farthest v_t_places v_t_refused v_t_ways v_t_steps p0 = some (r_, n_t_refused, n_t_steps)) : Met l yX8_farthest wsX8_farthest ({ frames := 2, cells := 0, slots := 0, locals := 46 }) (va_Pc [.ref q_t, .int p0] (fun U => U.heap.size = sz ∧ va_P D vwCl [(q_t, oX8 q_t_shelf q_t_rowSort q_t_rowSize q_t_rows q_t_moved q_t_shown q_t_tape v_t_tapeSize q_t_refused v_t_places q_t_ways v_t_people q_t_kind q_t_by q_t_home q_t_aim q_t_at0 v_t_hour v_t_chance v_t_seed w_t_kept w_t_tried v_t_at v_t_token v_t_from v_t_figures v_t_fault q_t_told v_t_statements q_t_steps q_t_spot q_t_then v_t_now v_t_gone q_t_sights q_t_darkAt q_t_can), (q_t_refused, .inl (cy 0, 8, .inl v_t_refused)), (q_t_ways, .inl (cy 0, 12, .inl v_t_ways)), (q_t_steps, .inl (cy 0, 12, .inl v_t_steps))] U.heap ∧ xK D cy U ∧ va_D (fun _ => True) [(q_t, oX8 q_t_shelf q_t_rowSort q_t_rowSize q_t_rows q_t_moved q_t_shown q_t_tape v_t_tapeSize q_t_refused v_t_places q_t_ways v_t_people q_t_kind q_t_by q_t_home q_t_aim q_t_at0 v_t_hour v_t_chance v_t_seed w_t_kept w_t_tried v_t_at v_t_token v_t_from v_t_figures v_t_fault q_t_told v_t_statements q_t_steps q_t_spot q_t_then v_t_now v_t_gone q_t_sights q_t_darkAt q_t_can), (q_t_refused, .inl (cy 0, 8, .inl v_t_refused)), (q_t_ways, .inl (cy 0, 12, .inl v_t_ways)), (q_t_steps, .inl (cy 0, 12, .inl v_t_steps))])) (va_Qi (fun (x : Int32) (_ : Unit) => x = r_) (fun _ t => va_P D vwCl [(q_t, oX8 q_t_shelf q_t_rowSort q_t_rowSize q_t_rows q_t_moved q_t_shown q_t_tape v_t_tapeSize q_t_refused v_t_places q_t_ways v_t_people q_t_kind q_t_by q_t_home q_t_aim q_t_at0 v_t_hour v_t_chance v_t_seed w_t_kept w_t_tried v_t_at v_t_token v_t_from v_t_figures v_t_fault q_t_told v_t_statements q_t_steps q_t_spot q_t_then v_t_now v_t_gone q_t_sights q_t_darkAt q_t_can), (q_t_refused, .inl (cy 0, 8, .inl n_t_refused)), (q_t_ways, .inl (cy 0, 12, .inl v_t_ways)), (q_t_steps, .inl (cy 0, 12, .inl n_t_steps))] t.heap) (va_A [(q_t, oX8 q_t_shelf q_t_rowSort q_t_rowSize q_t_rows q_t_moved q_t_shown q_t_tape v_t_tapeSize q_t_refused v_t_places q_t_ways v_t_people q_t_kind q_t_by q_t_home q_t_aim q_t_at0 v_t_hour v_t_chance v_t_seed w_t_kept w_t_tried v_t_at v_t_token v_t_from v_t_figures v_t_fault q_t_told v_t_statements q_t_steps q_t_spot q_t_then v_t_now v_t_gone q_t_sights q_t_darkAt q_t_can), (q_t_refused, .inl (cy 0, 8, .inl v_t_refused)), (q_t_ways, .inl (cy 0, 12, .inl v_t_ways)), (q_t_steps, .inl (cy 0, 12, .inl v_t_steps))] sz)) 0 0 (va_A [(q_t, oX8 q_t_shelf q_t_rowSort q_t_rowSize q_t_rows q_t_moved q_t_shown q_t_tape v_t_tapeSize q_t_refused v_t_places q_t_ways v_t_people q_t_kind q_t_by q_t_home q_t_aim q_t_at0 v_t_hour v_t_chance v_t_seed w_t_kept w_t_tried v_t_at v_t_token v_t_from v_t_figures v_t_fault q_t_told v_t_statements q_t_steps q_t_spot q_t_then v_t_now v_t_gone q_t_sights q_t_darkAt q_t_can), (q_t_refused, .inl (cy 0, 8, .inl v_t_refused)), (q_t_ways, .inl (cy 0, 12, .inl v_t_ways)), (q_t_steps, .inl (cy 0, 12, .inl v_t_steps))] sz) := by
  refine Met.ofW (cc := cX8_farthest) (maxL := 4) (ret := (some .int)) (by decide) rfl ?_
  intro p e s m args below meth c s₁ B hml hv
  obtain ⟨rfl, hsz, hP, hK, hD0⟩ := hv
  have hx := B.exec
  have hb := B.bytes
  have hr := B.returns
  have hts := atoms_spec (ws := wsX8_farthest) B.pre
  have hown : s.vm.findClass RX8 = some m.cls := findClass_of_methodNamed B.named
  have hlocks := B.notSynchronized
  subst hsz
  have hD := hD0.self (sz := s.heap.size)
  generalize hAe : va_A [(q_t, oX8 q_t_shelf q_t_rowSort q_t_rowSize q_t_rows q_t_moved q_t_shown q_t_tape v_t_tapeSize q_t_refused v_t_places q_t_ways v_t_people q_t_kind q_t_by q_t_home q_t_aim q_t_at0 v_t_hour v_t_chance v_t_seed w_t_kept w_t_tried v_t_at v_t_token v_t_from v_t_figures v_t_fault q_t_told v_t_statements q_t_steps q_t_spot q_t_then v_t_now v_t_gone q_t_sights q_t_darkAt q_t_can), (q_t_refused, .inl (cy 0, 8, .inl v_t_refused)), (q_t_ways, .inl (cy 0, 12, .inl v_t_ways)), (q_t_steps, .inl (cy 0, 12, .inl v_t_steps))] s.heap.size = A at hD ⊢
  have hA : ∀ q : Nat, s.heap.size ≤ q → A q := fun q h => by rw [← hAe]; exact Or.inr h
  have hS : va_S A s.heap s.heap [] := va_S.rf
  have hP : va_P D vwCl [(q_t, oX8 q_t_shelf q_t_rowSort q_t_rowSize q_t_rows q_t_moved q_t_shown q_t_tape v_t_tapeSize q_t_refused v_t_places q_t_ways v_t_people q_t_kind q_t_by q_t_home q_t_aim q_t_at0 v_t_hour v_t_chance v_t_seed w_t_kept w_t_tried v_t_at v_t_token v_t_from v_t_figures v_t_fault q_t_told v_t_statements q_t_steps q_t_spot q_t_then v_t_now v_t_gone q_t_sights q_t_darkAt q_t_can), (q_t_refused, .inl (cy 0, 8, .inl v_t_refused)), (q_t_ways, .inl (cy 0, 12, .inl v_t_ways)), (q_t_steps, .inl (cy 0, 12, .inl v_t_steps))] s.heap := hP
  have hinX8 : ∀ w ∈ u_ws RX8 TX8 37, w ∈ wsX8_farthest := by decide +kernel
  have hk37 := hts (.fieldLink RX8 37 "ShowsWhereNobodyIsModel" "places" "I") (by decide +kernel)
  have hk68 := hts (.fieldLink RX8 68 "ShowsWhereNobodyIsModel" "steps" "[I") (by decide +kernel)
  have hl := lv_entry ([.ref q_t, .int p0]) (n := 4) (Nat.le_of_ble_eq_true rfl)
  rw [lg_entry_eq]
  generalize (lg_sl ([.ref q_t, .int p0]) ++ List.replicate (4 - (lg_sl ([.ref q_t, .int p0])).length) Slot.unset).toArray = ls at hl ⊢
  have hl : lv_has ls 4 [(0, .ref q_t), (1, .int p0)] := hl
  unfold fX8_farthest at hf
  refine lv_aload_n hx hb dX8_farthest_0 rfl (lv_at hl 0 rfl) ?_
  refine lv_iload_n hx hb dX8_farthest_1 rfl (lv_at hl 1 rfl) ?_
  obtain ⟨r1, hr2, hf⟩ := boE1 hf
  have hPc := hP.sub (ws' := [(q_t, oX8 q_t_shelf q_t_rowSort q_t_rowSize q_t_rows q_t_moved q_t_shown q_t_tape v_t_tapeSize q_t_refused v_t_places q_t_ways v_t_people q_t_kind q_t_by q_t_home q_t_aim q_t_at0 v_t_hour v_t_chance v_t_seed w_t_kept w_t_tried v_t_at v_t_token v_t_from v_t_figures v_t_fault q_t_told v_t_statements q_t_steps q_t_spot q_t_then v_t_now v_t_gone q_t_sights q_t_darkAt q_t_can)]) [0] rfl
  refine xcSi (va_runV (As := [.int p0]) (rest := []) ⟨hx, hb, hml, hown, hts⟩ (mX8_isPlace l D cy q_t q_t_shelf q_t_rowSort q_t_rowSize q_t_rows q_t_moved q_t_shown q_t_tape q_t_refused q_t_ways q_t_kind q_t_by q_t_home q_t_aim q_t_at0 q_t_told q_t_steps q_t_spot q_t_then q_t_sights q_t_darkAt q_t_can v_t_tapeSize v_t_places v_t_people v_t_hour v_t_chance v_t_seed w_t_kept w_t_tried v_t_at v_t_token v_t_from v_t_figures v_t_fault v_t_statements v_t_now v_t_gone  p0 hr2) (cwV 1 hts gX8_farthest_X8_isPlace rfl rfl rfl (by decide +kernel) ⟨Nat.le_of_ble_eq_true rfl, Nat.le_of_ble_eq_true rfl⟩) (xPV hK hPc (ci := 8) (q0 := 0) rfl rfl) rfl rfl hl.1 rfl (lv_room (Nat.le_of_ble_eq_true rfl)) dX8_farthest_2 ⟨Nat.le_of_ble_eq_true rfl, Nat.le_of_ble_eq_true rfl⟩) ?_
  refine lv_if_ne (tgt := 15) hx hb dX8_farthest_5 (by decide) (fun c18 => ?_) (fun c18 => ?_)
  · have hf := ifF hf c18
    clear c18
    refine lv_aload_n hx hb dX8_farthest_15 rfl (lv_at hl 0 rfl) ?_
    refine lv_iload_n hx hb dX8_farthest_16 rfl (lv_at hl 1 rfl) ?_
    obtain ⟨u3, hr4, hf⟩ := boE1 hf
    have hPc := hP.sub (ws' := [(q_t, oX8 q_t_shelf q_t_rowSort q_t_rowSize q_t_rows q_t_moved q_t_shown q_t_tape v_t_tapeSize q_t_refused v_t_places q_t_ways v_t_people q_t_kind q_t_by q_t_home q_t_aim q_t_at0 v_t_hour v_t_chance v_t_seed w_t_kept w_t_tried v_t_at v_t_token v_t_from v_t_figures v_t_fault q_t_told v_t_statements q_t_steps q_t_spot q_t_then v_t_now v_t_gone q_t_sights q_t_darkAt q_t_can), (q_t_ways, .inl (cy 0, 12, .inl v_t_ways)), (q_t_steps, .inl (cy 0, 12, .inl v_t_steps))]) [0, 2, 3] rfl
    have hDc := hD.sub (ws' := [(q_t, oX8 q_t_shelf q_t_rowSort q_t_rowSize q_t_rows q_t_moved q_t_shown q_t_tape v_t_tapeSize q_t_refused v_t_places q_t_ways v_t_people q_t_kind q_t_by q_t_home q_t_aim q_t_at0 v_t_hour v_t_chance v_t_seed w_t_kept w_t_tried v_t_at v_t_token v_t_from v_t_figures v_t_fault q_t_told v_t_statements q_t_steps q_t_spot q_t_then v_t_now v_t_gone q_t_sights q_t_darkAt q_t_can), (q_t_ways, .inl (cy 0, 12, .inl v_t_ways)), (q_t_steps, .inl (cy 0, 12, .inl v_t_steps))]) [0, 2, 3] (by decide) rfl
    refine xcQv (w1 := [(q_t, oX8 q_t_shelf q_t_rowSort q_t_rowSize q_t_rows q_t_moved q_t_shown q_t_tape v_t_tapeSize q_t_refused v_t_places q_t_ways v_t_people q_t_kind q_t_by q_t_home q_t_aim q_t_at0 v_t_hour v_t_chance v_t_seed w_t_kept w_t_tried v_t_at v_t_token v_t_from v_t_figures v_t_fault q_t_told v_t_statements q_t_steps q_t_spot q_t_then v_t_now v_t_gone q_t_sights q_t_darkAt q_t_can), (q_t_ways, .inl (cy 0, 12, .inl v_t_ways)), (q_t_steps, .inl (cy 0, 12, .inl u3))]) (va_runV (As := [.int p0]) (rest := []) ⟨hx, hb, hml, hown, hts⟩ (mX8_findFar l D cy q_t q_t_shelf q_t_rowSort q_t_rowSize q_t_rows q_t_moved q_t_shown q_t_tape q_t_refused q_t_ways q_t_kind q_t_by q_t_home q_t_aim q_t_at0 q_t_told q_t_steps q_t_spot q_t_then q_t_sights q_t_darkAt q_t_can v_t_tapeSize v_t_places v_t_people v_t_hour v_t_chance v_t_seed w_t_kept w_t_tried v_t_at v_t_token v_t_from v_t_figures v_t_fault v_t_statements v_t_now v_t_gone v_t_ways v_t_steps _ p0 hr4) (cwV 1 hts gX8_farthest_X8_findFar rfl rfl rfl (by decide +kernel) ⟨Nat.le_of_ble_eq_true rfl, Nat.le_of_ble_eq_true rfl⟩) (xPVw hK hPc hDc (ci := 8) (q0 := 0) rfl rfl) rfl rfl hl.1 rfl (lv_room (Nat.le_of_ble_eq_true rfl)) dX8_farthest_17 ⟨Nat.le_of_ble_eq_true rfl, Nat.le_of_ble_eq_true rfl⟩) hP hD hS hA [0, 2, 3] rfl rfl (fun H locs hP hD hS => ?_)
    have hP : va_P D vwCl [(q_t, oX8 q_t_shelf q_t_rowSort q_t_rowSize q_t_rows q_t_moved q_t_shown q_t_tape v_t_tapeSize q_t_refused v_t_places q_t_ways v_t_people q_t_kind q_t_by q_t_home q_t_aim q_t_at0 v_t_hour v_t_chance v_t_seed w_t_kept w_t_tried v_t_at v_t_token v_t_from v_t_figures v_t_fault q_t_told v_t_statements q_t_steps q_t_spot q_t_then v_t_now v_t_gone q_t_sights q_t_darkAt q_t_can), (q_t_refused, .inl (cy 0, 8, .inl v_t_refused)), (q_t_ways, .inl (cy 0, 12, .inl v_t_ways)), (q_t_steps, .inl (cy 0, 12, .inl u3))] H := hP
    have hD : va_D A [(q_t, oX8 q_t_shelf q_t_rowSort q_t_rowSize q_t_rows q_t_moved q_t_shown q_t_tape v_t_tapeSize q_t_refused v_t_places q_t_ways v_t_people q_t_kind q_t_by q_t_home q_t_aim q_t_at0 v_t_hour v_t_chance v_t_seed w_t_kept w_t_tried v_t_at v_t_token v_t_from v_t_figures v_t_fault q_t_told v_t_statements q_t_steps q_t_spot q_t_then v_t_now v_t_gone q_t_sights q_t_darkAt q_t_can), (q_t_refused, .inl (cy 0, 8, .inl v_t_refused)), (q_t_ways, .inl (cy 0, 12, .inl v_t_ways)), (q_t_steps, .inl (cy 0, 12, .inl u3))] := hD
    refine lv_iload_n hx hb dX8_farthest_20 rfl (lv_at hl 1 rfl) ?_
    refine lv_istore_n (lv' := [(2, .int p0), (0, .ref q_t), (1, .int p0)]) hx hb dX8_farthest_21 rfl hl (by decide) rfl (fun ls hl => ?_)
    refine lv_iconst (v := 0) hx hb dX8_farthest_22 (by decide) ?_
    refine lv_istore_n (lv' := [(3, .int (0 : Int32)), (2, .int p0), (0, .ref q_t), (1, .int p0)]) hx hb dX8_farthest_23 rfl hl (by decide) rfl (fun ls hl => ?_)
    refine wlw2 24 (fun _ _ => []) (fun (x5 : Int32) (x6 : Int32) H locs ls => va_P D vwCl [(q_t, oX8 q_t_shelf q_t_rowSort q_t_rowSize q_t_rows q_t_moved q_t_shown q_t_tape v_t_tapeSize q_t_refused v_t_places q_t_ways v_t_people q_t_kind q_t_by q_t_home q_t_aim q_t_at0 v_t_hour v_t_chance v_t_seed w_t_kept w_t_tried v_t_at v_t_token v_t_from v_t_figures v_t_fault q_t_told v_t_statements q_t_steps q_t_spot q_t_then v_t_now v_t_gone q_t_sights q_t_darkAt q_t_can), (q_t_refused, .inl (cy 0, 8, .inl v_t_refused)), (q_t_ways, .inl (cy 0, 12, .inl v_t_ways)), (q_t_steps, .inl (cy 0, 12, .inl u3))] H ∧ va_D A [(q_t, oX8 q_t_shelf q_t_rowSort q_t_rowSize q_t_rows q_t_moved q_t_shown q_t_tape v_t_tapeSize q_t_refused v_t_places q_t_ways v_t_people q_t_kind q_t_by q_t_home q_t_aim q_t_at0 v_t_hour v_t_chance v_t_seed w_t_kept w_t_tried v_t_at v_t_token v_t_from v_t_figures v_t_fault q_t_told v_t_statements q_t_steps q_t_spot q_t_then v_t_now v_t_gone q_t_sights q_t_darkAt q_t_can), (q_t_refused, .inl (cy 0, 8, .inl v_t_refused)), (q_t_ways, .inl (cy 0, 12, .inl v_t_ways)), (q_t_steps, .inl (cy 0, 12, .inl u3))] ∧ va_S A s.heap H locs ∧ lv_has ls 4 [(2, .int x5), (3, .int x6), (0, .ref q_t)]) (fun g7 L24 x5 x6 H locs ls hI hf => ?_) 400 p0 (0 : Int32) _ _ ls ⟨hP, hD, hS, lv_sub hl [1, 0, 2] rfl⟩ hf
    obtain ⟨hP, hD, hS, hl⟩ := hI
    refine lv_iload_n hx hb dX8_farthest_24 rfl (lv_at hl 1 rfl) ?_
    refine lv_aload_n hx hb dX8_farthest_25 rfl (lv_at hl 2 rfl) ?_
    refine va_get (D := D) (ci := 8) (v := .int v_t_places) (C := RX8) (T := TX8) (N := 37) hx hb hts hinX8 hown hK.1 hP 0 rfl rfl 9 (by decide) hk37 (fun _ h9 => h9) rfl dX8_farthest_26 ?_
    refine lv_icmp_ge (tgt := 59) hx hb dX8_farthest_29 (by decide) (fun c14 => ?_) (fun c14 => ?_)
    · have hf := ifT hf c14
      clear c14
      refine lv_iload_n hx hb dX8_farthest_59 rfl (lv_at hl 0 rfl) ?_
      cases hf
      exact W.iret hx hb hr (fun t ht hW => ⟨⟨_, (), rfl, rfl, xend ht hP⟩, hS.F ht⟩) hS.2.2 dX8_farthest_60
    · have hf := ifF hf c14
      clear c14
      refine lv_aload_n hx hb dX8_farthest_32 rfl (lv_at hl 2 rfl) ?_
      refine va_get (D := D) (ci := 8) (v := .ref q_t_steps) (C := RX8) (T := TX8) (N := 37) hx hb hts hinX8 hown hK.1 hP 0 rfl rfl 29 (by decide) hk68 (fun _ h9 => h9) rfl dX8_farthest_33 ?_
      refine lv_iload_n hx hb dX8_farthest_36 rfl (lv_at hl 1 rfl) ?_
      obtain ⟨hi8, hf⟩ := ckE hf
      refine va_iald hx hb hK.1 hP 3 0 rfl rfl hi8 dX8_farthest_37 ?_
      refine lv_aload_n hx hb dX8_farthest_38 rfl (lv_at hl 2 rfl) ?_
      refine va_get (D := D) (ci := 8) (v := .ref q_t_steps) (C := RX8) (T := TX8) (N := 37) hx hb hts hinX8 hown hK.1 hP 0 rfl rfl 29 (by decide) hk68 (fun _ h9 => h9) rfl dX8_farthest_39 ?_
      refine lv_iload_n hx hb dX8_farthest_42 rfl (lv_at hl 0 rfl) ?_
      obtain ⟨hi9, hf⟩ := ckE hf
      refine va_iald hx hb hK.1 hP 3 0 rfl rfl hi9 dX8_farthest_43 ?_
      refine jww1 52 (fun (y10 : Int32) => [.int y10]) (fun (y10 : Int32) H locs ls => va_P D vwCl [(q_t, oX8 q_t_shelf q_t_rowSort q_t_rowSize q_t_rows q_t_moved q_t_shown q_t_tape v_t_tapeSize q_t_refused v_t_places q_t_ways v_t_people q_t_kind q_t_by q_t_home q_t_aim q_t_at0 v_t_hour v_t_chance v_t_seed w_t_kept w_t_tried v_t_at v_t_token v_t_from v_t_figures v_t_fault q_t_told v_t_statements q_t_steps q_t_spot q_t_then v_t_now v_t_gone q_t_sights q_t_darkAt q_t_can), (q_t_refused, .inl (cy 0, 8, .inl v_t_refused)), (q_t_ways, .inl (cy 0, 12, .inl v_t_ways)), (q_t_steps, .inl (cy 0, 12, .inl u3))] H ∧ va_D A [(q_t, oX8 q_t_shelf q_t_rowSort q_t_rowSize q_t_rows q_t_moved q_t_shown q_t_tape v_t_tapeSize q_t_refused v_t_places q_t_ways v_t_people q_t_kind q_t_by q_t_home q_t_aim q_t_at0 v_t_hour v_t_chance v_t_seed w_t_kept w_t_tried v_t_at v_t_token v_t_from v_t_figures v_t_fault q_t_told v_t_statements q_t_steps q_t_spot q_t_then v_t_now v_t_gone q_t_sights q_t_darkAt q_t_can), (q_t_refused, .inl (cy 0, 8, .inl v_t_refused)), (q_t_ways, .inl (cy 0, 12, .inl v_t_ways)), (q_t_steps, .inl (cy 0, 12, .inl u3))] ∧ va_S A s.heap H locs ∧ lv_has ls 4 [(0, .ref q_t), (3, .int x6)]) hf (fun y10 H locs ls hI hf => ?_) (fun k11 J52 hf => ?_)
      · obtain ⟨hP, hD, hS, hl⟩ := hI
        refine lv_istore_n (lv' := [(2, .int y10), (0, .ref q_t), (3, .int x6)]) hx hb dX8_farthest_52 rfl hl (by decide) rfl (fun ls hl => ?_)
        obtain ⟨x12, ex12⟩ : ∃ y : Int32, y = x6 + (1 : Int32) := ⟨_, rfl⟩
        have hf := vlE hf ex12
        refine lv_iinc (v := x12) (lv' := [(3, .int x12), (2, .int y10), (0, .ref q_t)]) hx hb dX8_farthest_53 hl (k := 2) rfl (by rw [ex12]; rfl) (by decide) rfl (fun ls hl => ?_)
        clear ex12
        refine lv_goto (tgt := 24) hx hb dX8_farthest_56 (by decide) ?_
        exact L24 y10 x12 _ _ ls ⟨hP, hD, hS, lv_sub hl [1, 0, 2] rfl⟩ hf
      · refine lv_icmp_le (tgt := 51) hx hb dX8_farthest_44 (by decide) (fun c13 => ?_) (fun c13 => ?_)
        · have hf := ifT hf c13
          clear c13
          refine lv_iload_n hx hb dX8_farthest_51 rfl (lv_at hl 0 rfl) ?_
          exact J52 x5 _ _ ls ⟨hP, hD, hS, lv_sub hl [2, 1] rfl⟩ hf
        · have hf := ifF hf c13
          clear c13
          refine lv_iload_n hx hb dX8_farthest_47 rfl (lv_at hl 1 rfl) ?_
          refine lv_goto (tgt := 52) hx hb dX8_farthest_48 (by decide) ?_
          exact J52 x6 _ _ ls ⟨hP, hD, hS, lv_sub hl [2, 1] rfl⟩ hf
  · have hf := ifT hf c18
    clear c18
    refine lv_aload_n hx hb dX8_farthest_8 rfl (lv_at hl 0 rfl) ?_
    refine lv_bipush (v := (-2)) hx hb dX8_farthest_9 (by decide) ?_
    obtain ⟨r15, u16, hr17, hf⟩ := boE2 hf
    have hPc := hP.sub (ws' := [(q_t, oX8 q_t_shelf q_t_rowSort q_t_rowSize q_t_rows q_t_moved q_t_shown q_t_tape v_t_tapeSize q_t_refused v_t_places q_t_ways v_t_people q_t_kind q_t_by q_t_home q_t_aim q_t_at0 v_t_hour v_t_chance v_t_seed w_t_kept w_t_tried v_t_at v_t_token v_t_from v_t_figures v_t_fault q_t_told v_t_statements q_t_steps q_t_spot q_t_then v_t_now v_t_gone q_t_sights q_t_darkAt q_t_can), (q_t_refused, .inl (cy 0, 8, .inl v_t_refused))]) [0, 1] rfl
    have hDc := hD.sub (ws' := [(q_t, oX8 q_t_shelf q_t_rowSort q_t_rowSize q_t_rows q_t_moved q_t_shown q_t_tape v_t_tapeSize q_t_refused v_t_places q_t_ways v_t_people q_t_kind q_t_by q_t_home q_t_aim q_t_at0 v_t_hour v_t_chance v_t_seed w_t_kept w_t_tried v_t_at v_t_token v_t_from v_t_figures v_t_fault q_t_told v_t_statements q_t_steps q_t_spot q_t_then v_t_now v_t_gone q_t_sights q_t_darkAt q_t_can), (q_t_refused, .inl (cy 0, 8, .inl v_t_refused))]) [0, 1] (by decide) rfl
    refine xcQi (w1 := [(q_t, oX8 q_t_shelf q_t_rowSort q_t_rowSize q_t_rows q_t_moved q_t_shown q_t_tape v_t_tapeSize q_t_refused v_t_places q_t_ways v_t_people q_t_kind q_t_by q_t_home q_t_aim q_t_at0 v_t_hour v_t_chance v_t_seed w_t_kept w_t_tried v_t_at v_t_token v_t_from v_t_figures v_t_fault q_t_told v_t_statements q_t_steps q_t_spot q_t_then v_t_now v_t_gone q_t_sights q_t_darkAt q_t_can), (q_t_refused, .inl (cy 0, 8, .inl u16))]) (va_runV (As := [.int (-2 : Int32)]) (rest := []) ⟨hx, hb, hml, hown, hts⟩ (mX8_refuse l D cy q_t q_t_shelf q_t_rowSort q_t_rowSize q_t_rows q_t_moved q_t_shown q_t_tape q_t_refused q_t_ways q_t_kind q_t_by q_t_home q_t_aim q_t_at0 q_t_told q_t_steps q_t_spot q_t_then q_t_sights q_t_darkAt q_t_can v_t_tapeSize v_t_places v_t_people v_t_hour v_t_chance v_t_seed w_t_kept w_t_tried v_t_at v_t_token v_t_from v_t_figures v_t_fault v_t_statements v_t_now v_t_gone v_t_refused _ (-2 : Int32) hr17) (cwV 1 hts gX8_farthest_X8_refuse rfl rfl rfl (by decide +kernel) ⟨Nat.le_of_ble_eq_true rfl, Nat.le_of_ble_eq_true rfl⟩) (xPVw hK hPc hDc (ci := 8) (q0 := 0) rfl rfl) rfl rfl hl.1 rfl (lv_room (Nat.le_of_ble_eq_true rfl)) dX8_farthest_11 ⟨Nat.le_of_ble_eq_true rfl, Nat.le_of_ble_eq_true rfl⟩) hP hD hS hA [0, 1] rfl rfl (fun H locs hP hD hS => ?_)
    have hP : va_P D vwCl [(q_t, oX8 q_t_shelf q_t_rowSort q_t_rowSize q_t_rows q_t_moved q_t_shown q_t_tape v_t_tapeSize q_t_refused v_t_places q_t_ways v_t_people q_t_kind q_t_by q_t_home q_t_aim q_t_at0 v_t_hour v_t_chance v_t_seed w_t_kept w_t_tried v_t_at v_t_token v_t_from v_t_figures v_t_fault q_t_told v_t_statements q_t_steps q_t_spot q_t_then v_t_now v_t_gone q_t_sights q_t_darkAt q_t_can), (q_t_refused, .inl (cy 0, 8, .inl u16)), (q_t_ways, .inl (cy 0, 12, .inl v_t_ways)), (q_t_steps, .inl (cy 0, 12, .inl v_t_steps))] H := hP
    have hD : va_D A [(q_t, oX8 q_t_shelf q_t_rowSort q_t_rowSize q_t_rows q_t_moved q_t_shown q_t_tape v_t_tapeSize q_t_refused v_t_places q_t_ways v_t_people q_t_kind q_t_by q_t_home q_t_aim q_t_at0 v_t_hour v_t_chance v_t_seed w_t_kept w_t_tried v_t_at v_t_token v_t_from v_t_figures v_t_fault q_t_told v_t_statements q_t_steps q_t_spot q_t_then v_t_now v_t_gone q_t_sights q_t_darkAt q_t_can), (q_t_refused, .inl (cy 0, 8, .inl u16)), (q_t_ways, .inl (cy 0, 12, .inl v_t_ways)), (q_t_steps, .inl (cy 0, 12, .inl v_t_steps))] := hD
    cases hf
    exact W.iret hx hb hr (fun t ht hW => ⟨⟨_, (), rfl, rfl, xend ht hP⟩, hS.F ht⟩) hS.2.2 dX8_farthest_14
