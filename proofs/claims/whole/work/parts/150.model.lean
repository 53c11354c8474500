def fX8_drawn (v_t_places : Int32) (v_t_people : Int32) (v_t_hour : Int32) (v_t_chance : Int32) (v_t_seed : Int32) (v_t_now : Int32) (v_t_gone : Int32) (v_t_refused : Nat → Int32) (v_t_ways : Nat → Int32) (v_t_kind : Nat → Int32) (v_t_at0 : Nat → Int32) (v_t_spot : Nat → Int32) (p0 : Int32) : Option (Int32 × Int32 × Int32 × Int32 × (Nat → Int32) × (Nat → Int32) × (Nat → Int32)) :=
  bo1 (fX8_in p0.toInt64 (1 : Int64) (48 : Int64)) fun r1 =>
  if r1 = 0 then
    bo2 (fX8_refuse v_t_refused (-2 : Int32)) fun r34 u35 =>
    some (r34, v_t_hour, v_t_seed, v_t_now, u35, v_t_at0, v_t_spot)
  else
    bo2 (fX8_begin v_t_people v_t_hour v_t_at0 v_t_spot) fun u3 u4 =>
    lo5 (fun g11 (x6 : Int32) (x7 : Int32) (u8 : Int32) (u9 : Int32) (u10 : Nat → Int32) =>
      if p0 ≤ x7 then
        bo2 (fX8_stays v_t_people u9 v_t_at0 u10) fun u12 u13 =>
        some (x6, u12, u8, u9, v_t_refused, u13, u10)
      else
        lo3 (fun g18 (x15 : Int32) (u16 : Int32) (u17 : Nat → Int32) =>
          if v_t_people ≤ x15 then
            jo1 (fun (y19 : Int32) =>
              bo1 (fX8_light v_t_places v_t_people v_t_gone v_t_kind u17) fun r21 =>
              bo1 (fX8_bits r21) fun r23 =>
              vlet (x6 + r23) fun x25 =>
              vlet (x7 + (1 : Int32)) fun x26 =>
              g11 x25 x26 u16 y19 u17) fun k20 =>
            if (9999 : Int32) ≤ u9 then
              k20 (9999 : Int32)
            else
              k20 (u9 + (1 : Int32))
          else
            bo2 (fX8_strays v_t_chance u16 v_t_ways v_t_kind u17 x15) fun u28 u29 =>
            vlet (x15 + (1 : Int32)) fun x31 =>
            g18 x31 u28 u29) 400 (0 : Int32) u8 u10) 400 (0 : Int32) (0 : Int32) v_t_seed u3 u4
set_option maxHeartbeats 4000000 in
set_option maxRecDepth 100000 in
theorem mX8_drawn (l : Launch) (D : va_G) (cy : Nat → ClassId) (q_t q_t_shelf q_t_rowSort q_t_rowSize q_t_rows q_t_moved q_t_shown q_t_tape q_t_refused q_t_ways q_t_kind q_t_by q_t_home q_t_aim q_t_at0 q_t_told q_t_steps q_t_spot q_t_then q_t_sights q_t_darkAt q_t_can : Nat) (v_t_tapeSize : Int32) (v_t_places : Int32) (v_t_people : Int32) (v_t_hour : Int32) (v_t_chance : Int32) (v_t_seed : Int32) (w_t_kept : Value) (w_t_tried : Value) (v_t_at : Int32) (v_t_token : Int32) (v_t_from : Int32) (v_t_figures : Int32) (v_t_fault : Int32) (v_t_statements : Int32) (v_t_now : Int32) (v_t_gone : Int32) (v_t_refused : Nat → Int32) (v_t_ways : Nat → Int32) (v_t_kind : Nat → Int32) (v_t_at0 : Nat → Int32) (v_t_spot : Nat → Int32) (sz : Nat) (p0 : Int32) {r_ : Int32} {n_t_hour : Int32} {n_t_seed : Int32} {n_t_now : Int32} {n_t_refused : Nat → Int32} {n_t_at0 : Nat → Int32} {n_t_spot : Nat → Int32} (hf : fX8_drawn v_t_places v_t_people v_t_hour v_t_chance v_t_seed v_t_now v_t_gone v_t_refused v_t_ways v_t_kind v_t_at0 v_t_spot p0 = some (r_, n_t_hour, n_t_seed, n_t_now, n_t_refused, n_t_at0, n_t_spot)) : Met l yX8_drawn wsX8_drawn ({ frames := 2, cells := 0, slots := 0, locals := 47 }) (va_Pc [.ref q_t, .int p0] (fun U => U.heap.size = sz ∧ va_P D vwCl [(q_t, oX8 q_t_shelf q_t_rowSort q_t_rowSize q_t_rows q_t_moved q_t_shown q_t_tape v_t_tapeSize q_t_refused v_t_places q_t_ways v_t_people q_t_kind q_t_by q_t_home q_t_aim q_t_at0 v_t_hour v_t_chance v_t_seed w_t_kept w_t_tried v_t_at v_t_token v_t_from v_t_figures v_t_fault q_t_told v_t_statements q_t_steps q_t_spot q_t_then v_t_now v_t_gone q_t_sights q_t_darkAt q_t_can), (q_t_refused, .inl (cy 0, 8, .inl v_t_refused)), (q_t_ways, .inl (cy 0, 12, .inl v_t_ways)), (q_t_kind, .inl (cy 0, 8, .inl v_t_kind)), (q_t_at0, .inl (cy 0, 8, .inl v_t_at0)), (q_t_spot, .inl (cy 0, 8, .inl v_t_spot))] U.heap ∧ xK D cy U ∧ va_D (fun _ => True) [(q_t, oX8 q_t_shelf q_t_rowSort q_t_rowSize q_t_rows q_t_moved q_t_shown q_t_tape v_t_tapeSize q_t_refused v_t_places q_t_ways v_t_people q_t_kind q_t_by q_t_home q_t_aim q_t_at0 v_t_hour v_t_chance v_t_seed w_t_kept w_t_tried v_t_at v_t_token v_t_from v_t_figures v_t_fault q_t_told v_t_statements q_t_steps q_t_spot q_t_then v_t_now v_t_gone q_t_sights q_t_darkAt q_t_can), (q_t_refused, .inl (cy 0, 8, .inl v_t_refused)), (q_t_ways, .inl (cy 0, 12, .inl v_t_ways)), (q_t_kind, .inl (cy 0, 8, .inl v_t_kind)), (q_t_at0, .inl (cy 0, 8, .inl v_t_at0)), (q_t_spot, .inl (cy 0, 8, .inl v_t_spot))])) (va_Qi (fun (x : Int32) (_ : Unit) => x = r_) (fun _ t => va_P D vwCl [(q_t, oX8 q_t_shelf q_t_rowSort q_t_rowSize q_t_rows q_t_moved q_t_shown q_t_tape v_t_tapeSize q_t_refused v_t_places q_t_ways v_t_people q_t_kind q_t_by q_t_home q_t_aim q_t_at0 n_t_hour v_t_chance n_t_seed w_t_kept w_t_tried v_t_at v_t_token v_t_from v_t_figures v_t_fault q_t_told v_t_statements q_t_steps q_t_spot q_t_then n_t_now v_t_gone q_t_sights q_t_darkAt q_t_can), (q_t_refused, .inl (cy 0, 8, .inl n_t_refused)), (q_t_ways, .inl (cy 0, 12, .inl v_t_ways)), (q_t_kind, .inl (cy 0, 8, .inl v_t_kind)), (q_t_at0, .inl (cy 0, 8, .inl n_t_at0)), (q_t_spot, .inl (cy 0, 8, .inl n_t_spot))] t.heap) (va_A [(q_t, oX8 q_t_shelf q_t_rowSort q_t_rowSize q_t_rows q_t_moved q_t_shown q_t_tape v_t_tapeSize q_t_refused v_t_places q_t_ways v_t_people q_t_kind q_t_by q_t_home q_t_aim q_t_at0 v_t_hour v_t_chance v_t_seed w_t_kept w_t_tried v_t_at v_t_token v_t_from v_t_figures v_t_fault q_t_told v_t_statements q_t_steps q_t_spot q_t_then v_t_now v_t_gone q_t_sights q_t_darkAt q_t_can), (q_t_refused, .inl (cy 0, 8, .inl v_t_refused)), (q_t_ways, .inl (cy 0, 12, .inl v_t_ways)), (q_t_kind, .inl (cy 0, 8, .inl v_t_kind)), (q_t_at0, .inl (cy 0, 8, .inl v_t_at0)), (q_t_spot, .inl (cy 0, 8, .inl v_t_spot))] sz)) 0 0 (va_A [(q_t, oX8 q_t_shelf q_t_rowSort q_t_rowSize q_t_rows q_t_moved q_t_shown q_t_tape v_t_tapeSize q_t_refused v_t_places q_t_ways v_t_people q_t_kind q_t_by q_t_home q_t_aim q_t_at0 v_t_hour v_t_chance v_t_seed w_t_kept w_t_tried v_t_at v_t_token v_t_from v_t_figures v_t_fault q_t_told v_t_statements q_t_steps q_t_spot q_t_then v_t_now v_t_gone q_t_sights q_t_darkAt q_t_can), (q_t_refused, .inl (cy 0, 8, .inl v_t_refused)), (q_t_ways, .inl (cy 0, 12, .inl v_t_ways)), (q_t_kind, .inl (cy 0, 8, .inl v_t_kind)), (q_t_at0, .inl (cy 0, 8, .inl v_t_at0)), (q_t_spot, .inl (cy 0, 8, .inl v_t_spot))] sz) := by
  refine Met.ofW (cc := cX8_drawn) (maxL := 5) (ret := (some .int)) (by decide) rfl ?_
  intro p e s m args below meth c s₁ B hml hv
  obtain ⟨rfl, hsz, hP, hK, hD0⟩ := hv
  have hx := B.exec
  have hb := B.bytes
  have hr := B.returns
  have hts := atoms_spec (ws := wsX8_drawn) B.pre
  have hown : s.vm.findClass RX8 = some m.cls := findClass_of_methodNamed B.named
  have hlocks := B.notSynchronized
  subst hsz
  have hD := hD0.self (sz := s.heap.size)
  generalize hAe : va_A [(q_t, oX8 q_t_shelf q_t_rowSort q_t_rowSize q_t_rows q_t_moved q_t_shown q_t_tape v_t_tapeSize q_t_refused v_t_places q_t_ways v_t_people q_t_kind q_t_by q_t_home q_t_aim q_t_at0 v_t_hour v_t_chance v_t_seed w_t_kept w_t_tried v_t_at v_t_token v_t_from v_t_figures v_t_fault q_t_told v_t_statements q_t_steps q_t_spot q_t_then v_t_now v_t_gone q_t_sights q_t_darkAt q_t_can), (q_t_refused, .inl (cy 0, 8, .inl v_t_refused)), (q_t_ways, .inl (cy 0, 12, .inl v_t_ways)), (q_t_kind, .inl (cy 0, 8, .inl v_t_kind)), (q_t_at0, .inl (cy 0, 8, .inl v_t_at0)), (q_t_spot, .inl (cy 0, 8, .inl v_t_spot))] s.heap.size = A at hD ⊢
  have hA : ∀ q : Nat, s.heap.size ≤ q → A q := fun q h => by rw [← hAe]; exact Or.inr h
  have hS : va_S A s.heap s.heap [] := va_S.rf
  have hP : va_P D vwCl [(q_t, oX8 q_t_shelf q_t_rowSort q_t_rowSize q_t_rows q_t_moved q_t_shown q_t_tape v_t_tapeSize q_t_refused v_t_places q_t_ways v_t_people q_t_kind q_t_by q_t_home q_t_aim q_t_at0 v_t_hour v_t_chance v_t_seed w_t_kept w_t_tried v_t_at v_t_token v_t_from v_t_figures v_t_fault q_t_told v_t_statements q_t_steps q_t_spot q_t_then v_t_now v_t_gone q_t_sights q_t_darkAt q_t_can), (q_t_refused, .inl (cy 0, 8, .inl v_t_refused)), (q_t_ways, .inl (cy 0, 12, .inl v_t_ways)), (q_t_kind, .inl (cy 0, 8, .inl v_t_kind)), (q_t_at0, .inl (cy 0, 8, .inl v_t_at0)), (q_t_spot, .inl (cy 0, 8, .inl v_t_spot))] s.heap := hP
  have hc277 := hts (.constantLong RX8 277 (48)) (by decide +kernel)
  have hinX8 : ∀ w ∈ u_ws RX8 TX8 37, w ∈ wsX8_drawn := by decide +kernel
  have hk95 := hts (.fieldLink RX8 95 "ShowsWhereNobodyIsModel" "people" "I") (by decide +kernel)
  have hk254 := hts (.fieldLink RX8 254 "ShowsWhereNobodyIsModel" "now" "I") (by decide +kernel)
  have hl := lv_entry ([.ref q_t, .int p0]) (n := 5) (Nat.le_of_ble_eq_true rfl)
  rw [lg_entry_eq]
  generalize (lg_sl ([.ref q_t, .int p0]) ++ List.replicate (5 - (lg_sl ([.ref q_t, .int p0])).length) Slot.unset).toArray = ls at hl ⊢
  have hl : lv_has ls 5 [(0, .ref q_t), (1, .int p0)] := hl
  unfold fX8_drawn at hf
  refine lv_iload_n hx hb dX8_drawn_0 rfl (lv_at hl 1 rfl) ?_
  refine lv_i2l hx hb dX8_drawn_1 rfl ?_
  refine lv_lconst (v := 1) hx hb dX8_drawn_2 (by decide) ?_
  refine lv_ldc2 hx hb hown hc277 dX8_drawn_3 ?_
  obtain ⟨r1, hr2, hf⟩ := boE1 hf
  have hPc := hP.sub (ws' := []) [] rfl
  refine xcSi (va_runS (As := [.long p0.toInt64, .long (1 : Int64), .long (48 : Int64)]) (rest := []) ⟨hx, hb, hml, hown, hts⟩ (mX8_in l D cy    p0.toInt64 (1 : Int64) (48 : Int64) hr2) (va_cwS 3 hts gX8_drawn_X8_in rfl rfl rfl (by decide +kernel) ⟨Nat.le_of_ble_eq_true rfl, Nat.le_of_ble_eq_true rfl⟩) (xPS hK hPc) rfl rfl hl.1 rfl (lv_room (Nat.le_of_ble_eq_true rfl)) dX8_drawn_6 ⟨Nat.le_of_ble_eq_true rfl, Nat.le_of_ble_eq_true rfl⟩) ?_
  refine lv_if_ne (tgt := 19) hx hb dX8_drawn_9 (by decide) (fun c37 => ?_) (fun c37 => ?_)
  · have hf := ifF hf c37
    clear c37
    refine lv_aload_n hx hb dX8_drawn_19 rfl (lv_at hl 0 rfl) ?_
    obtain ⟨u3, u4, hr5, hf⟩ := boE2 hf
    have hPc := hP.sub (ws' := [(q_t, oX8 q_t_shelf q_t_rowSort q_t_rowSize q_t_rows q_t_moved q_t_shown q_t_tape v_t_tapeSize q_t_refused v_t_places q_t_ways v_t_people q_t_kind q_t_by q_t_home q_t_aim q_t_at0 v_t_hour v_t_chance v_t_seed w_t_kept w_t_tried v_t_at v_t_token v_t_from v_t_figures v_t_fault q_t_told v_t_statements q_t_steps q_t_spot q_t_then v_t_now v_t_gone q_t_sights q_t_darkAt q_t_can), (q_t_at0, .inl (cy 0, 8, .inl v_t_at0)), (q_t_spot, .inl (cy 0, 8, .inl v_t_spot))]) [0, 4, 5] rfl
    have hDc := hD.sub (ws' := [(q_t, oX8 q_t_shelf q_t_rowSort q_t_rowSize q_t_rows q_t_moved q_t_shown q_t_tape v_t_tapeSize q_t_refused v_t_places q_t_ways v_t_people q_t_kind q_t_by q_t_home q_t_aim q_t_at0 v_t_hour v_t_chance v_t_seed w_t_kept w_t_tried v_t_at v_t_token v_t_from v_t_figures v_t_fault q_t_told v_t_statements q_t_steps q_t_spot q_t_then v_t_now v_t_gone q_t_sights q_t_darkAt q_t_can), (q_t_at0, .inl (cy 0, 8, .inl v_t_at0)), (q_t_spot, .inl (cy 0, 8, .inl v_t_spot))]) [0, 4, 5] (by decide) rfl
    refine xcQv (w1 := [(q_t, oX8 q_t_shelf q_t_rowSort q_t_rowSize q_t_rows q_t_moved q_t_shown q_t_tape v_t_tapeSize q_t_refused v_t_places q_t_ways v_t_people q_t_kind q_t_by q_t_home q_t_aim q_t_at0 v_t_hour v_t_chance v_t_seed w_t_kept w_t_tried v_t_at v_t_token v_t_from v_t_figures v_t_fault q_t_told v_t_statements q_t_steps q_t_spot q_t_then u3 v_t_gone q_t_sights q_t_darkAt q_t_can), (q_t_at0, .inl (cy 0, 8, .inl v_t_at0)), (q_t_spot, .inl (cy 0, 8, .inl u4))]) (va_runV (As := []) (rest := []) ⟨hx, hb, hml, hown, hts⟩ (mX8_begin l D cy q_t q_t_shelf q_t_rowSort q_t_rowSize q_t_rows q_t_moved q_t_shown q_t_tape q_t_refused q_t_ways q_t_kind q_t_by q_t_home q_t_aim q_t_at0 q_t_told q_t_steps q_t_spot q_t_then q_t_sights q_t_darkAt q_t_can v_t_tapeSize v_t_places v_t_people v_t_hour v_t_chance v_t_seed w_t_kept w_t_tried v_t_at v_t_token v_t_from v_t_figures v_t_fault v_t_statements v_t_now v_t_gone v_t_at0 v_t_spot _  hr5) (cwV 0 hts gX8_drawn_X8_begin rfl rfl rfl (by decide +kernel) ⟨Nat.le_of_ble_eq_true rfl, Nat.le_of_ble_eq_true rfl⟩) (xPVw hK hPc hDc (ci := 8) (q0 := 0) rfl rfl) rfl rfl hl.1 rfl (lv_room (Nat.le_of_ble_eq_true rfl)) dX8_drawn_20 ⟨Nat.le_of_ble_eq_true rfl, Nat.le_of_ble_eq_true rfl⟩) hP hD hS hA [0, 4, 5] rfl rfl (fun H locs hP hD hS => ?_)
    have hP : va_P D vwCl [(q_t, oX8 q_t_shelf q_t_rowSort q_t_rowSize q_t_rows q_t_moved q_t_shown q_t_tape v_t_tapeSize q_t_refused v_t_places q_t_ways v_t_people q_t_kind q_t_by q_t_home q_t_aim q_t_at0 v_t_hour v_t_chance v_t_seed w_t_kept w_t_tried v_t_at v_t_token v_t_from v_t_figures v_t_fault q_t_told v_t_statements q_t_steps q_t_spot q_t_then u3 v_t_gone q_t_sights q_t_darkAt q_t_can), (q_t_refused, .inl (cy 0, 8, .inl v_t_refused)), (q_t_ways, .inl (cy 0, 12, .inl v_t_ways)), (q_t_kind, .inl (cy 0, 8, .inl v_t_kind)), (q_t_at0, .inl (cy 0, 8, .inl v_t_at0)), (q_t_spot, .inl (cy 0, 8, .inl u4))] H := hP
    have hD : va_D A [(q_t, oX8 q_t_shelf q_t_rowSort q_t_rowSize q_t_rows q_t_moved q_t_shown q_t_tape v_t_tapeSize q_t_refused v_t_places q_t_ways v_t_people q_t_kind q_t_by q_t_home q_t_aim q_t_at0 v_t_hour v_t_chance v_t_seed w_t_kept w_t_tried v_t_at v_t_token v_t_from v_t_figures v_t_fault q_t_told v_t_statements q_t_steps q_t_spot q_t_then u3 v_t_gone q_t_sights q_t_darkAt q_t_can), (q_t_refused, .inl (cy 0, 8, .inl v_t_refused)), (q_t_ways, .inl (cy 0, 12, .inl v_t_ways)), (q_t_kind, .inl (cy 0, 8, .inl v_t_kind)), (q_t_at0, .inl (cy 0, 8, .inl v_t_at0)), (q_t_spot, .inl (cy 0, 8, .inl u4))] := hD
    refine lv_iconst (v := 0) hx hb dX8_drawn_23 (by decide) ?_
    refine lv_istore_n (lv' := [(2, .int (0 : Int32)), (0, .ref q_t), (1, .int p0)]) hx hb dX8_drawn_24 rfl hl (by decide) rfl (fun ls hl => ?_)
    refine lv_iconst (v := 0) hx hb dX8_drawn_25 (by decide) ?_
    refine lv_istore_n (lv' := [(3, .int (0 : Int32)), (2, .int (0 : Int32)), (0, .ref q_t), (1, .int p0)]) hx hb dX8_drawn_26 rfl hl (by decide) rfl (fun ls hl => ?_)
    refine wlw5 27 (fun _ _ _ _ _ => []) (fun (x6 : Int32) (x7 : Int32) (u8 : Int32) (u9 : Int32) (u10 : Nat → Int32) H locs ls => va_P D vwCl [(q_t, oX8 q_t_shelf q_t_rowSort q_t_rowSize q_t_rows q_t_moved q_t_shown q_t_tape v_t_tapeSize q_t_refused v_t_places q_t_ways v_t_people q_t_kind q_t_by q_t_home q_t_aim q_t_at0 v_t_hour v_t_chance u8 w_t_kept w_t_tried v_t_at v_t_token v_t_from v_t_figures v_t_fault q_t_told v_t_statements q_t_steps q_t_spot q_t_then u9 v_t_gone q_t_sights q_t_darkAt q_t_can), (q_t_refused, .inl (cy 0, 8, .inl v_t_refused)), (q_t_ways, .inl (cy 0, 12, .inl v_t_ways)), (q_t_kind, .inl (cy 0, 8, .inl v_t_kind)), (q_t_at0, .inl (cy 0, 8, .inl v_t_at0)), (q_t_spot, .inl (cy 0, 8, .inl u10))] H ∧ va_D A [(q_t, oX8 q_t_shelf q_t_rowSort q_t_rowSize q_t_rows q_t_moved q_t_shown q_t_tape v_t_tapeSize q_t_refused v_t_places q_t_ways v_t_people q_t_kind q_t_by q_t_home q_t_aim q_t_at0 v_t_hour v_t_chance u8 w_t_kept w_t_tried v_t_at v_t_token v_t_from v_t_figures v_t_fault q_t_told v_t_statements q_t_steps q_t_spot q_t_then u9 v_t_gone q_t_sights q_t_darkAt q_t_can), (q_t_refused, .inl (cy 0, 8, .inl v_t_refused)), (q_t_ways, .inl (cy 0, 12, .inl v_t_ways)), (q_t_kind, .inl (cy 0, 8, .inl v_t_kind)), (q_t_at0, .inl (cy 0, 8, .inl v_t_at0)), (q_t_spot, .inl (cy 0, 8, .inl u10))] ∧ va_S A s.heap H locs ∧ lv_has ls 5 [(2, .int x6), (3, .int x7), (0, .ref q_t), (1, .int p0)]) (fun g11 L27 x6 x7 u8 u9 u10 H locs ls hI hf => ?_) 400 (0 : Int32) (0 : Int32) v_t_seed u3 u4 _ _ ls ⟨hP, hD, hS, lv_sub hl [1, 0, 2, 3] rfl⟩ hf
    obtain ⟨hP, hD, hS, hl⟩ := hI
    refine lv_iload_n hx hb dX8_drawn_27 rfl (lv_at hl 1 rfl) ?_
    refine lv_iload_n hx hb dX8_drawn_28 rfl (lv_at hl 3 rfl) ?_
    refine lv_icmp_ge (tgt := 98) hx hb dX8_drawn_29 (by decide) (fun c33 => ?_) (fun c33 => ?_)
    · have hf := ifT hf c33
      clear c33
      refine lv_aload_n hx hb dX8_drawn_98 rfl (lv_at hl 2 rfl) ?_
      obtain ⟨u12, u13, hr14, hf⟩ := boE2 hf
      have hPc := hP.sub (ws' := [(q_t, oX8 q_t_shelf q_t_rowSort q_t_rowSize q_t_rows q_t_moved q_t_shown q_t_tape v_t_tapeSize q_t_refused v_t_places q_t_ways v_t_people q_t_kind q_t_by q_t_home q_t_aim q_t_at0 v_t_hour v_t_chance u8 w_t_kept w_t_tried v_t_at v_t_token v_t_from v_t_figures v_t_fault q_t_told v_t_statements q_t_steps q_t_spot q_t_then u9 v_t_gone q_t_sights q_t_darkAt q_t_can), (q_t_at0, .inl (cy 0, 8, .inl v_t_at0)), (q_t_spot, .inl (cy 0, 8, .inl u10))]) [0, 4, 5] rfl
      have hDc := hD.sub (ws' := [(q_t, oX8 q_t_shelf q_t_rowSort q_t_rowSize q_t_rows q_t_moved q_t_shown q_t_tape v_t_tapeSize q_t_refused v_t_places q_t_ways v_t_people q_t_kind q_t_by q_t_home q_t_aim q_t_at0 v_t_hour v_t_chance u8 w_t_kept w_t_tried v_t_at v_t_token v_t_from v_t_figures v_t_fault q_t_told v_t_statements q_t_steps q_t_spot q_t_then u9 v_t_gone q_t_sights q_t_darkAt q_t_can), (q_t_at0, .inl (cy 0, 8, .inl v_t_at0)), (q_t_spot, .inl (cy 0, 8, .inl u10))]) [0, 4, 5] (by decide) rfl
      refine xcQv (w1 := [(q_t, oX8 q_t_shelf q_t_rowSort q_t_rowSize q_t_rows q_t_moved q_t_shown q_t_tape v_t_tapeSize q_t_refused v_t_places q_t_ways v_t_people q_t_kind q_t_by q_t_home q_t_aim q_t_at0 u12 v_t_chance u8 w_t_kept w_t_tried v_t_at v_t_token v_t_from v_t_figures v_t_fault q_t_told v_t_statements q_t_steps q_t_spot q_t_then u9 v_t_gone q_t_sights q_t_darkAt q_t_can), (q_t_at0, .inl (cy 0, 8, .inl u13)), (q_t_spot, .inl (cy 0, 8, .inl u10))]) (va_runV (As := []) (rest := []) ⟨hx, hb, hml, hown, hts⟩ (mX8_stays l D cy q_t q_t_shelf q_t_rowSort q_t_rowSize q_t_rows q_t_moved q_t_shown q_t_tape q_t_refused q_t_ways q_t_kind q_t_by q_t_home q_t_aim q_t_at0 q_t_told q_t_steps q_t_spot q_t_then q_t_sights q_t_darkAt q_t_can v_t_tapeSize v_t_places v_t_people v_t_hour v_t_chance u8 w_t_kept w_t_tried v_t_at v_t_token v_t_from v_t_figures v_t_fault v_t_statements u9 v_t_gone v_t_at0 u10 _  hr14) (cwV 0 hts gX8_drawn_X8_stays rfl rfl rfl (by decide +kernel) ⟨Nat.le_of_ble_eq_true rfl, Nat.le_of_ble_eq_true rfl⟩) (xPVw hK hPc hDc (ci := 8) (q0 := 0) rfl rfl) rfl rfl hl.1 rfl (lv_room (Nat.le_of_ble_eq_true rfl)) dX8_drawn_99 ⟨Nat.le_of_ble_eq_true rfl, Nat.le_of_ble_eq_true rfl⟩) hP hD hS hA [0, 4, 5] rfl rfl (fun H locs hP hD hS => ?_)
      have hP : va_P D vwCl [(q_t, oX8 q_t_shelf q_t_rowSort q_t_rowSize q_t_rows q_t_moved q_t_shown q_t_tape v_t_tapeSize q_t_refused v_t_places q_t_ways v_t_people q_t_kind q_t_by q_t_home q_t_aim q_t_at0 u12 v_t_chance u8 w_t_kept w_t_tried v_t_at v_t_token v_t_from v_t_figures v_t_fault q_t_told v_t_statements q_t_steps q_t_spot q_t_then u9 v_t_gone q_t_sights q_t_darkAt q_t_can), (q_t_refused, .inl (cy 0, 8, .inl v_t_refused)), (q_t_ways, .inl (cy 0, 12, .inl v_t_ways)), (q_t_kind, .inl (cy 0, 8, .inl v_t_kind)), (q_t_at0, .inl (cy 0, 8, .inl u13)), (q_t_spot, .inl (cy 0, 8, .inl u10))] H := hP
      have hD : va_D A [(q_t, oX8 q_t_shelf q_t_rowSort q_t_rowSize q_t_rows q_t_moved q_t_shown q_t_tape v_t_tapeSize q_t_refused v_t_places q_t_ways v_t_people q_t_kind q_t_by q_t_home q_t_aim q_t_at0 u12 v_t_chance u8 w_t_kept w_t_tried v_t_at v_t_token v_t_from v_t_figures v_t_fault q_t_told v_t_statements q_t_steps q_t_spot q_t_then u9 v_t_gone q_t_sights q_t_darkAt q_t_can), (q_t_refused, .inl (cy 0, 8, .inl v_t_refused)), (q_t_ways, .inl (cy 0, 12, .inl v_t_ways)), (q_t_kind, .inl (cy 0, 8, .inl v_t_kind)), (q_t_at0, .inl (cy 0, 8, .inl u13)), (q_t_spot, .inl (cy 0, 8, .inl u10))] := hD
      refine lv_iload_n hx hb dX8_drawn_102 rfl (lv_at hl 0 rfl) ?_
      cases hf
      exact W.iret hx hb hr (fun t ht hW => ⟨⟨_, (), rfl, rfl, xend ht hP⟩, hS.F ht⟩) hS.2.2 dX8_drawn_103
    · have hf := ifF hf c33
      clear c33
      refine lv_iconst (v := 0) hx hb dX8_drawn_32 (by decide) ?_
      refine lv_istore (lv' := [(4, .int (0 : Int32)), (2, .int x6), (3, .int x7), (0, .ref q_t), (1, .int p0)]) hx hb dX8_drawn_33 hl (by decide) rfl (fun ls hl => ?_)
      refine wlw3 35 (fun _ _ _ => []) (fun (x15 : Int32) (u16 : Int32) (u17 : Nat → Int32) H locs ls => va_P D vwCl [(q_t, oX8 q_t_shelf q_t_rowSort q_t_rowSize q_t_rows q_t_moved q_t_shown q_t_tape v_t_tapeSize q_t_refused v_t_places q_t_ways v_t_people q_t_kind q_t_by q_t_home q_t_aim q_t_at0 v_t_hour v_t_chance u16 w_t_kept w_t_tried v_t_at v_t_token v_t_from v_t_figures v_t_fault q_t_told v_t_statements q_t_steps q_t_spot q_t_then u9 v_t_gone q_t_sights q_t_darkAt q_t_can), (q_t_refused, .inl (cy 0, 8, .inl v_t_refused)), (q_t_ways, .inl (cy 0, 12, .inl v_t_ways)), (q_t_kind, .inl (cy 0, 8, .inl v_t_kind)), (q_t_at0, .inl (cy 0, 8, .inl v_t_at0)), (q_t_spot, .inl (cy 0, 8, .inl u17))] H ∧ va_D A [(q_t, oX8 q_t_shelf q_t_rowSort q_t_rowSize q_t_rows q_t_moved q_t_shown q_t_tape v_t_tapeSize q_t_refused v_t_places q_t_ways v_t_people q_t_kind q_t_by q_t_home q_t_aim q_t_at0 v_t_hour v_t_chance u16 w_t_kept w_t_tried v_t_at v_t_token v_t_from v_t_figures v_t_fault q_t_told v_t_statements q_t_steps q_t_spot q_t_then u9 v_t_gone q_t_sights q_t_darkAt q_t_can), (q_t_refused, .inl (cy 0, 8, .inl v_t_refused)), (q_t_ways, .inl (cy 0, 12, .inl v_t_ways)), (q_t_kind, .inl (cy 0, 8, .inl v_t_kind)), (q_t_at0, .inl (cy 0, 8, .inl v_t_at0)), (q_t_spot, .inl (cy 0, 8, .inl u17))] ∧ va_S A s.heap H locs ∧ lv_has ls 5 [(4, .int x15), (2, .int x6), (3, .int x7), (0, .ref q_t), (1, .int p0)]) (fun g18 L35 x15 u16 u17 H locs ls hI hf => ?_) 400 (0 : Int32) u8 u10 _ _ ls ⟨hP, hD, hS, lv_sub hl [0, 1, 2, 3, 4] rfl⟩ hf
      obtain ⟨hP, hD, hS, hl⟩ := hI
      refine lv_iload hx hb dX8_drawn_35 (lv_at hl 0 rfl) ?_
      refine lv_aload_n hx hb dX8_drawn_37 rfl (lv_at hl 3 rfl) ?_
      refine va_get (D := D) (ci := 8) (v := .int v_t_people) (C := RX8) (T := TX8) (N := 37) hx hb hts hinX8 hown hK.1 hP 0 rfl rfl 11 (by decide) hk95 (fun _ h9 => h9) rfl dX8_drawn_38 ?_
      refine lv_icmp_ge (tgt := 56) hx hb dX8_drawn_41 (by decide) (fun c32 => ?_) (fun c32 => ?_)
      · have hf := ifT hf c32
        clear c32
        refine lv_aload_n hx hb dX8_drawn_56 rfl (lv_at hl 3 rfl) ?_
        refine lv_aload_n hx hb dX8_drawn_57 rfl (lv_at hl 3 rfl) ?_
        refine va_get (D := D) (ci := 8) (v := .int u9) (C := RX8) (T := TX8) (N := 37) hx hb hts hinX8 hown hK.1 hP 0 rfl rfl 32 (by decide) hk254 (fun _ h9 => h9) rfl dX8_drawn_58 ?_
        refine lv_sipush (v := 9999) hx hb dX8_drawn_61 (by decide) ?_
        refine jww1 79 (fun (y19 : Int32) => [.int y19, .ref q_t]) (fun (y19 : Int32) H locs ls => va_P D vwCl [(q_t, oX8 q_t_shelf q_t_rowSort q_t_rowSize q_t_rows q_t_moved q_t_shown q_t_tape v_t_tapeSize q_t_refused v_t_places q_t_ways v_t_people q_t_kind q_t_by q_t_home q_t_aim q_t_at0 v_t_hour v_t_chance u16 w_t_kept w_t_tried v_t_at v_t_token v_t_from v_t_figures v_t_fault q_t_told v_t_statements q_t_steps q_t_spot q_t_then u9 v_t_gone q_t_sights q_t_darkAt q_t_can), (q_t_refused, .inl (cy 0, 8, .inl v_t_refused)), (q_t_ways, .inl (cy 0, 12, .inl v_t_ways)), (q_t_kind, .inl (cy 0, 8, .inl v_t_kind)), (q_t_at0, .inl (cy 0, 8, .inl v_t_at0)), (q_t_spot, .inl (cy 0, 8, .inl u17))] H ∧ va_D A [(q_t, oX8 q_t_shelf q_t_rowSort q_t_rowSize q_t_rows q_t_moved q_t_shown q_t_tape v_t_tapeSize q_t_refused v_t_places q_t_ways v_t_people q_t_kind q_t_by q_t_home q_t_aim q_t_at0 v_t_hour v_t_chance u16 w_t_kept w_t_tried v_t_at v_t_token v_t_from v_t_figures v_t_fault q_t_told v_t_statements q_t_steps q_t_spot q_t_then u9 v_t_gone q_t_sights q_t_darkAt q_t_can), (q_t_refused, .inl (cy 0, 8, .inl v_t_refused)), (q_t_ways, .inl (cy 0, 12, .inl v_t_ways)), (q_t_kind, .inl (cy 0, 8, .inl v_t_kind)), (q_t_at0, .inl (cy 0, 8, .inl v_t_at0)), (q_t_spot, .inl (cy 0, 8, .inl u17))] ∧ va_S A s.heap H locs ∧ lv_has ls 5 [(0, .ref q_t), (1, .int p0), (2, .int x6), (3, .int x7)]) hf (fun y19 H locs ls hI hf => ?_) (fun k20 J79 hf => ?_)
        · obtain ⟨hP, hD, hS, hl⟩ := hI
          refine va_put (D := D) (ci := 8) (v := .int y19) (ty := .int) (C := RX8) (T := TX8) (N := 37) hx hb hts hinX8 tyX8 tyX8_ok nmX8 hown hK.1 hP hD hS 0 rfl rfl 32 (by decide) hk254 (fun _ h9 => h9) rfl (by decide +kernel) rfl rfl (Nat.le_of_ble_eq_true rfl) dX8_drawn_79 (fun H locs hP hD hS => ?_)
          have hP : va_P D vwCl [(q_t, oX8 q_t_shelf q_t_rowSort q_t_rowSize q_t_rows q_t_moved q_t_shown q_t_tape v_t_tapeSize q_t_refused v_t_places q_t_ways v_t_people q_t_kind q_t_by q_t_home q_t_aim q_t_at0 v_t_hour v_t_chance u16 w_t_kept w_t_tried v_t_at v_t_token v_t_from v_t_figures v_t_fault q_t_told v_t_statements q_t_steps q_t_spot q_t_then y19 v_t_gone q_t_sights q_t_darkAt q_t_can), (q_t_refused, .inl (cy 0, 8, .inl v_t_refused)), (q_t_ways, .inl (cy 0, 12, .inl v_t_ways)), (q_t_kind, .inl (cy 0, 8, .inl v_t_kind)), (q_t_at0, .inl (cy 0, 8, .inl v_t_at0)), (q_t_spot, .inl (cy 0, 8, .inl u17))] H := hP
          have hD : va_D A [(q_t, oX8 q_t_shelf q_t_rowSort q_t_rowSize q_t_rows q_t_moved q_t_shown q_t_tape v_t_tapeSize q_t_refused v_t_places q_t_ways v_t_people q_t_kind q_t_by q_t_home q_t_aim q_t_at0 v_t_hour v_t_chance u16 w_t_kept w_t_tried v_t_at v_t_token v_t_from v_t_figures v_t_fault q_t_told v_t_statements q_t_steps q_t_spot q_t_then y19 v_t_gone q_t_sights q_t_darkAt q_t_can), (q_t_refused, .inl (cy 0, 8, .inl v_t_refused)), (q_t_ways, .inl (cy 0, 12, .inl v_t_ways)), (q_t_kind, .inl (cy 0, 8, .inl v_t_kind)), (q_t_at0, .inl (cy 0, 8, .inl v_t_at0)), (q_t_spot, .inl (cy 0, 8, .inl u17))] := hD
          refine lv_iload_n hx hb dX8_drawn_82 rfl (lv_at hl 2 rfl) ?_
          refine lv_aload_n hx hb dX8_drawn_83 rfl (lv_at hl 0 rfl) ?_
          obtain ⟨r21, hr22, hf⟩ := boE1 hf
          have hPc := hP.sub (ws' := [(q_t, oX8 q_t_shelf q_t_rowSort q_t_rowSize q_t_rows q_t_moved q_t_shown q_t_tape v_t_tapeSize q_t_refused v_t_places q_t_ways v_t_people q_t_kind q_t_by q_t_home q_t_aim q_t_at0 v_t_hour v_t_chance u16 w_t_kept w_t_tried v_t_at v_t_token v_t_from v_t_figures v_t_fault q_t_told v_t_statements q_t_steps q_t_spot q_t_then y19 v_t_gone q_t_sights q_t_darkAt q_t_can), (q_t_kind, .inl (cy 0, 8, .inl v_t_kind)), (q_t_spot, .inl (cy 0, 8, .inl u17))]) [0, 3, 5] rfl
          refine xcSi (va_runV (As := []) (rest := [.int x6]) ⟨hx, hb, hml, hown, hts⟩ (mX8_light l D cy q_t q_t_shelf q_t_rowSort q_t_rowSize q_t_rows q_t_moved q_t_shown q_t_tape q_t_refused q_t_ways q_t_kind q_t_by q_t_home q_t_aim q_t_at0 q_t_told q_t_steps q_t_spot q_t_then q_t_sights q_t_darkAt q_t_can v_t_tapeSize v_t_places v_t_people v_t_hour v_t_chance u16 w_t_kept w_t_tried v_t_at v_t_token v_t_from v_t_figures v_t_fault v_t_statements y19 v_t_gone v_t_kind u17   hr22) (cwV 0 hts gX8_drawn_X8_light rfl rfl rfl (by decide +kernel) ⟨Nat.le_of_ble_eq_true rfl, Nat.le_of_ble_eq_true rfl⟩) (xPV hK hPc (ci := 8) (q0 := 0) rfl rfl) rfl rfl hl.1 rfl (lv_room (Nat.le_of_ble_eq_true rfl)) dX8_drawn_84 ⟨Nat.le_of_ble_eq_true rfl, Nat.le_of_ble_eq_true rfl⟩) ?_
          obtain ⟨r23, hr24, hf⟩ := boE1 hf
          have hPc := hP.sub (ws' := []) [] rfl
          refine xcSi (va_runS (As := [.int r21]) (rest := [.int x6]) ⟨hx, hb, hml, hown, hts⟩ (mX8_bits l D cy    r21 hr24) (va_cwS 1 hts gX8_drawn_X8_bits rfl rfl rfl (by decide +kernel) ⟨Nat.le_of_ble_eq_true rfl, Nat.le_of_ble_eq_true rfl⟩) (xPS hK hPc) rfl rfl hl.1 rfl (lv_room (Nat.le_of_ble_eq_true rfl)) dX8_drawn_87 ⟨Nat.le_of_ble_eq_true rfl, Nat.le_of_ble_eq_true rfl⟩) ?_
          refine lv_iadd hx hb dX8_drawn_90 ?_
          refine lv_topi (fun x25 ex25 => ?_)
          have hf := vlE hf ex25
          clear ex25
          refine lv_istore_n (lv' := [(2, .int x25), (0, .ref q_t), (1, .int p0), (3, .int x7)]) hx hb dX8_drawn_91 rfl hl (by decide) rfl (fun ls hl => ?_)
          obtain ⟨x26, ex26⟩ : ∃ y : Int32, y = x7 + (1 : Int32) := ⟨_, rfl⟩
          have hf := vlE hf ex26
          refine lv_iinc (v := x26) (lv' := [(3, .int x26), (2, .int x25), (0, .ref q_t), (1, .int p0)]) hx hb dX8_drawn_92 hl (k := 3) rfl (by rw [ex26]; rfl) (by decide) rfl (fun ls hl => ?_)
          clear ex26
          refine lv_goto (tgt := 27) hx hb dX8_drawn_95 (by decide) ?_
          exact L27 x25 x26 u16 y19 u17 _ _ ls ⟨hP, hD, hS, lv_sub hl [1, 0, 2, 3] rfl⟩ hf
        · refine lv_icmp_ge (tgt := 76) hx hb dX8_drawn_64 (by decide) (fun c27 => ?_) (fun c27 => ?_)
          · have hf := ifT hf c27
            clear c27
            refine lv_sipush (v := 9999) hx hb dX8_drawn_76 (by decide) ?_
            exact J79 (9999 : Int32) _ _ ls ⟨hP, hD, hS, lv_sub hl [3, 4, 1, 2] rfl⟩ hf
          · have hf := ifF hf c27
            clear c27
            refine lv_aload_n hx hb dX8_drawn_67 rfl (lv_at hl 3 rfl) ?_
            refine va_get (D := D) (ci := 8) (v := .int u9) (C := RX8) (T := TX8) (N := 37) hx hb hts hinX8 hown hK.1 hP 0 rfl rfl 32 (by decide) hk254 (fun _ h9 => h9) rfl dX8_drawn_68 ?_
            refine lv_iconst (v := 1) hx hb dX8_drawn_71 (by decide) ?_
            refine lv_iadd hx hb dX8_drawn_72 ?_
            refine lv_goto (tgt := 79) hx hb dX8_drawn_73 (by decide) ?_
            exact J79 (u9 + (1 : Int32)) _ _ ls ⟨hP, hD, hS, lv_sub hl [3, 4, 1, 2] rfl⟩ hf
      · have hf := ifF hf c32
        clear c32
        refine lv_aload_n hx hb dX8_drawn_44 rfl (lv_at hl 3 rfl) ?_
        refine lv_iload hx hb dX8_drawn_45 (lv_at hl 0 rfl) ?_
        obtain ⟨u28, u29, hr30, hf⟩ := boE2 hf
        have hPc := hP.sub (ws' := [(q_t, oX8 q_t_shelf q_t_rowSort q_t_rowSize q_t_rows q_t_moved q_t_shown q_t_tape v_t_tapeSize q_t_refused v_t_places q_t_ways v_t_people q_t_kind q_t_by q_t_home q_t_aim q_t_at0 v_t_hour v_t_chance u16 w_t_kept w_t_tried v_t_at v_t_token v_t_from v_t_figures v_t_fault q_t_told v_t_statements q_t_steps q_t_spot q_t_then u9 v_t_gone q_t_sights q_t_darkAt q_t_can), (q_t_ways, .inl (cy 0, 12, .inl v_t_ways)), (q_t_kind, .inl (cy 0, 8, .inl v_t_kind)), (q_t_spot, .inl (cy 0, 8, .inl u17))]) [0, 2, 3, 5] rfl
        have hDc := hD.sub (ws' := [(q_t, oX8 q_t_shelf q_t_rowSort q_t_rowSize q_t_rows q_t_moved q_t_shown q_t_tape v_t_tapeSize q_t_refused v_t_places q_t_ways v_t_people q_t_kind q_t_by q_t_home q_t_aim q_t_at0 v_t_hour v_t_chance u16 w_t_kept w_t_tried v_t_at v_t_token v_t_from v_t_figures v_t_fault q_t_told v_t_statements q_t_steps q_t_spot q_t_then u9 v_t_gone q_t_sights q_t_darkAt q_t_can), (q_t_ways, .inl (cy 0, 12, .inl v_t_ways)), (q_t_kind, .inl (cy 0, 8, .inl v_t_kind)), (q_t_spot, .inl (cy 0, 8, .inl u17))]) [0, 2, 3, 5] (by decide) rfl
        refine xcQv (w1 := [(q_t, oX8 q_t_shelf q_t_rowSort q_t_rowSize q_t_rows q_t_moved q_t_shown q_t_tape v_t_tapeSize q_t_refused v_t_places q_t_ways v_t_people q_t_kind q_t_by q_t_home q_t_aim q_t_at0 v_t_hour v_t_chance u28 w_t_kept w_t_tried v_t_at v_t_token v_t_from v_t_figures v_t_fault q_t_told v_t_statements q_t_steps q_t_spot q_t_then u9 v_t_gone q_t_sights q_t_darkAt q_t_can), (q_t_ways, .inl (cy 0, 12, .inl v_t_ways)), (q_t_kind, .inl (cy 0, 8, .inl v_t_kind)), (q_t_spot, .inl (cy 0, 8, .inl u29))]) (va_runV (As := [.int x15]) (rest := []) ⟨hx, hb, hml, hown, hts⟩ (mX8_strays l D cy q_t q_t_shelf q_t_rowSort q_t_rowSize q_t_rows q_t_moved q_t_shown q_t_tape q_t_refused q_t_ways q_t_kind q_t_by q_t_home q_t_aim q_t_at0 q_t_told q_t_steps q_t_spot q_t_then q_t_sights q_t_darkAt q_t_can v_t_tapeSize v_t_places v_t_people v_t_hour v_t_chance u16 w_t_kept w_t_tried v_t_at v_t_token v_t_from v_t_figures v_t_fault v_t_statements u9 v_t_gone v_t_ways v_t_kind u17 _ x15 hr30) (cwV 1 hts gX8_drawn_X8_strays rfl rfl rfl (by decide +kernel) ⟨Nat.le_of_ble_eq_true rfl, Nat.le_of_ble_eq_true rfl⟩) (xPVw hK hPc hDc (ci := 8) (q0 := 0) rfl rfl) rfl rfl hl.1 rfl (lv_room (Nat.le_of_ble_eq_true rfl)) dX8_drawn_47 ⟨Nat.le_of_ble_eq_true rfl, Nat.le_of_ble_eq_true rfl⟩) hP hD hS hA [0, 2, 3, 5] rfl rfl (fun H locs hP hD hS => ?_)
        have hP : va_P D vwCl [(q_t, oX8 q_t_shelf q_t_rowSort q_t_rowSize q_t_rows q_t_moved q_t_shown q_t_tape v_t_tapeSize q_t_refused v_t_places q_t_ways v_t_people q_t_kind q_t_by q_t_home q_t_aim q_t_at0 v_t_hour v_t_chance u28 w_t_kept w_t_tried v_t_at v_t_token v_t_from v_t_figures v_t_fault q_t_told v_t_statements q_t_steps q_t_spot q_t_then u9 v_t_gone q_t_sights q_t_darkAt q_t_can), (q_t_refused, .inl (cy 0, 8, .inl v_t_refused)), (q_t_ways, .inl (cy 0, 12, .inl v_t_ways)), (q_t_kind, .inl (cy 0, 8, .inl v_t_kind)), (q_t_at0, .inl (cy 0, 8, .inl v_t_at0)), (q_t_spot, .inl (cy 0, 8, .inl u29))] H := hP
        have hD : va_D A [(q_t, oX8 q_t_shelf q_t_rowSort q_t_rowSize q_t_rows q_t_moved q_t_shown q_t_tape v_t_tapeSize q_t_refused v_t_places q_t_ways v_t_people q_t_kind q_t_by q_t_home q_t_aim q_t_at0 v_t_hour v_t_chance u28 w_t_kept w_t_tried v_t_at v_t_token v_t_from v_t_figures v_t_fault q_t_told v_t_statements q_t_steps q_t_spot q_t_then u9 v_t_gone q_t_sights q_t_darkAt q_t_can), (q_t_refused, .inl (cy 0, 8, .inl v_t_refused)), (q_t_ways, .inl (cy 0, 12, .inl v_t_ways)), (q_t_kind, .inl (cy 0, 8, .inl v_t_kind)), (q_t_at0, .inl (cy 0, 8, .inl v_t_at0)), (q_t_spot, .inl (cy 0, 8, .inl u29))] := hD
        obtain ⟨x31, ex31⟩ : ∃ y : Int32, y = x15 + (1 : Int32) := ⟨_, rfl⟩
        have hf := vlE hf ex31
        refine lv_iinc (v := x31) (lv' := [(4, .int x31), (2, .int x6), (3, .int x7), (0, .ref q_t), (1, .int p0)]) hx hb dX8_drawn_50 hl (k := 0) rfl (by rw [ex31]; rfl) (by decide) rfl (fun ls hl => ?_)
        clear ex31
        refine lv_goto (tgt := 35) hx hb dX8_drawn_53 (by decide) ?_
        exact L35 x31 u28 u29 _ _ ls ⟨hP, hD, hS, lv_sub hl [0, 1, 2, 3, 4] rfl⟩ hf
  · have hf := ifT hf c37
    clear c37
    refine lv_aload_n hx hb dX8_drawn_12 rfl (lv_at hl 0 rfl) ?_
    refine lv_bipush (v := (-2)) hx hb dX8_drawn_13 (by decide) ?_
    obtain ⟨r34, u35, hr36, hf⟩ := boE2 hf
    have hPc := hP.sub (ws' := [(q_t, oX8 q_t_shelf q_t_rowSort q_t_rowSize q_t_rows q_t_moved q_t_shown q_t_tape v_t_tapeSize q_t_refused v_t_places q_t_ways v_t_people q_t_kind q_t_by q_t_home q_t_aim q_t_at0 v_t_hour v_t_chance v_t_seed w_t_kept w_t_tried v_t_at v_t_token v_t_from v_t_figures v_t_fault q_t_told v_t_statements q_t_steps q_t_spot q_t_then v_t_now v_t_gone q_t_sights q_t_darkAt q_t_can), (q_t_refused, .inl (cy 0, 8, .inl v_t_refused))]) [0, 1] rfl
    have hDc := hD.sub (ws' := [(q_t, oX8 q_t_shelf q_t_rowSort q_t_rowSize q_t_rows q_t_moved q_t_shown q_t_tape v_t_tapeSize q_t_refused v_t_places q_t_ways v_t_people q_t_kind q_t_by q_t_home q_t_aim q_t_at0 v_t_hour v_t_chance v_t_seed w_t_kept w_t_tried v_t_at v_t_token v_t_from v_t_figures v_t_fault q_t_told v_t_statements q_t_steps q_t_spot q_t_then v_t_now v_t_gone q_t_sights q_t_darkAt q_t_can), (q_t_refused, .inl (cy 0, 8, .inl v_t_refused))]) [0, 1] (by decide) rfl
    refine xcQi (w1 := [(q_t, oX8 q_t_shelf q_t_rowSort q_t_rowSize q_t_rows q_t_moved q_t_shown q_t_tape v_t_tapeSize q_t_refused v_t_places q_t_ways v_t_people q_t_kind q_t_by q_t_home q_t_aim q_t_at0 v_t_hour v_t_chance v_t_seed w_t_kept w_t_tried v_t_at v_t_token v_t_from v_t_figures v_t_fault q_t_told v_t_statements q_t_steps q_t_spot q_t_then v_t_now v_t_gone q_t_sights q_t_darkAt q_t_can), (q_t_refused, .inl (cy 0, 8, .inl u35))]) (va_runV (As := [.int (-2 : Int32)]) (rest := []) ⟨hx, hb, hml, hown, hts⟩ (mX8_refuse l D cy q_t q_t_shelf q_t_rowSort q_t_rowSize q_t_rows q_t_moved q_t_shown q_t_tape q_t_refused q_t_ways q_t_kind q_t_by q_t_home q_t_aim q_t_at0 q_t_told q_t_steps q_t_spot q_t_then q_t_sights q_t_darkAt q_t_can v_t_tapeSize v_t_places v_t_people v_t_hour v_t_chance v_t_seed w_t_kept w_t_tried v_t_at v_t_token v_t_from v_t_figures v_t_fault v_t_statements v_t_now v_t_gone v_t_refused _ (-2 : Int32) hr36) (cwV 1 hts gX8_drawn_X8_refuse rfl rfl rfl (by decide +kernel) ⟨Nat.le_of_ble_eq_true rfl, Nat.le_of_ble_eq_true rfl⟩) (xPVw hK hPc hDc (ci := 8) (q0 := 0) rfl rfl) rfl rfl hl.1 rfl (lv_room (Nat.le_of_ble_eq_true rfl)) dX8_drawn_15 ⟨Nat.le_of_ble_eq_true rfl, Nat.le_of_ble_eq_true rfl⟩) hP hD hS hA [0, 1] rfl rfl (fun H locs hP hD hS => ?_)
    have hP : va_P D vwCl [(q_t, oX8 q_t_shelf q_t_rowSort q_t_rowSize q_t_rows q_t_moved q_t_shown q_t_tape v_t_tapeSize q_t_refused v_t_places q_t_ways v_t_people q_t_kind q_t_by q_t_home q_t_aim q_t_at0 v_t_hour v_t_chance v_t_seed w_t_kept w_t_tried v_t_at v_t_token v_t_from v_t_figures v_t_fault q_t_told v_t_statements q_t_steps q_t_spot q_t_then v_t_now v_t_gone q_t_sights q_t_darkAt q_t_can), (q_t_refused, .inl (cy 0, 8, .inl u35)), (q_t_ways, .inl (cy 0, 12, .inl v_t_ways)), (q_t_kind, .inl (cy 0, 8, .inl v_t_kind)), (q_t_at0, .inl (cy 0, 8, .inl v_t_at0)), (q_t_spot, .inl (cy 0, 8, .inl v_t_spot))] H := hP
    have hD : va_D A [(q_t, oX8 q_t_shelf q_t_rowSort q_t_rowSize q_t_rows q_t_moved q_t_shown q_t_tape v_t_tapeSize q_t_refused v_t_places q_t_ways v_t_people q_t_kind q_t_by q_t_home q_t_aim q_t_at0 v_t_hour v_t_chance v_t_seed w_t_kept w_t_tried v_t_at v_t_token v_t_from v_t_figures v_t_fault q_t_told v_t_statements q_t_steps q_t_spot q_t_then v_t_now v_t_gone q_t_sights q_t_darkAt q_t_can), (q_t_refused, .inl (cy 0, 8, .inl u35)), (q_t_ways, .inl (cy 0, 12, .inl v_t_ways)), (q_t_kind, .inl (cy 0, 8, .inl v_t_kind)), (q_t_at0, .inl (cy 0, 8, .inl v_t_at0)), (q_t_spot, .inl (cy 0, 8, .inl v_t_spot))] := hD
    cases hf
    exact W.iret hx hb hr (fun t ht hW => ⟨⟨_, (), rfl, rfl, xend ht hP⟩, hS.F ht⟩) hS.2.2 dX8_drawn_18
def fX8_seed (v_t_seed : Int32) (p0 : Int32) : Option (Int32 × Int32) :=
  some (v_t_seed, p0)
set_option maxHeartbeats 4000000 in
set_option maxRecDepth 100000 in
theorem mX8_seed (l : Launch) (D : va_G) (cy : Nat → ClassId) (q_t q_t_shelf q_t_rowSort q_t_rowSize q_t_rows q_t_moved q_t_shown q_t_tape q_t_refused q_t_ways q_t_kind q_t_by q_t_home q_t_aim q_t_at0 q_t_told q_t_steps q_t_spot q_t_then q_t_sights q_t_darkAt q_t_can : Nat) (v_t_tapeSize : Int32) (v_t_places : Int32) (v_t_people : Int32) (v_t_hour : Int32) (v_t_chance : Int32) (v_t_seed : Int32) (w_t_kept : Value) (w_t_tried : Value) (v_t_at : Int32) (v_t_token : Int32) (v_t_from : Int32) (v_t_figures : Int32) (v_t_fault : Int32) (v_t_statements : Int32) (v_t_now : Int32) (v_t_gone : Int32) (sz : Nat) (p0 : Int32) {r_ : Int32} {n_t_seed : Int32} (hf : fX8_seed v_t_seed p0 = some (r_, n_t_seed)) : Met l yX8_seed wsX8_seed ({ frames := 0, cells := 0, slots := 0, locals := 0 }) (va_Pc [.ref q_t, .int p0] (fun U => U.heap.size = sz ∧ va_P D vwCl [(q_t, oX8 q_t_shelf q_t_rowSort q_t_rowSize q_t_rows q_t_moved q_t_shown q_t_tape v_t_tapeSize q_t_refused v_t_places q_t_ways v_t_people q_t_kind q_t_by q_t_home q_t_aim q_t_at0 v_t_hour v_t_chance v_t_seed w_t_kept w_t_tried v_t_at v_t_token v_t_from v_t_figures v_t_fault q_t_told v_t_statements q_t_steps q_t_spot q_t_then v_t_now v_t_gone q_t_sights q_t_darkAt q_t_can)] U.heap ∧ xK D cy U ∧ va_D (fun _ => True) [(q_t, oX8 q_t_shelf q_t_rowSort q_t_rowSize q_t_rows q_t_moved q_t_shown q_t_tape v_t_tapeSize q_t_refused v_t_places q_t_ways v_t_people q_t_kind q_t_by q_t_home q_t_aim q_t_at0 v_t_hour v_t_chance v_t_seed w_t_kept w_t_tried v_t_at v_t_token v_t_from v_t_figures v_t_fault q_t_told v_t_statements q_t_steps q_t_spot q_t_then v_t_now v_t_gone q_t_sights q_t_darkAt q_t_can)])) (va_Qi (fun (x : Int32) (_ : Unit) => x = r_) (fun _ t => va_P D vwCl [(q_t, oX8 q_t_shelf q_t_rowSort q_t_rowSize q_t_rows q_t_moved q_t_shown q_t_tape v_t_tapeSize q_t_refused v_t_places q_t_ways v_t_people q_t_kind q_t_by q_t_home q_t_aim q_t_at0 v_t_hour v_t_chance n_t_seed w_t_kept w_t_tried v_t_at v_t_token v_t_from v_t_figures v_t_fault q_t_told v_t_statements q_t_steps q_t_spot q_t_then v_t_now v_t_gone q_t_sights q_t_darkAt q_t_can)] t.heap) (va_A [(q_t, oX8 q_t_shelf q_t_rowSort q_t_rowSize q_t_rows q_t_moved q_t_shown q_t_tape v_t_tapeSize q_t_refused v_t_places q_t_ways v_t_people q_t_kind q_t_by q_t_home q_t_aim q_t_at0 v_t_hour v_t_chance v_t_seed w_t_kept w_t_tried v_t_at v_t_token v_t_from v_t_figures v_t_fault q_t_told v_t_statements q_t_steps q_t_spot q_t_then v_t_now v_t_gone q_t_sights q_t_darkAt q_t_can)] sz)) 0 0 (va_A [(q_t, oX8 q_t_shelf q_t_rowSort q_t_rowSize q_t_rows q_t_moved q_t_shown q_t_tape v_t_tapeSize q_t_refused v_t_places q_t_ways v_t_people q_t_kind q_t_by q_t_home q_t_aim q_t_at0 v_t_hour v_t_chance v_t_seed w_t_kept w_t_tried v_t_at v_t_token v_t_from v_t_figures v_t_fault q_t_told v_t_statements q_t_steps q_t_spot q_t_then v_t_now v_t_gone q_t_sights q_t_darkAt q_t_can)] sz) := by
  refine Met.ofW (cc := cX8_seed) (maxL := 3) (ret := (some .int)) (by decide) rfl ?_
  intro p e s m args below meth c s₁ B hml hv
  obtain ⟨rfl, hsz, hP, hK, hD0⟩ := hv
  have hx := B.exec
  have hb := B.bytes
  have hr := B.returns
  have hts := atoms_spec (ws := wsX8_seed) B.pre
  have hown : s.vm.findClass RX8 = some m.cls := findClass_of_methodNamed B.named
  have hlocks := B.notSynchronized
  subst hsz
  have hD := hD0.self (sz := s.heap.size)
  generalize hAe : va_A [(q_t, oX8 q_t_shelf q_t_rowSort q_t_rowSize q_t_rows q_t_moved q_t_shown q_t_tape v_t_tapeSize q_t_refused v_t_places q_t_ways v_t_people q_t_kind q_t_by q_t_home q_t_aim q_t_at0 v_t_hour v_t_chance v_t_seed w_t_kept w_t_tried v_t_at v_t_token v_t_from v_t_figures v_t_fault q_t_told v_t_statements q_t_steps q_t_spot q_t_then v_t_now v_t_gone q_t_sights q_t_darkAt q_t_can)] s.heap.size = A at hD ⊢
  have hA : ∀ q : Nat, s.heap.size ≤ q → A q := fun q h => by rw [← hAe]; exact Or.inr h
  have hS : va_S A s.heap s.heap [] := va_S.rf
  have hP : va_P D vwCl [(q_t, oX8 q_t_shelf q_t_rowSort q_t_rowSize q_t_rows q_t_moved q_t_shown q_t_tape v_t_tapeSize q_t_refused v_t_places q_t_ways v_t_people q_t_kind q_t_by q_t_home q_t_aim q_t_at0 v_t_hour v_t_chance v_t_seed w_t_kept w_t_tried v_t_at v_t_token v_t_from v_t_figures v_t_fault q_t_told v_t_statements q_t_steps q_t_spot q_t_then v_t_now v_t_gone q_t_sights q_t_darkAt q_t_can)] s.heap := hP
  have hinX8 : ∀ w ∈ u_ws RX8 TX8 37, w ∈ wsX8_seed := by decide +kernel
  have hk62 := hts (.fieldLink RX8 62 "ShowsWhereNobodyIsModel" "seed" "I") (by decide +kernel)
  have hl := lv_entry ([.ref q_t, .int p0]) (n := 3) (Nat.le_of_ble_eq_true rfl)
  rw [lg_entry_eq]
  generalize (lg_sl ([.ref q_t, .int p0]) ++ List.replicate (3 - (lg_sl ([.ref q_t, .int p0])).length) Slot.unset).toArray = ls at hl ⊢
  have hl : lv_has ls 3 [(0, .ref q_t), (1, .int p0)] := hl
  unfold fX8_seed at hf
  refine lv_aload_n hx hb dX8_seed_0 rfl (lv_at hl 0 rfl) ?_
  refine va_get (D := D) (ci := 8) (v := .int v_t_seed) (C := RX8) (T := TX8) (N := 37) hx hb hts hinX8 hown hK.1 hP 0 rfl rfl 19 (by decide) hk62 (fun _ h9 => h9) rfl dX8_seed_1 ?_
  refine lv_istore_n (lv' := [(2, .int v_t_seed), (0, .ref q_t), (1, .int p0)]) hx hb dX8_seed_4 rfl hl (by decide) rfl (fun ls hl => ?_)
  refine lv_aload_n hx hb dX8_seed_5 rfl (lv_at hl 1 rfl) ?_
  refine lv_iload_n hx hb dX8_seed_6 rfl (lv_at hl 2 rfl) ?_
  refine va_put (D := D) (ci := 8) (v := .int p0) (ty := .int) (C := RX8) (T := TX8) (N := 37) hx hb hts hinX8 tyX8 tyX8_ok nmX8 hown hK.1 hP hD hS 0 rfl rfl 19 (by decide) hk62 (fun _ h9 => h9) rfl (by decide +kernel) rfl rfl (Nat.le_of_ble_eq_true rfl) dX8_seed_7 (fun H locs hP hD hS => ?_)
  have hP : va_P D vwCl [(q_t, oX8 q_t_shelf q_t_rowSort q_t_rowSize q_t_rows q_t_moved q_t_shown q_t_tape v_t_tapeSize q_t_refused v_t_places q_t_ways v_t_people q_t_kind q_t_by q_t_home q_t_aim q_t_at0 v_t_hour v_t_chance p0 w_t_kept w_t_tried v_t_at v_t_token v_t_from v_t_figures v_t_fault q_t_told v_t_statements q_t_steps q_t_spot q_t_then v_t_now v_t_gone q_t_sights q_t_darkAt q_t_can)] H := hP
  have hD : va_D A [(q_t, oX8 q_t_shelf q_t_rowSort q_t_rowSize q_t_rows q_t_moved q_t_shown q_t_tape v_t_tapeSize q_t_refused v_t_places q_t_ways v_t_people q_t_kind q_t_by q_t_home q_t_aim q_t_at0 v_t_hour v_t_chance p0 w_t_kept w_t_tried v_t_at v_t_token v_t_from v_t_figures v_t_fault q_t_told v_t_statements q_t_steps q_t_spot q_t_then v_t_now v_t_gone q_t_sights q_t_darkAt q_t_can)] := hD
  refine lv_iload_n hx hb dX8_seed_10 rfl (lv_at hl 0 rfl) ?_
  cases hf
  exact W.iret hx hb hr (fun t ht hW => ⟨⟨_, (), rfl, rfl, xend ht hP⟩, hS.F ht⟩) hS.2.2 dX8_seed_11
def fX8_status (v_t_tapeSize : Int32) (v_t_places : Int32) (v_t_people : Int32) (v_t_hour : Int32) (v_t_chance : Int32) (v_t_seed : Int32) (v_t_now : Int32) (v_t_gone : Int32) (v_t_shelf : Nat → Int32) (v_t_refused : Nat → Int32) (v_t_ways : Nat → Int32) (v_t_kind : Nat → Int32) (v_t_at0 : Nat → Int32) (v_t_spot : Nat → Int32) (p0 : Int32) : Option (Int32 × Int32 × (Nat → Int32)) :=
  if p0 = (0 : Int32) then
    some (v_t_places, v_t_now, v_t_spot)
  else
    if p0 = (1 : Int32) then
      lo2 (fun g31 (x29 : Int32) (x30 : Int32) =>
        if v_t_places ≤ x30 then
          some (x29 / (2 : Int32), v_t_now, v_t_spot)
        else
          if x30 < 0 ∨ 12 ≤ x30.toNatClampNeg then none else
          bo1 (fX8_bits (v_t_ways x30.toNatClampNeg)) fun r33 =>
          vlet (x29 + r33) fun x35 =>
          vlet (x30 + (1 : Int32)) fun x36 =>
          g31 x35 x36) 400 (0 : Int32) (0 : Int32)
    else
      if p0 = (2 : Int32) then
        some (v_t_people, v_t_now, v_t_spot)
      else
        if p0 = (3 : Int32) then
          some (v_t_hour, v_t_now, v_t_spot)
        else
          if p0 = (4 : Int32) then
            some (v_t_chance, v_t_now, v_t_spot)
          else
            if p0 = (5 : Int32) then
              bo2 (fX8_begin v_t_people v_t_hour v_t_at0 v_t_spot) fun u24 u25 =>
              bo1 (fX8_light v_t_places v_t_people v_t_gone v_t_kind u25) fun r27 =>
              some (r27, u24, u25)
            else
              if p0 = (6 : Int32) then
                some (v_t_tapeSize, v_t_now, v_t_spot)
              else
                if p0 = (7 : Int32) then
                  some (v_t_seed, v_t_now, v_t_spot)
                else
                  if p0 = (8 : Int32) then
                    lo2 (fun g16 (x14 : Int32) (x15 : Int32) =>
                      if (8 : Int32) ≤ x15 then
                        some (x14, v_t_now, v_t_spot)
                      else
                        if x15 < 0 ∨ 8 ≤ x15.toNatClampNeg then none else
                        jo1 (fun (y18 : Int32) =>
                          vlet (x14 + y18) fun x20 =>
                          vlet (x15 + (1 : Int32)) fun x21 =>
                          g16 x20 x21) fun k19 =>
                        if (v_t_shelf x15.toNatClampNeg) = 0 then
                          k19 (0 : Int32)
                        else
                          k19 (1 : Int32)) 400 (0 : Int32) (0 : Int32)
                  else
                    bo1 (fX8_in p0.toInt64 (12 : Int64) (16 : Int64)) fun r1 =>
                    if r1 = 0 then
                      some ((-1 : Int32), v_t_now, v_t_spot)
                    else
                      if (p0 - (10 : Int32)) < 0 ∨ 8 ≤ (p0 - (10 : Int32)).toNatClampNeg then none else
                      some (v_t_refused (p0 - (10 : Int32)).toNatClampNeg, v_t_now, v_t_spot)
set_option maxHeartbeats 4000000 in
set_option maxRecDepth 100000 in
theorem mX8_status (l : Launch) (D : va_G) (cy : Nat → ClassId) (q_t q_t_shelf q_t_rowSort q_t_rowSize q_t_rows q_t_moved q_t_shown q_t_tape q_t_refused q_t_ways q_t_kind q_t_by q_t_home q_t_aim q_t_at0 q_t_told q_t_steps q_t_spot q_t_then q_t_sights q_t_darkAt q_t_can : Nat) (v_t_tapeSize : Int32) (v_t_places : Int32) (v_t_people : Int32) (v_t_hour : Int32) (v_t_chance : Int32) (v_t_seed : Int32) (w_t_kept : Value) (w_t_tried : Value) (v_t_at : Int32) (v_t_token : Int32) (v_t_from : Int32) (v_t_figures : Int32) (v_t_fault : Int32) (v_t_statements : Int32) (v_t_now : Int32) (v_t_gone : Int32) (v_t_shelf : Nat → Int32) (v_t_refused : Nat → Int32) (v_t_ways : Nat → Int32) (v_t_kind : Nat → Int32) (v_t_at0 : Nat → Int32) (v_t_spot : Nat → Int32) (sz : Nat) (p0 : Int32) {r_ : Int32} {n_t_now : Int32} {n_t_spot : Nat → Int32} (hf : fX8_status v_t_tapeSize v_t_places v_t_people v_t_hour v_t_chance v_t_seed v_t_now v_t_gone v_t_shelf v_t_refused v_t_ways v_t_kind v_t_at0 v_t_spot p0 = some (r_, n_t_now, n_t_spot)) : Met l yX8_status wsX8_status ({ frames := 2, cells := 0, slots := 0, locals := 43 }) (va_Pc [.ref q_t, .int p0] (fun U => U.heap.size = sz ∧ va_P D vwCl [(q_t, oX8 q_t_shelf q_t_rowSort q_t_rowSize q_t_rows q_t_moved q_t_shown q_t_tape v_t_tapeSize q_t_refused v_t_places q_t_ways v_t_people q_t_kind q_t_by q_t_home q_t_aim q_t_at0 v_t_hour v_t_chance v_t_seed w_t_kept w_t_tried v_t_at v_t_token v_t_from v_t_figures v_t_fault q_t_told v_t_statements q_t_steps q_t_spot q_t_then v_t_now v_t_gone q_t_sights q_t_darkAt q_t_can), (q_t_shelf, .inl (cy 0, 8, .inl v_t_shelf)), (q_t_refused, .inl (cy 0, 8, .inl v_t_refused)), (q_t_ways, .inl (cy 0, 12, .inl v_t_ways)), (q_t_kind, .inl (cy 0, 8, .inl v_t_kind)), (q_t_at0, .inl (cy 0, 8, .inl v_t_at0)), (q_t_spot, .inl (cy 0, 8, .inl v_t_spot))] U.heap ∧ xK D cy U ∧ va_D (fun _ => True) [(q_t, oX8 q_t_shelf q_t_rowSort q_t_rowSize q_t_rows q_t_moved q_t_shown q_t_tape v_t_tapeSize q_t_refused v_t_places q_t_ways v_t_people q_t_kind q_t_by q_t_home q_t_aim q_t_at0 v_t_hour v_t_chance v_t_seed w_t_kept w_t_tried v_t_at v_t_token v_t_from v_t_figures v_t_fault q_t_told v_t_statements q_t_steps q_t_spot q_t_then v_t_now v_t_gone q_t_sights q_t_darkAt q_t_can), (q_t_shelf, .inl (cy 0, 8, .inl v_t_shelf)), (q_t_refused, .inl (cy 0, 8, .inl v_t_refused)), (q_t_ways, .inl (cy 0, 12, .inl v_t_ways)), (q_t_kind, .inl (cy 0, 8, .inl v_t_kind)), (q_t_at0, .inl (cy 0, 8, .inl v_t_at0)), (q_t_spot, .inl (cy 0, 8, .inl v_t_spot))])) (va_Qi (fun (x : Int32) (_ : Unit) => x = r_) (fun _ t => va_P D vwCl [(q_t, oX8 q_t_shelf q_t_rowSort q_t_rowSize q_t_rows q_t_moved q_t_shown q_t_tape v_t_tapeSize q_t_refused v_t_places q_t_ways v_t_people q_t_kind q_t_by q_t_home q_t_aim q_t_at0 v_t_hour v_t_chance v_t_seed w_t_kept w_t_tried v_t_at v_t_token v_t_from v_t_figures v_t_fault q_t_told v_t_statements q_t_steps q_t_spot q_t_then n_t_now v_t_gone q_t_sights q_t_darkAt q_t_can), (q_t_shelf, .inl (cy 0, 8, .inl v_t_shelf)), (q_t_refused, .inl (cy 0, 8, .inl v_t_refused)), (q_t_ways, .inl (cy 0, 12, .inl v_t_ways)), (q_t_kind, .inl (cy 0, 8, .inl v_t_kind)), (q_t_at0, .inl (cy 0, 8, .inl v_t_at0)), (q_t_spot, .inl (cy 0, 8, .inl n_t_spot))] t.heap) (va_A [(q_t, oX8 q_t_shelf q_t_rowSort q_t_rowSize q_t_rows q_t_moved q_t_shown q_t_tape v_t_tapeSize q_t_refused v_t_places q_t_ways v_t_people q_t_kind q_t_by q_t_home q_t_aim q_t_at0 v_t_hour v_t_chance v_t_seed w_t_kept w_t_tried v_t_at v_t_token v_t_from v_t_figures v_t_fault q_t_told v_t_statements q_t_steps q_t_spot q_t_then v_t_now v_t_gone q_t_sights q_t_darkAt q_t_can), (q_t_shelf, .inl (cy 0, 8, .inl v_t_shelf)), (q_t_refused, .inl (cy 0, 8, .inl v_t_refused)), (q_t_ways, .inl (cy 0, 12, .inl v_t_ways)), (q_t_kind, .inl (cy 0, 8, .inl v_t_kind)), (q_t_at0, .inl (cy 0, 8, .inl v_t_at0)), (q_t_spot, .inl (cy 0, 8, .inl v_t_spot))] sz)) 0 0 (va_A [(q_t, oX8 q_t_shelf q_t_rowSort q_t_rowSize q_t_rows q_t_moved q_t_shown q_t_tape v_t_tapeSize q_t_refused v_t_places q_t_ways v_t_people q_t_kind q_t_by q_t_home q_t_aim q_t_at0 v_t_hour v_t_chance v_t_seed w_t_kept w_t_tried v_t_at v_t_token v_t_from v_t_figures v_t_fault q_t_told v_t_statements q_t_steps q_t_spot q_t_then v_t_now v_t_gone q_t_sights q_t_darkAt q_t_can), (q_t_shelf, .inl (cy 0, 8, .inl v_t_shelf)), (q_t_refused, .inl (cy 0, 8, .inl v_t_refused)), (q_t_ways, .inl (cy 0, 12, .inl v_t_ways)), (q_t_kind, .inl (cy 0, 8, .inl v_t_kind)), (q_t_at0, .inl (cy 0, 8, .inl v_t_at0)), (q_t_spot, .inl (cy 0, 8, .inl v_t_spot))] sz) := by
  refine Met.ofW (cc := cX8_status) (maxL := 4) (ret := (some .int)) (by decide) rfl ?_
  intro p e s m args below meth c s₁ B hml hv
  obtain ⟨rfl, hsz, hP, hK, hD0⟩ := hv
  have hx := B.exec
  have hb := B.bytes
  have hr := B.returns
  have hts := atoms_spec (ws := wsX8_status) B.pre
  have hown : s.vm.findClass RX8 = some m.cls := findClass_of_methodNamed B.named
  have hlocks := B.notSynchronized
  subst hsz
  have hD := hD0.self (sz := s.heap.size)
  generalize hAe : va_A [(q_t, oX8 q_t_shelf q_t_rowSort q_t_rowSize q_t_rows q_t_moved q_t_shown q_t_tape v_t_tapeSize q_t_refused v_t_places q_t_ways v_t_people q_t_kind q_t_by q_t_home q_t_aim q_t_at0 v_t_hour v_t_chance v_t_seed w_t_kept w_t_tried v_t_at v_t_token v_t_from v_t_figures v_t_fault q_t_told v_t_statements q_t_steps q_t_spot q_t_then v_t_now v_t_gone q_t_sights q_t_darkAt q_t_can), (q_t_shelf, .inl (cy 0, 8, .inl v_t_shelf)), (q_t_refused, .inl (cy 0, 8, .inl v_t_refused)), (q_t_ways, .inl (cy 0, 12, .inl v_t_ways)), (q_t_kind, .inl (cy 0, 8, .inl v_t_kind)), (q_t_at0, .inl (cy 0, 8, .inl v_t_at0)), (q_t_spot, .inl (cy 0, 8, .inl v_t_spot))] s.heap.size = A at hD ⊢
  have hA : ∀ q : Nat, s.heap.size ≤ q → A q := fun q h => by rw [← hAe]; exact Or.inr h
  have hS : va_S A s.heap s.heap [] := va_S.rf
  have hP : va_P D vwCl [(q_t, oX8 q_t_shelf q_t_rowSort q_t_rowSize q_t_rows q_t_moved q_t_shown q_t_tape v_t_tapeSize q_t_refused v_t_places q_t_ways v_t_people q_t_kind q_t_by q_t_home q_t_aim q_t_at0 v_t_hour v_t_chance v_t_seed w_t_kept w_t_tried v_t_at v_t_token v_t_from v_t_figures v_t_fault q_t_told v_t_statements q_t_steps q_t_spot q_t_then v_t_now v_t_gone q_t_sights q_t_darkAt q_t_can), (q_t_shelf, .inl (cy 0, 8, .inl v_t_shelf)), (q_t_refused, .inl (cy 0, 8, .inl v_t_refused)), (q_t_ways, .inl (cy 0, 12, .inl v_t_ways)), (q_t_kind, .inl (cy 0, 8, .inl v_t_kind)), (q_t_at0, .inl (cy 0, 8, .inl v_t_at0)), (q_t_spot, .inl (cy 0, 8, .inl v_t_spot))] s.heap := hP
  have hc131 := hts (.constantLong RX8 131 (12)) (by decide +kernel)
  have hc334 := hts (.constantLong RX8 334 (16)) (by decide +kernel)
  have hinX8 : ∀ w ∈ u_ws RX8 TX8 37, w ∈ wsX8_status := by decide +kernel
  have hk34 := hts (.fieldLink RX8 34 "ShowsWhereNobodyIsModel" "refused" "[I") (by decide +kernel)
  have hk7 := hts (.fieldLink RX8 7 "ShowsWhereNobodyIsModel" "shelf" "[I") (by decide +kernel)
  have hk62 := hts (.fieldLink RX8 62 "ShowsWhereNobodyIsModel" "seed" "I") (by decide +kernel)
  have hk158 := hts (.fieldLink RX8 158 "ShowsWhereNobodyIsModel" "tapeSize" "I") (by decide +kernel)
  have hk59 := hts (.fieldLink RX8 59 "ShowsWhereNobodyIsModel" "chance" "I") (by decide +kernel)
  have hk153 := hts (.fieldLink RX8 153 "ShowsWhereNobodyIsModel" "hour" "I") (by decide +kernel)
  have hk95 := hts (.fieldLink RX8 95 "ShowsWhereNobodyIsModel" "people" "I") (by decide +kernel)
  have hk37 := hts (.fieldLink RX8 37 "ShowsWhereNobodyIsModel" "places" "I") (by decide +kernel)
  have hk41 := hts (.fieldLink RX8 41 "ShowsWhereNobodyIsModel" "ways" "[I") (by decide +kernel)
  have hl := lv_entry ([.ref q_t, .int p0]) (n := 4) (Nat.le_of_ble_eq_true rfl)
  rw [lg_entry_eq]
  generalize (lg_sl ([.ref q_t, .int p0]) ++ List.replicate (4 - (lg_sl ([.ref q_t, .int p0])).length) Slot.unset).toArray = ls at hl ⊢
  have hl : lv_has ls 4 [(0, .ref q_t), (1, .int p0)] := hl
  unfold fX8_status at hf
  refine lv_iconst (v := 0) hx hb dX8_status_0 (by decide) ?_
  refine lv_istore_n (lv' := [(2, .int (0 : Int32)), (0, .ref q_t), (1, .int p0)]) hx hb dX8_status_1 rfl hl (by decide) rfl (fun ls hl => ?_)
  refine lv_iload_n hx hb dX8_status_2 rfl (lv_at hl 2 rfl) ?_
  by_cases c5 : p0 = (0 : Int32)
  · have hf := ifT hf c5
    refine lv_tableIn (tgt := 52) hx hb dX8_status_3 (by rw [c5]; decide) (by rw [c5]; decide) (by rw [c5]; rfl) (by decide) ?_
    refine lv_aload_n hx hb dX8_status_52 rfl (lv_at hl 1 rfl) ?_
    refine va_get (D := D) (ci := 8) (v := .int v_t_places) (C := RX8) (T := TX8) (N := 37) hx hb hts hinX8 hown hK.1 hP 0 rfl rfl 9 (by decide) hk37 (fun _ h9 => h9) rfl dX8_status_53 ?_
    cases hf
    exact W.iret hx hb hr (fun t ht hW => ⟨⟨_, (), rfl, rfl, xend ht hP⟩, hS.F ht⟩) hS.2.2 dX8_status_56
  · have hf := ifF hf c5
    by_cases c6 : p0 = (1 : Int32)
    · have hf := ifT hf c6
      refine lv_tableIn (tgt := 57) hx hb dX8_status_3 (by rw [c6]; decide) (by rw [c6]; decide) (by rw [c6]; rfl) (by decide) ?_
      refine lv_iconst (v := 0) hx hb dX8_status_57 (by decide) ?_
      refine lv_istore_n (lv' := [(3, .int (0 : Int32)), (2, .int (0 : Int32)), (0, .ref q_t), (1, .int p0)]) hx hb dX8_status_58 rfl hl (by decide) rfl (fun ls hl => ?_)
      refine wlw2 59 (fun _ _ => []) (fun (x29 : Int32) (x30 : Int32) H locs ls => va_P D vwCl [(q_t, oX8 q_t_shelf q_t_rowSort q_t_rowSize q_t_rows q_t_moved q_t_shown q_t_tape v_t_tapeSize q_t_refused v_t_places q_t_ways v_t_people q_t_kind q_t_by q_t_home q_t_aim q_t_at0 v_t_hour v_t_chance v_t_seed w_t_kept w_t_tried v_t_at v_t_token v_t_from v_t_figures v_t_fault q_t_told v_t_statements q_t_steps q_t_spot q_t_then v_t_now v_t_gone q_t_sights q_t_darkAt q_t_can), (q_t_shelf, .inl (cy 0, 8, .inl v_t_shelf)), (q_t_refused, .inl (cy 0, 8, .inl v_t_refused)), (q_t_ways, .inl (cy 0, 12, .inl v_t_ways)), (q_t_kind, .inl (cy 0, 8, .inl v_t_kind)), (q_t_at0, .inl (cy 0, 8, .inl v_t_at0)), (q_t_spot, .inl (cy 0, 8, .inl v_t_spot))] H ∧ va_D A [(q_t, oX8 q_t_shelf q_t_rowSort q_t_rowSize q_t_rows q_t_moved q_t_shown q_t_tape v_t_tapeSize q_t_refused v_t_places q_t_ways v_t_people q_t_kind q_t_by q_t_home q_t_aim q_t_at0 v_t_hour v_t_chance v_t_seed w_t_kept w_t_tried v_t_at v_t_token v_t_from v_t_figures v_t_fault q_t_told v_t_statements q_t_steps q_t_spot q_t_then v_t_now v_t_gone q_t_sights q_t_darkAt q_t_can), (q_t_shelf, .inl (cy 0, 8, .inl v_t_shelf)), (q_t_refused, .inl (cy 0, 8, .inl v_t_refused)), (q_t_ways, .inl (cy 0, 12, .inl v_t_ways)), (q_t_kind, .inl (cy 0, 8, .inl v_t_kind)), (q_t_at0, .inl (cy 0, 8, .inl v_t_at0)), (q_t_spot, .inl (cy 0, 8, .inl v_t_spot))] ∧ va_S A s.heap H locs ∧ lv_has ls 4 [(2, .int x29), (3, .int x30), (0, .ref q_t)]) (fun g31 L59 x29 x30 H locs ls hI hf => ?_) 400 (0 : Int32) (0 : Int32) _ _ ls ⟨hP, hD, hS, lv_sub hl [1, 0, 2] rfl⟩ hf
      obtain ⟨hP, hD, hS, hl⟩ := hI
      refine lv_iload_n hx hb dX8_status_59 rfl (lv_at hl 1 rfl) ?_
      refine lv_aload_n hx hb dX8_status_60 rfl (lv_at hl 2 rfl) ?_
      refine va_get (D := D) (ci := 8) (v := .int v_t_places) (C := RX8) (T := TX8) (N := 37) hx hb hts hinX8 hown hK.1 hP 0 rfl rfl 9 (by decide) hk37 (fun _ h9 => h9) rfl dX8_status_61 ?_
      refine lv_icmp_ge (tgt := 85) hx hb dX8_status_64 (by decide) (fun c37 => ?_) (fun c37 => ?_)
      · have hf := ifT hf c37
        clear c37
        refine lv_iload_n hx hb dX8_status_85 rfl (lv_at hl 0 rfl) ?_
        refine lv_iconst (v := 2) hx hb dX8_status_86 (by decide) ?_
        refine lv_idiv hx hb dX8_status_87 (by decide) ?_
        cases hf
        exact W.iret hx hb hr (fun t ht hW => ⟨⟨_, (), rfl, rfl, xend ht hP⟩, hS.F ht⟩) hS.2.2 dX8_status_88
      · have hf := ifF hf c37
        clear c37
        refine lv_iload_n hx hb dX8_status_67 rfl (lv_at hl 0 rfl) ?_
        refine lv_aload_n hx hb dX8_status_68 rfl (lv_at hl 2 rfl) ?_
        refine va_get (D := D) (ci := 8) (v := .ref q_t_ways) (C := RX8) (T := TX8) (N := 37) hx hb hts hinX8 hown hK.1 hP 0 rfl rfl 10 (by decide) hk41 (fun _ h9 => h9) rfl dX8_status_69 ?_
        refine lv_iload_n hx hb dX8_status_72 rfl (lv_at hl 1 rfl) ?_
        obtain ⟨hi32, hf⟩ := ckE hf
        refine va_iald hx hb hK.1 hP 3 0 rfl rfl hi32 dX8_status_73 ?_
        obtain ⟨r33, hr34, hf⟩ := boE1 hf
        have hPc := hP.sub (ws' := []) [] rfl
        refine xcSi (va_runS (As := [.int (v_t_ways x30.toNatClampNeg)]) (rest := [.int x29]) ⟨hx, hb, hml, hown, hts⟩ (mX8_bits l D cy    (v_t_ways x30.toNatClampNeg) hr34) (va_cwS 1 hts gX8_status_X8_bits rfl rfl rfl (by decide +kernel) ⟨Nat.le_of_ble_eq_true rfl, Nat.le_of_ble_eq_true rfl⟩) (xPS hK hPc) rfl rfl hl.1 rfl (lv_room (Nat.le_of_ble_eq_true rfl)) dX8_status_74 ⟨Nat.le_of_ble_eq_true rfl, Nat.le_of_ble_eq_true rfl⟩) ?_
        refine lv_iadd hx hb dX8_status_77 ?_
        refine lv_topi (fun x35 ex35 => ?_)
        have hf := vlE hf ex35
        clear ex35
        refine lv_istore_n (lv' := [(2, .int x35), (3, .int x30), (0, .ref q_t)]) hx hb dX8_status_78 rfl hl (by decide) rfl (fun ls hl => ?_)
        obtain ⟨x36, ex36⟩ : ∃ y : Int32, y = x30 + (1 : Int32) := ⟨_, rfl⟩
        have hf := vlE hf ex36
        refine lv_iinc (v := x36) (lv' := [(3, .int x36), (2, .int x35), (0, .ref q_t)]) hx hb dX8_status_79 hl (k := 1) rfl (by rw [ex36]; rfl) (by decide) rfl (fun ls hl => ?_)
        clear ex36
        refine lv_goto (tgt := 59) hx hb dX8_status_82 (by decide) ?_
        exact L59 x35 x36 _ _ ls ⟨hP, hD, hS, lv_sub hl [1, 0, 2] rfl⟩ hf
    · have hf := ifF hf c6
      by_cases c7 : p0 = (2 : Int32)
      · have hf := ifT hf c7
        refine lv_tableIn (tgt := 89) hx hb dX8_status_3 (by rw [c7]; decide) (by rw [c7]; decide) (by rw [c7]; rfl) (by decide) ?_
        refine lv_aload_n hx hb dX8_status_89 rfl (lv_at hl 1 rfl) ?_
        refine va_get (D := D) (ci := 8) (v := .int v_t_people) (C := RX8) (T := TX8) (N := 37) hx hb hts hinX8 hown hK.1 hP 0 rfl rfl 11 (by decide) hk95 (fun _ h9 => h9) rfl dX8_status_90 ?_
        cases hf
        exact W.iret hx hb hr (fun t ht hW => ⟨⟨_, (), rfl, rfl, xend ht hP⟩, hS.F ht⟩) hS.2.2 dX8_status_93
      · have hf := ifF hf c7
        by_cases c8 : p0 = (3 : Int32)
        · have hf := ifT hf c8
          refine lv_tableIn (tgt := 94) hx hb dX8_status_3 (by rw [c8]; decide) (by rw [c8]; decide) (by rw [c8]; rfl) (by decide) ?_
          refine lv_aload_n hx hb dX8_status_94 rfl (lv_at hl 1 rfl) ?_
          refine va_get (D := D) (ci := 8) (v := .int v_t_hour) (C := RX8) (T := TX8) (N := 37) hx hb hts hinX8 hown hK.1 hP 0 rfl rfl 17 (by decide) hk153 (fun _ h9 => h9) rfl dX8_status_95 ?_
          cases hf
          exact W.iret hx hb hr (fun t ht hW => ⟨⟨_, (), rfl, rfl, xend ht hP⟩, hS.F ht⟩) hS.2.2 dX8_status_98
        · have hf := ifF hf c8
          by_cases c9 : p0 = (4 : Int32)
          · have hf := ifT hf c9
            refine lv_tableIn (tgt := 99) hx hb dX8_status_3 (by rw [c9]; decide) (by rw [c9]; decide) (by rw [c9]; rfl) (by decide) ?_
            refine lv_aload_n hx hb dX8_status_99 rfl (lv_at hl 1 rfl) ?_
            refine va_get (D := D) (ci := 8) (v := .int v_t_chance) (C := RX8) (T := TX8) (N := 37) hx hb hts hinX8 hown hK.1 hP 0 rfl rfl 18 (by decide) hk59 (fun _ h9 => h9) rfl dX8_status_100 ?_
            cases hf
            exact W.iret hx hb hr (fun t ht hW => ⟨⟨_, (), rfl, rfl, xend ht hP⟩, hS.F ht⟩) hS.2.2 dX8_status_103
          · have hf := ifF hf c9
            by_cases c10 : p0 = (5 : Int32)
            · have hf := ifT hf c10
              refine lv_tableIn (tgt := 104) hx hb dX8_status_3 (by rw [c10]; decide) (by rw [c10]; decide) (by rw [c10]; rfl) (by decide) ?_
              refine lv_aload_n hx hb dX8_status_104 rfl (lv_at hl 1 rfl) ?_
              obtain ⟨u24, u25, hr26, hf⟩ := boE2 hf
              have hPc := hP.sub (ws' := [(q_t, oX8 q_t_shelf q_t_rowSort q_t_rowSize q_t_rows q_t_moved q_t_shown q_t_tape v_t_tapeSize q_t_refused v_t_places q_t_ways v_t_people q_t_kind q_t_by q_t_home q_t_aim q_t_at0 v_t_hour v_t_chance v_t_seed w_t_kept w_t_tried v_t_at v_t_token v_t_from v_t_figures v_t_fault q_t_told v_t_statements q_t_steps q_t_spot q_t_then v_t_now v_t_gone q_t_sights q_t_darkAt q_t_can), (q_t_at0, .inl (cy 0, 8, .inl v_t_at0)), (q_t_spot, .inl (cy 0, 8, .inl v_t_spot))]) [0, 5, 6] rfl
              have hDc := hD.sub (ws' := [(q_t, oX8 q_t_shelf q_t_rowSort q_t_rowSize q_t_rows q_t_moved q_t_shown q_t_tape v_t_tapeSize q_t_refused v_t_places q_t_ways v_t_people q_t_kind q_t_by q_t_home q_t_aim q_t_at0 v_t_hour v_t_chance v_t_seed w_t_kept w_t_tried v_t_at v_t_token v_t_from v_t_figures v_t_fault q_t_told v_t_statements q_t_steps q_t_spot q_t_then v_t_now v_t_gone q_t_sights q_t_darkAt q_t_can), (q_t_at0, .inl (cy 0, 8, .inl v_t_at0)), (q_t_spot, .inl (cy 0, 8, .inl v_t_spot))]) [0, 5, 6] (by decide) rfl
              refine xcQv (w1 := [(q_t, oX8 q_t_shelf q_t_rowSort q_t_rowSize q_t_rows q_t_moved q_t_shown q_t_tape v_t_tapeSize q_t_refused v_t_places q_t_ways v_t_people q_t_kind q_t_by q_t_home q_t_aim q_t_at0 v_t_hour v_t_chance v_t_seed w_t_kept w_t_tried v_t_at v_t_token v_t_from v_t_figures v_t_fault q_t_told v_t_statements q_t_steps q_t_spot q_t_then u24 v_t_gone q_t_sights q_t_darkAt q_t_can), (q_t_at0, .inl (cy 0, 8, .inl v_t_at0)), (q_t_spot, .inl (cy 0, 8, .inl u25))]) (va_runV (As := []) (rest := []) ⟨hx, hb, hml, hown, hts⟩ (mX8_begin l D cy q_t q_t_shelf q_t_rowSort q_t_rowSize q_t_rows q_t_moved q_t_shown q_t_tape q_t_refused q_t_ways q_t_kind q_t_by q_t_home q_t_aim q_t_at0 q_t_told q_t_steps q_t_spot q_t_then q_t_sights q_t_darkAt q_t_can v_t_tapeSize v_t_places v_t_people v_t_hour v_t_chance v_t_seed w_t_kept w_t_tried v_t_at v_t_token v_t_from v_t_figures v_t_fault v_t_statements v_t_now v_t_gone v_t_at0 v_t_spot _  hr26) (cwV 0 hts gX8_status_X8_begin rfl rfl rfl (by decide +kernel) ⟨Nat.le_of_ble_eq_true rfl, Nat.le_of_ble_eq_true rfl⟩) (xPVw hK hPc hDc (ci := 8) (q0 := 0) rfl rfl) rfl rfl hl.1 rfl (lv_room (Nat.le_of_ble_eq_true rfl)) dX8_status_105 ⟨Nat.le_of_ble_eq_true rfl, Nat.le_of_ble_eq_true rfl⟩) hP hD hS hA [0, 5, 6] rfl rfl (fun H locs hP hD hS => ?_)
              have hP : va_P D vwCl [(q_t, oX8 q_t_shelf q_t_rowSort q_t_rowSize q_t_rows q_t_moved q_t_shown q_t_tape v_t_tapeSize q_t_refused v_t_places q_t_ways v_t_people q_t_kind q_t_by q_t_home q_t_aim q_t_at0 v_t_hour v_t_chance v_t_seed w_t_kept w_t_tried v_t_at v_t_token v_t_from v_t_figures v_t_fault q_t_told v_t_statements q_t_steps q_t_spot q_t_then u24 v_t_gone q_t_sights q_t_darkAt q_t_can), (q_t_shelf, .inl (cy 0, 8, .inl v_t_shelf)), (q_t_refused, .inl (cy 0, 8, .inl v_t_refused)), (q_t_ways, .inl (cy 0, 12, .inl v_t_ways)), (q_t_kind, .inl (cy 0, 8, .inl v_t_kind)), (q_t_at0, .inl (cy 0, 8, .inl v_t_at0)), (q_t_spot, .inl (cy 0, 8, .inl u25))] H := hP
              have hD : va_D A [(q_t, oX8 q_t_shelf q_t_rowSort q_t_rowSize q_t_rows q_t_moved q_t_shown q_t_tape v_t_tapeSize q_t_refused v_t_places q_t_ways v_t_people q_t_kind q_t_by q_t_home q_t_aim q_t_at0 v_t_hour v_t_chance v_t_seed w_t_kept w_t_tried v_t_at v_t_token v_t_from v_t_figures v_t_fault q_t_told v_t_statements q_t_steps q_t_spot q_t_then u24 v_t_gone q_t_sights q_t_darkAt q_t_can), (q_t_shelf, .inl (cy 0, 8, .inl v_t_shelf)), (q_t_refused, .inl (cy 0, 8, .inl v_t_refused)), (q_t_ways, .inl (cy 0, 12, .inl v_t_ways)), (q_t_kind, .inl (cy 0, 8, .inl v_t_kind)), (q_t_at0, .inl (cy 0, 8, .inl v_t_at0)), (q_t_spot, .inl (cy 0, 8, .inl u25))] := hD
              refine lv_aload_n hx hb dX8_status_108 rfl (lv_at hl 1 rfl) ?_
              obtain ⟨r27, hr28, hf⟩ := boE1 hf
              have hPc := hP.sub (ws' := [(q_t, oX8 q_t_shelf q_t_rowSort q_t_rowSize q_t_rows q_t_moved q_t_shown q_t_tape v_t_tapeSize q_t_refused v_t_places q_t_ways v_t_people q_t_kind q_t_by q_t_home q_t_aim q_t_at0 v_t_hour v_t_chance v_t_seed w_t_kept w_t_tried v_t_at v_t_token v_t_from v_t_figures v_t_fault q_t_told v_t_statements q_t_steps q_t_spot q_t_then u24 v_t_gone q_t_sights q_t_darkAt q_t_can), (q_t_kind, .inl (cy 0, 8, .inl v_t_kind)), (q_t_spot, .inl (cy 0, 8, .inl u25))]) [0, 4, 6] rfl
              refine xcSi (va_runV (As := []) (rest := []) ⟨hx, hb, hml, hown, hts⟩ (mX8_light l D cy q_t q_t_shelf q_t_rowSort q_t_rowSize q_t_rows q_t_moved q_t_shown q_t_tape q_t_refused q_t_ways q_t_kind q_t_by q_t_home q_t_aim q_t_at0 q_t_told q_t_steps q_t_spot q_t_then q_t_sights q_t_darkAt q_t_can v_t_tapeSize v_t_places v_t_people v_t_hour v_t_chance v_t_seed w_t_kept w_t_tried v_t_at v_t_token v_t_from v_t_figures v_t_fault v_t_statements u24 v_t_gone v_t_kind u25   hr28) (cwV 0 hts gX8_status_X8_light rfl rfl rfl (by decide +kernel) ⟨Nat.le_of_ble_eq_true rfl, Nat.le_of_ble_eq_true rfl⟩) (xPV hK hPc (ci := 8) (q0 := 0) rfl rfl) rfl rfl hl.1 rfl (lv_room (Nat.le_of_ble_eq_true rfl)) dX8_status_109 ⟨Nat.le_of_ble_eq_true rfl, Nat.le_of_ble_eq_true rfl⟩) ?_
              cases hf
              exact W.iret hx hb hr (fun t ht hW => ⟨⟨_, (), rfl, rfl, xend ht hP⟩, hS.F ht⟩) hS.2.2 dX8_status_112
            · have hf := ifF hf c10
              by_cases c11 : p0 = (6 : Int32)
              · have hf := ifT hf c11
                refine lv_tableIn (tgt := 113) hx hb dX8_status_3 (by rw [c11]; decide) (by rw [c11]; decide) (by rw [c11]; rfl) (by decide) ?_
                refine lv_aload_n hx hb dX8_status_113 rfl (lv_at hl 1 rfl) ?_
                refine va_get (D := D) (ci := 8) (v := .int v_t_tapeSize) (C := RX8) (T := TX8) (N := 37) hx hb hts hinX8 hown hK.1 hP 0 rfl rfl 7 (by decide) hk158 (fun _ h9 => h9) rfl dX8_status_114 ?_
                cases hf
                exact W.iret hx hb hr (fun t ht hW => ⟨⟨_, (), rfl, rfl, xend ht hP⟩, hS.F ht⟩) hS.2.2 dX8_status_117
              · have hf := ifF hf c11
                by_cases c12 : p0 = (7 : Int32)
                · have hf := ifT hf c12
                  refine lv_tableIn (tgt := 118) hx hb dX8_status_3 (by rw [c12]; decide) (by rw [c12]; decide) (by rw [c12]; rfl) (by decide) ?_
                  refine lv_aload_n hx hb dX8_status_118 rfl (lv_at hl 1 rfl) ?_
                  refine va_get (D := D) (ci := 8) (v := .int v_t_seed) (C := RX8) (T := TX8) (N := 37) hx hb hts hinX8 hown hK.1 hP 0 rfl rfl 19 (by decide) hk62 (fun _ h9 => h9) rfl dX8_status_119 ?_
                  cases hf
                  exact W.iret hx hb hr (fun t ht hW => ⟨⟨_, (), rfl, rfl, xend ht hP⟩, hS.F ht⟩) hS.2.2 dX8_status_122
                · have hf := ifF hf c12
                  by_cases c13 : p0 = (8 : Int32)
                  · have hf := ifT hf c13
                    refine lv_tableIn (tgt := 123) hx hb dX8_status_3 (by rw [c13]; decide) (by rw [c13]; decide) (by rw [c13]; rfl) (by decide) ?_
                    refine lv_iconst (v := 0) hx hb dX8_status_123 (by decide) ?_
                    refine lv_istore_n (lv' := [(3, .int (0 : Int32)), (2, .int (0 : Int32)), (0, .ref q_t), (1, .int p0)]) hx hb dX8_status_124 rfl hl (by decide) rfl (fun ls hl => ?_)
                    refine wlw2 125 (fun _ _ => []) (fun (x14 : Int32) (x15 : Int32) H locs ls => va_P D vwCl [(q_t, oX8 q_t_shelf q_t_rowSort q_t_rowSize q_t_rows q_t_moved q_t_shown q_t_tape v_t_tapeSize q_t_refused v_t_places q_t_ways v_t_people q_t_kind q_t_by q_t_home q_t_aim q_t_at0 v_t_hour v_t_chance v_t_seed w_t_kept w_t_tried v_t_at v_t_token v_t_from v_t_figures v_t_fault q_t_told v_t_statements q_t_steps q_t_spot q_t_then v_t_now v_t_gone q_t_sights q_t_darkAt q_t_can), (q_t_shelf, .inl (cy 0, 8, .inl v_t_shelf)), (q_t_refused, .inl (cy 0, 8, .inl v_t_refused)), (q_t_ways, .inl (cy 0, 12, .inl v_t_ways)), (q_t_kind, .inl (cy 0, 8, .inl v_t_kind)), (q_t_at0, .inl (cy 0, 8, .inl v_t_at0)), (q_t_spot, .inl (cy 0, 8, .inl v_t_spot))] H ∧ va_D A [(q_t, oX8 q_t_shelf q_t_rowSort q_t_rowSize q_t_rows q_t_moved q_t_shown q_t_tape v_t_tapeSize q_t_refused v_t_places q_t_ways v_t_people q_t_kind q_t_by q_t_home q_t_aim q_t_at0 v_t_hour v_t_chance v_t_seed w_t_kept w_t_tried v_t_at v_t_token v_t_from v_t_figures v_t_fault q_t_told v_t_statements q_t_steps q_t_spot q_t_then v_t_now v_t_gone q_t_sights q_t_darkAt q_t_can), (q_t_shelf, .inl (cy 0, 8, .inl v_t_shelf)), (q_t_refused, .inl (cy 0, 8, .inl v_t_refused)), (q_t_ways, .inl (cy 0, 12, .inl v_t_ways)), (q_t_kind, .inl (cy 0, 8, .inl v_t_kind)), (q_t_at0, .inl (cy 0, 8, .inl v_t_at0)), (q_t_spot, .inl (cy 0, 8, .inl v_t_spot))] ∧ va_S A s.heap H locs ∧ lv_has ls 4 [(2, .int x14), (3, .int x15), (0, .ref q_t)]) (fun g16 L125 x14 x15 H locs ls hI hf => ?_) 400 (0 : Int32) (0 : Int32) _ _ ls ⟨hP, hD, hS, lv_sub hl [1, 0, 2] rfl⟩ hf
                    obtain ⟨hP, hD, hS, hl⟩ := hI
                    refine lv_iload_n hx hb dX8_status_125 rfl (lv_at hl 1 rfl) ?_
                    refine lv_bipush (v := 8) hx hb dX8_status_126 (by decide) ?_
                    refine lv_icmp_ge (tgt := 154) hx hb dX8_status_128 (by decide) (fun c23 => ?_) (fun c23 => ?_)
                    · have hf := ifT hf c23
                      clear c23
                      refine lv_iload_n hx hb dX8_status_154 rfl (lv_at hl 0 rfl) ?_
                      cases hf
                      exact W.iret hx hb hr (fun t ht hW => ⟨⟨_, (), rfl, rfl, xend ht hP⟩, hS.F ht⟩) hS.2.2 dX8_status_155
                    · have hf := ifF hf c23
                      clear c23
                      refine lv_iload_n hx hb dX8_status_131 rfl (lv_at hl 0 rfl) ?_
                      refine lv_aload_n hx hb dX8_status_132 rfl (lv_at hl 2 rfl) ?_
                      refine va_get (D := D) (ci := 8) (v := .ref q_t_shelf) (C := RX8) (T := TX8) (N := 37) hx hb hts hinX8 hown hK.1 hP 0 rfl rfl 0 (by decide) hk7 (fun _ h9 => h9) rfl dX8_status_133 ?_
                      refine lv_iload_n hx hb dX8_status_136 rfl (lv_at hl 1 rfl) ?_
                      obtain ⟨hi17, hf⟩ := ckE hf
                      refine va_iald hx hb hK.1 hP 1 0 rfl rfl hi17 dX8_status_137 ?_
                      refine jww1 146 (fun (y18 : Int32) => [.int y18, .int x14]) (fun (y18 : Int32) H locs ls => va_P D vwCl [(q_t, oX8 q_t_shelf q_t_rowSort q_t_rowSize q_t_rows q_t_moved q_t_shown q_t_tape v_t_tapeSize q_t_refused v_t_places q_t_ways v_t_people q_t_kind q_t_by q_t_home q_t_aim q_t_at0 v_t_hour v_t_chance v_t_seed w_t_kept w_t_tried v_t_at v_t_token v_t_from v_t_figures v_t_fault q_t_told v_t_statements q_t_steps q_t_spot q_t_then v_t_now v_t_gone q_t_sights q_t_darkAt q_t_can), (q_t_shelf, .inl (cy 0, 8, .inl v_t_shelf)), (q_t_refused, .inl (cy 0, 8, .inl v_t_refused)), (q_t_ways, .inl (cy 0, 12, .inl v_t_ways)), (q_t_kind, .inl (cy 0, 8, .inl v_t_kind)), (q_t_at0, .inl (cy 0, 8, .inl v_t_at0)), (q_t_spot, .inl (cy 0, 8, .inl v_t_spot))] H ∧ va_D A [(q_t, oX8 q_t_shelf q_t_rowSort q_t_rowSize q_t_rows q_t_moved q_t_shown q_t_tape v_t_tapeSize q_t_refused v_t_places q_t_ways v_t_people q_t_kind q_t_by q_t_home q_t_aim q_t_at0 v_t_hour v_t_chance v_t_seed w_t_kept w_t_tried v_t_at v_t_token v_t_from v_t_figures v_t_fault q_t_told v_t_statements q_t_steps q_t_spot q_t_then v_t_now v_t_gone q_t_sights q_t_darkAt q_t_can), (q_t_shelf, .inl (cy 0, 8, .inl v_t_shelf)), (q_t_refused, .inl (cy 0, 8, .inl v_t_refused)), (q_t_ways, .inl (cy 0, 12, .inl v_t_ways)), (q_t_kind, .inl (cy 0, 8, .inl v_t_kind)), (q_t_at0, .inl (cy 0, 8, .inl v_t_at0)), (q_t_spot, .inl (cy 0, 8, .inl v_t_spot))] ∧ va_S A s.heap H locs ∧ lv_has ls 4 [(0, .ref q_t), (3, .int x15)]) hf (fun y18 H locs ls hI hf => ?_) (fun k19 J146 hf => ?_)
                      · obtain ⟨hP, hD, hS, hl⟩ := hI
                        refine lv_iadd hx hb dX8_status_146 ?_
                        refine lv_topi (fun x20 ex20 => ?_)
                        have hf := vlE hf ex20
                        clear ex20
                        refine lv_istore_n (lv' := [(2, .int x20), (0, .ref q_t), (3, .int x15)]) hx hb dX8_status_147 rfl hl (by decide) rfl (fun ls hl => ?_)
                        obtain ⟨x21, ex21⟩ : ∃ y : Int32, y = x15 + (1 : Int32) := ⟨_, rfl⟩
                        have hf := vlE hf ex21
                        refine lv_iinc (v := x21) (lv' := [(3, .int x21), (2, .int x20), (0, .ref q_t)]) hx hb dX8_status_148 hl (k := 2) rfl (by rw [ex21]; rfl) (by decide) rfl (fun ls hl => ?_)
                        clear ex21
                        refine lv_goto (tgt := 125) hx hb dX8_status_151 (by decide) ?_
                        exact L125 x20 x21 _ _ ls ⟨hP, hD, hS, lv_sub hl [1, 0, 2] rfl⟩ hf
                      · refine lv_if_eq (tgt := 145) hx hb dX8_status_138 (by decide) (fun c22 => ?_) (fun c22 => ?_)
                        · have hf := ifT hf c22
                          clear c22
                          refine lv_iconst (v := 0) hx hb dX8_status_145 (by decide) ?_
                          exact J146 (0 : Int32) _ _ ls ⟨hP, hD, hS, lv_sub hl [2, 1] rfl⟩ hf
                        · have hf := ifF hf c22
                          clear c22
                          refine lv_iconst (v := 1) hx hb dX8_status_141 (by decide) ?_
                          refine lv_goto (tgt := 146) hx hb dX8_status_142 (by decide) ?_
                          exact J146 (1 : Int32) _ _ ls ⟨hP, hD, hS, lv_sub hl [2, 1] rfl⟩ hf
                  · have hf := ifF hf c13
                    refine lv_tableOut (tgt := 156) hx hb dX8_status_3 (by have n0 := lv_neT c5 (a := 0) (by decide); have n1 := lv_neT c6 (a := 1) (by decide); have n2 := lv_neT c7 (a := 2) (by decide); have n3 := lv_neT c8 (a := 3) (by decide); have n4 := lv_neT c9 (a := 4) (by decide); have n5 := lv_neT c10 (a := 5) (by decide); have n6 := lv_neT c11 (a := 6) (by decide); have n7 := lv_neT c12 (a := 7) (by decide); have n8 := lv_neT c13 (a := 8) (by decide); omega) (by decide) ?_
                    refine lv_iload_n hx hb dX8_status_156 rfl (lv_at hl 2 rfl) ?_
                    refine lv_i2l hx hb dX8_status_157 rfl ?_
                    refine lv_ldc2 hx hb hown hc131 dX8_status_158 ?_
                    refine lv_ldc2 hx hb hown hc334 dX8_status_161 ?_
                    obtain ⟨r1, hr2, hf⟩ := boE1 hf
                    have hPc := hP.sub (ws' := []) [] rfl
                    refine xcSi (va_runS (As := [.long p0.toInt64, .long (12 : Int64), .long (16 : Int64)]) (rest := []) ⟨hx, hb, hml, hown, hts⟩ (mX8_in l D cy    p0.toInt64 (12 : Int64) (16 : Int64) hr2) (va_cwS 3 hts gX8_status_X8_in rfl rfl rfl (by decide +kernel) ⟨Nat.le_of_ble_eq_true rfl, Nat.le_of_ble_eq_true rfl⟩) (xPS hK hPc) rfl rfl hl.1 rfl (lv_room (Nat.le_of_ble_eq_true rfl)) dX8_status_164 ⟨Nat.le_of_ble_eq_true rfl, Nat.le_of_ble_eq_true rfl⟩) ?_
                    refine lv_if_eq (tgt := 182) hx hb dX8_status_167 (by decide) (fun c4 => ?_) (fun c4 => ?_)
                    · have hf := ifT hf c4
                      clear c4
                      refine lv_iconst (v := (-1)) hx hb dX8_status_182 (by decide) ?_
                      cases hf
                      exact W.iret (v := (-1 : Int32)) hx hb hr (fun t ht hW => ⟨⟨(-1 : Int32), (), rfl, rfl, xend ht hP⟩, hS.F ht⟩) hS.2.2 dX8_status_183
                    · have hf := ifF hf c4
                      clear c4
                      refine lv_aload_n hx hb dX8_status_170 rfl (lv_at hl 1 rfl) ?_
                      refine va_get (D := D) (ci := 8) (v := .ref q_t_refused) (C := RX8) (T := TX8) (N := 37) hx hb hts hinX8 hown hK.1 hP 0 rfl rfl 8 (by decide) hk34 (fun _ h9 => h9) rfl dX8_status_171 ?_
                      refine lv_iload_n hx hb dX8_status_174 rfl (lv_at hl 2 rfl) ?_
                      refine lv_bipush (v := 10) hx hb dX8_status_175 (by decide) ?_
                      refine lv_isub hx hb dX8_status_177 ?_
                      obtain ⟨hi3, hf⟩ := ckE hf
                      refine va_iald hx hb hK.1 hP 2 0 rfl rfl hi3 dX8_status_178 ?_
                      refine lv_goto (tgt := 183) hx hb dX8_status_179 (by decide) ?_
                      cases hf
                      exact W.iret hx hb hr (fun t ht hW => ⟨⟨_, (), rfl, rfl, xend ht hP⟩, hS.F ht⟩) hS.2.2 dX8_status_183
