def fX8_number (v_t_tapeSize : Int32) (v_t_at : Int32) (v_t_token : Int32) (v_t_from : Int32) (v_t_figures : Int32) (v_t_fault : Int32) (v_t_tape : Nat → Int32) (v_t_told : Nat → Int32) (p0 : Int32) (p1 : Int32) (p2 : Int32) : Option (Int32 × Int32 × Int32 × Int32 × Int32 × Int32 × (Nat → Int32)) :=
  jo0 (
    bo2 (fX8_wrong v_t_from) fun r2 u3 =>
    if ¬ (r2 = 0 ∨ r2 = 1) then none else
    some (r2, v_t_at, v_t_token, v_t_from, v_t_figures, u3, v_t_told)) fun k1 =>
  if v_t_token = (2 : Int32) then
    bo1 (fX8_in v_t_figures.toInt64 p1.toInt64 p2.toInt64) fun r5 =>
    if r5 = 0 then
      k1
    else
      if p0 < 0 ∨ 4 ≤ p0.toNatClampNeg then none else
      bo4 (fX8_look v_t_tapeSize v_t_at v_t_tape) fun u8 u9 u10 u11 =>
      some ((1 : Int32), u8, u9, u10, u11, v_t_fault, upd v_t_told p0.toNatClampNeg v_t_figures)
  else
    k1
set_option maxHeartbeats 4000000 in
set_option maxRecDepth 100000 in
theorem mX8_number (l : Launch) (D : va_G) (cy : Nat → ClassId) (q_t q_t_shelf q_t_rowSort q_t_rowSize q_t_rows q_t_moved q_t_shown q_t_tape q_t_refused q_t_ways q_t_kind q_t_by q_t_home q_t_aim q_t_at0 q_t_told q_t_steps q_t_spot q_t_then q_t_sights q_t_darkAt q_t_can : Nat) (v_t_tapeSize : Int32) (v_t_places : Int32) (v_t_people : Int32) (v_t_hour : Int32) (v_t_chance : Int32) (v_t_seed : Int32) (w_t_kept : Value) (w_t_tried : Value) (v_t_at : Int32) (v_t_token : Int32) (v_t_from : Int32) (v_t_figures : Int32) (v_t_fault : Int32) (v_t_statements : Int32) (v_t_now : Int32) (v_t_gone : Int32) (v_t_tape : Nat → Int32) (v_t_told : Nat → Int32) (sz : Nat) (p0 : Int32) (p1 : Int32) (p2 : Int32) {r_ : Int32} {n_t_at : Int32} {n_t_token : Int32} {n_t_from : Int32} {n_t_figures : Int32} {n_t_fault : Int32} {n_t_told : Nat → Int32} (hf : fX8_number v_t_tapeSize v_t_at v_t_token v_t_from v_t_figures v_t_fault v_t_tape v_t_told p0 p1 p2 = some (r_, n_t_at, n_t_token, n_t_from, n_t_figures, n_t_fault, n_t_told)) : Met l yX8_number wsX8_number ({ frames := 2, cells := 0, slots := 0, locals := 40 }) (va_Pc [.ref q_t, .int p0, .int p1, .int p2] (fun U => U.heap.size = sz ∧ va_P D vwCl [(q_t, oX8 q_t_shelf q_t_rowSort q_t_rowSize q_t_rows q_t_moved q_t_shown q_t_tape v_t_tapeSize q_t_refused v_t_places q_t_ways v_t_people q_t_kind q_t_by q_t_home q_t_aim q_t_at0 v_t_hour v_t_chance v_t_seed w_t_kept w_t_tried v_t_at v_t_token v_t_from v_t_figures v_t_fault q_t_told v_t_statements q_t_steps q_t_spot q_t_then v_t_now v_t_gone q_t_sights q_t_darkAt q_t_can), (q_t_tape, .inl (cy 0, 250, .inl v_t_tape)), (q_t_told, .inl (cy 0, 4, .inl v_t_told))] U.heap ∧ xK D cy U ∧ va_D (fun _ => True) [(q_t, oX8 q_t_shelf q_t_rowSort q_t_rowSize q_t_rows q_t_moved q_t_shown q_t_tape v_t_tapeSize q_t_refused v_t_places q_t_ways v_t_people q_t_kind q_t_by q_t_home q_t_aim q_t_at0 v_t_hour v_t_chance v_t_seed w_t_kept w_t_tried v_t_at v_t_token v_t_from v_t_figures v_t_fault q_t_told v_t_statements q_t_steps q_t_spot q_t_then v_t_now v_t_gone q_t_sights q_t_darkAt q_t_can), (q_t_tape, .inl (cy 0, 250, .inl v_t_tape)), (q_t_told, .inl (cy 0, 4, .inl v_t_told))])) (va_Qi (fun (x : Int32) (_ : Unit) => x = r_) (fun _ t => va_P D vwCl [(q_t, oX8 q_t_shelf q_t_rowSort q_t_rowSize q_t_rows q_t_moved q_t_shown q_t_tape v_t_tapeSize q_t_refused v_t_places q_t_ways v_t_people q_t_kind q_t_by q_t_home q_t_aim q_t_at0 v_t_hour v_t_chance v_t_seed w_t_kept w_t_tried n_t_at n_t_token n_t_from n_t_figures n_t_fault q_t_told v_t_statements q_t_steps q_t_spot q_t_then v_t_now v_t_gone q_t_sights q_t_darkAt q_t_can), (q_t_tape, .inl (cy 0, 250, .inl v_t_tape)), (q_t_told, .inl (cy 0, 4, .inl n_t_told))] t.heap) (va_A [(q_t, oX8 q_t_shelf q_t_rowSort q_t_rowSize q_t_rows q_t_moved q_t_shown q_t_tape v_t_tapeSize q_t_refused v_t_places q_t_ways v_t_people q_t_kind q_t_by q_t_home q_t_aim q_t_at0 v_t_hour v_t_chance v_t_seed w_t_kept w_t_tried v_t_at v_t_token v_t_from v_t_figures v_t_fault q_t_told v_t_statements q_t_steps q_t_spot q_t_then v_t_now v_t_gone q_t_sights q_t_darkAt q_t_can), (q_t_tape, .inl (cy 0, 250, .inl v_t_tape)), (q_t_told, .inl (cy 0, 4, .inl v_t_told))] sz)) 0 0 (va_A [(q_t, oX8 q_t_shelf q_t_rowSort q_t_rowSize q_t_rows q_t_moved q_t_shown q_t_tape v_t_tapeSize q_t_refused v_t_places q_t_ways v_t_people q_t_kind q_t_by q_t_home q_t_aim q_t_at0 v_t_hour v_t_chance v_t_seed w_t_kept w_t_tried v_t_at v_t_token v_t_from v_t_figures v_t_fault q_t_told v_t_statements q_t_steps q_t_spot q_t_then v_t_now v_t_gone q_t_sights q_t_darkAt q_t_can), (q_t_tape, .inl (cy 0, 250, .inl v_t_tape)), (q_t_told, .inl (cy 0, 4, .inl v_t_told))] sz) := by
  refine Met.ofW (cc := cX8_number) (maxL := 4) (ret := (some .boolean)) (by decide) rfl ?_
  intro p e s m args below meth c s₁ B hml hv
  obtain ⟨rfl, hsz, hP, hK, hD0⟩ := hv
  have hx := B.exec
  have hb := B.bytes
  have hr := B.returns
  have hts := atoms_spec (ws := wsX8_number) B.pre
  have hown : s.vm.findClass RX8 = some m.cls := findClass_of_methodNamed B.named
  have hlocks := B.notSynchronized
  subst hsz
  have hD := hD0.self (sz := s.heap.size)
  generalize hAe : va_A [(q_t, oX8 q_t_shelf q_t_rowSort q_t_rowSize q_t_rows q_t_moved q_t_shown q_t_tape v_t_tapeSize q_t_refused v_t_places q_t_ways v_t_people q_t_kind q_t_by q_t_home q_t_aim q_t_at0 v_t_hour v_t_chance v_t_seed w_t_kept w_t_tried v_t_at v_t_token v_t_from v_t_figures v_t_fault q_t_told v_t_statements q_t_steps q_t_spot q_t_then v_t_now v_t_gone q_t_sights q_t_darkAt q_t_can), (q_t_tape, .inl (cy 0, 250, .inl v_t_tape)), (q_t_told, .inl (cy 0, 4, .inl v_t_told))] s.heap.size = A at hD ⊢
  have hA : ∀ q : Nat, s.heap.size ≤ q → A q := fun q h => by rw [← hAe]; exact Or.inr h
  have hS : va_S A s.heap s.heap [] := va_S.rf
  have hP : va_P D vwCl [(q_t, oX8 q_t_shelf q_t_rowSort q_t_rowSize q_t_rows q_t_moved q_t_shown q_t_tape v_t_tapeSize q_t_refused v_t_places q_t_ways v_t_people q_t_kind q_t_by q_t_home q_t_aim q_t_at0 v_t_hour v_t_chance v_t_seed w_t_kept w_t_tried v_t_at v_t_token v_t_from v_t_figures v_t_fault q_t_told v_t_statements q_t_steps q_t_spot q_t_then v_t_now v_t_gone q_t_sights q_t_darkAt q_t_can), (q_t_tape, .inl (cy 0, 250, .inl v_t_tape)), (q_t_told, .inl (cy 0, 4, .inl v_t_told))] s.heap := hP
  have hinX8 : ∀ w ∈ u_ws RX8 TX8 37, w ∈ wsX8_number := by decide +kernel
  have hk170 := hts (.fieldLink RX8 170 "ShowsWhereNobodyIsModel" "token" "I") (by decide +kernel)
  have hk167 := hts (.fieldLink RX8 167 "ShowsWhereNobodyIsModel" "figures" "I") (by decide +kernel)
  have hk65 := hts (.fieldLink RX8 65 "ShowsWhereNobodyIsModel" "told" "[I") (by decide +kernel)
  have hl := lv_entry ([.ref q_t, .int p0, .int p1, .int p2]) (n := 4) (Nat.le_of_ble_eq_true rfl)
  rw [lg_entry_eq]
  generalize (lg_sl ([.ref q_t, .int p0, .int p1, .int p2]) ++ List.replicate (4 - (lg_sl ([.ref q_t, .int p0, .int p1, .int p2])).length) Slot.unset).toArray = ls at hl ⊢
  have hl : lv_has ls 4 [(0, .ref q_t), (1, .int p0), (2, .int p1), (3, .int p2)] := hl
  unfold fX8_number at hf
  refine lv_aload_n hx hb dX8_number_0 rfl (lv_at hl 0 rfl) ?_
  refine va_get (D := D) (ci := 8) (v := .int v_t_token) (C := RX8) (T := TX8) (N := 37) hx hb hts hinX8 hown hK.1 hP 0 rfl rfl 23 (by decide) hk170 (fun _ h9 => h9) rfl dX8_number_1 ?_
  refine lv_iconst (v := 2) hx hb dX8_number_4 (by decide) ?_
  refine jww0 23 [] (fun  H locs ls => va_P D vwCl [(q_t, oX8 q_t_shelf q_t_rowSort q_t_rowSize q_t_rows q_t_moved q_t_shown q_t_tape v_t_tapeSize q_t_refused v_t_places q_t_ways v_t_people q_t_kind q_t_by q_t_home q_t_aim q_t_at0 v_t_hour v_t_chance v_t_seed w_t_kept w_t_tried v_t_at v_t_token v_t_from v_t_figures v_t_fault q_t_told v_t_statements q_t_steps q_t_spot q_t_then v_t_now v_t_gone q_t_sights q_t_darkAt q_t_can), (q_t_tape, .inl (cy 0, 250, .inl v_t_tape)), (q_t_told, .inl (cy 0, 4, .inl v_t_told))] H ∧ va_D A [(q_t, oX8 q_t_shelf q_t_rowSort q_t_rowSize q_t_rows q_t_moved q_t_shown q_t_tape v_t_tapeSize q_t_refused v_t_places q_t_ways v_t_people q_t_kind q_t_by q_t_home q_t_aim q_t_at0 v_t_hour v_t_chance v_t_seed w_t_kept w_t_tried v_t_at v_t_token v_t_from v_t_figures v_t_fault q_t_told v_t_statements q_t_steps q_t_spot q_t_then v_t_now v_t_gone q_t_sights q_t_darkAt q_t_can), (q_t_tape, .inl (cy 0, 250, .inl v_t_tape)), (q_t_told, .inl (cy 0, 4, .inl v_t_told))] ∧ va_S A s.heap H locs ∧ lv_has ls 4 [(0, .ref q_t)]) hf (fun  H locs ls hI hf => ?_) (fun k1 J23 hf => ?_)
  · obtain ⟨hP, hD, hS, hl⟩ := hI
    refine lv_aload_n hx hb dX8_number_23 rfl (lv_at hl 0 rfl) ?_
    obtain ⟨r2, u3, hr4, hf⟩ := boE2 hf
    have hPc := hP.sub (ws' := [(q_t, oX8 q_t_shelf q_t_rowSort q_t_rowSize q_t_rows q_t_moved q_t_shown q_t_tape v_t_tapeSize q_t_refused v_t_places q_t_ways v_t_people q_t_kind q_t_by q_t_home q_t_aim q_t_at0 v_t_hour v_t_chance v_t_seed w_t_kept w_t_tried v_t_at v_t_token v_t_from v_t_figures v_t_fault q_t_told v_t_statements q_t_steps q_t_spot q_t_then v_t_now v_t_gone q_t_sights q_t_darkAt q_t_can)]) [0] rfl
    have hDc := hD.sub (ws' := [(q_t, oX8 q_t_shelf q_t_rowSort q_t_rowSize q_t_rows q_t_moved q_t_shown q_t_tape v_t_tapeSize q_t_refused v_t_places q_t_ways v_t_people q_t_kind q_t_by q_t_home q_t_aim q_t_at0 v_t_hour v_t_chance v_t_seed w_t_kept w_t_tried v_t_at v_t_token v_t_from v_t_figures v_t_fault q_t_told v_t_statements q_t_steps q_t_spot q_t_then v_t_now v_t_gone q_t_sights q_t_darkAt q_t_can)]) [0] (by decide) rfl
    refine xcQi (w1 := [(q_t, oX8 q_t_shelf q_t_rowSort q_t_rowSize q_t_rows q_t_moved q_t_shown q_t_tape v_t_tapeSize q_t_refused v_t_places q_t_ways v_t_people q_t_kind q_t_by q_t_home q_t_aim q_t_at0 v_t_hour v_t_chance v_t_seed w_t_kept w_t_tried v_t_at v_t_token v_t_from v_t_figures u3 q_t_told v_t_statements q_t_steps q_t_spot q_t_then v_t_now v_t_gone q_t_sights q_t_darkAt q_t_can)]) (va_runV (As := []) (rest := []) ⟨hx, hb, hml, hown, hts⟩ (mX8_wrong l D cy q_t q_t_shelf q_t_rowSort q_t_rowSize q_t_rows q_t_moved q_t_shown q_t_tape q_t_refused q_t_ways q_t_kind q_t_by q_t_home q_t_aim q_t_at0 q_t_told q_t_steps q_t_spot q_t_then q_t_sights q_t_darkAt q_t_can v_t_tapeSize v_t_places v_t_people v_t_hour v_t_chance v_t_seed w_t_kept w_t_tried v_t_at v_t_token v_t_from v_t_figures v_t_fault v_t_statements v_t_now v_t_gone _  hr4) (cwV 0 hts gX8_number_X8_wrong rfl rfl rfl (by decide +kernel) ⟨Nat.le_of_ble_eq_true rfl, Nat.le_of_ble_eq_true rfl⟩) (xPVw hK hPc hDc (ci := 8) (q0 := 0) rfl rfl) rfl rfl hl.1 rfl (lv_room (Nat.le_of_ble_eq_true rfl)) dX8_number_24 ⟨Nat.le_of_ble_eq_true rfl, Nat.le_of_ble_eq_true rfl⟩) hP hD hS hA [0] rfl rfl (fun H locs hP hD hS => ?_)
    have hP : va_P D vwCl [(q_t, oX8 q_t_shelf q_t_rowSort q_t_rowSize q_t_rows q_t_moved q_t_shown q_t_tape v_t_tapeSize q_t_refused v_t_places q_t_ways v_t_people q_t_kind q_t_by q_t_home q_t_aim q_t_at0 v_t_hour v_t_chance v_t_seed w_t_kept w_t_tried v_t_at v_t_token v_t_from v_t_figures u3 q_t_told v_t_statements q_t_steps q_t_spot q_t_then v_t_now v_t_gone q_t_sights q_t_darkAt q_t_can), (q_t_tape, .inl (cy 0, 250, .inl v_t_tape)), (q_t_told, .inl (cy 0, 4, .inl v_t_told))] H := hP
    have hD : va_D A [(q_t, oX8 q_t_shelf q_t_rowSort q_t_rowSize q_t_rows q_t_moved q_t_shown q_t_tape v_t_tapeSize q_t_refused v_t_places q_t_ways v_t_people q_t_kind q_t_by q_t_home q_t_aim q_t_at0 v_t_hour v_t_chance v_t_seed w_t_kept w_t_tried v_t_at v_t_token v_t_from v_t_figures u3 q_t_told v_t_statements q_t_steps q_t_spot q_t_then v_t_now v_t_gone q_t_sights q_t_darkAt q_t_can), (q_t_tape, .inl (cy 0, 250, .inl v_t_tape)), (q_t_told, .inl (cy 0, 4, .inl v_t_told))] := hD
    obtain ⟨hz, hf⟩ := ckE hf
    cases hf
    exact W.zret hx hb hr (by rcases Decidable.not_not.mp hz with h | h <;> rw [h] <;> rfl) (fun t ht hW => ⟨⟨_, (), rfl, rfl, xend ht hP⟩, hS.F ht⟩) hS.2.2 dX8_number_27
  · refine lv_icmp_ne (tgt := 23) hx hb dX8_number_5 (by decide) (fun c14 => ?_) (fun c14 => ?_)
    · have hf := ifF hf c14
      clear c14
      exact J23 _ _ ls ⟨hP, hD, hS, lv_sub hl [0] rfl⟩ hf
    · have hf := ifT hf c14
      clear c14
      refine lv_aload_n hx hb dX8_number_8 rfl (lv_at hl 0 rfl) ?_
      refine va_get (D := D) (ci := 8) (v := .int v_t_figures) (C := RX8) (T := TX8) (N := 37) hx hb hts hinX8 hown hK.1 hP 0 rfl rfl 25 (by decide) hk167 (fun _ h9 => h9) rfl dX8_number_9 ?_
      refine lv_i2l hx hb dX8_number_12 rfl ?_
      refine lv_iload_n hx hb dX8_number_13 rfl (lv_at hl 2 rfl) ?_
      refine lv_i2l hx hb dX8_number_14 rfl ?_
      refine lv_iload_n hx hb dX8_number_15 rfl (lv_at hl 3 rfl) ?_
      refine lv_i2l hx hb dX8_number_16 rfl ?_
      obtain ⟨r5, hr6, hf⟩ := boE1 hf
      have hPc := hP.sub (ws' := []) [] rfl
      refine xcSi (va_runS (As := [.long v_t_figures.toInt64, .long p1.toInt64, .long p2.toInt64]) (rest := []) ⟨hx, hb, hml, hown, hts⟩ (mX8_in l D cy    v_t_figures.toInt64 p1.toInt64 p2.toInt64 hr6) (va_cwS 3 hts gX8_number_X8_in rfl rfl rfl (by decide +kernel) ⟨Nat.le_of_ble_eq_true rfl, Nat.le_of_ble_eq_true rfl⟩) (xPS hK hPc) rfl rfl hl.1 rfl (lv_room (Nat.le_of_ble_eq_true rfl)) dX8_number_17 ⟨Nat.le_of_ble_eq_true rfl, Nat.le_of_ble_eq_true rfl⟩) ?_
      refine lv_if_ne (tgt := 28) hx hb dX8_number_20 (by decide) (fun c13 => ?_) (fun c13 => ?_)
      · have hf := ifF hf c13
        clear c13
        refine lv_aload_n hx hb dX8_number_28 rfl (lv_at hl 0 rfl) ?_
        refine va_get (D := D) (ci := 8) (v := .ref q_t_told) (C := RX8) (T := TX8) (N := 37) hx hb hts hinX8 hown hK.1 hP 0 rfl rfl 27 (by decide) hk65 (fun _ h9 => h9) rfl dX8_number_29 ?_
        refine lv_iload_n hx hb dX8_number_32 rfl (lv_at hl 1 rfl) ?_
        refine lv_aload_n hx hb dX8_number_33 rfl (lv_at hl 0 rfl) ?_
        refine va_get (D := D) (ci := 8) (v := .int v_t_figures) (C := RX8) (T := TX8) (N := 37) hx hb hts hinX8 hown hK.1 hP 0 rfl rfl 25 (by decide) hk167 (fun _ h9 => h9) rfl dX8_number_34 ?_
        obtain ⟨hi7, hf⟩ := ckE hf
        refine va_iast hx hb hK.1 hP hD hS 2 0 rfl rfl hi7 dX8_number_37 (fun H locs hP hD hS => ?_)
        have hP : va_P D vwCl [(q_t, oX8 q_t_shelf q_t_rowSort q_t_rowSize q_t_rows q_t_moved q_t_shown q_t_tape v_t_tapeSize q_t_refused v_t_places q_t_ways v_t_people q_t_kind q_t_by q_t_home q_t_aim q_t_at0 v_t_hour v_t_chance v_t_seed w_t_kept w_t_tried v_t_at v_t_token v_t_from v_t_figures v_t_fault q_t_told v_t_statements q_t_steps q_t_spot q_t_then v_t_now v_t_gone q_t_sights q_t_darkAt q_t_can), (q_t_tape, .inl (cy 0, 250, .inl v_t_tape)), (q_t_told, .inl (cy 0, 4, .inl (upd v_t_told p0.toNatClampNeg v_t_figures)))] H := hP
        have hD : va_D A [(q_t, oX8 q_t_shelf q_t_rowSort q_t_rowSize q_t_rows q_t_moved q_t_shown q_t_tape v_t_tapeSize q_t_refused v_t_places q_t_ways v_t_people q_t_kind q_t_by q_t_home q_t_aim q_t_at0 v_t_hour v_t_chance v_t_seed w_t_kept w_t_tried v_t_at v_t_token v_t_from v_t_figures v_t_fault q_t_told v_t_statements q_t_steps q_t_spot q_t_then v_t_now v_t_gone q_t_sights q_t_darkAt q_t_can), (q_t_tape, .inl (cy 0, 250, .inl v_t_tape)), (q_t_told, .inl (cy 0, 4, .inl (upd v_t_told p0.toNatClampNeg v_t_figures)))] := hD
        refine lv_aload_n hx hb dX8_number_38 rfl (lv_at hl 0 rfl) ?_
        obtain ⟨u8, u9, u10, u11, hr12, hf⟩ := boE4 hf
        have hPc := hP.sub (ws' := [(q_t, oX8 q_t_shelf q_t_rowSort q_t_rowSize q_t_rows q_t_moved q_t_shown q_t_tape v_t_tapeSize q_t_refused v_t_places q_t_ways v_t_people q_t_kind q_t_by q_t_home q_t_aim q_t_at0 v_t_hour v_t_chance v_t_seed w_t_kept w_t_tried v_t_at v_t_token v_t_from v_t_figures v_t_fault q_t_told v_t_statements q_t_steps q_t_spot q_t_then v_t_now v_t_gone q_t_sights q_t_darkAt q_t_can), (q_t_tape, .inl (cy 0, 250, .inl v_t_tape))]) [0, 1] rfl
        have hDc := hD.sub (ws' := [(q_t, oX8 q_t_shelf q_t_rowSort q_t_rowSize q_t_rows q_t_moved q_t_shown q_t_tape v_t_tapeSize q_t_refused v_t_places q_t_ways v_t_people q_t_kind q_t_by q_t_home q_t_aim q_t_at0 v_t_hour v_t_chance v_t_seed w_t_kept w_t_tried v_t_at v_t_token v_t_from v_t_figures v_t_fault q_t_told v_t_statements q_t_steps q_t_spot q_t_then v_t_now v_t_gone q_t_sights q_t_darkAt q_t_can), (q_t_tape, .inl (cy 0, 250, .inl v_t_tape))]) [0, 1] (by decide) rfl
        refine xcQv (w1 := [(q_t, oX8 q_t_shelf q_t_rowSort q_t_rowSize q_t_rows q_t_moved q_t_shown q_t_tape v_t_tapeSize q_t_refused v_t_places q_t_ways v_t_people q_t_kind q_t_by q_t_home q_t_aim q_t_at0 v_t_hour v_t_chance v_t_seed w_t_kept w_t_tried u8 u9 u10 u11 v_t_fault q_t_told v_t_statements q_t_steps q_t_spot q_t_then v_t_now v_t_gone q_t_sights q_t_darkAt q_t_can), (q_t_tape, .inl (cy 0, 250, .inl v_t_tape))]) (va_runV (As := []) (rest := []) ⟨hx, hb, hml, hown, hts⟩ (mX8_look l D cy q_t q_t_shelf q_t_rowSort q_t_rowSize q_t_rows q_t_moved q_t_shown q_t_tape q_t_refused q_t_ways q_t_kind q_t_by q_t_home q_t_aim q_t_at0 q_t_told q_t_steps q_t_spot q_t_then q_t_sights q_t_darkAt q_t_can v_t_tapeSize v_t_places v_t_people v_t_hour v_t_chance v_t_seed w_t_kept w_t_tried v_t_at v_t_token v_t_from v_t_figures v_t_fault v_t_statements v_t_now v_t_gone v_t_tape _  hr12) (cwV 0 hts gX8_number_X8_look rfl rfl rfl (by decide +kernel) ⟨Nat.le_of_ble_eq_true rfl, Nat.le_of_ble_eq_true rfl⟩) (xPVw hK hPc hDc (ci := 8) (q0 := 0) rfl rfl) rfl rfl hl.1 rfl (lv_room (Nat.le_of_ble_eq_true rfl)) dX8_number_39 ⟨Nat.le_of_ble_eq_true rfl, Nat.le_of_ble_eq_true rfl⟩) hP hD hS hA [0, 1] rfl rfl (fun H locs hP hD hS => ?_)
        have hP : va_P D vwCl [(q_t, oX8 q_t_shelf q_t_rowSort q_t_rowSize q_t_rows q_t_moved q_t_shown q_t_tape v_t_tapeSize q_t_refused v_t_places q_t_ways v_t_people q_t_kind q_t_by q_t_home q_t_aim q_t_at0 v_t_hour v_t_chance v_t_seed w_t_kept w_t_tried u8 u9 u10 u11 v_t_fault q_t_told v_t_statements q_t_steps q_t_spot q_t_then v_t_now v_t_gone q_t_sights q_t_darkAt q_t_can), (q_t_tape, .inl (cy 0, 250, .inl v_t_tape)), (q_t_told, .inl (cy 0, 4, .inl (upd v_t_told p0.toNatClampNeg v_t_figures)))] H := hP
        have hD : va_D A [(q_t, oX8 q_t_shelf q_t_rowSort q_t_rowSize q_t_rows q_t_moved q_t_shown q_t_tape v_t_tapeSize q_t_refused v_t_places q_t_ways v_t_people q_t_kind q_t_by q_t_home q_t_aim q_t_at0 v_t_hour v_t_chance v_t_seed w_t_kept w_t_tried u8 u9 u10 u11 v_t_fault q_t_told v_t_statements q_t_steps q_t_spot q_t_then v_t_now v_t_gone q_t_sights q_t_darkAt q_t_can), (q_t_tape, .inl (cy 0, 250, .inl v_t_tape)), (q_t_told, .inl (cy 0, 4, .inl (upd v_t_told p0.toNatClampNeg v_t_figures)))] := hD
        refine lv_iconst (v := 1) hx hb dX8_number_42 (by decide) ?_
        cases hf
        exact W.zret (v := (1 : Int32)) hx hb hr rfl (fun t ht hW => ⟨⟨(1 : Int32), (), rfl, rfl, xend ht hP⟩, hS.F ht⟩) hS.2.2 dX8_number_43
      · have hf := ifT hf c13
        clear c13
        exact J23 _ _ ls ⟨hP, hD, hS, lv_sub hl [0] rfl⟩ hf
def fX8_tells (v_t_tapeSize : Int32) (v_t_at : Int32) (v_t_fault : Int32) (v_t_tape : Nat → Int32) (v_t_told : Nat → Int32) (p0 : Int32) (p1 : Int32) : Option (Int32 × Int32 × Int32 × Int32 × Int32 × Int32 × (Nat → Int32)) :=
  bo4 (fX8_look v_t_tapeSize v_t_at v_t_tape) fun u1 u2 u3 u4 =>
  bo7 (fX8_number v_t_tapeSize u1 u2 u3 u4 v_t_fault v_t_tape v_t_told (0 : Int32) p0 p1) fun r6 u7 u8 u9 u10 u11 u12 =>
  if ¬ (r6 = 0 ∨ r6 = 1) then none else
  some (r6, u7, u8, u9, u10, u11, u12)
set_option maxHeartbeats 4000000 in
set_option maxRecDepth 100000 in
theorem mX8_tells (l : Launch) (D : va_G) (cy : Nat → ClassId) (q_t q_t_shelf q_t_rowSort q_t_rowSize q_t_rows q_t_moved q_t_shown q_t_tape q_t_refused q_t_ways q_t_kind q_t_by q_t_home q_t_aim q_t_at0 q_t_told q_t_steps q_t_spot q_t_then q_t_sights q_t_darkAt q_t_can : Nat) (v_t_tapeSize : Int32) (v_t_places : Int32) (v_t_people : Int32) (v_t_hour : Int32) (v_t_chance : Int32) (v_t_seed : Int32) (w_t_kept : Value) (w_t_tried : Value) (v_t_at : Int32) (v_t_token : Int32) (v_t_from : Int32) (v_t_figures : Int32) (v_t_fault : Int32) (v_t_statements : Int32) (v_t_now : Int32) (v_t_gone : Int32) (v_t_tape : Nat → Int32) (v_t_told : Nat → Int32) (sz : Nat) (p0 : Int32) (p1 : Int32) {r_ : Int32} {n_t_at : Int32} {n_t_token : Int32} {n_t_from : Int32} {n_t_figures : Int32} {n_t_fault : Int32} {n_t_told : Nat → Int32} (hf : fX8_tells v_t_tapeSize v_t_at v_t_fault v_t_tape v_t_told p0 p1 = some (r_, n_t_at, n_t_token, n_t_from, n_t_figures, n_t_fault, n_t_told)) : Met l yX8_tells wsX8_tells ({ frames := 3, cells := 0, slots := 0, locals := 63 }) (va_Pc [.ref q_t, .int p0, .int p1] (fun U => U.heap.size = sz ∧ va_P D vwCl [(q_t, oX8 q_t_shelf q_t_rowSort q_t_rowSize q_t_rows q_t_moved q_t_shown q_t_tape v_t_tapeSize q_t_refused v_t_places q_t_ways v_t_people q_t_kind q_t_by q_t_home q_t_aim q_t_at0 v_t_hour v_t_chance v_t_seed w_t_kept w_t_tried v_t_at v_t_token v_t_from v_t_figures v_t_fault q_t_told v_t_statements q_t_steps q_t_spot q_t_then v_t_now v_t_gone q_t_sights q_t_darkAt q_t_can), (q_t_tape, .inl (cy 0, 250, .inl v_t_tape)), (q_t_told, .inl (cy 0, 4, .inl v_t_told))] U.heap ∧ xK D cy U ∧ va_D (fun _ => True) [(q_t, oX8 q_t_shelf q_t_rowSort q_t_rowSize q_t_rows q_t_moved q_t_shown q_t_tape v_t_tapeSize q_t_refused v_t_places q_t_ways v_t_people q_t_kind q_t_by q_t_home q_t_aim q_t_at0 v_t_hour v_t_chance v_t_seed w_t_kept w_t_tried v_t_at v_t_token v_t_from v_t_figures v_t_fault q_t_told v_t_statements q_t_steps q_t_spot q_t_then v_t_now v_t_gone q_t_sights q_t_darkAt q_t_can), (q_t_tape, .inl (cy 0, 250, .inl v_t_tape)), (q_t_told, .inl (cy 0, 4, .inl v_t_told))])) (va_Qi (fun (x : Int32) (_ : Unit) => x = r_) (fun _ t => va_P D vwCl [(q_t, oX8 q_t_shelf q_t_rowSort q_t_rowSize q_t_rows q_t_moved q_t_shown q_t_tape v_t_tapeSize q_t_refused v_t_places q_t_ways v_t_people q_t_kind q_t_by q_t_home q_t_aim q_t_at0 v_t_hour v_t_chance v_t_seed w_t_kept w_t_tried n_t_at n_t_token n_t_from n_t_figures n_t_fault q_t_told v_t_statements q_t_steps q_t_spot q_t_then v_t_now v_t_gone q_t_sights q_t_darkAt q_t_can), (q_t_tape, .inl (cy 0, 250, .inl v_t_tape)), (q_t_told, .inl (cy 0, 4, .inl n_t_told))] t.heap) (va_A [(q_t, oX8 q_t_shelf q_t_rowSort q_t_rowSize q_t_rows q_t_moved q_t_shown q_t_tape v_t_tapeSize q_t_refused v_t_places q_t_ways v_t_people q_t_kind q_t_by q_t_home q_t_aim q_t_at0 v_t_hour v_t_chance v_t_seed w_t_kept w_t_tried v_t_at v_t_token v_t_from v_t_figures v_t_fault q_t_told v_t_statements q_t_steps q_t_spot q_t_then v_t_now v_t_gone q_t_sights q_t_darkAt q_t_can), (q_t_tape, .inl (cy 0, 250, .inl v_t_tape)), (q_t_told, .inl (cy 0, 4, .inl v_t_told))] sz)) 0 0 (va_A [(q_t, oX8 q_t_shelf q_t_rowSort q_t_rowSize q_t_rows q_t_moved q_t_shown q_t_tape v_t_tapeSize q_t_refused v_t_places q_t_ways v_t_people q_t_kind q_t_by q_t_home q_t_aim q_t_at0 v_t_hour v_t_chance v_t_seed w_t_kept w_t_tried v_t_at v_t_token v_t_from v_t_figures v_t_fault q_t_told v_t_statements q_t_steps q_t_spot q_t_then v_t_now v_t_gone q_t_sights q_t_darkAt q_t_can), (q_t_tape, .inl (cy 0, 250, .inl v_t_tape)), (q_t_told, .inl (cy 0, 4, .inl v_t_told))] sz) := by
  refine Met.ofW (cc := cX8_tells) (maxL := 3) (ret := (some .boolean)) (by decide) rfl ?_
  intro p e s m args below meth c s₁ B hml hv
  obtain ⟨rfl, hsz, hP, hK, hD0⟩ := hv
  have hx := B.exec
  have hb := B.bytes
  have hr := B.returns
  have hts := atoms_spec (ws := wsX8_tells) B.pre
  have hown : s.vm.findClass RX8 = some m.cls := findClass_of_methodNamed B.named
  have hlocks := B.notSynchronized
  subst hsz
  have hD := hD0.self (sz := s.heap.size)
  generalize hAe : va_A [(q_t, oX8 q_t_shelf q_t_rowSort q_t_rowSize q_t_rows q_t_moved q_t_shown q_t_tape v_t_tapeSize q_t_refused v_t_places q_t_ways v_t_people q_t_kind q_t_by q_t_home q_t_aim q_t_at0 v_t_hour v_t_chance v_t_seed w_t_kept w_t_tried v_t_at v_t_token v_t_from v_t_figures v_t_fault q_t_told v_t_statements q_t_steps q_t_spot q_t_then v_t_now v_t_gone q_t_sights q_t_darkAt q_t_can), (q_t_tape, .inl (cy 0, 250, .inl v_t_tape)), (q_t_told, .inl (cy 0, 4, .inl v_t_told))] s.heap.size = A at hD ⊢
  have hA : ∀ q : Nat, s.heap.size ≤ q → A q := fun q h => by rw [← hAe]; exact Or.inr h
  have hS : va_S A s.heap s.heap [] := va_S.rf
  have hP : va_P D vwCl [(q_t, oX8 q_t_shelf q_t_rowSort q_t_rowSize q_t_rows q_t_moved q_t_shown q_t_tape v_t_tapeSize q_t_refused v_t_places q_t_ways v_t_people q_t_kind q_t_by q_t_home q_t_aim q_t_at0 v_t_hour v_t_chance v_t_seed w_t_kept w_t_tried v_t_at v_t_token v_t_from v_t_figures v_t_fault q_t_told v_t_statements q_t_steps q_t_spot q_t_then v_t_now v_t_gone q_t_sights q_t_darkAt q_t_can), (q_t_tape, .inl (cy 0, 250, .inl v_t_tape)), (q_t_told, .inl (cy 0, 4, .inl v_t_told))] s.heap := hP
  have hl := lv_entry ([.ref q_t, .int p0, .int p1]) (n := 3) (Nat.le_of_ble_eq_true rfl)
  rw [lg_entry_eq]
  generalize (lg_sl ([.ref q_t, .int p0, .int p1]) ++ List.replicate (3 - (lg_sl ([.ref q_t, .int p0, .int p1])).length) Slot.unset).toArray = ls at hl ⊢
  have hl : lv_has ls 3 [(0, .ref q_t), (1, .int p0), (2, .int p1)] := hl
  unfold fX8_tells at hf
  refine lv_aload_n hx hb dX8_tells_0 rfl (lv_at hl 0 rfl) ?_
  obtain ⟨u1, u2, u3, u4, hr5, hf⟩ := boE4 hf
  have hPc := hP.sub (ws' := [(q_t, oX8 q_t_shelf q_t_rowSort q_t_rowSize q_t_rows q_t_moved q_t_shown q_t_tape v_t_tapeSize q_t_refused v_t_places q_t_ways v_t_people q_t_kind q_t_by q_t_home q_t_aim q_t_at0 v_t_hour v_t_chance v_t_seed w_t_kept w_t_tried v_t_at v_t_token v_t_from v_t_figures v_t_fault q_t_told v_t_statements q_t_steps q_t_spot q_t_then v_t_now v_t_gone q_t_sights q_t_darkAt q_t_can), (q_t_tape, .inl (cy 0, 250, .inl v_t_tape))]) [0, 1] rfl
  have hDc := hD.sub (ws' := [(q_t, oX8 q_t_shelf q_t_rowSort q_t_rowSize q_t_rows q_t_moved q_t_shown q_t_tape v_t_tapeSize q_t_refused v_t_places q_t_ways v_t_people q_t_kind q_t_by q_t_home q_t_aim q_t_at0 v_t_hour v_t_chance v_t_seed w_t_kept w_t_tried v_t_at v_t_token v_t_from v_t_figures v_t_fault q_t_told v_t_statements q_t_steps q_t_spot q_t_then v_t_now v_t_gone q_t_sights q_t_darkAt q_t_can), (q_t_tape, .inl (cy 0, 250, .inl v_t_tape))]) [0, 1] (by decide) rfl
  refine xcQv (w1 := [(q_t, oX8 q_t_shelf q_t_rowSort q_t_rowSize q_t_rows q_t_moved q_t_shown q_t_tape v_t_tapeSize q_t_refused v_t_places q_t_ways v_t_people q_t_kind q_t_by q_t_home q_t_aim q_t_at0 v_t_hour v_t_chance v_t_seed w_t_kept w_t_tried u1 u2 u3 u4 v_t_fault q_t_told v_t_statements q_t_steps q_t_spot q_t_then v_t_now v_t_gone q_t_sights q_t_darkAt q_t_can), (q_t_tape, .inl (cy 0, 250, .inl v_t_tape))]) (va_runV (As := []) (rest := []) ⟨hx, hb, hml, hown, hts⟩ (mX8_look l D cy q_t q_t_shelf q_t_rowSort q_t_rowSize q_t_rows q_t_moved q_t_shown q_t_tape q_t_refused q_t_ways q_t_kind q_t_by q_t_home q_t_aim q_t_at0 q_t_told q_t_steps q_t_spot q_t_then q_t_sights q_t_darkAt q_t_can v_t_tapeSize v_t_places v_t_people v_t_hour v_t_chance v_t_seed w_t_kept w_t_tried v_t_at v_t_token v_t_from v_t_figures v_t_fault v_t_statements v_t_now v_t_gone v_t_tape _  hr5) (cwV 0 hts gX8_tells_X8_look rfl rfl rfl (by decide +kernel) ⟨Nat.le_of_ble_eq_true rfl, Nat.le_of_ble_eq_true rfl⟩) (xPVw hK hPc hDc (ci := 8) (q0 := 0) rfl rfl) rfl rfl hl.1 rfl (lv_room (Nat.le_of_ble_eq_true rfl)) dX8_tells_1 ⟨Nat.le_of_ble_eq_true rfl, Nat.le_of_ble_eq_true rfl⟩) hP hD hS hA [0, 1] rfl rfl (fun H locs hP hD hS => ?_)
  have hP : va_P D vwCl [(q_t, oX8 q_t_shelf q_t_rowSort q_t_rowSize q_t_rows q_t_moved q_t_shown q_t_tape v_t_tapeSize q_t_refused v_t_places q_t_ways v_t_people q_t_kind q_t_by q_t_home q_t_aim q_t_at0 v_t_hour v_t_chance v_t_seed w_t_kept w_t_tried u1 u2 u3 u4 v_t_fault q_t_told v_t_statements q_t_steps q_t_spot q_t_then v_t_now v_t_gone q_t_sights q_t_darkAt q_t_can), (q_t_tape, .inl (cy 0, 250, .inl v_t_tape)), (q_t_told, .inl (cy 0, 4, .inl v_t_told))] H := hP
  have hD : va_D A [(q_t, oX8 q_t_shelf q_t_rowSort q_t_rowSize q_t_rows q_t_moved q_t_shown q_t_tape v_t_tapeSize q_t_refused v_t_places q_t_ways v_t_people q_t_kind q_t_by q_t_home q_t_aim q_t_at0 v_t_hour v_t_chance v_t_seed w_t_kept w_t_tried u1 u2 u3 u4 v_t_fault q_t_told v_t_statements q_t_steps q_t_spot q_t_then v_t_now v_t_gone q_t_sights q_t_darkAt q_t_can), (q_t_tape, .inl (cy 0, 250, .inl v_t_tape)), (q_t_told, .inl (cy 0, 4, .inl v_t_told))] := hD
  refine lv_aload_n hx hb dX8_tells_4 rfl (lv_at hl 0 rfl) ?_
  refine lv_iconst (v := 0) hx hb dX8_tells_5 (by decide) ?_
  refine lv_iload_n hx hb dX8_tells_6 rfl (lv_at hl 1 rfl) ?_
  refine lv_iload_n hx hb dX8_tells_7 rfl (lv_at hl 2 rfl) ?_
  obtain ⟨r6, u7, u8, u9, u10, u11, u12, hr13, hf⟩ := boE7 hf
  have hPc := hP.sub (ws' := [(q_t, oX8 q_t_shelf q_t_rowSort q_t_rowSize q_t_rows q_t_moved q_t_shown q_t_tape v_t_tapeSize q_t_refused v_t_places q_t_ways v_t_people q_t_kind q_t_by q_t_home q_t_aim q_t_at0 v_t_hour v_t_chance v_t_seed w_t_kept w_t_tried u1 u2 u3 u4 v_t_fault q_t_told v_t_statements q_t_steps q_t_spot q_t_then v_t_now v_t_gone q_t_sights q_t_darkAt q_t_can), (q_t_tape, .inl (cy 0, 250, .inl v_t_tape)), (q_t_told, .inl (cy 0, 4, .inl v_t_told))]) [0, 1, 2] rfl
  have hDc := hD.sub (ws' := [(q_t, oX8 q_t_shelf q_t_rowSort q_t_rowSize q_t_rows q_t_moved q_t_shown q_t_tape v_t_tapeSize q_t_refused v_t_places q_t_ways v_t_people q_t_kind q_t_by q_t_home q_t_aim q_t_at0 v_t_hour v_t_chance v_t_seed w_t_kept w_t_tried u1 u2 u3 u4 v_t_fault q_t_told v_t_statements q_t_steps q_t_spot q_t_then v_t_now v_t_gone q_t_sights q_t_darkAt q_t_can), (q_t_tape, .inl (cy 0, 250, .inl v_t_tape)), (q_t_told, .inl (cy 0, 4, .inl v_t_told))]) [0, 1, 2] (by decide) rfl
  refine xcQi (w1 := [(q_t, oX8 q_t_shelf q_t_rowSort q_t_rowSize q_t_rows q_t_moved q_t_shown q_t_tape v_t_tapeSize q_t_refused v_t_places q_t_ways v_t_people q_t_kind q_t_by q_t_home q_t_aim q_t_at0 v_t_hour v_t_chance v_t_seed w_t_kept w_t_tried u7 u8 u9 u10 u11 q_t_told v_t_statements q_t_steps q_t_spot q_t_then v_t_now v_t_gone q_t_sights q_t_darkAt q_t_can), (q_t_tape, .inl (cy 0, 250, .inl v_t_tape)), (q_t_told, .inl (cy 0, 4, .inl u12))]) (va_runV (As := [.int (0 : Int32), .int p0, .int p1]) (rest := []) ⟨hx, hb, hml, hown, hts⟩ (mX8_number l D cy q_t q_t_shelf q_t_rowSort q_t_rowSize q_t_rows q_t_moved q_t_shown q_t_tape q_t_refused q_t_ways q_t_kind q_t_by q_t_home q_t_aim q_t_at0 q_t_told q_t_steps q_t_spot q_t_then q_t_sights q_t_darkAt q_t_can v_t_tapeSize v_t_places v_t_people v_t_hour v_t_chance v_t_seed w_t_kept w_t_tried u1 u2 u3 u4 v_t_fault v_t_statements v_t_now v_t_gone v_t_tape v_t_told _ (0 : Int32) p0 p1 hr13) (cwV 3 hts gX8_tells_X8_number rfl rfl rfl (by decide +kernel) ⟨Nat.le_of_ble_eq_true rfl, Nat.le_of_ble_eq_true rfl⟩) (xPVw hK hPc hDc (ci := 8) (q0 := 0) rfl rfl) rfl rfl hl.1 rfl (lv_room (Nat.le_of_ble_eq_true rfl)) dX8_tells_8 ⟨Nat.le_of_ble_eq_true rfl, Nat.le_of_ble_eq_true rfl⟩) hP hD hS hA [0, 1, 2] rfl rfl (fun H locs hP hD hS => ?_)
  have hP : va_P D vwCl [(q_t, oX8 q_t_shelf q_t_rowSort q_t_rowSize q_t_rows q_t_moved q_t_shown q_t_tape v_t_tapeSize q_t_refused v_t_places q_t_ways v_t_people q_t_kind q_t_by q_t_home q_t_aim q_t_at0 v_t_hour v_t_chance v_t_seed w_t_kept w_t_tried u7 u8 u9 u10 u11 q_t_told v_t_statements q_t_steps q_t_spot q_t_then v_t_now v_t_gone q_t_sights q_t_darkAt q_t_can), (q_t_tape, .inl (cy 0, 250, .inl v_t_tape)), (q_t_told, .inl (cy 0, 4, .inl u12))] H := hP
  have hD : va_D A [(q_t, oX8 q_t_shelf q_t_rowSort q_t_rowSize q_t_rows q_t_moved q_t_shown q_t_tape v_t_tapeSize q_t_refused v_t_places q_t_ways v_t_people q_t_kind q_t_by q_t_home q_t_aim q_t_at0 v_t_hour v_t_chance v_t_seed w_t_kept w_t_tried u7 u8 u9 u10 u11 q_t_told v_t_statements q_t_steps q_t_spot q_t_then v_t_now v_t_gone q_t_sights q_t_darkAt q_t_can), (q_t_tape, .inl (cy 0, 250, .inl v_t_tape)), (q_t_told, .inl (cy 0, 4, .inl u12))] := hD
  obtain ⟨hz, hf⟩ := ckE hf
  cases hf
  exact W.zret hx hb hr (by rcases Decidable.not_not.mp hz with h | h <;> rw [h] <;> rfl) (fun t ht hW => ⟨⟨_, (), rfl, rfl, xend ht hP⟩, hS.F ht⟩) hS.2.2 dX8_tells_11
def fX8_tellsTwo (v_t_tapeSize : Int32) (v_t_places : Int32) (v_t_at : Int32) (v_t_fault : Int32) (v_t_tape : Nat → Int32) (v_t_told : Nat → Int32) : Option (Int32 × Int32 × Int32 × Int32 × Int32 × Int32 × (Nat → Int32)) :=
  bo7 (fX8_tells v_t_tapeSize v_t_at v_t_fault v_t_tape v_t_told (0 : Int32) (v_t_places - (1 : Int32))) fun r1 u2 u3 u4 u5 u6 u7 =>
  if r1 = 0 then
    some ((0 : Int32), u2, u3, u4, u5, u6, u7)
  else
    jo0 (
      bo7 (fX8_number v_t_tapeSize u2 u3 u4 u5 u6 v_t_tape u7 (1 : Int32) (0 : Int32) (v_t_places - (1 : Int32))) fun r10 u11 u12 u13 u14 u15 u16 =>
      if ¬ (r10 = 0 ∨ r10 = 1) then none else
      some (r10, u11, u12, u13, u14, u15, u16)) fun k9 =>
    if u3 = (2 : Int32) then
      if u5 = (u7 (0 : Int32).toNatClampNeg) then
        bo2 (fX8_wrong u4) fun r18 u19 =>
        if ¬ (r18 = 0 ∨ r18 = 1) then none else
        some (r18, u2, u3, u4, u5, u19, u7)
      else
        k9
    else
      k9
set_option maxHeartbeats 4000000 in
set_option maxRecDepth 100000 in
theorem mX8_tellsTwo (l : Launch) (D : va_G) (cy : Nat → ClassId) (q_t q_t_shelf q_t_rowSort q_t_rowSize q_t_rows q_t_moved q_t_shown q_t_tape q_t_refused q_t_ways q_t_kind q_t_by q_t_home q_t_aim q_t_at0 q_t_told q_t_steps q_t_spot q_t_then q_t_sights q_t_darkAt q_t_can : Nat) (v_t_tapeSize : Int32) (v_t_places : Int32) (v_t_people : Int32) (v_t_hour : Int32) (v_t_chance : Int32) (v_t_seed : Int32) (w_t_kept : Value) (w_t_tried : Value) (v_t_at : Int32) (v_t_token : Int32) (v_t_from : Int32) (v_t_figures : Int32) (v_t_fault : Int32) (v_t_statements : Int32) (v_t_now : Int32) (v_t_gone : Int32) (v_t_tape : Nat → Int32) (v_t_told : Nat → Int32) (sz : Nat) {r_ : Int32} {n_t_at : Int32} {n_t_token : Int32} {n_t_from : Int32} {n_t_figures : Int32} {n_t_fault : Int32} {n_t_told : Nat → Int32} (hf : fX8_tellsTwo v_t_tapeSize v_t_places v_t_at v_t_fault v_t_tape v_t_told = some (r_, n_t_at, n_t_token, n_t_from, n_t_figures, n_t_fault, n_t_told)) : Met l yX8_tellsTwo wsX8_tellsTwo ({ frames := 4, cells := 0, slots := 0, locals := 85 }) (va_Pc [.ref q_t] (fun U => U.heap.size = sz ∧ va_P D vwCl [(q_t, oX8 q_t_shelf q_t_rowSort q_t_rowSize q_t_rows q_t_moved q_t_shown q_t_tape v_t_tapeSize q_t_refused v_t_places q_t_ways v_t_people q_t_kind q_t_by q_t_home q_t_aim q_t_at0 v_t_hour v_t_chance v_t_seed w_t_kept w_t_tried v_t_at v_t_token v_t_from v_t_figures v_t_fault q_t_told v_t_statements q_t_steps q_t_spot q_t_then v_t_now v_t_gone q_t_sights q_t_darkAt q_t_can), (q_t_tape, .inl (cy 0, 250, .inl v_t_tape)), (q_t_told, .inl (cy 0, 4, .inl v_t_told))] U.heap ∧ xK D cy U ∧ va_D (fun _ => True) [(q_t, oX8 q_t_shelf q_t_rowSort q_t_rowSize q_t_rows q_t_moved q_t_shown q_t_tape v_t_tapeSize q_t_refused v_t_places q_t_ways v_t_people q_t_kind q_t_by q_t_home q_t_aim q_t_at0 v_t_hour v_t_chance v_t_seed w_t_kept w_t_tried v_t_at v_t_token v_t_from v_t_figures v_t_fault q_t_told v_t_statements q_t_steps q_t_spot q_t_then v_t_now v_t_gone q_t_sights q_t_darkAt q_t_can), (q_t_tape, .inl (cy 0, 250, .inl v_t_tape)), (q_t_told, .inl (cy 0, 4, .inl v_t_told))])) (va_Qi (fun (x : Int32) (_ : Unit) => x = r_) (fun _ t => va_P D vwCl [(q_t, oX8 q_t_shelf q_t_rowSort q_t_rowSize q_t_rows q_t_moved q_t_shown q_t_tape v_t_tapeSize q_t_refused v_t_places q_t_ways v_t_people q_t_kind q_t_by q_t_home q_t_aim q_t_at0 v_t_hour v_t_chance v_t_seed w_t_kept w_t_tried n_t_at n_t_token n_t_from n_t_figures n_t_fault q_t_told v_t_statements q_t_steps q_t_spot q_t_then v_t_now v_t_gone q_t_sights q_t_darkAt q_t_can), (q_t_tape, .inl (cy 0, 250, .inl v_t_tape)), (q_t_told, .inl (cy 0, 4, .inl n_t_told))] t.heap) (va_A [(q_t, oX8 q_t_shelf q_t_rowSort q_t_rowSize q_t_rows q_t_moved q_t_shown q_t_tape v_t_tapeSize q_t_refused v_t_places q_t_ways v_t_people q_t_kind q_t_by q_t_home q_t_aim q_t_at0 v_t_hour v_t_chance v_t_seed w_t_kept w_t_tried v_t_at v_t_token v_t_from v_t_figures v_t_fault q_t_told v_t_statements q_t_steps q_t_spot q_t_then v_t_now v_t_gone q_t_sights q_t_darkAt q_t_can), (q_t_tape, .inl (cy 0, 250, .inl v_t_tape)), (q_t_told, .inl (cy 0, 4, .inl v_t_told))] sz)) 0 0 (va_A [(q_t, oX8 q_t_shelf q_t_rowSort q_t_rowSize q_t_rows q_t_moved q_t_shown q_t_tape v_t_tapeSize q_t_refused v_t_places q_t_ways v_t_people q_t_kind q_t_by q_t_home q_t_aim q_t_at0 v_t_hour v_t_chance v_t_seed w_t_kept w_t_tried v_t_at v_t_token v_t_from v_t_figures v_t_fault q_t_told v_t_statements q_t_steps q_t_spot q_t_then v_t_now v_t_gone q_t_sights q_t_darkAt q_t_can), (q_t_tape, .inl (cy 0, 250, .inl v_t_tape)), (q_t_told, .inl (cy 0, 4, .inl v_t_told))] sz) := by
  refine Met.ofW (cc := cX8_tellsTwo) (maxL := 1) (ret := (some .boolean)) (by decide) rfl ?_
  intro p e s m args below meth c s₁ B hml hv
  obtain ⟨rfl, hsz, hP, hK, hD0⟩ := hv
  have hx := B.exec
  have hb := B.bytes
  have hr := B.returns
  have hts := atoms_spec (ws := wsX8_tellsTwo) B.pre
  have hown : s.vm.findClass RX8 = some m.cls := findClass_of_methodNamed B.named
  have hlocks := B.notSynchronized
  subst hsz
  have hD := hD0.self (sz := s.heap.size)
  generalize hAe : va_A [(q_t, oX8 q_t_shelf q_t_rowSort q_t_rowSize q_t_rows q_t_moved q_t_shown q_t_tape v_t_tapeSize q_t_refused v_t_places q_t_ways v_t_people q_t_kind q_t_by q_t_home q_t_aim q_t_at0 v_t_hour v_t_chance v_t_seed w_t_kept w_t_tried v_t_at v_t_token v_t_from v_t_figures v_t_fault q_t_told v_t_statements q_t_steps q_t_spot q_t_then v_t_now v_t_gone q_t_sights q_t_darkAt q_t_can), (q_t_tape, .inl (cy 0, 250, .inl v_t_tape)), (q_t_told, .inl (cy 0, 4, .inl v_t_told))] s.heap.size = A at hD ⊢
  have hA : ∀ q : Nat, s.heap.size ≤ q → A q := fun q h => by rw [← hAe]; exact Or.inr h
  have hS : va_S A s.heap s.heap [] := va_S.rf
  have hP : va_P D vwCl [(q_t, oX8 q_t_shelf q_t_rowSort q_t_rowSize q_t_rows q_t_moved q_t_shown q_t_tape v_t_tapeSize q_t_refused v_t_places q_t_ways v_t_people q_t_kind q_t_by q_t_home q_t_aim q_t_at0 v_t_hour v_t_chance v_t_seed w_t_kept w_t_tried v_t_at v_t_token v_t_from v_t_figures v_t_fault q_t_told v_t_statements q_t_steps q_t_spot q_t_then v_t_now v_t_gone q_t_sights q_t_darkAt q_t_can), (q_t_tape, .inl (cy 0, 250, .inl v_t_tape)), (q_t_told, .inl (cy 0, 4, .inl v_t_told))] s.heap := hP
  have hinX8 : ∀ w ∈ u_ws RX8 TX8 37, w ∈ wsX8_tellsTwo := by decide +kernel
  have hk37 := hts (.fieldLink RX8 37 "ShowsWhereNobodyIsModel" "places" "I") (by decide +kernel)
  have hk170 := hts (.fieldLink RX8 170 "ShowsWhereNobodyIsModel" "token" "I") (by decide +kernel)
  have hk167 := hts (.fieldLink RX8 167 "ShowsWhereNobodyIsModel" "figures" "I") (by decide +kernel)
  have hk65 := hts (.fieldLink RX8 65 "ShowsWhereNobodyIsModel" "told" "[I") (by decide +kernel)
  have hl := lv_entry ([.ref q_t]) (n := 1) (Nat.le_of_ble_eq_true rfl)
  rw [lg_entry_eq]
  generalize (lg_sl ([.ref q_t]) ++ List.replicate (1 - (lg_sl ([.ref q_t])).length) Slot.unset).toArray = ls at hl ⊢
  have hl : lv_has ls 1 [(0, .ref q_t)] := hl
  unfold fX8_tellsTwo at hf
  refine lv_aload_n hx hb dX8_tellsTwo_0 rfl (lv_at hl 0 rfl) ?_
  refine lv_iconst (v := 0) hx hb dX8_tellsTwo_1 (by decide) ?_
  refine lv_aload_n hx hb dX8_tellsTwo_2 rfl (lv_at hl 0 rfl) ?_
  refine va_get (D := D) (ci := 8) (v := .int v_t_places) (C := RX8) (T := TX8) (N := 37) hx hb hts hinX8 hown hK.1 hP 0 rfl rfl 9 (by decide) hk37 (fun _ h9 => h9) rfl dX8_tellsTwo_3 ?_
  refine lv_iconst (v := 1) hx hb dX8_tellsTwo_6 (by decide) ?_
  refine lv_isub hx hb dX8_tellsTwo_7 ?_
  obtain ⟨r1, u2, u3, u4, u5, u6, u7, hr8, hf⟩ := boE7 hf
  have hPc := hP.sub (ws' := [(q_t, oX8 q_t_shelf q_t_rowSort q_t_rowSize q_t_rows q_t_moved q_t_shown q_t_tape v_t_tapeSize q_t_refused v_t_places q_t_ways v_t_people q_t_kind q_t_by q_t_home q_t_aim q_t_at0 v_t_hour v_t_chance v_t_seed w_t_kept w_t_tried v_t_at v_t_token v_t_from v_t_figures v_t_fault q_t_told v_t_statements q_t_steps q_t_spot q_t_then v_t_now v_t_gone q_t_sights q_t_darkAt q_t_can), (q_t_tape, .inl (cy 0, 250, .inl v_t_tape)), (q_t_told, .inl (cy 0, 4, .inl v_t_told))]) [0, 1, 2] rfl
  have hDc := hD.sub (ws' := [(q_t, oX8 q_t_shelf q_t_rowSort q_t_rowSize q_t_rows q_t_moved q_t_shown q_t_tape v_t_tapeSize q_t_refused v_t_places q_t_ways v_t_people q_t_kind q_t_by q_t_home q_t_aim q_t_at0 v_t_hour v_t_chance v_t_seed w_t_kept w_t_tried v_t_at v_t_token v_t_from v_t_figures v_t_fault q_t_told v_t_statements q_t_steps q_t_spot q_t_then v_t_now v_t_gone q_t_sights q_t_darkAt q_t_can), (q_t_tape, .inl (cy 0, 250, .inl v_t_tape)), (q_t_told, .inl (cy 0, 4, .inl v_t_told))]) [0, 1, 2] (by decide) rfl
  refine xcQi (w1 := [(q_t, oX8 q_t_shelf q_t_rowSort q_t_rowSize q_t_rows q_t_moved q_t_shown q_t_tape v_t_tapeSize q_t_refused v_t_places q_t_ways v_t_people q_t_kind q_t_by q_t_home q_t_aim q_t_at0 v_t_hour v_t_chance v_t_seed w_t_kept w_t_tried u2 u3 u4 u5 u6 q_t_told v_t_statements q_t_steps q_t_spot q_t_then v_t_now v_t_gone q_t_sights q_t_darkAt q_t_can), (q_t_tape, .inl (cy 0, 250, .inl v_t_tape)), (q_t_told, .inl (cy 0, 4, .inl u7))]) (va_runV (As := [.int (0 : Int32), .int (v_t_places - (1 : Int32))]) (rest := []) ⟨hx, hb, hml, hown, hts⟩ (mX8_tells l D cy q_t q_t_shelf q_t_rowSort q_t_rowSize q_t_rows q_t_moved q_t_shown q_t_tape q_t_refused q_t_ways q_t_kind q_t_by q_t_home q_t_aim q_t_at0 q_t_told q_t_steps q_t_spot q_t_then q_t_sights q_t_darkAt q_t_can v_t_tapeSize v_t_places v_t_people v_t_hour v_t_chance v_t_seed w_t_kept w_t_tried v_t_at v_t_token v_t_from v_t_figures v_t_fault v_t_statements v_t_now v_t_gone v_t_tape v_t_told _ (0 : Int32) (v_t_places - (1 : Int32)) hr8) (cwV 2 hts gX8_tellsTwo_X8_tells rfl rfl rfl (by decide +kernel) ⟨Nat.le_of_ble_eq_true rfl, Nat.le_of_ble_eq_true rfl⟩) (xPVw hK hPc hDc (ci := 8) (q0 := 0) rfl rfl) rfl rfl hl.1 rfl (lv_room (Nat.le_of_ble_eq_true rfl)) dX8_tellsTwo_8 ⟨Nat.le_of_ble_eq_true rfl, Nat.le_of_ble_eq_true rfl⟩) hP hD hS hA [0, 1, 2] rfl rfl (fun H locs hP hD hS => ?_)
  have hP : va_P D vwCl [(q_t, oX8 q_t_shelf q_t_rowSort q_t_rowSize q_t_rows q_t_moved q_t_shown q_t_tape v_t_tapeSize q_t_refused v_t_places q_t_ways v_t_people q_t_kind q_t_by q_t_home q_t_aim q_t_at0 v_t_hour v_t_chance v_t_seed w_t_kept w_t_tried u2 u3 u4 u5 u6 q_t_told v_t_statements q_t_steps q_t_spot q_t_then v_t_now v_t_gone q_t_sights q_t_darkAt q_t_can), (q_t_tape, .inl (cy 0, 250, .inl v_t_tape)), (q_t_told, .inl (cy 0, 4, .inl u7))] H := hP
  have hD : va_D A [(q_t, oX8 q_t_shelf q_t_rowSort q_t_rowSize q_t_rows q_t_moved q_t_shown q_t_tape v_t_tapeSize q_t_refused v_t_places q_t_ways v_t_people q_t_kind q_t_by q_t_home q_t_aim q_t_at0 v_t_hour v_t_chance v_t_seed w_t_kept w_t_tried u2 u3 u4 u5 u6 q_t_told v_t_statements q_t_steps q_t_spot q_t_then v_t_now v_t_gone q_t_sights q_t_darkAt q_t_can), (q_t_tape, .inl (cy 0, 250, .inl v_t_tape)), (q_t_told, .inl (cy 0, 4, .inl u7))] := hD
  refine lv_if_ne (tgt := 16) hx hb dX8_tellsTwo_11 (by decide) (fun c23 => ?_) (fun c23 => ?_)
  · have hf := ifF hf c23
    clear c23
    refine lv_aload_n hx hb dX8_tellsTwo_16 rfl (lv_at hl 0 rfl) ?_
    refine va_get (D := D) (ci := 8) (v := .int u3) (C := RX8) (T := TX8) (N := 37) hx hb hts hinX8 hown hK.1 hP 0 rfl rfl 23 (by decide) hk170 (fun _ h9 => h9) rfl dX8_tellsTwo_17 ?_
    refine lv_iconst (v := 2) hx hb dX8_tellsTwo_20 (by decide) ?_
    refine jww0 42 [] (fun  H locs ls => va_P D vwCl [(q_t, oX8 q_t_shelf q_t_rowSort q_t_rowSize q_t_rows q_t_moved q_t_shown q_t_tape v_t_tapeSize q_t_refused v_t_places q_t_ways v_t_people q_t_kind q_t_by q_t_home q_t_aim q_t_at0 v_t_hour v_t_chance v_t_seed w_t_kept w_t_tried u2 u3 u4 u5 u6 q_t_told v_t_statements q_t_steps q_t_spot q_t_then v_t_now v_t_gone q_t_sights q_t_darkAt q_t_can), (q_t_tape, .inl (cy 0, 250, .inl v_t_tape)), (q_t_told, .inl (cy 0, 4, .inl u7))] H ∧ va_D A [(q_t, oX8 q_t_shelf q_t_rowSort q_t_rowSize q_t_rows q_t_moved q_t_shown q_t_tape v_t_tapeSize q_t_refused v_t_places q_t_ways v_t_people q_t_kind q_t_by q_t_home q_t_aim q_t_at0 v_t_hour v_t_chance v_t_seed w_t_kept w_t_tried u2 u3 u4 u5 u6 q_t_told v_t_statements q_t_steps q_t_spot q_t_then v_t_now v_t_gone q_t_sights q_t_darkAt q_t_can), (q_t_tape, .inl (cy 0, 250, .inl v_t_tape)), (q_t_told, .inl (cy 0, 4, .inl u7))] ∧ va_S A s.heap H locs ∧ lv_has ls 1 [(0, .ref q_t)]) hf (fun  H locs ls hI hf => ?_) (fun k9 J42 hf => ?_)
    · obtain ⟨hP, hD, hS, hl⟩ := hI
      refine lv_aload_n hx hb dX8_tellsTwo_42 rfl (lv_at hl 0 rfl) ?_
      refine lv_iconst (v := 1) hx hb dX8_tellsTwo_43 (by decide) ?_
      refine lv_iconst (v := 0) hx hb dX8_tellsTwo_44 (by decide) ?_
      refine lv_aload_n hx hb dX8_tellsTwo_45 rfl (lv_at hl 0 rfl) ?_
      refine va_get (D := D) (ci := 8) (v := .int v_t_places) (C := RX8) (T := TX8) (N := 37) hx hb hts hinX8 hown hK.1 hP 0 rfl rfl 9 (by decide) hk37 (fun _ h9 => h9) rfl dX8_tellsTwo_46 ?_
      refine lv_iconst (v := 1) hx hb dX8_tellsTwo_49 (by decide) ?_
      refine lv_isub hx hb dX8_tellsTwo_50 ?_
      obtain ⟨r10, u11, u12, u13, u14, u15, u16, hr17, hf⟩ := boE7 hf
      have hPc := hP.sub (ws' := [(q_t, oX8 q_t_shelf q_t_rowSort q_t_rowSize q_t_rows q_t_moved q_t_shown q_t_tape v_t_tapeSize q_t_refused v_t_places q_t_ways v_t_people q_t_kind q_t_by q_t_home q_t_aim q_t_at0 v_t_hour v_t_chance v_t_seed w_t_kept w_t_tried u2 u3 u4 u5 u6 q_t_told v_t_statements q_t_steps q_t_spot q_t_then v_t_now v_t_gone q_t_sights q_t_darkAt q_t_can), (q_t_tape, .inl (cy 0, 250, .inl v_t_tape)), (q_t_told, .inl (cy 0, 4, .inl u7))]) [0, 1, 2] rfl
      have hDc := hD.sub (ws' := [(q_t, oX8 q_t_shelf q_t_rowSort q_t_rowSize q_t_rows q_t_moved q_t_shown q_t_tape v_t_tapeSize q_t_refused v_t_places q_t_ways v_t_people q_t_kind q_t_by q_t_home q_t_aim q_t_at0 v_t_hour v_t_chance v_t_seed w_t_kept w_t_tried u2 u3 u4 u5 u6 q_t_told v_t_statements q_t_steps q_t_spot q_t_then v_t_now v_t_gone q_t_sights q_t_darkAt q_t_can), (q_t_tape, .inl (cy 0, 250, .inl v_t_tape)), (q_t_told, .inl (cy 0, 4, .inl u7))]) [0, 1, 2] (by decide) rfl
      refine xcQi (w1 := [(q_t, oX8 q_t_shelf q_t_rowSort q_t_rowSize q_t_rows q_t_moved q_t_shown q_t_tape v_t_tapeSize q_t_refused v_t_places q_t_ways v_t_people q_t_kind q_t_by q_t_home q_t_aim q_t_at0 v_t_hour v_t_chance v_t_seed w_t_kept w_t_tried u11 u12 u13 u14 u15 q_t_told v_t_statements q_t_steps q_t_spot q_t_then v_t_now v_t_gone q_t_sights q_t_darkAt q_t_can), (q_t_tape, .inl (cy 0, 250, .inl v_t_tape)), (q_t_told, .inl (cy 0, 4, .inl u16))]) (va_runV (As := [.int (1 : Int32), .int (0 : Int32), .int (v_t_places - (1 : Int32))]) (rest := []) ⟨hx, hb, hml, hown, hts⟩ (mX8_number l D cy q_t q_t_shelf q_t_rowSort q_t_rowSize q_t_rows q_t_moved q_t_shown q_t_tape q_t_refused q_t_ways q_t_kind q_t_by q_t_home q_t_aim q_t_at0 q_t_told q_t_steps q_t_spot q_t_then q_t_sights q_t_darkAt q_t_can v_t_tapeSize v_t_places v_t_people v_t_hour v_t_chance v_t_seed w_t_kept w_t_tried u2 u3 u4 u5 u6 v_t_statements v_t_now v_t_gone v_t_tape u7 _ (1 : Int32) (0 : Int32) (v_t_places - (1 : Int32)) hr17) (cwV 3 hts gX8_tellsTwo_X8_number rfl rfl rfl (by decide +kernel) ⟨Nat.le_of_ble_eq_true rfl, Nat.le_of_ble_eq_true rfl⟩) (xPVw hK hPc hDc (ci := 8) (q0 := 0) rfl rfl) rfl rfl hl.1 rfl (lv_room (Nat.le_of_ble_eq_true rfl)) dX8_tellsTwo_51 ⟨Nat.le_of_ble_eq_true rfl, Nat.le_of_ble_eq_true rfl⟩) hP hD hS hA [0, 1, 2] rfl rfl (fun H locs hP hD hS => ?_)
      have hP : va_P D vwCl [(q_t, oX8 q_t_shelf q_t_rowSort q_t_rowSize q_t_rows q_t_moved q_t_shown q_t_tape v_t_tapeSize q_t_refused v_t_places q_t_ways v_t_people q_t_kind q_t_by q_t_home q_t_aim q_t_at0 v_t_hour v_t_chance v_t_seed w_t_kept w_t_tried u11 u12 u13 u14 u15 q_t_told v_t_statements q_t_steps q_t_spot q_t_then v_t_now v_t_gone q_t_sights q_t_darkAt q_t_can), (q_t_tape, .inl (cy 0, 250, .inl v_t_tape)), (q_t_told, .inl (cy 0, 4, .inl u16))] H := hP
      have hD : va_D A [(q_t, oX8 q_t_shelf q_t_rowSort q_t_rowSize q_t_rows q_t_moved q_t_shown q_t_tape v_t_tapeSize q_t_refused v_t_places q_t_ways v_t_people q_t_kind q_t_by q_t_home q_t_aim q_t_at0 v_t_hour v_t_chance v_t_seed w_t_kept w_t_tried u11 u12 u13 u14 u15 q_t_told v_t_statements q_t_steps q_t_spot q_t_then v_t_now v_t_gone q_t_sights q_t_darkAt q_t_can), (q_t_tape, .inl (cy 0, 250, .inl v_t_tape)), (q_t_told, .inl (cy 0, 4, .inl u16))] := hD
      obtain ⟨hz, hf⟩ := ckE hf
      cases hf
      exact W.zret hx hb hr (by rcases Decidable.not_not.mp hz with h | h <;> rw [h] <;> rfl) (fun t ht hW => ⟨⟨_, (), rfl, rfl, xend ht hP⟩, hS.F ht⟩) hS.2.2 dX8_tellsTwo_54
    · refine lv_icmp_ne (tgt := 42) hx hb dX8_tellsTwo_21 (by decide) (fun c22 => ?_) (fun c22 => ?_)
      · have hf := ifF hf c22
        clear c22
        exact J42 _ _ ls ⟨hP, hD, hS, lv_sub hl [0] rfl⟩ hf
      · have hf := ifT hf c22
        clear c22
        refine lv_aload_n hx hb dX8_tellsTwo_24 rfl (lv_at hl 0 rfl) ?_
        refine va_get (D := D) (ci := 8) (v := .int u5) (C := RX8) (T := TX8) (N := 37) hx hb hts hinX8 hown hK.1 hP 0 rfl rfl 25 (by decide) hk167 (fun _ h9 => h9) rfl dX8_tellsTwo_25 ?_
        refine lv_aload_n hx hb dX8_tellsTwo_28 rfl (lv_at hl 0 rfl) ?_
        refine va_get (D := D) (ci := 8) (v := .ref q_t_told) (C := RX8) (T := TX8) (N := 37) hx hb hts hinX8 hown hK.1 hP 0 rfl rfl 27 (by decide) hk65 (fun _ h9 => h9) rfl dX8_tellsTwo_29 ?_
        refine lv_iconst (v := 0) hx hb dX8_tellsTwo_32 (by decide) ?_
        refine va_iald hx hb hK.1 hP 2 0 rfl rfl (show vp_in (0 : Int32) 4 from by unfold vp_in; decide) dX8_tellsTwo_33 ?_
        refine lv_icmp_ne (tgt := 42) hx hb dX8_tellsTwo_34 (by decide) (fun c21 => ?_) (fun c21 => ?_)
        · have hf := ifF hf c21
          clear c21
          exact J42 _ _ ls ⟨hP, hD, hS, lv_sub hl [0] rfl⟩ hf
        · have hf := ifT hf c21
          clear c21
          refine lv_aload_n hx hb dX8_tellsTwo_37 rfl (lv_at hl 0 rfl) ?_
          obtain ⟨r18, u19, hr20, hf⟩ := boE2 hf
          have hPc := hP.sub (ws' := [(q_t, oX8 q_t_shelf q_t_rowSort q_t_rowSize q_t_rows q_t_moved q_t_shown q_t_tape v_t_tapeSize q_t_refused v_t_places q_t_ways v_t_people q_t_kind q_t_by q_t_home q_t_aim q_t_at0 v_t_hour v_t_chance v_t_seed w_t_kept w_t_tried u2 u3 u4 u5 u6 q_t_told v_t_statements q_t_steps q_t_spot q_t_then v_t_now v_t_gone q_t_sights q_t_darkAt q_t_can)]) [0] rfl
          have hDc := hD.sub (ws' := [(q_t, oX8 q_t_shelf q_t_rowSort q_t_rowSize q_t_rows q_t_moved q_t_shown q_t_tape v_t_tapeSize q_t_refused v_t_places q_t_ways v_t_people q_t_kind q_t_by q_t_home q_t_aim q_t_at0 v_t_hour v_t_chance v_t_seed w_t_kept w_t_tried u2 u3 u4 u5 u6 q_t_told v_t_statements q_t_steps q_t_spot q_t_then v_t_now v_t_gone q_t_sights q_t_darkAt q_t_can)]) [0] (by decide) rfl
          refine xcQi (w1 := [(q_t, oX8 q_t_shelf q_t_rowSort q_t_rowSize q_t_rows q_t_moved q_t_shown q_t_tape v_t_tapeSize q_t_refused v_t_places q_t_ways v_t_people q_t_kind q_t_by q_t_home q_t_aim q_t_at0 v_t_hour v_t_chance v_t_seed w_t_kept w_t_tried u2 u3 u4 u5 u19 q_t_told v_t_statements q_t_steps q_t_spot q_t_then v_t_now v_t_gone q_t_sights q_t_darkAt q_t_can)]) (va_runV (As := []) (rest := []) ⟨hx, hb, hml, hown, hts⟩ (mX8_wrong l D cy q_t q_t_shelf q_t_rowSort q_t_rowSize q_t_rows q_t_moved q_t_shown q_t_tape q_t_refused q_t_ways q_t_kind q_t_by q_t_home q_t_aim q_t_at0 q_t_told q_t_steps q_t_spot q_t_then q_t_sights q_t_darkAt q_t_can v_t_tapeSize v_t_places v_t_people v_t_hour v_t_chance v_t_seed w_t_kept w_t_tried u2 u3 u4 u5 u6 v_t_statements v_t_now v_t_gone _  hr20) (cwV 0 hts gX8_tellsTwo_X8_wrong rfl rfl rfl (by decide +kernel) ⟨Nat.le_of_ble_eq_true rfl, Nat.le_of_ble_eq_true rfl⟩) (xPVw hK hPc hDc (ci := 8) (q0 := 0) rfl rfl) rfl rfl hl.1 rfl (lv_room (Nat.le_of_ble_eq_true rfl)) dX8_tellsTwo_38 ⟨Nat.le_of_ble_eq_true rfl, Nat.le_of_ble_eq_true rfl⟩) hP hD hS hA [0] rfl rfl (fun H locs hP hD hS => ?_)
          have hP : va_P D vwCl [(q_t, oX8 q_t_shelf q_t_rowSort q_t_rowSize q_t_rows q_t_moved q_t_shown q_t_tape v_t_tapeSize q_t_refused v_t_places q_t_ways v_t_people q_t_kind q_t_by q_t_home q_t_aim q_t_at0 v_t_hour v_t_chance v_t_seed w_t_kept w_t_tried u2 u3 u4 u5 u19 q_t_told v_t_statements q_t_steps q_t_spot q_t_then v_t_now v_t_gone q_t_sights q_t_darkAt q_t_can), (q_t_tape, .inl (cy 0, 250, .inl v_t_tape)), (q_t_told, .inl (cy 0, 4, .inl u7))] H := hP
          have hD : va_D A [(q_t, oX8 q_t_shelf q_t_rowSort q_t_rowSize q_t_rows q_t_moved q_t_shown q_t_tape v_t_tapeSize q_t_refused v_t_places q_t_ways v_t_people q_t_kind q_t_by q_t_home q_t_aim q_t_at0 v_t_hour v_t_chance v_t_seed w_t_kept w_t_tried u2 u3 u4 u5 u19 q_t_told v_t_statements q_t_steps q_t_spot q_t_then v_t_now v_t_gone q_t_sights q_t_darkAt q_t_can), (q_t_tape, .inl (cy 0, 250, .inl v_t_tape)), (q_t_told, .inl (cy 0, 4, .inl u7))] := hD
          obtain ⟨hz, hf⟩ := ckE hf
          cases hf
          exact W.zret hx hb hr (by rcases Decidable.not_not.mp hz with h | h <;> rw [h] <;> rfl) (fun t ht hW => ⟨⟨_, (), rfl, rfl, xend ht hP⟩, hS.F ht⟩) hS.2.2 dX8_tellsTwo_41
  · have hf := ifT hf c23
    clear c23
    refine lv_iconst (v := 0) hx hb dX8_tellsTwo_14 (by decide) ?_
    cases hf
    exact W.zret (v := (0 : Int32)) hx hb hr rfl (fun t ht hW => ⟨⟨(0 : Int32), (), rfl, rfl, xend ht hP⟩, hS.F ht⟩) hS.2.2 dX8_tellsTwo_15
def fX8_tellsPerson (v_t_tapeSize : Int32) (v_t_places : Int32) (v_t_people : Int32) (v_t_at : Int32) (v_t_fault : Int32) (v_t_tape : Nat → Int32) (v_t_kind : Nat → Int32) (v_t_by : Nat → Int32) (v_t_home : Nat → Int32) (v_t_aim : Nat → Int32) (v_t_at0 : Nat → Int32) (v_t_told : Nat → Int32) : Option (Int32 × Int32 × Int32 × Int32 × Int32 × Int32 × Int32 × (Nat → Int32) × (Nat → Int32) × (Nat → Int32) × (Nat → Int32) × (Nat → Int32) × (Nat → Int32)) :=
  bo7 (fX8_tells v_t_tapeSize v_t_at v_t_fault v_t_tape v_t_told (0 : Int32) (5 : Int32)) fun r1 u2 u3 u4 u5 u6 u7 =>
  jo7 (fun (y9 : Int32) (u10 : Int32) (u11 : Int32) (u12 : Int32) (u13 : Int32) (u14 : Int32) (u15 : Nat → Int32) =>
    if y9 = 0 then
      if ¬ (y9 = 0 ∨ y9 = 1) then none else
      some (y9, v_t_people, u10, u11, u12, u13, u14, v_t_kind, v_t_by, v_t_home, v_t_aim, v_t_at0, u15)
    else
      bo6 (fX8_addPerson v_t_people v_t_kind v_t_by v_t_home v_t_aim v_t_at0 (u15 (0 : Int32).toNatClampNeg) (u15 (1 : Int32).toNatClampNeg) (u15 (2 : Int32).toNatClampNeg) (u15 (3 : Int32).toNatClampNeg)) fun u17 u18 u19 u20 u21 u22 =>
      if ¬ (y9 = 0 ∨ y9 = 1) then none else
      some (y9, u17, u10, u11, u12, u13, u14, u18, u19, u20, u21, u22, u15)) fun k16 =>
  jo6 (fun (u25 : Int32) (u26 : Int32) (u27 : Int32) (u28 : Int32) (u29 : Int32) (u30 : Nat → Int32) =>
    k16 (0 : Int32) u25 u26 u27 u28 u29 u30) fun k31 =>
  if r1 = 0 then
    k31 u2 u3 u4 u5 u6 u7
  else
    bo7 (fX8_number v_t_tapeSize u2 u3 u4 u5 u6 v_t_tape u7 (1 : Int32) (0 : Int32) (9 : Int32)) fun r32 u33 u34 u35 u36 u37 u38 =>
    if r32 = 0 then
      k31 u33 u34 u35 u36 u37 u38
    else
      bo7 (fX8_number v_t_tapeSize u33 u34 u35 u36 u37 v_t_tape u38 (2 : Int32) (0 : Int32) (v_t_places - (1 : Int32))) fun r40 u41 u42 u43 u44 u45 u46 =>
      if r40 = 0 then
        k31 u41 u42 u43 u44 u45 u46
      else
        bo7 (fX8_number v_t_tapeSize u41 u42 u43 u44 u45 v_t_tape u46 (3 : Int32) (0 : Int32) (v_t_places - (1 : Int32))) fun r48 u49 u50 u51 u52 u53 u54 =>
        if r48 = 0 then
          k31 u49 u50 u51 u52 u53 u54
        else
          k16 (1 : Int32) u49 u50 u51 u52 u53 u54
set_option maxHeartbeats 4000000 in
set_option maxRecDepth 100000 in
theorem mX8_tellsPerson (l : Launch) (D : va_G) (cy : Nat → ClassId) (q_t q_t_shelf q_t_rowSort q_t_rowSize q_t_rows q_t_moved q_t_shown q_t_tape q_t_refused q_t_ways q_t_kind q_t_by q_t_home q_t_aim q_t_at0 q_t_told q_t_steps q_t_spot q_t_then q_t_sights q_t_darkAt q_t_can : Nat) (v_t_tapeSize : Int32) (v_t_places : Int32) (v_t_people : Int32) (v_t_hour : Int32) (v_t_chance : Int32) (v_t_seed : Int32) (w_t_kept : Value) (w_t_tried : Value) (v_t_at : Int32) (v_t_token : Int32) (v_t_from : Int32) (v_t_figures : Int32) (v_t_fault : Int32) (v_t_statements : Int32) (v_t_now : Int32) (v_t_gone : Int32) (v_t_tape : Nat → Int32) (v_t_kind : Nat → Int32) (v_t_by : Nat → Int32) (v_t_home : Nat → Int32) (v_t_aim : Nat → Int32) (v_t_at0 : Nat → Int32) (v_t_told : Nat → Int32) (sz : Nat) {r_ : Int32} {n_t_people : Int32} {n_t_at : Int32} {n_t_token : Int32} {n_t_from : Int32} {n_t_figures : Int32} {n_t_fault : Int32} {n_t_kind : Nat → Int32} {n_t_by : Nat → Int32} {n_t_home : Nat → Int32} {n_t_aim : Nat → Int32} {n_t_at0 : Nat → Int32} {n_t_told : Nat → Int32} (hf : fX8_tellsPerson v_t_tapeSize v_t_places v_t_people v_t_at v_t_fault v_t_tape v_t_kind v_t_by v_t_home v_t_aim v_t_at0 v_t_told = some (r_, n_t_people, n_t_at, n_t_token, n_t_from, n_t_figures, n_t_fault, n_t_kind, n_t_by, n_t_home, n_t_aim, n_t_at0, n_t_told)) : Met l yX8_tellsPerson wsX8_tellsPerson ({ frames := 4, cells := 0, slots := 0, locals := 85 }) (va_Pc [.ref q_t] (fun U => U.heap.size = sz ∧ va_P D vwCl [(q_t, oX8 q_t_shelf q_t_rowSort q_t_rowSize q_t_rows q_t_moved q_t_shown q_t_tape v_t_tapeSize q_t_refused v_t_places q_t_ways v_t_people q_t_kind q_t_by q_t_home q_t_aim q_t_at0 v_t_hour v_t_chance v_t_seed w_t_kept w_t_tried v_t_at v_t_token v_t_from v_t_figures v_t_fault q_t_told v_t_statements q_t_steps q_t_spot q_t_then v_t_now v_t_gone q_t_sights q_t_darkAt q_t_can), (q_t_tape, .inl (cy 0, 250, .inl v_t_tape)), (q_t_kind, .inl (cy 0, 8, .inl v_t_kind)), (q_t_by, .inl (cy 0, 8, .inl v_t_by)), (q_t_home, .inl (cy 0, 8, .inl v_t_home)), (q_t_aim, .inl (cy 0, 8, .inl v_t_aim)), (q_t_at0, .inl (cy 0, 8, .inl v_t_at0)), (q_t_told, .inl (cy 0, 4, .inl v_t_told))] U.heap ∧ xK D cy U ∧ va_D (fun _ => True) [(q_t, oX8 q_t_shelf q_t_rowSort q_t_rowSize q_t_rows q_t_moved q_t_shown q_t_tape v_t_tapeSize q_t_refused v_t_places q_t_ways v_t_people q_t_kind q_t_by q_t_home q_t_aim q_t_at0 v_t_hour v_t_chance v_t_seed w_t_kept w_t_tried v_t_at v_t_token v_t_from v_t_figures v_t_fault q_t_told v_t_statements q_t_steps q_t_spot q_t_then v_t_now v_t_gone q_t_sights q_t_darkAt q_t_can), (q_t_tape, .inl (cy 0, 250, .inl v_t_tape)), (q_t_kind, .inl (cy 0, 8, .inl v_t_kind)), (q_t_by, .inl (cy 0, 8, .inl v_t_by)), (q_t_home, .inl (cy 0, 8, .inl v_t_home)), (q_t_aim, .inl (cy 0, 8, .inl v_t_aim)), (q_t_at0, .inl (cy 0, 8, .inl v_t_at0)), (q_t_told, .inl (cy 0, 4, .inl v_t_told))])) (va_Qi (fun (x : Int32) (_ : Unit) => x = r_) (fun _ t => va_P D vwCl [(q_t, oX8 q_t_shelf q_t_rowSort q_t_rowSize q_t_rows q_t_moved q_t_shown q_t_tape v_t_tapeSize q_t_refused v_t_places q_t_ways n_t_people q_t_kind q_t_by q_t_home q_t_aim q_t_at0 v_t_hour v_t_chance v_t_seed w_t_kept w_t_tried n_t_at n_t_token n_t_from n_t_figures n_t_fault q_t_told v_t_statements q_t_steps q_t_spot q_t_then v_t_now v_t_gone q_t_sights q_t_darkAt q_t_can), (q_t_tape, .inl (cy 0, 250, .inl v_t_tape)), (q_t_kind, .inl (cy 0, 8, .inl n_t_kind)), (q_t_by, .inl (cy 0, 8, .inl n_t_by)), (q_t_home, .inl (cy 0, 8, .inl n_t_home)), (q_t_aim, .inl (cy 0, 8, .inl n_t_aim)), (q_t_at0, .inl (cy 0, 8, .inl n_t_at0)), (q_t_told, .inl (cy 0, 4, .inl n_t_told))] t.heap) (va_A [(q_t, oX8 q_t_shelf q_t_rowSort q_t_rowSize q_t_rows q_t_moved q_t_shown q_t_tape v_t_tapeSize q_t_refused v_t_places q_t_ways v_t_people q_t_kind q_t_by q_t_home q_t_aim q_t_at0 v_t_hour v_t_chance v_t_seed w_t_kept w_t_tried v_t_at v_t_token v_t_from v_t_figures v_t_fault q_t_told v_t_statements q_t_steps q_t_spot q_t_then v_t_now v_t_gone q_t_sights q_t_darkAt q_t_can), (q_t_tape, .inl (cy 0, 250, .inl v_t_tape)), (q_t_kind, .inl (cy 0, 8, .inl v_t_kind)), (q_t_by, .inl (cy 0, 8, .inl v_t_by)), (q_t_home, .inl (cy 0, 8, .inl v_t_home)), (q_t_aim, .inl (cy 0, 8, .inl v_t_aim)), (q_t_at0, .inl (cy 0, 8, .inl v_t_at0)), (q_t_told, .inl (cy 0, 4, .inl v_t_told))] sz)) 0 0 (va_A [(q_t, oX8 q_t_shelf q_t_rowSort q_t_rowSize q_t_rows q_t_moved q_t_shown q_t_tape v_t_tapeSize q_t_refused v_t_places q_t_ways v_t_people q_t_kind q_t_by q_t_home q_t_aim q_t_at0 v_t_hour v_t_chance v_t_seed w_t_kept w_t_tried v_t_at v_t_token v_t_from v_t_figures v_t_fault q_t_told v_t_statements q_t_steps q_t_spot q_t_then v_t_now v_t_gone q_t_sights q_t_darkAt q_t_can), (q_t_tape, .inl (cy 0, 250, .inl v_t_tape)), (q_t_kind, .inl (cy 0, 8, .inl v_t_kind)), (q_t_by, .inl (cy 0, 8, .inl v_t_by)), (q_t_home, .inl (cy 0, 8, .inl v_t_home)), (q_t_aim, .inl (cy 0, 8, .inl v_t_aim)), (q_t_at0, .inl (cy 0, 8, .inl v_t_at0)), (q_t_told, .inl (cy 0, 4, .inl v_t_told))] sz) := by
  refine Met.ofW (cc := cX8_tellsPerson) (maxL := 2) (ret := (some .boolean)) (by decide) rfl ?_
  intro p e s m args below meth c s₁ B hml hv
  obtain ⟨rfl, hsz, hP, hK, hD0⟩ := hv
  have hx := B.exec
  have hb := B.bytes
  have hr := B.returns
  have hts := atoms_spec (ws := wsX8_tellsPerson) B.pre
  have hown : s.vm.findClass RX8 = some m.cls := findClass_of_methodNamed B.named
  have hlocks := B.notSynchronized
  subst hsz
  have hD := hD0.self (sz := s.heap.size)
  generalize hAe : va_A [(q_t, oX8 q_t_shelf q_t_rowSort q_t_rowSize q_t_rows q_t_moved q_t_shown q_t_tape v_t_tapeSize q_t_refused v_t_places q_t_ways v_t_people q_t_kind q_t_by q_t_home q_t_aim q_t_at0 v_t_hour v_t_chance v_t_seed w_t_kept w_t_tried v_t_at v_t_token v_t_from v_t_figures v_t_fault q_t_told v_t_statements q_t_steps q_t_spot q_t_then v_t_now v_t_gone q_t_sights q_t_darkAt q_t_can), (q_t_tape, .inl (cy 0, 250, .inl v_t_tape)), (q_t_kind, .inl (cy 0, 8, .inl v_t_kind)), (q_t_by, .inl (cy 0, 8, .inl v_t_by)), (q_t_home, .inl (cy 0, 8, .inl v_t_home)), (q_t_aim, .inl (cy 0, 8, .inl v_t_aim)), (q_t_at0, .inl (cy 0, 8, .inl v_t_at0)), (q_t_told, .inl (cy 0, 4, .inl v_t_told))] s.heap.size = A at hD ⊢
  have hA : ∀ q : Nat, s.heap.size ≤ q → A q := fun q h => by rw [← hAe]; exact Or.inr h
  have hS : va_S A s.heap s.heap [] := va_S.rf
  have hP : va_P D vwCl [(q_t, oX8 q_t_shelf q_t_rowSort q_t_rowSize q_t_rows q_t_moved q_t_shown q_t_tape v_t_tapeSize q_t_refused v_t_places q_t_ways v_t_people q_t_kind q_t_by q_t_home q_t_aim q_t_at0 v_t_hour v_t_chance v_t_seed w_t_kept w_t_tried v_t_at v_t_token v_t_from v_t_figures v_t_fault q_t_told v_t_statements q_t_steps q_t_spot q_t_then v_t_now v_t_gone q_t_sights q_t_darkAt q_t_can), (q_t_tape, .inl (cy 0, 250, .inl v_t_tape)), (q_t_kind, .inl (cy 0, 8, .inl v_t_kind)), (q_t_by, .inl (cy 0, 8, .inl v_t_by)), (q_t_home, .inl (cy 0, 8, .inl v_t_home)), (q_t_aim, .inl (cy 0, 8, .inl v_t_aim)), (q_t_at0, .inl (cy 0, 8, .inl v_t_at0)), (q_t_told, .inl (cy 0, 4, .inl v_t_told))] s.heap := hP
  have hinX8 : ∀ w ∈ u_ws RX8 TX8 37, w ∈ wsX8_tellsPerson := by decide +kernel
  have hk65 := hts (.fieldLink RX8 65 "ShowsWhereNobodyIsModel" "told" "[I") (by decide +kernel)
  have hk37 := hts (.fieldLink RX8 37 "ShowsWhereNobodyIsModel" "places" "I") (by decide +kernel)
  have hl := lv_entry ([.ref q_t]) (n := 2) (Nat.le_of_ble_eq_true rfl)
  rw [lg_entry_eq]
  generalize (lg_sl ([.ref q_t]) ++ List.replicate (2 - (lg_sl ([.ref q_t])).length) Slot.unset).toArray = ls at hl ⊢
  have hl : lv_has ls 2 [(0, .ref q_t)] := hl
  unfold fX8_tellsPerson at hf
  refine lv_aload_n hx hb dX8_tellsPerson_0 rfl (lv_at hl 0 rfl) ?_
  refine lv_iconst (v := 0) hx hb dX8_tellsPerson_1 (by decide) ?_
  refine lv_iconst (v := 5) hx hb dX8_tellsPerson_2 (by decide) ?_
  obtain ⟨r1, u2, u3, u4, u5, u6, u7, hr8, hf⟩ := boE7 hf
  have hPc := hP.sub (ws' := [(q_t, oX8 q_t_shelf q_t_rowSort q_t_rowSize q_t_rows q_t_moved q_t_shown q_t_tape v_t_tapeSize q_t_refused v_t_places q_t_ways v_t_people q_t_kind q_t_by q_t_home q_t_aim q_t_at0 v_t_hour v_t_chance v_t_seed w_t_kept w_t_tried v_t_at v_t_token v_t_from v_t_figures v_t_fault q_t_told v_t_statements q_t_steps q_t_spot q_t_then v_t_now v_t_gone q_t_sights q_t_darkAt q_t_can), (q_t_tape, .inl (cy 0, 250, .inl v_t_tape)), (q_t_told, .inl (cy 0, 4, .inl v_t_told))]) [0, 1, 7] rfl
  have hDc := hD.sub (ws' := [(q_t, oX8 q_t_shelf q_t_rowSort q_t_rowSize q_t_rows q_t_moved q_t_shown q_t_tape v_t_tapeSize q_t_refused v_t_places q_t_ways v_t_people q_t_kind q_t_by q_t_home q_t_aim q_t_at0 v_t_hour v_t_chance v_t_seed w_t_kept w_t_tried v_t_at v_t_token v_t_from v_t_figures v_t_fault q_t_told v_t_statements q_t_steps q_t_spot q_t_then v_t_now v_t_gone q_t_sights q_t_darkAt q_t_can), (q_t_tape, .inl (cy 0, 250, .inl v_t_tape)), (q_t_told, .inl (cy 0, 4, .inl v_t_told))]) [0, 1, 7] (by decide) rfl
  refine xcQi (w1 := [(q_t, oX8 q_t_shelf q_t_rowSort q_t_rowSize q_t_rows q_t_moved q_t_shown q_t_tape v_t_tapeSize q_t_refused v_t_places q_t_ways v_t_people q_t_kind q_t_by q_t_home q_t_aim q_t_at0 v_t_hour v_t_chance v_t_seed w_t_kept w_t_tried u2 u3 u4 u5 u6 q_t_told v_t_statements q_t_steps q_t_spot q_t_then v_t_now v_t_gone q_t_sights q_t_darkAt q_t_can), (q_t_tape, .inl (cy 0, 250, .inl v_t_tape)), (q_t_told, .inl (cy 0, 4, .inl u7))]) (va_runV (As := [.int (0 : Int32), .int (5 : Int32)]) (rest := []) ⟨hx, hb, hml, hown, hts⟩ (mX8_tells l D cy q_t q_t_shelf q_t_rowSort q_t_rowSize q_t_rows q_t_moved q_t_shown q_t_tape q_t_refused q_t_ways q_t_kind q_t_by q_t_home q_t_aim q_t_at0 q_t_told q_t_steps q_t_spot q_t_then q_t_sights q_t_darkAt q_t_can v_t_tapeSize v_t_places v_t_people v_t_hour v_t_chance v_t_seed w_t_kept w_t_tried v_t_at v_t_token v_t_from v_t_figures v_t_fault v_t_statements v_t_now v_t_gone v_t_tape v_t_told _ (0 : Int32) (5 : Int32) hr8) (cwV 2 hts gX8_tellsPerson_X8_tells rfl rfl rfl (by decide +kernel) ⟨Nat.le_of_ble_eq_true rfl, Nat.le_of_ble_eq_true rfl⟩) (xPVw hK hPc hDc (ci := 8) (q0 := 0) rfl rfl) rfl rfl hl.1 rfl (lv_room (Nat.le_of_ble_eq_true rfl)) dX8_tellsPerson_3 ⟨Nat.le_of_ble_eq_true rfl, Nat.le_of_ble_eq_true rfl⟩) hP hD hS hA [0, 1, 7] rfl rfl (fun H locs hP hD hS => ?_)
  have hP : va_P D vwCl [(q_t, oX8 q_t_shelf q_t_rowSort q_t_rowSize q_t_rows q_t_moved q_t_shown q_t_tape v_t_tapeSize q_t_refused v_t_places q_t_ways v_t_people q_t_kind q_t_by q_t_home q_t_aim q_t_at0 v_t_hour v_t_chance v_t_seed w_t_kept w_t_tried u2 u3 u4 u5 u6 q_t_told v_t_statements q_t_steps q_t_spot q_t_then v_t_now v_t_gone q_t_sights q_t_darkAt q_t_can), (q_t_tape, .inl (cy 0, 250, .inl v_t_tape)), (q_t_kind, .inl (cy 0, 8, .inl v_t_kind)), (q_t_by, .inl (cy 0, 8, .inl v_t_by)), (q_t_home, .inl (cy 0, 8, .inl v_t_home)), (q_t_aim, .inl (cy 0, 8, .inl v_t_aim)), (q_t_at0, .inl (cy 0, 8, .inl v_t_at0)), (q_t_told, .inl (cy 0, 4, .inl u7))] H := hP
  have hD : va_D A [(q_t, oX8 q_t_shelf q_t_rowSort q_t_rowSize q_t_rows q_t_moved q_t_shown q_t_tape v_t_tapeSize q_t_refused v_t_places q_t_ways v_t_people q_t_kind q_t_by q_t_home q_t_aim q_t_at0 v_t_hour v_t_chance v_t_seed w_t_kept w_t_tried u2 u3 u4 u5 u6 q_t_told v_t_statements q_t_steps q_t_spot q_t_then v_t_now v_t_gone q_t_sights q_t_darkAt q_t_can), (q_t_tape, .inl (cy 0, 250, .inl v_t_tape)), (q_t_kind, .inl (cy 0, 8, .inl v_t_kind)), (q_t_by, .inl (cy 0, 8, .inl v_t_by)), (q_t_home, .inl (cy 0, 8, .inl v_t_home)), (q_t_aim, .inl (cy 0, 8, .inl v_t_aim)), (q_t_at0, .inl (cy 0, 8, .inl v_t_at0)), (q_t_told, .inl (cy 0, 4, .inl u7))] := hD
  refine jww7 55 (fun (y9 : Int32) (u10 : Int32) (u11 : Int32) (u12 : Int32) (u13 : Int32) (u14 : Int32) (u15 : Nat → Int32) => [.int y9]) (fun (y9 : Int32) (u10 : Int32) (u11 : Int32) (u12 : Int32) (u13 : Int32) (u14 : Int32) (u15 : Nat → Int32) H locs ls => va_P D vwCl [(q_t, oX8 q_t_shelf q_t_rowSort q_t_rowSize q_t_rows q_t_moved q_t_shown q_t_tape v_t_tapeSize q_t_refused v_t_places q_t_ways v_t_people q_t_kind q_t_by q_t_home q_t_aim q_t_at0 v_t_hour v_t_chance v_t_seed w_t_kept w_t_tried u10 u11 u12 u13 u14 q_t_told v_t_statements q_t_steps q_t_spot q_t_then v_t_now v_t_gone q_t_sights q_t_darkAt q_t_can), (q_t_tape, .inl (cy 0, 250, .inl v_t_tape)), (q_t_kind, .inl (cy 0, 8, .inl v_t_kind)), (q_t_by, .inl (cy 0, 8, .inl v_t_by)), (q_t_home, .inl (cy 0, 8, .inl v_t_home)), (q_t_aim, .inl (cy 0, 8, .inl v_t_aim)), (q_t_at0, .inl (cy 0, 8, .inl v_t_at0)), (q_t_told, .inl (cy 0, 4, .inl u15))] H ∧ va_D A [(q_t, oX8 q_t_shelf q_t_rowSort q_t_rowSize q_t_rows q_t_moved q_t_shown q_t_tape v_t_tapeSize q_t_refused v_t_places q_t_ways v_t_people q_t_kind q_t_by q_t_home q_t_aim q_t_at0 v_t_hour v_t_chance v_t_seed w_t_kept w_t_tried u10 u11 u12 u13 u14 q_t_told v_t_statements q_t_steps q_t_spot q_t_then v_t_now v_t_gone q_t_sights q_t_darkAt q_t_can), (q_t_tape, .inl (cy 0, 250, .inl v_t_tape)), (q_t_kind, .inl (cy 0, 8, .inl v_t_kind)), (q_t_by, .inl (cy 0, 8, .inl v_t_by)), (q_t_home, .inl (cy 0, 8, .inl v_t_home)), (q_t_aim, .inl (cy 0, 8, .inl v_t_aim)), (q_t_at0, .inl (cy 0, 8, .inl v_t_at0)), (q_t_told, .inl (cy 0, 4, .inl u15))] ∧ va_S A s.heap H locs ∧ lv_has ls 2 [(0, .ref q_t)]) hf (fun y9 u10 u11 u12 u13 u14 u15 H locs ls hI hf => ?_) (fun k16 J55 hf => ?_)
  · obtain ⟨hP, hD, hS, hl⟩ := hI
    refine lv_istore_n (lv' := [(1, .int y9), (0, .ref q_t)]) hx hb dX8_tellsPerson_55 rfl hl (by decide) rfl (fun ls hl => ?_)
    refine lv_iload_n hx hb dX8_tellsPerson_56 rfl (lv_at hl 0 rfl) ?_
    refine lv_if_eq (tgt := 88) hx hb dX8_tellsPerson_57 (by decide) (fun c24 => ?_) (fun c24 => ?_)
    · have hf := ifT hf c24
      clear c24
      refine lv_iload_n hx hb dX8_tellsPerson_88 rfl (lv_at hl 0 rfl) ?_
      obtain ⟨hz, hf⟩ := ckE hf
      have hg0 := Option.some.inj hf
      obtain ⟨ee0, hg1⟩ := Prod.mk.inj hg0
      obtain ⟨ee1, hg2⟩ := Prod.mk.inj hg1
      obtain ⟨ee2, hg3⟩ := Prod.mk.inj hg2
      obtain ⟨ee3, hg4⟩ := Prod.mk.inj hg3
      obtain ⟨ee4, hg5⟩ := Prod.mk.inj hg4
      obtain ⟨ee5, hg6⟩ := Prod.mk.inj hg5
      obtain ⟨ee6, hg7⟩ := Prod.mk.inj hg6
      obtain ⟨ee7, hg8⟩ := Prod.mk.inj hg7
      obtain ⟨ee8, hg9⟩ := Prod.mk.inj hg8
      obtain ⟨ee9, hg10⟩ := Prod.mk.inj hg9
      obtain ⟨ee10, hg11⟩ := Prod.mk.inj hg10
      obtain ⟨ee11, hg12⟩ := Prod.mk.inj hg11
      clear hf hg0 hg1 hg2 hg3 hg4 hg5 hg6 hg7 hg8 hg9 hg10 hg11
      subst ee0
      subst ee1
      subst ee2
      subst ee3
      subst ee4
      subst ee5
      subst ee6
      subst ee7
      subst ee8
      subst ee9
      subst ee10
      subst ee11
      subst hg12
      exact W.zret hx hb hr (by rcases Decidable.not_not.mp hz with h | h <;> rw [h] <;> rfl) (fun t ht hW => ⟨⟨_, (), rfl, rfl, xend ht hP⟩, hS.F ht⟩) hS.2.2 dX8_tellsPerson_89
    · have hf := ifF hf c24
      clear c24
      refine lv_aload_n hx hb dX8_tellsPerson_60 rfl (lv_at hl 1 rfl) ?_
      refine lv_aload_n hx hb dX8_tellsPerson_61 rfl (lv_at hl 1 rfl) ?_
      refine va_get (D := D) (ci := 8) (v := .ref q_t_told) (C := RX8) (T := TX8) (N := 37) hx hb hts hinX8 hown hK.1 hP 0 rfl rfl 27 (by decide) hk65 (fun _ h9 => h9) rfl dX8_tellsPerson_62 ?_
      refine lv_iconst (v := 0) hx hb dX8_tellsPerson_65 (by decide) ?_
      refine va_iald hx hb hK.1 hP 7 0 rfl rfl (show vp_in (0 : Int32) 4 from by unfold vp_in; decide) dX8_tellsPerson_66 ?_
      refine lv_aload_n hx hb dX8_tellsPerson_67 rfl (lv_at hl 1 rfl) ?_
      refine va_get (D := D) (ci := 8) (v := .ref q_t_told) (C := RX8) (T := TX8) (N := 37) hx hb hts hinX8 hown hK.1 hP 0 rfl rfl 27 (by decide) hk65 (fun _ h9 => h9) rfl dX8_tellsPerson_68 ?_
      refine lv_iconst (v := 1) hx hb dX8_tellsPerson_71 (by decide) ?_
      refine va_iald hx hb hK.1 hP 7 0 rfl rfl (show vp_in (1 : Int32) 4 from by unfold vp_in; decide) dX8_tellsPerson_72 ?_
      refine lv_aload_n hx hb dX8_tellsPerson_73 rfl (lv_at hl 1 rfl) ?_
      refine va_get (D := D) (ci := 8) (v := .ref q_t_told) (C := RX8) (T := TX8) (N := 37) hx hb hts hinX8 hown hK.1 hP 0 rfl rfl 27 (by decide) hk65 (fun _ h9 => h9) rfl dX8_tellsPerson_74 ?_
      refine lv_iconst (v := 2) hx hb dX8_tellsPerson_77 (by decide) ?_
      refine va_iald hx hb hK.1 hP 7 0 rfl rfl (show vp_in (2 : Int32) 4 from by unfold vp_in; decide) dX8_tellsPerson_78 ?_
      refine lv_aload_n hx hb dX8_tellsPerson_79 rfl (lv_at hl 1 rfl) ?_
      refine va_get (D := D) (ci := 8) (v := .ref q_t_told) (C := RX8) (T := TX8) (N := 37) hx hb hts hinX8 hown hK.1 hP 0 rfl rfl 27 (by decide) hk65 (fun _ h9 => h9) rfl dX8_tellsPerson_80 ?_
      refine lv_iconst (v := 3) hx hb dX8_tellsPerson_83 (by decide) ?_
      refine va_iald hx hb hK.1 hP 7 0 rfl rfl (show vp_in (3 : Int32) 4 from by unfold vp_in; decide) dX8_tellsPerson_84 ?_
      obtain ⟨u17, u18, u19, u20, u21, u22, hr23, hf⟩ := boE6 hf
      have hPc := hP.sub (ws' := [(q_t, oX8 q_t_shelf q_t_rowSort q_t_rowSize q_t_rows q_t_moved q_t_shown q_t_tape v_t_tapeSize q_t_refused v_t_places q_t_ways v_t_people q_t_kind q_t_by q_t_home q_t_aim q_t_at0 v_t_hour v_t_chance v_t_seed w_t_kept w_t_tried u10 u11 u12 u13 u14 q_t_told v_t_statements q_t_steps q_t_spot q_t_then v_t_now v_t_gone q_t_sights q_t_darkAt q_t_can), (q_t_kind, .inl (cy 0, 8, .inl v_t_kind)), (q_t_by, .inl (cy 0, 8, .inl v_t_by)), (q_t_home, .inl (cy 0, 8, .inl v_t_home)), (q_t_aim, .inl (cy 0, 8, .inl v_t_aim)), (q_t_at0, .inl (cy 0, 8, .inl v_t_at0))]) [0, 2, 3, 4, 5, 6] rfl
      have hDc := hD.sub (ws' := [(q_t, oX8 q_t_shelf q_t_rowSort q_t_rowSize q_t_rows q_t_moved q_t_shown q_t_tape v_t_tapeSize q_t_refused v_t_places q_t_ways v_t_people q_t_kind q_t_by q_t_home q_t_aim q_t_at0 v_t_hour v_t_chance v_t_seed w_t_kept w_t_tried u10 u11 u12 u13 u14 q_t_told v_t_statements q_t_steps q_t_spot q_t_then v_t_now v_t_gone q_t_sights q_t_darkAt q_t_can), (q_t_kind, .inl (cy 0, 8, .inl v_t_kind)), (q_t_by, .inl (cy 0, 8, .inl v_t_by)), (q_t_home, .inl (cy 0, 8, .inl v_t_home)), (q_t_aim, .inl (cy 0, 8, .inl v_t_aim)), (q_t_at0, .inl (cy 0, 8, .inl v_t_at0))]) [0, 2, 3, 4, 5, 6] (by decide) rfl
      refine xcQv (w1 := [(q_t, oX8 q_t_shelf q_t_rowSort q_t_rowSize q_t_rows q_t_moved q_t_shown q_t_tape v_t_tapeSize q_t_refused v_t_places q_t_ways u17 q_t_kind q_t_by q_t_home q_t_aim q_t_at0 v_t_hour v_t_chance v_t_seed w_t_kept w_t_tried u10 u11 u12 u13 u14 q_t_told v_t_statements q_t_steps q_t_spot q_t_then v_t_now v_t_gone q_t_sights q_t_darkAt q_t_can), (q_t_kind, .inl (cy 0, 8, .inl u18)), (q_t_by, .inl (cy 0, 8, .inl u19)), (q_t_home, .inl (cy 0, 8, .inl u20)), (q_t_aim, .inl (cy 0, 8, .inl u21)), (q_t_at0, .inl (cy 0, 8, .inl u22))]) (va_runV (As := [.int (u15 (0 : Int32).toNatClampNeg), .int (u15 (1 : Int32).toNatClampNeg), .int (u15 (2 : Int32).toNatClampNeg), .int (u15 (3 : Int32).toNatClampNeg)]) (rest := []) ⟨hx, hb, hml, hown, hts⟩ (mX8_addPerson l D cy q_t q_t_shelf q_t_rowSort q_t_rowSize q_t_rows q_t_moved q_t_shown q_t_tape q_t_refused q_t_ways q_t_kind q_t_by q_t_home q_t_aim q_t_at0 q_t_told q_t_steps q_t_spot q_t_then q_t_sights q_t_darkAt q_t_can v_t_tapeSize v_t_places v_t_people v_t_hour v_t_chance v_t_seed w_t_kept w_t_tried u10 u11 u12 u13 u14 v_t_statements v_t_now v_t_gone v_t_kind v_t_by v_t_home v_t_aim v_t_at0 _ (u15 (0 : Int32).toNatClampNeg) (u15 (1 : Int32).toNatClampNeg) (u15 (2 : Int32).toNatClampNeg) (u15 (3 : Int32).toNatClampNeg) hr23) (cwV 4 hts gX8_tellsPerson_X8_addPerson rfl rfl rfl (by decide +kernel) ⟨Nat.le_of_ble_eq_true rfl, Nat.le_of_ble_eq_true rfl⟩) (xPVw hK hPc hDc (ci := 8) (q0 := 0) rfl rfl) rfl rfl hl.1 rfl (lv_room (Nat.le_of_ble_eq_true rfl)) dX8_tellsPerson_85 ⟨Nat.le_of_ble_eq_true rfl, Nat.le_of_ble_eq_true rfl⟩) hP hD hS hA [0, 2, 3, 4, 5, 6] rfl rfl (fun H locs hP hD hS => ?_)
      have hP : va_P D vwCl [(q_t, oX8 q_t_shelf q_t_rowSort q_t_rowSize q_t_rows q_t_moved q_t_shown q_t_tape v_t_tapeSize q_t_refused v_t_places q_t_ways u17 q_t_kind q_t_by q_t_home q_t_aim q_t_at0 v_t_hour v_t_chance v_t_seed w_t_kept w_t_tried u10 u11 u12 u13 u14 q_t_told v_t_statements q_t_steps q_t_spot q_t_then v_t_now v_t_gone q_t_sights q_t_darkAt q_t_can), (q_t_tape, .inl (cy 0, 250, .inl v_t_tape)), (q_t_kind, .inl (cy 0, 8, .inl u18)), (q_t_by, .inl (cy 0, 8, .inl u19)), (q_t_home, .inl (cy 0, 8, .inl u20)), (q_t_aim, .inl (cy 0, 8, .inl u21)), (q_t_at0, .inl (cy 0, 8, .inl u22)), (q_t_told, .inl (cy 0, 4, .inl u15))] H := hP
      have hD : va_D A [(q_t, oX8 q_t_shelf q_t_rowSort q_t_rowSize q_t_rows q_t_moved q_t_shown q_t_tape v_t_tapeSize q_t_refused v_t_places q_t_ways u17 q_t_kind q_t_by q_t_home q_t_aim q_t_at0 v_t_hour v_t_chance v_t_seed w_t_kept w_t_tried u10 u11 u12 u13 u14 q_t_told v_t_statements q_t_steps q_t_spot q_t_then v_t_now v_t_gone q_t_sights q_t_darkAt q_t_can), (q_t_tape, .inl (cy 0, 250, .inl v_t_tape)), (q_t_kind, .inl (cy 0, 8, .inl u18)), (q_t_by, .inl (cy 0, 8, .inl u19)), (q_t_home, .inl (cy 0, 8, .inl u20)), (q_t_aim, .inl (cy 0, 8, .inl u21)), (q_t_at0, .inl (cy 0, 8, .inl u22)), (q_t_told, .inl (cy 0, 4, .inl u15))] := hD
      refine lv_iload_n hx hb dX8_tellsPerson_88 rfl (lv_at hl 0 rfl) ?_
      obtain ⟨hz, hf⟩ := ckE hf
      have hg0 := Option.some.inj hf
      obtain ⟨ee0, hg1⟩ := Prod.mk.inj hg0
      obtain ⟨ee1, hg2⟩ := Prod.mk.inj hg1
      obtain ⟨ee2, hg3⟩ := Prod.mk.inj hg2
      obtain ⟨ee3, hg4⟩ := Prod.mk.inj hg3
      obtain ⟨ee4, hg5⟩ := Prod.mk.inj hg4
      obtain ⟨ee5, hg6⟩ := Prod.mk.inj hg5
      obtain ⟨ee6, hg7⟩ := Prod.mk.inj hg6
      obtain ⟨ee7, hg8⟩ := Prod.mk.inj hg7
      obtain ⟨ee8, hg9⟩ := Prod.mk.inj hg8
      obtain ⟨ee9, hg10⟩ := Prod.mk.inj hg9
      obtain ⟨ee10, hg11⟩ := Prod.mk.inj hg10
      obtain ⟨ee11, hg12⟩ := Prod.mk.inj hg11
      clear hf hg0 hg1 hg2 hg3 hg4 hg5 hg6 hg7 hg8 hg9 hg10 hg11
      subst ee0
      subst ee1
      subst ee2
      subst ee3
      subst ee4
      subst ee5
      subst ee6
      subst ee7
      subst ee8
      subst ee9
      subst ee10
      subst ee11
      subst hg12
      exact W.zret hx hb hr (by rcases Decidable.not_not.mp hz with h | h <;> rw [h] <;> rfl) (fun t ht hW => ⟨⟨_, (), rfl, rfl, xend ht hP⟩, hS.F ht⟩) hS.2.2 dX8_tellsPerson_89
  · refine jww6 54 (fun (u25 : Int32) (u26 : Int32) (u27 : Int32) (u28 : Int32) (u29 : Int32) (u30 : Nat → Int32) => []) (fun (u25 : Int32) (u26 : Int32) (u27 : Int32) (u28 : Int32) (u29 : Int32) (u30 : Nat → Int32) H locs ls => va_P D vwCl [(q_t, oX8 q_t_shelf q_t_rowSort q_t_rowSize q_t_rows q_t_moved q_t_shown q_t_tape v_t_tapeSize q_t_refused v_t_places q_t_ways v_t_people q_t_kind q_t_by q_t_home q_t_aim q_t_at0 v_t_hour v_t_chance v_t_seed w_t_kept w_t_tried u25 u26 u27 u28 u29 q_t_told v_t_statements q_t_steps q_t_spot q_t_then v_t_now v_t_gone q_t_sights q_t_darkAt q_t_can), (q_t_tape, .inl (cy 0, 250, .inl v_t_tape)), (q_t_kind, .inl (cy 0, 8, .inl v_t_kind)), (q_t_by, .inl (cy 0, 8, .inl v_t_by)), (q_t_home, .inl (cy 0, 8, .inl v_t_home)), (q_t_aim, .inl (cy 0, 8, .inl v_t_aim)), (q_t_at0, .inl (cy 0, 8, .inl v_t_at0)), (q_t_told, .inl (cy 0, 4, .inl u30))] H ∧ va_D A [(q_t, oX8 q_t_shelf q_t_rowSort q_t_rowSize q_t_rows q_t_moved q_t_shown q_t_tape v_t_tapeSize q_t_refused v_t_places q_t_ways v_t_people q_t_kind q_t_by q_t_home q_t_aim q_t_at0 v_t_hour v_t_chance v_t_seed w_t_kept w_t_tried u25 u26 u27 u28 u29 q_t_told v_t_statements q_t_steps q_t_spot q_t_then v_t_now v_t_gone q_t_sights q_t_darkAt q_t_can), (q_t_tape, .inl (cy 0, 250, .inl v_t_tape)), (q_t_kind, .inl (cy 0, 8, .inl v_t_kind)), (q_t_by, .inl (cy 0, 8, .inl v_t_by)), (q_t_home, .inl (cy 0, 8, .inl v_t_home)), (q_t_aim, .inl (cy 0, 8, .inl v_t_aim)), (q_t_at0, .inl (cy 0, 8, .inl v_t_at0)), (q_t_told, .inl (cy 0, 4, .inl u30))] ∧ va_S A s.heap H locs ∧ lv_has ls 2 [(0, .ref q_t)]) hf (fun u25 u26 u27 u28 u29 u30 H locs ls hI hf => ?_) (fun k31 J54 hf => ?_)
    · obtain ⟨hP, hD, hS, hl⟩ := hI
      refine lv_iconst (v := 0) hx hb dX8_tellsPerson_54 (by decide) ?_
      exact J55 (0 : Int32) u25 u26 u27 u28 u29 u30 _ _ ls ⟨hP, hD, hS, lv_sub hl [0] rfl⟩ hf
    · refine lv_if_eq (tgt := 54) hx hb dX8_tellsPerson_6 (by decide) (fun c59 => ?_) (fun c59 => ?_)
      · have hf := ifT hf c59
        clear c59
        exact J54 u2 u3 u4 u5 u6 u7 _ _ ls ⟨hP, hD, hS, lv_sub hl [0] rfl⟩ hf
      · have hf := ifF hf c59
        clear c59
        refine lv_aload_n hx hb dX8_tellsPerson_9 rfl (lv_at hl 0 rfl) ?_
        refine lv_iconst (v := 1) hx hb dX8_tellsPerson_10 (by decide) ?_
        refine lv_iconst (v := 0) hx hb dX8_tellsPerson_11 (by decide) ?_
        refine lv_bipush (v := 9) hx hb dX8_tellsPerson_12 (by decide) ?_
        obtain ⟨r32, u33, u34, u35, u36, u37, u38, hr39, hf⟩ := boE7 hf
        have hPc := hP.sub (ws' := [(q_t, oX8 q_t_shelf q_t_rowSort q_t_rowSize q_t_rows q_t_moved q_t_shown q_t_tape v_t_tapeSize q_t_refused v_t_places q_t_ways v_t_people q_t_kind q_t_by q_t_home q_t_aim q_t_at0 v_t_hour v_t_chance v_t_seed w_t_kept w_t_tried u2 u3 u4 u5 u6 q_t_told v_t_statements q_t_steps q_t_spot q_t_then v_t_now v_t_gone q_t_sights q_t_darkAt q_t_can), (q_t_tape, .inl (cy 0, 250, .inl v_t_tape)), (q_t_told, .inl (cy 0, 4, .inl u7))]) [0, 1, 7] rfl
        have hDc := hD.sub (ws' := [(q_t, oX8 q_t_shelf q_t_rowSort q_t_rowSize q_t_rows q_t_moved q_t_shown q_t_tape v_t_tapeSize q_t_refused v_t_places q_t_ways v_t_people q_t_kind q_t_by q_t_home q_t_aim q_t_at0 v_t_hour v_t_chance v_t_seed w_t_kept w_t_tried u2 u3 u4 u5 u6 q_t_told v_t_statements q_t_steps q_t_spot q_t_then v_t_now v_t_gone q_t_sights q_t_darkAt q_t_can), (q_t_tape, .inl (cy 0, 250, .inl v_t_tape)), (q_t_told, .inl (cy 0, 4, .inl u7))]) [0, 1, 7] (by decide) rfl
        refine xcQi (w1 := [(q_t, oX8 q_t_shelf q_t_rowSort q_t_rowSize q_t_rows q_t_moved q_t_shown q_t_tape v_t_tapeSize q_t_refused v_t_places q_t_ways v_t_people q_t_kind q_t_by q_t_home q_t_aim q_t_at0 v_t_hour v_t_chance v_t_seed w_t_kept w_t_tried u33 u34 u35 u36 u37 q_t_told v_t_statements q_t_steps q_t_spot q_t_then v_t_now v_t_gone q_t_sights q_t_darkAt q_t_can), (q_t_tape, .inl (cy 0, 250, .inl v_t_tape)), (q_t_told, .inl (cy 0, 4, .inl u38))]) (va_runV (As := [.int (1 : Int32), .int (0 : Int32), .int (9 : Int32)]) (rest := []) ⟨hx, hb, hml, hown, hts⟩ (mX8_number l D cy q_t q_t_shelf q_t_rowSort q_t_rowSize q_t_rows q_t_moved q_t_shown q_t_tape q_t_refused q_t_ways q_t_kind q_t_by q_t_home q_t_aim q_t_at0 q_t_told q_t_steps q_t_spot q_t_then q_t_sights q_t_darkAt q_t_can v_t_tapeSize v_t_places v_t_people v_t_hour v_t_chance v_t_seed w_t_kept w_t_tried u2 u3 u4 u5 u6 v_t_statements v_t_now v_t_gone v_t_tape u7 _ (1 : Int32) (0 : Int32) (9 : Int32) hr39) (cwV 3 hts gX8_tellsPerson_X8_number rfl rfl rfl (by decide +kernel) ⟨Nat.le_of_ble_eq_true rfl, Nat.le_of_ble_eq_true rfl⟩) (xPVw hK hPc hDc (ci := 8) (q0 := 0) rfl rfl) rfl rfl hl.1 rfl (lv_room (Nat.le_of_ble_eq_true rfl)) dX8_tellsPerson_14 ⟨Nat.le_of_ble_eq_true rfl, Nat.le_of_ble_eq_true rfl⟩) hP hD hS hA [0, 1, 7] rfl rfl (fun H locs hP hD hS => ?_)
        have hP : va_P D vwCl [(q_t, oX8 q_t_shelf q_t_rowSort q_t_rowSize q_t_rows q_t_moved q_t_shown q_t_tape v_t_tapeSize q_t_refused v_t_places q_t_ways v_t_people q_t_kind q_t_by q_t_home q_t_aim q_t_at0 v_t_hour v_t_chance v_t_seed w_t_kept w_t_tried u33 u34 u35 u36 u37 q_t_told v_t_statements q_t_steps q_t_spot q_t_then v_t_now v_t_gone q_t_sights q_t_darkAt q_t_can), (q_t_tape, .inl (cy 0, 250, .inl v_t_tape)), (q_t_kind, .inl (cy 0, 8, .inl v_t_kind)), (q_t_by, .inl (cy 0, 8, .inl v_t_by)), (q_t_home, .inl (cy 0, 8, .inl v_t_home)), (q_t_aim, .inl (cy 0, 8, .inl v_t_aim)), (q_t_at0, .inl (cy 0, 8, .inl v_t_at0)), (q_t_told, .inl (cy 0, 4, .inl u38))] H := hP
        have hD : va_D A [(q_t, oX8 q_t_shelf q_t_rowSort q_t_rowSize q_t_rows q_t_moved q_t_shown q_t_tape v_t_tapeSize q_t_refused v_t_places q_t_ways v_t_people q_t_kind q_t_by q_t_home q_t_aim q_t_at0 v_t_hour v_t_chance v_t_seed w_t_kept w_t_tried u33 u34 u35 u36 u37 q_t_told v_t_statements q_t_steps q_t_spot q_t_then v_t_now v_t_gone q_t_sights q_t_darkAt q_t_can), (q_t_tape, .inl (cy 0, 250, .inl v_t_tape)), (q_t_kind, .inl (cy 0, 8, .inl v_t_kind)), (q_t_by, .inl (cy 0, 8, .inl v_t_by)), (q_t_home, .inl (cy 0, 8, .inl v_t_home)), (q_t_aim, .inl (cy 0, 8, .inl v_t_aim)), (q_t_at0, .inl (cy 0, 8, .inl v_t_at0)), (q_t_told, .inl (cy 0, 4, .inl u38))] := hD
        refine lv_if_eq (tgt := 54) hx hb dX8_tellsPerson_17 (by decide) (fun c58 => ?_) (fun c58 => ?_)
        · have hf := ifT hf c58
          clear c58
          exact J54 u33 u34 u35 u36 u37 u38 _ _ ls ⟨hP, hD, hS, lv_sub hl [0] rfl⟩ hf
        · have hf := ifF hf c58
          clear c58
          refine lv_aload_n hx hb dX8_tellsPerson_20 rfl (lv_at hl 0 rfl) ?_
          refine lv_iconst (v := 2) hx hb dX8_tellsPerson_21 (by decide) ?_
          refine lv_iconst (v := 0) hx hb dX8_tellsPerson_22 (by decide) ?_
          refine lv_aload_n hx hb dX8_tellsPerson_23 rfl (lv_at hl 0 rfl) ?_
          refine va_get (D := D) (ci := 8) (v := .int v_t_places) (C := RX8) (T := TX8) (N := 37) hx hb hts hinX8 hown hK.1 hP 0 rfl rfl 9 (by decide) hk37 (fun _ h9 => h9) rfl dX8_tellsPerson_24 ?_
          refine lv_iconst (v := 1) hx hb dX8_tellsPerson_27 (by decide) ?_
          refine lv_isub hx hb dX8_tellsPerson_28 ?_
          obtain ⟨r40, u41, u42, u43, u44, u45, u46, hr47, hf⟩ := boE7 hf
          have hPc := hP.sub (ws' := [(q_t, oX8 q_t_shelf q_t_rowSort q_t_rowSize q_t_rows q_t_moved q_t_shown q_t_tape v_t_tapeSize q_t_refused v_t_places q_t_ways v_t_people q_t_kind q_t_by q_t_home q_t_aim q_t_at0 v_t_hour v_t_chance v_t_seed w_t_kept w_t_tried u33 u34 u35 u36 u37 q_t_told v_t_statements q_t_steps q_t_spot q_t_then v_t_now v_t_gone q_t_sights q_t_darkAt q_t_can), (q_t_tape, .inl (cy 0, 250, .inl v_t_tape)), (q_t_told, .inl (cy 0, 4, .inl u38))]) [0, 1, 7] rfl
          have hDc := hD.sub (ws' := [(q_t, oX8 q_t_shelf q_t_rowSort q_t_rowSize q_t_rows q_t_moved q_t_shown q_t_tape v_t_tapeSize q_t_refused v_t_places q_t_ways v_t_people q_t_kind q_t_by q_t_home q_t_aim q_t_at0 v_t_hour v_t_chance v_t_seed w_t_kept w_t_tried u33 u34 u35 u36 u37 q_t_told v_t_statements q_t_steps q_t_spot q_t_then v_t_now v_t_gone q_t_sights q_t_darkAt q_t_can), (q_t_tape, .inl (cy 0, 250, .inl v_t_tape)), (q_t_told, .inl (cy 0, 4, .inl u38))]) [0, 1, 7] (by decide) rfl
          refine xcQi (w1 := [(q_t, oX8 q_t_shelf q_t_rowSort q_t_rowSize q_t_rows q_t_moved q_t_shown q_t_tape v_t_tapeSize q_t_refused v_t_places q_t_ways v_t_people q_t_kind q_t_by q_t_home q_t_aim q_t_at0 v_t_hour v_t_chance v_t_seed w_t_kept w_t_tried u41 u42 u43 u44 u45 q_t_told v_t_statements q_t_steps q_t_spot q_t_then v_t_now v_t_gone q_t_sights q_t_darkAt q_t_can), (q_t_tape, .inl (cy 0, 250, .inl v_t_tape)), (q_t_told, .inl (cy 0, 4, .inl u46))]) (va_runV (As := [.int (2 : Int32), .int (0 : Int32), .int (v_t_places - (1 : Int32))]) (rest := []) ⟨hx, hb, hml, hown, hts⟩ (mX8_number l D cy q_t q_t_shelf q_t_rowSort q_t_rowSize q_t_rows q_t_moved q_t_shown q_t_tape q_t_refused q_t_ways q_t_kind q_t_by q_t_home q_t_aim q_t_at0 q_t_told q_t_steps q_t_spot q_t_then q_t_sights q_t_darkAt q_t_can v_t_tapeSize v_t_places v_t_people v_t_hour v_t_chance v_t_seed w_t_kept w_t_tried u33 u34 u35 u36 u37 v_t_statements v_t_now v_t_gone v_t_tape u38 _ (2 : Int32) (0 : Int32) (v_t_places - (1 : Int32)) hr47) (cwV 3 hts gX8_tellsPerson_X8_number rfl rfl rfl (by decide +kernel) ⟨Nat.le_of_ble_eq_true rfl, Nat.le_of_ble_eq_true rfl⟩) (xPVw hK hPc hDc (ci := 8) (q0 := 0) rfl rfl) rfl rfl hl.1 rfl (lv_room (Nat.le_of_ble_eq_true rfl)) dX8_tellsPerson_29 ⟨Nat.le_of_ble_eq_true rfl, Nat.le_of_ble_eq_true rfl⟩) hP hD hS hA [0, 1, 7] rfl rfl (fun H locs hP hD hS => ?_)
          have hP : va_P D vwCl [(q_t, oX8 q_t_shelf q_t_rowSort q_t_rowSize q_t_rows q_t_moved q_t_shown q_t_tape v_t_tapeSize q_t_refused v_t_places q_t_ways v_t_people q_t_kind q_t_by q_t_home q_t_aim q_t_at0 v_t_hour v_t_chance v_t_seed w_t_kept w_t_tried u41 u42 u43 u44 u45 q_t_told v_t_statements q_t_steps q_t_spot q_t_then v_t_now v_t_gone q_t_sights q_t_darkAt q_t_can), (q_t_tape, .inl (cy 0, 250, .inl v_t_tape)), (q_t_kind, .inl (cy 0, 8, .inl v_t_kind)), (q_t_by, .inl (cy 0, 8, .inl v_t_by)), (q_t_home, .inl (cy 0, 8, .inl v_t_home)), (q_t_aim, .inl (cy 0, 8, .inl v_t_aim)), (q_t_at0, .inl (cy 0, 8, .inl v_t_at0)), (q_t_told, .inl (cy 0, 4, .inl u46))] H := hP
          have hD : va_D A [(q_t, oX8 q_t_shelf q_t_rowSort q_t_rowSize q_t_rows q_t_moved q_t_shown q_t_tape v_t_tapeSize q_t_refused v_t_places q_t_ways v_t_people q_t_kind q_t_by q_t_home q_t_aim q_t_at0 v_t_hour v_t_chance v_t_seed w_t_kept w_t_tried u41 u42 u43 u44 u45 q_t_told v_t_statements q_t_steps q_t_spot q_t_then v_t_now v_t_gone q_t_sights q_t_darkAt q_t_can), (q_t_tape, .inl (cy 0, 250, .inl v_t_tape)), (q_t_kind, .inl (cy 0, 8, .inl v_t_kind)), (q_t_by, .inl (cy 0, 8, .inl v_t_by)), (q_t_home, .inl (cy 0, 8, .inl v_t_home)), (q_t_aim, .inl (cy 0, 8, .inl v_t_aim)), (q_t_at0, .inl (cy 0, 8, .inl v_t_at0)), (q_t_told, .inl (cy 0, 4, .inl u46))] := hD
          refine lv_if_eq (tgt := 54) hx hb dX8_tellsPerson_32 (by decide) (fun c57 => ?_) (fun c57 => ?_)
          · have hf := ifT hf c57
            clear c57
            exact J54 u41 u42 u43 u44 u45 u46 _ _ ls ⟨hP, hD, hS, lv_sub hl [0] rfl⟩ hf
          · have hf := ifF hf c57
            clear c57
            refine lv_aload_n hx hb dX8_tellsPerson_35 rfl (lv_at hl 0 rfl) ?_
            refine lv_iconst (v := 3) hx hb dX8_tellsPerson_36 (by decide) ?_
            refine lv_iconst (v := 0) hx hb dX8_tellsPerson_37 (by decide) ?_
            refine lv_aload_n hx hb dX8_tellsPerson_38 rfl (lv_at hl 0 rfl) ?_
            refine va_get (D := D) (ci := 8) (v := .int v_t_places) (C := RX8) (T := TX8) (N := 37) hx hb hts hinX8 hown hK.1 hP 0 rfl rfl 9 (by decide) hk37 (fun _ h9 => h9) rfl dX8_tellsPerson_39 ?_
            refine lv_iconst (v := 1) hx hb dX8_tellsPerson_42 (by decide) ?_
            refine lv_isub hx hb dX8_tellsPerson_43 ?_
            obtain ⟨r48, u49, u50, u51, u52, u53, u54, hr55, hf⟩ := boE7 hf
            have hPc := hP.sub (ws' := [(q_t, oX8 q_t_shelf q_t_rowSort q_t_rowSize q_t_rows q_t_moved q_t_shown q_t_tape v_t_tapeSize q_t_refused v_t_places q_t_ways v_t_people q_t_kind q_t_by q_t_home q_t_aim q_t_at0 v_t_hour v_t_chance v_t_seed w_t_kept w_t_tried u41 u42 u43 u44 u45 q_t_told v_t_statements q_t_steps q_t_spot q_t_then v_t_now v_t_gone q_t_sights q_t_darkAt q_t_can), (q_t_tape, .inl (cy 0, 250, .inl v_t_tape)), (q_t_told, .inl (cy 0, 4, .inl u46))]) [0, 1, 7] rfl
            have hDc := hD.sub (ws' := [(q_t, oX8 q_t_shelf q_t_rowSort q_t_rowSize q_t_rows q_t_moved q_t_shown q_t_tape v_t_tapeSize q_t_refused v_t_places q_t_ways v_t_people q_t_kind q_t_by q_t_home q_t_aim q_t_at0 v_t_hour v_t_chance v_t_seed w_t_kept w_t_tried u41 u42 u43 u44 u45 q_t_told v_t_statements q_t_steps q_t_spot q_t_then v_t_now v_t_gone q_t_sights q_t_darkAt q_t_can), (q_t_tape, .inl (cy 0, 250, .inl v_t_tape)), (q_t_told, .inl (cy 0, 4, .inl u46))]) [0, 1, 7] (by decide) rfl
            refine xcQi (w1 := [(q_t, oX8 q_t_shelf q_t_rowSort q_t_rowSize q_t_rows q_t_moved q_t_shown q_t_tape v_t_tapeSize q_t_refused v_t_places q_t_ways v_t_people q_t_kind q_t_by q_t_home q_t_aim q_t_at0 v_t_hour v_t_chance v_t_seed w_t_kept w_t_tried u49 u50 u51 u52 u53 q_t_told v_t_statements q_t_steps q_t_spot q_t_then v_t_now v_t_gone q_t_sights q_t_darkAt q_t_can), (q_t_tape, .inl (cy 0, 250, .inl v_t_tape)), (q_t_told, .inl (cy 0, 4, .inl u54))]) (va_runV (As := [.int (3 : Int32), .int (0 : Int32), .int (v_t_places - (1 : Int32))]) (rest := []) ⟨hx, hb, hml, hown, hts⟩ (mX8_number l D cy q_t q_t_shelf q_t_rowSort q_t_rowSize q_t_rows q_t_moved q_t_shown q_t_tape q_t_refused q_t_ways q_t_kind q_t_by q_t_home q_t_aim q_t_at0 q_t_told q_t_steps q_t_spot q_t_then q_t_sights q_t_darkAt q_t_can v_t_tapeSize v_t_places v_t_people v_t_hour v_t_chance v_t_seed w_t_kept w_t_tried u41 u42 u43 u44 u45 v_t_statements v_t_now v_t_gone v_t_tape u46 _ (3 : Int32) (0 : Int32) (v_t_places - (1 : Int32)) hr55) (cwV 3 hts gX8_tellsPerson_X8_number rfl rfl rfl (by decide +kernel) ⟨Nat.le_of_ble_eq_true rfl, Nat.le_of_ble_eq_true rfl⟩) (xPVw hK hPc hDc (ci := 8) (q0 := 0) rfl rfl) rfl rfl hl.1 rfl (lv_room (Nat.le_of_ble_eq_true rfl)) dX8_tellsPerson_44 ⟨Nat.le_of_ble_eq_true rfl, Nat.le_of_ble_eq_true rfl⟩) hP hD hS hA [0, 1, 7] rfl rfl (fun H locs hP hD hS => ?_)
            have hP : va_P D vwCl [(q_t, oX8 q_t_shelf q_t_rowSort q_t_rowSize q_t_rows q_t_moved q_t_shown q_t_tape v_t_tapeSize q_t_refused v_t_places q_t_ways v_t_people q_t_kind q_t_by q_t_home q_t_aim q_t_at0 v_t_hour v_t_chance v_t_seed w_t_kept w_t_tried u49 u50 u51 u52 u53 q_t_told v_t_statements q_t_steps q_t_spot q_t_then v_t_now v_t_gone q_t_sights q_t_darkAt q_t_can), (q_t_tape, .inl (cy 0, 250, .inl v_t_tape)), (q_t_kind, .inl (cy 0, 8, .inl v_t_kind)), (q_t_by, .inl (cy 0, 8, .inl v_t_by)), (q_t_home, .inl (cy 0, 8, .inl v_t_home)), (q_t_aim, .inl (cy 0, 8, .inl v_t_aim)), (q_t_at0, .inl (cy 0, 8, .inl v_t_at0)), (q_t_told, .inl (cy 0, 4, .inl u54))] H := hP
            have hD : va_D A [(q_t, oX8 q_t_shelf q_t_rowSort q_t_rowSize q_t_rows q_t_moved q_t_shown q_t_tape v_t_tapeSize q_t_refused v_t_places q_t_ways v_t_people q_t_kind q_t_by q_t_home q_t_aim q_t_at0 v_t_hour v_t_chance v_t_seed w_t_kept w_t_tried u49 u50 u51 u52 u53 q_t_told v_t_statements q_t_steps q_t_spot q_t_then v_t_now v_t_gone q_t_sights q_t_darkAt q_t_can), (q_t_tape, .inl (cy 0, 250, .inl v_t_tape)), (q_t_kind, .inl (cy 0, 8, .inl v_t_kind)), (q_t_by, .inl (cy 0, 8, .inl v_t_by)), (q_t_home, .inl (cy 0, 8, .inl v_t_home)), (q_t_aim, .inl (cy 0, 8, .inl v_t_aim)), (q_t_at0, .inl (cy 0, 8, .inl v_t_at0)), (q_t_told, .inl (cy 0, 4, .inl u54))] := hD
            refine lv_if_eq (tgt := 54) hx hb dX8_tellsPerson_47 (by decide) (fun c56 => ?_) (fun c56 => ?_)
            · have hf := ifT hf c56
              clear c56
              exact J54 u49 u50 u51 u52 u53 u54 _ _ ls ⟨hP, hD, hS, lv_sub hl [0] rfl⟩ hf
            · have hf := ifF hf c56
              clear c56
              refine lv_iconst (v := 1) hx hb dX8_tellsPerson_50 (by decide) ?_
              refine lv_goto (tgt := 55) hx hb dX8_tellsPerson_51 (by decide) ?_
              exact J55 (1 : Int32) u49 u50 u51 u52 u53 u54 _ _ ls ⟨hP, hD, hS, lv_sub hl [0] rfl⟩ hf
