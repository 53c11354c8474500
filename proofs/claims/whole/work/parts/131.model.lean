def fX8_goes (v_t_places : Int32) (v_t_people : Int32) (v_t_now : Int32) (v_t_gone : Int32) (v_t_ways : Nat → Int32) (v_t_kind : Nat → Int32) (v_t_home : Nat → Int32) (v_t_aim : Nat → Int32) (v_t_steps : Nat → Int32) (v_t_spot : Nat → Int32) (v_t_then : Nat → Int32) : Option (Int32 × (Nat → Int32) × (Nat → Int32) × (Nat → Int32)) :=
  lo3 (fun g4 (x1 : Int32) (u2 : Nat → Int32) (u3 : Nat → Int32) =>
    if v_t_people ≤ x1 then
      lo2 (fun g7 (x5 : Int32) (u6 : Nat → Int32) =>
        if v_t_people ≤ x5 then
          jo1 (fun (y8 : Int32) =>
            some (y8, u2, u6, u3)) fun k9 =>
          if (9999 : Int32) ≤ v_t_now then
            k9 (9999 : Int32)
          else
            k9 (v_t_now + (1 : Int32))
        else
          if x5 < 0 ∨ 8 ≤ x5.toNatClampNeg then none else
          if x5 < 0 ∨ 8 ≤ x5.toNatClampNeg then none else
          vlet (x5 + (1 : Int32)) fun x13 =>
          g7 x13 (upd u6 x5.toNatClampNeg (u3 x5.toNatClampNeg))) 400 (0 : Int32) v_t_spot
    else
      bo2 (fX8_goesTo v_t_places v_t_people v_t_now v_t_gone v_t_ways v_t_kind v_t_home v_t_aim u2 v_t_spot x1) fun r15 u16 =>
      if x1 < 0 ∨ 8 ≤ x1.toNatClampNeg then none else
      vlet (x1 + (1 : Int32)) fun x19 =>
      g4 x19 u16 (upd u3 x1.toNatClampNeg r15)) 400 (0 : Int32) v_t_steps v_t_then
set_option maxHeartbeats 4000000 in
set_option maxRecDepth 100000 in
theorem mX8_goes (l : Launch) (D : va_G) (cy : Nat → ClassId) (q_t q_t_shelf q_t_rowSort q_t_rowSize q_t_rows q_t_moved q_t_shown q_t_tape q_t_refused q_t_ways q_t_kind q_t_by q_t_home q_t_aim q_t_at0 q_t_told q_t_steps q_t_spot q_t_then q_t_sights q_t_darkAt q_t_can : Nat) (v_t_tapeSize : Int32) (v_t_places : Int32) (v_t_people : Int32) (v_t_hour : Int32) (v_t_chance : Int32) (v_t_seed : Int32) (w_t_kept : Value) (w_t_tried : Value) (v_t_at : Int32) (v_t_token : Int32) (v_t_from : Int32) (v_t_figures : Int32) (v_t_fault : Int32) (v_t_statements : Int32) (v_t_now : Int32) (v_t_gone : Int32) (v_t_ways : Nat → Int32) (v_t_kind : Nat → Int32) (v_t_home : Nat → Int32) (v_t_aim : Nat → Int32) (v_t_steps : Nat → Int32) (v_t_spot : Nat → Int32) (v_t_then : Nat → Int32) (sz : Nat) {n_t_now : Int32} {n_t_steps : Nat → Int32} {n_t_spot : Nat → Int32} {n_t_then : Nat → Int32} (hf : fX8_goes v_t_places v_t_people v_t_now v_t_gone v_t_ways v_t_kind v_t_home v_t_aim v_t_steps v_t_spot v_t_then = some (n_t_now, n_t_steps, n_t_spot, n_t_then)) : Met l yX8_goes wsX8_goes ({ frames := 3, cells := 0, slots := 0, locals := 69 }) (va_Pc [.ref q_t] (fun U => U.heap.size = sz ∧ va_P D vwCl [(q_t, oX8 q_t_shelf q_t_rowSort q_t_rowSize q_t_rows q_t_moved q_t_shown q_t_tape v_t_tapeSize q_t_refused v_t_places q_t_ways v_t_people q_t_kind q_t_by q_t_home q_t_aim q_t_at0 v_t_hour v_t_chance v_t_seed w_t_kept w_t_tried v_t_at v_t_token v_t_from v_t_figures v_t_fault q_t_told v_t_statements q_t_steps q_t_spot q_t_then v_t_now v_t_gone q_t_sights q_t_darkAt q_t_can), (q_t_ways, .inl (cy 0, 12, .inl v_t_ways)), (q_t_kind, .inl (cy 0, 8, .inl v_t_kind)), (q_t_home, .inl (cy 0, 8, .inl v_t_home)), (q_t_aim, .inl (cy 0, 8, .inl v_t_aim)), (q_t_steps, .inl (cy 0, 12, .inl v_t_steps)), (q_t_spot, .inl (cy 0, 8, .inl v_t_spot)), (q_t_then, .inl (cy 0, 8, .inl v_t_then))] U.heap ∧ xK D cy U ∧ va_D (fun _ => True) [(q_t, oX8 q_t_shelf q_t_rowSort q_t_rowSize q_t_rows q_t_moved q_t_shown q_t_tape v_t_tapeSize q_t_refused v_t_places q_t_ways v_t_people q_t_kind q_t_by q_t_home q_t_aim q_t_at0 v_t_hour v_t_chance v_t_seed w_t_kept w_t_tried v_t_at v_t_token v_t_from v_t_figures v_t_fault q_t_told v_t_statements q_t_steps q_t_spot q_t_then v_t_now v_t_gone q_t_sights q_t_darkAt q_t_can), (q_t_ways, .inl (cy 0, 12, .inl v_t_ways)), (q_t_kind, .inl (cy 0, 8, .inl v_t_kind)), (q_t_home, .inl (cy 0, 8, .inl v_t_home)), (q_t_aim, .inl (cy 0, 8, .inl v_t_aim)), (q_t_steps, .inl (cy 0, 12, .inl v_t_steps)), (q_t_spot, .inl (cy 0, 8, .inl v_t_spot)), (q_t_then, .inl (cy 0, 8, .inl v_t_then))])) (va_Qv (fun (_ : Unit) => True) (fun _ t => va_P D vwCl [(q_t, oX8 q_t_shelf q_t_rowSort q_t_rowSize q_t_rows q_t_moved q_t_shown q_t_tape v_t_tapeSize q_t_refused v_t_places q_t_ways v_t_people q_t_kind q_t_by q_t_home q_t_aim q_t_at0 v_t_hour v_t_chance v_t_seed w_t_kept w_t_tried v_t_at v_t_token v_t_from v_t_figures v_t_fault q_t_told v_t_statements q_t_steps q_t_spot q_t_then n_t_now v_t_gone q_t_sights q_t_darkAt q_t_can), (q_t_ways, .inl (cy 0, 12, .inl v_t_ways)), (q_t_kind, .inl (cy 0, 8, .inl v_t_kind)), (q_t_home, .inl (cy 0, 8, .inl v_t_home)), (q_t_aim, .inl (cy 0, 8, .inl v_t_aim)), (q_t_steps, .inl (cy 0, 12, .inl n_t_steps)), (q_t_spot, .inl (cy 0, 8, .inl n_t_spot)), (q_t_then, .inl (cy 0, 8, .inl n_t_then))] t.heap) (va_A [(q_t, oX8 q_t_shelf q_t_rowSort q_t_rowSize q_t_rows q_t_moved q_t_shown q_t_tape v_t_tapeSize q_t_refused v_t_places q_t_ways v_t_people q_t_kind q_t_by q_t_home q_t_aim q_t_at0 v_t_hour v_t_chance v_t_seed w_t_kept w_t_tried v_t_at v_t_token v_t_from v_t_figures v_t_fault q_t_told v_t_statements q_t_steps q_t_spot q_t_then v_t_now v_t_gone q_t_sights q_t_darkAt q_t_can), (q_t_ways, .inl (cy 0, 12, .inl v_t_ways)), (q_t_kind, .inl (cy 0, 8, .inl v_t_kind)), (q_t_home, .inl (cy 0, 8, .inl v_t_home)), (q_t_aim, .inl (cy 0, 8, .inl v_t_aim)), (q_t_steps, .inl (cy 0, 12, .inl v_t_steps)), (q_t_spot, .inl (cy 0, 8, .inl v_t_spot)), (q_t_then, .inl (cy 0, 8, .inl v_t_then))] sz)) 0 0 (va_A [(q_t, oX8 q_t_shelf q_t_rowSort q_t_rowSize q_t_rows q_t_moved q_t_shown q_t_tape v_t_tapeSize q_t_refused v_t_places q_t_ways v_t_people q_t_kind q_t_by q_t_home q_t_aim q_t_at0 v_t_hour v_t_chance v_t_seed w_t_kept w_t_tried v_t_at v_t_token v_t_from v_t_figures v_t_fault q_t_told v_t_statements q_t_steps q_t_spot q_t_then v_t_now v_t_gone q_t_sights q_t_darkAt q_t_can), (q_t_ways, .inl (cy 0, 12, .inl v_t_ways)), (q_t_kind, .inl (cy 0, 8, .inl v_t_kind)), (q_t_home, .inl (cy 0, 8, .inl v_t_home)), (q_t_aim, .inl (cy 0, 8, .inl v_t_aim)), (q_t_steps, .inl (cy 0, 12, .inl v_t_steps)), (q_t_spot, .inl (cy 0, 8, .inl v_t_spot)), (q_t_then, .inl (cy 0, 8, .inl v_t_then))] sz) := by
  refine Met.ofW (cc := cX8_goes) (maxL := 2) (ret := none) (by decide) rfl ?_
  intro p e s m args below meth c s₁ B hml hv
  obtain ⟨rfl, hsz, hP, hK, hD0⟩ := hv
  have hx := B.exec
  have hb := B.bytes
  have hr := B.returns
  have hts := atoms_spec (ws := wsX8_goes) B.pre
  have hown : s.vm.findClass RX8 = some m.cls := findClass_of_methodNamed B.named
  have hlocks := B.notSynchronized
  subst hsz
  have hD := hD0.self (sz := s.heap.size)
  generalize hAe : va_A [(q_t, oX8 q_t_shelf q_t_rowSort q_t_rowSize q_t_rows q_t_moved q_t_shown q_t_tape v_t_tapeSize q_t_refused v_t_places q_t_ways v_t_people q_t_kind q_t_by q_t_home q_t_aim q_t_at0 v_t_hour v_t_chance v_t_seed w_t_kept w_t_tried v_t_at v_t_token v_t_from v_t_figures v_t_fault q_t_told v_t_statements q_t_steps q_t_spot q_t_then v_t_now v_t_gone q_t_sights q_t_darkAt q_t_can), (q_t_ways, .inl (cy 0, 12, .inl v_t_ways)), (q_t_kind, .inl (cy 0, 8, .inl v_t_kind)), (q_t_home, .inl (cy 0, 8, .inl v_t_home)), (q_t_aim, .inl (cy 0, 8, .inl v_t_aim)), (q_t_steps, .inl (cy 0, 12, .inl v_t_steps)), (q_t_spot, .inl (cy 0, 8, .inl v_t_spot)), (q_t_then, .inl (cy 0, 8, .inl v_t_then))] s.heap.size = A at hD ⊢
  have hA : ∀ q : Nat, s.heap.size ≤ q → A q := fun q h => by rw [← hAe]; exact Or.inr h
  have hS : va_S A s.heap s.heap [] := va_S.rf
  have hP : va_P D vwCl [(q_t, oX8 q_t_shelf q_t_rowSort q_t_rowSize q_t_rows q_t_moved q_t_shown q_t_tape v_t_tapeSize q_t_refused v_t_places q_t_ways v_t_people q_t_kind q_t_by q_t_home q_t_aim q_t_at0 v_t_hour v_t_chance v_t_seed w_t_kept w_t_tried v_t_at v_t_token v_t_from v_t_figures v_t_fault q_t_told v_t_statements q_t_steps q_t_spot q_t_then v_t_now v_t_gone q_t_sights q_t_darkAt q_t_can), (q_t_ways, .inl (cy 0, 12, .inl v_t_ways)), (q_t_kind, .inl (cy 0, 8, .inl v_t_kind)), (q_t_home, .inl (cy 0, 8, .inl v_t_home)), (q_t_aim, .inl (cy 0, 8, .inl v_t_aim)), (q_t_steps, .inl (cy 0, 12, .inl v_t_steps)), (q_t_spot, .inl (cy 0, 8, .inl v_t_spot)), (q_t_then, .inl (cy 0, 8, .inl v_t_then))] s.heap := hP
  have hinX8 : ∀ w ∈ u_ws RX8 TX8 37, w ∈ wsX8_goes := by decide +kernel
  have hk95 := hts (.fieldLink RX8 95 "ShowsWhereNobodyIsModel" "people" "I") (by decide +kernel)
  have hk254 := hts (.fieldLink RX8 254 "ShowsWhereNobodyIsModel" "now" "I") (by decide +kernel)
  have hk71 := hts (.fieldLink RX8 71 "ShowsWhereNobodyIsModel" "spot" "[I") (by decide +kernel)
  have hk74 := hts (.fieldLink RX8 74 "ShowsWhereNobodyIsModel" "then" "[I") (by decide +kernel)
  have hl := lv_entry ([.ref q_t]) (n := 2) (Nat.le_of_ble_eq_true rfl)
  rw [lg_entry_eq]
  generalize (lg_sl ([.ref q_t]) ++ List.replicate (2 - (lg_sl ([.ref q_t])).length) Slot.unset).toArray = ls at hl ⊢
  have hl : lv_has ls 2 [(0, .ref q_t)] := hl
  unfold fX8_goes at hf
  refine lv_iconst (v := 0) hx hb dX8_goes_0 (by decide) ?_
  refine lv_istore_n (lv' := [(1, .int (0 : Int32)), (0, .ref q_t)]) hx hb dX8_goes_1 rfl hl (by decide) rfl (fun ls hl => ?_)
  refine wlw3 2 (fun _ _ _ => []) (fun (x1 : Int32) (u2 : Nat → Int32) (u3 : Nat → Int32) H locs ls => va_P D vwCl [(q_t, oX8 q_t_shelf q_t_rowSort q_t_rowSize q_t_rows q_t_moved q_t_shown q_t_tape v_t_tapeSize q_t_refused v_t_places q_t_ways v_t_people q_t_kind q_t_by q_t_home q_t_aim q_t_at0 v_t_hour v_t_chance v_t_seed w_t_kept w_t_tried v_t_at v_t_token v_t_from v_t_figures v_t_fault q_t_told v_t_statements q_t_steps q_t_spot q_t_then v_t_now v_t_gone q_t_sights q_t_darkAt q_t_can), (q_t_ways, .inl (cy 0, 12, .inl v_t_ways)), (q_t_kind, .inl (cy 0, 8, .inl v_t_kind)), (q_t_home, .inl (cy 0, 8, .inl v_t_home)), (q_t_aim, .inl (cy 0, 8, .inl v_t_aim)), (q_t_steps, .inl (cy 0, 12, .inl u2)), (q_t_spot, .inl (cy 0, 8, .inl v_t_spot)), (q_t_then, .inl (cy 0, 8, .inl u3))] H ∧ va_D A [(q_t, oX8 q_t_shelf q_t_rowSort q_t_rowSize q_t_rows q_t_moved q_t_shown q_t_tape v_t_tapeSize q_t_refused v_t_places q_t_ways v_t_people q_t_kind q_t_by q_t_home q_t_aim q_t_at0 v_t_hour v_t_chance v_t_seed w_t_kept w_t_tried v_t_at v_t_token v_t_from v_t_figures v_t_fault q_t_told v_t_statements q_t_steps q_t_spot q_t_then v_t_now v_t_gone q_t_sights q_t_darkAt q_t_can), (q_t_ways, .inl (cy 0, 12, .inl v_t_ways)), (q_t_kind, .inl (cy 0, 8, .inl v_t_kind)), (q_t_home, .inl (cy 0, 8, .inl v_t_home)), (q_t_aim, .inl (cy 0, 8, .inl v_t_aim)), (q_t_steps, .inl (cy 0, 12, .inl u2)), (q_t_spot, .inl (cy 0, 8, .inl v_t_spot)), (q_t_then, .inl (cy 0, 8, .inl u3))] ∧ va_S A s.heap H locs ∧ lv_has ls 2 [(1, .int x1), (0, .ref q_t)]) (fun g4 L2 x1 u2 u3 H locs ls hI hf => ?_) 400 (0 : Int32) v_t_steps v_t_then _ _ ls ⟨hP, hD, hS, lv_sub hl [0, 1] rfl⟩ hf
  obtain ⟨hP, hD, hS, hl⟩ := hI
  refine lv_iload_n hx hb dX8_goes_2 rfl (lv_at hl 0 rfl) ?_
  refine lv_aload_n hx hb dX8_goes_3 rfl (lv_at hl 1 rfl) ?_
  refine va_get (D := D) (ci := 8) (v := .int v_t_people) (C := RX8) (T := TX8) (N := 37) hx hb hts hinX8 hown hK.1 hP 0 rfl rfl 11 (by decide) hk95 (fun _ h9 => h9) rfl dX8_goes_4 ?_
  refine lv_icmp_ge (tgt := 27) hx hb dX8_goes_7 (by decide) (fun c20 => ?_) (fun c20 => ?_)
  · have hf := ifT hf c20
    clear c20
    refine lv_iconst (v := 0) hx hb dX8_goes_27 (by decide) ?_
    refine lv_istore_n (lv' := [(1, .int (0 : Int32)), (0, .ref q_t)]) hx hb dX8_goes_28 rfl hl (by decide) rfl (fun ls hl => ?_)
    refine wlw2 29 (fun _ _ => []) (fun (x5 : Int32) (u6 : Nat → Int32) H locs ls => va_P D vwCl [(q_t, oX8 q_t_shelf q_t_rowSort q_t_rowSize q_t_rows q_t_moved q_t_shown q_t_tape v_t_tapeSize q_t_refused v_t_places q_t_ways v_t_people q_t_kind q_t_by q_t_home q_t_aim q_t_at0 v_t_hour v_t_chance v_t_seed w_t_kept w_t_tried v_t_at v_t_token v_t_from v_t_figures v_t_fault q_t_told v_t_statements q_t_steps q_t_spot q_t_then v_t_now v_t_gone q_t_sights q_t_darkAt q_t_can), (q_t_ways, .inl (cy 0, 12, .inl v_t_ways)), (q_t_kind, .inl (cy 0, 8, .inl v_t_kind)), (q_t_home, .inl (cy 0, 8, .inl v_t_home)), (q_t_aim, .inl (cy 0, 8, .inl v_t_aim)), (q_t_steps, .inl (cy 0, 12, .inl u2)), (q_t_spot, .inl (cy 0, 8, .inl u6)), (q_t_then, .inl (cy 0, 8, .inl u3))] H ∧ va_D A [(q_t, oX8 q_t_shelf q_t_rowSort q_t_rowSize q_t_rows q_t_moved q_t_shown q_t_tape v_t_tapeSize q_t_refused v_t_places q_t_ways v_t_people q_t_kind q_t_by q_t_home q_t_aim q_t_at0 v_t_hour v_t_chance v_t_seed w_t_kept w_t_tried v_t_at v_t_token v_t_from v_t_figures v_t_fault q_t_told v_t_statements q_t_steps q_t_spot q_t_then v_t_now v_t_gone q_t_sights q_t_darkAt q_t_can), (q_t_ways, .inl (cy 0, 12, .inl v_t_ways)), (q_t_kind, .inl (cy 0, 8, .inl v_t_kind)), (q_t_home, .inl (cy 0, 8, .inl v_t_home)), (q_t_aim, .inl (cy 0, 8, .inl v_t_aim)), (q_t_steps, .inl (cy 0, 12, .inl u2)), (q_t_spot, .inl (cy 0, 8, .inl u6)), (q_t_then, .inl (cy 0, 8, .inl u3))] ∧ va_S A s.heap H locs ∧ lv_has ls 2 [(1, .int x5), (0, .ref q_t)]) (fun g7 L29 x5 u6 H locs ls hI hf => ?_) 400 (0 : Int32) v_t_spot _ _ ls ⟨hP, hD, hS, lv_sub hl [0, 1] rfl⟩ hf
    obtain ⟨hP, hD, hS, hl⟩ := hI
    refine lv_iload_n hx hb dX8_goes_29 rfl (lv_at hl 0 rfl) ?_
    refine lv_aload_n hx hb dX8_goes_30 rfl (lv_at hl 1 rfl) ?_
    refine va_get (D := D) (ci := 8) (v := .int v_t_people) (C := RX8) (T := TX8) (N := 37) hx hb hts hinX8 hown hK.1 hP 0 rfl rfl 11 (by decide) hk95 (fun _ h9 => h9) rfl dX8_goes_31 ?_
    refine lv_icmp_ge (tgt := 55) hx hb dX8_goes_34 (by decide) (fun c14 => ?_) (fun c14 => ?_)
    · have hf := ifT hf c14
      clear c14
      refine lv_aload_n hx hb dX8_goes_55 rfl (lv_at hl 1 rfl) ?_
      refine lv_aload_n hx hb dX8_goes_56 rfl (lv_at hl 1 rfl) ?_
      refine va_get (D := D) (ci := 8) (v := .int v_t_now) (C := RX8) (T := TX8) (N := 37) hx hb hts hinX8 hown hK.1 hP 0 rfl rfl 32 (by decide) hk254 (fun _ h9 => h9) rfl dX8_goes_57 ?_
      refine lv_sipush (v := 9999) hx hb dX8_goes_60 (by decide) ?_
      refine jww1 78 (fun (y8 : Int32) => [.int y8, .ref q_t]) (fun (y8 : Int32) H locs ls => va_P D vwCl [(q_t, oX8 q_t_shelf q_t_rowSort q_t_rowSize q_t_rows q_t_moved q_t_shown q_t_tape v_t_tapeSize q_t_refused v_t_places q_t_ways v_t_people q_t_kind q_t_by q_t_home q_t_aim q_t_at0 v_t_hour v_t_chance v_t_seed w_t_kept w_t_tried v_t_at v_t_token v_t_from v_t_figures v_t_fault q_t_told v_t_statements q_t_steps q_t_spot q_t_then v_t_now v_t_gone q_t_sights q_t_darkAt q_t_can), (q_t_ways, .inl (cy 0, 12, .inl v_t_ways)), (q_t_kind, .inl (cy 0, 8, .inl v_t_kind)), (q_t_home, .inl (cy 0, 8, .inl v_t_home)), (q_t_aim, .inl (cy 0, 8, .inl v_t_aim)), (q_t_steps, .inl (cy 0, 12, .inl u2)), (q_t_spot, .inl (cy 0, 8, .inl u6)), (q_t_then, .inl (cy 0, 8, .inl u3))] H ∧ va_D A [(q_t, oX8 q_t_shelf q_t_rowSort q_t_rowSize q_t_rows q_t_moved q_t_shown q_t_tape v_t_tapeSize q_t_refused v_t_places q_t_ways v_t_people q_t_kind q_t_by q_t_home q_t_aim q_t_at0 v_t_hour v_t_chance v_t_seed w_t_kept w_t_tried v_t_at v_t_token v_t_from v_t_figures v_t_fault q_t_told v_t_statements q_t_steps q_t_spot q_t_then v_t_now v_t_gone q_t_sights q_t_darkAt q_t_can), (q_t_ways, .inl (cy 0, 12, .inl v_t_ways)), (q_t_kind, .inl (cy 0, 8, .inl v_t_kind)), (q_t_home, .inl (cy 0, 8, .inl v_t_home)), (q_t_aim, .inl (cy 0, 8, .inl v_t_aim)), (q_t_steps, .inl (cy 0, 12, .inl u2)), (q_t_spot, .inl (cy 0, 8, .inl u6)), (q_t_then, .inl (cy 0, 8, .inl u3))] ∧ va_S A s.heap H locs ∧ lv_has ls 2 []) hf (fun y8 H locs ls hI hf => ?_) (fun k9 J78 hf => ?_)
      · obtain ⟨hP, hD, hS, hl⟩ := hI
        refine va_put (D := D) (ci := 8) (v := .int y8) (ty := .int) (C := RX8) (T := TX8) (N := 37) hx hb hts hinX8 tyX8 tyX8_ok nmX8 hown hK.1 hP hD hS 0 rfl rfl 32 (by decide) hk254 (fun _ h9 => h9) rfl (by decide +kernel) rfl rfl (Nat.le_of_ble_eq_true rfl) dX8_goes_78 (fun H locs hP hD hS => ?_)
        have hP : va_P D vwCl [(q_t, oX8 q_t_shelf q_t_rowSort q_t_rowSize q_t_rows q_t_moved q_t_shown q_t_tape v_t_tapeSize q_t_refused v_t_places q_t_ways v_t_people q_t_kind q_t_by q_t_home q_t_aim q_t_at0 v_t_hour v_t_chance v_t_seed w_t_kept w_t_tried v_t_at v_t_token v_t_from v_t_figures v_t_fault q_t_told v_t_statements q_t_steps q_t_spot q_t_then y8 v_t_gone q_t_sights q_t_darkAt q_t_can), (q_t_ways, .inl (cy 0, 12, .inl v_t_ways)), (q_t_kind, .inl (cy 0, 8, .inl v_t_kind)), (q_t_home, .inl (cy 0, 8, .inl v_t_home)), (q_t_aim, .inl (cy 0, 8, .inl v_t_aim)), (q_t_steps, .inl (cy 0, 12, .inl u2)), (q_t_spot, .inl (cy 0, 8, .inl u6)), (q_t_then, .inl (cy 0, 8, .inl u3))] H := hP
        have hD : va_D A [(q_t, oX8 q_t_shelf q_t_rowSort q_t_rowSize q_t_rows q_t_moved q_t_shown q_t_tape v_t_tapeSize q_t_refused v_t_places q_t_ways v_t_people q_t_kind q_t_by q_t_home q_t_aim q_t_at0 v_t_hour v_t_chance v_t_seed w_t_kept w_t_tried v_t_at v_t_token v_t_from v_t_figures v_t_fault q_t_told v_t_statements q_t_steps q_t_spot q_t_then y8 v_t_gone q_t_sights q_t_darkAt q_t_can), (q_t_ways, .inl (cy 0, 12, .inl v_t_ways)), (q_t_kind, .inl (cy 0, 8, .inl v_t_kind)), (q_t_home, .inl (cy 0, 8, .inl v_t_home)), (q_t_aim, .inl (cy 0, 8, .inl v_t_aim)), (q_t_steps, .inl (cy 0, 12, .inl u2)), (q_t_spot, .inl (cy 0, 8, .inl u6)), (q_t_then, .inl (cy 0, 8, .inl u3))] := hD
        cases hf
        exact W.vret hx hb hr (fun t ht hW => ⟨⟨(), rfl, trivial, xend ht hP⟩, hS.F ht⟩) hS.2.2 dX8_goes_81
      · refine lv_icmp_ge (tgt := 75) hx hb dX8_goes_63 (by decide) (fun c10 => ?_) (fun c10 => ?_)
        · have hf := ifT hf c10
          clear c10
          refine lv_sipush (v := 9999) hx hb dX8_goes_75 (by decide) ?_
          exact J78 (9999 : Int32) _ _ ls ⟨hP, hD, hS, lv_sub hl [] rfl⟩ hf
        · have hf := ifF hf c10
          clear c10
          refine lv_aload_n hx hb dX8_goes_66 rfl (lv_at hl 1 rfl) ?_
          refine va_get (D := D) (ci := 8) (v := .int v_t_now) (C := RX8) (T := TX8) (N := 37) hx hb hts hinX8 hown hK.1 hP 0 rfl rfl 32 (by decide) hk254 (fun _ h9 => h9) rfl dX8_goes_67 ?_
          refine lv_iconst (v := 1) hx hb dX8_goes_70 (by decide) ?_
          refine lv_iadd hx hb dX8_goes_71 ?_
          refine lv_goto (tgt := 78) hx hb dX8_goes_72 (by decide) ?_
          exact J78 (v_t_now + (1 : Int32)) _ _ ls ⟨hP, hD, hS, lv_sub hl [] rfl⟩ hf
    · have hf := ifF hf c14
      clear c14
      refine lv_aload_n hx hb dX8_goes_37 rfl (lv_at hl 1 rfl) ?_
      refine va_get (D := D) (ci := 8) (v := .ref q_t_spot) (C := RX8) (T := TX8) (N := 37) hx hb hts hinX8 hown hK.1 hP 0 rfl rfl 30 (by decide) hk71 (fun _ h9 => h9) rfl dX8_goes_38 ?_
      refine lv_iload_n hx hb dX8_goes_41 rfl (lv_at hl 0 rfl) ?_
      refine lv_aload_n hx hb dX8_goes_42 rfl (lv_at hl 1 rfl) ?_
      refine va_get (D := D) (ci := 8) (v := .ref q_t_then) (C := RX8) (T := TX8) (N := 37) hx hb hts hinX8 hown hK.1 hP 0 rfl rfl 31 (by decide) hk74 (fun _ h9 => h9) rfl dX8_goes_43 ?_
      refine lv_iload_n hx hb dX8_goes_46 rfl (lv_at hl 0 rfl) ?_
      obtain ⟨hi11, hf⟩ := ckE hf
      refine va_iald hx hb hK.1 hP 7 0 rfl rfl hi11 dX8_goes_47 ?_
      obtain ⟨hi12, hf⟩ := ckE hf
      refine va_iast hx hb hK.1 hP hD hS 6 0 rfl rfl hi12 dX8_goes_48 (fun H locs hP hD hS => ?_)
      have hP : va_P D vwCl [(q_t, oX8 q_t_shelf q_t_rowSort q_t_rowSize q_t_rows q_t_moved q_t_shown q_t_tape v_t_tapeSize q_t_refused v_t_places q_t_ways v_t_people q_t_kind q_t_by q_t_home q_t_aim q_t_at0 v_t_hour v_t_chance v_t_seed w_t_kept w_t_tried v_t_at v_t_token v_t_from v_t_figures v_t_fault q_t_told v_t_statements q_t_steps q_t_spot q_t_then v_t_now v_t_gone q_t_sights q_t_darkAt q_t_can), (q_t_ways, .inl (cy 0, 12, .inl v_t_ways)), (q_t_kind, .inl (cy 0, 8, .inl v_t_kind)), (q_t_home, .inl (cy 0, 8, .inl v_t_home)), (q_t_aim, .inl (cy 0, 8, .inl v_t_aim)), (q_t_steps, .inl (cy 0, 12, .inl u2)), (q_t_spot, .inl (cy 0, 8, .inl (upd u6 x5.toNatClampNeg (u3 x5.toNatClampNeg)))), (q_t_then, .inl (cy 0, 8, .inl u3))] H := hP
      have hD : va_D A [(q_t, oX8 q_t_shelf q_t_rowSort q_t_rowSize q_t_rows q_t_moved q_t_shown q_t_tape v_t_tapeSize q_t_refused v_t_places q_t_ways v_t_people q_t_kind q_t_by q_t_home q_t_aim q_t_at0 v_t_hour v_t_chance v_t_seed w_t_kept w_t_tried v_t_at v_t_token v_t_from v_t_figures v_t_fault q_t_told v_t_statements q_t_steps q_t_spot q_t_then v_t_now v_t_gone q_t_sights q_t_darkAt q_t_can), (q_t_ways, .inl (cy 0, 12, .inl v_t_ways)), (q_t_kind, .inl (cy 0, 8, .inl v_t_kind)), (q_t_home, .inl (cy 0, 8, .inl v_t_home)), (q_t_aim, .inl (cy 0, 8, .inl v_t_aim)), (q_t_steps, .inl (cy 0, 12, .inl u2)), (q_t_spot, .inl (cy 0, 8, .inl (upd u6 x5.toNatClampNeg (u3 x5.toNatClampNeg)))), (q_t_then, .inl (cy 0, 8, .inl u3))] := hD
      obtain ⟨x13, ex13⟩ : ∃ y : Int32, y = x5 + (1 : Int32) := ⟨_, rfl⟩
      have hf := vlE hf ex13
      refine lv_iinc (v := x13) (lv' := [(1, .int x13), (0, .ref q_t)]) hx hb dX8_goes_49 hl (k := 0) rfl (by rw [ex13]; rfl) (by decide) rfl (fun ls hl => ?_)
      clear ex13
      refine lv_goto (tgt := 29) hx hb dX8_goes_52 (by decide) ?_
      exact L29 x13 (upd u6 x5.toNatClampNeg (u3 x5.toNatClampNeg)) _ _ ls ⟨hP, hD, hS, lv_sub hl [0, 1] rfl⟩ hf
  · have hf := ifF hf c20
    clear c20
    refine lv_aload_n hx hb dX8_goes_10 rfl (lv_at hl 1 rfl) ?_
    refine va_get (D := D) (ci := 8) (v := .ref q_t_then) (C := RX8) (T := TX8) (N := 37) hx hb hts hinX8 hown hK.1 hP 0 rfl rfl 31 (by decide) hk74 (fun _ h9 => h9) rfl dX8_goes_11 ?_
    refine lv_iload_n hx hb dX8_goes_14 rfl (lv_at hl 0 rfl) ?_
    refine lv_aload_n hx hb dX8_goes_15 rfl (lv_at hl 1 rfl) ?_
    refine lv_iload_n hx hb dX8_goes_16 rfl (lv_at hl 0 rfl) ?_
    obtain ⟨r15, u16, hr17, hf⟩ := boE2 hf
    have hPc := hP.sub (ws' := [(q_t, oX8 q_t_shelf q_t_rowSort q_t_rowSize q_t_rows q_t_moved q_t_shown q_t_tape v_t_tapeSize q_t_refused v_t_places q_t_ways v_t_people q_t_kind q_t_by q_t_home q_t_aim q_t_at0 v_t_hour v_t_chance v_t_seed w_t_kept w_t_tried v_t_at v_t_token v_t_from v_t_figures v_t_fault q_t_told v_t_statements q_t_steps q_t_spot q_t_then v_t_now v_t_gone q_t_sights q_t_darkAt q_t_can), (q_t_ways, .inl (cy 0, 12, .inl v_t_ways)), (q_t_kind, .inl (cy 0, 8, .inl v_t_kind)), (q_t_home, .inl (cy 0, 8, .inl v_t_home)), (q_t_aim, .inl (cy 0, 8, .inl v_t_aim)), (q_t_steps, .inl (cy 0, 12, .inl u2)), (q_t_spot, .inl (cy 0, 8, .inl v_t_spot))]) [0, 1, 2, 3, 4, 5, 6] rfl
    have hDc := hD.sub (ws' := [(q_t, oX8 q_t_shelf q_t_rowSort q_t_rowSize q_t_rows q_t_moved q_t_shown q_t_tape v_t_tapeSize q_t_refused v_t_places q_t_ways v_t_people q_t_kind q_t_by q_t_home q_t_aim q_t_at0 v_t_hour v_t_chance v_t_seed w_t_kept w_t_tried v_t_at v_t_token v_t_from v_t_figures v_t_fault q_t_told v_t_statements q_t_steps q_t_spot q_t_then v_t_now v_t_gone q_t_sights q_t_darkAt q_t_can), (q_t_ways, .inl (cy 0, 12, .inl v_t_ways)), (q_t_kind, .inl (cy 0, 8, .inl v_t_kind)), (q_t_home, .inl (cy 0, 8, .inl v_t_home)), (q_t_aim, .inl (cy 0, 8, .inl v_t_aim)), (q_t_steps, .inl (cy 0, 12, .inl u2)), (q_t_spot, .inl (cy 0, 8, .inl v_t_spot))]) [0, 1, 2, 3, 4, 5, 6] (by decide) rfl
    refine xcQi (w1 := [(q_t, oX8 q_t_shelf q_t_rowSort q_t_rowSize q_t_rows q_t_moved q_t_shown q_t_tape v_t_tapeSize q_t_refused v_t_places q_t_ways v_t_people q_t_kind q_t_by q_t_home q_t_aim q_t_at0 v_t_hour v_t_chance v_t_seed w_t_kept w_t_tried v_t_at v_t_token v_t_from v_t_figures v_t_fault q_t_told v_t_statements q_t_steps q_t_spot q_t_then v_t_now v_t_gone q_t_sights q_t_darkAt q_t_can), (q_t_ways, .inl (cy 0, 12, .inl v_t_ways)), (q_t_kind, .inl (cy 0, 8, .inl v_t_kind)), (q_t_home, .inl (cy 0, 8, .inl v_t_home)), (q_t_aim, .inl (cy 0, 8, .inl v_t_aim)), (q_t_steps, .inl (cy 0, 12, .inl u16)), (q_t_spot, .inl (cy 0, 8, .inl v_t_spot))]) (va_runV (As := [.int x1]) (rest := [.int x1, .ref q_t_then]) ⟨hx, hb, hml, hown, hts⟩ (mX8_goesTo l D cy q_t q_t_shelf q_t_rowSort q_t_rowSize q_t_rows q_t_moved q_t_shown q_t_tape q_t_refused q_t_ways q_t_kind q_t_by q_t_home q_t_aim q_t_at0 q_t_told q_t_steps q_t_spot q_t_then q_t_sights q_t_darkAt q_t_can v_t_tapeSize v_t_places v_t_people v_t_hour v_t_chance v_t_seed w_t_kept w_t_tried v_t_at v_t_token v_t_from v_t_figures v_t_fault v_t_statements v_t_now v_t_gone v_t_ways v_t_kind v_t_home v_t_aim u2 v_t_spot _ x1 hr17) (cwV 1 hts gX8_goes_X8_goesTo rfl rfl rfl (by decide +kernel) ⟨Nat.le_of_ble_eq_true rfl, Nat.le_of_ble_eq_true rfl⟩) (xPVw hK hPc hDc (ci := 8) (q0 := 0) rfl rfl) rfl rfl hl.1 rfl (lv_room (Nat.le_of_ble_eq_true rfl)) dX8_goes_17 ⟨Nat.le_of_ble_eq_true rfl, Nat.le_of_ble_eq_true rfl⟩) hP hD hS hA [0, 1, 2, 3, 4, 5, 6] rfl rfl (fun H locs hP hD hS => ?_)
    have hP : va_P D vwCl [(q_t, oX8 q_t_shelf q_t_rowSort q_t_rowSize q_t_rows q_t_moved q_t_shown q_t_tape v_t_tapeSize q_t_refused v_t_places q_t_ways v_t_people q_t_kind q_t_by q_t_home q_t_aim q_t_at0 v_t_hour v_t_chance v_t_seed w_t_kept w_t_tried v_t_at v_t_token v_t_from v_t_figures v_t_fault q_t_told v_t_statements q_t_steps q_t_spot q_t_then v_t_now v_t_gone q_t_sights q_t_darkAt q_t_can), (q_t_ways, .inl (cy 0, 12, .inl v_t_ways)), (q_t_kind, .inl (cy 0, 8, .inl v_t_kind)), (q_t_home, .inl (cy 0, 8, .inl v_t_home)), (q_t_aim, .inl (cy 0, 8, .inl v_t_aim)), (q_t_steps, .inl (cy 0, 12, .inl u16)), (q_t_spot, .inl (cy 0, 8, .inl v_t_spot)), (q_t_then, .inl (cy 0, 8, .inl u3))] H := hP
    have hD : va_D A [(q_t, oX8 q_t_shelf q_t_rowSort q_t_rowSize q_t_rows q_t_moved q_t_shown q_t_tape v_t_tapeSize q_t_refused v_t_places q_t_ways v_t_people q_t_kind q_t_by q_t_home q_t_aim q_t_at0 v_t_hour v_t_chance v_t_seed w_t_kept w_t_tried v_t_at v_t_token v_t_from v_t_figures v_t_fault q_t_told v_t_statements q_t_steps q_t_spot q_t_then v_t_now v_t_gone q_t_sights q_t_darkAt q_t_can), (q_t_ways, .inl (cy 0, 12, .inl v_t_ways)), (q_t_kind, .inl (cy 0, 8, .inl v_t_kind)), (q_t_home, .inl (cy 0, 8, .inl v_t_home)), (q_t_aim, .inl (cy 0, 8, .inl v_t_aim)), (q_t_steps, .inl (cy 0, 12, .inl u16)), (q_t_spot, .inl (cy 0, 8, .inl v_t_spot)), (q_t_then, .inl (cy 0, 8, .inl u3))] := hD
    obtain ⟨hi18, hf⟩ := ckE hf
    refine va_iast hx hb hK.1 hP hD hS 7 0 rfl rfl hi18 dX8_goes_20 (fun H locs hP hD hS => ?_)
    have hP : va_P D vwCl [(q_t, oX8 q_t_shelf q_t_rowSort q_t_rowSize q_t_rows q_t_moved q_t_shown q_t_tape v_t_tapeSize q_t_refused v_t_places q_t_ways v_t_people q_t_kind q_t_by q_t_home q_t_aim q_t_at0 v_t_hour v_t_chance v_t_seed w_t_kept w_t_tried v_t_at v_t_token v_t_from v_t_figures v_t_fault q_t_told v_t_statements q_t_steps q_t_spot q_t_then v_t_now v_t_gone q_t_sights q_t_darkAt q_t_can), (q_t_ways, .inl (cy 0, 12, .inl v_t_ways)), (q_t_kind, .inl (cy 0, 8, .inl v_t_kind)), (q_t_home, .inl (cy 0, 8, .inl v_t_home)), (q_t_aim, .inl (cy 0, 8, .inl v_t_aim)), (q_t_steps, .inl (cy 0, 12, .inl u16)), (q_t_spot, .inl (cy 0, 8, .inl v_t_spot)), (q_t_then, .inl (cy 0, 8, .inl (upd u3 x1.toNatClampNeg r15)))] H := hP
    have hD : va_D A [(q_t, oX8 q_t_shelf q_t_rowSort q_t_rowSize q_t_rows q_t_moved q_t_shown q_t_tape v_t_tapeSize q_t_refused v_t_places q_t_ways v_t_people q_t_kind q_t_by q_t_home q_t_aim q_t_at0 v_t_hour v_t_chance v_t_seed w_t_kept w_t_tried v_t_at v_t_token v_t_from v_t_figures v_t_fault q_t_told v_t_statements q_t_steps q_t_spot q_t_then v_t_now v_t_gone q_t_sights q_t_darkAt q_t_can), (q_t_ways, .inl (cy 0, 12, .inl v_t_ways)), (q_t_kind, .inl (cy 0, 8, .inl v_t_kind)), (q_t_home, .inl (cy 0, 8, .inl v_t_home)), (q_t_aim, .inl (cy 0, 8, .inl v_t_aim)), (q_t_steps, .inl (cy 0, 12, .inl u16)), (q_t_spot, .inl (cy 0, 8, .inl v_t_spot)), (q_t_then, .inl (cy 0, 8, .inl (upd u3 x1.toNatClampNeg r15)))] := hD
    obtain ⟨x19, ex19⟩ : ∃ y : Int32, y = x1 + (1 : Int32) := ⟨_, rfl⟩
    have hf := vlE hf ex19
    refine lv_iinc (v := x19) (lv' := [(1, .int x19), (0, .ref q_t)]) hx hb dX8_goes_21 hl (k := 0) rfl (by rw [ex19]; rfl) (by decide) rfl (fun ls hl => ?_)
    clear ex19
    refine lv_goto (tgt := 2) hx hb dX8_goes_24 (by decide) ?_
    exact L2 x19 u16 (upd u3 x1.toNatClampNeg r15) _ _ ls ⟨hP, hD, hS, lv_sub hl [0, 1] rfl⟩ hf
def fX8_says (v_t_places : Int32) (v_t_people : Int32) (v_t_hour : Int32) (v_t_now : Int32) (v_t_gone : Int32) (v_t_shelf : Nat → Int32) (v_t_shown : Nat → Int32) (v_t_refused : Nat → Int32) (v_t_ways : Nat → Int32) (v_t_kind : Nat → Int32) (v_t_by : Nat → Int32) (v_t_home : Nat → Int32) (v_t_aim : Nat → Int32) (v_t_at0 : Nat → Int32) (v_t_steps : Nat → Int32) (v_t_spot : Nat → Int32) (v_t_then : Nat → Int32) (p0 : Int32) (p1 : Int32) : Option (Int32 × Int32 × (Nat → Int32) × (Nat → Int32) × (Nat → Int32) × (Nat → Int32)) :=
  bo1 (fX8_in p0.toInt64 (0 : Int64) (7 : Int64)) fun r1 =>
  jo0 (
    bo2 (fX8_refuse v_t_refused (-2 : Int32)) fun r4 u5 =>
    some (r4, v_t_now, u5, v_t_steps, v_t_spot, v_t_then)) fun k3 =>
  if r1 = 0 then
    k3
  else
    bo1 (fX8_in p1.toInt64 (0 : Int64) (5 : Int64)) fun r7 =>
    if r7 = 0 then
      k3
    else
      if p0 < 0 ∨ 8 ≤ p0.toNatClampNeg then none else
      jo0 (
        bo2 (fX8_refuse v_t_refused (-3 : Int32)) fun r11 u12 =>
        some (r11, v_t_now, u12, v_t_steps, v_t_spot, v_t_then)) fun k10 =>
      if (v_t_shelf p0.toNatClampNeg) = (1 : Int32) then
        k10
      else
        if p0 < 0 ∨ 8 ≤ p0.toNatClampNeg then none else
        jo0 (
          if p0 < 0 ∨ 8 ≤ p0.toNatClampNeg then none else
          if (v_t_shelf p0.toNatClampNeg) = 0 then
            bo2 (fX8_refuse v_t_refused (-4 : Int32)) fun r30 u31 =>
            some (r30, v_t_now, u31, v_t_steps, v_t_spot, v_t_then)
          else
            if p1 = 0 then
              if p0 < 0 ∨ 8 ≤ p0.toNatClampNeg then none else
              if (v_t_shown p0.toNatClampNeg) < 0 ∨ 8 ≤ (v_t_shown p0.toNatClampNeg).toNatClampNeg then none else
              some (v_t_by (v_t_shown p0.toNatClampNeg).toNatClampNeg, v_t_now, v_t_refused, v_t_steps, v_t_spot, v_t_then)
            else
              bo2 (fX8_begin v_t_people v_t_hour v_t_at0 v_t_spot) fun u17 u18 =>
              bo4 (fX8_goes v_t_places v_t_people u17 v_t_gone v_t_ways v_t_kind v_t_home v_t_aim v_t_steps u18 v_t_then) fun u20 u21 u22 u23 =>
              if p0 < 0 ∨ 8 ≤ p0.toNatClampNeg then none else
              if (v_t_shown p0.toNatClampNeg) < 0 ∨ 8 ≤ (v_t_shown p0.toNatClampNeg).toNatClampNeg then none else
              some (u22 (v_t_shown p0.toNatClampNeg).toNatClampNeg, u20, v_t_refused, u21, u22, u23)) fun k15 =>
        if (v_t_shelf p0.toNatClampNeg) = (2 : Int32) then
          if p0 < 0 ∨ 8 ≤ p0.toNatClampNeg then none else
          if (v_t_shown p0.toNatClampNeg) < 0 ∨ 8 ≤ (v_t_shown p0.toNatClampNeg).toNatClampNeg then none else
          bo1 (fX8_isUnder (v_t_kind (v_t_shown p0.toNatClampNeg).toNatClampNeg) p1) fun r36 =>
          if r36 = 0 then
            k10
          else
            k15
        else
          k15
set_option maxHeartbeats 4000000 in
set_option maxRecDepth 100000 in
theorem mX8_says (l : Launch) (D : va_G) (cy : Nat → ClassId) (q_t q_t_shelf q_t_rowSort q_t_rowSize q_t_rows q_t_moved q_t_shown q_t_tape q_t_refused q_t_ways q_t_kind q_t_by q_t_home q_t_aim q_t_at0 q_t_told q_t_steps q_t_spot q_t_then q_t_sights q_t_darkAt q_t_can : Nat) (v_t_tapeSize : Int32) (v_t_places : Int32) (v_t_people : Int32) (v_t_hour : Int32) (v_t_chance : Int32) (v_t_seed : Int32) (w_t_kept : Value) (w_t_tried : Value) (v_t_at : Int32) (v_t_token : Int32) (v_t_from : Int32) (v_t_figures : Int32) (v_t_fault : Int32) (v_t_statements : Int32) (v_t_now : Int32) (v_t_gone : Int32) (v_t_shelf : Nat → Int32) (v_t_shown : Nat → Int32) (v_t_refused : Nat → Int32) (v_t_ways : Nat → Int32) (v_t_kind : Nat → Int32) (v_t_by : Nat → Int32) (v_t_home : Nat → Int32) (v_t_aim : Nat → Int32) (v_t_at0 : Nat → Int32) (v_t_steps : Nat → Int32) (v_t_spot : Nat → Int32) (v_t_then : Nat → Int32) (sz : Nat) (p0 : Int32) (p1 : Int32) {r_ : Int32} {n_t_now : Int32} {n_t_refused : Nat → Int32} {n_t_steps : Nat → Int32} {n_t_spot : Nat → Int32} {n_t_then : Nat → Int32} (hf : fX8_says v_t_places v_t_people v_t_hour v_t_now v_t_gone v_t_shelf v_t_shown v_t_refused v_t_ways v_t_kind v_t_by v_t_home v_t_aim v_t_at0 v_t_steps v_t_spot v_t_then p0 p1 = some (r_, n_t_now, n_t_refused, n_t_steps, n_t_spot, n_t_then)) : Met l yX8_says wsX8_says ({ frames := 4, cells := 0, slots := 0, locals := 90 }) (va_Pc [.ref q_t, .int p0, .int p1] (fun U => U.heap.size = sz ∧ va_P D vwCl [(q_t, oX8 q_t_shelf q_t_rowSort q_t_rowSize q_t_rows q_t_moved q_t_shown q_t_tape v_t_tapeSize q_t_refused v_t_places q_t_ways v_t_people q_t_kind q_t_by q_t_home q_t_aim q_t_at0 v_t_hour v_t_chance v_t_seed w_t_kept w_t_tried v_t_at v_t_token v_t_from v_t_figures v_t_fault q_t_told v_t_statements q_t_steps q_t_spot q_t_then v_t_now v_t_gone q_t_sights q_t_darkAt q_t_can), (q_t_shelf, .inl (cy 0, 8, .inl v_t_shelf)), (q_t_shown, .inl (cy 0, 8, .inl v_t_shown)), (q_t_refused, .inl (cy 0, 8, .inl v_t_refused)), (q_t_ways, .inl (cy 0, 12, .inl v_t_ways)), (q_t_kind, .inl (cy 0, 8, .inl v_t_kind)), (q_t_by, .inl (cy 0, 8, .inl v_t_by)), (q_t_home, .inl (cy 0, 8, .inl v_t_home)), (q_t_aim, .inl (cy 0, 8, .inl v_t_aim)), (q_t_at0, .inl (cy 0, 8, .inl v_t_at0)), (q_t_steps, .inl (cy 0, 12, .inl v_t_steps)), (q_t_spot, .inl (cy 0, 8, .inl v_t_spot)), (q_t_then, .inl (cy 0, 8, .inl v_t_then))] U.heap ∧ xK D cy U ∧ va_D (fun _ => True) [(q_t, oX8 q_t_shelf q_t_rowSort q_t_rowSize q_t_rows q_t_moved q_t_shown q_t_tape v_t_tapeSize q_t_refused v_t_places q_t_ways v_t_people q_t_kind q_t_by q_t_home q_t_aim q_t_at0 v_t_hour v_t_chance v_t_seed w_t_kept w_t_tried v_t_at v_t_token v_t_from v_t_figures v_t_fault q_t_told v_t_statements q_t_steps q_t_spot q_t_then v_t_now v_t_gone q_t_sights q_t_darkAt q_t_can), (q_t_shelf, .inl (cy 0, 8, .inl v_t_shelf)), (q_t_shown, .inl (cy 0, 8, .inl v_t_shown)), (q_t_refused, .inl (cy 0, 8, .inl v_t_refused)), (q_t_ways, .inl (cy 0, 12, .inl v_t_ways)), (q_t_kind, .inl (cy 0, 8, .inl v_t_kind)), (q_t_by, .inl (cy 0, 8, .inl v_t_by)), (q_t_home, .inl (cy 0, 8, .inl v_t_home)), (q_t_aim, .inl (cy 0, 8, .inl v_t_aim)), (q_t_at0, .inl (cy 0, 8, .inl v_t_at0)), (q_t_steps, .inl (cy 0, 12, .inl v_t_steps)), (q_t_spot, .inl (cy 0, 8, .inl v_t_spot)), (q_t_then, .inl (cy 0, 8, .inl v_t_then))])) (va_Qi (fun (x : Int32) (_ : Unit) => x = r_) (fun _ t => va_P D vwCl [(q_t, oX8 q_t_shelf q_t_rowSort q_t_rowSize q_t_rows q_t_moved q_t_shown q_t_tape v_t_tapeSize q_t_refused v_t_places q_t_ways v_t_people q_t_kind q_t_by q_t_home q_t_aim q_t_at0 v_t_hour v_t_chance v_t_seed w_t_kept w_t_tried v_t_at v_t_token v_t_from v_t_figures v_t_fault q_t_told v_t_statements q_t_steps q_t_spot q_t_then n_t_now v_t_gone q_t_sights q_t_darkAt q_t_can), (q_t_shelf, .inl (cy 0, 8, .inl v_t_shelf)), (q_t_shown, .inl (cy 0, 8, .inl v_t_shown)), (q_t_refused, .inl (cy 0, 8, .inl n_t_refused)), (q_t_ways, .inl (cy 0, 12, .inl v_t_ways)), (q_t_kind, .inl (cy 0, 8, .inl v_t_kind)), (q_t_by, .inl (cy 0, 8, .inl v_t_by)), (q_t_home, .inl (cy 0, 8, .inl v_t_home)), (q_t_aim, .inl (cy 0, 8, .inl v_t_aim)), (q_t_at0, .inl (cy 0, 8, .inl v_t_at0)), (q_t_steps, .inl (cy 0, 12, .inl n_t_steps)), (q_t_spot, .inl (cy 0, 8, .inl n_t_spot)), (q_t_then, .inl (cy 0, 8, .inl n_t_then))] t.heap) (va_A [(q_t, oX8 q_t_shelf q_t_rowSort q_t_rowSize q_t_rows q_t_moved q_t_shown q_t_tape v_t_tapeSize q_t_refused v_t_places q_t_ways v_t_people q_t_kind q_t_by q_t_home q_t_aim q_t_at0 v_t_hour v_t_chance v_t_seed w_t_kept w_t_tried v_t_at v_t_token v_t_from v_t_figures v_t_fault q_t_told v_t_statements q_t_steps q_t_spot q_t_then v_t_now v_t_gone q_t_sights q_t_darkAt q_t_can), (q_t_shelf, .inl (cy 0, 8, .inl v_t_shelf)), (q_t_shown, .inl (cy 0, 8, .inl v_t_shown)), (q_t_refused, .inl (cy 0, 8, .inl v_t_refused)), (q_t_ways, .inl (cy 0, 12, .inl v_t_ways)), (q_t_kind, .inl (cy 0, 8, .inl v_t_kind)), (q_t_by, .inl (cy 0, 8, .inl v_t_by)), (q_t_home, .inl (cy 0, 8, .inl v_t_home)), (q_t_aim, .inl (cy 0, 8, .inl v_t_aim)), (q_t_at0, .inl (cy 0, 8, .inl v_t_at0)), (q_t_steps, .inl (cy 0, 12, .inl v_t_steps)), (q_t_spot, .inl (cy 0, 8, .inl v_t_spot)), (q_t_then, .inl (cy 0, 8, .inl v_t_then))] sz)) 0 0 (va_A [(q_t, oX8 q_t_shelf q_t_rowSort q_t_rowSize q_t_rows q_t_moved q_t_shown q_t_tape v_t_tapeSize q_t_refused v_t_places q_t_ways v_t_people q_t_kind q_t_by q_t_home q_t_aim q_t_at0 v_t_hour v_t_chance v_t_seed w_t_kept w_t_tried v_t_at v_t_token v_t_from v_t_figures v_t_fault q_t_told v_t_statements q_t_steps q_t_spot q_t_then v_t_now v_t_gone q_t_sights q_t_darkAt q_t_can), (q_t_shelf, .inl (cy 0, 8, .inl v_t_shelf)), (q_t_shown, .inl (cy 0, 8, .inl v_t_shown)), (q_t_refused, .inl (cy 0, 8, .inl v_t_refused)), (q_t_ways, .inl (cy 0, 12, .inl v_t_ways)), (q_t_kind, .inl (cy 0, 8, .inl v_t_kind)), (q_t_by, .inl (cy 0, 8, .inl v_t_by)), (q_t_home, .inl (cy 0, 8, .inl v_t_home)), (q_t_aim, .inl (cy 0, 8, .inl v_t_aim)), (q_t_at0, .inl (cy 0, 8, .inl v_t_at0)), (q_t_steps, .inl (cy 0, 12, .inl v_t_steps)), (q_t_spot, .inl (cy 0, 8, .inl v_t_spot)), (q_t_then, .inl (cy 0, 8, .inl v_t_then))] sz) := by
  refine Met.ofW (cc := cX8_says) (maxL := 3) (ret := (some .int)) (by decide) rfl ?_
  intro p e s m args below meth c s₁ B hml hv
  obtain ⟨rfl, hsz, hP, hK, hD0⟩ := hv
  have hx := B.exec
  have hb := B.bytes
  have hr := B.returns
  have hts := atoms_spec (ws := wsX8_says) B.pre
  have hown : s.vm.findClass RX8 = some m.cls := findClass_of_methodNamed B.named
  have hlocks := B.notSynchronized
  subst hsz
  have hD := hD0.self (sz := s.heap.size)
  generalize hAe : va_A [(q_t, oX8 q_t_shelf q_t_rowSort q_t_rowSize q_t_rows q_t_moved q_t_shown q_t_tape v_t_tapeSize q_t_refused v_t_places q_t_ways v_t_people q_t_kind q_t_by q_t_home q_t_aim q_t_at0 v_t_hour v_t_chance v_t_seed w_t_kept w_t_tried v_t_at v_t_token v_t_from v_t_figures v_t_fault q_t_told v_t_statements q_t_steps q_t_spot q_t_then v_t_now v_t_gone q_t_sights q_t_darkAt q_t_can), (q_t_shelf, .inl (cy 0, 8, .inl v_t_shelf)), (q_t_shown, .inl (cy 0, 8, .inl v_t_shown)), (q_t_refused, .inl (cy 0, 8, .inl v_t_refused)), (q_t_ways, .inl (cy 0, 12, .inl v_t_ways)), (q_t_kind, .inl (cy 0, 8, .inl v_t_kind)), (q_t_by, .inl (cy 0, 8, .inl v_t_by)), (q_t_home, .inl (cy 0, 8, .inl v_t_home)), (q_t_aim, .inl (cy 0, 8, .inl v_t_aim)), (q_t_at0, .inl (cy 0, 8, .inl v_t_at0)), (q_t_steps, .inl (cy 0, 12, .inl v_t_steps)), (q_t_spot, .inl (cy 0, 8, .inl v_t_spot)), (q_t_then, .inl (cy 0, 8, .inl v_t_then))] s.heap.size = A at hD ⊢
  have hA : ∀ q : Nat, s.heap.size ≤ q → A q := fun q h => by rw [← hAe]; exact Or.inr h
  have hS : va_S A s.heap s.heap [] := va_S.rf
  have hP : va_P D vwCl [(q_t, oX8 q_t_shelf q_t_rowSort q_t_rowSize q_t_rows q_t_moved q_t_shown q_t_tape v_t_tapeSize q_t_refused v_t_places q_t_ways v_t_people q_t_kind q_t_by q_t_home q_t_aim q_t_at0 v_t_hour v_t_chance v_t_seed w_t_kept w_t_tried v_t_at v_t_token v_t_from v_t_figures v_t_fault q_t_told v_t_statements q_t_steps q_t_spot q_t_then v_t_now v_t_gone q_t_sights q_t_darkAt q_t_can), (q_t_shelf, .inl (cy 0, 8, .inl v_t_shelf)), (q_t_shown, .inl (cy 0, 8, .inl v_t_shown)), (q_t_refused, .inl (cy 0, 8, .inl v_t_refused)), (q_t_ways, .inl (cy 0, 12, .inl v_t_ways)), (q_t_kind, .inl (cy 0, 8, .inl v_t_kind)), (q_t_by, .inl (cy 0, 8, .inl v_t_by)), (q_t_home, .inl (cy 0, 8, .inl v_t_home)), (q_t_aim, .inl (cy 0, 8, .inl v_t_aim)), (q_t_at0, .inl (cy 0, 8, .inl v_t_at0)), (q_t_steps, .inl (cy 0, 12, .inl v_t_steps)), (q_t_spot, .inl (cy 0, 8, .inl v_t_spot)), (q_t_then, .inl (cy 0, 8, .inl v_t_then))] s.heap := hP
  have hc98 := hts (.constantLong RX8 98 (7)) (by decide +kernel)
  have hc119 := hts (.constantLong RX8 119 (5)) (by decide +kernel)
  have hinX8 : ∀ w ∈ u_ws RX8 TX8 37, w ∈ wsX8_says := by decide +kernel
  have hk7 := hts (.fieldLink RX8 7 "ShowsWhereNobodyIsModel" "shelf" "[I") (by decide +kernel)
  have hk71 := hts (.fieldLink RX8 71 "ShowsWhereNobodyIsModel" "spot" "[I") (by decide +kernel)
  have hk28 := hts (.fieldLink RX8 28 "ShowsWhereNobodyIsModel" "shown" "[I") (by decide +kernel)
  have hk47 := hts (.fieldLink RX8 47 "ShowsWhereNobodyIsModel" "by" "[I") (by decide +kernel)
  have hk44 := hts (.fieldLink RX8 44 "ShowsWhereNobodyIsModel" "kind" "[I") (by decide +kernel)
  have hl := lv_entry ([.ref q_t, .int p0, .int p1]) (n := 3) (Nat.le_of_ble_eq_true rfl)
  rw [lg_entry_eq]
  generalize (lg_sl ([.ref q_t, .int p0, .int p1]) ++ List.replicate (3 - (lg_sl ([.ref q_t, .int p0, .int p1])).length) Slot.unset).toArray = ls at hl ⊢
  have hl : lv_has ls 3 [(0, .ref q_t), (1, .int p0), (2, .int p1)] := hl
  unfold fX8_says at hf
  refine lv_iload_n hx hb dX8_says_0 rfl (lv_at hl 1 rfl) ?_
  refine lv_i2l hx hb dX8_says_1 rfl ?_
  refine lv_lconst (v := 0) hx hb dX8_says_2 (by decide) ?_
  refine lv_ldc2 hx hb hown hc98 dX8_says_3 ?_
  obtain ⟨r1, hr2, hf⟩ := boE1 hf
  have hPc := hP.sub (ws' := []) [] rfl
  refine xcSi (va_runS (As := [.long p0.toInt64, .long (0 : Int64), .long (7 : Int64)]) (rest := []) ⟨hx, hb, hml, hown, hts⟩ (mX8_in l D cy    p0.toInt64 (0 : Int64) (7 : Int64) hr2) (va_cwS 3 hts gX8_says_X8_in rfl rfl rfl (by decide +kernel) ⟨Nat.le_of_ble_eq_true rfl, Nat.le_of_ble_eq_true rfl⟩) (xPS hK hPc) rfl rfl hl.1 rfl (lv_room (Nat.le_of_ble_eq_true rfl)) dX8_says_6 ⟨Nat.le_of_ble_eq_true rfl, Nat.le_of_ble_eq_true rfl⟩) ?_
  refine jww0 24 [] (fun  H locs ls => va_P D vwCl [(q_t, oX8 q_t_shelf q_t_rowSort q_t_rowSize q_t_rows q_t_moved q_t_shown q_t_tape v_t_tapeSize q_t_refused v_t_places q_t_ways v_t_people q_t_kind q_t_by q_t_home q_t_aim q_t_at0 v_t_hour v_t_chance v_t_seed w_t_kept w_t_tried v_t_at v_t_token v_t_from v_t_figures v_t_fault q_t_told v_t_statements q_t_steps q_t_spot q_t_then v_t_now v_t_gone q_t_sights q_t_darkAt q_t_can), (q_t_shelf, .inl (cy 0, 8, .inl v_t_shelf)), (q_t_shown, .inl (cy 0, 8, .inl v_t_shown)), (q_t_refused, .inl (cy 0, 8, .inl v_t_refused)), (q_t_ways, .inl (cy 0, 12, .inl v_t_ways)), (q_t_kind, .inl (cy 0, 8, .inl v_t_kind)), (q_t_by, .inl (cy 0, 8, .inl v_t_by)), (q_t_home, .inl (cy 0, 8, .inl v_t_home)), (q_t_aim, .inl (cy 0, 8, .inl v_t_aim)), (q_t_at0, .inl (cy 0, 8, .inl v_t_at0)), (q_t_steps, .inl (cy 0, 12, .inl v_t_steps)), (q_t_spot, .inl (cy 0, 8, .inl v_t_spot)), (q_t_then, .inl (cy 0, 8, .inl v_t_then))] H ∧ va_D A [(q_t, oX8 q_t_shelf q_t_rowSort q_t_rowSize q_t_rows q_t_moved q_t_shown q_t_tape v_t_tapeSize q_t_refused v_t_places q_t_ways v_t_people q_t_kind q_t_by q_t_home q_t_aim q_t_at0 v_t_hour v_t_chance v_t_seed w_t_kept w_t_tried v_t_at v_t_token v_t_from v_t_figures v_t_fault q_t_told v_t_statements q_t_steps q_t_spot q_t_then v_t_now v_t_gone q_t_sights q_t_darkAt q_t_can), (q_t_shelf, .inl (cy 0, 8, .inl v_t_shelf)), (q_t_shown, .inl (cy 0, 8, .inl v_t_shown)), (q_t_refused, .inl (cy 0, 8, .inl v_t_refused)), (q_t_ways, .inl (cy 0, 12, .inl v_t_ways)), (q_t_kind, .inl (cy 0, 8, .inl v_t_kind)), (q_t_by, .inl (cy 0, 8, .inl v_t_by)), (q_t_home, .inl (cy 0, 8, .inl v_t_home)), (q_t_aim, .inl (cy 0, 8, .inl v_t_aim)), (q_t_at0, .inl (cy 0, 8, .inl v_t_at0)), (q_t_steps, .inl (cy 0, 12, .inl v_t_steps)), (q_t_spot, .inl (cy 0, 8, .inl v_t_spot)), (q_t_then, .inl (cy 0, 8, .inl v_t_then))] ∧ va_S A s.heap H locs ∧ lv_has ls 3 [(0, .ref q_t)]) hf (fun  H locs ls hI hf => ?_) (fun k3 J24 hf => ?_)
  · obtain ⟨hP, hD, hS, hl⟩ := hI
    refine lv_aload_n hx hb dX8_says_24 rfl (lv_at hl 0 rfl) ?_
    refine lv_bipush (v := (-2)) hx hb dX8_says_25 (by decide) ?_
    obtain ⟨r4, u5, hr6, hf⟩ := boE2 hf
    have hPc := hP.sub (ws' := [(q_t, oX8 q_t_shelf q_t_rowSort q_t_rowSize q_t_rows q_t_moved q_t_shown q_t_tape v_t_tapeSize q_t_refused v_t_places q_t_ways v_t_people q_t_kind q_t_by q_t_home q_t_aim q_t_at0 v_t_hour v_t_chance v_t_seed w_t_kept w_t_tried v_t_at v_t_token v_t_from v_t_figures v_t_fault q_t_told v_t_statements q_t_steps q_t_spot q_t_then v_t_now v_t_gone q_t_sights q_t_darkAt q_t_can), (q_t_refused, .inl (cy 0, 8, .inl v_t_refused))]) [0, 3] rfl
    have hDc := hD.sub (ws' := [(q_t, oX8 q_t_shelf q_t_rowSort q_t_rowSize q_t_rows q_t_moved q_t_shown q_t_tape v_t_tapeSize q_t_refused v_t_places q_t_ways v_t_people q_t_kind q_t_by q_t_home q_t_aim q_t_at0 v_t_hour v_t_chance v_t_seed w_t_kept w_t_tried v_t_at v_t_token v_t_from v_t_figures v_t_fault q_t_told v_t_statements q_t_steps q_t_spot q_t_then v_t_now v_t_gone q_t_sights q_t_darkAt q_t_can), (q_t_refused, .inl (cy 0, 8, .inl v_t_refused))]) [0, 3] (by decide) rfl
    refine xcQi (w1 := [(q_t, oX8 q_t_shelf q_t_rowSort q_t_rowSize q_t_rows q_t_moved q_t_shown q_t_tape v_t_tapeSize q_t_refused v_t_places q_t_ways v_t_people q_t_kind q_t_by q_t_home q_t_aim q_t_at0 v_t_hour v_t_chance v_t_seed w_t_kept w_t_tried v_t_at v_t_token v_t_from v_t_figures v_t_fault q_t_told v_t_statements q_t_steps q_t_spot q_t_then v_t_now v_t_gone q_t_sights q_t_darkAt q_t_can), (q_t_refused, .inl (cy 0, 8, .inl u5))]) (va_runV (As := [.int (-2 : Int32)]) (rest := []) ⟨hx, hb, hml, hown, hts⟩ (mX8_refuse l D cy q_t q_t_shelf q_t_rowSort q_t_rowSize q_t_rows q_t_moved q_t_shown q_t_tape q_t_refused q_t_ways q_t_kind q_t_by q_t_home q_t_aim q_t_at0 q_t_told q_t_steps q_t_spot q_t_then q_t_sights q_t_darkAt q_t_can v_t_tapeSize v_t_places v_t_people v_t_hour v_t_chance v_t_seed w_t_kept w_t_tried v_t_at v_t_token v_t_from v_t_figures v_t_fault v_t_statements v_t_now v_t_gone v_t_refused _ (-2 : Int32) hr6) (cwV 1 hts gX8_says_X8_refuse rfl rfl rfl (by decide +kernel) ⟨Nat.le_of_ble_eq_true rfl, Nat.le_of_ble_eq_true rfl⟩) (xPVw hK hPc hDc (ci := 8) (q0 := 0) rfl rfl) rfl rfl hl.1 rfl (lv_room (Nat.le_of_ble_eq_true rfl)) dX8_says_27 ⟨Nat.le_of_ble_eq_true rfl, Nat.le_of_ble_eq_true rfl⟩) hP hD hS hA [0, 3] rfl rfl (fun H locs hP hD hS => ?_)
    have hP : va_P D vwCl [(q_t, oX8 q_t_shelf q_t_rowSort q_t_rowSize q_t_rows q_t_moved q_t_shown q_t_tape v_t_tapeSize q_t_refused v_t_places q_t_ways v_t_people q_t_kind q_t_by q_t_home q_t_aim q_t_at0 v_t_hour v_t_chance v_t_seed w_t_kept w_t_tried v_t_at v_t_token v_t_from v_t_figures v_t_fault q_t_told v_t_statements q_t_steps q_t_spot q_t_then v_t_now v_t_gone q_t_sights q_t_darkAt q_t_can), (q_t_shelf, .inl (cy 0, 8, .inl v_t_shelf)), (q_t_shown, .inl (cy 0, 8, .inl v_t_shown)), (q_t_refused, .inl (cy 0, 8, .inl u5)), (q_t_ways, .inl (cy 0, 12, .inl v_t_ways)), (q_t_kind, .inl (cy 0, 8, .inl v_t_kind)), (q_t_by, .inl (cy 0, 8, .inl v_t_by)), (q_t_home, .inl (cy 0, 8, .inl v_t_home)), (q_t_aim, .inl (cy 0, 8, .inl v_t_aim)), (q_t_at0, .inl (cy 0, 8, .inl v_t_at0)), (q_t_steps, .inl (cy 0, 12, .inl v_t_steps)), (q_t_spot, .inl (cy 0, 8, .inl v_t_spot)), (q_t_then, .inl (cy 0, 8, .inl v_t_then))] H := hP
    have hD : va_D A [(q_t, oX8 q_t_shelf q_t_rowSort q_t_rowSize q_t_rows q_t_moved q_t_shown q_t_tape v_t_tapeSize q_t_refused v_t_places q_t_ways v_t_people q_t_kind q_t_by q_t_home q_t_aim q_t_at0 v_t_hour v_t_chance v_t_seed w_t_kept w_t_tried v_t_at v_t_token v_t_from v_t_figures v_t_fault q_t_told v_t_statements q_t_steps q_t_spot q_t_then v_t_now v_t_gone q_t_sights q_t_darkAt q_t_can), (q_t_shelf, .inl (cy 0, 8, .inl v_t_shelf)), (q_t_shown, .inl (cy 0, 8, .inl v_t_shown)), (q_t_refused, .inl (cy 0, 8, .inl u5)), (q_t_ways, .inl (cy 0, 12, .inl v_t_ways)), (q_t_kind, .inl (cy 0, 8, .inl v_t_kind)), (q_t_by, .inl (cy 0, 8, .inl v_t_by)), (q_t_home, .inl (cy 0, 8, .inl v_t_home)), (q_t_aim, .inl (cy 0, 8, .inl v_t_aim)), (q_t_at0, .inl (cy 0, 8, .inl v_t_at0)), (q_t_steps, .inl (cy 0, 12, .inl v_t_steps)), (q_t_spot, .inl (cy 0, 8, .inl v_t_spot)), (q_t_then, .inl (cy 0, 8, .inl v_t_then))] := hD
    cases hf
    exact W.iret hx hb hr (fun t ht hW => ⟨⟨_, (), rfl, rfl, xend ht hP⟩, hS.F ht⟩) hS.2.2 dX8_says_30
  · refine lv_if_eq (tgt := 24) hx hb dX8_says_9 (by decide) (fun c42 => ?_) (fun c42 => ?_)
    · have hf := ifT hf c42
      clear c42
      exact J24 _ _ ls ⟨hP, hD, hS, lv_sub hl [0] rfl⟩ hf
    · have hf := ifF hf c42
      clear c42
      refine lv_iload_n hx hb dX8_says_12 rfl (lv_at hl 2 rfl) ?_
      refine lv_i2l hx hb dX8_says_13 rfl ?_
      refine lv_lconst (v := 0) hx hb dX8_says_14 (by decide) ?_
      refine lv_ldc2 hx hb hown hc119 dX8_says_15 ?_
      obtain ⟨r7, hr8, hf⟩ := boE1 hf
      have hPc := hP.sub (ws' := []) [] rfl
      refine xcSi (va_runS (As := [.long p1.toInt64, .long (0 : Int64), .long (5 : Int64)]) (rest := []) ⟨hx, hb, hml, hown, hts⟩ (mX8_in l D cy    p1.toInt64 (0 : Int64) (5 : Int64) hr8) (va_cwS 3 hts gX8_says_X8_in rfl rfl rfl (by decide +kernel) ⟨Nat.le_of_ble_eq_true rfl, Nat.le_of_ble_eq_true rfl⟩) (xPS hK hPc) rfl rfl hl.1 rfl (lv_room (Nat.le_of_ble_eq_true rfl)) dX8_says_18 ⟨Nat.le_of_ble_eq_true rfl, Nat.le_of_ble_eq_true rfl⟩) ?_
      refine lv_if_ne (tgt := 31) hx hb dX8_says_21 (by decide) (fun c41 => ?_) (fun c41 => ?_)
      · have hf := ifF hf c41
        clear c41
        refine lv_aload_n hx hb dX8_says_31 rfl (lv_at hl 0 rfl) ?_
        refine va_get (D := D) (ci := 8) (v := .ref q_t_shelf) (C := RX8) (T := TX8) (N := 37) hx hb hts hinX8 hown hK.1 hP 0 rfl rfl 0 (by decide) hk7 (fun _ h9 => h9) rfl dX8_says_32 ?_
        refine lv_iload_n hx hb dX8_says_35 rfl (lv_at hl 1 rfl) ?_
        obtain ⟨hi9, hf⟩ := ckE hf
        refine va_iald hx hb hK.1 hP 1 0 rfl rfl hi9 dX8_says_36 ?_
        refine lv_iconst (v := 1) hx hb dX8_says_37 (by decide) ?_
        refine jww0 69 [] (fun  H locs ls => va_P D vwCl [(q_t, oX8 q_t_shelf q_t_rowSort q_t_rowSize q_t_rows q_t_moved q_t_shown q_t_tape v_t_tapeSize q_t_refused v_t_places q_t_ways v_t_people q_t_kind q_t_by q_t_home q_t_aim q_t_at0 v_t_hour v_t_chance v_t_seed w_t_kept w_t_tried v_t_at v_t_token v_t_from v_t_figures v_t_fault q_t_told v_t_statements q_t_steps q_t_spot q_t_then v_t_now v_t_gone q_t_sights q_t_darkAt q_t_can), (q_t_shelf, .inl (cy 0, 8, .inl v_t_shelf)), (q_t_shown, .inl (cy 0, 8, .inl v_t_shown)), (q_t_refused, .inl (cy 0, 8, .inl v_t_refused)), (q_t_ways, .inl (cy 0, 12, .inl v_t_ways)), (q_t_kind, .inl (cy 0, 8, .inl v_t_kind)), (q_t_by, .inl (cy 0, 8, .inl v_t_by)), (q_t_home, .inl (cy 0, 8, .inl v_t_home)), (q_t_aim, .inl (cy 0, 8, .inl v_t_aim)), (q_t_at0, .inl (cy 0, 8, .inl v_t_at0)), (q_t_steps, .inl (cy 0, 12, .inl v_t_steps)), (q_t_spot, .inl (cy 0, 8, .inl v_t_spot)), (q_t_then, .inl (cy 0, 8, .inl v_t_then))] H ∧ va_D A [(q_t, oX8 q_t_shelf q_t_rowSort q_t_rowSize q_t_rows q_t_moved q_t_shown q_t_tape v_t_tapeSize q_t_refused v_t_places q_t_ways v_t_people q_t_kind q_t_by q_t_home q_t_aim q_t_at0 v_t_hour v_t_chance v_t_seed w_t_kept w_t_tried v_t_at v_t_token v_t_from v_t_figures v_t_fault q_t_told v_t_statements q_t_steps q_t_spot q_t_then v_t_now v_t_gone q_t_sights q_t_darkAt q_t_can), (q_t_shelf, .inl (cy 0, 8, .inl v_t_shelf)), (q_t_shown, .inl (cy 0, 8, .inl v_t_shown)), (q_t_refused, .inl (cy 0, 8, .inl v_t_refused)), (q_t_ways, .inl (cy 0, 12, .inl v_t_ways)), (q_t_kind, .inl (cy 0, 8, .inl v_t_kind)), (q_t_by, .inl (cy 0, 8, .inl v_t_by)), (q_t_home, .inl (cy 0, 8, .inl v_t_home)), (q_t_aim, .inl (cy 0, 8, .inl v_t_aim)), (q_t_at0, .inl (cy 0, 8, .inl v_t_at0)), (q_t_steps, .inl (cy 0, 12, .inl v_t_steps)), (q_t_spot, .inl (cy 0, 8, .inl v_t_spot)), (q_t_then, .inl (cy 0, 8, .inl v_t_then))] ∧ va_S A s.heap H locs ∧ lv_has ls 3 [(0, .ref q_t)]) hf (fun  H locs ls hI hf => ?_) (fun k10 J69 hf => ?_)
        · obtain ⟨hP, hD, hS, hl⟩ := hI
          refine lv_aload_n hx hb dX8_says_69 rfl (lv_at hl 0 rfl) ?_
          refine lv_bipush (v := (-3)) hx hb dX8_says_70 (by decide) ?_
          obtain ⟨r11, u12, hr13, hf⟩ := boE2 hf
          have hPc := hP.sub (ws' := [(q_t, oX8 q_t_shelf q_t_rowSort q_t_rowSize q_t_rows q_t_moved q_t_shown q_t_tape v_t_tapeSize q_t_refused v_t_places q_t_ways v_t_people q_t_kind q_t_by q_t_home q_t_aim q_t_at0 v_t_hour v_t_chance v_t_seed w_t_kept w_t_tried v_t_at v_t_token v_t_from v_t_figures v_t_fault q_t_told v_t_statements q_t_steps q_t_spot q_t_then v_t_now v_t_gone q_t_sights q_t_darkAt q_t_can), (q_t_refused, .inl (cy 0, 8, .inl v_t_refused))]) [0, 3] rfl
          have hDc := hD.sub (ws' := [(q_t, oX8 q_t_shelf q_t_rowSort q_t_rowSize q_t_rows q_t_moved q_t_shown q_t_tape v_t_tapeSize q_t_refused v_t_places q_t_ways v_t_people q_t_kind q_t_by q_t_home q_t_aim q_t_at0 v_t_hour v_t_chance v_t_seed w_t_kept w_t_tried v_t_at v_t_token v_t_from v_t_figures v_t_fault q_t_told v_t_statements q_t_steps q_t_spot q_t_then v_t_now v_t_gone q_t_sights q_t_darkAt q_t_can), (q_t_refused, .inl (cy 0, 8, .inl v_t_refused))]) [0, 3] (by decide) rfl
          refine xcQi (w1 := [(q_t, oX8 q_t_shelf q_t_rowSort q_t_rowSize q_t_rows q_t_moved q_t_shown q_t_tape v_t_tapeSize q_t_refused v_t_places q_t_ways v_t_people q_t_kind q_t_by q_t_home q_t_aim q_t_at0 v_t_hour v_t_chance v_t_seed w_t_kept w_t_tried v_t_at v_t_token v_t_from v_t_figures v_t_fault q_t_told v_t_statements q_t_steps q_t_spot q_t_then v_t_now v_t_gone q_t_sights q_t_darkAt q_t_can), (q_t_refused, .inl (cy 0, 8, .inl u12))]) (va_runV (As := [.int (-3 : Int32)]) (rest := []) ⟨hx, hb, hml, hown, hts⟩ (mX8_refuse l D cy q_t q_t_shelf q_t_rowSort q_t_rowSize q_t_rows q_t_moved q_t_shown q_t_tape q_t_refused q_t_ways q_t_kind q_t_by q_t_home q_t_aim q_t_at0 q_t_told q_t_steps q_t_spot q_t_then q_t_sights q_t_darkAt q_t_can v_t_tapeSize v_t_places v_t_people v_t_hour v_t_chance v_t_seed w_t_kept w_t_tried v_t_at v_t_token v_t_from v_t_figures v_t_fault v_t_statements v_t_now v_t_gone v_t_refused _ (-3 : Int32) hr13) (cwV 1 hts gX8_says_X8_refuse rfl rfl rfl (by decide +kernel) ⟨Nat.le_of_ble_eq_true rfl, Nat.le_of_ble_eq_true rfl⟩) (xPVw hK hPc hDc (ci := 8) (q0 := 0) rfl rfl) rfl rfl hl.1 rfl (lv_room (Nat.le_of_ble_eq_true rfl)) dX8_says_72 ⟨Nat.le_of_ble_eq_true rfl, Nat.le_of_ble_eq_true rfl⟩) hP hD hS hA [0, 3] rfl rfl (fun H locs hP hD hS => ?_)
          have hP : va_P D vwCl [(q_t, oX8 q_t_shelf q_t_rowSort q_t_rowSize q_t_rows q_t_moved q_t_shown q_t_tape v_t_tapeSize q_t_refused v_t_places q_t_ways v_t_people q_t_kind q_t_by q_t_home q_t_aim q_t_at0 v_t_hour v_t_chance v_t_seed w_t_kept w_t_tried v_t_at v_t_token v_t_from v_t_figures v_t_fault q_t_told v_t_statements q_t_steps q_t_spot q_t_then v_t_now v_t_gone q_t_sights q_t_darkAt q_t_can), (q_t_shelf, .inl (cy 0, 8, .inl v_t_shelf)), (q_t_shown, .inl (cy 0, 8, .inl v_t_shown)), (q_t_refused, .inl (cy 0, 8, .inl u12)), (q_t_ways, .inl (cy 0, 12, .inl v_t_ways)), (q_t_kind, .inl (cy 0, 8, .inl v_t_kind)), (q_t_by, .inl (cy 0, 8, .inl v_t_by)), (q_t_home, .inl (cy 0, 8, .inl v_t_home)), (q_t_aim, .inl (cy 0, 8, .inl v_t_aim)), (q_t_at0, .inl (cy 0, 8, .inl v_t_at0)), (q_t_steps, .inl (cy 0, 12, .inl v_t_steps)), (q_t_spot, .inl (cy 0, 8, .inl v_t_spot)), (q_t_then, .inl (cy 0, 8, .inl v_t_then))] H := hP
          have hD : va_D A [(q_t, oX8 q_t_shelf q_t_rowSort q_t_rowSize q_t_rows q_t_moved q_t_shown q_t_tape v_t_tapeSize q_t_refused v_t_places q_t_ways v_t_people q_t_kind q_t_by q_t_home q_t_aim q_t_at0 v_t_hour v_t_chance v_t_seed w_t_kept w_t_tried v_t_at v_t_token v_t_from v_t_figures v_t_fault q_t_told v_t_statements q_t_steps q_t_spot q_t_then v_t_now v_t_gone q_t_sights q_t_darkAt q_t_can), (q_t_shelf, .inl (cy 0, 8, .inl v_t_shelf)), (q_t_shown, .inl (cy 0, 8, .inl v_t_shown)), (q_t_refused, .inl (cy 0, 8, .inl u12)), (q_t_ways, .inl (cy 0, 12, .inl v_t_ways)), (q_t_kind, .inl (cy 0, 8, .inl v_t_kind)), (q_t_by, .inl (cy 0, 8, .inl v_t_by)), (q_t_home, .inl (cy 0, 8, .inl v_t_home)), (q_t_aim, .inl (cy 0, 8, .inl v_t_aim)), (q_t_at0, .inl (cy 0, 8, .inl v_t_at0)), (q_t_steps, .inl (cy 0, 12, .inl v_t_steps)), (q_t_spot, .inl (cy 0, 8, .inl v_t_spot)), (q_t_then, .inl (cy 0, 8, .inl v_t_then))] := hD
          cases hf
          exact W.iret hx hb hr (fun t ht hW => ⟨⟨_, (), rfl, rfl, xend ht hP⟩, hS.F ht⟩) hS.2.2 dX8_says_75
        · refine lv_icmp_eq (tgt := 69) hx hb dX8_says_38 (by decide) (fun c40 => ?_) (fun c40 => ?_)
          · have hf := ifT hf c40
            clear c40
            exact J69 _ _ ls ⟨hP, hD, hS, lv_sub hl [0] rfl⟩ hf
          · have hf := ifF hf c40
            clear c40
            refine lv_aload_n hx hb dX8_says_41 rfl (lv_at hl 0 rfl) ?_
            refine va_get (D := D) (ci := 8) (v := .ref q_t_shelf) (C := RX8) (T := TX8) (N := 37) hx hb hts hinX8 hown hK.1 hP 0 rfl rfl 0 (by decide) hk7 (fun _ h9 => h9) rfl dX8_says_42 ?_
            refine lv_iload_n hx hb dX8_says_45 rfl (lv_at hl 1 rfl) ?_
            obtain ⟨hi14, hf⟩ := ckE hf
            refine va_iald hx hb hK.1 hP 1 0 rfl rfl hi14 dX8_says_46 ?_
            refine lv_iconst (v := 2) hx hb dX8_says_47 (by decide) ?_
            refine jww0 76 [] (fun  H locs ls => va_P D vwCl [(q_t, oX8 q_t_shelf q_t_rowSort q_t_rowSize q_t_rows q_t_moved q_t_shown q_t_tape v_t_tapeSize q_t_refused v_t_places q_t_ways v_t_people q_t_kind q_t_by q_t_home q_t_aim q_t_at0 v_t_hour v_t_chance v_t_seed w_t_kept w_t_tried v_t_at v_t_token v_t_from v_t_figures v_t_fault q_t_told v_t_statements q_t_steps q_t_spot q_t_then v_t_now v_t_gone q_t_sights q_t_darkAt q_t_can), (q_t_shelf, .inl (cy 0, 8, .inl v_t_shelf)), (q_t_shown, .inl (cy 0, 8, .inl v_t_shown)), (q_t_refused, .inl (cy 0, 8, .inl v_t_refused)), (q_t_ways, .inl (cy 0, 12, .inl v_t_ways)), (q_t_kind, .inl (cy 0, 8, .inl v_t_kind)), (q_t_by, .inl (cy 0, 8, .inl v_t_by)), (q_t_home, .inl (cy 0, 8, .inl v_t_home)), (q_t_aim, .inl (cy 0, 8, .inl v_t_aim)), (q_t_at0, .inl (cy 0, 8, .inl v_t_at0)), (q_t_steps, .inl (cy 0, 12, .inl v_t_steps)), (q_t_spot, .inl (cy 0, 8, .inl v_t_spot)), (q_t_then, .inl (cy 0, 8, .inl v_t_then))] H ∧ va_D A [(q_t, oX8 q_t_shelf q_t_rowSort q_t_rowSize q_t_rows q_t_moved q_t_shown q_t_tape v_t_tapeSize q_t_refused v_t_places q_t_ways v_t_people q_t_kind q_t_by q_t_home q_t_aim q_t_at0 v_t_hour v_t_chance v_t_seed w_t_kept w_t_tried v_t_at v_t_token v_t_from v_t_figures v_t_fault q_t_told v_t_statements q_t_steps q_t_spot q_t_then v_t_now v_t_gone q_t_sights q_t_darkAt q_t_can), (q_t_shelf, .inl (cy 0, 8, .inl v_t_shelf)), (q_t_shown, .inl (cy 0, 8, .inl v_t_shown)), (q_t_refused, .inl (cy 0, 8, .inl v_t_refused)), (q_t_ways, .inl (cy 0, 12, .inl v_t_ways)), (q_t_kind, .inl (cy 0, 8, .inl v_t_kind)), (q_t_by, .inl (cy 0, 8, .inl v_t_by)), (q_t_home, .inl (cy 0, 8, .inl v_t_home)), (q_t_aim, .inl (cy 0, 8, .inl v_t_aim)), (q_t_at0, .inl (cy 0, 8, .inl v_t_at0)), (q_t_steps, .inl (cy 0, 12, .inl v_t_steps)), (q_t_spot, .inl (cy 0, 8, .inl v_t_spot)), (q_t_then, .inl (cy 0, 8, .inl v_t_then))] ∧ va_S A s.heap H locs ∧ lv_has ls 3 [(0, .ref q_t), (1, .int p0), (2, .int p1)]) hf (fun  H locs ls hI hf => ?_) (fun k15 J76 hf => ?_)
            · obtain ⟨hP, hD, hS, hl⟩ := hI
              refine lv_aload_n hx hb dX8_says_76 rfl (lv_at hl 0 rfl) ?_
              refine va_get (D := D) (ci := 8) (v := .ref q_t_shelf) (C := RX8) (T := TX8) (N := 37) hx hb hts hinX8 hown hK.1 hP 0 rfl rfl 0 (by decide) hk7 (fun _ h9 => h9) rfl dX8_says_77 ?_
              refine lv_iload_n hx hb dX8_says_80 rfl (lv_at hl 1 rfl) ?_
              obtain ⟨hi16, hf⟩ := ckE hf
              refine va_iald hx hb hK.1 hP 1 0 rfl rfl hi16 dX8_says_81 ?_
              refine lv_if_ne (tgt := 92) hx hb dX8_says_82 (by decide) (fun c33 => ?_) (fun c33 => ?_)
              · have hf := ifF hf c33
                clear c33
                refine lv_iload_n hx hb dX8_says_92 rfl (lv_at hl 2 rfl) ?_
                refine lv_if_ne (tgt := 108) hx hb dX8_says_93 (by decide) (fun c29 => ?_) (fun c29 => ?_)
                · have hf := ifF hf c29
                  clear c29
                  refine lv_aload_n hx hb dX8_says_108 rfl (lv_at hl 0 rfl) ?_
                  obtain ⟨u17, u18, hr19, hf⟩ := boE2 hf
                  have hPc := hP.sub (ws' := [(q_t, oX8 q_t_shelf q_t_rowSort q_t_rowSize q_t_rows q_t_moved q_t_shown q_t_tape v_t_tapeSize q_t_refused v_t_places q_t_ways v_t_people q_t_kind q_t_by q_t_home q_t_aim q_t_at0 v_t_hour v_t_chance v_t_seed w_t_kept w_t_tried v_t_at v_t_token v_t_from v_t_figures v_t_fault q_t_told v_t_statements q_t_steps q_t_spot q_t_then v_t_now v_t_gone q_t_sights q_t_darkAt q_t_can), (q_t_at0, .inl (cy 0, 8, .inl v_t_at0)), (q_t_spot, .inl (cy 0, 8, .inl v_t_spot))]) [0, 9, 11] rfl
                  have hDc := hD.sub (ws' := [(q_t, oX8 q_t_shelf q_t_rowSort q_t_rowSize q_t_rows q_t_moved q_t_shown q_t_tape v_t_tapeSize q_t_refused v_t_places q_t_ways v_t_people q_t_kind q_t_by q_t_home q_t_aim q_t_at0 v_t_hour v_t_chance v_t_seed w_t_kept w_t_tried v_t_at v_t_token v_t_from v_t_figures v_t_fault q_t_told v_t_statements q_t_steps q_t_spot q_t_then v_t_now v_t_gone q_t_sights q_t_darkAt q_t_can), (q_t_at0, .inl (cy 0, 8, .inl v_t_at0)), (q_t_spot, .inl (cy 0, 8, .inl v_t_spot))]) [0, 9, 11] (by decide) rfl
                  refine xcQv (w1 := [(q_t, oX8 q_t_shelf q_t_rowSort q_t_rowSize q_t_rows q_t_moved q_t_shown q_t_tape v_t_tapeSize q_t_refused v_t_places q_t_ways v_t_people q_t_kind q_t_by q_t_home q_t_aim q_t_at0 v_t_hour v_t_chance v_t_seed w_t_kept w_t_tried v_t_at v_t_token v_t_from v_t_figures v_t_fault q_t_told v_t_statements q_t_steps q_t_spot q_t_then u17 v_t_gone q_t_sights q_t_darkAt q_t_can), (q_t_at0, .inl (cy 0, 8, .inl v_t_at0)), (q_t_spot, .inl (cy 0, 8, .inl u18))]) (va_runV (As := []) (rest := []) ⟨hx, hb, hml, hown, hts⟩ (mX8_begin l D cy q_t q_t_shelf q_t_rowSort q_t_rowSize q_t_rows q_t_moved q_t_shown q_t_tape q_t_refused q_t_ways q_t_kind q_t_by q_t_home q_t_aim q_t_at0 q_t_told q_t_steps q_t_spot q_t_then q_t_sights q_t_darkAt q_t_can v_t_tapeSize v_t_places v_t_people v_t_hour v_t_chance v_t_seed w_t_kept w_t_tried v_t_at v_t_token v_t_from v_t_figures v_t_fault v_t_statements v_t_now v_t_gone v_t_at0 v_t_spot _  hr19) (cwV 0 hts gX8_says_X8_begin rfl rfl rfl (by decide +kernel) ⟨Nat.le_of_ble_eq_true rfl, Nat.le_of_ble_eq_true rfl⟩) (xPVw hK hPc hDc (ci := 8) (q0 := 0) rfl rfl) rfl rfl hl.1 rfl (lv_room (Nat.le_of_ble_eq_true rfl)) dX8_says_109 ⟨Nat.le_of_ble_eq_true rfl, Nat.le_of_ble_eq_true rfl⟩) hP hD hS hA [0, 9, 11] rfl rfl (fun H locs hP hD hS => ?_)
                  have hP : va_P D vwCl [(q_t, oX8 q_t_shelf q_t_rowSort q_t_rowSize q_t_rows q_t_moved q_t_shown q_t_tape v_t_tapeSize q_t_refused v_t_places q_t_ways v_t_people q_t_kind q_t_by q_t_home q_t_aim q_t_at0 v_t_hour v_t_chance v_t_seed w_t_kept w_t_tried v_t_at v_t_token v_t_from v_t_figures v_t_fault q_t_told v_t_statements q_t_steps q_t_spot q_t_then u17 v_t_gone q_t_sights q_t_darkAt q_t_can), (q_t_shelf, .inl (cy 0, 8, .inl v_t_shelf)), (q_t_shown, .inl (cy 0, 8, .inl v_t_shown)), (q_t_refused, .inl (cy 0, 8, .inl v_t_refused)), (q_t_ways, .inl (cy 0, 12, .inl v_t_ways)), (q_t_kind, .inl (cy 0, 8, .inl v_t_kind)), (q_t_by, .inl (cy 0, 8, .inl v_t_by)), (q_t_home, .inl (cy 0, 8, .inl v_t_home)), (q_t_aim, .inl (cy 0, 8, .inl v_t_aim)), (q_t_at0, .inl (cy 0, 8, .inl v_t_at0)), (q_t_steps, .inl (cy 0, 12, .inl v_t_steps)), (q_t_spot, .inl (cy 0, 8, .inl u18)), (q_t_then, .inl (cy 0, 8, .inl v_t_then))] H := hP
                  have hD : va_D A [(q_t, oX8 q_t_shelf q_t_rowSort q_t_rowSize q_t_rows q_t_moved q_t_shown q_t_tape v_t_tapeSize q_t_refused v_t_places q_t_ways v_t_people q_t_kind q_t_by q_t_home q_t_aim q_t_at0 v_t_hour v_t_chance v_t_seed w_t_kept w_t_tried v_t_at v_t_token v_t_from v_t_figures v_t_fault q_t_told v_t_statements q_t_steps q_t_spot q_t_then u17 v_t_gone q_t_sights q_t_darkAt q_t_can), (q_t_shelf, .inl (cy 0, 8, .inl v_t_shelf)), (q_t_shown, .inl (cy 0, 8, .inl v_t_shown)), (q_t_refused, .inl (cy 0, 8, .inl v_t_refused)), (q_t_ways, .inl (cy 0, 12, .inl v_t_ways)), (q_t_kind, .inl (cy 0, 8, .inl v_t_kind)), (q_t_by, .inl (cy 0, 8, .inl v_t_by)), (q_t_home, .inl (cy 0, 8, .inl v_t_home)), (q_t_aim, .inl (cy 0, 8, .inl v_t_aim)), (q_t_at0, .inl (cy 0, 8, .inl v_t_at0)), (q_t_steps, .inl (cy 0, 12, .inl v_t_steps)), (q_t_spot, .inl (cy 0, 8, .inl u18)), (q_t_then, .inl (cy 0, 8, .inl v_t_then))] := hD
                  refine lv_aload_n hx hb dX8_says_112 rfl (lv_at hl 0 rfl) ?_
                  obtain ⟨u20, u21, u22, u23, hr24, hf⟩ := boE4 hf
                  have hPc := hP.sub (ws' := [(q_t, oX8 q_t_shelf q_t_rowSort q_t_rowSize q_t_rows q_t_moved q_t_shown q_t_tape v_t_tapeSize q_t_refused v_t_places q_t_ways v_t_people q_t_kind q_t_by q_t_home q_t_aim q_t_at0 v_t_hour v_t_chance v_t_seed w_t_kept w_t_tried v_t_at v_t_token v_t_from v_t_figures v_t_fault q_t_told v_t_statements q_t_steps q_t_spot q_t_then u17 v_t_gone q_t_sights q_t_darkAt q_t_can), (q_t_ways, .inl (cy 0, 12, .inl v_t_ways)), (q_t_kind, .inl (cy 0, 8, .inl v_t_kind)), (q_t_home, .inl (cy 0, 8, .inl v_t_home)), (q_t_aim, .inl (cy 0, 8, .inl v_t_aim)), (q_t_steps, .inl (cy 0, 12, .inl v_t_steps)), (q_t_spot, .inl (cy 0, 8, .inl u18)), (q_t_then, .inl (cy 0, 8, .inl v_t_then))]) [0, 4, 5, 7, 8, 10, 11, 12] rfl
                  have hDc := hD.sub (ws' := [(q_t, oX8 q_t_shelf q_t_rowSort q_t_rowSize q_t_rows q_t_moved q_t_shown q_t_tape v_t_tapeSize q_t_refused v_t_places q_t_ways v_t_people q_t_kind q_t_by q_t_home q_t_aim q_t_at0 v_t_hour v_t_chance v_t_seed w_t_kept w_t_tried v_t_at v_t_token v_t_from v_t_figures v_t_fault q_t_told v_t_statements q_t_steps q_t_spot q_t_then u17 v_t_gone q_t_sights q_t_darkAt q_t_can), (q_t_ways, .inl (cy 0, 12, .inl v_t_ways)), (q_t_kind, .inl (cy 0, 8, .inl v_t_kind)), (q_t_home, .inl (cy 0, 8, .inl v_t_home)), (q_t_aim, .inl (cy 0, 8, .inl v_t_aim)), (q_t_steps, .inl (cy 0, 12, .inl v_t_steps)), (q_t_spot, .inl (cy 0, 8, .inl u18)), (q_t_then, .inl (cy 0, 8, .inl v_t_then))]) [0, 4, 5, 7, 8, 10, 11, 12] (by decide) rfl
                  refine xcQv (w1 := [(q_t, oX8 q_t_shelf q_t_rowSort q_t_rowSize q_t_rows q_t_moved q_t_shown q_t_tape v_t_tapeSize q_t_refused v_t_places q_t_ways v_t_people q_t_kind q_t_by q_t_home q_t_aim q_t_at0 v_t_hour v_t_chance v_t_seed w_t_kept w_t_tried v_t_at v_t_token v_t_from v_t_figures v_t_fault q_t_told v_t_statements q_t_steps q_t_spot q_t_then u20 v_t_gone q_t_sights q_t_darkAt q_t_can), (q_t_ways, .inl (cy 0, 12, .inl v_t_ways)), (q_t_kind, .inl (cy 0, 8, .inl v_t_kind)), (q_t_home, .inl (cy 0, 8, .inl v_t_home)), (q_t_aim, .inl (cy 0, 8, .inl v_t_aim)), (q_t_steps, .inl (cy 0, 12, .inl u21)), (q_t_spot, .inl (cy 0, 8, .inl u22)), (q_t_then, .inl (cy 0, 8, .inl u23))]) (va_runV (As := []) (rest := []) ⟨hx, hb, hml, hown, hts⟩ (mX8_goes l D cy q_t q_t_shelf q_t_rowSort q_t_rowSize q_t_rows q_t_moved q_t_shown q_t_tape q_t_refused q_t_ways q_t_kind q_t_by q_t_home q_t_aim q_t_at0 q_t_told q_t_steps q_t_spot q_t_then q_t_sights q_t_darkAt q_t_can v_t_tapeSize v_t_places v_t_people v_t_hour v_t_chance v_t_seed w_t_kept w_t_tried v_t_at v_t_token v_t_from v_t_figures v_t_fault v_t_statements u17 v_t_gone v_t_ways v_t_kind v_t_home v_t_aim v_t_steps u18 v_t_then _  hr24) (cwV 0 hts gX8_says_X8_goes rfl rfl rfl (by decide +kernel) ⟨Nat.le_of_ble_eq_true rfl, Nat.le_of_ble_eq_true rfl⟩) (xPVw hK hPc hDc (ci := 8) (q0 := 0) rfl rfl) rfl rfl hl.1 rfl (lv_room (Nat.le_of_ble_eq_true rfl)) dX8_says_113 ⟨Nat.le_of_ble_eq_true rfl, Nat.le_of_ble_eq_true rfl⟩) hP hD hS hA [0, 4, 5, 7, 8, 10, 11, 12] rfl rfl (fun H locs hP hD hS => ?_)
                  have hP : va_P D vwCl [(q_t, oX8 q_t_shelf q_t_rowSort q_t_rowSize q_t_rows q_t_moved q_t_shown q_t_tape v_t_tapeSize q_t_refused v_t_places q_t_ways v_t_people q_t_kind q_t_by q_t_home q_t_aim q_t_at0 v_t_hour v_t_chance v_t_seed w_t_kept w_t_tried v_t_at v_t_token v_t_from v_t_figures v_t_fault q_t_told v_t_statements q_t_steps q_t_spot q_t_then u20 v_t_gone q_t_sights q_t_darkAt q_t_can), (q_t_shelf, .inl (cy 0, 8, .inl v_t_shelf)), (q_t_shown, .inl (cy 0, 8, .inl v_t_shown)), (q_t_refused, .inl (cy 0, 8, .inl v_t_refused)), (q_t_ways, .inl (cy 0, 12, .inl v_t_ways)), (q_t_kind, .inl (cy 0, 8, .inl v_t_kind)), (q_t_by, .inl (cy 0, 8, .inl v_t_by)), (q_t_home, .inl (cy 0, 8, .inl v_t_home)), (q_t_aim, .inl (cy 0, 8, .inl v_t_aim)), (q_t_at0, .inl (cy 0, 8, .inl v_t_at0)), (q_t_steps, .inl (cy 0, 12, .inl u21)), (q_t_spot, .inl (cy 0, 8, .inl u22)), (q_t_then, .inl (cy 0, 8, .inl u23))] H := hP
                  have hD : va_D A [(q_t, oX8 q_t_shelf q_t_rowSort q_t_rowSize q_t_rows q_t_moved q_t_shown q_t_tape v_t_tapeSize q_t_refused v_t_places q_t_ways v_t_people q_t_kind q_t_by q_t_home q_t_aim q_t_at0 v_t_hour v_t_chance v_t_seed w_t_kept w_t_tried v_t_at v_t_token v_t_from v_t_figures v_t_fault q_t_told v_t_statements q_t_steps q_t_spot q_t_then u20 v_t_gone q_t_sights q_t_darkAt q_t_can), (q_t_shelf, .inl (cy 0, 8, .inl v_t_shelf)), (q_t_shown, .inl (cy 0, 8, .inl v_t_shown)), (q_t_refused, .inl (cy 0, 8, .inl v_t_refused)), (q_t_ways, .inl (cy 0, 12, .inl v_t_ways)), (q_t_kind, .inl (cy 0, 8, .inl v_t_kind)), (q_t_by, .inl (cy 0, 8, .inl v_t_by)), (q_t_home, .inl (cy 0, 8, .inl v_t_home)), (q_t_aim, .inl (cy 0, 8, .inl v_t_aim)), (q_t_at0, .inl (cy 0, 8, .inl v_t_at0)), (q_t_steps, .inl (cy 0, 12, .inl u21)), (q_t_spot, .inl (cy 0, 8, .inl u22)), (q_t_then, .inl (cy 0, 8, .inl u23))] := hD
                  refine lv_aload_n hx hb dX8_says_116 rfl (lv_at hl 0 rfl) ?_
                  refine va_get (D := D) (ci := 8) (v := .ref q_t_spot) (C := RX8) (T := TX8) (N := 37) hx hb hts hinX8 hown hK.1 hP 0 rfl rfl 30 (by decide) hk71 (fun _ h9 => h9) rfl dX8_says_117 ?_
                  refine lv_aload_n hx hb dX8_says_120 rfl (lv_at hl 0 rfl) ?_
                  refine va_get (D := D) (ci := 8) (v := .ref q_t_shown) (C := RX8) (T := TX8) (N := 37) hx hb hts hinX8 hown hK.1 hP 0 rfl rfl 5 (by decide) hk28 (fun _ h9 => h9) rfl dX8_says_121 ?_
                  refine lv_iload_n hx hb dX8_says_124 rfl (lv_at hl 1 rfl) ?_
                  obtain ⟨hi25, hf⟩ := ckE hf
                  refine va_iald hx hb hK.1 hP 2 0 rfl rfl hi25 dX8_says_125 ?_
                  obtain ⟨hi26, hf⟩ := ckE hf
                  refine va_iald hx hb hK.1 hP 11 0 rfl rfl hi26 dX8_says_126 ?_
                  cases hf
                  exact W.iret hx hb hr (fun t ht hW => ⟨⟨_, (), rfl, rfl, xend ht hP⟩, hS.F ht⟩) hS.2.2 dX8_says_127
                · have hf := ifT hf c29
                  clear c29
                  refine lv_aload_n hx hb dX8_says_96 rfl (lv_at hl 0 rfl) ?_
                  refine va_get (D := D) (ci := 8) (v := .ref q_t_by) (C := RX8) (T := TX8) (N := 37) hx hb hts hinX8 hown hK.1 hP 0 rfl rfl 13 (by decide) hk47 (fun _ h9 => h9) rfl dX8_says_97 ?_
                  refine lv_aload_n hx hb dX8_says_100 rfl (lv_at hl 0 rfl) ?_
                  refine va_get (D := D) (ci := 8) (v := .ref q_t_shown) (C := RX8) (T := TX8) (N := 37) hx hb hts hinX8 hown hK.1 hP 0 rfl rfl 5 (by decide) hk28 (fun _ h9 => h9) rfl dX8_says_101 ?_
                  refine lv_iload_n hx hb dX8_says_104 rfl (lv_at hl 1 rfl) ?_
                  obtain ⟨hi27, hf⟩ := ckE hf
                  refine va_iald hx hb hK.1 hP 2 0 rfl rfl hi27 dX8_says_105 ?_
                  obtain ⟨hi28, hf⟩ := ckE hf
                  refine va_iald hx hb hK.1 hP 6 0 rfl rfl hi28 dX8_says_106 ?_
                  cases hf
                  exact W.iret hx hb hr (fun t ht hW => ⟨⟨_, (), rfl, rfl, xend ht hP⟩, hS.F ht⟩) hS.2.2 dX8_says_107
              · have hf := ifT hf c33
                clear c33
                refine lv_aload_n hx hb dX8_says_85 rfl (lv_at hl 0 rfl) ?_
                refine lv_bipush (v := (-4)) hx hb dX8_says_86 (by decide) ?_
                obtain ⟨r30, u31, hr32, hf⟩ := boE2 hf
                have hPc := hP.sub (ws' := [(q_t, oX8 q_t_shelf q_t_rowSort q_t_rowSize q_t_rows q_t_moved q_t_shown q_t_tape v_t_tapeSize q_t_refused v_t_places q_t_ways v_t_people q_t_kind q_t_by q_t_home q_t_aim q_t_at0 v_t_hour v_t_chance v_t_seed w_t_kept w_t_tried v_t_at v_t_token v_t_from v_t_figures v_t_fault q_t_told v_t_statements q_t_steps q_t_spot q_t_then v_t_now v_t_gone q_t_sights q_t_darkAt q_t_can), (q_t_refused, .inl (cy 0, 8, .inl v_t_refused))]) [0, 3] rfl
                have hDc := hD.sub (ws' := [(q_t, oX8 q_t_shelf q_t_rowSort q_t_rowSize q_t_rows q_t_moved q_t_shown q_t_tape v_t_tapeSize q_t_refused v_t_places q_t_ways v_t_people q_t_kind q_t_by q_t_home q_t_aim q_t_at0 v_t_hour v_t_chance v_t_seed w_t_kept w_t_tried v_t_at v_t_token v_t_from v_t_figures v_t_fault q_t_told v_t_statements q_t_steps q_t_spot q_t_then v_t_now v_t_gone q_t_sights q_t_darkAt q_t_can), (q_t_refused, .inl (cy 0, 8, .inl v_t_refused))]) [0, 3] (by decide) rfl
                refine xcQi (w1 := [(q_t, oX8 q_t_shelf q_t_rowSort q_t_rowSize q_t_rows q_t_moved q_t_shown q_t_tape v_t_tapeSize q_t_refused v_t_places q_t_ways v_t_people q_t_kind q_t_by q_t_home q_t_aim q_t_at0 v_t_hour v_t_chance v_t_seed w_t_kept w_t_tried v_t_at v_t_token v_t_from v_t_figures v_t_fault q_t_told v_t_statements q_t_steps q_t_spot q_t_then v_t_now v_t_gone q_t_sights q_t_darkAt q_t_can), (q_t_refused, .inl (cy 0, 8, .inl u31))]) (va_runV (As := [.int (-4 : Int32)]) (rest := []) ⟨hx, hb, hml, hown, hts⟩ (mX8_refuse l D cy q_t q_t_shelf q_t_rowSort q_t_rowSize q_t_rows q_t_moved q_t_shown q_t_tape q_t_refused q_t_ways q_t_kind q_t_by q_t_home q_t_aim q_t_at0 q_t_told q_t_steps q_t_spot q_t_then q_t_sights q_t_darkAt q_t_can v_t_tapeSize v_t_places v_t_people v_t_hour v_t_chance v_t_seed w_t_kept w_t_tried v_t_at v_t_token v_t_from v_t_figures v_t_fault v_t_statements v_t_now v_t_gone v_t_refused _ (-4 : Int32) hr32) (cwV 1 hts gX8_says_X8_refuse rfl rfl rfl (by decide +kernel) ⟨Nat.le_of_ble_eq_true rfl, Nat.le_of_ble_eq_true rfl⟩) (xPVw hK hPc hDc (ci := 8) (q0 := 0) rfl rfl) rfl rfl hl.1 rfl (lv_room (Nat.le_of_ble_eq_true rfl)) dX8_says_88 ⟨Nat.le_of_ble_eq_true rfl, Nat.le_of_ble_eq_true rfl⟩) hP hD hS hA [0, 3] rfl rfl (fun H locs hP hD hS => ?_)
                have hP : va_P D vwCl [(q_t, oX8 q_t_shelf q_t_rowSort q_t_rowSize q_t_rows q_t_moved q_t_shown q_t_tape v_t_tapeSize q_t_refused v_t_places q_t_ways v_t_people q_t_kind q_t_by q_t_home q_t_aim q_t_at0 v_t_hour v_t_chance v_t_seed w_t_kept w_t_tried v_t_at v_t_token v_t_from v_t_figures v_t_fault q_t_told v_t_statements q_t_steps q_t_spot q_t_then v_t_now v_t_gone q_t_sights q_t_darkAt q_t_can), (q_t_shelf, .inl (cy 0, 8, .inl v_t_shelf)), (q_t_shown, .inl (cy 0, 8, .inl v_t_shown)), (q_t_refused, .inl (cy 0, 8, .inl u31)), (q_t_ways, .inl (cy 0, 12, .inl v_t_ways)), (q_t_kind, .inl (cy 0, 8, .inl v_t_kind)), (q_t_by, .inl (cy 0, 8, .inl v_t_by)), (q_t_home, .inl (cy 0, 8, .inl v_t_home)), (q_t_aim, .inl (cy 0, 8, .inl v_t_aim)), (q_t_at0, .inl (cy 0, 8, .inl v_t_at0)), (q_t_steps, .inl (cy 0, 12, .inl v_t_steps)), (q_t_spot, .inl (cy 0, 8, .inl v_t_spot)), (q_t_then, .inl (cy 0, 8, .inl v_t_then))] H := hP
                have hD : va_D A [(q_t, oX8 q_t_shelf q_t_rowSort q_t_rowSize q_t_rows q_t_moved q_t_shown q_t_tape v_t_tapeSize q_t_refused v_t_places q_t_ways v_t_people q_t_kind q_t_by q_t_home q_t_aim q_t_at0 v_t_hour v_t_chance v_t_seed w_t_kept w_t_tried v_t_at v_t_token v_t_from v_t_figures v_t_fault q_t_told v_t_statements q_t_steps q_t_spot q_t_then v_t_now v_t_gone q_t_sights q_t_darkAt q_t_can), (q_t_shelf, .inl (cy 0, 8, .inl v_t_shelf)), (q_t_shown, .inl (cy 0, 8, .inl v_t_shown)), (q_t_refused, .inl (cy 0, 8, .inl u31)), (q_t_ways, .inl (cy 0, 12, .inl v_t_ways)), (q_t_kind, .inl (cy 0, 8, .inl v_t_kind)), (q_t_by, .inl (cy 0, 8, .inl v_t_by)), (q_t_home, .inl (cy 0, 8, .inl v_t_home)), (q_t_aim, .inl (cy 0, 8, .inl v_t_aim)), (q_t_at0, .inl (cy 0, 8, .inl v_t_at0)), (q_t_steps, .inl (cy 0, 12, .inl v_t_steps)), (q_t_spot, .inl (cy 0, 8, .inl v_t_spot)), (q_t_then, .inl (cy 0, 8, .inl v_t_then))] := hD
                cases hf
                exact W.iret hx hb hr (fun t ht hW => ⟨⟨_, (), rfl, rfl, xend ht hP⟩, hS.F ht⟩) hS.2.2 dX8_says_91
            · refine lv_icmp_ne (tgt := 76) hx hb dX8_says_48 (by decide) (fun c39 => ?_) (fun c39 => ?_)
              · have hf := ifF hf c39
                clear c39
                exact J76 _ _ ls ⟨hP, hD, hS, lv_sub hl [0, 1, 2] rfl⟩ hf
              · have hf := ifT hf c39
                clear c39
                refine lv_aload_n hx hb dX8_says_51 rfl (lv_at hl 0 rfl) ?_
                refine va_get (D := D) (ci := 8) (v := .ref q_t_kind) (C := RX8) (T := TX8) (N := 37) hx hb hts hinX8 hown hK.1 hP 0 rfl rfl 12 (by decide) hk44 (fun _ h9 => h9) rfl dX8_says_52 ?_
                refine lv_aload_n hx hb dX8_says_55 rfl (lv_at hl 0 rfl) ?_
                refine va_get (D := D) (ci := 8) (v := .ref q_t_shown) (C := RX8) (T := TX8) (N := 37) hx hb hts hinX8 hown hK.1 hP 0 rfl rfl 5 (by decide) hk28 (fun _ h9 => h9) rfl dX8_says_56 ?_
                refine lv_iload_n hx hb dX8_says_59 rfl (lv_at hl 1 rfl) ?_
                obtain ⟨hi34, hf⟩ := ckE hf
                refine va_iald hx hb hK.1 hP 2 0 rfl rfl hi34 dX8_says_60 ?_
                obtain ⟨hi35, hf⟩ := ckE hf
                refine va_iald hx hb hK.1 hP 5 0 rfl rfl hi35 dX8_says_61 ?_
                refine lv_iload_n hx hb dX8_says_62 rfl (lv_at hl 2 rfl) ?_
                obtain ⟨r36, hr37, hf⟩ := boE1 hf
                have hPc := hP.sub (ws' := []) [] rfl
                refine xcSi (va_runS (As := [.int (v_t_kind (v_t_shown p0.toNatClampNeg).toNatClampNeg), .int p1]) (rest := []) ⟨hx, hb, hml, hown, hts⟩ (mX8_isUnder l D cy    (v_t_kind (v_t_shown p0.toNatClampNeg).toNatClampNeg) p1 hr37) (va_cwS 2 hts gX8_says_X8_isUnder rfl rfl rfl (by decide +kernel) ⟨Nat.le_of_ble_eq_true rfl, Nat.le_of_ble_eq_true rfl⟩) (xPS hK hPc) rfl rfl hl.1 rfl (lv_room (Nat.le_of_ble_eq_true rfl)) dX8_says_63 ⟨Nat.le_of_ble_eq_true rfl, Nat.le_of_ble_eq_true rfl⟩) ?_
                refine lv_if_ne (tgt := 76) hx hb dX8_says_66 (by decide) (fun c38 => ?_) (fun c38 => ?_)
                · have hf := ifF hf c38
                  clear c38
                  exact J76 _ _ ls ⟨hP, hD, hS, lv_sub hl [0, 1, 2] rfl⟩ hf
                · have hf := ifT hf c38
                  clear c38
                  exact J69 _ _ ls ⟨hP, hD, hS, lv_sub hl [0] rfl⟩ hf
      · have hf := ifT hf c41
        clear c41
        exact J24 _ _ ls ⟨hP, hD, hS, lv_sub hl [0] rfl⟩ hf
def fX8_setWay (v_t_ways : Nat → Int32) (p0 : Int32) (p1 : Int32) (p2 : Int32) : Option ((Nat → Int32)) :=
  jo1 (fun (y1 : Int32) =>
    if p0 < 0 ∨ 12 ≤ p0.toNatClampNeg then none else
    jo1 (fun (y4 : Int32) =>
      if p1 < 0 ∨ 12 ≤ p1.toNatClampNeg then none else
      some (upd (upd v_t_ways p0.toNatClampNeg y1) p1.toNatClampNeg y4)) fun k5 =>
    if p2 = 0 then
      if p1 < 0 ∨ 12 ≤ p1.toNatClampNeg then none else
      k5 (((upd v_t_ways p0.toNatClampNeg y1) p1.toNatClampNeg) &&& (((1 : Int32) <<< (p0 &&& 31)) ^^^ (-1 : Int32)))
    else
      if p1 < 0 ∨ 12 ≤ p1.toNatClampNeg then none else
      k5 (((upd v_t_ways p0.toNatClampNeg y1) p1.toNatClampNeg) ||| ((1 : Int32) <<< (p0 &&& 31)))) fun k2 =>
  if p2 = 0 then
    if p0 < 0 ∨ 12 ≤ p0.toNatClampNeg then none else
    k2 ((v_t_ways p0.toNatClampNeg) &&& (((1 : Int32) <<< (p1 &&& 31)) ^^^ (-1 : Int32)))
  else
    if p0 < 0 ∨ 12 ≤ p0.toNatClampNeg then none else
    k2 ((v_t_ways p0.toNatClampNeg) ||| ((1 : Int32) <<< (p1 &&& 31)))
set_option maxHeartbeats 4000000 in
set_option maxRecDepth 100000 in
theorem mX8_setWay (l : Launch) (D : va_G) (cy : Nat → ClassId) (q_t q_t_shelf q_t_rowSort q_t_rowSize q_t_rows q_t_moved q_t_shown q_t_tape q_t_refused q_t_ways q_t_kind q_t_by q_t_home q_t_aim q_t_at0 q_t_told q_t_steps q_t_spot q_t_then q_t_sights q_t_darkAt q_t_can : Nat) (v_t_tapeSize : Int32) (v_t_places : Int32) (v_t_people : Int32) (v_t_hour : Int32) (v_t_chance : Int32) (v_t_seed : Int32) (w_t_kept : Value) (w_t_tried : Value) (v_t_at : Int32) (v_t_token : Int32) (v_t_from : Int32) (v_t_figures : Int32) (v_t_fault : Int32) (v_t_statements : Int32) (v_t_now : Int32) (v_t_gone : Int32) (v_t_ways : Nat → Int32) (sz : Nat) (p0 : Int32) (p1 : Int32) (p2 : Int32) {n_t_ways : Nat → Int32} (hf : fX8_setWay v_t_ways p0 p1 p2 = some n_t_ways) : Met l yX8_setWay wsX8_setWay ({ frames := 0, cells := 0, slots := 0, locals := 0 }) (va_Pc [.ref q_t, .int p0, .int p1, .int p2] (fun U => U.heap.size = sz ∧ va_P D vwCl [(q_t, oX8 q_t_shelf q_t_rowSort q_t_rowSize q_t_rows q_t_moved q_t_shown q_t_tape v_t_tapeSize q_t_refused v_t_places q_t_ways v_t_people q_t_kind q_t_by q_t_home q_t_aim q_t_at0 v_t_hour v_t_chance v_t_seed w_t_kept w_t_tried v_t_at v_t_token v_t_from v_t_figures v_t_fault q_t_told v_t_statements q_t_steps q_t_spot q_t_then v_t_now v_t_gone q_t_sights q_t_darkAt q_t_can), (q_t_ways, .inl (cy 0, 12, .inl v_t_ways))] U.heap ∧ xK D cy U ∧ va_D (fun _ => True) [(q_t, oX8 q_t_shelf q_t_rowSort q_t_rowSize q_t_rows q_t_moved q_t_shown q_t_tape v_t_tapeSize q_t_refused v_t_places q_t_ways v_t_people q_t_kind q_t_by q_t_home q_t_aim q_t_at0 v_t_hour v_t_chance v_t_seed w_t_kept w_t_tried v_t_at v_t_token v_t_from v_t_figures v_t_fault q_t_told v_t_statements q_t_steps q_t_spot q_t_then v_t_now v_t_gone q_t_sights q_t_darkAt q_t_can), (q_t_ways, .inl (cy 0, 12, .inl v_t_ways))])) (va_Qv (fun (_ : Unit) => True) (fun _ t => va_P D vwCl [(q_t, oX8 q_t_shelf q_t_rowSort q_t_rowSize q_t_rows q_t_moved q_t_shown q_t_tape v_t_tapeSize q_t_refused v_t_places q_t_ways v_t_people q_t_kind q_t_by q_t_home q_t_aim q_t_at0 v_t_hour v_t_chance v_t_seed w_t_kept w_t_tried v_t_at v_t_token v_t_from v_t_figures v_t_fault q_t_told v_t_statements q_t_steps q_t_spot q_t_then v_t_now v_t_gone q_t_sights q_t_darkAt q_t_can), (q_t_ways, .inl (cy 0, 12, .inl n_t_ways))] t.heap) (va_A [(q_t, oX8 q_t_shelf q_t_rowSort q_t_rowSize q_t_rows q_t_moved q_t_shown q_t_tape v_t_tapeSize q_t_refused v_t_places q_t_ways v_t_people q_t_kind q_t_by q_t_home q_t_aim q_t_at0 v_t_hour v_t_chance v_t_seed w_t_kept w_t_tried v_t_at v_t_token v_t_from v_t_figures v_t_fault q_t_told v_t_statements q_t_steps q_t_spot q_t_then v_t_now v_t_gone q_t_sights q_t_darkAt q_t_can), (q_t_ways, .inl (cy 0, 12, .inl v_t_ways))] sz)) 0 0 (va_A [(q_t, oX8 q_t_shelf q_t_rowSort q_t_rowSize q_t_rows q_t_moved q_t_shown q_t_tape v_t_tapeSize q_t_refused v_t_places q_t_ways v_t_people q_t_kind q_t_by q_t_home q_t_aim q_t_at0 v_t_hour v_t_chance v_t_seed w_t_kept w_t_tried v_t_at v_t_token v_t_from v_t_figures v_t_fault q_t_told v_t_statements q_t_steps q_t_spot q_t_then v_t_now v_t_gone q_t_sights q_t_darkAt q_t_can), (q_t_ways, .inl (cy 0, 12, .inl v_t_ways))] sz) := by
  refine Met.ofW (cc := cX8_setWay) (maxL := 4) (ret := none) (by decide) rfl ?_
  intro p e s m args below meth c s₁ B hml hv
  obtain ⟨rfl, hsz, hP, hK, hD0⟩ := hv
  have hx := B.exec
  have hb := B.bytes
  have hr := B.returns
  have hts := atoms_spec (ws := wsX8_setWay) B.pre
  have hown : s.vm.findClass RX8 = some m.cls := findClass_of_methodNamed B.named
  have hlocks := B.notSynchronized
  subst hsz
  have hD := hD0.self (sz := s.heap.size)
  generalize hAe : va_A [(q_t, oX8 q_t_shelf q_t_rowSort q_t_rowSize q_t_rows q_t_moved q_t_shown q_t_tape v_t_tapeSize q_t_refused v_t_places q_t_ways v_t_people q_t_kind q_t_by q_t_home q_t_aim q_t_at0 v_t_hour v_t_chance v_t_seed w_t_kept w_t_tried v_t_at v_t_token v_t_from v_t_figures v_t_fault q_t_told v_t_statements q_t_steps q_t_spot q_t_then v_t_now v_t_gone q_t_sights q_t_darkAt q_t_can), (q_t_ways, .inl (cy 0, 12, .inl v_t_ways))] s.heap.size = A at hD ⊢
  have hA : ∀ q : Nat, s.heap.size ≤ q → A q := fun q h => by rw [← hAe]; exact Or.inr h
  have hS : va_S A s.heap s.heap [] := va_S.rf
  have hP : va_P D vwCl [(q_t, oX8 q_t_shelf q_t_rowSort q_t_rowSize q_t_rows q_t_moved q_t_shown q_t_tape v_t_tapeSize q_t_refused v_t_places q_t_ways v_t_people q_t_kind q_t_by q_t_home q_t_aim q_t_at0 v_t_hour v_t_chance v_t_seed w_t_kept w_t_tried v_t_at v_t_token v_t_from v_t_figures v_t_fault q_t_told v_t_statements q_t_steps q_t_spot q_t_then v_t_now v_t_gone q_t_sights q_t_darkAt q_t_can), (q_t_ways, .inl (cy 0, 12, .inl v_t_ways))] s.heap := hP
  have hinX8 : ∀ w ∈ u_ws RX8 TX8 37, w ∈ wsX8_setWay := by decide +kernel
  have hk41 := hts (.fieldLink RX8 41 "ShowsWhereNobodyIsModel" "ways" "[I") (by decide +kernel)
  have hl := lv_entry ([.ref q_t, .int p0, .int p1, .int p2]) (n := 4) (Nat.le_of_ble_eq_true rfl)
  rw [lg_entry_eq]
  generalize (lg_sl ([.ref q_t, .int p0, .int p1, .int p2]) ++ List.replicate (4 - (lg_sl ([.ref q_t, .int p0, .int p1, .int p2])).length) Slot.unset).toArray = ls at hl ⊢
  have hl : lv_has ls 4 [(0, .ref q_t), (1, .int p0), (2, .int p1), (3, .int p2)] := hl
  unfold fX8_setWay at hf
  refine lv_aload_n hx hb dX8_setWay_0 rfl (lv_at hl 0 rfl) ?_
  refine va_get (D := D) (ci := 8) (v := .ref q_t_ways) (C := RX8) (T := TX8) (N := 37) hx hb hts hinX8 hown hK.1 hP 0 rfl rfl 10 (by decide) hk41 (fun _ h9 => h9) rfl dX8_setWay_1 ?_
  refine lv_iload_n hx hb dX8_setWay_4 rfl (lv_at hl 1 rfl) ?_
  refine lv_iload_n hx hb dX8_setWay_5 rfl (lv_at hl 3 rfl) ?_
  refine jww1 34 (fun (y1 : Int32) => [.int y1, .int p0, .ref q_t_ways]) (fun (y1 : Int32) H locs ls => va_P D vwCl [(q_t, oX8 q_t_shelf q_t_rowSort q_t_rowSize q_t_rows q_t_moved q_t_shown q_t_tape v_t_tapeSize q_t_refused v_t_places q_t_ways v_t_people q_t_kind q_t_by q_t_home q_t_aim q_t_at0 v_t_hour v_t_chance v_t_seed w_t_kept w_t_tried v_t_at v_t_token v_t_from v_t_figures v_t_fault q_t_told v_t_statements q_t_steps q_t_spot q_t_then v_t_now v_t_gone q_t_sights q_t_darkAt q_t_can), (q_t_ways, .inl (cy 0, 12, .inl v_t_ways))] H ∧ va_D A [(q_t, oX8 q_t_shelf q_t_rowSort q_t_rowSize q_t_rows q_t_moved q_t_shown q_t_tape v_t_tapeSize q_t_refused v_t_places q_t_ways v_t_people q_t_kind q_t_by q_t_home q_t_aim q_t_at0 v_t_hour v_t_chance v_t_seed w_t_kept w_t_tried v_t_at v_t_token v_t_from v_t_figures v_t_fault q_t_told v_t_statements q_t_steps q_t_spot q_t_then v_t_now v_t_gone q_t_sights q_t_darkAt q_t_can), (q_t_ways, .inl (cy 0, 12, .inl v_t_ways))] ∧ va_S A s.heap H locs ∧ lv_has ls 4 [(0, .ref q_t), (1, .int p0), (2, .int p1), (3, .int p2)]) hf (fun y1 H locs ls hI hf => ?_) (fun k2 J34 hf => ?_)
  · obtain ⟨hP, hD, hS, hl⟩ := hI
    obtain ⟨hi3, hf⟩ := ckE hf
    refine va_iast hx hb hK.1 hP hD hS 1 0 rfl rfl hi3 dX8_setWay_34 (fun H locs hP hD hS => ?_)
    have hP : va_P D vwCl [(q_t, oX8 q_t_shelf q_t_rowSort q_t_rowSize q_t_rows q_t_moved q_t_shown q_t_tape v_t_tapeSize q_t_refused v_t_places q_t_ways v_t_people q_t_kind q_t_by q_t_home q_t_aim q_t_at0 v_t_hour v_t_chance v_t_seed w_t_kept w_t_tried v_t_at v_t_token v_t_from v_t_figures v_t_fault q_t_told v_t_statements q_t_steps q_t_spot q_t_then v_t_now v_t_gone q_t_sights q_t_darkAt q_t_can), (q_t_ways, .inl (cy 0, 12, .inl (upd v_t_ways p0.toNatClampNeg y1)))] H := hP
    have hD : va_D A [(q_t, oX8 q_t_shelf q_t_rowSort q_t_rowSize q_t_rows q_t_moved q_t_shown q_t_tape v_t_tapeSize q_t_refused v_t_places q_t_ways v_t_people q_t_kind q_t_by q_t_home q_t_aim q_t_at0 v_t_hour v_t_chance v_t_seed w_t_kept w_t_tried v_t_at v_t_token v_t_from v_t_figures v_t_fault q_t_told v_t_statements q_t_steps q_t_spot q_t_then v_t_now v_t_gone q_t_sights q_t_darkAt q_t_can), (q_t_ways, .inl (cy 0, 12, .inl (upd v_t_ways p0.toNatClampNeg y1)))] := hD
    refine lv_aload_n hx hb dX8_setWay_35 rfl (lv_at hl 0 rfl) ?_
    refine va_get (D := D) (ci := 8) (v := .ref q_t_ways) (C := RX8) (T := TX8) (N := 37) hx hb hts hinX8 hown hK.1 hP 0 rfl rfl 10 (by decide) hk41 (fun _ h9 => h9) rfl dX8_setWay_36 ?_
    refine lv_iload_n hx hb dX8_setWay_39 rfl (lv_at hl 2 rfl) ?_
    refine lv_iload_n hx hb dX8_setWay_40 rfl (lv_at hl 3 rfl) ?_
    refine jww1 69 (fun (y4 : Int32) => [.int y4, .int p1, .ref q_t_ways]) (fun (y4 : Int32) H locs ls => va_P D vwCl [(q_t, oX8 q_t_shelf q_t_rowSort q_t_rowSize q_t_rows q_t_moved q_t_shown q_t_tape v_t_tapeSize q_t_refused v_t_places q_t_ways v_t_people q_t_kind q_t_by q_t_home q_t_aim q_t_at0 v_t_hour v_t_chance v_t_seed w_t_kept w_t_tried v_t_at v_t_token v_t_from v_t_figures v_t_fault q_t_told v_t_statements q_t_steps q_t_spot q_t_then v_t_now v_t_gone q_t_sights q_t_darkAt q_t_can), (q_t_ways, .inl (cy 0, 12, .inl (upd v_t_ways p0.toNatClampNeg y1)))] H ∧ va_D A [(q_t, oX8 q_t_shelf q_t_rowSort q_t_rowSize q_t_rows q_t_moved q_t_shown q_t_tape v_t_tapeSize q_t_refused v_t_places q_t_ways v_t_people q_t_kind q_t_by q_t_home q_t_aim q_t_at0 v_t_hour v_t_chance v_t_seed w_t_kept w_t_tried v_t_at v_t_token v_t_from v_t_figures v_t_fault q_t_told v_t_statements q_t_steps q_t_spot q_t_then v_t_now v_t_gone q_t_sights q_t_darkAt q_t_can), (q_t_ways, .inl (cy 0, 12, .inl (upd v_t_ways p0.toNatClampNeg y1)))] ∧ va_S A s.heap H locs ∧ lv_has ls 4 []) hf (fun y4 H locs ls hI hf => ?_) (fun k5 J69 hf => ?_)
    · obtain ⟨hP, hD, hS, hl⟩ := hI
      obtain ⟨hi6, hf⟩ := ckE hf
      refine va_iast hx hb hK.1 hP hD hS 1 0 rfl rfl hi6 dX8_setWay_69 (fun H locs hP hD hS => ?_)
      have hP : va_P D vwCl [(q_t, oX8 q_t_shelf q_t_rowSort q_t_rowSize q_t_rows q_t_moved q_t_shown q_t_tape v_t_tapeSize q_t_refused v_t_places q_t_ways v_t_people q_t_kind q_t_by q_t_home q_t_aim q_t_at0 v_t_hour v_t_chance v_t_seed w_t_kept w_t_tried v_t_at v_t_token v_t_from v_t_figures v_t_fault q_t_told v_t_statements q_t_steps q_t_spot q_t_then v_t_now v_t_gone q_t_sights q_t_darkAt q_t_can), (q_t_ways, .inl (cy 0, 12, .inl (upd (upd v_t_ways p0.toNatClampNeg y1) p1.toNatClampNeg y4)))] H := hP
      have hD : va_D A [(q_t, oX8 q_t_shelf q_t_rowSort q_t_rowSize q_t_rows q_t_moved q_t_shown q_t_tape v_t_tapeSize q_t_refused v_t_places q_t_ways v_t_people q_t_kind q_t_by q_t_home q_t_aim q_t_at0 v_t_hour v_t_chance v_t_seed w_t_kept w_t_tried v_t_at v_t_token v_t_from v_t_figures v_t_fault q_t_told v_t_statements q_t_steps q_t_spot q_t_then v_t_now v_t_gone q_t_sights q_t_darkAt q_t_can), (q_t_ways, .inl (cy 0, 12, .inl (upd (upd v_t_ways p0.toNatClampNeg y1) p1.toNatClampNeg y4)))] := hD
      cases hf
      exact W.vret hx hb hr (fun t ht hW => ⟨⟨(), rfl, trivial, xend ht hP⟩, hS.F ht⟩) hS.2.2 dX8_setWay_70
    · refine lv_if_eq (tgt := 57) hx hb dX8_setWay_41 (by decide) (fun c9 => ?_) (fun c9 => ?_)
      · have hf := ifT hf c9
        clear c9
        refine lv_aload_n hx hb dX8_setWay_57 rfl (lv_at hl 0 rfl) ?_
        refine va_get (D := D) (ci := 8) (v := .ref q_t_ways) (C := RX8) (T := TX8) (N := 37) hx hb hts hinX8 hown hK.1 hP 0 rfl rfl 10 (by decide) hk41 (fun _ h9 => h9) rfl dX8_setWay_58 ?_
        refine lv_iload_n hx hb dX8_setWay_61 rfl (lv_at hl 2 rfl) ?_
        obtain ⟨hi7, hf⟩ := ckE hf
        refine va_iald hx hb hK.1 hP 1 0 rfl rfl hi7 dX8_setWay_62 ?_
        refine lv_iconst (v := 1) hx hb dX8_setWay_63 (by decide) ?_
        refine lv_iload_n hx hb dX8_setWay_64 rfl (lv_at hl 1 rfl) ?_
        refine lv_ishl hx hb dX8_setWay_65 ?_
        refine lv_iconst (v := (-1)) hx hb dX8_setWay_66 (by decide) ?_
        refine lv_ixor hx hb dX8_setWay_67 ?_
        refine lv_iand hx hb dX8_setWay_68 ?_
        exact J69 (((upd v_t_ways p0.toNatClampNeg y1) p1.toNatClampNeg) &&& (((1 : Int32) <<< (p0 &&& 31)) ^^^ (-1 : Int32))) _ _ ls ⟨hP, hD, hS, lv_sub hl [] rfl⟩ hf
      · have hf := ifF hf c9
        clear c9
        refine lv_aload_n hx hb dX8_setWay_44 rfl (lv_at hl 0 rfl) ?_
        refine va_get (D := D) (ci := 8) (v := .ref q_t_ways) (C := RX8) (T := TX8) (N := 37) hx hb hts hinX8 hown hK.1 hP 0 rfl rfl 10 (by decide) hk41 (fun _ h9 => h9) rfl dX8_setWay_45 ?_
        refine lv_iload_n hx hb dX8_setWay_48 rfl (lv_at hl 2 rfl) ?_
        obtain ⟨hi8, hf⟩ := ckE hf
        refine va_iald hx hb hK.1 hP 1 0 rfl rfl hi8 dX8_setWay_49 ?_
        refine lv_iconst (v := 1) hx hb dX8_setWay_50 (by decide) ?_
        refine lv_iload_n hx hb dX8_setWay_51 rfl (lv_at hl 1 rfl) ?_
        refine lv_ishl hx hb dX8_setWay_52 ?_
        refine lv_ior hx hb dX8_setWay_53 ?_
        refine lv_goto (tgt := 69) hx hb dX8_setWay_54 (by decide) ?_
        exact J69 (((upd v_t_ways p0.toNatClampNeg y1) p1.toNatClampNeg) ||| ((1 : Int32) <<< (p0 &&& 31))) _ _ ls ⟨hP, hD, hS, lv_sub hl [] rfl⟩ hf
  · refine lv_if_eq (tgt := 22) hx hb dX8_setWay_6 (by decide) (fun c12 => ?_) (fun c12 => ?_)
    · have hf := ifT hf c12
      clear c12
      refine lv_aload_n hx hb dX8_setWay_22 rfl (lv_at hl 0 rfl) ?_
      refine va_get (D := D) (ci := 8) (v := .ref q_t_ways) (C := RX8) (T := TX8) (N := 37) hx hb hts hinX8 hown hK.1 hP 0 rfl rfl 10 (by decide) hk41 (fun _ h9 => h9) rfl dX8_setWay_23 ?_
      refine lv_iload_n hx hb dX8_setWay_26 rfl (lv_at hl 1 rfl) ?_
      obtain ⟨hi10, hf⟩ := ckE hf
      refine va_iald hx hb hK.1 hP 1 0 rfl rfl hi10 dX8_setWay_27 ?_
      refine lv_iconst (v := 1) hx hb dX8_setWay_28 (by decide) ?_
      refine lv_iload_n hx hb dX8_setWay_29 rfl (lv_at hl 2 rfl) ?_
      refine lv_ishl hx hb dX8_setWay_30 ?_
      refine lv_iconst (v := (-1)) hx hb dX8_setWay_31 (by decide) ?_
      refine lv_ixor hx hb dX8_setWay_32 ?_
      refine lv_iand hx hb dX8_setWay_33 ?_
      exact J34 ((v_t_ways p0.toNatClampNeg) &&& (((1 : Int32) <<< (p1 &&& 31)) ^^^ (-1 : Int32))) _ _ ls ⟨hP, hD, hS, lv_sub hl [0, 1, 2, 3] rfl⟩ hf
    · have hf := ifF hf c12
      clear c12
      refine lv_aload_n hx hb dX8_setWay_9 rfl (lv_at hl 0 rfl) ?_
      refine va_get (D := D) (ci := 8) (v := .ref q_t_ways) (C := RX8) (T := TX8) (N := 37) hx hb hts hinX8 hown hK.1 hP 0 rfl rfl 10 (by decide) hk41 (fun _ h9 => h9) rfl dX8_setWay_10 ?_
      refine lv_iload_n hx hb dX8_setWay_13 rfl (lv_at hl 1 rfl) ?_
      obtain ⟨hi11, hf⟩ := ckE hf
      refine va_iald hx hb hK.1 hP 1 0 rfl rfl hi11 dX8_setWay_14 ?_
      refine lv_iconst (v := 1) hx hb dX8_setWay_15 (by decide) ?_
      refine lv_iload_n hx hb dX8_setWay_16 rfl (lv_at hl 2 rfl) ?_
      refine lv_ishl hx hb dX8_setWay_17 ?_
      refine lv_ior hx hb dX8_setWay_18 ?_
      refine lv_goto (tgt := 34) hx hb dX8_setWay_19 (by decide) ?_
      exact J34 ((v_t_ways p0.toNatClampNeg) ||| ((1 : Int32) <<< (p1 &&& 31))) _ _ ls ⟨hP, hD, hS, lv_sub hl [0, 1, 2, 3] rfl⟩ hf
def fX8_addPerson (v_t_people : Int32) (v_t_kind : Nat → Int32) (v_t_by : Nat → Int32) (v_t_home : Nat → Int32) (v_t_aim : Nat → Int32) (v_t_at0 : Nat → Int32) (p0 : Int32) (p1 : Int32) (p2 : Int32) (p3 : Int32) : Option (Int32 × (Nat → Int32) × (Nat → Int32) × (Nat → Int32) × (Nat → Int32) × (Nat → Int32)) :=
  if v_t_people < 0 ∨ 8 ≤ v_t_people.toNatClampNeg then none else
  if v_t_people < 0 ∨ 8 ≤ v_t_people.toNatClampNeg then none else
  if v_t_people < 0 ∨ 8 ≤ v_t_people.toNatClampNeg then none else
  if v_t_people < 0 ∨ 8 ≤ v_t_people.toNatClampNeg then none else
  if v_t_people < 0 ∨ 8 ≤ v_t_people.toNatClampNeg then none else
  some (v_t_people + (1 : Int32), upd v_t_kind v_t_people.toNatClampNeg p0, upd v_t_by v_t_people.toNatClampNeg p1, upd v_t_home v_t_people.toNatClampNeg p2, upd v_t_aim v_t_people.toNatClampNeg p3, upd v_t_at0 v_t_people.toNatClampNeg p2)
set_option maxHeartbeats 4000000 in
set_option maxRecDepth 100000 in
theorem mX8_addPerson (l : Launch) (D : va_G) (cy : Nat → ClassId) (q_t q_t_shelf q_t_rowSort q_t_rowSize q_t_rows q_t_moved q_t_shown q_t_tape q_t_refused q_t_ways q_t_kind q_t_by q_t_home q_t_aim q_t_at0 q_t_told q_t_steps q_t_spot q_t_then q_t_sights q_t_darkAt q_t_can : Nat) (v_t_tapeSize : Int32) (v_t_places : Int32) (v_t_people : Int32) (v_t_hour : Int32) (v_t_chance : Int32) (v_t_seed : Int32) (w_t_kept : Value) (w_t_tried : Value) (v_t_at : Int32) (v_t_token : Int32) (v_t_from : Int32) (v_t_figures : Int32) (v_t_fault : Int32) (v_t_statements : Int32) (v_t_now : Int32) (v_t_gone : Int32) (v_t_kind : Nat → Int32) (v_t_by : Nat → Int32) (v_t_home : Nat → Int32) (v_t_aim : Nat → Int32) (v_t_at0 : Nat → Int32) (sz : Nat) (p0 : Int32) (p1 : Int32) (p2 : Int32) (p3 : Int32) {n_t_people : Int32} {n_t_kind : Nat → Int32} {n_t_by : Nat → Int32} {n_t_home : Nat → Int32} {n_t_aim : Nat → Int32} {n_t_at0 : Nat → Int32} (hf : fX8_addPerson v_t_people v_t_kind v_t_by v_t_home v_t_aim v_t_at0 p0 p1 p2 p3 = some (n_t_people, n_t_kind, n_t_by, n_t_home, n_t_aim, n_t_at0)) : Met l yX8_addPerson wsX8_addPerson ({ frames := 0, cells := 0, slots := 0, locals := 0 }) (va_Pc [.ref q_t, .int p0, .int p1, .int p2, .int p3] (fun U => U.heap.size = sz ∧ va_P D vwCl [(q_t, oX8 q_t_shelf q_t_rowSort q_t_rowSize q_t_rows q_t_moved q_t_shown q_t_tape v_t_tapeSize q_t_refused v_t_places q_t_ways v_t_people q_t_kind q_t_by q_t_home q_t_aim q_t_at0 v_t_hour v_t_chance v_t_seed w_t_kept w_t_tried v_t_at v_t_token v_t_from v_t_figures v_t_fault q_t_told v_t_statements q_t_steps q_t_spot q_t_then v_t_now v_t_gone q_t_sights q_t_darkAt q_t_can), (q_t_kind, .inl (cy 0, 8, .inl v_t_kind)), (q_t_by, .inl (cy 0, 8, .inl v_t_by)), (q_t_home, .inl (cy 0, 8, .inl v_t_home)), (q_t_aim, .inl (cy 0, 8, .inl v_t_aim)), (q_t_at0, .inl (cy 0, 8, .inl v_t_at0))] U.heap ∧ xK D cy U ∧ va_D (fun _ => True) [(q_t, oX8 q_t_shelf q_t_rowSort q_t_rowSize q_t_rows q_t_moved q_t_shown q_t_tape v_t_tapeSize q_t_refused v_t_places q_t_ways v_t_people q_t_kind q_t_by q_t_home q_t_aim q_t_at0 v_t_hour v_t_chance v_t_seed w_t_kept w_t_tried v_t_at v_t_token v_t_from v_t_figures v_t_fault q_t_told v_t_statements q_t_steps q_t_spot q_t_then v_t_now v_t_gone q_t_sights q_t_darkAt q_t_can), (q_t_kind, .inl (cy 0, 8, .inl v_t_kind)), (q_t_by, .inl (cy 0, 8, .inl v_t_by)), (q_t_home, .inl (cy 0, 8, .inl v_t_home)), (q_t_aim, .inl (cy 0, 8, .inl v_t_aim)), (q_t_at0, .inl (cy 0, 8, .inl v_t_at0))])) (va_Qv (fun (_ : Unit) => True) (fun _ t => va_P D vwCl [(q_t, oX8 q_t_shelf q_t_rowSort q_t_rowSize q_t_rows q_t_moved q_t_shown q_t_tape v_t_tapeSize q_t_refused v_t_places q_t_ways n_t_people q_t_kind q_t_by q_t_home q_t_aim q_t_at0 v_t_hour v_t_chance v_t_seed w_t_kept w_t_tried v_t_at v_t_token v_t_from v_t_figures v_t_fault q_t_told v_t_statements q_t_steps q_t_spot q_t_then v_t_now v_t_gone q_t_sights q_t_darkAt q_t_can), (q_t_kind, .inl (cy 0, 8, .inl n_t_kind)), (q_t_by, .inl (cy 0, 8, .inl n_t_by)), (q_t_home, .inl (cy 0, 8, .inl n_t_home)), (q_t_aim, .inl (cy 0, 8, .inl n_t_aim)), (q_t_at0, .inl (cy 0, 8, .inl n_t_at0))] t.heap) (va_A [(q_t, oX8 q_t_shelf q_t_rowSort q_t_rowSize q_t_rows q_t_moved q_t_shown q_t_tape v_t_tapeSize q_t_refused v_t_places q_t_ways v_t_people q_t_kind q_t_by q_t_home q_t_aim q_t_at0 v_t_hour v_t_chance v_t_seed w_t_kept w_t_tried v_t_at v_t_token v_t_from v_t_figures v_t_fault q_t_told v_t_statements q_t_steps q_t_spot q_t_then v_t_now v_t_gone q_t_sights q_t_darkAt q_t_can), (q_t_kind, .inl (cy 0, 8, .inl v_t_kind)), (q_t_by, .inl (cy 0, 8, .inl v_t_by)), (q_t_home, .inl (cy 0, 8, .inl v_t_home)), (q_t_aim, .inl (cy 0, 8, .inl v_t_aim)), (q_t_at0, .inl (cy 0, 8, .inl v_t_at0))] sz)) 0 0 (va_A [(q_t, oX8 q_t_shelf q_t_rowSort q_t_rowSize q_t_rows q_t_moved q_t_shown q_t_tape v_t_tapeSize q_t_refused v_t_places q_t_ways v_t_people q_t_kind q_t_by q_t_home q_t_aim q_t_at0 v_t_hour v_t_chance v_t_seed w_t_kept w_t_tried v_t_at v_t_token v_t_from v_t_figures v_t_fault q_t_told v_t_statements q_t_steps q_t_spot q_t_then v_t_now v_t_gone q_t_sights q_t_darkAt q_t_can), (q_t_kind, .inl (cy 0, 8, .inl v_t_kind)), (q_t_by, .inl (cy 0, 8, .inl v_t_by)), (q_t_home, .inl (cy 0, 8, .inl v_t_home)), (q_t_aim, .inl (cy 0, 8, .inl v_t_aim)), (q_t_at0, .inl (cy 0, 8, .inl v_t_at0))] sz) := by
  refine Met.ofW (cc := cX8_addPerson) (maxL := 5) (ret := none) (by decide) rfl ?_
  intro p e s m args below meth c s₁ B hml hv
  obtain ⟨rfl, hsz, hP, hK, hD0⟩ := hv
  have hx := B.exec
  have hb := B.bytes
  have hr := B.returns
  have hts := atoms_spec (ws := wsX8_addPerson) B.pre
  have hown : s.vm.findClass RX8 = some m.cls := findClass_of_methodNamed B.named
  have hlocks := B.notSynchronized
  subst hsz
  have hD := hD0.self (sz := s.heap.size)
  generalize hAe : va_A [(q_t, oX8 q_t_shelf q_t_rowSort q_t_rowSize q_t_rows q_t_moved q_t_shown q_t_tape v_t_tapeSize q_t_refused v_t_places q_t_ways v_t_people q_t_kind q_t_by q_t_home q_t_aim q_t_at0 v_t_hour v_t_chance v_t_seed w_t_kept w_t_tried v_t_at v_t_token v_t_from v_t_figures v_t_fault q_t_told v_t_statements q_t_steps q_t_spot q_t_then v_t_now v_t_gone q_t_sights q_t_darkAt q_t_can), (q_t_kind, .inl (cy 0, 8, .inl v_t_kind)), (q_t_by, .inl (cy 0, 8, .inl v_t_by)), (q_t_home, .inl (cy 0, 8, .inl v_t_home)), (q_t_aim, .inl (cy 0, 8, .inl v_t_aim)), (q_t_at0, .inl (cy 0, 8, .inl v_t_at0))] s.heap.size = A at hD ⊢
  have hA : ∀ q : Nat, s.heap.size ≤ q → A q := fun q h => by rw [← hAe]; exact Or.inr h
  have hS : va_S A s.heap s.heap [] := va_S.rf
  have hP : va_P D vwCl [(q_t, oX8 q_t_shelf q_t_rowSort q_t_rowSize q_t_rows q_t_moved q_t_shown q_t_tape v_t_tapeSize q_t_refused v_t_places q_t_ways v_t_people q_t_kind q_t_by q_t_home q_t_aim q_t_at0 v_t_hour v_t_chance v_t_seed w_t_kept w_t_tried v_t_at v_t_token v_t_from v_t_figures v_t_fault q_t_told v_t_statements q_t_steps q_t_spot q_t_then v_t_now v_t_gone q_t_sights q_t_darkAt q_t_can), (q_t_kind, .inl (cy 0, 8, .inl v_t_kind)), (q_t_by, .inl (cy 0, 8, .inl v_t_by)), (q_t_home, .inl (cy 0, 8, .inl v_t_home)), (q_t_aim, .inl (cy 0, 8, .inl v_t_aim)), (q_t_at0, .inl (cy 0, 8, .inl v_t_at0))] s.heap := hP
  have hinX8 : ∀ w ∈ u_ws RX8 TX8 37, w ∈ wsX8_addPerson := by decide +kernel
  have hk44 := hts (.fieldLink RX8 44 "ShowsWhereNobodyIsModel" "kind" "[I") (by decide +kernel)
  have hk95 := hts (.fieldLink RX8 95 "ShowsWhereNobodyIsModel" "people" "I") (by decide +kernel)
  have hk47 := hts (.fieldLink RX8 47 "ShowsWhereNobodyIsModel" "by" "[I") (by decide +kernel)
  have hk50 := hts (.fieldLink RX8 50 "ShowsWhereNobodyIsModel" "home" "[I") (by decide +kernel)
  have hk53 := hts (.fieldLink RX8 53 "ShowsWhereNobodyIsModel" "aim" "[I") (by decide +kernel)
  have hk56 := hts (.fieldLink RX8 56 "ShowsWhereNobodyIsModel" "at0" "[I") (by decide +kernel)
  have hl := lv_entry ([.ref q_t, .int p0, .int p1, .int p2, .int p3]) (n := 5) (Nat.le_of_ble_eq_true rfl)
  rw [lg_entry_eq]
  generalize (lg_sl ([.ref q_t, .int p0, .int p1, .int p2, .int p3]) ++ List.replicate (5 - (lg_sl ([.ref q_t, .int p0, .int p1, .int p2, .int p3])).length) Slot.unset).toArray = ls at hl ⊢
  have hl : lv_has ls 5 [(0, .ref q_t), (1, .int p0), (2, .int p1), (3, .int p2), (4, .int p3)] := hl
  unfold fX8_addPerson at hf
  refine lv_aload_n hx hb dX8_addPerson_0 rfl (lv_at hl 0 rfl) ?_
  refine va_get (D := D) (ci := 8) (v := .ref q_t_kind) (C := RX8) (T := TX8) (N := 37) hx hb hts hinX8 hown hK.1 hP 0 rfl rfl 12 (by decide) hk44 (fun _ h9 => h9) rfl dX8_addPerson_1 ?_
  refine lv_aload_n hx hb dX8_addPerson_4 rfl (lv_at hl 0 rfl) ?_
  refine va_get (D := D) (ci := 8) (v := .int v_t_people) (C := RX8) (T := TX8) (N := 37) hx hb hts hinX8 hown hK.1 hP 0 rfl rfl 11 (by decide) hk95 (fun _ h9 => h9) rfl dX8_addPerson_5 ?_
  refine lv_iload_n hx hb dX8_addPerson_8 rfl (lv_at hl 1 rfl) ?_
  obtain ⟨hi1, hf⟩ := ckE hf
  refine va_iast hx hb hK.1 hP hD hS 1 0 rfl rfl hi1 dX8_addPerson_9 (fun H locs hP hD hS => ?_)
  have hP : va_P D vwCl [(q_t, oX8 q_t_shelf q_t_rowSort q_t_rowSize q_t_rows q_t_moved q_t_shown q_t_tape v_t_tapeSize q_t_refused v_t_places q_t_ways v_t_people q_t_kind q_t_by q_t_home q_t_aim q_t_at0 v_t_hour v_t_chance v_t_seed w_t_kept w_t_tried v_t_at v_t_token v_t_from v_t_figures v_t_fault q_t_told v_t_statements q_t_steps q_t_spot q_t_then v_t_now v_t_gone q_t_sights q_t_darkAt q_t_can), (q_t_kind, .inl (cy 0, 8, .inl (upd v_t_kind v_t_people.toNatClampNeg p0))), (q_t_by, .inl (cy 0, 8, .inl v_t_by)), (q_t_home, .inl (cy 0, 8, .inl v_t_home)), (q_t_aim, .inl (cy 0, 8, .inl v_t_aim)), (q_t_at0, .inl (cy 0, 8, .inl v_t_at0))] H := hP
  have hD : va_D A [(q_t, oX8 q_t_shelf q_t_rowSort q_t_rowSize q_t_rows q_t_moved q_t_shown q_t_tape v_t_tapeSize q_t_refused v_t_places q_t_ways v_t_people q_t_kind q_t_by q_t_home q_t_aim q_t_at0 v_t_hour v_t_chance v_t_seed w_t_kept w_t_tried v_t_at v_t_token v_t_from v_t_figures v_t_fault q_t_told v_t_statements q_t_steps q_t_spot q_t_then v_t_now v_t_gone q_t_sights q_t_darkAt q_t_can), (q_t_kind, .inl (cy 0, 8, .inl (upd v_t_kind v_t_people.toNatClampNeg p0))), (q_t_by, .inl (cy 0, 8, .inl v_t_by)), (q_t_home, .inl (cy 0, 8, .inl v_t_home)), (q_t_aim, .inl (cy 0, 8, .inl v_t_aim)), (q_t_at0, .inl (cy 0, 8, .inl v_t_at0))] := hD
  refine lv_aload_n hx hb dX8_addPerson_10 rfl (lv_at hl 0 rfl) ?_
  refine va_get (D := D) (ci := 8) (v := .ref q_t_by) (C := RX8) (T := TX8) (N := 37) hx hb hts hinX8 hown hK.1 hP 0 rfl rfl 13 (by decide) hk47 (fun _ h9 => h9) rfl dX8_addPerson_11 ?_
  refine lv_aload_n hx hb dX8_addPerson_14 rfl (lv_at hl 0 rfl) ?_
  refine va_get (D := D) (ci := 8) (v := .int v_t_people) (C := RX8) (T := TX8) (N := 37) hx hb hts hinX8 hown hK.1 hP 0 rfl rfl 11 (by decide) hk95 (fun _ h9 => h9) rfl dX8_addPerson_15 ?_
  refine lv_iload_n hx hb dX8_addPerson_18 rfl (lv_at hl 2 rfl) ?_
  obtain ⟨hi2, hf⟩ := ckE hf
  refine va_iast hx hb hK.1 hP hD hS 2 0 rfl rfl hi2 dX8_addPerson_19 (fun H locs hP hD hS => ?_)
  have hP : va_P D vwCl [(q_t, oX8 q_t_shelf q_t_rowSort q_t_rowSize q_t_rows q_t_moved q_t_shown q_t_tape v_t_tapeSize q_t_refused v_t_places q_t_ways v_t_people q_t_kind q_t_by q_t_home q_t_aim q_t_at0 v_t_hour v_t_chance v_t_seed w_t_kept w_t_tried v_t_at v_t_token v_t_from v_t_figures v_t_fault q_t_told v_t_statements q_t_steps q_t_spot q_t_then v_t_now v_t_gone q_t_sights q_t_darkAt q_t_can), (q_t_kind, .inl (cy 0, 8, .inl (upd v_t_kind v_t_people.toNatClampNeg p0))), (q_t_by, .inl (cy 0, 8, .inl (upd v_t_by v_t_people.toNatClampNeg p1))), (q_t_home, .inl (cy 0, 8, .inl v_t_home)), (q_t_aim, .inl (cy 0, 8, .inl v_t_aim)), (q_t_at0, .inl (cy 0, 8, .inl v_t_at0))] H := hP
  have hD : va_D A [(q_t, oX8 q_t_shelf q_t_rowSort q_t_rowSize q_t_rows q_t_moved q_t_shown q_t_tape v_t_tapeSize q_t_refused v_t_places q_t_ways v_t_people q_t_kind q_t_by q_t_home q_t_aim q_t_at0 v_t_hour v_t_chance v_t_seed w_t_kept w_t_tried v_t_at v_t_token v_t_from v_t_figures v_t_fault q_t_told v_t_statements q_t_steps q_t_spot q_t_then v_t_now v_t_gone q_t_sights q_t_darkAt q_t_can), (q_t_kind, .inl (cy 0, 8, .inl (upd v_t_kind v_t_people.toNatClampNeg p0))), (q_t_by, .inl (cy 0, 8, .inl (upd v_t_by v_t_people.toNatClampNeg p1))), (q_t_home, .inl (cy 0, 8, .inl v_t_home)), (q_t_aim, .inl (cy 0, 8, .inl v_t_aim)), (q_t_at0, .inl (cy 0, 8, .inl v_t_at0))] := hD
  refine lv_aload_n hx hb dX8_addPerson_20 rfl (lv_at hl 0 rfl) ?_
  refine va_get (D := D) (ci := 8) (v := .ref q_t_home) (C := RX8) (T := TX8) (N := 37) hx hb hts hinX8 hown hK.1 hP 0 rfl rfl 14 (by decide) hk50 (fun _ h9 => h9) rfl dX8_addPerson_21 ?_
  refine lv_aload_n hx hb dX8_addPerson_24 rfl (lv_at hl 0 rfl) ?_
  refine va_get (D := D) (ci := 8) (v := .int v_t_people) (C := RX8) (T := TX8) (N := 37) hx hb hts hinX8 hown hK.1 hP 0 rfl rfl 11 (by decide) hk95 (fun _ h9 => h9) rfl dX8_addPerson_25 ?_
  refine lv_iload_n hx hb dX8_addPerson_28 rfl (lv_at hl 3 rfl) ?_
  obtain ⟨hi3, hf⟩ := ckE hf
  refine va_iast hx hb hK.1 hP hD hS 3 0 rfl rfl hi3 dX8_addPerson_29 (fun H locs hP hD hS => ?_)
  have hP : va_P D vwCl [(q_t, oX8 q_t_shelf q_t_rowSort q_t_rowSize q_t_rows q_t_moved q_t_shown q_t_tape v_t_tapeSize q_t_refused v_t_places q_t_ways v_t_people q_t_kind q_t_by q_t_home q_t_aim q_t_at0 v_t_hour v_t_chance v_t_seed w_t_kept w_t_tried v_t_at v_t_token v_t_from v_t_figures v_t_fault q_t_told v_t_statements q_t_steps q_t_spot q_t_then v_t_now v_t_gone q_t_sights q_t_darkAt q_t_can), (q_t_kind, .inl (cy 0, 8, .inl (upd v_t_kind v_t_people.toNatClampNeg p0))), (q_t_by, .inl (cy 0, 8, .inl (upd v_t_by v_t_people.toNatClampNeg p1))), (q_t_home, .inl (cy 0, 8, .inl (upd v_t_home v_t_people.toNatClampNeg p2))), (q_t_aim, .inl (cy 0, 8, .inl v_t_aim)), (q_t_at0, .inl (cy 0, 8, .inl v_t_at0))] H := hP
  have hD : va_D A [(q_t, oX8 q_t_shelf q_t_rowSort q_t_rowSize q_t_rows q_t_moved q_t_shown q_t_tape v_t_tapeSize q_t_refused v_t_places q_t_ways v_t_people q_t_kind q_t_by q_t_home q_t_aim q_t_at0 v_t_hour v_t_chance v_t_seed w_t_kept w_t_tried v_t_at v_t_token v_t_from v_t_figures v_t_fault q_t_told v_t_statements q_t_steps q_t_spot q_t_then v_t_now v_t_gone q_t_sights q_t_darkAt q_t_can), (q_t_kind, .inl (cy 0, 8, .inl (upd v_t_kind v_t_people.toNatClampNeg p0))), (q_t_by, .inl (cy 0, 8, .inl (upd v_t_by v_t_people.toNatClampNeg p1))), (q_t_home, .inl (cy 0, 8, .inl (upd v_t_home v_t_people.toNatClampNeg p2))), (q_t_aim, .inl (cy 0, 8, .inl v_t_aim)), (q_t_at0, .inl (cy 0, 8, .inl v_t_at0))] := hD
  refine lv_aload_n hx hb dX8_addPerson_30 rfl (lv_at hl 0 rfl) ?_
  refine va_get (D := D) (ci := 8) (v := .ref q_t_aim) (C := RX8) (T := TX8) (N := 37) hx hb hts hinX8 hown hK.1 hP 0 rfl rfl 15 (by decide) hk53 (fun _ h9 => h9) rfl dX8_addPerson_31 ?_
  refine lv_aload_n hx hb dX8_addPerson_34 rfl (lv_at hl 0 rfl) ?_
  refine va_get (D := D) (ci := 8) (v := .int v_t_people) (C := RX8) (T := TX8) (N := 37) hx hb hts hinX8 hown hK.1 hP 0 rfl rfl 11 (by decide) hk95 (fun _ h9 => h9) rfl dX8_addPerson_35 ?_
  refine lv_iload hx hb dX8_addPerson_38 (lv_at hl 4 rfl) ?_
  obtain ⟨hi4, hf⟩ := ckE hf
  refine va_iast hx hb hK.1 hP hD hS 4 0 rfl rfl hi4 dX8_addPerson_40 (fun H locs hP hD hS => ?_)
  have hP : va_P D vwCl [(q_t, oX8 q_t_shelf q_t_rowSort q_t_rowSize q_t_rows q_t_moved q_t_shown q_t_tape v_t_tapeSize q_t_refused v_t_places q_t_ways v_t_people q_t_kind q_t_by q_t_home q_t_aim q_t_at0 v_t_hour v_t_chance v_t_seed w_t_kept w_t_tried v_t_at v_t_token v_t_from v_t_figures v_t_fault q_t_told v_t_statements q_t_steps q_t_spot q_t_then v_t_now v_t_gone q_t_sights q_t_darkAt q_t_can), (q_t_kind, .inl (cy 0, 8, .inl (upd v_t_kind v_t_people.toNatClampNeg p0))), (q_t_by, .inl (cy 0, 8, .inl (upd v_t_by v_t_people.toNatClampNeg p1))), (q_t_home, .inl (cy 0, 8, .inl (upd v_t_home v_t_people.toNatClampNeg p2))), (q_t_aim, .inl (cy 0, 8, .inl (upd v_t_aim v_t_people.toNatClampNeg p3))), (q_t_at0, .inl (cy 0, 8, .inl v_t_at0))] H := hP
  have hD : va_D A [(q_t, oX8 q_t_shelf q_t_rowSort q_t_rowSize q_t_rows q_t_moved q_t_shown q_t_tape v_t_tapeSize q_t_refused v_t_places q_t_ways v_t_people q_t_kind q_t_by q_t_home q_t_aim q_t_at0 v_t_hour v_t_chance v_t_seed w_t_kept w_t_tried v_t_at v_t_token v_t_from v_t_figures v_t_fault q_t_told v_t_statements q_t_steps q_t_spot q_t_then v_t_now v_t_gone q_t_sights q_t_darkAt q_t_can), (q_t_kind, .inl (cy 0, 8, .inl (upd v_t_kind v_t_people.toNatClampNeg p0))), (q_t_by, .inl (cy 0, 8, .inl (upd v_t_by v_t_people.toNatClampNeg p1))), (q_t_home, .inl (cy 0, 8, .inl (upd v_t_home v_t_people.toNatClampNeg p2))), (q_t_aim, .inl (cy 0, 8, .inl (upd v_t_aim v_t_people.toNatClampNeg p3))), (q_t_at0, .inl (cy 0, 8, .inl v_t_at0))] := hD
  refine lv_aload_n hx hb dX8_addPerson_41 rfl (lv_at hl 0 rfl) ?_
  refine va_get (D := D) (ci := 8) (v := .ref q_t_at0) (C := RX8) (T := TX8) (N := 37) hx hb hts hinX8 hown hK.1 hP 0 rfl rfl 16 (by decide) hk56 (fun _ h9 => h9) rfl dX8_addPerson_42 ?_
  refine lv_aload_n hx hb dX8_addPerson_45 rfl (lv_at hl 0 rfl) ?_
  refine va_get (D := D) (ci := 8) (v := .int v_t_people) (C := RX8) (T := TX8) (N := 37) hx hb hts hinX8 hown hK.1 hP 0 rfl rfl 11 (by decide) hk95 (fun _ h9 => h9) rfl dX8_addPerson_46 ?_
  refine lv_iload_n hx hb dX8_addPerson_49 rfl (lv_at hl 3 rfl) ?_
  obtain ⟨hi5, hf⟩ := ckE hf
  refine va_iast hx hb hK.1 hP hD hS 5 0 rfl rfl hi5 dX8_addPerson_50 (fun H locs hP hD hS => ?_)
  have hP : va_P D vwCl [(q_t, oX8 q_t_shelf q_t_rowSort q_t_rowSize q_t_rows q_t_moved q_t_shown q_t_tape v_t_tapeSize q_t_refused v_t_places q_t_ways v_t_people q_t_kind q_t_by q_t_home q_t_aim q_t_at0 v_t_hour v_t_chance v_t_seed w_t_kept w_t_tried v_t_at v_t_token v_t_from v_t_figures v_t_fault q_t_told v_t_statements q_t_steps q_t_spot q_t_then v_t_now v_t_gone q_t_sights q_t_darkAt q_t_can), (q_t_kind, .inl (cy 0, 8, .inl (upd v_t_kind v_t_people.toNatClampNeg p0))), (q_t_by, .inl (cy 0, 8, .inl (upd v_t_by v_t_people.toNatClampNeg p1))), (q_t_home, .inl (cy 0, 8, .inl (upd v_t_home v_t_people.toNatClampNeg p2))), (q_t_aim, .inl (cy 0, 8, .inl (upd v_t_aim v_t_people.toNatClampNeg p3))), (q_t_at0, .inl (cy 0, 8, .inl (upd v_t_at0 v_t_people.toNatClampNeg p2)))] H := hP
  have hD : va_D A [(q_t, oX8 q_t_shelf q_t_rowSort q_t_rowSize q_t_rows q_t_moved q_t_shown q_t_tape v_t_tapeSize q_t_refused v_t_places q_t_ways v_t_people q_t_kind q_t_by q_t_home q_t_aim q_t_at0 v_t_hour v_t_chance v_t_seed w_t_kept w_t_tried v_t_at v_t_token v_t_from v_t_figures v_t_fault q_t_told v_t_statements q_t_steps q_t_spot q_t_then v_t_now v_t_gone q_t_sights q_t_darkAt q_t_can), (q_t_kind, .inl (cy 0, 8, .inl (upd v_t_kind v_t_people.toNatClampNeg p0))), (q_t_by, .inl (cy 0, 8, .inl (upd v_t_by v_t_people.toNatClampNeg p1))), (q_t_home, .inl (cy 0, 8, .inl (upd v_t_home v_t_people.toNatClampNeg p2))), (q_t_aim, .inl (cy 0, 8, .inl (upd v_t_aim v_t_people.toNatClampNeg p3))), (q_t_at0, .inl (cy 0, 8, .inl (upd v_t_at0 v_t_people.toNatClampNeg p2)))] := hD
  refine lv_aload_n hx hb dX8_addPerson_51 rfl (lv_at hl 0 rfl) ?_
  refine lv_dup hx hb dX8_addPerson_52 rfl ?_
  refine va_get (D := D) (ci := 8) (v := .int v_t_people) (C := RX8) (T := TX8) (N := 37) hx hb hts hinX8 hown hK.1 hP 0 rfl rfl 11 (by decide) hk95 (fun _ h9 => h9) rfl dX8_addPerson_53 ?_
  refine lv_iconst (v := 1) hx hb dX8_addPerson_56 (by decide) ?_
  refine lv_iadd hx hb dX8_addPerson_57 ?_
  refine va_put (D := D) (ci := 8) (v := .int (v_t_people + (1 : Int32))) (ty := .int) (C := RX8) (T := TX8) (N := 37) hx hb hts hinX8 tyX8 tyX8_ok nmX8 hown hK.1 hP hD hS 0 rfl rfl 11 (by decide) hk95 (fun _ h9 => h9) rfl (by decide +kernel) rfl rfl (Nat.le_of_ble_eq_true rfl) dX8_addPerson_58 (fun H locs hP hD hS => ?_)
  have hP : va_P D vwCl [(q_t, oX8 q_t_shelf q_t_rowSort q_t_rowSize q_t_rows q_t_moved q_t_shown q_t_tape v_t_tapeSize q_t_refused v_t_places q_t_ways (v_t_people + (1 : Int32)) q_t_kind q_t_by q_t_home q_t_aim q_t_at0 v_t_hour v_t_chance v_t_seed w_t_kept w_t_tried v_t_at v_t_token v_t_from v_t_figures v_t_fault q_t_told v_t_statements q_t_steps q_t_spot q_t_then v_t_now v_t_gone q_t_sights q_t_darkAt q_t_can), (q_t_kind, .inl (cy 0, 8, .inl (upd v_t_kind v_t_people.toNatClampNeg p0))), (q_t_by, .inl (cy 0, 8, .inl (upd v_t_by v_t_people.toNatClampNeg p1))), (q_t_home, .inl (cy 0, 8, .inl (upd v_t_home v_t_people.toNatClampNeg p2))), (q_t_aim, .inl (cy 0, 8, .inl (upd v_t_aim v_t_people.toNatClampNeg p3))), (q_t_at0, .inl (cy 0, 8, .inl (upd v_t_at0 v_t_people.toNatClampNeg p2)))] H := hP
  have hD : va_D A [(q_t, oX8 q_t_shelf q_t_rowSort q_t_rowSize q_t_rows q_t_moved q_t_shown q_t_tape v_t_tapeSize q_t_refused v_t_places q_t_ways (v_t_people + (1 : Int32)) q_t_kind q_t_by q_t_home q_t_aim q_t_at0 v_t_hour v_t_chance v_t_seed w_t_kept w_t_tried v_t_at v_t_token v_t_from v_t_figures v_t_fault q_t_told v_t_statements q_t_steps q_t_spot q_t_then v_t_now v_t_gone q_t_sights q_t_darkAt q_t_can), (q_t_kind, .inl (cy 0, 8, .inl (upd v_t_kind v_t_people.toNatClampNeg p0))), (q_t_by, .inl (cy 0, 8, .inl (upd v_t_by v_t_people.toNatClampNeg p1))), (q_t_home, .inl (cy 0, 8, .inl (upd v_t_home v_t_people.toNatClampNeg p2))), (q_t_aim, .inl (cy 0, 8, .inl (upd v_t_aim v_t_people.toNatClampNeg p3))), (q_t_at0, .inl (cy 0, 8, .inl (upd v_t_at0 v_t_people.toNatClampNeg p2)))] := hD
  cases hf
  exact W.vret hx hb hr (fun t ht hW => ⟨⟨(), rfl, trivial, xend ht hP⟩, hS.F ht⟩) hS.2.2 dX8_addPerson_61
