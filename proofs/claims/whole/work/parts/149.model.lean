def fX8_hidden (v_t_places : Int32) (v_t_people : Int32) (v_t_hour : Int32) (v_t_now : Int32) (v_t_gone : Int32) (v_t_refused : Nat → Int32) (v_t_ways : Nat → Int32) (v_t_kind : Nat → Int32) (v_t_home : Nat → Int32) (v_t_aim : Nat → Int32) (v_t_at0 : Nat → Int32) (v_t_steps : Nat → Int32) (v_t_spot : Nat → Int32) (v_t_then : Nat → Int32) (v_t_darkAt : Nat → Int32) (v_t_can : Nat → Int32) (p0 : Int32) (p1 : Int32) (p2 : Int32) : Option (Int32 × Int32 × (Nat → Int32) × (Nat → Int32) × (Nat → Int32) × (Nat → Int32) × (Nat → Int32) × (Nat → Int32)) :=
  bo1 (fX8_isPlace v_t_places p0) fun r1 =>
  jo0 (
    bo2 (fX8_refuse v_t_refused (-2 : Int32)) fun r4 u5 =>
    some (r4, v_t_now, u5, v_t_steps, v_t_spot, v_t_then, v_t_darkAt, v_t_can)) fun k3 =>
  if r1 = 0 then
    k3
  else
    bo1 (fX8_isPlace v_t_places p1) fun r7 =>
    if r7 = 0 then
      k3
    else
      if (-1 : Int32) ≤ p2 then
        bo7 (fX8_hiddenHours v_t_places v_t_people v_t_hour v_t_gone v_t_ways v_t_kind v_t_home v_t_aim v_t_at0 v_t_steps v_t_spot v_t_then v_t_darkAt v_t_can p0 p1) fun r9 u10 u11 u12 u13 u14 u15 =>
        if p2 = (-1 : Int32) then
          some (r9, u10, v_t_refused, u11, u12, u13, u14, u15)
        else
          if p2 ≤ r9 then
            lo2 (fun g19 (x17 : Int32) (x18 : Int32) =>
              if p2 < x18 then
                some (x17, u10, v_t_refused, u11, u12, u13, u14, u15)
              else
                bo1 (fX8_besides v_t_places v_t_ways ((1 : Int32) <<< (x17 &&& 31))) fun r20 =>
                if x18 < 0 ∨ 25 ≤ x18.toNatClampNeg then none else
                vlet (r20 &&& (u15 x18.toNatClampNeg)) fun x23 =>
                lo1 (fun g25 (x24 : Int32) =>
                  if ((x23 >>> (x24 &&& 31)) &&& (1 : Int32)) = 0 then
                    vlet (x24 + (1 : Int32)) fun x27 =>
                    g25 x27
                  else
                    vlet (x18 + (1 : Int32)) fun x26 =>
                    g19 x24 x26) 400 (0 : Int32)) 400 p0 (1 : Int32)
          else
            bo2 (fX8_refuse v_t_refused (-5 : Int32)) fun r30 u31 =>
            some (r30, u10, u31, u11, u12, u13, u14, u15)
      else
        k3
set_option maxHeartbeats 4000000 in
set_option maxRecDepth 100000 in
theorem mX8_hidden (l : Launch) (D : va_G) (cy : Nat → ClassId) (q_t q_t_shelf q_t_rowSort q_t_rowSize q_t_rows q_t_moved q_t_shown q_t_tape q_t_refused q_t_ways q_t_kind q_t_by q_t_home q_t_aim q_t_at0 q_t_told q_t_steps q_t_spot q_t_then q_t_sights q_t_darkAt q_t_can : Nat) (v_t_tapeSize : Int32) (v_t_places : Int32) (v_t_people : Int32) (v_t_hour : Int32) (v_t_chance : Int32) (v_t_seed : Int32) (w_t_kept : Value) (w_t_tried : Value) (v_t_at : Int32) (v_t_token : Int32) (v_t_from : Int32) (v_t_figures : Int32) (v_t_fault : Int32) (v_t_statements : Int32) (v_t_now : Int32) (v_t_gone : Int32) (v_t_refused : Nat → Int32) (v_t_ways : Nat → Int32) (v_t_kind : Nat → Int32) (v_t_home : Nat → Int32) (v_t_aim : Nat → Int32) (v_t_at0 : Nat → Int32) (v_t_steps : Nat → Int32) (v_t_spot : Nat → Int32) (v_t_then : Nat → Int32) (v_t_darkAt : Nat → Int32) (v_t_can : Nat → Int32) (sz : Nat) (p0 : Int32) (p1 : Int32) (p2 : Int32) {r_ : Int32} {n_t_now : Int32} {n_t_refused : Nat → Int32} {n_t_steps : Nat → Int32} {n_t_spot : Nat → Int32} {n_t_then : Nat → Int32} {n_t_darkAt : Nat → Int32} {n_t_can : Nat → Int32} (hf : fX8_hidden v_t_places v_t_people v_t_hour v_t_now v_t_gone v_t_refused v_t_ways v_t_kind v_t_home v_t_aim v_t_at0 v_t_steps v_t_spot v_t_then v_t_darkAt v_t_can p0 p1 p2 = some (r_, n_t_now, n_t_refused, n_t_steps, n_t_spot, n_t_then, n_t_darkAt, n_t_can)) : Met l yX8_hidden wsX8_hidden ({ frames := 5, cells := 0, slots := 0, locals := 115 }) (va_Pc [.ref q_t, .int p0, .int p1, .int p2] (fun U => U.heap.size = sz ∧ va_P D vwCl [(q_t, oX8 q_t_shelf q_t_rowSort q_t_rowSize q_t_rows q_t_moved q_t_shown q_t_tape v_t_tapeSize q_t_refused v_t_places q_t_ways v_t_people q_t_kind q_t_by q_t_home q_t_aim q_t_at0 v_t_hour v_t_chance v_t_seed w_t_kept w_t_tried v_t_at v_t_token v_t_from v_t_figures v_t_fault q_t_told v_t_statements q_t_steps q_t_spot q_t_then v_t_now v_t_gone q_t_sights q_t_darkAt q_t_can), (q_t_refused, .inl (cy 0, 8, .inl v_t_refused)), (q_t_ways, .inl (cy 0, 12, .inl v_t_ways)), (q_t_kind, .inl (cy 0, 8, .inl v_t_kind)), (q_t_home, .inl (cy 0, 8, .inl v_t_home)), (q_t_aim, .inl (cy 0, 8, .inl v_t_aim)), (q_t_at0, .inl (cy 0, 8, .inl v_t_at0)), (q_t_steps, .inl (cy 0, 12, .inl v_t_steps)), (q_t_spot, .inl (cy 0, 8, .inl v_t_spot)), (q_t_then, .inl (cy 0, 8, .inl v_t_then)), (q_t_darkAt, .inl (cy 0, 25, .inl v_t_darkAt)), (q_t_can, .inl (cy 0, 25, .inl v_t_can))] U.heap ∧ xK D cy U ∧ va_D (fun _ => True) [(q_t, oX8 q_t_shelf q_t_rowSort q_t_rowSize q_t_rows q_t_moved q_t_shown q_t_tape v_t_tapeSize q_t_refused v_t_places q_t_ways v_t_people q_t_kind q_t_by q_t_home q_t_aim q_t_at0 v_t_hour v_t_chance v_t_seed w_t_kept w_t_tried v_t_at v_t_token v_t_from v_t_figures v_t_fault q_t_told v_t_statements q_t_steps q_t_spot q_t_then v_t_now v_t_gone q_t_sights q_t_darkAt q_t_can), (q_t_refused, .inl (cy 0, 8, .inl v_t_refused)), (q_t_ways, .inl (cy 0, 12, .inl v_t_ways)), (q_t_kind, .inl (cy 0, 8, .inl v_t_kind)), (q_t_home, .inl (cy 0, 8, .inl v_t_home)), (q_t_aim, .inl (cy 0, 8, .inl v_t_aim)), (q_t_at0, .inl (cy 0, 8, .inl v_t_at0)), (q_t_steps, .inl (cy 0, 12, .inl v_t_steps)), (q_t_spot, .inl (cy 0, 8, .inl v_t_spot)), (q_t_then, .inl (cy 0, 8, .inl v_t_then)), (q_t_darkAt, .inl (cy 0, 25, .inl v_t_darkAt)), (q_t_can, .inl (cy 0, 25, .inl v_t_can))])) (va_Qi (fun (x : Int32) (_ : Unit) => x = r_) (fun _ t => va_P D vwCl [(q_t, oX8 q_t_shelf q_t_rowSort q_t_rowSize q_t_rows q_t_moved q_t_shown q_t_tape v_t_tapeSize q_t_refused v_t_places q_t_ways v_t_people q_t_kind q_t_by q_t_home q_t_aim q_t_at0 v_t_hour v_t_chance v_t_seed w_t_kept w_t_tried v_t_at v_t_token v_t_from v_t_figures v_t_fault q_t_told v_t_statements q_t_steps q_t_spot q_t_then n_t_now v_t_gone q_t_sights q_t_darkAt q_t_can), (q_t_refused, .inl (cy 0, 8, .inl n_t_refused)), (q_t_ways, .inl (cy 0, 12, .inl v_t_ways)), (q_t_kind, .inl (cy 0, 8, .inl v_t_kind)), (q_t_home, .inl (cy 0, 8, .inl v_t_home)), (q_t_aim, .inl (cy 0, 8, .inl v_t_aim)), (q_t_at0, .inl (cy 0, 8, .inl v_t_at0)), (q_t_steps, .inl (cy 0, 12, .inl n_t_steps)), (q_t_spot, .inl (cy 0, 8, .inl n_t_spot)), (q_t_then, .inl (cy 0, 8, .inl n_t_then)), (q_t_darkAt, .inl (cy 0, 25, .inl n_t_darkAt)), (q_t_can, .inl (cy 0, 25, .inl n_t_can))] t.heap) (va_A [(q_t, oX8 q_t_shelf q_t_rowSort q_t_rowSize q_t_rows q_t_moved q_t_shown q_t_tape v_t_tapeSize q_t_refused v_t_places q_t_ways v_t_people q_t_kind q_t_by q_t_home q_t_aim q_t_at0 v_t_hour v_t_chance v_t_seed w_t_kept w_t_tried v_t_at v_t_token v_t_from v_t_figures v_t_fault q_t_told v_t_statements q_t_steps q_t_spot q_t_then v_t_now v_t_gone q_t_sights q_t_darkAt q_t_can), (q_t_refused, .inl (cy 0, 8, .inl v_t_refused)), (q_t_ways, .inl (cy 0, 12, .inl v_t_ways)), (q_t_kind, .inl (cy 0, 8, .inl v_t_kind)), (q_t_home, .inl (cy 0, 8, .inl v_t_home)), (q_t_aim, .inl (cy 0, 8, .inl v_t_aim)), (q_t_at0, .inl (cy 0, 8, .inl v_t_at0)), (q_t_steps, .inl (cy 0, 12, .inl v_t_steps)), (q_t_spot, .inl (cy 0, 8, .inl v_t_spot)), (q_t_then, .inl (cy 0, 8, .inl v_t_then)), (q_t_darkAt, .inl (cy 0, 25, .inl v_t_darkAt)), (q_t_can, .inl (cy 0, 25, .inl v_t_can))] sz)) 0 0 (va_A [(q_t, oX8 q_t_shelf q_t_rowSort q_t_rowSize q_t_rows q_t_moved q_t_shown q_t_tape v_t_tapeSize q_t_refused v_t_places q_t_ways v_t_people q_t_kind q_t_by q_t_home q_t_aim q_t_at0 v_t_hour v_t_chance v_t_seed w_t_kept w_t_tried v_t_at v_t_token v_t_from v_t_figures v_t_fault q_t_told v_t_statements q_t_steps q_t_spot q_t_then v_t_now v_t_gone q_t_sights q_t_darkAt q_t_can), (q_t_refused, .inl (cy 0, 8, .inl v_t_refused)), (q_t_ways, .inl (cy 0, 12, .inl v_t_ways)), (q_t_kind, .inl (cy 0, 8, .inl v_t_kind)), (q_t_home, .inl (cy 0, 8, .inl v_t_home)), (q_t_aim, .inl (cy 0, 8, .inl v_t_aim)), (q_t_at0, .inl (cy 0, 8, .inl v_t_at0)), (q_t_steps, .inl (cy 0, 12, .inl v_t_steps)), (q_t_spot, .inl (cy 0, 8, .inl v_t_spot)), (q_t_then, .inl (cy 0, 8, .inl v_t_then)), (q_t_darkAt, .inl (cy 0, 25, .inl v_t_darkAt)), (q_t_can, .inl (cy 0, 25, .inl v_t_can))] sz) := by
  refine Met.ofW (cc := cX8_hidden) (maxL := 8) (ret := (some .int)) (by decide) rfl ?_
  intro p e s m args below meth c s₁ B hml hv
  obtain ⟨rfl, hsz, hP, hK, hD0⟩ := hv
  have hx := B.exec
  have hb := B.bytes
  have hr := B.returns
  have hts := atoms_spec (ws := wsX8_hidden) B.pre
  have hown : s.vm.findClass RX8 = some m.cls := findClass_of_methodNamed B.named
  have hlocks := B.notSynchronized
  subst hsz
  have hD := hD0.self (sz := s.heap.size)
  generalize hAe : va_A [(q_t, oX8 q_t_shelf q_t_rowSort q_t_rowSize q_t_rows q_t_moved q_t_shown q_t_tape v_t_tapeSize q_t_refused v_t_places q_t_ways v_t_people q_t_kind q_t_by q_t_home q_t_aim q_t_at0 v_t_hour v_t_chance v_t_seed w_t_kept w_t_tried v_t_at v_t_token v_t_from v_t_figures v_t_fault q_t_told v_t_statements q_t_steps q_t_spot q_t_then v_t_now v_t_gone q_t_sights q_t_darkAt q_t_can), (q_t_refused, .inl (cy 0, 8, .inl v_t_refused)), (q_t_ways, .inl (cy 0, 12, .inl v_t_ways)), (q_t_kind, .inl (cy 0, 8, .inl v_t_kind)), (q_t_home, .inl (cy 0, 8, .inl v_t_home)), (q_t_aim, .inl (cy 0, 8, .inl v_t_aim)), (q_t_at0, .inl (cy 0, 8, .inl v_t_at0)), (q_t_steps, .inl (cy 0, 12, .inl v_t_steps)), (q_t_spot, .inl (cy 0, 8, .inl v_t_spot)), (q_t_then, .inl (cy 0, 8, .inl v_t_then)), (q_t_darkAt, .inl (cy 0, 25, .inl v_t_darkAt)), (q_t_can, .inl (cy 0, 25, .inl v_t_can))] s.heap.size = A at hD ⊢
  have hA : ∀ q : Nat, s.heap.size ≤ q → A q := fun q h => by rw [← hAe]; exact Or.inr h
  have hS : va_S A s.heap s.heap [] := va_S.rf
  have hP : va_P D vwCl [(q_t, oX8 q_t_shelf q_t_rowSort q_t_rowSize q_t_rows q_t_moved q_t_shown q_t_tape v_t_tapeSize q_t_refused v_t_places q_t_ways v_t_people q_t_kind q_t_by q_t_home q_t_aim q_t_at0 v_t_hour v_t_chance v_t_seed w_t_kept w_t_tried v_t_at v_t_token v_t_from v_t_figures v_t_fault q_t_told v_t_statements q_t_steps q_t_spot q_t_then v_t_now v_t_gone q_t_sights q_t_darkAt q_t_can), (q_t_refused, .inl (cy 0, 8, .inl v_t_refused)), (q_t_ways, .inl (cy 0, 12, .inl v_t_ways)), (q_t_kind, .inl (cy 0, 8, .inl v_t_kind)), (q_t_home, .inl (cy 0, 8, .inl v_t_home)), (q_t_aim, .inl (cy 0, 8, .inl v_t_aim)), (q_t_at0, .inl (cy 0, 8, .inl v_t_at0)), (q_t_steps, .inl (cy 0, 12, .inl v_t_steps)), (q_t_spot, .inl (cy 0, 8, .inl v_t_spot)), (q_t_then, .inl (cy 0, 8, .inl v_t_then)), (q_t_darkAt, .inl (cy 0, 25, .inl v_t_darkAt)), (q_t_can, .inl (cy 0, 25, .inl v_t_can))] s.heap := hP
  have hinX8 : ∀ w ∈ u_ws RX8 TX8 37, w ∈ wsX8_hidden := by decide +kernel
  have hk88 := hts (.fieldLink RX8 88 "ShowsWhereNobodyIsModel" "can" "[I") (by decide +kernel)
  have hl := lv_entry ([.ref q_t, .int p0, .int p1, .int p2]) (n := 8) (Nat.le_of_ble_eq_true rfl)
  rw [lg_entry_eq]
  generalize (lg_sl ([.ref q_t, .int p0, .int p1, .int p2]) ++ List.replicate (8 - (lg_sl ([.ref q_t, .int p0, .int p1, .int p2])).length) Slot.unset).toArray = ls at hl ⊢
  have hl : lv_has ls 8 [(0, .ref q_t), (1, .int p0), (2, .int p1), (3, .int p2)] := hl
  unfold fX8_hidden at hf
  refine lv_aload_n hx hb dX8_hidden_0 rfl (lv_at hl 0 rfl) ?_
  refine lv_iload_n hx hb dX8_hidden_1 rfl (lv_at hl 1 rfl) ?_
  obtain ⟨r1, hr2, hf⟩ := boE1 hf
  have hPc := hP.sub (ws' := [(q_t, oX8 q_t_shelf q_t_rowSort q_t_rowSize q_t_rows q_t_moved q_t_shown q_t_tape v_t_tapeSize q_t_refused v_t_places q_t_ways v_t_people q_t_kind q_t_by q_t_home q_t_aim q_t_at0 v_t_hour v_t_chance v_t_seed w_t_kept w_t_tried v_t_at v_t_token v_t_from v_t_figures v_t_fault q_t_told v_t_statements q_t_steps q_t_spot q_t_then v_t_now v_t_gone q_t_sights q_t_darkAt q_t_can)]) [0] rfl
  refine xcSi (va_runV (As := [.int p0]) (rest := []) ⟨hx, hb, hml, hown, hts⟩ (mX8_isPlace l D cy q_t q_t_shelf q_t_rowSort q_t_rowSize q_t_rows q_t_moved q_t_shown q_t_tape q_t_refused q_t_ways q_t_kind q_t_by q_t_home q_t_aim q_t_at0 q_t_told q_t_steps q_t_spot q_t_then q_t_sights q_t_darkAt q_t_can v_t_tapeSize v_t_places v_t_people v_t_hour v_t_chance v_t_seed w_t_kept w_t_tried v_t_at v_t_token v_t_from v_t_figures v_t_fault v_t_statements v_t_now v_t_gone  p0 hr2) (cwV 1 hts gX8_hidden_X8_isPlace rfl rfl rfl (by decide +kernel) ⟨Nat.le_of_ble_eq_true rfl, Nat.le_of_ble_eq_true rfl⟩) (xPV hK hPc (ci := 8) (q0 := 0) rfl rfl) rfl rfl hl.1 rfl (lv_room (Nat.le_of_ble_eq_true rfl)) dX8_hidden_2 ⟨Nat.le_of_ble_eq_true rfl, Nat.le_of_ble_eq_true rfl⟩) ?_
  refine jww0 21 [] (fun  H locs ls => va_P D vwCl [(q_t, oX8 q_t_shelf q_t_rowSort q_t_rowSize q_t_rows q_t_moved q_t_shown q_t_tape v_t_tapeSize q_t_refused v_t_places q_t_ways v_t_people q_t_kind q_t_by q_t_home q_t_aim q_t_at0 v_t_hour v_t_chance v_t_seed w_t_kept w_t_tried v_t_at v_t_token v_t_from v_t_figures v_t_fault q_t_told v_t_statements q_t_steps q_t_spot q_t_then v_t_now v_t_gone q_t_sights q_t_darkAt q_t_can), (q_t_refused, .inl (cy 0, 8, .inl v_t_refused)), (q_t_ways, .inl (cy 0, 12, .inl v_t_ways)), (q_t_kind, .inl (cy 0, 8, .inl v_t_kind)), (q_t_home, .inl (cy 0, 8, .inl v_t_home)), (q_t_aim, .inl (cy 0, 8, .inl v_t_aim)), (q_t_at0, .inl (cy 0, 8, .inl v_t_at0)), (q_t_steps, .inl (cy 0, 12, .inl v_t_steps)), (q_t_spot, .inl (cy 0, 8, .inl v_t_spot)), (q_t_then, .inl (cy 0, 8, .inl v_t_then)), (q_t_darkAt, .inl (cy 0, 25, .inl v_t_darkAt)), (q_t_can, .inl (cy 0, 25, .inl v_t_can))] H ∧ va_D A [(q_t, oX8 q_t_shelf q_t_rowSort q_t_rowSize q_t_rows q_t_moved q_t_shown q_t_tape v_t_tapeSize q_t_refused v_t_places q_t_ways v_t_people q_t_kind q_t_by q_t_home q_t_aim q_t_at0 v_t_hour v_t_chance v_t_seed w_t_kept w_t_tried v_t_at v_t_token v_t_from v_t_figures v_t_fault q_t_told v_t_statements q_t_steps q_t_spot q_t_then v_t_now v_t_gone q_t_sights q_t_darkAt q_t_can), (q_t_refused, .inl (cy 0, 8, .inl v_t_refused)), (q_t_ways, .inl (cy 0, 12, .inl v_t_ways)), (q_t_kind, .inl (cy 0, 8, .inl v_t_kind)), (q_t_home, .inl (cy 0, 8, .inl v_t_home)), (q_t_aim, .inl (cy 0, 8, .inl v_t_aim)), (q_t_at0, .inl (cy 0, 8, .inl v_t_at0)), (q_t_steps, .inl (cy 0, 12, .inl v_t_steps)), (q_t_spot, .inl (cy 0, 8, .inl v_t_spot)), (q_t_then, .inl (cy 0, 8, .inl v_t_then)), (q_t_darkAt, .inl (cy 0, 25, .inl v_t_darkAt)), (q_t_can, .inl (cy 0, 25, .inl v_t_can))] ∧ va_S A s.heap H locs ∧ lv_has ls 8 [(0, .ref q_t)]) hf (fun  H locs ls hI hf => ?_) (fun k3 J21 hf => ?_)
  · obtain ⟨hP, hD, hS, hl⟩ := hI
    refine lv_aload_n hx hb dX8_hidden_21 rfl (lv_at hl 0 rfl) ?_
    refine lv_bipush (v := (-2)) hx hb dX8_hidden_22 (by decide) ?_
    obtain ⟨r4, u5, hr6, hf⟩ := boE2 hf
    have hPc := hP.sub (ws' := [(q_t, oX8 q_t_shelf q_t_rowSort q_t_rowSize q_t_rows q_t_moved q_t_shown q_t_tape v_t_tapeSize q_t_refused v_t_places q_t_ways v_t_people q_t_kind q_t_by q_t_home q_t_aim q_t_at0 v_t_hour v_t_chance v_t_seed w_t_kept w_t_tried v_t_at v_t_token v_t_from v_t_figures v_t_fault q_t_told v_t_statements q_t_steps q_t_spot q_t_then v_t_now v_t_gone q_t_sights q_t_darkAt q_t_can), (q_t_refused, .inl (cy 0, 8, .inl v_t_refused))]) [0, 1] rfl
    have hDc := hD.sub (ws' := [(q_t, oX8 q_t_shelf q_t_rowSort q_t_rowSize q_t_rows q_t_moved q_t_shown q_t_tape v_t_tapeSize q_t_refused v_t_places q_t_ways v_t_people q_t_kind q_t_by q_t_home q_t_aim q_t_at0 v_t_hour v_t_chance v_t_seed w_t_kept w_t_tried v_t_at v_t_token v_t_from v_t_figures v_t_fault q_t_told v_t_statements q_t_steps q_t_spot q_t_then v_t_now v_t_gone q_t_sights q_t_darkAt q_t_can), (q_t_refused, .inl (cy 0, 8, .inl v_t_refused))]) [0, 1] (by decide) rfl
    refine xcQi (w1 := [(q_t, oX8 q_t_shelf q_t_rowSort q_t_rowSize q_t_rows q_t_moved q_t_shown q_t_tape v_t_tapeSize q_t_refused v_t_places q_t_ways v_t_people q_t_kind q_t_by q_t_home q_t_aim q_t_at0 v_t_hour v_t_chance v_t_seed w_t_kept w_t_tried v_t_at v_t_token v_t_from v_t_figures v_t_fault q_t_told v_t_statements q_t_steps q_t_spot q_t_then v_t_now v_t_gone q_t_sights q_t_darkAt q_t_can), (q_t_refused, .inl (cy 0, 8, .inl u5))]) (va_runV (As := [.int (-2 : Int32)]) (rest := []) ⟨hx, hb, hml, hown, hts⟩ (mX8_refuse l D cy q_t q_t_shelf q_t_rowSort q_t_rowSize q_t_rows q_t_moved q_t_shown q_t_tape q_t_refused q_t_ways q_t_kind q_t_by q_t_home q_t_aim q_t_at0 q_t_told q_t_steps q_t_spot q_t_then q_t_sights q_t_darkAt q_t_can v_t_tapeSize v_t_places v_t_people v_t_hour v_t_chance v_t_seed w_t_kept w_t_tried v_t_at v_t_token v_t_from v_t_figures v_t_fault v_t_statements v_t_now v_t_gone v_t_refused _ (-2 : Int32) hr6) (cwV 1 hts gX8_hidden_X8_refuse rfl rfl rfl (by decide +kernel) ⟨Nat.le_of_ble_eq_true rfl, Nat.le_of_ble_eq_true rfl⟩) (xPVw hK hPc hDc (ci := 8) (q0 := 0) rfl rfl) rfl rfl hl.1 rfl (lv_room (Nat.le_of_ble_eq_true rfl)) dX8_hidden_24 ⟨Nat.le_of_ble_eq_true rfl, Nat.le_of_ble_eq_true rfl⟩) hP hD hS hA [0, 1] rfl rfl (fun H locs hP hD hS => ?_)
    have hP : va_P D vwCl [(q_t, oX8 q_t_shelf q_t_rowSort q_t_rowSize q_t_rows q_t_moved q_t_shown q_t_tape v_t_tapeSize q_t_refused v_t_places q_t_ways v_t_people q_t_kind q_t_by q_t_home q_t_aim q_t_at0 v_t_hour v_t_chance v_t_seed w_t_kept w_t_tried v_t_at v_t_token v_t_from v_t_figures v_t_fault q_t_told v_t_statements q_t_steps q_t_spot q_t_then v_t_now v_t_gone q_t_sights q_t_darkAt q_t_can), (q_t_refused, .inl (cy 0, 8, .inl u5)), (q_t_ways, .inl (cy 0, 12, .inl v_t_ways)), (q_t_kind, .inl (cy 0, 8, .inl v_t_kind)), (q_t_home, .inl (cy 0, 8, .inl v_t_home)), (q_t_aim, .inl (cy 0, 8, .inl v_t_aim)), (q_t_at0, .inl (cy 0, 8, .inl v_t_at0)), (q_t_steps, .inl (cy 0, 12, .inl v_t_steps)), (q_t_spot, .inl (cy 0, 8, .inl v_t_spot)), (q_t_then, .inl (cy 0, 8, .inl v_t_then)), (q_t_darkAt, .inl (cy 0, 25, .inl v_t_darkAt)), (q_t_can, .inl (cy 0, 25, .inl v_t_can))] H := hP
    have hD : va_D A [(q_t, oX8 q_t_shelf q_t_rowSort q_t_rowSize q_t_rows q_t_moved q_t_shown q_t_tape v_t_tapeSize q_t_refused v_t_places q_t_ways v_t_people q_t_kind q_t_by q_t_home q_t_aim q_t_at0 v_t_hour v_t_chance v_t_seed w_t_kept w_t_tried v_t_at v_t_token v_t_from v_t_figures v_t_fault q_t_told v_t_statements q_t_steps q_t_spot q_t_then v_t_now v_t_gone q_t_sights q_t_darkAt q_t_can), (q_t_refused, .inl (cy 0, 8, .inl u5)), (q_t_ways, .inl (cy 0, 12, .inl v_t_ways)), (q_t_kind, .inl (cy 0, 8, .inl v_t_kind)), (q_t_home, .inl (cy 0, 8, .inl v_t_home)), (q_t_aim, .inl (cy 0, 8, .inl v_t_aim)), (q_t_at0, .inl (cy 0, 8, .inl v_t_at0)), (q_t_steps, .inl (cy 0, 12, .inl v_t_steps)), (q_t_spot, .inl (cy 0, 8, .inl v_t_spot)), (q_t_then, .inl (cy 0, 8, .inl v_t_then)), (q_t_darkAt, .inl (cy 0, 25, .inl v_t_darkAt)), (q_t_can, .inl (cy 0, 25, .inl v_t_can))] := hD
    cases hf
    exact W.iret hx hb hr (fun t ht hW => ⟨⟨_, (), rfl, rfl, xend ht hP⟩, hS.F ht⟩) hS.2.2 dX8_hidden_27
  · refine lv_if_eq (tgt := 21) hx hb dX8_hidden_5 (by decide) (fun c37 => ?_) (fun c37 => ?_)
    · have hf := ifT hf c37
      clear c37
      exact J21 _ _ ls ⟨hP, hD, hS, lv_sub hl [0] rfl⟩ hf
    · have hf := ifF hf c37
      clear c37
      refine lv_aload_n hx hb dX8_hidden_8 rfl (lv_at hl 0 rfl) ?_
      refine lv_iload_n hx hb dX8_hidden_9 rfl (lv_at hl 2 rfl) ?_
      obtain ⟨r7, hr8, hf⟩ := boE1 hf
      have hPc := hP.sub (ws' := [(q_t, oX8 q_t_shelf q_t_rowSort q_t_rowSize q_t_rows q_t_moved q_t_shown q_t_tape v_t_tapeSize q_t_refused v_t_places q_t_ways v_t_people q_t_kind q_t_by q_t_home q_t_aim q_t_at0 v_t_hour v_t_chance v_t_seed w_t_kept w_t_tried v_t_at v_t_token v_t_from v_t_figures v_t_fault q_t_told v_t_statements q_t_steps q_t_spot q_t_then v_t_now v_t_gone q_t_sights q_t_darkAt q_t_can)]) [0] rfl
      refine xcSi (va_runV (As := [.int p1]) (rest := []) ⟨hx, hb, hml, hown, hts⟩ (mX8_isPlace l D cy q_t q_t_shelf q_t_rowSort q_t_rowSize q_t_rows q_t_moved q_t_shown q_t_tape q_t_refused q_t_ways q_t_kind q_t_by q_t_home q_t_aim q_t_at0 q_t_told q_t_steps q_t_spot q_t_then q_t_sights q_t_darkAt q_t_can v_t_tapeSize v_t_places v_t_people v_t_hour v_t_chance v_t_seed w_t_kept w_t_tried v_t_at v_t_token v_t_from v_t_figures v_t_fault v_t_statements v_t_now v_t_gone  p1 hr8) (cwV 1 hts gX8_hidden_X8_isPlace rfl rfl rfl (by decide +kernel) ⟨Nat.le_of_ble_eq_true rfl, Nat.le_of_ble_eq_true rfl⟩) (xPV hK hPc (ci := 8) (q0 := 0) rfl rfl) rfl rfl hl.1 rfl (lv_room (Nat.le_of_ble_eq_true rfl)) dX8_hidden_10 ⟨Nat.le_of_ble_eq_true rfl, Nat.le_of_ble_eq_true rfl⟩) ?_
      refine lv_if_eq (tgt := 21) hx hb dX8_hidden_13 (by decide) (fun c36 => ?_) (fun c36 => ?_)
      · have hf := ifT hf c36
        clear c36
        exact J21 _ _ ls ⟨hP, hD, hS, lv_sub hl [0] rfl⟩ hf
      · have hf := ifF hf c36
        clear c36
        refine lv_iload_n hx hb dX8_hidden_16 rfl (lv_at hl 3 rfl) ?_
        refine lv_iconst (v := (-1)) hx hb dX8_hidden_17 (by decide) ?_
        refine lv_icmp_ge (tgt := 28) hx hb dX8_hidden_18 (by decide) (fun c35 => ?_) (fun c35 => ?_)
        · have hf := ifT hf c35
          clear c35
          refine lv_aload_n hx hb dX8_hidden_28 rfl (lv_at hl 0 rfl) ?_
          refine lv_iload_n hx hb dX8_hidden_29 rfl (lv_at hl 1 rfl) ?_
          refine lv_iload_n hx hb dX8_hidden_30 rfl (lv_at hl 2 rfl) ?_
          obtain ⟨r9, u10, u11, u12, u13, u14, u15, hr16, hf⟩ := boE7 hf
          have hPc := hP.sub (ws' := [(q_t, oX8 q_t_shelf q_t_rowSort q_t_rowSize q_t_rows q_t_moved q_t_shown q_t_tape v_t_tapeSize q_t_refused v_t_places q_t_ways v_t_people q_t_kind q_t_by q_t_home q_t_aim q_t_at0 v_t_hour v_t_chance v_t_seed w_t_kept w_t_tried v_t_at v_t_token v_t_from v_t_figures v_t_fault q_t_told v_t_statements q_t_steps q_t_spot q_t_then v_t_now v_t_gone q_t_sights q_t_darkAt q_t_can), (q_t_ways, .inl (cy 0, 12, .inl v_t_ways)), (q_t_kind, .inl (cy 0, 8, .inl v_t_kind)), (q_t_home, .inl (cy 0, 8, .inl v_t_home)), (q_t_aim, .inl (cy 0, 8, .inl v_t_aim)), (q_t_at0, .inl (cy 0, 8, .inl v_t_at0)), (q_t_steps, .inl (cy 0, 12, .inl v_t_steps)), (q_t_spot, .inl (cy 0, 8, .inl v_t_spot)), (q_t_then, .inl (cy 0, 8, .inl v_t_then)), (q_t_darkAt, .inl (cy 0, 25, .inl v_t_darkAt)), (q_t_can, .inl (cy 0, 25, .inl v_t_can))]) [0, 2, 3, 4, 5, 6, 7, 8, 9, 10, 11] rfl
          have hDc := hD.sub (ws' := [(q_t, oX8 q_t_shelf q_t_rowSort q_t_rowSize q_t_rows q_t_moved q_t_shown q_t_tape v_t_tapeSize q_t_refused v_t_places q_t_ways v_t_people q_t_kind q_t_by q_t_home q_t_aim q_t_at0 v_t_hour v_t_chance v_t_seed w_t_kept w_t_tried v_t_at v_t_token v_t_from v_t_figures v_t_fault q_t_told v_t_statements q_t_steps q_t_spot q_t_then v_t_now v_t_gone q_t_sights q_t_darkAt q_t_can), (q_t_ways, .inl (cy 0, 12, .inl v_t_ways)), (q_t_kind, .inl (cy 0, 8, .inl v_t_kind)), (q_t_home, .inl (cy 0, 8, .inl v_t_home)), (q_t_aim, .inl (cy 0, 8, .inl v_t_aim)), (q_t_at0, .inl (cy 0, 8, .inl v_t_at0)), (q_t_steps, .inl (cy 0, 12, .inl v_t_steps)), (q_t_spot, .inl (cy 0, 8, .inl v_t_spot)), (q_t_then, .inl (cy 0, 8, .inl v_t_then)), (q_t_darkAt, .inl (cy 0, 25, .inl v_t_darkAt)), (q_t_can, .inl (cy 0, 25, .inl v_t_can))]) [0, 2, 3, 4, 5, 6, 7, 8, 9, 10, 11] (by decide) rfl
          refine xcQi (w1 := [(q_t, oX8 q_t_shelf q_t_rowSort q_t_rowSize q_t_rows q_t_moved q_t_shown q_t_tape v_t_tapeSize q_t_refused v_t_places q_t_ways v_t_people q_t_kind q_t_by q_t_home q_t_aim q_t_at0 v_t_hour v_t_chance v_t_seed w_t_kept w_t_tried v_t_at v_t_token v_t_from v_t_figures v_t_fault q_t_told v_t_statements q_t_steps q_t_spot q_t_then u10 v_t_gone q_t_sights q_t_darkAt q_t_can), (q_t_ways, .inl (cy 0, 12, .inl v_t_ways)), (q_t_kind, .inl (cy 0, 8, .inl v_t_kind)), (q_t_home, .inl (cy 0, 8, .inl v_t_home)), (q_t_aim, .inl (cy 0, 8, .inl v_t_aim)), (q_t_at0, .inl (cy 0, 8, .inl v_t_at0)), (q_t_steps, .inl (cy 0, 12, .inl u11)), (q_t_spot, .inl (cy 0, 8, .inl u12)), (q_t_then, .inl (cy 0, 8, .inl u13)), (q_t_darkAt, .inl (cy 0, 25, .inl u14)), (q_t_can, .inl (cy 0, 25, .inl u15))]) (va_runV (As := [.int p0, .int p1]) (rest := []) ⟨hx, hb, hml, hown, hts⟩ (mX8_hiddenHours l D cy q_t q_t_shelf q_t_rowSort q_t_rowSize q_t_rows q_t_moved q_t_shown q_t_tape q_t_refused q_t_ways q_t_kind q_t_by q_t_home q_t_aim q_t_at0 q_t_told q_t_steps q_t_spot q_t_then q_t_sights q_t_darkAt q_t_can v_t_tapeSize v_t_places v_t_people v_t_hour v_t_chance v_t_seed w_t_kept w_t_tried v_t_at v_t_token v_t_from v_t_figures v_t_fault v_t_statements v_t_now v_t_gone v_t_ways v_t_kind v_t_home v_t_aim v_t_at0 v_t_steps v_t_spot v_t_then v_t_darkAt v_t_can _ p0 p1 hr16) (cwV 2 hts gX8_hidden_X8_hiddenHours rfl rfl rfl (by decide +kernel) ⟨Nat.le_of_ble_eq_true rfl, Nat.le_of_ble_eq_true rfl⟩) (xPVw hK hPc hDc (ci := 8) (q0 := 0) rfl rfl) rfl rfl hl.1 rfl (lv_room (Nat.le_of_ble_eq_true rfl)) dX8_hidden_31 ⟨Nat.le_of_ble_eq_true rfl, Nat.le_of_ble_eq_true rfl⟩) hP hD hS hA [0, 2, 3, 4, 5, 6, 7, 8, 9, 10, 11] rfl rfl (fun H locs hP hD hS => ?_)
          have hP : va_P D vwCl [(q_t, oX8 q_t_shelf q_t_rowSort q_t_rowSize q_t_rows q_t_moved q_t_shown q_t_tape v_t_tapeSize q_t_refused v_t_places q_t_ways v_t_people q_t_kind q_t_by q_t_home q_t_aim q_t_at0 v_t_hour v_t_chance v_t_seed w_t_kept w_t_tried v_t_at v_t_token v_t_from v_t_figures v_t_fault q_t_told v_t_statements q_t_steps q_t_spot q_t_then u10 v_t_gone q_t_sights q_t_darkAt q_t_can), (q_t_refused, .inl (cy 0, 8, .inl v_t_refused)), (q_t_ways, .inl (cy 0, 12, .inl v_t_ways)), (q_t_kind, .inl (cy 0, 8, .inl v_t_kind)), (q_t_home, .inl (cy 0, 8, .inl v_t_home)), (q_t_aim, .inl (cy 0, 8, .inl v_t_aim)), (q_t_at0, .inl (cy 0, 8, .inl v_t_at0)), (q_t_steps, .inl (cy 0, 12, .inl u11)), (q_t_spot, .inl (cy 0, 8, .inl u12)), (q_t_then, .inl (cy 0, 8, .inl u13)), (q_t_darkAt, .inl (cy 0, 25, .inl u14)), (q_t_can, .inl (cy 0, 25, .inl u15))] H := hP
          have hD : va_D A [(q_t, oX8 q_t_shelf q_t_rowSort q_t_rowSize q_t_rows q_t_moved q_t_shown q_t_tape v_t_tapeSize q_t_refused v_t_places q_t_ways v_t_people q_t_kind q_t_by q_t_home q_t_aim q_t_at0 v_t_hour v_t_chance v_t_seed w_t_kept w_t_tried v_t_at v_t_token v_t_from v_t_figures v_t_fault q_t_told v_t_statements q_t_steps q_t_spot q_t_then u10 v_t_gone q_t_sights q_t_darkAt q_t_can), (q_t_refused, .inl (cy 0, 8, .inl v_t_refused)), (q_t_ways, .inl (cy 0, 12, .inl v_t_ways)), (q_t_kind, .inl (cy 0, 8, .inl v_t_kind)), (q_t_home, .inl (cy 0, 8, .inl v_t_home)), (q_t_aim, .inl (cy 0, 8, .inl v_t_aim)), (q_t_at0, .inl (cy 0, 8, .inl v_t_at0)), (q_t_steps, .inl (cy 0, 12, .inl u11)), (q_t_spot, .inl (cy 0, 8, .inl u12)), (q_t_then, .inl (cy 0, 8, .inl u13)), (q_t_darkAt, .inl (cy 0, 25, .inl u14)), (q_t_can, .inl (cy 0, 25, .inl u15))] := hD
          refine lv_istore (lv' := [(4, .int r9), (0, .ref q_t), (1, .int p0), (2, .int p1), (3, .int p2)]) hx hb dX8_hidden_34 hl (by decide) rfl (fun ls hl => ?_)
          refine lv_iload_n hx hb dX8_hidden_36 rfl (lv_at hl 4 rfl) ?_
          refine lv_iconst (v := (-1)) hx hb dX8_hidden_37 (by decide) ?_
          refine lv_icmp_ne (tgt := 44) hx hb dX8_hidden_38 (by decide) (fun c34 => ?_) (fun c34 => ?_)
          · have hf := ifF hf c34
            clear c34
            refine lv_iload_n hx hb dX8_hidden_44 rfl (lv_at hl 4 rfl) ?_
            refine lv_iload hx hb dX8_hidden_45 (lv_at hl 0 rfl) ?_
            refine lv_icmp_le (tgt := 57) hx hb dX8_hidden_47 (by decide) (fun c33 => ?_) (fun c33 => ?_)
            · have hf := ifT hf c33
              clear c33
              refine lv_iload_n hx hb dX8_hidden_57 rfl (lv_at hl 2 rfl) ?_
              refine lv_istore (lv' := [(5, .int p0), (4, .int r9), (0, .ref q_t), (1, .int p0), (2, .int p1), (3, .int p2)]) hx hb dX8_hidden_58 hl (by decide) rfl (fun ls hl => ?_)
              refine lv_iconst (v := 1) hx hb dX8_hidden_60 (by decide) ?_
              refine lv_istore (lv' := [(6, .int (1 : Int32)), (5, .int p0), (4, .int r9), (0, .ref q_t), (1, .int p0), (2, .int p1), (3, .int p2)]) hx hb dX8_hidden_61 hl (by decide) rfl (fun ls hl => ?_)
              refine wlw2 63 (fun _ _ => []) (fun (x17 : Int32) (x18 : Int32) H locs ls => va_P D vwCl [(q_t, oX8 q_t_shelf q_t_rowSort q_t_rowSize q_t_rows q_t_moved q_t_shown q_t_tape v_t_tapeSize q_t_refused v_t_places q_t_ways v_t_people q_t_kind q_t_by q_t_home q_t_aim q_t_at0 v_t_hour v_t_chance v_t_seed w_t_kept w_t_tried v_t_at v_t_token v_t_from v_t_figures v_t_fault q_t_told v_t_statements q_t_steps q_t_spot q_t_then u10 v_t_gone q_t_sights q_t_darkAt q_t_can), (q_t_refused, .inl (cy 0, 8, .inl v_t_refused)), (q_t_ways, .inl (cy 0, 12, .inl v_t_ways)), (q_t_kind, .inl (cy 0, 8, .inl v_t_kind)), (q_t_home, .inl (cy 0, 8, .inl v_t_home)), (q_t_aim, .inl (cy 0, 8, .inl v_t_aim)), (q_t_at0, .inl (cy 0, 8, .inl v_t_at0)), (q_t_steps, .inl (cy 0, 12, .inl u11)), (q_t_spot, .inl (cy 0, 8, .inl u12)), (q_t_then, .inl (cy 0, 8, .inl u13)), (q_t_darkAt, .inl (cy 0, 25, .inl u14)), (q_t_can, .inl (cy 0, 25, .inl u15))] H ∧ va_D A [(q_t, oX8 q_t_shelf q_t_rowSort q_t_rowSize q_t_rows q_t_moved q_t_shown q_t_tape v_t_tapeSize q_t_refused v_t_places q_t_ways v_t_people q_t_kind q_t_by q_t_home q_t_aim q_t_at0 v_t_hour v_t_chance v_t_seed w_t_kept w_t_tried v_t_at v_t_token v_t_from v_t_figures v_t_fault q_t_told v_t_statements q_t_steps q_t_spot q_t_then u10 v_t_gone q_t_sights q_t_darkAt q_t_can), (q_t_refused, .inl (cy 0, 8, .inl v_t_refused)), (q_t_ways, .inl (cy 0, 12, .inl v_t_ways)), (q_t_kind, .inl (cy 0, 8, .inl v_t_kind)), (q_t_home, .inl (cy 0, 8, .inl v_t_home)), (q_t_aim, .inl (cy 0, 8, .inl v_t_aim)), (q_t_at0, .inl (cy 0, 8, .inl v_t_at0)), (q_t_steps, .inl (cy 0, 12, .inl u11)), (q_t_spot, .inl (cy 0, 8, .inl u12)), (q_t_then, .inl (cy 0, 8, .inl u13)), (q_t_darkAt, .inl (cy 0, 25, .inl u14)), (q_t_can, .inl (cy 0, 25, .inl u15))] ∧ va_S A s.heap H locs ∧ lv_has ls 8 [(5, .int x17), (6, .int x18), (0, .ref q_t), (3, .int p2)]) (fun g19 L63 x17 x18 H locs ls hI hf => ?_) 400 p0 (1 : Int32) _ _ ls ⟨hP, hD, hS, lv_sub hl [1, 0, 3, 6] rfl⟩ hf
              obtain ⟨hP, hD, hS, hl⟩ := hI
              refine lv_iload hx hb dX8_hidden_63 (lv_at hl 1 rfl) ?_
              refine lv_iload_n hx hb dX8_hidden_65 rfl (lv_at hl 3 rfl) ?_
              refine lv_icmp_gt (tgt := 112) hx hb dX8_hidden_66 (by decide) (fun c29 => ?_) (fun c29 => ?_)
              · have hf := ifT hf c29
                clear c29
                refine lv_iload hx hb dX8_hidden_112 (lv_at hl 0 rfl) ?_
                cases hf
                exact W.iret hx hb hr (fun t ht hW => ⟨⟨_, (), rfl, rfl, xend ht hP⟩, hS.F ht⟩) hS.2.2 dX8_hidden_114
              · have hf := ifF hf c29
                clear c29
                refine lv_aload_n hx hb dX8_hidden_69 rfl (lv_at hl 2 rfl) ?_
                refine lv_iconst (v := 1) hx hb dX8_hidden_70 (by decide) ?_
                refine lv_iload hx hb dX8_hidden_71 (lv_at hl 0 rfl) ?_
                refine lv_ishl hx hb dX8_hidden_73 ?_
                obtain ⟨r20, hr21, hf⟩ := boE1 hf
                have hPc := hP.sub (ws' := [(q_t, oX8 q_t_shelf q_t_rowSort q_t_rowSize q_t_rows q_t_moved q_t_shown q_t_tape v_t_tapeSize q_t_refused v_t_places q_t_ways v_t_people q_t_kind q_t_by q_t_home q_t_aim q_t_at0 v_t_hour v_t_chance v_t_seed w_t_kept w_t_tried v_t_at v_t_token v_t_from v_t_figures v_t_fault q_t_told v_t_statements q_t_steps q_t_spot q_t_then u10 v_t_gone q_t_sights q_t_darkAt q_t_can), (q_t_ways, .inl (cy 0, 12, .inl v_t_ways))]) [0, 2] rfl
                refine xcSi (va_runV (As := [.int ((1 : Int32) <<< (x17 &&& 31))]) (rest := []) ⟨hx, hb, hml, hown, hts⟩ (mX8_besides l D cy q_t q_t_shelf q_t_rowSort q_t_rowSize q_t_rows q_t_moved q_t_shown q_t_tape q_t_refused q_t_ways q_t_kind q_t_by q_t_home q_t_aim q_t_at0 q_t_told q_t_steps q_t_spot q_t_then q_t_sights q_t_darkAt q_t_can v_t_tapeSize v_t_places v_t_people v_t_hour v_t_chance v_t_seed w_t_kept w_t_tried v_t_at v_t_token v_t_from v_t_figures v_t_fault v_t_statements u10 v_t_gone v_t_ways  ((1 : Int32) <<< (x17 &&& 31)) hr21) (cwV 1 hts gX8_hidden_X8_besides rfl rfl rfl (by decide +kernel) ⟨Nat.le_of_ble_eq_true rfl, Nat.le_of_ble_eq_true rfl⟩) (xPV hK hPc (ci := 8) (q0 := 0) rfl rfl) rfl rfl hl.1 rfl (lv_room (Nat.le_of_ble_eq_true rfl)) dX8_hidden_74 ⟨Nat.le_of_ble_eq_true rfl, Nat.le_of_ble_eq_true rfl⟩) ?_
                refine lv_aload_n hx hb dX8_hidden_77 rfl (lv_at hl 2 rfl) ?_
                refine va_get (D := D) (ci := 8) (v := .ref q_t_can) (C := RX8) (T := TX8) (N := 37) hx hb hts hinX8 hown hK.1 hP 0 rfl rfl 36 (by decide) hk88 (fun _ h9 => h9) rfl dX8_hidden_78 ?_
                refine lv_iload hx hb dX8_hidden_81 (lv_at hl 1 rfl) ?_
                obtain ⟨hi22, hf⟩ := ckE hf
                refine va_iald hx hb hK.1 hP 11 0 rfl rfl hi22 dX8_hidden_83 ?_
                refine lv_iand hx hb dX8_hidden_84 ?_
                refine lv_topi (fun x23 ex23 => ?_)
                have hf := vlE hf ex23
                clear ex23
                refine lv_istore (lv' := [(7, .int x23), (5, .int x17), (6, .int x18), (0, .ref q_t), (3, .int p2)]) hx hb dX8_hidden_85 hl (by decide) rfl (fun ls hl => ?_)
                refine lv_iconst (v := 0) hx hb dX8_hidden_87 (by decide) ?_
                refine lv_istore (lv' := [(5, .int (0 : Int32)), (7, .int x23), (6, .int x18), (0, .ref q_t), (3, .int p2)]) hx hb dX8_hidden_88 hl (by decide) rfl (fun ls hl => ?_)
                refine wlw1 90 (fun _ => []) (fun (x24 : Int32) H locs ls => va_P D vwCl [(q_t, oX8 q_t_shelf q_t_rowSort q_t_rowSize q_t_rows q_t_moved q_t_shown q_t_tape v_t_tapeSize q_t_refused v_t_places q_t_ways v_t_people q_t_kind q_t_by q_t_home q_t_aim q_t_at0 v_t_hour v_t_chance v_t_seed w_t_kept w_t_tried v_t_at v_t_token v_t_from v_t_figures v_t_fault q_t_told v_t_statements q_t_steps q_t_spot q_t_then u10 v_t_gone q_t_sights q_t_darkAt q_t_can), (q_t_refused, .inl (cy 0, 8, .inl v_t_refused)), (q_t_ways, .inl (cy 0, 12, .inl v_t_ways)), (q_t_kind, .inl (cy 0, 8, .inl v_t_kind)), (q_t_home, .inl (cy 0, 8, .inl v_t_home)), (q_t_aim, .inl (cy 0, 8, .inl v_t_aim)), (q_t_at0, .inl (cy 0, 8, .inl v_t_at0)), (q_t_steps, .inl (cy 0, 12, .inl u11)), (q_t_spot, .inl (cy 0, 8, .inl u12)), (q_t_then, .inl (cy 0, 8, .inl u13)), (q_t_darkAt, .inl (cy 0, 25, .inl u14)), (q_t_can, .inl (cy 0, 25, .inl u15))] H ∧ va_D A [(q_t, oX8 q_t_shelf q_t_rowSort q_t_rowSize q_t_rows q_t_moved q_t_shown q_t_tape v_t_tapeSize q_t_refused v_t_places q_t_ways v_t_people q_t_kind q_t_by q_t_home q_t_aim q_t_at0 v_t_hour v_t_chance v_t_seed w_t_kept w_t_tried v_t_at v_t_token v_t_from v_t_figures v_t_fault q_t_told v_t_statements q_t_steps q_t_spot q_t_then u10 v_t_gone q_t_sights q_t_darkAt q_t_can), (q_t_refused, .inl (cy 0, 8, .inl v_t_refused)), (q_t_ways, .inl (cy 0, 12, .inl v_t_ways)), (q_t_kind, .inl (cy 0, 8, .inl v_t_kind)), (q_t_home, .inl (cy 0, 8, .inl v_t_home)), (q_t_aim, .inl (cy 0, 8, .inl v_t_aim)), (q_t_at0, .inl (cy 0, 8, .inl v_t_at0)), (q_t_steps, .inl (cy 0, 12, .inl u11)), (q_t_spot, .inl (cy 0, 8, .inl u12)), (q_t_then, .inl (cy 0, 8, .inl u13)), (q_t_darkAt, .inl (cy 0, 25, .inl u14)), (q_t_can, .inl (cy 0, 25, .inl u15))] ∧ va_S A s.heap H locs ∧ lv_has ls 8 [(5, .int x24), (7, .int x23), (6, .int x18), (0, .ref q_t), (3, .int p2)]) (fun g25 L90 x24 H locs ls hI hf => ?_) 400 (0 : Int32) _ _ ls ⟨hP, hD, hS, lv_sub hl [0, 1, 2, 3, 4] rfl⟩ hf
                obtain ⟨hP, hD, hS, hl⟩ := hI
                refine lv_iload hx hb dX8_hidden_90 (lv_at hl 1 rfl) ?_
                refine lv_iload hx hb dX8_hidden_92 (lv_at hl 0 rfl) ?_
                refine lv_ishr hx hb dX8_hidden_94 ?_
                refine lv_iconst (v := 1) hx hb dX8_hidden_95 (by decide) ?_
                refine lv_iand hx hb dX8_hidden_96 ?_
                refine lv_if_ne (tgt := 106) hx hb dX8_hidden_97 (by decide) (fun c28 => ?_) (fun c28 => ?_)
                · have hf := ifF hf c28
                  clear c28
                  obtain ⟨x26, ex26⟩ : ∃ y : Int32, y = x18 + (1 : Int32) := ⟨_, rfl⟩
                  have hf := vlE hf ex26
                  refine lv_iinc (v := x26) (lv' := [(6, .int x26), (5, .int x24), (7, .int x23), (0, .ref q_t), (3, .int p2)]) hx hb dX8_hidden_106 hl (k := 2) rfl (by rw [ex26]; rfl) (by decide) rfl (fun ls hl => ?_)
                  clear ex26
                  refine lv_goto (tgt := 63) hx hb dX8_hidden_109 (by decide) ?_
                  exact L63 x24 x26 _ _ ls ⟨hP, hD, hS, lv_sub hl [1, 0, 3, 4] rfl⟩ hf
                · have hf := ifT hf c28
                  clear c28
                  obtain ⟨x27, ex27⟩ : ∃ y : Int32, y = x24 + (1 : Int32) := ⟨_, rfl⟩
                  have hf := vlE hf ex27
                  refine lv_iinc (v := x27) (lv' := [(5, .int x27), (7, .int x23), (6, .int x18), (0, .ref q_t), (3, .int p2)]) hx hb dX8_hidden_100 hl (k := 0) rfl (by rw [ex27]; rfl) (by decide) rfl (fun ls hl => ?_)
                  clear ex27
                  refine lv_goto (tgt := 90) hx hb dX8_hidden_103 (by decide) ?_
                  exact L90 x27 _ _ ls ⟨hP, hD, hS, lv_sub hl [0, 1, 2, 3, 4] rfl⟩ hf
            · have hf := ifF hf c33
              clear c33
              refine lv_aload_n hx hb dX8_hidden_50 rfl (lv_at hl 1 rfl) ?_
              refine lv_bipush (v := (-5)) hx hb dX8_hidden_51 (by decide) ?_
              obtain ⟨r30, u31, hr32, hf⟩ := boE2 hf
              have hPc := hP.sub (ws' := [(q_t, oX8 q_t_shelf q_t_rowSort q_t_rowSize q_t_rows q_t_moved q_t_shown q_t_tape v_t_tapeSize q_t_refused v_t_places q_t_ways v_t_people q_t_kind q_t_by q_t_home q_t_aim q_t_at0 v_t_hour v_t_chance v_t_seed w_t_kept w_t_tried v_t_at v_t_token v_t_from v_t_figures v_t_fault q_t_told v_t_statements q_t_steps q_t_spot q_t_then u10 v_t_gone q_t_sights q_t_darkAt q_t_can), (q_t_refused, .inl (cy 0, 8, .inl v_t_refused))]) [0, 1] rfl
              have hDc := hD.sub (ws' := [(q_t, oX8 q_t_shelf q_t_rowSort q_t_rowSize q_t_rows q_t_moved q_t_shown q_t_tape v_t_tapeSize q_t_refused v_t_places q_t_ways v_t_people q_t_kind q_t_by q_t_home q_t_aim q_t_at0 v_t_hour v_t_chance v_t_seed w_t_kept w_t_tried v_t_at v_t_token v_t_from v_t_figures v_t_fault q_t_told v_t_statements q_t_steps q_t_spot q_t_then u10 v_t_gone q_t_sights q_t_darkAt q_t_can), (q_t_refused, .inl (cy 0, 8, .inl v_t_refused))]) [0, 1] (by decide) rfl
              refine xcQi (w1 := [(q_t, oX8 q_t_shelf q_t_rowSort q_t_rowSize q_t_rows q_t_moved q_t_shown q_t_tape v_t_tapeSize q_t_refused v_t_places q_t_ways v_t_people q_t_kind q_t_by q_t_home q_t_aim q_t_at0 v_t_hour v_t_chance v_t_seed w_t_kept w_t_tried v_t_at v_t_token v_t_from v_t_figures v_t_fault q_t_told v_t_statements q_t_steps q_t_spot q_t_then u10 v_t_gone q_t_sights q_t_darkAt q_t_can), (q_t_refused, .inl (cy 0, 8, .inl u31))]) (va_runV (As := [.int (-5 : Int32)]) (rest := []) ⟨hx, hb, hml, hown, hts⟩ (mX8_refuse l D cy q_t q_t_shelf q_t_rowSort q_t_rowSize q_t_rows q_t_moved q_t_shown q_t_tape q_t_refused q_t_ways q_t_kind q_t_by q_t_home q_t_aim q_t_at0 q_t_told q_t_steps q_t_spot q_t_then q_t_sights q_t_darkAt q_t_can v_t_tapeSize v_t_places v_t_people v_t_hour v_t_chance v_t_seed w_t_kept w_t_tried v_t_at v_t_token v_t_from v_t_figures v_t_fault v_t_statements u10 v_t_gone v_t_refused _ (-5 : Int32) hr32) (cwV 1 hts gX8_hidden_X8_refuse rfl rfl rfl (by decide +kernel) ⟨Nat.le_of_ble_eq_true rfl, Nat.le_of_ble_eq_true rfl⟩) (xPVw hK hPc hDc (ci := 8) (q0 := 0) rfl rfl) rfl rfl hl.1 rfl (lv_room (Nat.le_of_ble_eq_true rfl)) dX8_hidden_53 ⟨Nat.le_of_ble_eq_true rfl, Nat.le_of_ble_eq_true rfl⟩) hP hD hS hA [0, 1] rfl rfl (fun H locs hP hD hS => ?_)
              have hP : va_P D vwCl [(q_t, oX8 q_t_shelf q_t_rowSort q_t_rowSize q_t_rows q_t_moved q_t_shown q_t_tape v_t_tapeSize q_t_refused v_t_places q_t_ways v_t_people q_t_kind q_t_by q_t_home q_t_aim q_t_at0 v_t_hour v_t_chance v_t_seed w_t_kept w_t_tried v_t_at v_t_token v_t_from v_t_figures v_t_fault q_t_told v_t_statements q_t_steps q_t_spot q_t_then u10 v_t_gone q_t_sights q_t_darkAt q_t_can), (q_t_refused, .inl (cy 0, 8, .inl u31)), (q_t_ways, .inl (cy 0, 12, .inl v_t_ways)), (q_t_kind, .inl (cy 0, 8, .inl v_t_kind)), (q_t_home, .inl (cy 0, 8, .inl v_t_home)), (q_t_aim, .inl (cy 0, 8, .inl v_t_aim)), (q_t_at0, .inl (cy 0, 8, .inl v_t_at0)), (q_t_steps, .inl (cy 0, 12, .inl u11)), (q_t_spot, .inl (cy 0, 8, .inl u12)), (q_t_then, .inl (cy 0, 8, .inl u13)), (q_t_darkAt, .inl (cy 0, 25, .inl u14)), (q_t_can, .inl (cy 0, 25, .inl u15))] H := hP
              have hD : va_D A [(q_t, oX8 q_t_shelf q_t_rowSort q_t_rowSize q_t_rows q_t_moved q_t_shown q_t_tape v_t_tapeSize q_t_refused v_t_places q_t_ways v_t_people q_t_kind q_t_by q_t_home q_t_aim q_t_at0 v_t_hour v_t_chance v_t_seed w_t_kept w_t_tried v_t_at v_t_token v_t_from v_t_figures v_t_fault q_t_told v_t_statements q_t_steps q_t_spot q_t_then u10 v_t_gone q_t_sights q_t_darkAt q_t_can), (q_t_refused, .inl (cy 0, 8, .inl u31)), (q_t_ways, .inl (cy 0, 12, .inl v_t_ways)), (q_t_kind, .inl (cy 0, 8, .inl v_t_kind)), (q_t_home, .inl (cy 0, 8, .inl v_t_home)), (q_t_aim, .inl (cy 0, 8, .inl v_t_aim)), (q_t_at0, .inl (cy 0, 8, .inl v_t_at0)), (q_t_steps, .inl (cy 0, 12, .inl u11)), (q_t_spot, .inl (cy 0, 8, .inl u12)), (q_t_then, .inl (cy 0, 8, .inl u13)), (q_t_darkAt, .inl (cy 0, 25, .inl u14)), (q_t_can, .inl (cy 0, 25, .inl u15))] := hD
              cases hf
              exact W.iret hx hb hr (fun t ht hW => ⟨⟨_, (), rfl, rfl, xend ht hP⟩, hS.F ht⟩) hS.2.2 dX8_hidden_56
          · have hf := ifT hf c34
            clear c34
            refine lv_iload hx hb dX8_hidden_41 (lv_at hl 0 rfl) ?_
            cases hf
            exact W.iret hx hb hr (fun t ht hW => ⟨⟨_, (), rfl, rfl, xend ht hP⟩, hS.F ht⟩) hS.2.2 dX8_hidden_43
        · have hf := ifF hf c35
          clear c35
          exact J21 _ _ ls ⟨hP, hD, hS, lv_sub hl [0] rfl⟩ hf
def fX8_below (v_t_seed : Int32) (p0 : Int32) : Option (Int32 × Int32) :=
  if p0 = 0 then none else
  some (((((v_t_seed * (1103515245 : Int32)) + (12345 : Int32)).toUInt32 >>> ((16 : Int32).toUInt32 &&& Int32.toUInt32 31)).toInt32) - ((((v_t_seed * (1103515245 : Int32)) + (12345 : Int32)).toUInt32 >>> ((16 : Int32).toUInt32 &&& Int32.toUInt32 31)).toInt32) / p0 * p0, (v_t_seed * (1103515245 : Int32)) + (12345 : Int32))
set_option maxHeartbeats 4000000 in
set_option maxRecDepth 100000 in
theorem mX8_below (l : Launch) (D : va_G) (cy : Nat → ClassId) (q_t q_t_shelf q_t_rowSort q_t_rowSize q_t_rows q_t_moved q_t_shown q_t_tape q_t_refused q_t_ways q_t_kind q_t_by q_t_home q_t_aim q_t_at0 q_t_told q_t_steps q_t_spot q_t_then q_t_sights q_t_darkAt q_t_can : Nat) (v_t_tapeSize : Int32) (v_t_places : Int32) (v_t_people : Int32) (v_t_hour : Int32) (v_t_chance : Int32) (v_t_seed : Int32) (w_t_kept : Value) (w_t_tried : Value) (v_t_at : Int32) (v_t_token : Int32) (v_t_from : Int32) (v_t_figures : Int32) (v_t_fault : Int32) (v_t_statements : Int32) (v_t_now : Int32) (v_t_gone : Int32) (sz : Nat) (p0 : Int32) {r_ : Int32} {n_t_seed : Int32} (hf : fX8_below v_t_seed p0 = some (r_, n_t_seed)) : Met l yX8_below wsX8_below ({ frames := 0, cells := 0, slots := 0, locals := 0 }) (va_Pc [.ref q_t, .int p0] (fun U => U.heap.size = sz ∧ va_P D vwCl [(q_t, oX8 q_t_shelf q_t_rowSort q_t_rowSize q_t_rows q_t_moved q_t_shown q_t_tape v_t_tapeSize q_t_refused v_t_places q_t_ways v_t_people q_t_kind q_t_by q_t_home q_t_aim q_t_at0 v_t_hour v_t_chance v_t_seed w_t_kept w_t_tried v_t_at v_t_token v_t_from v_t_figures v_t_fault q_t_told v_t_statements q_t_steps q_t_spot q_t_then v_t_now v_t_gone q_t_sights q_t_darkAt q_t_can)] U.heap ∧ xK D cy U ∧ va_D (fun _ => True) [(q_t, oX8 q_t_shelf q_t_rowSort q_t_rowSize q_t_rows q_t_moved q_t_shown q_t_tape v_t_tapeSize q_t_refused v_t_places q_t_ways v_t_people q_t_kind q_t_by q_t_home q_t_aim q_t_at0 v_t_hour v_t_chance v_t_seed w_t_kept w_t_tried v_t_at v_t_token v_t_from v_t_figures v_t_fault q_t_told v_t_statements q_t_steps q_t_spot q_t_then v_t_now v_t_gone q_t_sights q_t_darkAt q_t_can)])) (va_Qi (fun (x : Int32) (_ : Unit) => x = r_) (fun _ t => va_P D vwCl [(q_t, oX8 q_t_shelf q_t_rowSort q_t_rowSize q_t_rows q_t_moved q_t_shown q_t_tape v_t_tapeSize q_t_refused v_t_places q_t_ways v_t_people q_t_kind q_t_by q_t_home q_t_aim q_t_at0 v_t_hour v_t_chance n_t_seed w_t_kept w_t_tried v_t_at v_t_token v_t_from v_t_figures v_t_fault q_t_told v_t_statements q_t_steps q_t_spot q_t_then v_t_now v_t_gone q_t_sights q_t_darkAt q_t_can)] t.heap) (va_A [(q_t, oX8 q_t_shelf q_t_rowSort q_t_rowSize q_t_rows q_t_moved q_t_shown q_t_tape v_t_tapeSize q_t_refused v_t_places q_t_ways v_t_people q_t_kind q_t_by q_t_home q_t_aim q_t_at0 v_t_hour v_t_chance v_t_seed w_t_kept w_t_tried v_t_at v_t_token v_t_from v_t_figures v_t_fault q_t_told v_t_statements q_t_steps q_t_spot q_t_then v_t_now v_t_gone q_t_sights q_t_darkAt q_t_can)] sz)) 0 0 (va_A [(q_t, oX8 q_t_shelf q_t_rowSort q_t_rowSize q_t_rows q_t_moved q_t_shown q_t_tape v_t_tapeSize q_t_refused v_t_places q_t_ways v_t_people q_t_kind q_t_by q_t_home q_t_aim q_t_at0 v_t_hour v_t_chance v_t_seed w_t_kept w_t_tried v_t_at v_t_token v_t_from v_t_figures v_t_fault q_t_told v_t_statements q_t_steps q_t_spot q_t_then v_t_now v_t_gone q_t_sights q_t_darkAt q_t_can)] sz) := by
  refine Met.ofW (cc := cX8_below) (maxL := 2) (ret := (some .int)) (by decide) rfl ?_
  intro p e s m args below meth c s₁ B hml hv
  obtain ⟨rfl, hsz, hP, hK, hD0⟩ := hv
  have hx := B.exec
  have hb := B.bytes
  have hr := B.returns
  have hts := atoms_spec (ws := wsX8_below) B.pre
  have hown : s.vm.findClass RX8 = some m.cls := findClass_of_methodNamed B.named
  have hlocks := B.notSynchronized
  subst hsz
  have hD := hD0.self (sz := s.heap.size)
  generalize hAe : va_A [(q_t, oX8 q_t_shelf q_t_rowSort q_t_rowSize q_t_rows q_t_moved q_t_shown q_t_tape v_t_tapeSize q_t_refused v_t_places q_t_ways v_t_people q_t_kind q_t_by q_t_home q_t_aim q_t_at0 v_t_hour v_t_chance v_t_seed w_t_kept w_t_tried v_t_at v_t_token v_t_from v_t_figures v_t_fault q_t_told v_t_statements q_t_steps q_t_spot q_t_then v_t_now v_t_gone q_t_sights q_t_darkAt q_t_can)] s.heap.size = A at hD ⊢
  have hA : ∀ q : Nat, s.heap.size ≤ q → A q := fun q h => by rw [← hAe]; exact Or.inr h
  have hS : va_S A s.heap s.heap [] := va_S.rf
  have hP : va_P D vwCl [(q_t, oX8 q_t_shelf q_t_rowSort q_t_rowSize q_t_rows q_t_moved q_t_shown q_t_tape v_t_tapeSize q_t_refused v_t_places q_t_ways v_t_people q_t_kind q_t_by q_t_home q_t_aim q_t_at0 v_t_hour v_t_chance v_t_seed w_t_kept w_t_tried v_t_at v_t_token v_t_from v_t_figures v_t_fault q_t_told v_t_statements q_t_steps q_t_spot q_t_then v_t_now v_t_gone q_t_sights q_t_darkAt q_t_can)] s.heap := hP
  have hinX8 : ∀ w ∈ u_ws RX8 TX8 37, w ∈ wsX8_below := by decide +kernel
  have hk62 := hts (.fieldLink RX8 62 "ShowsWhereNobodyIsModel" "seed" "I") (by decide +kernel)
  have hc317 := hts (.constant RX8 317 (1103515245)) (by decide +kernel)
  have hl := lv_entry ([.ref q_t, .int p0]) (n := 2) (Nat.le_of_ble_eq_true rfl)
  rw [lg_entry_eq]
  generalize (lg_sl ([.ref q_t, .int p0]) ++ List.replicate (2 - (lg_sl ([.ref q_t, .int p0])).length) Slot.unset).toArray = ls at hl ⊢
  have hl : lv_has ls 2 [(0, .ref q_t), (1, .int p0)] := hl
  unfold fX8_below at hf
  refine lv_aload_n hx hb dX8_below_0 rfl (lv_at hl 0 rfl) ?_
  refine lv_aload_n hx hb dX8_below_1 rfl (lv_at hl 0 rfl) ?_
  refine va_get (D := D) (ci := 8) (v := .int v_t_seed) (C := RX8) (T := TX8) (N := 37) hx hb hts hinX8 hown hK.1 hP 0 rfl rfl 19 (by decide) hk62 (fun _ h9 => h9) rfl dX8_below_2 ?_
  refine lv_ldcw hx hb hown hc317 dX8_below_5 ?_
  refine lv_imul hx hb dX8_below_8 ?_
  refine lv_sipush (v := 12345) hx hb dX8_below_9 (by decide) ?_
  refine lv_iadd hx hb dX8_below_12 ?_
  refine va_put (D := D) (ci := 8) (v := .int ((v_t_seed * (1103515245 : Int32)) + (12345 : Int32))) (ty := .int) (C := RX8) (T := TX8) (N := 37) hx hb hts hinX8 tyX8 tyX8_ok nmX8 hown hK.1 hP hD hS 0 rfl rfl 19 (by decide) hk62 (fun _ h9 => h9) rfl (by decide +kernel) rfl rfl (Nat.le_of_ble_eq_true rfl) dX8_below_13 (fun H locs hP hD hS => ?_)
  have hP : va_P D vwCl [(q_t, oX8 q_t_shelf q_t_rowSort q_t_rowSize q_t_rows q_t_moved q_t_shown q_t_tape v_t_tapeSize q_t_refused v_t_places q_t_ways v_t_people q_t_kind q_t_by q_t_home q_t_aim q_t_at0 v_t_hour v_t_chance ((v_t_seed * (1103515245 : Int32)) + (12345 : Int32)) w_t_kept w_t_tried v_t_at v_t_token v_t_from v_t_figures v_t_fault q_t_told v_t_statements q_t_steps q_t_spot q_t_then v_t_now v_t_gone q_t_sights q_t_darkAt q_t_can)] H := hP
  have hD : va_D A [(q_t, oX8 q_t_shelf q_t_rowSort q_t_rowSize q_t_rows q_t_moved q_t_shown q_t_tape v_t_tapeSize q_t_refused v_t_places q_t_ways v_t_people q_t_kind q_t_by q_t_home q_t_aim q_t_at0 v_t_hour v_t_chance ((v_t_seed * (1103515245 : Int32)) + (12345 : Int32)) w_t_kept w_t_tried v_t_at v_t_token v_t_from v_t_figures v_t_fault q_t_told v_t_statements q_t_steps q_t_spot q_t_then v_t_now v_t_gone q_t_sights q_t_darkAt q_t_can)] := hD
  refine lv_aload_n hx hb dX8_below_16 rfl (lv_at hl 0 rfl) ?_
  refine va_get (D := D) (ci := 8) (v := .int ((v_t_seed * (1103515245 : Int32)) + (12345 : Int32))) (C := RX8) (T := TX8) (N := 37) hx hb hts hinX8 hown hK.1 hP 0 rfl rfl 19 (by decide) hk62 (fun _ h9 => h9) rfl dX8_below_17 ?_
  refine lv_bipush (v := 16) hx hb dX8_below_20 (by decide) ?_
  refine lv_iushr hx hb dX8_below_22 rfl ?_
  refine lv_iload_n hx hb dX8_below_23 rfl (lv_at hl 1 rfl) ?_
  obtain ⟨hn1, hf⟩ := ckE hf
  refine lv_irem hx hb dX8_below_24 hn1 ?_
  cases hf
  exact W.iret hx hb hr (fun t ht hW => ⟨⟨_, (), rfl, rfl, xend ht hP⟩, hS.F ht⟩) hS.2.2 dX8_below_25
def fX8_stays (v_t_people : Int32) (v_t_now : Int32) (v_t_at0 : Nat → Int32) (v_t_spot : Nat → Int32) : Option (Int32 × (Nat → Int32)) :=
  lo2 (fun g3 (x1 : Int32) (u2 : Nat → Int32) =>
    if v_t_people ≤ x1 then
      some (v_t_now, u2)
    else
      if x1 < 0 ∨ 8 ≤ x1.toNatClampNeg then none else
      if x1 < 0 ∨ 8 ≤ x1.toNatClampNeg then none else
      vlet (x1 + (1 : Int32)) fun x6 =>
      g3 x6 (upd u2 x1.toNatClampNeg (v_t_spot x1.toNatClampNeg))) 400 (0 : Int32) v_t_at0
set_option maxHeartbeats 4000000 in
set_option maxRecDepth 100000 in
theorem mX8_stays (l : Launch) (D : va_G) (cy : Nat → ClassId) (q_t q_t_shelf q_t_rowSort q_t_rowSize q_t_rows q_t_moved q_t_shown q_t_tape q_t_refused q_t_ways q_t_kind q_t_by q_t_home q_t_aim q_t_at0 q_t_told q_t_steps q_t_spot q_t_then q_t_sights q_t_darkAt q_t_can : Nat) (v_t_tapeSize : Int32) (v_t_places : Int32) (v_t_people : Int32) (v_t_hour : Int32) (v_t_chance : Int32) (v_t_seed : Int32) (w_t_kept : Value) (w_t_tried : Value) (v_t_at : Int32) (v_t_token : Int32) (v_t_from : Int32) (v_t_figures : Int32) (v_t_fault : Int32) (v_t_statements : Int32) (v_t_now : Int32) (v_t_gone : Int32) (v_t_at0 : Nat → Int32) (v_t_spot : Nat → Int32) (sz : Nat) {n_t_hour : Int32} {n_t_at0 : Nat → Int32} (hf : fX8_stays v_t_people v_t_now v_t_at0 v_t_spot = some (n_t_hour, n_t_at0)) : Met l yX8_stays wsX8_stays ({ frames := 0, cells := 0, slots := 0, locals := 0 }) (va_Pc [.ref q_t] (fun U => U.heap.size = sz ∧ va_P D vwCl [(q_t, oX8 q_t_shelf q_t_rowSort q_t_rowSize q_t_rows q_t_moved q_t_shown q_t_tape v_t_tapeSize q_t_refused v_t_places q_t_ways v_t_people q_t_kind q_t_by q_t_home q_t_aim q_t_at0 v_t_hour v_t_chance v_t_seed w_t_kept w_t_tried v_t_at v_t_token v_t_from v_t_figures v_t_fault q_t_told v_t_statements q_t_steps q_t_spot q_t_then v_t_now v_t_gone q_t_sights q_t_darkAt q_t_can), (q_t_at0, .inl (cy 0, 8, .inl v_t_at0)), (q_t_spot, .inl (cy 0, 8, .inl v_t_spot))] U.heap ∧ xK D cy U ∧ va_D (fun _ => True) [(q_t, oX8 q_t_shelf q_t_rowSort q_t_rowSize q_t_rows q_t_moved q_t_shown q_t_tape v_t_tapeSize q_t_refused v_t_places q_t_ways v_t_people q_t_kind q_t_by q_t_home q_t_aim q_t_at0 v_t_hour v_t_chance v_t_seed w_t_kept w_t_tried v_t_at v_t_token v_t_from v_t_figures v_t_fault q_t_told v_t_statements q_t_steps q_t_spot q_t_then v_t_now v_t_gone q_t_sights q_t_darkAt q_t_can), (q_t_at0, .inl (cy 0, 8, .inl v_t_at0)), (q_t_spot, .inl (cy 0, 8, .inl v_t_spot))])) (va_Qv (fun (_ : Unit) => True) (fun _ t => va_P D vwCl [(q_t, oX8 q_t_shelf q_t_rowSort q_t_rowSize q_t_rows q_t_moved q_t_shown q_t_tape v_t_tapeSize q_t_refused v_t_places q_t_ways v_t_people q_t_kind q_t_by q_t_home q_t_aim q_t_at0 n_t_hour v_t_chance v_t_seed w_t_kept w_t_tried v_t_at v_t_token v_t_from v_t_figures v_t_fault q_t_told v_t_statements q_t_steps q_t_spot q_t_then v_t_now v_t_gone q_t_sights q_t_darkAt q_t_can), (q_t_at0, .inl (cy 0, 8, .inl n_t_at0)), (q_t_spot, .inl (cy 0, 8, .inl v_t_spot))] t.heap) (va_A [(q_t, oX8 q_t_shelf q_t_rowSort q_t_rowSize q_t_rows q_t_moved q_t_shown q_t_tape v_t_tapeSize q_t_refused v_t_places q_t_ways v_t_people q_t_kind q_t_by q_t_home q_t_aim q_t_at0 v_t_hour v_t_chance v_t_seed w_t_kept w_t_tried v_t_at v_t_token v_t_from v_t_figures v_t_fault q_t_told v_t_statements q_t_steps q_t_spot q_t_then v_t_now v_t_gone q_t_sights q_t_darkAt q_t_can), (q_t_at0, .inl (cy 0, 8, .inl v_t_at0)), (q_t_spot, .inl (cy 0, 8, .inl v_t_spot))] sz)) 0 0 (va_A [(q_t, oX8 q_t_shelf q_t_rowSort q_t_rowSize q_t_rows q_t_moved q_t_shown q_t_tape v_t_tapeSize q_t_refused v_t_places q_t_ways v_t_people q_t_kind q_t_by q_t_home q_t_aim q_t_at0 v_t_hour v_t_chance v_t_seed w_t_kept w_t_tried v_t_at v_t_token v_t_from v_t_figures v_t_fault q_t_told v_t_statements q_t_steps q_t_spot q_t_then v_t_now v_t_gone q_t_sights q_t_darkAt q_t_can), (q_t_at0, .inl (cy 0, 8, .inl v_t_at0)), (q_t_spot, .inl (cy 0, 8, .inl v_t_spot))] sz) := by
  refine Met.ofW (cc := cX8_stays) (maxL := 2) (ret := none) (by decide) rfl ?_
  intro p e s m args below meth c s₁ B hml hv
  obtain ⟨rfl, hsz, hP, hK, hD0⟩ := hv
  have hx := B.exec
  have hb := B.bytes
  have hr := B.returns
  have hts := atoms_spec (ws := wsX8_stays) B.pre
  have hown : s.vm.findClass RX8 = some m.cls := findClass_of_methodNamed B.named
  have hlocks := B.notSynchronized
  subst hsz
  have hD := hD0.self (sz := s.heap.size)
  generalize hAe : va_A [(q_t, oX8 q_t_shelf q_t_rowSort q_t_rowSize q_t_rows q_t_moved q_t_shown q_t_tape v_t_tapeSize q_t_refused v_t_places q_t_ways v_t_people q_t_kind q_t_by q_t_home q_t_aim q_t_at0 v_t_hour v_t_chance v_t_seed w_t_kept w_t_tried v_t_at v_t_token v_t_from v_t_figures v_t_fault q_t_told v_t_statements q_t_steps q_t_spot q_t_then v_t_now v_t_gone q_t_sights q_t_darkAt q_t_can), (q_t_at0, .inl (cy 0, 8, .inl v_t_at0)), (q_t_spot, .inl (cy 0, 8, .inl v_t_spot))] s.heap.size = A at hD ⊢
  have hA : ∀ q : Nat, s.heap.size ≤ q → A q := fun q h => by rw [← hAe]; exact Or.inr h
  have hS : va_S A s.heap s.heap [] := va_S.rf
  have hP : va_P D vwCl [(q_t, oX8 q_t_shelf q_t_rowSort q_t_rowSize q_t_rows q_t_moved q_t_shown q_t_tape v_t_tapeSize q_t_refused v_t_places q_t_ways v_t_people q_t_kind q_t_by q_t_home q_t_aim q_t_at0 v_t_hour v_t_chance v_t_seed w_t_kept w_t_tried v_t_at v_t_token v_t_from v_t_figures v_t_fault q_t_told v_t_statements q_t_steps q_t_spot q_t_then v_t_now v_t_gone q_t_sights q_t_darkAt q_t_can), (q_t_at0, .inl (cy 0, 8, .inl v_t_at0)), (q_t_spot, .inl (cy 0, 8, .inl v_t_spot))] s.heap := hP
  have hinX8 : ∀ w ∈ u_ws RX8 TX8 37, w ∈ wsX8_stays := by decide +kernel
  have hk95 := hts (.fieldLink RX8 95 "ShowsWhereNobodyIsModel" "people" "I") (by decide +kernel)
  have hk254 := hts (.fieldLink RX8 254 "ShowsWhereNobodyIsModel" "now" "I") (by decide +kernel)
  have hk153 := hts (.fieldLink RX8 153 "ShowsWhereNobodyIsModel" "hour" "I") (by decide +kernel)
  have hk56 := hts (.fieldLink RX8 56 "ShowsWhereNobodyIsModel" "at0" "[I") (by decide +kernel)
  have hk71 := hts (.fieldLink RX8 71 "ShowsWhereNobodyIsModel" "spot" "[I") (by decide +kernel)
  have hl := lv_entry ([.ref q_t]) (n := 2) (Nat.le_of_ble_eq_true rfl)
  rw [lg_entry_eq]
  generalize (lg_sl ([.ref q_t]) ++ List.replicate (2 - (lg_sl ([.ref q_t])).length) Slot.unset).toArray = ls at hl ⊢
  have hl : lv_has ls 2 [(0, .ref q_t)] := hl
  unfold fX8_stays at hf
  refine lv_iconst (v := 0) hx hb dX8_stays_0 (by decide) ?_
  refine lv_istore_n (lv' := [(1, .int (0 : Int32)), (0, .ref q_t)]) hx hb dX8_stays_1 rfl hl (by decide) rfl (fun ls hl => ?_)
  refine wlw2 2 (fun _ _ => []) (fun (x1 : Int32) (u2 : Nat → Int32) H locs ls => va_P D vwCl [(q_t, oX8 q_t_shelf q_t_rowSort q_t_rowSize q_t_rows q_t_moved q_t_shown q_t_tape v_t_tapeSize q_t_refused v_t_places q_t_ways v_t_people q_t_kind q_t_by q_t_home q_t_aim q_t_at0 v_t_hour v_t_chance v_t_seed w_t_kept w_t_tried v_t_at v_t_token v_t_from v_t_figures v_t_fault q_t_told v_t_statements q_t_steps q_t_spot q_t_then v_t_now v_t_gone q_t_sights q_t_darkAt q_t_can), (q_t_at0, .inl (cy 0, 8, .inl u2)), (q_t_spot, .inl (cy 0, 8, .inl v_t_spot))] H ∧ va_D A [(q_t, oX8 q_t_shelf q_t_rowSort q_t_rowSize q_t_rows q_t_moved q_t_shown q_t_tape v_t_tapeSize q_t_refused v_t_places q_t_ways v_t_people q_t_kind q_t_by q_t_home q_t_aim q_t_at0 v_t_hour v_t_chance v_t_seed w_t_kept w_t_tried v_t_at v_t_token v_t_from v_t_figures v_t_fault q_t_told v_t_statements q_t_steps q_t_spot q_t_then v_t_now v_t_gone q_t_sights q_t_darkAt q_t_can), (q_t_at0, .inl (cy 0, 8, .inl u2)), (q_t_spot, .inl (cy 0, 8, .inl v_t_spot))] ∧ va_S A s.heap H locs ∧ lv_has ls 2 [(1, .int x1), (0, .ref q_t)]) (fun g3 L2 x1 u2 H locs ls hI hf => ?_) 400 (0 : Int32) v_t_at0 _ _ ls ⟨hP, hD, hS, lv_sub hl [0, 1] rfl⟩ hf
  obtain ⟨hP, hD, hS, hl⟩ := hI
  refine lv_iload_n hx hb dX8_stays_2 rfl (lv_at hl 0 rfl) ?_
  refine lv_aload_n hx hb dX8_stays_3 rfl (lv_at hl 1 rfl) ?_
  refine va_get (D := D) (ci := 8) (v := .int v_t_people) (C := RX8) (T := TX8) (N := 37) hx hb hts hinX8 hown hK.1 hP 0 rfl rfl 11 (by decide) hk95 (fun _ h9 => h9) rfl dX8_stays_4 ?_
  refine lv_icmp_ge (tgt := 28) hx hb dX8_stays_7 (by decide) (fun c7 => ?_) (fun c7 => ?_)
  · have hf := ifT hf c7
    clear c7
    refine lv_aload_n hx hb dX8_stays_28 rfl (lv_at hl 1 rfl) ?_
    refine lv_aload_n hx hb dX8_stays_29 rfl (lv_at hl 1 rfl) ?_
    refine va_get (D := D) (ci := 8) (v := .int v_t_now) (C := RX8) (T := TX8) (N := 37) hx hb hts hinX8 hown hK.1 hP 0 rfl rfl 32 (by decide) hk254 (fun _ h9 => h9) rfl dX8_stays_30 ?_
    refine va_put (D := D) (ci := 8) (v := .int v_t_now) (ty := .int) (C := RX8) (T := TX8) (N := 37) hx hb hts hinX8 tyX8 tyX8_ok nmX8 hown hK.1 hP hD hS 0 rfl rfl 17 (by decide) hk153 (fun _ h9 => h9) rfl (by decide +kernel) rfl rfl (Nat.le_of_ble_eq_true rfl) dX8_stays_33 (fun H locs hP hD hS => ?_)
    have hP : va_P D vwCl [(q_t, oX8 q_t_shelf q_t_rowSort q_t_rowSize q_t_rows q_t_moved q_t_shown q_t_tape v_t_tapeSize q_t_refused v_t_places q_t_ways v_t_people q_t_kind q_t_by q_t_home q_t_aim q_t_at0 v_t_now v_t_chance v_t_seed w_t_kept w_t_tried v_t_at v_t_token v_t_from v_t_figures v_t_fault q_t_told v_t_statements q_t_steps q_t_spot q_t_then v_t_now v_t_gone q_t_sights q_t_darkAt q_t_can), (q_t_at0, .inl (cy 0, 8, .inl u2)), (q_t_spot, .inl (cy 0, 8, .inl v_t_spot))] H := hP
    have hD : va_D A [(q_t, oX8 q_t_shelf q_t_rowSort q_t_rowSize q_t_rows q_t_moved q_t_shown q_t_tape v_t_tapeSize q_t_refused v_t_places q_t_ways v_t_people q_t_kind q_t_by q_t_home q_t_aim q_t_at0 v_t_now v_t_chance v_t_seed w_t_kept w_t_tried v_t_at v_t_token v_t_from v_t_figures v_t_fault q_t_told v_t_statements q_t_steps q_t_spot q_t_then v_t_now v_t_gone q_t_sights q_t_darkAt q_t_can), (q_t_at0, .inl (cy 0, 8, .inl u2)), (q_t_spot, .inl (cy 0, 8, .inl v_t_spot))] := hD
    cases hf
    exact W.vret hx hb hr (fun t ht hW => ⟨⟨(), rfl, trivial, xend ht hP⟩, hS.F ht⟩) hS.2.2 dX8_stays_36
  · have hf := ifF hf c7
    clear c7
    refine lv_aload_n hx hb dX8_stays_10 rfl (lv_at hl 1 rfl) ?_
    refine va_get (D := D) (ci := 8) (v := .ref q_t_at0) (C := RX8) (T := TX8) (N := 37) hx hb hts hinX8 hown hK.1 hP 0 rfl rfl 16 (by decide) hk56 (fun _ h9 => h9) rfl dX8_stays_11 ?_
    refine lv_iload_n hx hb dX8_stays_14 rfl (lv_at hl 0 rfl) ?_
    refine lv_aload_n hx hb dX8_stays_15 rfl (lv_at hl 1 rfl) ?_
    refine va_get (D := D) (ci := 8) (v := .ref q_t_spot) (C := RX8) (T := TX8) (N := 37) hx hb hts hinX8 hown hK.1 hP 0 rfl rfl 30 (by decide) hk71 (fun _ h9 => h9) rfl dX8_stays_16 ?_
    refine lv_iload_n hx hb dX8_stays_19 rfl (lv_at hl 0 rfl) ?_
    obtain ⟨hi4, hf⟩ := ckE hf
    refine va_iald hx hb hK.1 hP 2 0 rfl rfl hi4 dX8_stays_20 ?_
    obtain ⟨hi5, hf⟩ := ckE hf
    refine va_iast hx hb hK.1 hP hD hS 1 0 rfl rfl hi5 dX8_stays_21 (fun H locs hP hD hS => ?_)
    have hP : va_P D vwCl [(q_t, oX8 q_t_shelf q_t_rowSort q_t_rowSize q_t_rows q_t_moved q_t_shown q_t_tape v_t_tapeSize q_t_refused v_t_places q_t_ways v_t_people q_t_kind q_t_by q_t_home q_t_aim q_t_at0 v_t_hour v_t_chance v_t_seed w_t_kept w_t_tried v_t_at v_t_token v_t_from v_t_figures v_t_fault q_t_told v_t_statements q_t_steps q_t_spot q_t_then v_t_now v_t_gone q_t_sights q_t_darkAt q_t_can), (q_t_at0, .inl (cy 0, 8, .inl (upd u2 x1.toNatClampNeg (v_t_spot x1.toNatClampNeg)))), (q_t_spot, .inl (cy 0, 8, .inl v_t_spot))] H := hP
    have hD : va_D A [(q_t, oX8 q_t_shelf q_t_rowSort q_t_rowSize q_t_rows q_t_moved q_t_shown q_t_tape v_t_tapeSize q_t_refused v_t_places q_t_ways v_t_people q_t_kind q_t_by q_t_home q_t_aim q_t_at0 v_t_hour v_t_chance v_t_seed w_t_kept w_t_tried v_t_at v_t_token v_t_from v_t_figures v_t_fault q_t_told v_t_statements q_t_steps q_t_spot q_t_then v_t_now v_t_gone q_t_sights q_t_darkAt q_t_can), (q_t_at0, .inl (cy 0, 8, .inl (upd u2 x1.toNatClampNeg (v_t_spot x1.toNatClampNeg)))), (q_t_spot, .inl (cy 0, 8, .inl v_t_spot))] := hD
    obtain ⟨x6, ex6⟩ : ∃ y : Int32, y = x1 + (1 : Int32) := ⟨_, rfl⟩
    have hf := vlE hf ex6
    refine lv_iinc (v := x6) (lv' := [(1, .int x6), (0, .ref q_t)]) hx hb dX8_stays_22 hl (k := 0) rfl (by rw [ex6]; rfl) (by decide) rfl (fun ls hl => ?_)
    clear ex6
    refine lv_goto (tgt := 2) hx hb dX8_stays_25 (by decide) ?_
    exact L2 x6 (upd u2 x1.toNatClampNeg (v_t_spot x1.toNatClampNeg)) _ _ ls ⟨hP, hD, hS, lv_sub hl [0, 1] rfl⟩ hf
def fX8_hours (v_t_places : Int32) (v_t_people : Int32) (v_t_hour : Int32) (v_t_now : Int32) (v_t_gone : Int32) (v_t_refused : Nat → Int32) (v_t_ways : Nat → Int32) (v_t_kind : Nat → Int32) (v_t_home : Nat → Int32) (v_t_aim : Nat → Int32) (v_t_at0 : Nat → Int32) (v_t_steps : Nat → Int32) (v_t_spot : Nat → Int32) (v_t_then : Nat → Int32) (p0 : Int32) : Option (Int32 × Int32 × Int32 × (Nat → Int32) × (Nat → Int32) × (Nat → Int32) × (Nat → Int32) × (Nat → Int32)) :=
  bo1 (fX8_in p0.toInt64 (1 : Int64) (48 : Int64)) fun r1 =>
  if r1 = 0 then
    bo2 (fX8_refuse v_t_refused (-2 : Int32)) fun r13 u14 =>
    some (r13, v_t_hour, v_t_now, u14, v_t_at0, v_t_steps, v_t_spot, v_t_then)
  else
    bo4 (fX8_goesOn v_t_places v_t_people v_t_hour v_t_gone v_t_ways v_t_kind v_t_home v_t_aim v_t_at0 v_t_steps v_t_spot v_t_then p0) fun u3 u4 u5 u6 =>
    bo2 (fX8_stays v_t_people u3 v_t_at0 u5) fun u8 u9 =>
    bo1 (fX8_light v_t_places v_t_people v_t_gone v_t_kind u5) fun r11 =>
    some (r11, u8, u3, v_t_refused, u9, u4, u5, u6)
set_option maxHeartbeats 4000000 in
set_option maxRecDepth 100000 in
theorem mX8_hours (l : Launch) (D : va_G) (cy : Nat → ClassId) (q_t q_t_shelf q_t_rowSort q_t_rowSize q_t_rows q_t_moved q_t_shown q_t_tape q_t_refused q_t_ways q_t_kind q_t_by q_t_home q_t_aim q_t_at0 q_t_told q_t_steps q_t_spot q_t_then q_t_sights q_t_darkAt q_t_can : Nat) (v_t_tapeSize : Int32) (v_t_places : Int32) (v_t_people : Int32) (v_t_hour : Int32) (v_t_chance : Int32) (v_t_seed : Int32) (w_t_kept : Value) (w_t_tried : Value) (v_t_at : Int32) (v_t_token : Int32) (v_t_from : Int32) (v_t_figures : Int32) (v_t_fault : Int32) (v_t_statements : Int32) (v_t_now : Int32) (v_t_gone : Int32) (v_t_refused : Nat → Int32) (v_t_ways : Nat → Int32) (v_t_kind : Nat → Int32) (v_t_home : Nat → Int32) (v_t_aim : Nat → Int32) (v_t_at0 : Nat → Int32) (v_t_steps : Nat → Int32) (v_t_spot : Nat → Int32) (v_t_then : Nat → Int32) (sz : Nat) (p0 : Int32) {r_ : Int32} {n_t_hour : Int32} {n_t_now : Int32} {n_t_refused : Nat → Int32} {n_t_at0 : Nat → Int32} {n_t_steps : Nat → Int32} {n_t_spot : Nat → Int32} {n_t_then : Nat → Int32} (hf : fX8_hours v_t_places v_t_people v_t_hour v_t_now v_t_gone v_t_refused v_t_ways v_t_kind v_t_home v_t_aim v_t_at0 v_t_steps v_t_spot v_t_then p0 = some (r_, n_t_hour, n_t_now, n_t_refused, n_t_at0, n_t_steps, n_t_spot, n_t_then)) : Met l yX8_hours wsX8_hours ({ frames := 5, cells := 0, slots := 0, locals := 112 }) (va_Pc [.ref q_t, .int p0] (fun U => U.heap.size = sz ∧ va_P D vwCl [(q_t, oX8 q_t_shelf q_t_rowSort q_t_rowSize q_t_rows q_t_moved q_t_shown q_t_tape v_t_tapeSize q_t_refused v_t_places q_t_ways v_t_people q_t_kind q_t_by q_t_home q_t_aim q_t_at0 v_t_hour v_t_chance v_t_seed w_t_kept w_t_tried v_t_at v_t_token v_t_from v_t_figures v_t_fault q_t_told v_t_statements q_t_steps q_t_spot q_t_then v_t_now v_t_gone q_t_sights q_t_darkAt q_t_can), (q_t_refused, .inl (cy 0, 8, .inl v_t_refused)), (q_t_ways, .inl (cy 0, 12, .inl v_t_ways)), (q_t_kind, .inl (cy 0, 8, .inl v_t_kind)), (q_t_home, .inl (cy 0, 8, .inl v_t_home)), (q_t_aim, .inl (cy 0, 8, .inl v_t_aim)), (q_t_at0, .inl (cy 0, 8, .inl v_t_at0)), (q_t_steps, .inl (cy 0, 12, .inl v_t_steps)), (q_t_spot, .inl (cy 0, 8, .inl v_t_spot)), (q_t_then, .inl (cy 0, 8, .inl v_t_then))] U.heap ∧ xK D cy U ∧ va_D (fun _ => True) [(q_t, oX8 q_t_shelf q_t_rowSort q_t_rowSize q_t_rows q_t_moved q_t_shown q_t_tape v_t_tapeSize q_t_refused v_t_places q_t_ways v_t_people q_t_kind q_t_by q_t_home q_t_aim q_t_at0 v_t_hour v_t_chance v_t_seed w_t_kept w_t_tried v_t_at v_t_token v_t_from v_t_figures v_t_fault q_t_told v_t_statements q_t_steps q_t_spot q_t_then v_t_now v_t_gone q_t_sights q_t_darkAt q_t_can), (q_t_refused, .inl (cy 0, 8, .inl v_t_refused)), (q_t_ways, .inl (cy 0, 12, .inl v_t_ways)), (q_t_kind, .inl (cy 0, 8, .inl v_t_kind)), (q_t_home, .inl (cy 0, 8, .inl v_t_home)), (q_t_aim, .inl (cy 0, 8, .inl v_t_aim)), (q_t_at0, .inl (cy 0, 8, .inl v_t_at0)), (q_t_steps, .inl (cy 0, 12, .inl v_t_steps)), (q_t_spot, .inl (cy 0, 8, .inl v_t_spot)), (q_t_then, .inl (cy 0, 8, .inl v_t_then))])) (va_Qi (fun (x : Int32) (_ : Unit) => x = r_) (fun _ t => va_P D vwCl [(q_t, oX8 q_t_shelf q_t_rowSort q_t_rowSize q_t_rows q_t_moved q_t_shown q_t_tape v_t_tapeSize q_t_refused v_t_places q_t_ways v_t_people q_t_kind q_t_by q_t_home q_t_aim q_t_at0 n_t_hour v_t_chance v_t_seed w_t_kept w_t_tried v_t_at v_t_token v_t_from v_t_figures v_t_fault q_t_told v_t_statements q_t_steps q_t_spot q_t_then n_t_now v_t_gone q_t_sights q_t_darkAt q_t_can), (q_t_refused, .inl (cy 0, 8, .inl n_t_refused)), (q_t_ways, .inl (cy 0, 12, .inl v_t_ways)), (q_t_kind, .inl (cy 0, 8, .inl v_t_kind)), (q_t_home, .inl (cy 0, 8, .inl v_t_home)), (q_t_aim, .inl (cy 0, 8, .inl v_t_aim)), (q_t_at0, .inl (cy 0, 8, .inl n_t_at0)), (q_t_steps, .inl (cy 0, 12, .inl n_t_steps)), (q_t_spot, .inl (cy 0, 8, .inl n_t_spot)), (q_t_then, .inl (cy 0, 8, .inl n_t_then))] t.heap) (va_A [(q_t, oX8 q_t_shelf q_t_rowSort q_t_rowSize q_t_rows q_t_moved q_t_shown q_t_tape v_t_tapeSize q_t_refused v_t_places q_t_ways v_t_people q_t_kind q_t_by q_t_home q_t_aim q_t_at0 v_t_hour v_t_chance v_t_seed w_t_kept w_t_tried v_t_at v_t_token v_t_from v_t_figures v_t_fault q_t_told v_t_statements q_t_steps q_t_spot q_t_then v_t_now v_t_gone q_t_sights q_t_darkAt q_t_can), (q_t_refused, .inl (cy 0, 8, .inl v_t_refused)), (q_t_ways, .inl (cy 0, 12, .inl v_t_ways)), (q_t_kind, .inl (cy 0, 8, .inl v_t_kind)), (q_t_home, .inl (cy 0, 8, .inl v_t_home)), (q_t_aim, .inl (cy 0, 8, .inl v_t_aim)), (q_t_at0, .inl (cy 0, 8, .inl v_t_at0)), (q_t_steps, .inl (cy 0, 12, .inl v_t_steps)), (q_t_spot, .inl (cy 0, 8, .inl v_t_spot)), (q_t_then, .inl (cy 0, 8, .inl v_t_then))] sz)) 0 0 (va_A [(q_t, oX8 q_t_shelf q_t_rowSort q_t_rowSize q_t_rows q_t_moved q_t_shown q_t_tape v_t_tapeSize q_t_refused v_t_places q_t_ways v_t_people q_t_kind q_t_by q_t_home q_t_aim q_t_at0 v_t_hour v_t_chance v_t_seed w_t_kept w_t_tried v_t_at v_t_token v_t_from v_t_figures v_t_fault q_t_told v_t_statements q_t_steps q_t_spot q_t_then v_t_now v_t_gone q_t_sights q_t_darkAt q_t_can), (q_t_refused, .inl (cy 0, 8, .inl v_t_refused)), (q_t_ways, .inl (cy 0, 12, .inl v_t_ways)), (q_t_kind, .inl (cy 0, 8, .inl v_t_kind)), (q_t_home, .inl (cy 0, 8, .inl v_t_home)), (q_t_aim, .inl (cy 0, 8, .inl v_t_aim)), (q_t_at0, .inl (cy 0, 8, .inl v_t_at0)), (q_t_steps, .inl (cy 0, 12, .inl v_t_steps)), (q_t_spot, .inl (cy 0, 8, .inl v_t_spot)), (q_t_then, .inl (cy 0, 8, .inl v_t_then))] sz) := by
  refine Met.ofW (cc := cX8_hours) (maxL := 2) (ret := (some .int)) (by decide) rfl ?_
  intro p e s m args below meth c s₁ B hml hv
  obtain ⟨rfl, hsz, hP, hK, hD0⟩ := hv
  have hx := B.exec
  have hb := B.bytes
  have hr := B.returns
  have hts := atoms_spec (ws := wsX8_hours) B.pre
  have hown : s.vm.findClass RX8 = some m.cls := findClass_of_methodNamed B.named
  have hlocks := B.notSynchronized
  subst hsz
  have hD := hD0.self (sz := s.heap.size)
  generalize hAe : va_A [(q_t, oX8 q_t_shelf q_t_rowSort q_t_rowSize q_t_rows q_t_moved q_t_shown q_t_tape v_t_tapeSize q_t_refused v_t_places q_t_ways v_t_people q_t_kind q_t_by q_t_home q_t_aim q_t_at0 v_t_hour v_t_chance v_t_seed w_t_kept w_t_tried v_t_at v_t_token v_t_from v_t_figures v_t_fault q_t_told v_t_statements q_t_steps q_t_spot q_t_then v_t_now v_t_gone q_t_sights q_t_darkAt q_t_can), (q_t_refused, .inl (cy 0, 8, .inl v_t_refused)), (q_t_ways, .inl (cy 0, 12, .inl v_t_ways)), (q_t_kind, .inl (cy 0, 8, .inl v_t_kind)), (q_t_home, .inl (cy 0, 8, .inl v_t_home)), (q_t_aim, .inl (cy 0, 8, .inl v_t_aim)), (q_t_at0, .inl (cy 0, 8, .inl v_t_at0)), (q_t_steps, .inl (cy 0, 12, .inl v_t_steps)), (q_t_spot, .inl (cy 0, 8, .inl v_t_spot)), (q_t_then, .inl (cy 0, 8, .inl v_t_then))] s.heap.size = A at hD ⊢
  have hA : ∀ q : Nat, s.heap.size ≤ q → A q := fun q h => by rw [← hAe]; exact Or.inr h
  have hS : va_S A s.heap s.heap [] := va_S.rf
  have hP : va_P D vwCl [(q_t, oX8 q_t_shelf q_t_rowSort q_t_rowSize q_t_rows q_t_moved q_t_shown q_t_tape v_t_tapeSize q_t_refused v_t_places q_t_ways v_t_people q_t_kind q_t_by q_t_home q_t_aim q_t_at0 v_t_hour v_t_chance v_t_seed w_t_kept w_t_tried v_t_at v_t_token v_t_from v_t_figures v_t_fault q_t_told v_t_statements q_t_steps q_t_spot q_t_then v_t_now v_t_gone q_t_sights q_t_darkAt q_t_can), (q_t_refused, .inl (cy 0, 8, .inl v_t_refused)), (q_t_ways, .inl (cy 0, 12, .inl v_t_ways)), (q_t_kind, .inl (cy 0, 8, .inl v_t_kind)), (q_t_home, .inl (cy 0, 8, .inl v_t_home)), (q_t_aim, .inl (cy 0, 8, .inl v_t_aim)), (q_t_at0, .inl (cy 0, 8, .inl v_t_at0)), (q_t_steps, .inl (cy 0, 12, .inl v_t_steps)), (q_t_spot, .inl (cy 0, 8, .inl v_t_spot)), (q_t_then, .inl (cy 0, 8, .inl v_t_then))] s.heap := hP
  have hc277 := hts (.constantLong RX8 277 (48)) (by decide +kernel)
  have hl := lv_entry ([.ref q_t, .int p0]) (n := 2) (Nat.le_of_ble_eq_true rfl)
  rw [lg_entry_eq]
  generalize (lg_sl ([.ref q_t, .int p0]) ++ List.replicate (2 - (lg_sl ([.ref q_t, .int p0])).length) Slot.unset).toArray = ls at hl ⊢
  have hl : lv_has ls 2 [(0, .ref q_t), (1, .int p0)] := hl
  unfold fX8_hours at hf
  refine lv_iload_n hx hb dX8_hours_0 rfl (lv_at hl 1 rfl) ?_
  refine lv_i2l hx hb dX8_hours_1 rfl ?_
  refine lv_lconst (v := 1) hx hb dX8_hours_2 (by decide) ?_
  refine lv_ldc2 hx hb hown hc277 dX8_hours_3 ?_
  obtain ⟨r1, hr2, hf⟩ := boE1 hf
  have hPc := hP.sub (ws' := []) [] rfl
  refine xcSi (va_runS (As := [.long p0.toInt64, .long (1 : Int64), .long (48 : Int64)]) (rest := []) ⟨hx, hb, hml, hown, hts⟩ (mX8_in l D cy    p0.toInt64 (1 : Int64) (48 : Int64) hr2) (va_cwS 3 hts gX8_hours_X8_in rfl rfl rfl (by decide +kernel) ⟨Nat.le_of_ble_eq_true rfl, Nat.le_of_ble_eq_true rfl⟩) (xPS hK hPc) rfl rfl hl.1 rfl (lv_room (Nat.le_of_ble_eq_true rfl)) dX8_hours_6 ⟨Nat.le_of_ble_eq_true rfl, Nat.le_of_ble_eq_true rfl⟩) ?_
  refine lv_if_ne (tgt := 19) hx hb dX8_hours_9 (by decide) (fun c16 => ?_) (fun c16 => ?_)
  · have hf := ifF hf c16
    clear c16
    refine lv_aload_n hx hb dX8_hours_19 rfl (lv_at hl 0 rfl) ?_
    refine lv_iload_n hx hb dX8_hours_20 rfl (lv_at hl 1 rfl) ?_
    obtain ⟨u3, u4, u5, u6, hr7, hf⟩ := boE4 hf
    have hPc := hP.sub (ws' := [(q_t, oX8 q_t_shelf q_t_rowSort q_t_rowSize q_t_rows q_t_moved q_t_shown q_t_tape v_t_tapeSize q_t_refused v_t_places q_t_ways v_t_people q_t_kind q_t_by q_t_home q_t_aim q_t_at0 v_t_hour v_t_chance v_t_seed w_t_kept w_t_tried v_t_at v_t_token v_t_from v_t_figures v_t_fault q_t_told v_t_statements q_t_steps q_t_spot q_t_then v_t_now v_t_gone q_t_sights q_t_darkAt q_t_can), (q_t_ways, .inl (cy 0, 12, .inl v_t_ways)), (q_t_kind, .inl (cy 0, 8, .inl v_t_kind)), (q_t_home, .inl (cy 0, 8, .inl v_t_home)), (q_t_aim, .inl (cy 0, 8, .inl v_t_aim)), (q_t_at0, .inl (cy 0, 8, .inl v_t_at0)), (q_t_steps, .inl (cy 0, 12, .inl v_t_steps)), (q_t_spot, .inl (cy 0, 8, .inl v_t_spot)), (q_t_then, .inl (cy 0, 8, .inl v_t_then))]) [0, 2, 3, 4, 5, 6, 7, 8, 9] rfl
    have hDc := hD.sub (ws' := [(q_t, oX8 q_t_shelf q_t_rowSort q_t_rowSize q_t_rows q_t_moved q_t_shown q_t_tape v_t_tapeSize q_t_refused v_t_places q_t_ways v_t_people q_t_kind q_t_by q_t_home q_t_aim q_t_at0 v_t_hour v_t_chance v_t_seed w_t_kept w_t_tried v_t_at v_t_token v_t_from v_t_figures v_t_fault q_t_told v_t_statements q_t_steps q_t_spot q_t_then v_t_now v_t_gone q_t_sights q_t_darkAt q_t_can), (q_t_ways, .inl (cy 0, 12, .inl v_t_ways)), (q_t_kind, .inl (cy 0, 8, .inl v_t_kind)), (q_t_home, .inl (cy 0, 8, .inl v_t_home)), (q_t_aim, .inl (cy 0, 8, .inl v_t_aim)), (q_t_at0, .inl (cy 0, 8, .inl v_t_at0)), (q_t_steps, .inl (cy 0, 12, .inl v_t_steps)), (q_t_spot, .inl (cy 0, 8, .inl v_t_spot)), (q_t_then, .inl (cy 0, 8, .inl v_t_then))]) [0, 2, 3, 4, 5, 6, 7, 8, 9] (by decide) rfl
    refine xcQv (w1 := [(q_t, oX8 q_t_shelf q_t_rowSort q_t_rowSize q_t_rows q_t_moved q_t_shown q_t_tape v_t_tapeSize q_t_refused v_t_places q_t_ways v_t_people q_t_kind q_t_by q_t_home q_t_aim q_t_at0 v_t_hour v_t_chance v_t_seed w_t_kept w_t_tried v_t_at v_t_token v_t_from v_t_figures v_t_fault q_t_told v_t_statements q_t_steps q_t_spot q_t_then u3 v_t_gone q_t_sights q_t_darkAt q_t_can), (q_t_ways, .inl (cy 0, 12, .inl v_t_ways)), (q_t_kind, .inl (cy 0, 8, .inl v_t_kind)), (q_t_home, .inl (cy 0, 8, .inl v_t_home)), (q_t_aim, .inl (cy 0, 8, .inl v_t_aim)), (q_t_at0, .inl (cy 0, 8, .inl v_t_at0)), (q_t_steps, .inl (cy 0, 12, .inl u4)), (q_t_spot, .inl (cy 0, 8, .inl u5)), (q_t_then, .inl (cy 0, 8, .inl u6))]) (va_runV (As := [.int p0]) (rest := []) ⟨hx, hb, hml, hown, hts⟩ (mX8_goesOn l D cy q_t q_t_shelf q_t_rowSort q_t_rowSize q_t_rows q_t_moved q_t_shown q_t_tape q_t_refused q_t_ways q_t_kind q_t_by q_t_home q_t_aim q_t_at0 q_t_told q_t_steps q_t_spot q_t_then q_t_sights q_t_darkAt q_t_can v_t_tapeSize v_t_places v_t_people v_t_hour v_t_chance v_t_seed w_t_kept w_t_tried v_t_at v_t_token v_t_from v_t_figures v_t_fault v_t_statements v_t_now v_t_gone v_t_ways v_t_kind v_t_home v_t_aim v_t_at0 v_t_steps v_t_spot v_t_then _ p0 hr7) (cwV 1 hts gX8_hours_X8_goesOn rfl rfl rfl (by decide +kernel) ⟨Nat.le_of_ble_eq_true rfl, Nat.le_of_ble_eq_true rfl⟩) (xPVw hK hPc hDc (ci := 8) (q0 := 0) rfl rfl) rfl rfl hl.1 rfl (lv_room (Nat.le_of_ble_eq_true rfl)) dX8_hours_21 ⟨Nat.le_of_ble_eq_true rfl, Nat.le_of_ble_eq_true rfl⟩) hP hD hS hA [0, 2, 3, 4, 5, 6, 7, 8, 9] rfl rfl (fun H locs hP hD hS => ?_)
    have hP : va_P D vwCl [(q_t, oX8 q_t_shelf q_t_rowSort q_t_rowSize q_t_rows q_t_moved q_t_shown q_t_tape v_t_tapeSize q_t_refused v_t_places q_t_ways v_t_people q_t_kind q_t_by q_t_home q_t_aim q_t_at0 v_t_hour v_t_chance v_t_seed w_t_kept w_t_tried v_t_at v_t_token v_t_from v_t_figures v_t_fault q_t_told v_t_statements q_t_steps q_t_spot q_t_then u3 v_t_gone q_t_sights q_t_darkAt q_t_can), (q_t_refused, .inl (cy 0, 8, .inl v_t_refused)), (q_t_ways, .inl (cy 0, 12, .inl v_t_ways)), (q_t_kind, .inl (cy 0, 8, .inl v_t_kind)), (q_t_home, .inl (cy 0, 8, .inl v_t_home)), (q_t_aim, .inl (cy 0, 8, .inl v_t_aim)), (q_t_at0, .inl (cy 0, 8, .inl v_t_at0)), (q_t_steps, .inl (cy 0, 12, .inl u4)), (q_t_spot, .inl (cy 0, 8, .inl u5)), (q_t_then, .inl (cy 0, 8, .inl u6))] H := hP
    have hD : va_D A [(q_t, oX8 q_t_shelf q_t_rowSort q_t_rowSize q_t_rows q_t_moved q_t_shown q_t_tape v_t_tapeSize q_t_refused v_t_places q_t_ways v_t_people q_t_kind q_t_by q_t_home q_t_aim q_t_at0 v_t_hour v_t_chance v_t_seed w_t_kept w_t_tried v_t_at v_t_token v_t_from v_t_figures v_t_fault q_t_told v_t_statements q_t_steps q_t_spot q_t_then u3 v_t_gone q_t_sights q_t_darkAt q_t_can), (q_t_refused, .inl (cy 0, 8, .inl v_t_refused)), (q_t_ways, .inl (cy 0, 12, .inl v_t_ways)), (q_t_kind, .inl (cy 0, 8, .inl v_t_kind)), (q_t_home, .inl (cy 0, 8, .inl v_t_home)), (q_t_aim, .inl (cy 0, 8, .inl v_t_aim)), (q_t_at0, .inl (cy 0, 8, .inl v_t_at0)), (q_t_steps, .inl (cy 0, 12, .inl u4)), (q_t_spot, .inl (cy 0, 8, .inl u5)), (q_t_then, .inl (cy 0, 8, .inl u6))] := hD
    refine lv_aload_n hx hb dX8_hours_24 rfl (lv_at hl 0 rfl) ?_
    obtain ⟨u8, u9, hr10, hf⟩ := boE2 hf
    have hPc := hP.sub (ws' := [(q_t, oX8 q_t_shelf q_t_rowSort q_t_rowSize q_t_rows q_t_moved q_t_shown q_t_tape v_t_tapeSize q_t_refused v_t_places q_t_ways v_t_people q_t_kind q_t_by q_t_home q_t_aim q_t_at0 v_t_hour v_t_chance v_t_seed w_t_kept w_t_tried v_t_at v_t_token v_t_from v_t_figures v_t_fault q_t_told v_t_statements q_t_steps q_t_spot q_t_then u3 v_t_gone q_t_sights q_t_darkAt q_t_can), (q_t_at0, .inl (cy 0, 8, .inl v_t_at0)), (q_t_spot, .inl (cy 0, 8, .inl u5))]) [0, 6, 8] rfl
    have hDc := hD.sub (ws' := [(q_t, oX8 q_t_shelf q_t_rowSort q_t_rowSize q_t_rows q_t_moved q_t_shown q_t_tape v_t_tapeSize q_t_refused v_t_places q_t_ways v_t_people q_t_kind q_t_by q_t_home q_t_aim q_t_at0 v_t_hour v_t_chance v_t_seed w_t_kept w_t_tried v_t_at v_t_token v_t_from v_t_figures v_t_fault q_t_told v_t_statements q_t_steps q_t_spot q_t_then u3 v_t_gone q_t_sights q_t_darkAt q_t_can), (q_t_at0, .inl (cy 0, 8, .inl v_t_at0)), (q_t_spot, .inl (cy 0, 8, .inl u5))]) [0, 6, 8] (by decide) rfl
    refine xcQv (w1 := [(q_t, oX8 q_t_shelf q_t_rowSort q_t_rowSize q_t_rows q_t_moved q_t_shown q_t_tape v_t_tapeSize q_t_refused v_t_places q_t_ways v_t_people q_t_kind q_t_by q_t_home q_t_aim q_t_at0 u8 v_t_chance v_t_seed w_t_kept w_t_tried v_t_at v_t_token v_t_from v_t_figures v_t_fault q_t_told v_t_statements q_t_steps q_t_spot q_t_then u3 v_t_gone q_t_sights q_t_darkAt q_t_can), (q_t_at0, .inl (cy 0, 8, .inl u9)), (q_t_spot, .inl (cy 0, 8, .inl u5))]) (va_runV (As := []) (rest := []) ⟨hx, hb, hml, hown, hts⟩ (mX8_stays l D cy q_t q_t_shelf q_t_rowSort q_t_rowSize q_t_rows q_t_moved q_t_shown q_t_tape q_t_refused q_t_ways q_t_kind q_t_by q_t_home q_t_aim q_t_at0 q_t_told q_t_steps q_t_spot q_t_then q_t_sights q_t_darkAt q_t_can v_t_tapeSize v_t_places v_t_people v_t_hour v_t_chance v_t_seed w_t_kept w_t_tried v_t_at v_t_token v_t_from v_t_figures v_t_fault v_t_statements u3 v_t_gone v_t_at0 u5 _  hr10) (cwV 0 hts gX8_hours_X8_stays rfl rfl rfl (by decide +kernel) ⟨Nat.le_of_ble_eq_true rfl, Nat.le_of_ble_eq_true rfl⟩) (xPVw hK hPc hDc (ci := 8) (q0 := 0) rfl rfl) rfl rfl hl.1 rfl (lv_room (Nat.le_of_ble_eq_true rfl)) dX8_hours_25 ⟨Nat.le_of_ble_eq_true rfl, Nat.le_of_ble_eq_true rfl⟩) hP hD hS hA [0, 6, 8] rfl rfl (fun H locs hP hD hS => ?_)
    have hP : va_P D vwCl [(q_t, oX8 q_t_shelf q_t_rowSort q_t_rowSize q_t_rows q_t_moved q_t_shown q_t_tape v_t_tapeSize q_t_refused v_t_places q_t_ways v_t_people q_t_kind q_t_by q_t_home q_t_aim q_t_at0 u8 v_t_chance v_t_seed w_t_kept w_t_tried v_t_at v_t_token v_t_from v_t_figures v_t_fault q_t_told v_t_statements q_t_steps q_t_spot q_t_then u3 v_t_gone q_t_sights q_t_darkAt q_t_can), (q_t_refused, .inl (cy 0, 8, .inl v_t_refused)), (q_t_ways, .inl (cy 0, 12, .inl v_t_ways)), (q_t_kind, .inl (cy 0, 8, .inl v_t_kind)), (q_t_home, .inl (cy 0, 8, .inl v_t_home)), (q_t_aim, .inl (cy 0, 8, .inl v_t_aim)), (q_t_at0, .inl (cy 0, 8, .inl u9)), (q_t_steps, .inl (cy 0, 12, .inl u4)), (q_t_spot, .inl (cy 0, 8, .inl u5)), (q_t_then, .inl (cy 0, 8, .inl u6))] H := hP
    have hD : va_D A [(q_t, oX8 q_t_shelf q_t_rowSort q_t_rowSize q_t_rows q_t_moved q_t_shown q_t_tape v_t_tapeSize q_t_refused v_t_places q_t_ways v_t_people q_t_kind q_t_by q_t_home q_t_aim q_t_at0 u8 v_t_chance v_t_seed w_t_kept w_t_tried v_t_at v_t_token v_t_from v_t_figures v_t_fault q_t_told v_t_statements q_t_steps q_t_spot q_t_then u3 v_t_gone q_t_sights q_t_darkAt q_t_can), (q_t_refused, .inl (cy 0, 8, .inl v_t_refused)), (q_t_ways, .inl (cy 0, 12, .inl v_t_ways)), (q_t_kind, .inl (cy 0, 8, .inl v_t_kind)), (q_t_home, .inl (cy 0, 8, .inl v_t_home)), (q_t_aim, .inl (cy 0, 8, .inl v_t_aim)), (q_t_at0, .inl (cy 0, 8, .inl u9)), (q_t_steps, .inl (cy 0, 12, .inl u4)), (q_t_spot, .inl (cy 0, 8, .inl u5)), (q_t_then, .inl (cy 0, 8, .inl u6))] := hD
    refine lv_aload_n hx hb dX8_hours_28 rfl (lv_at hl 0 rfl) ?_
    obtain ⟨r11, hr12, hf⟩ := boE1 hf
    have hPc := hP.sub (ws' := [(q_t, oX8 q_t_shelf q_t_rowSort q_t_rowSize q_t_rows q_t_moved q_t_shown q_t_tape v_t_tapeSize q_t_refused v_t_places q_t_ways v_t_people q_t_kind q_t_by q_t_home q_t_aim q_t_at0 u8 v_t_chance v_t_seed w_t_kept w_t_tried v_t_at v_t_token v_t_from v_t_figures v_t_fault q_t_told v_t_statements q_t_steps q_t_spot q_t_then u3 v_t_gone q_t_sights q_t_darkAt q_t_can), (q_t_kind, .inl (cy 0, 8, .inl v_t_kind)), (q_t_spot, .inl (cy 0, 8, .inl u5))]) [0, 3, 8] rfl
    refine xcSi (va_runV (As := []) (rest := []) ⟨hx, hb, hml, hown, hts⟩ (mX8_light l D cy q_t q_t_shelf q_t_rowSort q_t_rowSize q_t_rows q_t_moved q_t_shown q_t_tape q_t_refused q_t_ways q_t_kind q_t_by q_t_home q_t_aim q_t_at0 q_t_told q_t_steps q_t_spot q_t_then q_t_sights q_t_darkAt q_t_can v_t_tapeSize v_t_places v_t_people u8 v_t_chance v_t_seed w_t_kept w_t_tried v_t_at v_t_token v_t_from v_t_figures v_t_fault v_t_statements u3 v_t_gone v_t_kind u5   hr12) (cwV 0 hts gX8_hours_X8_light rfl rfl rfl (by decide +kernel) ⟨Nat.le_of_ble_eq_true rfl, Nat.le_of_ble_eq_true rfl⟩) (xPV hK hPc (ci := 8) (q0 := 0) rfl rfl) rfl rfl hl.1 rfl (lv_room (Nat.le_of_ble_eq_true rfl)) dX8_hours_29 ⟨Nat.le_of_ble_eq_true rfl, Nat.le_of_ble_eq_true rfl⟩) ?_
    cases hf
    exact W.iret hx hb hr (fun t ht hW => ⟨⟨_, (), rfl, rfl, xend ht hP⟩, hS.F ht⟩) hS.2.2 dX8_hours_32
  · have hf := ifT hf c16
    clear c16
    refine lv_aload_n hx hb dX8_hours_12 rfl (lv_at hl 0 rfl) ?_
    refine lv_bipush (v := (-2)) hx hb dX8_hours_13 (by decide) ?_
    obtain ⟨r13, u14, hr15, hf⟩ := boE2 hf
    have hPc := hP.sub (ws' := [(q_t, oX8 q_t_shelf q_t_rowSort q_t_rowSize q_t_rows q_t_moved q_t_shown q_t_tape v_t_tapeSize q_t_refused v_t_places q_t_ways v_t_people q_t_kind q_t_by q_t_home q_t_aim q_t_at0 v_t_hour v_t_chance v_t_seed w_t_kept w_t_tried v_t_at v_t_token v_t_from v_t_figures v_t_fault q_t_told v_t_statements q_t_steps q_t_spot q_t_then v_t_now v_t_gone q_t_sights q_t_darkAt q_t_can), (q_t_refused, .inl (cy 0, 8, .inl v_t_refused))]) [0, 1] rfl
    have hDc := hD.sub (ws' := [(q_t, oX8 q_t_shelf q_t_rowSort q_t_rowSize q_t_rows q_t_moved q_t_shown q_t_tape v_t_tapeSize q_t_refused v_t_places q_t_ways v_t_people q_t_kind q_t_by q_t_home q_t_aim q_t_at0 v_t_hour v_t_chance v_t_seed w_t_kept w_t_tried v_t_at v_t_token v_t_from v_t_figures v_t_fault q_t_told v_t_statements q_t_steps q_t_spot q_t_then v_t_now v_t_gone q_t_sights q_t_darkAt q_t_can), (q_t_refused, .inl (cy 0, 8, .inl v_t_refused))]) [0, 1] (by decide) rfl
    refine xcQi (w1 := [(q_t, oX8 q_t_shelf q_t_rowSort q_t_rowSize q_t_rows q_t_moved q_t_shown q_t_tape v_t_tapeSize q_t_refused v_t_places q_t_ways v_t_people q_t_kind q_t_by q_t_home q_t_aim q_t_at0 v_t_hour v_t_chance v_t_seed w_t_kept w_t_tried v_t_at v_t_token v_t_from v_t_figures v_t_fault q_t_told v_t_statements q_t_steps q_t_spot q_t_then v_t_now v_t_gone q_t_sights q_t_darkAt q_t_can), (q_t_refused, .inl (cy 0, 8, .inl u14))]) (va_runV (As := [.int (-2 : Int32)]) (rest := []) ⟨hx, hb, hml, hown, hts⟩ (mX8_refuse l D cy q_t q_t_shelf q_t_rowSort q_t_rowSize q_t_rows q_t_moved q_t_shown q_t_tape q_t_refused q_t_ways q_t_kind q_t_by q_t_home q_t_aim q_t_at0 q_t_told q_t_steps q_t_spot q_t_then q_t_sights q_t_darkAt q_t_can v_t_tapeSize v_t_places v_t_people v_t_hour v_t_chance v_t_seed w_t_kept w_t_tried v_t_at v_t_token v_t_from v_t_figures v_t_fault v_t_statements v_t_now v_t_gone v_t_refused _ (-2 : Int32) hr15) (cwV 1 hts gX8_hours_X8_refuse rfl rfl rfl (by decide +kernel) ⟨Nat.le_of_ble_eq_true rfl, Nat.le_of_ble_eq_true rfl⟩) (xPVw hK hPc hDc (ci := 8) (q0 := 0) rfl rfl) rfl rfl hl.1 rfl (lv_room (Nat.le_of_ble_eq_true rfl)) dX8_hours_15 ⟨Nat.le_of_ble_eq_true rfl, Nat.le_of_ble_eq_true rfl⟩) hP hD hS hA [0, 1] rfl rfl (fun H locs hP hD hS => ?_)
    have hP : va_P D vwCl [(q_t, oX8 q_t_shelf q_t_rowSort q_t_rowSize q_t_rows q_t_moved q_t_shown q_t_tape v_t_tapeSize q_t_refused v_t_places q_t_ways v_t_people q_t_kind q_t_by q_t_home q_t_aim q_t_at0 v_t_hour v_t_chance v_t_seed w_t_kept w_t_tried v_t_at v_t_token v_t_from v_t_figures v_t_fault q_t_told v_t_statements q_t_steps q_t_spot q_t_then v_t_now v_t_gone q_t_sights q_t_darkAt q_t_can), (q_t_refused, .inl (cy 0, 8, .inl u14)), (q_t_ways, .inl (cy 0, 12, .inl v_t_ways)), (q_t_kind, .inl (cy 0, 8, .inl v_t_kind)), (q_t_home, .inl (cy 0, 8, .inl v_t_home)), (q_t_aim, .inl (cy 0, 8, .inl v_t_aim)), (q_t_at0, .inl (cy 0, 8, .inl v_t_at0)), (q_t_steps, .inl (cy 0, 12, .inl v_t_steps)), (q_t_spot, .inl (cy 0, 8, .inl v_t_spot)), (q_t_then, .inl (cy 0, 8, .inl v_t_then))] H := hP
    have hD : va_D A [(q_t, oX8 q_t_shelf q_t_rowSort q_t_rowSize q_t_rows q_t_moved q_t_shown q_t_tape v_t_tapeSize q_t_refused v_t_places q_t_ways v_t_people q_t_kind q_t_by q_t_home q_t_aim q_t_at0 v_t_hour v_t_chance v_t_seed w_t_kept w_t_tried v_t_at v_t_token v_t_from v_t_figures v_t_fault q_t_told v_t_statements q_t_steps q_t_spot q_t_then v_t_now v_t_gone q_t_sights q_t_darkAt q_t_can), (q_t_refused, .inl (cy 0, 8, .inl u14)), (q_t_ways, .inl (cy 0, 12, .inl v_t_ways)), (q_t_kind, .inl (cy 0, 8, .inl v_t_kind)), (q_t_home, .inl (cy 0, 8, .inl v_t_home)), (q_t_aim, .inl (cy 0, 8, .inl v_t_aim)), (q_t_at0, .inl (cy 0, 8, .inl v_t_at0)), (q_t_steps, .inl (cy 0, 12, .inl v_t_steps)), (q_t_spot, .inl (cy 0, 8, .inl v_t_spot)), (q_t_then, .inl (cy 0, 8, .inl v_t_then))] := hD
    cases hf
    exact W.iret hx hb hr (fun t ht hW => ⟨⟨_, (), rfl, rfl, xend ht hP⟩, hS.F ht⟩) hS.2.2 dX8_hours_18
def fX8_strays (v_t_chance : Int32) (v_t_seed : Int32) (v_t_ways : Nat → Int32) (v_t_kind : Nat → Int32) (v_t_spot : Nat → Int32) (p0 : Int32) : Option (Int32 × (Nat → Int32)) :=
  if p0 < 0 ∨ 8 ≤ p0.toNatClampNeg then none else
  jo1 (fun (y2 : Int32) =>
    if y2 = 0 then
      some (v_t_seed, v_t_spot)
    else
      bo2 (fX8_below v_t_seed (12 : Int32)) fun r4 u5 =>
      if v_t_chance ≤ r4 then
        some (u5, v_t_spot)
      else
        if p0 < 0 ∨ 8 ≤ p0.toNatClampNeg then none else
        if (v_t_spot p0.toNatClampNeg) < 0 ∨ 12 ≤ (v_t_spot p0.toNatClampNeg).toNatClampNeg then none else
        if (v_t_ways (v_t_spot p0.toNatClampNeg).toNatClampNeg) = 0 then
          some (u5, v_t_spot)
        else
          if p0 < 0 ∨ 8 ≤ p0.toNatClampNeg then none else
          if (v_t_spot p0.toNatClampNeg) < 0 ∨ 12 ≤ (v_t_spot p0.toNatClampNeg).toNatClampNeg then none else
          bo1 (fX8_bits (v_t_ways (v_t_spot p0.toNatClampNeg).toNatClampNeg)) fun r11 =>
          bo2 (fX8_below u5 r11) fun r13 u14 =>
          if p0 < 0 ∨ 8 ≤ p0.toNatClampNeg then none else
          if (v_t_spot p0.toNatClampNeg) < 0 ∨ 12 ≤ (v_t_spot p0.toNatClampNeg).toNatClampNeg then none else
          vlet (v_t_ways (v_t_spot p0.toNatClampNeg).toNatClampNeg) fun x18 =>
          lo2 (fun g21 (x19 : Int32) (x20 : Int32) =>
            if r13 ≤ x20 then
              lo1 (fun g23 (x22 : Int32) =>
                if ((x19 >>> (x22 &&& 31)) &&& (1 : Int32)) = 0 then
                  vlet (x22 + (1 : Int32)) fun x25 =>
                  g23 x25
                else
                  if p0 < 0 ∨ 8 ≤ p0.toNatClampNeg then none else
                  some (u14, upd v_t_spot p0.toNatClampNeg x22)) 400 (0 : Int32)
            else
              vlet (x19 &&& (x19 - (1 : Int32))) fun x27 =>
              vlet (x20 + (1 : Int32)) fun x28 =>
              g21 x27 x28) 400 x18 (0 : Int32)) fun k3 =>
  jo0 (
    k3 (0 : Int32)) fun k33 =>
  if (v_t_kind p0.toNatClampNeg) = (1 : Int32) then
    k33
  else
    if p0 < 0 ∨ 8 ≤ p0.toNatClampNeg then none else
    if (v_t_kind p0.toNatClampNeg) = (3 : Int32) then
      k33
    else
      k3 (1 : Int32)
set_option maxHeartbeats 4000000 in
set_option maxRecDepth 100000 in
theorem mX8_strays (l : Launch) (D : va_G) (cy : Nat → ClassId) (q_t q_t_shelf q_t_rowSort q_t_rowSize q_t_rows q_t_moved q_t_shown q_t_tape q_t_refused q_t_ways q_t_kind q_t_by q_t_home q_t_aim q_t_at0 q_t_told q_t_steps q_t_spot q_t_then q_t_sights q_t_darkAt q_t_can : Nat) (v_t_tapeSize : Int32) (v_t_places : Int32) (v_t_people : Int32) (v_t_hour : Int32) (v_t_chance : Int32) (v_t_seed : Int32) (w_t_kept : Value) (w_t_tried : Value) (v_t_at : Int32) (v_t_token : Int32) (v_t_from : Int32) (v_t_figures : Int32) (v_t_fault : Int32) (v_t_statements : Int32) (v_t_now : Int32) (v_t_gone : Int32) (v_t_ways : Nat → Int32) (v_t_kind : Nat → Int32) (v_t_spot : Nat → Int32) (sz : Nat) (p0 : Int32) {n_t_seed : Int32} {n_t_spot : Nat → Int32} (hf : fX8_strays v_t_chance v_t_seed v_t_ways v_t_kind v_t_spot p0 = some (n_t_seed, n_t_spot)) : Met l yX8_strays wsX8_strays ({ frames := 1, cells := 0, slots := 0, locals := 22 }) (va_Pc [.ref q_t, .int p0] (fun U => U.heap.size = sz ∧ va_P D vwCl [(q_t, oX8 q_t_shelf q_t_rowSort q_t_rowSize q_t_rows q_t_moved q_t_shown q_t_tape v_t_tapeSize q_t_refused v_t_places q_t_ways v_t_people q_t_kind q_t_by q_t_home q_t_aim q_t_at0 v_t_hour v_t_chance v_t_seed w_t_kept w_t_tried v_t_at v_t_token v_t_from v_t_figures v_t_fault q_t_told v_t_statements q_t_steps q_t_spot q_t_then v_t_now v_t_gone q_t_sights q_t_darkAt q_t_can), (q_t_ways, .inl (cy 0, 12, .inl v_t_ways)), (q_t_kind, .inl (cy 0, 8, .inl v_t_kind)), (q_t_spot, .inl (cy 0, 8, .inl v_t_spot))] U.heap ∧ xK D cy U ∧ va_D (fun _ => True) [(q_t, oX8 q_t_shelf q_t_rowSort q_t_rowSize q_t_rows q_t_moved q_t_shown q_t_tape v_t_tapeSize q_t_refused v_t_places q_t_ways v_t_people q_t_kind q_t_by q_t_home q_t_aim q_t_at0 v_t_hour v_t_chance v_t_seed w_t_kept w_t_tried v_t_at v_t_token v_t_from v_t_figures v_t_fault q_t_told v_t_statements q_t_steps q_t_spot q_t_then v_t_now v_t_gone q_t_sights q_t_darkAt q_t_can), (q_t_ways, .inl (cy 0, 12, .inl v_t_ways)), (q_t_kind, .inl (cy 0, 8, .inl v_t_kind)), (q_t_spot, .inl (cy 0, 8, .inl v_t_spot))])) (va_Qv (fun (_ : Unit) => True) (fun _ t => va_P D vwCl [(q_t, oX8 q_t_shelf q_t_rowSort q_t_rowSize q_t_rows q_t_moved q_t_shown q_t_tape v_t_tapeSize q_t_refused v_t_places q_t_ways v_t_people q_t_kind q_t_by q_t_home q_t_aim q_t_at0 v_t_hour v_t_chance n_t_seed w_t_kept w_t_tried v_t_at v_t_token v_t_from v_t_figures v_t_fault q_t_told v_t_statements q_t_steps q_t_spot q_t_then v_t_now v_t_gone q_t_sights q_t_darkAt q_t_can), (q_t_ways, .inl (cy 0, 12, .inl v_t_ways)), (q_t_kind, .inl (cy 0, 8, .inl v_t_kind)), (q_t_spot, .inl (cy 0, 8, .inl n_t_spot))] t.heap) (va_A [(q_t, oX8 q_t_shelf q_t_rowSort q_t_rowSize q_t_rows q_t_moved q_t_shown q_t_tape v_t_tapeSize q_t_refused v_t_places q_t_ways v_t_people q_t_kind q_t_by q_t_home q_t_aim q_t_at0 v_t_hour v_t_chance v_t_seed w_t_kept w_t_tried v_t_at v_t_token v_t_from v_t_figures v_t_fault q_t_told v_t_statements q_t_steps q_t_spot q_t_then v_t_now v_t_gone q_t_sights q_t_darkAt q_t_can), (q_t_ways, .inl (cy 0, 12, .inl v_t_ways)), (q_t_kind, .inl (cy 0, 8, .inl v_t_kind)), (q_t_spot, .inl (cy 0, 8, .inl v_t_spot))] sz)) 0 0 (va_A [(q_t, oX8 q_t_shelf q_t_rowSort q_t_rowSize q_t_rows q_t_moved q_t_shown q_t_tape v_t_tapeSize q_t_refused v_t_places q_t_ways v_t_people q_t_kind q_t_by q_t_home q_t_aim q_t_at0 v_t_hour v_t_chance v_t_seed w_t_kept w_t_tried v_t_at v_t_token v_t_from v_t_figures v_t_fault q_t_told v_t_statements q_t_steps q_t_spot q_t_then v_t_now v_t_gone q_t_sights q_t_darkAt q_t_can), (q_t_ways, .inl (cy 0, 12, .inl v_t_ways)), (q_t_kind, .inl (cy 0, 8, .inl v_t_kind)), (q_t_spot, .inl (cy 0, 8, .inl v_t_spot))] sz) := by
  refine Met.ofW (cc := cX8_strays) (maxL := 6) (ret := none) (by decide) rfl ?_
  intro p e s m args below meth c s₁ B hml hv
  obtain ⟨rfl, hsz, hP, hK, hD0⟩ := hv
  have hx := B.exec
  have hb := B.bytes
  have hr := B.returns
  have hts := atoms_spec (ws := wsX8_strays) B.pre
  have hown : s.vm.findClass RX8 = some m.cls := findClass_of_methodNamed B.named
  have hlocks := B.notSynchronized
  subst hsz
  have hD := hD0.self (sz := s.heap.size)
  generalize hAe : va_A [(q_t, oX8 q_t_shelf q_t_rowSort q_t_rowSize q_t_rows q_t_moved q_t_shown q_t_tape v_t_tapeSize q_t_refused v_t_places q_t_ways v_t_people q_t_kind q_t_by q_t_home q_t_aim q_t_at0 v_t_hour v_t_chance v_t_seed w_t_kept w_t_tried v_t_at v_t_token v_t_from v_t_figures v_t_fault q_t_told v_t_statements q_t_steps q_t_spot q_t_then v_t_now v_t_gone q_t_sights q_t_darkAt q_t_can), (q_t_ways, .inl (cy 0, 12, .inl v_t_ways)), (q_t_kind, .inl (cy 0, 8, .inl v_t_kind)), (q_t_spot, .inl (cy 0, 8, .inl v_t_spot))] s.heap.size = A at hD ⊢
  have hA : ∀ q : Nat, s.heap.size ≤ q → A q := fun q h => by rw [← hAe]; exact Or.inr h
  have hS : va_S A s.heap s.heap [] := va_S.rf
  have hP : va_P D vwCl [(q_t, oX8 q_t_shelf q_t_rowSort q_t_rowSize q_t_rows q_t_moved q_t_shown q_t_tape v_t_tapeSize q_t_refused v_t_places q_t_ways v_t_people q_t_kind q_t_by q_t_home q_t_aim q_t_at0 v_t_hour v_t_chance v_t_seed w_t_kept w_t_tried v_t_at v_t_token v_t_from v_t_figures v_t_fault q_t_told v_t_statements q_t_steps q_t_spot q_t_then v_t_now v_t_gone q_t_sights q_t_darkAt q_t_can), (q_t_ways, .inl (cy 0, 12, .inl v_t_ways)), (q_t_kind, .inl (cy 0, 8, .inl v_t_kind)), (q_t_spot, .inl (cy 0, 8, .inl v_t_spot))] s.heap := hP
  have hinX8 : ∀ w ∈ u_ws RX8 TX8 37, w ∈ wsX8_strays := by decide +kernel
  have hk44 := hts (.fieldLink RX8 44 "ShowsWhereNobodyIsModel" "kind" "[I") (by decide +kernel)
  have hk59 := hts (.fieldLink RX8 59 "ShowsWhereNobodyIsModel" "chance" "I") (by decide +kernel)
  have hk41 := hts (.fieldLink RX8 41 "ShowsWhereNobodyIsModel" "ways" "[I") (by decide +kernel)
  have hk71 := hts (.fieldLink RX8 71 "ShowsWhereNobodyIsModel" "spot" "[I") (by decide +kernel)
  have hl := lv_entry ([.ref q_t, .int p0]) (n := 6) (Nat.le_of_ble_eq_true rfl)
  rw [lg_entry_eq]
  generalize (lg_sl ([.ref q_t, .int p0]) ++ List.replicate (6 - (lg_sl ([.ref q_t, .int p0])).length) Slot.unset).toArray = ls at hl ⊢
  have hl : lv_has ls 6 [(0, .ref q_t), (1, .int p0)] := hl
  unfold fX8_strays at hf
  refine lv_aload_n hx hb dX8_strays_0 rfl (lv_at hl 0 rfl) ?_
  refine va_get (D := D) (ci := 8) (v := .ref q_t_kind) (C := RX8) (T := TX8) (N := 37) hx hb hts hinX8 hown hK.1 hP 0 rfl rfl 12 (by decide) hk44 (fun _ h9 => h9) rfl dX8_strays_1 ?_
  refine lv_iload_n hx hb dX8_strays_4 rfl (lv_at hl 1 rfl) ?_
  obtain ⟨hi1, hf⟩ := ckE hf
  refine va_iald hx hb hK.1 hP 2 0 rfl rfl hi1 dX8_strays_5 ?_
  refine lv_iconst (v := 1) hx hb dX8_strays_6 (by decide) ?_
  refine jww1 25 (fun (y2 : Int32) => [.int y2]) (fun (y2 : Int32) H locs ls => va_P D vwCl [(q_t, oX8 q_t_shelf q_t_rowSort q_t_rowSize q_t_rows q_t_moved q_t_shown q_t_tape v_t_tapeSize q_t_refused v_t_places q_t_ways v_t_people q_t_kind q_t_by q_t_home q_t_aim q_t_at0 v_t_hour v_t_chance v_t_seed w_t_kept w_t_tried v_t_at v_t_token v_t_from v_t_figures v_t_fault q_t_told v_t_statements q_t_steps q_t_spot q_t_then v_t_now v_t_gone q_t_sights q_t_darkAt q_t_can), (q_t_ways, .inl (cy 0, 12, .inl v_t_ways)), (q_t_kind, .inl (cy 0, 8, .inl v_t_kind)), (q_t_spot, .inl (cy 0, 8, .inl v_t_spot))] H ∧ va_D A [(q_t, oX8 q_t_shelf q_t_rowSort q_t_rowSize q_t_rows q_t_moved q_t_shown q_t_tape v_t_tapeSize q_t_refused v_t_places q_t_ways v_t_people q_t_kind q_t_by q_t_home q_t_aim q_t_at0 v_t_hour v_t_chance v_t_seed w_t_kept w_t_tried v_t_at v_t_token v_t_from v_t_figures v_t_fault q_t_told v_t_statements q_t_steps q_t_spot q_t_then v_t_now v_t_gone q_t_sights q_t_darkAt q_t_can), (q_t_ways, .inl (cy 0, 12, .inl v_t_ways)), (q_t_kind, .inl (cy 0, 8, .inl v_t_kind)), (q_t_spot, .inl (cy 0, 8, .inl v_t_spot))] ∧ va_S A s.heap H locs ∧ lv_has ls 6 [(0, .ref q_t), (1, .int p0)]) hf (fun y2 H locs ls hI hf => ?_) (fun k3 J25 hf => ?_)
  · obtain ⟨hP, hD, hS, hl⟩ := hI
    refine lv_istore_n (lv' := [(2, .int y2), (0, .ref q_t), (1, .int p0)]) hx hb dX8_strays_25 rfl hl (by decide) rfl (fun ls hl => ?_)
    refine lv_iload_n hx hb dX8_strays_26 rfl (lv_at hl 0 rfl) ?_
    refine lv_if_eq (tgt := 57) hx hb dX8_strays_27 (by decide) (fun c32 => ?_) (fun c32 => ?_)
    · have hf := ifT hf c32
      clear c32
      cases hf
      exact W.vret hx hb hr (fun t ht hW => ⟨⟨(), rfl, trivial, xend ht hP⟩, hS.F ht⟩) hS.2.2 dX8_strays_57
    · have hf := ifF hf c32
      clear c32
      refine lv_aload_n hx hb dX8_strays_30 rfl (lv_at hl 1 rfl) ?_
      refine lv_bipush (v := 12) hx hb dX8_strays_31 (by decide) ?_
      obtain ⟨r4, u5, hr6, hf⟩ := boE2 hf
      have hPc := hP.sub (ws' := [(q_t, oX8 q_t_shelf q_t_rowSort q_t_rowSize q_t_rows q_t_moved q_t_shown q_t_tape v_t_tapeSize q_t_refused v_t_places q_t_ways v_t_people q_t_kind q_t_by q_t_home q_t_aim q_t_at0 v_t_hour v_t_chance v_t_seed w_t_kept w_t_tried v_t_at v_t_token v_t_from v_t_figures v_t_fault q_t_told v_t_statements q_t_steps q_t_spot q_t_then v_t_now v_t_gone q_t_sights q_t_darkAt q_t_can)]) [0] rfl
      have hDc := hD.sub (ws' := [(q_t, oX8 q_t_shelf q_t_rowSort q_t_rowSize q_t_rows q_t_moved q_t_shown q_t_tape v_t_tapeSize q_t_refused v_t_places q_t_ways v_t_people q_t_kind q_t_by q_t_home q_t_aim q_t_at0 v_t_hour v_t_chance v_t_seed w_t_kept w_t_tried v_t_at v_t_token v_t_from v_t_figures v_t_fault q_t_told v_t_statements q_t_steps q_t_spot q_t_then v_t_now v_t_gone q_t_sights q_t_darkAt q_t_can)]) [0] (by decide) rfl
      refine xcQi (w1 := [(q_t, oX8 q_t_shelf q_t_rowSort q_t_rowSize q_t_rows q_t_moved q_t_shown q_t_tape v_t_tapeSize q_t_refused v_t_places q_t_ways v_t_people q_t_kind q_t_by q_t_home q_t_aim q_t_at0 v_t_hour v_t_chance u5 w_t_kept w_t_tried v_t_at v_t_token v_t_from v_t_figures v_t_fault q_t_told v_t_statements q_t_steps q_t_spot q_t_then v_t_now v_t_gone q_t_sights q_t_darkAt q_t_can)]) (va_runV (As := [.int (12 : Int32)]) (rest := []) ⟨hx, hb, hml, hown, hts⟩ (mX8_below l D cy q_t q_t_shelf q_t_rowSort q_t_rowSize q_t_rows q_t_moved q_t_shown q_t_tape q_t_refused q_t_ways q_t_kind q_t_by q_t_home q_t_aim q_t_at0 q_t_told q_t_steps q_t_spot q_t_then q_t_sights q_t_darkAt q_t_can v_t_tapeSize v_t_places v_t_people v_t_hour v_t_chance v_t_seed w_t_kept w_t_tried v_t_at v_t_token v_t_from v_t_figures v_t_fault v_t_statements v_t_now v_t_gone _ (12 : Int32) hr6) (cwV 1 hts gX8_strays_X8_below rfl rfl rfl (by decide +kernel) ⟨Nat.le_of_ble_eq_true rfl, Nat.le_of_ble_eq_true rfl⟩) (xPVw hK hPc hDc (ci := 8) (q0 := 0) rfl rfl) rfl rfl hl.1 rfl (lv_room (Nat.le_of_ble_eq_true rfl)) dX8_strays_33 ⟨Nat.le_of_ble_eq_true rfl, Nat.le_of_ble_eq_true rfl⟩) hP hD hS hA [0] rfl rfl (fun H locs hP hD hS => ?_)
      have hP : va_P D vwCl [(q_t, oX8 q_t_shelf q_t_rowSort q_t_rowSize q_t_rows q_t_moved q_t_shown q_t_tape v_t_tapeSize q_t_refused v_t_places q_t_ways v_t_people q_t_kind q_t_by q_t_home q_t_aim q_t_at0 v_t_hour v_t_chance u5 w_t_kept w_t_tried v_t_at v_t_token v_t_from v_t_figures v_t_fault q_t_told v_t_statements q_t_steps q_t_spot q_t_then v_t_now v_t_gone q_t_sights q_t_darkAt q_t_can), (q_t_ways, .inl (cy 0, 12, .inl v_t_ways)), (q_t_kind, .inl (cy 0, 8, .inl v_t_kind)), (q_t_spot, .inl (cy 0, 8, .inl v_t_spot))] H := hP
      have hD : va_D A [(q_t, oX8 q_t_shelf q_t_rowSort q_t_rowSize q_t_rows q_t_moved q_t_shown q_t_tape v_t_tapeSize q_t_refused v_t_places q_t_ways v_t_people q_t_kind q_t_by q_t_home q_t_aim q_t_at0 v_t_hour v_t_chance u5 w_t_kept w_t_tried v_t_at v_t_token v_t_from v_t_figures v_t_fault q_t_told v_t_statements q_t_steps q_t_spot q_t_then v_t_now v_t_gone q_t_sights q_t_darkAt q_t_can), (q_t_ways, .inl (cy 0, 12, .inl v_t_ways)), (q_t_kind, .inl (cy 0, 8, .inl v_t_kind)), (q_t_spot, .inl (cy 0, 8, .inl v_t_spot))] := hD
      refine lv_aload_n hx hb dX8_strays_36 rfl (lv_at hl 1 rfl) ?_
      refine va_get (D := D) (ci := 8) (v := .int v_t_chance) (C := RX8) (T := TX8) (N := 37) hx hb hts hinX8 hown hK.1 hP 0 rfl rfl 18 (by decide) hk59 (fun _ h9 => h9) rfl dX8_strays_37 ?_
      refine lv_icmp_ge (tgt := 57) hx hb dX8_strays_40 (by decide) (fun c31 => ?_) (fun c31 => ?_)
      · have hf := ifT hf c31
        clear c31
        cases hf
        exact W.vret hx hb hr (fun t ht hW => ⟨⟨(), rfl, trivial, xend ht hP⟩, hS.F ht⟩) hS.2.2 dX8_strays_57
      · have hf := ifF hf c31
        clear c31
        refine lv_aload_n hx hb dX8_strays_43 rfl (lv_at hl 1 rfl) ?_
        refine va_get (D := D) (ci := 8) (v := .ref q_t_ways) (C := RX8) (T := TX8) (N := 37) hx hb hts hinX8 hown hK.1 hP 0 rfl rfl 10 (by decide) hk41 (fun _ h9 => h9) rfl dX8_strays_44 ?_
        refine lv_aload_n hx hb dX8_strays_47 rfl (lv_at hl 1 rfl) ?_
        refine va_get (D := D) (ci := 8) (v := .ref q_t_spot) (C := RX8) (T := TX8) (N := 37) hx hb hts hinX8 hown hK.1 hP 0 rfl rfl 30 (by decide) hk71 (fun _ h9 => h9) rfl dX8_strays_48 ?_
        refine lv_iload_n hx hb dX8_strays_51 rfl (lv_at hl 2 rfl) ?_
        obtain ⟨hi7, hf⟩ := ckE hf
        refine va_iald hx hb hK.1 hP 3 0 rfl rfl hi7 dX8_strays_52 ?_
        obtain ⟨hi8, hf⟩ := ckE hf
        refine va_iald hx hb hK.1 hP 1 0 rfl rfl hi8 dX8_strays_53 ?_
        refine lv_if_ne (tgt := 58) hx hb dX8_strays_54 (by decide) (fun c30 => ?_) (fun c30 => ?_)
        · have hf := ifF hf c30
          clear c30
          refine lv_aload_n hx hb dX8_strays_58 rfl (lv_at hl 1 rfl) ?_
          refine lv_aload_n hx hb dX8_strays_59 rfl (lv_at hl 1 rfl) ?_
          refine va_get (D := D) (ci := 8) (v := .ref q_t_ways) (C := RX8) (T := TX8) (N := 37) hx hb hts hinX8 hown hK.1 hP 0 rfl rfl 10 (by decide) hk41 (fun _ h9 => h9) rfl dX8_strays_60 ?_
          refine lv_aload_n hx hb dX8_strays_63 rfl (lv_at hl 1 rfl) ?_
          refine va_get (D := D) (ci := 8) (v := .ref q_t_spot) (C := RX8) (T := TX8) (N := 37) hx hb hts hinX8 hown hK.1 hP 0 rfl rfl 30 (by decide) hk71 (fun _ h9 => h9) rfl dX8_strays_64 ?_
          refine lv_iload_n hx hb dX8_strays_67 rfl (lv_at hl 2 rfl) ?_
          obtain ⟨hi9, hf⟩ := ckE hf
          refine va_iald hx hb hK.1 hP 3 0 rfl rfl hi9 dX8_strays_68 ?_
          obtain ⟨hi10, hf⟩ := ckE hf
          refine va_iald hx hb hK.1 hP 1 0 rfl rfl hi10 dX8_strays_69 ?_
          obtain ⟨r11, hr12, hf⟩ := boE1 hf
          have hPc := hP.sub (ws' := []) [] rfl
          refine xcSi (va_runS (As := [.int (v_t_ways (v_t_spot p0.toNatClampNeg).toNatClampNeg)]) (rest := [.ref q_t]) ⟨hx, hb, hml, hown, hts⟩ (mX8_bits l D cy    (v_t_ways (v_t_spot p0.toNatClampNeg).toNatClampNeg) hr12) (va_cwS 1 hts gX8_strays_X8_bits rfl rfl rfl (by decide +kernel) ⟨Nat.le_of_ble_eq_true rfl, Nat.le_of_ble_eq_true rfl⟩) (xPS hK hPc) rfl rfl hl.1 rfl (lv_room (Nat.le_of_ble_eq_true rfl)) dX8_strays_70 ⟨Nat.le_of_ble_eq_true rfl, Nat.le_of_ble_eq_true rfl⟩) ?_
          obtain ⟨r13, u14, hr15, hf⟩ := boE2 hf
          have hPc := hP.sub (ws' := [(q_t, oX8 q_t_shelf q_t_rowSort q_t_rowSize q_t_rows q_t_moved q_t_shown q_t_tape v_t_tapeSize q_t_refused v_t_places q_t_ways v_t_people q_t_kind q_t_by q_t_home q_t_aim q_t_at0 v_t_hour v_t_chance u5 w_t_kept w_t_tried v_t_at v_t_token v_t_from v_t_figures v_t_fault q_t_told v_t_statements q_t_steps q_t_spot q_t_then v_t_now v_t_gone q_t_sights q_t_darkAt q_t_can)]) [0] rfl
          have hDc := hD.sub (ws' := [(q_t, oX8 q_t_shelf q_t_rowSort q_t_rowSize q_t_rows q_t_moved q_t_shown q_t_tape v_t_tapeSize q_t_refused v_t_places q_t_ways v_t_people q_t_kind q_t_by q_t_home q_t_aim q_t_at0 v_t_hour v_t_chance u5 w_t_kept w_t_tried v_t_at v_t_token v_t_from v_t_figures v_t_fault q_t_told v_t_statements q_t_steps q_t_spot q_t_then v_t_now v_t_gone q_t_sights q_t_darkAt q_t_can)]) [0] (by decide) rfl
          refine xcQi (w1 := [(q_t, oX8 q_t_shelf q_t_rowSort q_t_rowSize q_t_rows q_t_moved q_t_shown q_t_tape v_t_tapeSize q_t_refused v_t_places q_t_ways v_t_people q_t_kind q_t_by q_t_home q_t_aim q_t_at0 v_t_hour v_t_chance u14 w_t_kept w_t_tried v_t_at v_t_token v_t_from v_t_figures v_t_fault q_t_told v_t_statements q_t_steps q_t_spot q_t_then v_t_now v_t_gone q_t_sights q_t_darkAt q_t_can)]) (va_runV (As := [.int r11]) (rest := []) ⟨hx, hb, hml, hown, hts⟩ (mX8_below l D cy q_t q_t_shelf q_t_rowSort q_t_rowSize q_t_rows q_t_moved q_t_shown q_t_tape q_t_refused q_t_ways q_t_kind q_t_by q_t_home q_t_aim q_t_at0 q_t_told q_t_steps q_t_spot q_t_then q_t_sights q_t_darkAt q_t_can v_t_tapeSize v_t_places v_t_people v_t_hour v_t_chance u5 w_t_kept w_t_tried v_t_at v_t_token v_t_from v_t_figures v_t_fault v_t_statements v_t_now v_t_gone _ r11 hr15) (cwV 1 hts gX8_strays_X8_below rfl rfl rfl (by decide +kernel) ⟨Nat.le_of_ble_eq_true rfl, Nat.le_of_ble_eq_true rfl⟩) (xPVw hK hPc hDc (ci := 8) (q0 := 0) rfl rfl) rfl rfl hl.1 rfl (lv_room (Nat.le_of_ble_eq_true rfl)) dX8_strays_73 ⟨Nat.le_of_ble_eq_true rfl, Nat.le_of_ble_eq_true rfl⟩) hP hD hS hA [0] rfl rfl (fun H locs hP hD hS => ?_)
          have hP : va_P D vwCl [(q_t, oX8 q_t_shelf q_t_rowSort q_t_rowSize q_t_rows q_t_moved q_t_shown q_t_tape v_t_tapeSize q_t_refused v_t_places q_t_ways v_t_people q_t_kind q_t_by q_t_home q_t_aim q_t_at0 v_t_hour v_t_chance u14 w_t_kept w_t_tried v_t_at v_t_token v_t_from v_t_figures v_t_fault q_t_told v_t_statements q_t_steps q_t_spot q_t_then v_t_now v_t_gone q_t_sights q_t_darkAt q_t_can), (q_t_ways, .inl (cy 0, 12, .inl v_t_ways)), (q_t_kind, .inl (cy 0, 8, .inl v_t_kind)), (q_t_spot, .inl (cy 0, 8, .inl v_t_spot))] H := hP
          have hD : va_D A [(q_t, oX8 q_t_shelf q_t_rowSort q_t_rowSize q_t_rows q_t_moved q_t_shown q_t_tape v_t_tapeSize q_t_refused v_t_places q_t_ways v_t_people q_t_kind q_t_by q_t_home q_t_aim q_t_at0 v_t_hour v_t_chance u14 w_t_kept w_t_tried v_t_at v_t_token v_t_from v_t_figures v_t_fault q_t_told v_t_statements q_t_steps q_t_spot q_t_then v_t_now v_t_gone q_t_sights q_t_darkAt q_t_can), (q_t_ways, .inl (cy 0, 12, .inl v_t_ways)), (q_t_kind, .inl (cy 0, 8, .inl v_t_kind)), (q_t_spot, .inl (cy 0, 8, .inl v_t_spot))] := hD
          refine lv_istore_n (lv' := [(3, .int r13), (2, .int y2), (0, .ref q_t), (1, .int p0)]) hx hb dX8_strays_76 rfl hl (by decide) rfl (fun ls hl => ?_)
          refine lv_aload_n hx hb dX8_strays_77 rfl (lv_at hl 2 rfl) ?_
          refine va_get (D := D) (ci := 8) (v := .ref q_t_ways) (C := RX8) (T := TX8) (N := 37) hx hb hts hinX8 hown hK.1 hP 0 rfl rfl 10 (by decide) hk41 (fun _ h9 => h9) rfl dX8_strays_78 ?_
          refine lv_aload_n hx hb dX8_strays_81 rfl (lv_at hl 2 rfl) ?_
          refine va_get (D := D) (ci := 8) (v := .ref q_t_spot) (C := RX8) (T := TX8) (N := 37) hx hb hts hinX8 hown hK.1 hP 0 rfl rfl 30 (by decide) hk71 (fun _ h9 => h9) rfl dX8_strays_82 ?_
          refine lv_iload_n hx hb dX8_strays_85 rfl (lv_at hl 3 rfl) ?_
          obtain ⟨hi16, hf⟩ := ckE hf
          refine va_iald hx hb hK.1 hP 3 0 rfl rfl hi16 dX8_strays_86 ?_
          obtain ⟨hi17, hf⟩ := ckE hf
          refine va_iald hx hb hK.1 hP 1 0 rfl rfl hi17 dX8_strays_87 ?_
          refine lv_topi (fun x18 ex18 => ?_)
          have hf := vlE hf ex18
          clear ex18
          refine lv_istore (lv' := [(4, .int x18), (3, .int r13), (2, .int y2), (0, .ref q_t), (1, .int p0)]) hx hb dX8_strays_88 hl (by decide) rfl (fun ls hl => ?_)
          refine lv_iconst (v := 0) hx hb dX8_strays_90 (by decide) ?_
          refine lv_istore (lv' := [(5, .int (0 : Int32)), (4, .int x18), (3, .int r13), (2, .int y2), (0, .ref q_t), (1, .int p0)]) hx hb dX8_strays_91 hl (by decide) rfl (fun ls hl => ?_)
          refine wlw2 93 (fun _ _ => []) (fun (x19 : Int32) (x20 : Int32) H locs ls => va_P D vwCl [(q_t, oX8 q_t_shelf q_t_rowSort q_t_rowSize q_t_rows q_t_moved q_t_shown q_t_tape v_t_tapeSize q_t_refused v_t_places q_t_ways v_t_people q_t_kind q_t_by q_t_home q_t_aim q_t_at0 v_t_hour v_t_chance u14 w_t_kept w_t_tried v_t_at v_t_token v_t_from v_t_figures v_t_fault q_t_told v_t_statements q_t_steps q_t_spot q_t_then v_t_now v_t_gone q_t_sights q_t_darkAt q_t_can), (q_t_ways, .inl (cy 0, 12, .inl v_t_ways)), (q_t_kind, .inl (cy 0, 8, .inl v_t_kind)), (q_t_spot, .inl (cy 0, 8, .inl v_t_spot))] H ∧ va_D A [(q_t, oX8 q_t_shelf q_t_rowSort q_t_rowSize q_t_rows q_t_moved q_t_shown q_t_tape v_t_tapeSize q_t_refused v_t_places q_t_ways v_t_people q_t_kind q_t_by q_t_home q_t_aim q_t_at0 v_t_hour v_t_chance u14 w_t_kept w_t_tried v_t_at v_t_token v_t_from v_t_figures v_t_fault q_t_told v_t_statements q_t_steps q_t_spot q_t_then v_t_now v_t_gone q_t_sights q_t_darkAt q_t_can), (q_t_ways, .inl (cy 0, 12, .inl v_t_ways)), (q_t_kind, .inl (cy 0, 8, .inl v_t_kind)), (q_t_spot, .inl (cy 0, 8, .inl v_t_spot))] ∧ va_S A s.heap H locs ∧ lv_has ls 6 [(4, .int x19), (5, .int x20), (3, .int r13), (0, .ref q_t), (1, .int p0)]) (fun g21 L93 x19 x20 H locs ls hI hf => ?_) 400 x18 (0 : Int32) _ _ ls ⟨hP, hD, hS, lv_sub hl [1, 0, 2, 4, 5] rfl⟩ hf
          obtain ⟨hP, hD, hS, hl⟩ := hI
          refine lv_iload hx hb dX8_strays_93 (lv_at hl 1 rfl) ?_
          refine lv_iload_n hx hb dX8_strays_95 rfl (lv_at hl 2 rfl) ?_
          refine lv_icmp_ge (tgt := 114) hx hb dX8_strays_96 (by decide) (fun c29 => ?_) (fun c29 => ?_)
          · have hf := ifT hf c29
            clear c29
            refine lv_iconst (v := 0) hx hb dX8_strays_114 (by decide) ?_
            refine lv_istore (lv' := [(5, .int (0 : Int32)), (4, .int x19), (3, .int r13), (0, .ref q_t), (1, .int p0)]) hx hb dX8_strays_115 hl (by decide) rfl (fun ls hl => ?_)
            refine wlw1 117 (fun _ => []) (fun (x22 : Int32) H locs ls => va_P D vwCl [(q_t, oX8 q_t_shelf q_t_rowSort q_t_rowSize q_t_rows q_t_moved q_t_shown q_t_tape v_t_tapeSize q_t_refused v_t_places q_t_ways v_t_people q_t_kind q_t_by q_t_home q_t_aim q_t_at0 v_t_hour v_t_chance u14 w_t_kept w_t_tried v_t_at v_t_token v_t_from v_t_figures v_t_fault q_t_told v_t_statements q_t_steps q_t_spot q_t_then v_t_now v_t_gone q_t_sights q_t_darkAt q_t_can), (q_t_ways, .inl (cy 0, 12, .inl v_t_ways)), (q_t_kind, .inl (cy 0, 8, .inl v_t_kind)), (q_t_spot, .inl (cy 0, 8, .inl v_t_spot))] H ∧ va_D A [(q_t, oX8 q_t_shelf q_t_rowSort q_t_rowSize q_t_rows q_t_moved q_t_shown q_t_tape v_t_tapeSize q_t_refused v_t_places q_t_ways v_t_people q_t_kind q_t_by q_t_home q_t_aim q_t_at0 v_t_hour v_t_chance u14 w_t_kept w_t_tried v_t_at v_t_token v_t_from v_t_figures v_t_fault q_t_told v_t_statements q_t_steps q_t_spot q_t_then v_t_now v_t_gone q_t_sights q_t_darkAt q_t_can), (q_t_ways, .inl (cy 0, 12, .inl v_t_ways)), (q_t_kind, .inl (cy 0, 8, .inl v_t_kind)), (q_t_spot, .inl (cy 0, 8, .inl v_t_spot))] ∧ va_S A s.heap H locs ∧ lv_has ls 6 [(5, .int x22), (4, .int x19), (0, .ref q_t), (1, .int p0)]) (fun g23 L117 x22 H locs ls hI hf => ?_) 400 (0 : Int32) _ _ ls ⟨hP, hD, hS, lv_sub hl [0, 1, 3, 4] rfl⟩ hf
            obtain ⟨hP, hD, hS, hl⟩ := hI
            refine lv_iload hx hb dX8_strays_117 (lv_at hl 1 rfl) ?_
            refine lv_iload hx hb dX8_strays_119 (lv_at hl 0 rfl) ?_
            refine lv_ishr hx hb dX8_strays_121 ?_
            refine lv_iconst (v := 1) hx hb dX8_strays_122 (by decide) ?_
            refine lv_iand hx hb dX8_strays_123 ?_
            refine lv_if_ne (tgt := 133) hx hb dX8_strays_124 (by decide) (fun c26 => ?_) (fun c26 => ?_)
            · have hf := ifF hf c26
              clear c26
              refine lv_aload_n hx hb dX8_strays_133 rfl (lv_at hl 2 rfl) ?_
              refine va_get (D := D) (ci := 8) (v := .ref q_t_spot) (C := RX8) (T := TX8) (N := 37) hx hb hts hinX8 hown hK.1 hP 0 rfl rfl 30 (by decide) hk71 (fun _ h9 => h9) rfl dX8_strays_134 ?_
              refine lv_iload_n hx hb dX8_strays_137 rfl (lv_at hl 3 rfl) ?_
              refine lv_iload hx hb dX8_strays_138 (lv_at hl 0 rfl) ?_
              obtain ⟨hi24, hf⟩ := ckE hf
              refine va_iast hx hb hK.1 hP hD hS 3 0 rfl rfl hi24 dX8_strays_140 (fun H locs hP hD hS => ?_)
              have hP : va_P D vwCl [(q_t, oX8 q_t_shelf q_t_rowSort q_t_rowSize q_t_rows q_t_moved q_t_shown q_t_tape v_t_tapeSize q_t_refused v_t_places q_t_ways v_t_people q_t_kind q_t_by q_t_home q_t_aim q_t_at0 v_t_hour v_t_chance u14 w_t_kept w_t_tried v_t_at v_t_token v_t_from v_t_figures v_t_fault q_t_told v_t_statements q_t_steps q_t_spot q_t_then v_t_now v_t_gone q_t_sights q_t_darkAt q_t_can), (q_t_ways, .inl (cy 0, 12, .inl v_t_ways)), (q_t_kind, .inl (cy 0, 8, .inl v_t_kind)), (q_t_spot, .inl (cy 0, 8, .inl (upd v_t_spot p0.toNatClampNeg x22)))] H := hP
              have hD : va_D A [(q_t, oX8 q_t_shelf q_t_rowSort q_t_rowSize q_t_rows q_t_moved q_t_shown q_t_tape v_t_tapeSize q_t_refused v_t_places q_t_ways v_t_people q_t_kind q_t_by q_t_home q_t_aim q_t_at0 v_t_hour v_t_chance u14 w_t_kept w_t_tried v_t_at v_t_token v_t_from v_t_figures v_t_fault q_t_told v_t_statements q_t_steps q_t_spot q_t_then v_t_now v_t_gone q_t_sights q_t_darkAt q_t_can), (q_t_ways, .inl (cy 0, 12, .inl v_t_ways)), (q_t_kind, .inl (cy 0, 8, .inl v_t_kind)), (q_t_spot, .inl (cy 0, 8, .inl (upd v_t_spot p0.toNatClampNeg x22)))] := hD
              cases hf
              exact W.vret hx hb hr (fun t ht hW => ⟨⟨(), rfl, trivial, xend ht hP⟩, hS.F ht⟩) hS.2.2 dX8_strays_141
            · have hf := ifT hf c26
              clear c26
              obtain ⟨x25, ex25⟩ : ∃ y : Int32, y = x22 + (1 : Int32) := ⟨_, rfl⟩
              have hf := vlE hf ex25
              refine lv_iinc (v := x25) (lv' := [(5, .int x25), (4, .int x19), (0, .ref q_t), (1, .int p0)]) hx hb dX8_strays_127 hl (k := 0) rfl (by rw [ex25]; rfl) (by decide) rfl (fun ls hl => ?_)
              clear ex25
              refine lv_goto (tgt := 117) hx hb dX8_strays_130 (by decide) ?_
              exact L117 x25 _ _ ls ⟨hP, hD, hS, lv_sub hl [0, 1, 2, 3] rfl⟩ hf
          · have hf := ifF hf c29
            clear c29
            refine lv_iload hx hb dX8_strays_99 (lv_at hl 0 rfl) ?_
            refine lv_iload hx hb dX8_strays_101 (lv_at hl 0 rfl) ?_
            refine lv_iconst (v := 1) hx hb dX8_strays_103 (by decide) ?_
            refine lv_isub hx hb dX8_strays_104 ?_
            refine lv_iand hx hb dX8_strays_105 ?_
            refine lv_topi (fun x27 ex27 => ?_)
            have hf := vlE hf ex27
            clear ex27
            refine lv_istore (lv' := [(4, .int x27), (5, .int x20), (3, .int r13), (0, .ref q_t), (1, .int p0)]) hx hb dX8_strays_106 hl (by decide) rfl (fun ls hl => ?_)
            obtain ⟨x28, ex28⟩ : ∃ y : Int32, y = x20 + (1 : Int32) := ⟨_, rfl⟩
            have hf := vlE hf ex28
            refine lv_iinc (v := x28) (lv' := [(5, .int x28), (4, .int x27), (3, .int r13), (0, .ref q_t), (1, .int p0)]) hx hb dX8_strays_108 hl (k := 1) rfl (by rw [ex28]; rfl) (by decide) rfl (fun ls hl => ?_)
            clear ex28
            refine lv_goto (tgt := 93) hx hb dX8_strays_111 (by decide) ?_
            exact L93 x27 x28 _ _ ls ⟨hP, hD, hS, lv_sub hl [1, 0, 2, 3, 4] rfl⟩ hf
        · have hf := ifT hf c30
          clear c30
          cases hf
          exact W.vret hx hb hr (fun t ht hW => ⟨⟨(), rfl, trivial, xend ht hP⟩, hS.F ht⟩) hS.2.2 dX8_strays_57
  · refine jww0 24 [] (fun  H locs ls => va_P D vwCl [(q_t, oX8 q_t_shelf q_t_rowSort q_t_rowSize q_t_rows q_t_moved q_t_shown q_t_tape v_t_tapeSize q_t_refused v_t_places q_t_ways v_t_people q_t_kind q_t_by q_t_home q_t_aim q_t_at0 v_t_hour v_t_chance v_t_seed w_t_kept w_t_tried v_t_at v_t_token v_t_from v_t_figures v_t_fault q_t_told v_t_statements q_t_steps q_t_spot q_t_then v_t_now v_t_gone q_t_sights q_t_darkAt q_t_can), (q_t_ways, .inl (cy 0, 12, .inl v_t_ways)), (q_t_kind, .inl (cy 0, 8, .inl v_t_kind)), (q_t_spot, .inl (cy 0, 8, .inl v_t_spot))] H ∧ va_D A [(q_t, oX8 q_t_shelf q_t_rowSort q_t_rowSize q_t_rows q_t_moved q_t_shown q_t_tape v_t_tapeSize q_t_refused v_t_places q_t_ways v_t_people q_t_kind q_t_by q_t_home q_t_aim q_t_at0 v_t_hour v_t_chance v_t_seed w_t_kept w_t_tried v_t_at v_t_token v_t_from v_t_figures v_t_fault q_t_told v_t_statements q_t_steps q_t_spot q_t_then v_t_now v_t_gone q_t_sights q_t_darkAt q_t_can), (q_t_ways, .inl (cy 0, 12, .inl v_t_ways)), (q_t_kind, .inl (cy 0, 8, .inl v_t_kind)), (q_t_spot, .inl (cy 0, 8, .inl v_t_spot))] ∧ va_S A s.heap H locs ∧ lv_has ls 6 [(0, .ref q_t), (1, .int p0)]) hf (fun  H locs ls hI hf => ?_) (fun k33 J24 hf => ?_)
    · obtain ⟨hP, hD, hS, hl⟩ := hI
      refine lv_iconst (v := 0) hx hb dX8_strays_24 (by decide) ?_
      exact J25 (0 : Int32) _ _ ls ⟨hP, hD, hS, lv_sub hl [0, 1] rfl⟩ hf
    · refine lv_icmp_eq (tgt := 24) hx hb dX8_strays_7 (by decide) (fun c36 => ?_) (fun c36 => ?_)
      · have hf := ifT hf c36
        clear c36
        exact J24 _ _ ls ⟨hP, hD, hS, lv_sub hl [0, 1] rfl⟩ hf
      · have hf := ifF hf c36
        clear c36
        refine lv_aload_n hx hb dX8_strays_10 rfl (lv_at hl 0 rfl) ?_
        refine va_get (D := D) (ci := 8) (v := .ref q_t_kind) (C := RX8) (T := TX8) (N := 37) hx hb hts hinX8 hown hK.1 hP 0 rfl rfl 12 (by decide) hk44 (fun _ h9 => h9) rfl dX8_strays_11 ?_
        refine lv_iload_n hx hb dX8_strays_14 rfl (lv_at hl 1 rfl) ?_
        obtain ⟨hi34, hf⟩ := ckE hf
        refine va_iald hx hb hK.1 hP 2 0 rfl rfl hi34 dX8_strays_15 ?_
        refine lv_iconst (v := 3) hx hb dX8_strays_16 (by decide) ?_
        refine lv_icmp_eq (tgt := 24) hx hb dX8_strays_17 (by decide) (fun c35 => ?_) (fun c35 => ?_)
        · have hf := ifT hf c35
          clear c35
          exact J24 _ _ ls ⟨hP, hD, hS, lv_sub hl [0, 1] rfl⟩ hf
        · have hf := ifF hf c35
          clear c35
          refine lv_iconst (v := 1) hx hb dX8_strays_20 (by decide) ?_
          refine lv_goto (tgt := 25) hx hb dX8_strays_21 (by decide) ?_
          exact J25 (1 : Int32) _ _ ls ⟨hP, hD, hS, lv_sub hl [0, 1] rfl⟩ hf
