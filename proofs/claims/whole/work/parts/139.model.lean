def fX8_dark (v_t_places : Int32) (v_t_people : Int32) (v_t_gone : Int32) (v_t_kind : Nat → Int32) (v_t_spot : Nat → Int32) : Option (Int32) :=
  bo1 (fX8_light v_t_places v_t_people v_t_gone v_t_kind v_t_spot) fun r1 =>
  some ((((1 : Int32) <<< (v_t_places &&& 31)) - (1 : Int32)) &&& (r1 ^^^ (-1 : Int32)))
set_option maxHeartbeats 4000000 in
set_option maxRecDepth 100000 in
theorem mX8_dark (l : Launch) (D : va_G) (cy : Nat → ClassId) (q_t q_t_shelf q_t_rowSort q_t_rowSize q_t_rows q_t_moved q_t_shown q_t_tape q_t_refused q_t_ways q_t_kind q_t_by q_t_home q_t_aim q_t_at0 q_t_told q_t_steps q_t_spot q_t_then q_t_sights q_t_darkAt q_t_can : Nat) (v_t_tapeSize : Int32) (v_t_places : Int32) (v_t_people : Int32) (v_t_hour : Int32) (v_t_chance : Int32) (v_t_seed : Int32) (w_t_kept : Value) (w_t_tried : Value) (v_t_at : Int32) (v_t_token : Int32) (v_t_from : Int32) (v_t_figures : Int32) (v_t_fault : Int32) (v_t_statements : Int32) (v_t_now : Int32) (v_t_gone : Int32) (v_t_kind : Nat → Int32) (v_t_spot : Nat → Int32) {r_ : Int32} (hf : fX8_dark v_t_places v_t_people v_t_gone v_t_kind v_t_spot = some r_) : Met l yX8_dark wsX8_dark ({ frames := 2, cells := 0, slots := 0, locals := 43 }) (va_Pc [.ref q_t] (fun U => va_P D vwCl [(q_t, oX8 q_t_shelf q_t_rowSort q_t_rowSize q_t_rows q_t_moved q_t_shown q_t_tape v_t_tapeSize q_t_refused v_t_places q_t_ways v_t_people q_t_kind q_t_by q_t_home q_t_aim q_t_at0 v_t_hour v_t_chance v_t_seed w_t_kept w_t_tried v_t_at v_t_token v_t_from v_t_figures v_t_fault q_t_told v_t_statements q_t_steps q_t_spot q_t_then v_t_now v_t_gone q_t_sights q_t_darkAt q_t_can), (q_t_kind, .inl (cy 0, 8, .inl v_t_kind)), (q_t_spot, .inl (cy 0, 8, .inl v_t_spot))] U.heap ∧ xK D cy U)) (vp_Si (fun x => x = r_)) 0 0 (fun _ => False) := by
  refine Met.ofW (cc := cX8_dark) (maxL := 1) (ret := (some .int)) (by decide) rfl ?_
  intro p e s m args below meth c s₁ B hml hv
  obtain ⟨rfl, hP, hK⟩ := hv
  have hx := B.exec
  have hb := B.bytes
  have hr := B.returns
  have hts := atoms_spec (ws := wsX8_dark) B.pre
  have hown : s.vm.findClass RX8 = some m.cls := findClass_of_methodNamed B.named
  have hlocks := B.notSynchronized
  have hP : va_P D vwCl [(q_t, oX8 q_t_shelf q_t_rowSort q_t_rowSize q_t_rows q_t_moved q_t_shown q_t_tape v_t_tapeSize q_t_refused v_t_places q_t_ways v_t_people q_t_kind q_t_by q_t_home q_t_aim q_t_at0 v_t_hour v_t_chance v_t_seed w_t_kept w_t_tried v_t_at v_t_token v_t_from v_t_figures v_t_fault q_t_told v_t_statements q_t_steps q_t_spot q_t_then v_t_now v_t_gone q_t_sights q_t_darkAt q_t_can), (q_t_kind, .inl (cy 0, 8, .inl v_t_kind)), (q_t_spot, .inl (cy 0, 8, .inl v_t_spot))] s.heap := hP
  have hinX8 : ∀ w ∈ u_ws RX8 TX8 37, w ∈ wsX8_dark := by decide +kernel
  have hk37 := hts (.fieldLink RX8 37 "ShowsWhereNobodyIsModel" "places" "I") (by decide +kernel)
  have hl := lv_entry ([.ref q_t]) (n := 1) (Nat.le_of_ble_eq_true rfl)
  rw [lg_entry_eq]
  generalize (lg_sl ([.ref q_t]) ++ List.replicate (1 - (lg_sl ([.ref q_t])).length) Slot.unset).toArray = ls at hl ⊢
  have hl : lv_has ls 1 [(0, .ref q_t)] := hl
  unfold fX8_dark at hf
  refine lv_iconst (v := 1) hx hb dX8_dark_0 (by decide) ?_
  refine lv_aload_n hx hb dX8_dark_1 rfl (lv_at hl 0 rfl) ?_
  refine va_get (D := D) (ci := 8) (v := .int v_t_places) (C := RX8) (T := TX8) (N := 37) hx hb hts hinX8 hown hK.1 hP 0 rfl rfl 9 (by decide) hk37 (fun _ h9 => h9) rfl dX8_dark_2 ?_
  refine lv_ishl hx hb dX8_dark_5 ?_
  refine lv_iconst (v := 1) hx hb dX8_dark_6 (by decide) ?_
  refine lv_isub hx hb dX8_dark_7 ?_
  refine lv_aload_n hx hb dX8_dark_8 rfl (lv_at hl 0 rfl) ?_
  obtain ⟨r1, hr2, hf⟩ := boE1 hf
  have hPc := hP.sub (ws' := [(q_t, oX8 q_t_shelf q_t_rowSort q_t_rowSize q_t_rows q_t_moved q_t_shown q_t_tape v_t_tapeSize q_t_refused v_t_places q_t_ways v_t_people q_t_kind q_t_by q_t_home q_t_aim q_t_at0 v_t_hour v_t_chance v_t_seed w_t_kept w_t_tried v_t_at v_t_token v_t_from v_t_figures v_t_fault q_t_told v_t_statements q_t_steps q_t_spot q_t_then v_t_now v_t_gone q_t_sights q_t_darkAt q_t_can), (q_t_kind, .inl (cy 0, 8, .inl v_t_kind)), (q_t_spot, .inl (cy 0, 8, .inl v_t_spot))]) [0, 1, 2] rfl
  refine xcSi (va_runV (As := []) (rest := [.int (((1 : Int32) <<< (v_t_places &&& 31)) - (1 : Int32))]) ⟨hx, hb, hml, hown, hts⟩ (mX8_light l D cy q_t q_t_shelf q_t_rowSort q_t_rowSize q_t_rows q_t_moved q_t_shown q_t_tape q_t_refused q_t_ways q_t_kind q_t_by q_t_home q_t_aim q_t_at0 q_t_told q_t_steps q_t_spot q_t_then q_t_sights q_t_darkAt q_t_can v_t_tapeSize v_t_places v_t_people v_t_hour v_t_chance v_t_seed w_t_kept w_t_tried v_t_at v_t_token v_t_from v_t_figures v_t_fault v_t_statements v_t_now v_t_gone v_t_kind v_t_spot   hr2) (cwV 0 hts gX8_dark_X8_light rfl rfl rfl (by decide +kernel) ⟨Nat.le_of_ble_eq_true rfl, Nat.le_of_ble_eq_true rfl⟩) (xPV hK hPc (ci := 8) (q0 := 0) rfl rfl) rfl rfl hl.1 rfl (lv_room (Nat.le_of_ble_eq_true rfl)) dX8_dark_9 ⟨Nat.le_of_ble_eq_true rfl, Nat.le_of_ble_eq_true rfl⟩) ?_
  refine lv_iconst (v := (-1)) hx hb dX8_dark_12 (by decide) ?_
  refine lv_ixor hx hb dX8_dark_13 ?_
  refine lv_iand hx hb dX8_dark_14 ?_
  exact W.iret (v := ((((1 : Int32) <<< (v_t_places &&& 31)) - (1 : Int32)) &&& (r1 ^^^ (-1 : Int32)))) hx hb hr (fun t ht hW => ⟨((((1 : Int32) <<< (v_t_places &&& 31)) - (1 : Int32)) &&& (r1 ^^^ (-1 : Int32))), rfl, Option.some.inj hf, ht⟩) (fun q h => nomatch h) dX8_dark_15
def fX8_isTime (p0 : Int32) : Option (Int32) :=
  bo1 (fX8_in p0.toInt64 (0 : Int64) (48 : Int64)) fun r1 =>
  if ¬ (r1 = 0 ∨ r1 = 1) then none else
  some r1
set_option maxHeartbeats 4000000 in
set_option maxRecDepth 100000 in
theorem mX8_isTime (l : Launch) (D : va_G) (cy : Nat → ClassId) (p0 : Int32) {r_ : Int32} (hf : fX8_isTime p0 = some r_) : Met l yX8_isTime wsX8_isTime ({ frames := 1, cells := 0, slots := 0, locals := 25 }) (va_Pc [.int p0] (fun U => va_P D vwCl [] U.heap ∧ xK D cy U)) (vp_Si (fun x => x = r_)) 0 0 (fun _ => False) := by
  refine Met.ofW (cc := cX8_isTime) (maxL := 1) (ret := (some .boolean)) (by decide) rfl ?_
  intro p e s m args below meth c s₁ B hml hv
  obtain ⟨rfl, hP, hK⟩ := hv
  have hx := B.exec
  have hb := B.bytes
  have hr := B.returns
  have hts := atoms_spec (ws := wsX8_isTime) B.pre
  have hown : s.vm.findClass RX8 = some m.cls := findClass_of_methodNamed B.named
  have hlocks := B.notSynchronized
  have hP : va_P D vwCl [] s.heap := hP
  have hc277 := hts (.constantLong RX8 277 (48)) (by decide +kernel)
  have hl := lv_entry ([.int p0]) (n := 1) (Nat.le_of_ble_eq_true rfl)
  rw [lg_entry_eq]
  generalize (lg_sl ([.int p0]) ++ List.replicate (1 - (lg_sl ([.int p0])).length) Slot.unset).toArray = ls at hl ⊢
  have hl : lv_has ls 1 [(0, .int p0)] := hl
  unfold fX8_isTime at hf
  refine lv_iload_n hx hb dX8_isTime_0 rfl (lv_at hl 0 rfl) ?_
  refine lv_i2l hx hb dX8_isTime_1 rfl ?_
  refine lv_lconst (v := 0) hx hb dX8_isTime_2 (by decide) ?_
  refine lv_ldc2 hx hb hown hc277 dX8_isTime_3 ?_
  obtain ⟨r1, hr2, hf⟩ := boE1 hf
  have hPc := hP.sub (ws' := []) [] rfl
  refine xcSi (va_runS (As := [.long p0.toInt64, .long (0 : Int64), .long (48 : Int64)]) (rest := []) ⟨hx, hb, hml, hown, hts⟩ (mX8_in l D cy    p0.toInt64 (0 : Int64) (48 : Int64) hr2) (va_cwS 3 hts gX8_isTime_X8_in rfl rfl rfl (by decide +kernel) ⟨Nat.le_of_ble_eq_true rfl, Nat.le_of_ble_eq_true rfl⟩) (xPS hK hPc) rfl rfl hl.1 rfl (lv_room (Nat.le_of_ble_eq_true rfl)) dX8_isTime_6 ⟨Nat.le_of_ble_eq_true rfl, Nat.le_of_ble_eq_true rfl⟩) ?_
  obtain ⟨hz, hf⟩ := ckE hf
  exact W.zret (v := r1) hx hb hr (by rcases Decidable.not_not.mp hz with h | h <;> rw [h] <;> rfl) (fun t ht hW => ⟨r1, rfl, Option.some.inj hf, ht⟩) (fun q h => nomatch h) dX8_isTime_9
def fX8_where (v_t_places : Int32) (v_t_people : Int32) (v_t_hour : Int32) (v_t_now : Int32) (v_t_gone : Int32) (v_t_refused : Nat → Int32) (v_t_ways : Nat → Int32) (v_t_kind : Nat → Int32) (v_t_home : Nat → Int32) (v_t_aim : Nat → Int32) (v_t_at0 : Nat → Int32) (v_t_steps : Nat → Int32) (v_t_spot : Nat → Int32) (v_t_then : Nat → Int32) (p0 : Int32) (p1 : Int32) : Option (Int32 × Int32 × (Nat → Int32) × (Nat → Int32) × (Nat → Int32) × (Nat → Int32)) :=
  bo1 (fX8_isPerson v_t_people p0) fun r1 =>
  jo0 (
    bo2 (fX8_refuse v_t_refused (-2 : Int32)) fun r4 u5 =>
    some (r4, v_t_now, u5, v_t_steps, v_t_spot, v_t_then)) fun k3 =>
  if r1 = 0 then
    k3
  else
    bo1 (fX8_isTime p1) fun r7 =>
    if r7 = 0 then
      k3
    else
      bo4 (fX8_goesOn v_t_places v_t_people v_t_hour v_t_gone v_t_ways v_t_kind v_t_home v_t_aim v_t_at0 v_t_steps v_t_spot v_t_then p1) fun u9 u10 u11 u12 =>
      if p0 < 0 ∨ 8 ≤ p0.toNatClampNeg then none else
      some (u11 p0.toNatClampNeg, u9, v_t_refused, u10, u11, u12)
set_option maxHeartbeats 4000000 in
set_option maxRecDepth 100000 in
theorem mX8_where (l : Launch) (D : va_G) (cy : Nat → ClassId) (q_t q_t_shelf q_t_rowSort q_t_rowSize q_t_rows q_t_moved q_t_shown q_t_tape q_t_refused q_t_ways q_t_kind q_t_by q_t_home q_t_aim q_t_at0 q_t_told q_t_steps q_t_spot q_t_then q_t_sights q_t_darkAt q_t_can : Nat) (v_t_tapeSize : Int32) (v_t_places : Int32) (v_t_people : Int32) (v_t_hour : Int32) (v_t_chance : Int32) (v_t_seed : Int32) (w_t_kept : Value) (w_t_tried : Value) (v_t_at : Int32) (v_t_token : Int32) (v_t_from : Int32) (v_t_figures : Int32) (v_t_fault : Int32) (v_t_statements : Int32) (v_t_now : Int32) (v_t_gone : Int32) (v_t_refused : Nat → Int32) (v_t_ways : Nat → Int32) (v_t_kind : Nat → Int32) (v_t_home : Nat → Int32) (v_t_aim : Nat → Int32) (v_t_at0 : Nat → Int32) (v_t_steps : Nat → Int32) (v_t_spot : Nat → Int32) (v_t_then : Nat → Int32) (sz : Nat) (p0 : Int32) (p1 : Int32) {r_ : Int32} {n_t_now : Int32} {n_t_refused : Nat → Int32} {n_t_steps : Nat → Int32} {n_t_spot : Nat → Int32} {n_t_then : Nat → Int32} (hf : fX8_where v_t_places v_t_people v_t_hour v_t_now v_t_gone v_t_refused v_t_ways v_t_kind v_t_home v_t_aim v_t_at0 v_t_steps v_t_spot v_t_then p0 p1 = some (r_, n_t_now, n_t_refused, n_t_steps, n_t_spot, n_t_then)) : Met l yX8_where wsX8_where ({ frames := 5, cells := 0, slots := 0, locals := 112 }) (va_Pc [.ref q_t, .int p0, .int p1] (fun U => U.heap.size = sz ∧ va_P D vwCl [(q_t, oX8 q_t_shelf q_t_rowSort q_t_rowSize q_t_rows q_t_moved q_t_shown q_t_tape v_t_tapeSize q_t_refused v_t_places q_t_ways v_t_people q_t_kind q_t_by q_t_home q_t_aim q_t_at0 v_t_hour v_t_chance v_t_seed w_t_kept w_t_tried v_t_at v_t_token v_t_from v_t_figures v_t_fault q_t_told v_t_statements q_t_steps q_t_spot q_t_then v_t_now v_t_gone q_t_sights q_t_darkAt q_t_can), (q_t_refused, .inl (cy 0, 8, .inl v_t_refused)), (q_t_ways, .inl (cy 0, 12, .inl v_t_ways)), (q_t_kind, .inl (cy 0, 8, .inl v_t_kind)), (q_t_home, .inl (cy 0, 8, .inl v_t_home)), (q_t_aim, .inl (cy 0, 8, .inl v_t_aim)), (q_t_at0, .inl (cy 0, 8, .inl v_t_at0)), (q_t_steps, .inl (cy 0, 12, .inl v_t_steps)), (q_t_spot, .inl (cy 0, 8, .inl v_t_spot)), (q_t_then, .inl (cy 0, 8, .inl v_t_then))] U.heap ∧ xK D cy U ∧ va_D (fun _ => True) [(q_t, oX8 q_t_shelf q_t_rowSort q_t_rowSize q_t_rows q_t_moved q_t_shown q_t_tape v_t_tapeSize q_t_refused v_t_places q_t_ways v_t_people q_t_kind q_t_by q_t_home q_t_aim q_t_at0 v_t_hour v_t_chance v_t_seed w_t_kept w_t_tried v_t_at v_t_token v_t_from v_t_figures v_t_fault q_t_told v_t_statements q_t_steps q_t_spot q_t_then v_t_now v_t_gone q_t_sights q_t_darkAt q_t_can), (q_t_refused, .inl (cy 0, 8, .inl v_t_refused)), (q_t_ways, .inl (cy 0, 12, .inl v_t_ways)), (q_t_kind, .inl (cy 0, 8, .inl v_t_kind)), (q_t_home, .inl (cy 0, 8, .inl v_t_home)), (q_t_aim, .inl (cy 0, 8, .inl v_t_aim)), (q_t_at0, .inl (cy 0, 8, .inl v_t_at0)), (q_t_steps, .inl (cy 0, 12, .inl v_t_steps)), (q_t_spot, .inl (cy 0, 8, .inl v_t_spot)), (q_t_then, .inl (cy 0, 8, .inl v_t_then))])) (va_Qi (fun (x : Int32) (_ : Unit) => x = r_) (fun _ t => va_P D vwCl [(q_t, oX8 q_t_shelf q_t_rowSort q_t_rowSize q_t_rows q_t_moved q_t_shown q_t_tape v_t_tapeSize q_t_refused v_t_places q_t_ways v_t_people q_t_kind q_t_by q_t_home q_t_aim q_t_at0 v_t_hour v_t_chance v_t_seed w_t_kept w_t_tried v_t_at v_t_token v_t_from v_t_figures v_t_fault q_t_told v_t_statements q_t_steps q_t_spot q_t_then n_t_now v_t_gone q_t_sights q_t_darkAt q_t_can), (q_t_refused, .inl (cy 0, 8, .inl n_t_refused)), (q_t_ways, .inl (cy 0, 12, .inl v_t_ways)), (q_t_kind, .inl (cy 0, 8, .inl v_t_kind)), (q_t_home, .inl (cy 0, 8, .inl v_t_home)), (q_t_aim, .inl (cy 0, 8, .inl v_t_aim)), (q_t_at0, .inl (cy 0, 8, .inl v_t_at0)), (q_t_steps, .inl (cy 0, 12, .inl n_t_steps)), (q_t_spot, .inl (cy 0, 8, .inl n_t_spot)), (q_t_then, .inl (cy 0, 8, .inl n_t_then))] t.heap) (va_A [(q_t, oX8 q_t_shelf q_t_rowSort q_t_rowSize q_t_rows q_t_moved q_t_shown q_t_tape v_t_tapeSize q_t_refused v_t_places q_t_ways v_t_people q_t_kind q_t_by q_t_home q_t_aim q_t_at0 v_t_hour v_t_chance v_t_seed w_t_kept w_t_tried v_t_at v_t_token v_t_from v_t_figures v_t_fault q_t_told v_t_statements q_t_steps q_t_spot q_t_then v_t_now v_t_gone q_t_sights q_t_darkAt q_t_can), (q_t_refused, .inl (cy 0, 8, .inl v_t_refused)), (q_t_ways, .inl (cy 0, 12, .inl v_t_ways)), (q_t_kind, .inl (cy 0, 8, .inl v_t_kind)), (q_t_home, .inl (cy 0, 8, .inl v_t_home)), (q_t_aim, .inl (cy 0, 8, .inl v_t_aim)), (q_t_at0, .inl (cy 0, 8, .inl v_t_at0)), (q_t_steps, .inl (cy 0, 12, .inl v_t_steps)), (q_t_spot, .inl (cy 0, 8, .inl v_t_spot)), (q_t_then, .inl (cy 0, 8, .inl v_t_then))] sz)) 0 0 (va_A [(q_t, oX8 q_t_shelf q_t_rowSort q_t_rowSize q_t_rows q_t_moved q_t_shown q_t_tape v_t_tapeSize q_t_refused v_t_places q_t_ways v_t_people q_t_kind q_t_by q_t_home q_t_aim q_t_at0 v_t_hour v_t_chance v_t_seed w_t_kept w_t_tried v_t_at v_t_token v_t_from v_t_figures v_t_fault q_t_told v_t_statements q_t_steps q_t_spot q_t_then v_t_now v_t_gone q_t_sights q_t_darkAt q_t_can), (q_t_refused, .inl (cy 0, 8, .inl v_t_refused)), (q_t_ways, .inl (cy 0, 12, .inl v_t_ways)), (q_t_kind, .inl (cy 0, 8, .inl v_t_kind)), (q_t_home, .inl (cy 0, 8, .inl v_t_home)), (q_t_aim, .inl (cy 0, 8, .inl v_t_aim)), (q_t_at0, .inl (cy 0, 8, .inl v_t_at0)), (q_t_steps, .inl (cy 0, 12, .inl v_t_steps)), (q_t_spot, .inl (cy 0, 8, .inl v_t_spot)), (q_t_then, .inl (cy 0, 8, .inl v_t_then))] sz) := by
  refine Met.ofW (cc := cX8_where) (maxL := 3) (ret := (some .int)) (by decide) rfl ?_
  intro p e s m args below meth c s₁ B hml hv
  obtain ⟨rfl, hsz, hP, hK, hD0⟩ := hv
  have hx := B.exec
  have hb := B.bytes
  have hr := B.returns
  have hts := atoms_spec (ws := wsX8_where) B.pre
  have hown : s.vm.findClass RX8 = some m.cls := findClass_of_methodNamed B.named
  have hlocks := B.notSynchronized
  subst hsz
  have hD := hD0.self (sz := s.heap.size)
  generalize hAe : va_A [(q_t, oX8 q_t_shelf q_t_rowSort q_t_rowSize q_t_rows q_t_moved q_t_shown q_t_tape v_t_tapeSize q_t_refused v_t_places q_t_ways v_t_people q_t_kind q_t_by q_t_home q_t_aim q_t_at0 v_t_hour v_t_chance v_t_seed w_t_kept w_t_tried v_t_at v_t_token v_t_from v_t_figures v_t_fault q_t_told v_t_statements q_t_steps q_t_spot q_t_then v_t_now v_t_gone q_t_sights q_t_darkAt q_t_can), (q_t_refused, .inl (cy 0, 8, .inl v_t_refused)), (q_t_ways, .inl (cy 0, 12, .inl v_t_ways)), (q_t_kind, .inl (cy 0, 8, .inl v_t_kind)), (q_t_home, .inl (cy 0, 8, .inl v_t_home)), (q_t_aim, .inl (cy 0, 8, .inl v_t_aim)), (q_t_at0, .inl (cy 0, 8, .inl v_t_at0)), (q_t_steps, .inl (cy 0, 12, .inl v_t_steps)), (q_t_spot, .inl (cy 0, 8, .inl v_t_spot)), (q_t_then, .inl (cy 0, 8, .inl v_t_then))] s.heap.size = A at hD ⊢
  have hA : ∀ q : Nat, s.heap.size ≤ q → A q := fun q h => by rw [← hAe]; exact Or.inr h
  have hS : va_S A s.heap s.heap [] := va_S.rf
  have hP : va_P D vwCl [(q_t, oX8 q_t_shelf q_t_rowSort q_t_rowSize q_t_rows q_t_moved q_t_shown q_t_tape v_t_tapeSize q_t_refused v_t_places q_t_ways v_t_people q_t_kind q_t_by q_t_home q_t_aim q_t_at0 v_t_hour v_t_chance v_t_seed w_t_kept w_t_tried v_t_at v_t_token v_t_from v_t_figures v_t_fault q_t_told v_t_statements q_t_steps q_t_spot q_t_then v_t_now v_t_gone q_t_sights q_t_darkAt q_t_can), (q_t_refused, .inl (cy 0, 8, .inl v_t_refused)), (q_t_ways, .inl (cy 0, 12, .inl v_t_ways)), (q_t_kind, .inl (cy 0, 8, .inl v_t_kind)), (q_t_home, .inl (cy 0, 8, .inl v_t_home)), (q_t_aim, .inl (cy 0, 8, .inl v_t_aim)), (q_t_at0, .inl (cy 0, 8, .inl v_t_at0)), (q_t_steps, .inl (cy 0, 12, .inl v_t_steps)), (q_t_spot, .inl (cy 0, 8, .inl v_t_spot)), (q_t_then, .inl (cy 0, 8, .inl v_t_then))] s.heap := hP
  have hinX8 : ∀ w ∈ u_ws RX8 TX8 37, w ∈ wsX8_where := by decide +kernel
  have hk71 := hts (.fieldLink RX8 71 "ShowsWhereNobodyIsModel" "spot" "[I") (by decide +kernel)
  have hl := lv_entry ([.ref q_t, .int p0, .int p1]) (n := 3) (Nat.le_of_ble_eq_true rfl)
  rw [lg_entry_eq]
  generalize (lg_sl ([.ref q_t, .int p0, .int p1]) ++ List.replicate (3 - (lg_sl ([.ref q_t, .int p0, .int p1])).length) Slot.unset).toArray = ls at hl ⊢
  have hl : lv_has ls 3 [(0, .ref q_t), (1, .int p0), (2, .int p1)] := hl
  unfold fX8_where at hf
  refine lv_aload_n hx hb dX8_where_0 rfl (lv_at hl 0 rfl) ?_
  refine lv_iload_n hx hb dX8_where_1 rfl (lv_at hl 1 rfl) ?_
  obtain ⟨r1, hr2, hf⟩ := boE1 hf
  have hPc := hP.sub (ws' := [(q_t, oX8 q_t_shelf q_t_rowSort q_t_rowSize q_t_rows q_t_moved q_t_shown q_t_tape v_t_tapeSize q_t_refused v_t_places q_t_ways v_t_people q_t_kind q_t_by q_t_home q_t_aim q_t_at0 v_t_hour v_t_chance v_t_seed w_t_kept w_t_tried v_t_at v_t_token v_t_from v_t_figures v_t_fault q_t_told v_t_statements q_t_steps q_t_spot q_t_then v_t_now v_t_gone q_t_sights q_t_darkAt q_t_can)]) [0] rfl
  refine xcSi (va_runV (As := [.int p0]) (rest := []) ⟨hx, hb, hml, hown, hts⟩ (mX8_isPerson l D cy q_t q_t_shelf q_t_rowSort q_t_rowSize q_t_rows q_t_moved q_t_shown q_t_tape q_t_refused q_t_ways q_t_kind q_t_by q_t_home q_t_aim q_t_at0 q_t_told q_t_steps q_t_spot q_t_then q_t_sights q_t_darkAt q_t_can v_t_tapeSize v_t_places v_t_people v_t_hour v_t_chance v_t_seed w_t_kept w_t_tried v_t_at v_t_token v_t_from v_t_figures v_t_fault v_t_statements v_t_now v_t_gone  p0 hr2) (cwV 1 hts gX8_where_X8_isPerson rfl rfl rfl (by decide +kernel) ⟨Nat.le_of_ble_eq_true rfl, Nat.le_of_ble_eq_true rfl⟩) (xPV hK hPc (ci := 8) (q0 := 0) rfl rfl) rfl rfl hl.1 rfl (lv_room (Nat.le_of_ble_eq_true rfl)) dX8_where_2 ⟨Nat.le_of_ble_eq_true rfl, Nat.le_of_ble_eq_true rfl⟩) ?_
  refine jww0 15 [] (fun  H locs ls => va_P D vwCl [(q_t, oX8 q_t_shelf q_t_rowSort q_t_rowSize q_t_rows q_t_moved q_t_shown q_t_tape v_t_tapeSize q_t_refused v_t_places q_t_ways v_t_people q_t_kind q_t_by q_t_home q_t_aim q_t_at0 v_t_hour v_t_chance v_t_seed w_t_kept w_t_tried v_t_at v_t_token v_t_from v_t_figures v_t_fault q_t_told v_t_statements q_t_steps q_t_spot q_t_then v_t_now v_t_gone q_t_sights q_t_darkAt q_t_can), (q_t_refused, .inl (cy 0, 8, .inl v_t_refused)), (q_t_ways, .inl (cy 0, 12, .inl v_t_ways)), (q_t_kind, .inl (cy 0, 8, .inl v_t_kind)), (q_t_home, .inl (cy 0, 8, .inl v_t_home)), (q_t_aim, .inl (cy 0, 8, .inl v_t_aim)), (q_t_at0, .inl (cy 0, 8, .inl v_t_at0)), (q_t_steps, .inl (cy 0, 12, .inl v_t_steps)), (q_t_spot, .inl (cy 0, 8, .inl v_t_spot)), (q_t_then, .inl (cy 0, 8, .inl v_t_then))] H ∧ va_D A [(q_t, oX8 q_t_shelf q_t_rowSort q_t_rowSize q_t_rows q_t_moved q_t_shown q_t_tape v_t_tapeSize q_t_refused v_t_places q_t_ways v_t_people q_t_kind q_t_by q_t_home q_t_aim q_t_at0 v_t_hour v_t_chance v_t_seed w_t_kept w_t_tried v_t_at v_t_token v_t_from v_t_figures v_t_fault q_t_told v_t_statements q_t_steps q_t_spot q_t_then v_t_now v_t_gone q_t_sights q_t_darkAt q_t_can), (q_t_refused, .inl (cy 0, 8, .inl v_t_refused)), (q_t_ways, .inl (cy 0, 12, .inl v_t_ways)), (q_t_kind, .inl (cy 0, 8, .inl v_t_kind)), (q_t_home, .inl (cy 0, 8, .inl v_t_home)), (q_t_aim, .inl (cy 0, 8, .inl v_t_aim)), (q_t_at0, .inl (cy 0, 8, .inl v_t_at0)), (q_t_steps, .inl (cy 0, 12, .inl v_t_steps)), (q_t_spot, .inl (cy 0, 8, .inl v_t_spot)), (q_t_then, .inl (cy 0, 8, .inl v_t_then))] ∧ va_S A s.heap H locs ∧ lv_has ls 3 [(0, .ref q_t)]) hf (fun  H locs ls hI hf => ?_) (fun k3 J15 hf => ?_)
  · obtain ⟨hP, hD, hS, hl⟩ := hI
    refine lv_aload_n hx hb dX8_where_15 rfl (lv_at hl 0 rfl) ?_
    refine lv_bipush (v := (-2)) hx hb dX8_where_16 (by decide) ?_
    obtain ⟨r4, u5, hr6, hf⟩ := boE2 hf
    have hPc := hP.sub (ws' := [(q_t, oX8 q_t_shelf q_t_rowSort q_t_rowSize q_t_rows q_t_moved q_t_shown q_t_tape v_t_tapeSize q_t_refused v_t_places q_t_ways v_t_people q_t_kind q_t_by q_t_home q_t_aim q_t_at0 v_t_hour v_t_chance v_t_seed w_t_kept w_t_tried v_t_at v_t_token v_t_from v_t_figures v_t_fault q_t_told v_t_statements q_t_steps q_t_spot q_t_then v_t_now v_t_gone q_t_sights q_t_darkAt q_t_can), (q_t_refused, .inl (cy 0, 8, .inl v_t_refused))]) [0, 1] rfl
    have hDc := hD.sub (ws' := [(q_t, oX8 q_t_shelf q_t_rowSort q_t_rowSize q_t_rows q_t_moved q_t_shown q_t_tape v_t_tapeSize q_t_refused v_t_places q_t_ways v_t_people q_t_kind q_t_by q_t_home q_t_aim q_t_at0 v_t_hour v_t_chance v_t_seed w_t_kept w_t_tried v_t_at v_t_token v_t_from v_t_figures v_t_fault q_t_told v_t_statements q_t_steps q_t_spot q_t_then v_t_now v_t_gone q_t_sights q_t_darkAt q_t_can), (q_t_refused, .inl (cy 0, 8, .inl v_t_refused))]) [0, 1] (by decide) rfl
    refine xcQi (w1 := [(q_t, oX8 q_t_shelf q_t_rowSort q_t_rowSize q_t_rows q_t_moved q_t_shown q_t_tape v_t_tapeSize q_t_refused v_t_places q_t_ways v_t_people q_t_kind q_t_by q_t_home q_t_aim q_t_at0 v_t_hour v_t_chance v_t_seed w_t_kept w_t_tried v_t_at v_t_token v_t_from v_t_figures v_t_fault q_t_told v_t_statements q_t_steps q_t_spot q_t_then v_t_now v_t_gone q_t_sights q_t_darkAt q_t_can), (q_t_refused, .inl (cy 0, 8, .inl u5))]) (va_runV (As := [.int (-2 : Int32)]) (rest := []) ⟨hx, hb, hml, hown, hts⟩ (mX8_refuse l D cy q_t q_t_shelf q_t_rowSort q_t_rowSize q_t_rows q_t_moved q_t_shown q_t_tape q_t_refused q_t_ways q_t_kind q_t_by q_t_home q_t_aim q_t_at0 q_t_told q_t_steps q_t_spot q_t_then q_t_sights q_t_darkAt q_t_can v_t_tapeSize v_t_places v_t_people v_t_hour v_t_chance v_t_seed w_t_kept w_t_tried v_t_at v_t_token v_t_from v_t_figures v_t_fault v_t_statements v_t_now v_t_gone v_t_refused _ (-2 : Int32) hr6) (cwV 1 hts gX8_where_X8_refuse rfl rfl rfl (by decide +kernel) ⟨Nat.le_of_ble_eq_true rfl, Nat.le_of_ble_eq_true rfl⟩) (xPVw hK hPc hDc (ci := 8) (q0 := 0) rfl rfl) rfl rfl hl.1 rfl (lv_room (Nat.le_of_ble_eq_true rfl)) dX8_where_18 ⟨Nat.le_of_ble_eq_true rfl, Nat.le_of_ble_eq_true rfl⟩) hP hD hS hA [0, 1] rfl rfl (fun H locs hP hD hS => ?_)
    have hP : va_P D vwCl [(q_t, oX8 q_t_shelf q_t_rowSort q_t_rowSize q_t_rows q_t_moved q_t_shown q_t_tape v_t_tapeSize q_t_refused v_t_places q_t_ways v_t_people q_t_kind q_t_by q_t_home q_t_aim q_t_at0 v_t_hour v_t_chance v_t_seed w_t_kept w_t_tried v_t_at v_t_token v_t_from v_t_figures v_t_fault q_t_told v_t_statements q_t_steps q_t_spot q_t_then v_t_now v_t_gone q_t_sights q_t_darkAt q_t_can), (q_t_refused, .inl (cy 0, 8, .inl u5)), (q_t_ways, .inl (cy 0, 12, .inl v_t_ways)), (q_t_kind, .inl (cy 0, 8, .inl v_t_kind)), (q_t_home, .inl (cy 0, 8, .inl v_t_home)), (q_t_aim, .inl (cy 0, 8, .inl v_t_aim)), (q_t_at0, .inl (cy 0, 8, .inl v_t_at0)), (q_t_steps, .inl (cy 0, 12, .inl v_t_steps)), (q_t_spot, .inl (cy 0, 8, .inl v_t_spot)), (q_t_then, .inl (cy 0, 8, .inl v_t_then))] H := hP
    have hD : va_D A [(q_t, oX8 q_t_shelf q_t_rowSort q_t_rowSize q_t_rows q_t_moved q_t_shown q_t_tape v_t_tapeSize q_t_refused v_t_places q_t_ways v_t_people q_t_kind q_t_by q_t_home q_t_aim q_t_at0 v_t_hour v_t_chance v_t_seed w_t_kept w_t_tried v_t_at v_t_token v_t_from v_t_figures v_t_fault q_t_told v_t_statements q_t_steps q_t_spot q_t_then v_t_now v_t_gone q_t_sights q_t_darkAt q_t_can), (q_t_refused, .inl (cy 0, 8, .inl u5)), (q_t_ways, .inl (cy 0, 12, .inl v_t_ways)), (q_t_kind, .inl (cy 0, 8, .inl v_t_kind)), (q_t_home, .inl (cy 0, 8, .inl v_t_home)), (q_t_aim, .inl (cy 0, 8, .inl v_t_aim)), (q_t_at0, .inl (cy 0, 8, .inl v_t_at0)), (q_t_steps, .inl (cy 0, 12, .inl v_t_steps)), (q_t_spot, .inl (cy 0, 8, .inl v_t_spot)), (q_t_then, .inl (cy 0, 8, .inl v_t_then))] := hD
    cases hf
    exact W.iret hx hb hr (fun t ht hW => ⟨⟨_, (), rfl, rfl, xend ht hP⟩, hS.F ht⟩) hS.2.2 dX8_where_21
  · refine lv_if_eq (tgt := 15) hx hb dX8_where_5 (by decide) (fun c16 => ?_) (fun c16 => ?_)
    · have hf := ifT hf c16
      clear c16
      exact J15 _ _ ls ⟨hP, hD, hS, lv_sub hl [0] rfl⟩ hf
    · have hf := ifF hf c16
      clear c16
      refine lv_iload_n hx hb dX8_where_8 rfl (lv_at hl 2 rfl) ?_
      obtain ⟨r7, hr8, hf⟩ := boE1 hf
      have hPc := hP.sub (ws' := []) [] rfl
      refine xcSi (va_runS (As := [.int p1]) (rest := []) ⟨hx, hb, hml, hown, hts⟩ (mX8_isTime l D cy    p1 hr8) (va_cwS 1 hts gX8_where_X8_isTime rfl rfl rfl (by decide +kernel) ⟨Nat.le_of_ble_eq_true rfl, Nat.le_of_ble_eq_true rfl⟩) (xPS hK hPc) rfl rfl hl.1 rfl (lv_room (Nat.le_of_ble_eq_true rfl)) dX8_where_9 ⟨Nat.le_of_ble_eq_true rfl, Nat.le_of_ble_eq_true rfl⟩) ?_
      refine lv_if_ne (tgt := 22) hx hb dX8_where_12 (by decide) (fun c15 => ?_) (fun c15 => ?_)
      · have hf := ifF hf c15
        clear c15
        refine lv_aload_n hx hb dX8_where_22 rfl (lv_at hl 0 rfl) ?_
        refine lv_iload_n hx hb dX8_where_23 rfl (lv_at hl 2 rfl) ?_
        obtain ⟨u9, u10, u11, u12, hr13, hf⟩ := boE4 hf
        have hPc := hP.sub (ws' := [(q_t, oX8 q_t_shelf q_t_rowSort q_t_rowSize q_t_rows q_t_moved q_t_shown q_t_tape v_t_tapeSize q_t_refused v_t_places q_t_ways v_t_people q_t_kind q_t_by q_t_home q_t_aim q_t_at0 v_t_hour v_t_chance v_t_seed w_t_kept w_t_tried v_t_at v_t_token v_t_from v_t_figures v_t_fault q_t_told v_t_statements q_t_steps q_t_spot q_t_then v_t_now v_t_gone q_t_sights q_t_darkAt q_t_can), (q_t_ways, .inl (cy 0, 12, .inl v_t_ways)), (q_t_kind, .inl (cy 0, 8, .inl v_t_kind)), (q_t_home, .inl (cy 0, 8, .inl v_t_home)), (q_t_aim, .inl (cy 0, 8, .inl v_t_aim)), (q_t_at0, .inl (cy 0, 8, .inl v_t_at0)), (q_t_steps, .inl (cy 0, 12, .inl v_t_steps)), (q_t_spot, .inl (cy 0, 8, .inl v_t_spot)), (q_t_then, .inl (cy 0, 8, .inl v_t_then))]) [0, 2, 3, 4, 5, 6, 7, 8, 9] rfl
        have hDc := hD.sub (ws' := [(q_t, oX8 q_t_shelf q_t_rowSort q_t_rowSize q_t_rows q_t_moved q_t_shown q_t_tape v_t_tapeSize q_t_refused v_t_places q_t_ways v_t_people q_t_kind q_t_by q_t_home q_t_aim q_t_at0 v_t_hour v_t_chance v_t_seed w_t_kept w_t_tried v_t_at v_t_token v_t_from v_t_figures v_t_fault q_t_told v_t_statements q_t_steps q_t_spot q_t_then v_t_now v_t_gone q_t_sights q_t_darkAt q_t_can), (q_t_ways, .inl (cy 0, 12, .inl v_t_ways)), (q_t_kind, .inl (cy 0, 8, .inl v_t_kind)), (q_t_home, .inl (cy 0, 8, .inl v_t_home)), (q_t_aim, .inl (cy 0, 8, .inl v_t_aim)), (q_t_at0, .inl (cy 0, 8, .inl v_t_at0)), (q_t_steps, .inl (cy 0, 12, .inl v_t_steps)), (q_t_spot, .inl (cy 0, 8, .inl v_t_spot)), (q_t_then, .inl (cy 0, 8, .inl v_t_then))]) [0, 2, 3, 4, 5, 6, 7, 8, 9] (by decide) rfl
        refine xcQv (w1 := [(q_t, oX8 q_t_shelf q_t_rowSort q_t_rowSize q_t_rows q_t_moved q_t_shown q_t_tape v_t_tapeSize q_t_refused v_t_places q_t_ways v_t_people q_t_kind q_t_by q_t_home q_t_aim q_t_at0 v_t_hour v_t_chance v_t_seed w_t_kept w_t_tried v_t_at v_t_token v_t_from v_t_figures v_t_fault q_t_told v_t_statements q_t_steps q_t_spot q_t_then u9 v_t_gone q_t_sights q_t_darkAt q_t_can), (q_t_ways, .inl (cy 0, 12, .inl v_t_ways)), (q_t_kind, .inl (cy 0, 8, .inl v_t_kind)), (q_t_home, .inl (cy 0, 8, .inl v_t_home)), (q_t_aim, .inl (cy 0, 8, .inl v_t_aim)), (q_t_at0, .inl (cy 0, 8, .inl v_t_at0)), (q_t_steps, .inl (cy 0, 12, .inl u10)), (q_t_spot, .inl (cy 0, 8, .inl u11)), (q_t_then, .inl (cy 0, 8, .inl u12))]) (va_runV (As := [.int p1]) (rest := []) ⟨hx, hb, hml, hown, hts⟩ (mX8_goesOn l D cy q_t q_t_shelf q_t_rowSort q_t_rowSize q_t_rows q_t_moved q_t_shown q_t_tape q_t_refused q_t_ways q_t_kind q_t_by q_t_home q_t_aim q_t_at0 q_t_told q_t_steps q_t_spot q_t_then q_t_sights q_t_darkAt q_t_can v_t_tapeSize v_t_places v_t_people v_t_hour v_t_chance v_t_seed w_t_kept w_t_tried v_t_at v_t_token v_t_from v_t_figures v_t_fault v_t_statements v_t_now v_t_gone v_t_ways v_t_kind v_t_home v_t_aim v_t_at0 v_t_steps v_t_spot v_t_then _ p1 hr13) (cwV 1 hts gX8_where_X8_goesOn rfl rfl rfl (by decide +kernel) ⟨Nat.le_of_ble_eq_true rfl, Nat.le_of_ble_eq_true rfl⟩) (xPVw hK hPc hDc (ci := 8) (q0 := 0) rfl rfl) rfl rfl hl.1 rfl (lv_room (Nat.le_of_ble_eq_true rfl)) dX8_where_24 ⟨Nat.le_of_ble_eq_true rfl, Nat.le_of_ble_eq_true rfl⟩) hP hD hS hA [0, 2, 3, 4, 5, 6, 7, 8, 9] rfl rfl (fun H locs hP hD hS => ?_)
        have hP : va_P D vwCl [(q_t, oX8 q_t_shelf q_t_rowSort q_t_rowSize q_t_rows q_t_moved q_t_shown q_t_tape v_t_tapeSize q_t_refused v_t_places q_t_ways v_t_people q_t_kind q_t_by q_t_home q_t_aim q_t_at0 v_t_hour v_t_chance v_t_seed w_t_kept w_t_tried v_t_at v_t_token v_t_from v_t_figures v_t_fault q_t_told v_t_statements q_t_steps q_t_spot q_t_then u9 v_t_gone q_t_sights q_t_darkAt q_t_can), (q_t_refused, .inl (cy 0, 8, .inl v_t_refused)), (q_t_ways, .inl (cy 0, 12, .inl v_t_ways)), (q_t_kind, .inl (cy 0, 8, .inl v_t_kind)), (q_t_home, .inl (cy 0, 8, .inl v_t_home)), (q_t_aim, .inl (cy 0, 8, .inl v_t_aim)), (q_t_at0, .inl (cy 0, 8, .inl v_t_at0)), (q_t_steps, .inl (cy 0, 12, .inl u10)), (q_t_spot, .inl (cy 0, 8, .inl u11)), (q_t_then, .inl (cy 0, 8, .inl u12))] H := hP
        have hD : va_D A [(q_t, oX8 q_t_shelf q_t_rowSort q_t_rowSize q_t_rows q_t_moved q_t_shown q_t_tape v_t_tapeSize q_t_refused v_t_places q_t_ways v_t_people q_t_kind q_t_by q_t_home q_t_aim q_t_at0 v_t_hour v_t_chance v_t_seed w_t_kept w_t_tried v_t_at v_t_token v_t_from v_t_figures v_t_fault q_t_told v_t_statements q_t_steps q_t_spot q_t_then u9 v_t_gone q_t_sights q_t_darkAt q_t_can), (q_t_refused, .inl (cy 0, 8, .inl v_t_refused)), (q_t_ways, .inl (cy 0, 12, .inl v_t_ways)), (q_t_kind, .inl (cy 0, 8, .inl v_t_kind)), (q_t_home, .inl (cy 0, 8, .inl v_t_home)), (q_t_aim, .inl (cy 0, 8, .inl v_t_aim)), (q_t_at0, .inl (cy 0, 8, .inl v_t_at0)), (q_t_steps, .inl (cy 0, 12, .inl u10)), (q_t_spot, .inl (cy 0, 8, .inl u11)), (q_t_then, .inl (cy 0, 8, .inl u12))] := hD
        refine lv_aload_n hx hb dX8_where_27 rfl (lv_at hl 0 rfl) ?_
        refine va_get (D := D) (ci := 8) (v := .ref q_t_spot) (C := RX8) (T := TX8) (N := 37) hx hb hts hinX8 hown hK.1 hP 0 rfl rfl 30 (by decide) hk71 (fun _ h9 => h9) rfl dX8_where_28 ?_
        refine lv_iload_n hx hb dX8_where_31 rfl (lv_at hl 1 rfl) ?_
        obtain ⟨hi14, hf⟩ := ckE hf
        refine va_iald hx hb hK.1 hP 8 0 rfl rfl hi14 dX8_where_32 ?_
        cases hf
        exact W.iret hx hb hr (fun t ht hW => ⟨⟨_, (), rfl, rfl, xend ht hP⟩, hS.F ht⟩) hS.2.2 dX8_where_33
      · have hf := ifT hf c15
        clear c15
        exact J15 _ _ ls ⟨hP, hD, hS, lv_sub hl [0] rfl⟩ hf
def fX8_shines (v_t_places : Int32) (v_t_people : Int32) (v_t_hour : Int32) (v_t_now : Int32) (v_t_gone : Int32) (v_t_refused : Nat → Int32) (v_t_ways : Nat → Int32) (v_t_kind : Nat → Int32) (v_t_home : Nat → Int32) (v_t_aim : Nat → Int32) (v_t_at0 : Nat → Int32) (v_t_steps : Nat → Int32) (v_t_spot : Nat → Int32) (v_t_then : Nat → Int32) (p0 : Int32) (p1 : Int32) : Option (Int32 × Int32 × (Nat → Int32) × (Nat → Int32) × (Nat → Int32) × (Nat → Int32)) :=
  bo1 (fX8_isTime p0) fun r1 =>
  jo0 (
    bo2 (fX8_refuse v_t_refused (-2 : Int32)) fun r4 u5 =>
    some (r4, v_t_now, u5, v_t_steps, v_t_spot, v_t_then)) fun k3 =>
  if r1 = 0 then
    k3
  else
    bo1 (fX8_in p1.toInt64 (0 : Int64) (2 : Int64)) fun r7 =>
    if r7 = 0 then
      k3
    else
      bo4 (fX8_goesOn v_t_places v_t_people v_t_hour v_t_gone v_t_ways v_t_kind v_t_home v_t_aim v_t_at0 v_t_steps v_t_spot v_t_then p0) fun u9 u10 u11 u12 =>
      if p1 = 0 then
        bo1 (fX8_light v_t_places v_t_people v_t_gone v_t_kind u11) fun r23 =>
        some (r23, u9, v_t_refused, u10, u11, u12)
      else
        if p1 = (1 : Int32) then
          bo1 (fX8_light v_t_places v_t_people v_t_gone v_t_kind u11) fun r18 =>
          bo1 (fX8_bits r18) fun r20 =>
          some (r20, u9, v_t_refused, u10, u11, u12)
        else
          bo1 (fX8_dark v_t_places v_t_people v_t_gone v_t_kind u11) fun r14 =>
          bo1 (fX8_bits r14) fun r16 =>
          some (r16, u9, v_t_refused, u10, u11, u12)
set_option maxHeartbeats 4000000 in
set_option maxRecDepth 100000 in
theorem mX8_shines (l : Launch) (D : va_G) (cy : Nat → ClassId) (q_t q_t_shelf q_t_rowSort q_t_rowSize q_t_rows q_t_moved q_t_shown q_t_tape q_t_refused q_t_ways q_t_kind q_t_by q_t_home q_t_aim q_t_at0 q_t_told q_t_steps q_t_spot q_t_then q_t_sights q_t_darkAt q_t_can : Nat) (v_t_tapeSize : Int32) (v_t_places : Int32) (v_t_people : Int32) (v_t_hour : Int32) (v_t_chance : Int32) (v_t_seed : Int32) (w_t_kept : Value) (w_t_tried : Value) (v_t_at : Int32) (v_t_token : Int32) (v_t_from : Int32) (v_t_figures : Int32) (v_t_fault : Int32) (v_t_statements : Int32) (v_t_now : Int32) (v_t_gone : Int32) (v_t_refused : Nat → Int32) (v_t_ways : Nat → Int32) (v_t_kind : Nat → Int32) (v_t_home : Nat → Int32) (v_t_aim : Nat → Int32) (v_t_at0 : Nat → Int32) (v_t_steps : Nat → Int32) (v_t_spot : Nat → Int32) (v_t_then : Nat → Int32) (sz : Nat) (p0 : Int32) (p1 : Int32) {r_ : Int32} {n_t_now : Int32} {n_t_refused : Nat → Int32} {n_t_steps : Nat → Int32} {n_t_spot : Nat → Int32} {n_t_then : Nat → Int32} (hf : fX8_shines v_t_places v_t_people v_t_hour v_t_now v_t_gone v_t_refused v_t_ways v_t_kind v_t_home v_t_aim v_t_at0 v_t_steps v_t_spot v_t_then p0 p1 = some (r_, n_t_now, n_t_refused, n_t_steps, n_t_spot, n_t_then)) : Met l yX8_shines wsX8_shines ({ frames := 5, cells := 0, slots := 0, locals := 112 }) (va_Pc [.ref q_t, .int p0, .int p1] (fun U => U.heap.size = sz ∧ va_P D vwCl [(q_t, oX8 q_t_shelf q_t_rowSort q_t_rowSize q_t_rows q_t_moved q_t_shown q_t_tape v_t_tapeSize q_t_refused v_t_places q_t_ways v_t_people q_t_kind q_t_by q_t_home q_t_aim q_t_at0 v_t_hour v_t_chance v_t_seed w_t_kept w_t_tried v_t_at v_t_token v_t_from v_t_figures v_t_fault q_t_told v_t_statements q_t_steps q_t_spot q_t_then v_t_now v_t_gone q_t_sights q_t_darkAt q_t_can), (q_t_refused, .inl (cy 0, 8, .inl v_t_refused)), (q_t_ways, .inl (cy 0, 12, .inl v_t_ways)), (q_t_kind, .inl (cy 0, 8, .inl v_t_kind)), (q_t_home, .inl (cy 0, 8, .inl v_t_home)), (q_t_aim, .inl (cy 0, 8, .inl v_t_aim)), (q_t_at0, .inl (cy 0, 8, .inl v_t_at0)), (q_t_steps, .inl (cy 0, 12, .inl v_t_steps)), (q_t_spot, .inl (cy 0, 8, .inl v_t_spot)), (q_t_then, .inl (cy 0, 8, .inl v_t_then))] U.heap ∧ xK D cy U ∧ va_D (fun _ => True) [(q_t, oX8 q_t_shelf q_t_rowSort q_t_rowSize q_t_rows q_t_moved q_t_shown q_t_tape v_t_tapeSize q_t_refused v_t_places q_t_ways v_t_people q_t_kind q_t_by q_t_home q_t_aim q_t_at0 v_t_hour v_t_chance v_t_seed w_t_kept w_t_tried v_t_at v_t_token v_t_from v_t_figures v_t_fault q_t_told v_t_statements q_t_steps q_t_spot q_t_then v_t_now v_t_gone q_t_sights q_t_darkAt q_t_can), (q_t_refused, .inl (cy 0, 8, .inl v_t_refused)), (q_t_ways, .inl (cy 0, 12, .inl v_t_ways)), (q_t_kind, .inl (cy 0, 8, .inl v_t_kind)), (q_t_home, .inl (cy 0, 8, .inl v_t_home)), (q_t_aim, .inl (cy 0, 8, .inl v_t_aim)), (q_t_at0, .inl (cy 0, 8, .inl v_t_at0)), (q_t_steps, .inl (cy 0, 12, .inl v_t_steps)), (q_t_spot, .inl (cy 0, 8, .inl v_t_spot)), (q_t_then, .inl (cy 0, 8, .inl v_t_then))])) (va_Qi (fun (x : Int32) (_ : Unit) => x = r_) (fun _ t => va_P D vwCl [(q_t, oX8 q_t_shelf q_t_rowSort q_t_rowSize q_t_rows q_t_moved q_t_shown q_t_tape v_t_tapeSize q_t_refused v_t_places q_t_ways v_t_people q_t_kind q_t_by q_t_home q_t_aim q_t_at0 v_t_hour v_t_chance v_t_seed w_t_kept w_t_tried v_t_at v_t_token v_t_from v_t_figures v_t_fault q_t_told v_t_statements q_t_steps q_t_spot q_t_then n_t_now v_t_gone q_t_sights q_t_darkAt q_t_can), (q_t_refused, .inl (cy 0, 8, .inl n_t_refused)), (q_t_ways, .inl (cy 0, 12, .inl v_t_ways)), (q_t_kind, .inl (cy 0, 8, .inl v_t_kind)), (q_t_home, .inl (cy 0, 8, .inl v_t_home)), (q_t_aim, .inl (cy 0, 8, .inl v_t_aim)), (q_t_at0, .inl (cy 0, 8, .inl v_t_at0)), (q_t_steps, .inl (cy 0, 12, .inl n_t_steps)), (q_t_spot, .inl (cy 0, 8, .inl n_t_spot)), (q_t_then, .inl (cy 0, 8, .inl n_t_then))] t.heap) (va_A [(q_t, oX8 q_t_shelf q_t_rowSort q_t_rowSize q_t_rows q_t_moved q_t_shown q_t_tape v_t_tapeSize q_t_refused v_t_places q_t_ways v_t_people q_t_kind q_t_by q_t_home q_t_aim q_t_at0 v_t_hour v_t_chance v_t_seed w_t_kept w_t_tried v_t_at v_t_token v_t_from v_t_figures v_t_fault q_t_told v_t_statements q_t_steps q_t_spot q_t_then v_t_now v_t_gone q_t_sights q_t_darkAt q_t_can), (q_t_refused, .inl (cy 0, 8, .inl v_t_refused)), (q_t_ways, .inl (cy 0, 12, .inl v_t_ways)), (q_t_kind, .inl (cy 0, 8, .inl v_t_kind)), (q_t_home, .inl (cy 0, 8, .inl v_t_home)), (q_t_aim, .inl (cy 0, 8, .inl v_t_aim)), (q_t_at0, .inl (cy 0, 8, .inl v_t_at0)), (q_t_steps, .inl (cy 0, 12, .inl v_t_steps)), (q_t_spot, .inl (cy 0, 8, .inl v_t_spot)), (q_t_then, .inl (cy 0, 8, .inl v_t_then))] sz)) 0 0 (va_A [(q_t, oX8 q_t_shelf q_t_rowSort q_t_rowSize q_t_rows q_t_moved q_t_shown q_t_tape v_t_tapeSize q_t_refused v_t_places q_t_ways v_t_people q_t_kind q_t_by q_t_home q_t_aim q_t_at0 v_t_hour v_t_chance v_t_seed w_t_kept w_t_tried v_t_at v_t_token v_t_from v_t_figures v_t_fault q_t_told v_t_statements q_t_steps q_t_spot q_t_then v_t_now v_t_gone q_t_sights q_t_darkAt q_t_can), (q_t_refused, .inl (cy 0, 8, .inl v_t_refused)), (q_t_ways, .inl (cy 0, 12, .inl v_t_ways)), (q_t_kind, .inl (cy 0, 8, .inl v_t_kind)), (q_t_home, .inl (cy 0, 8, .inl v_t_home)), (q_t_aim, .inl (cy 0, 8, .inl v_t_aim)), (q_t_at0, .inl (cy 0, 8, .inl v_t_at0)), (q_t_steps, .inl (cy 0, 12, .inl v_t_steps)), (q_t_spot, .inl (cy 0, 8, .inl v_t_spot)), (q_t_then, .inl (cy 0, 8, .inl v_t_then))] sz) := by
  refine Met.ofW (cc := cX8_shines) (maxL := 3) (ret := (some .int)) (by decide) rfl ?_
  intro p e s m args below meth c s₁ B hml hv
  obtain ⟨rfl, hsz, hP, hK, hD0⟩ := hv
  have hx := B.exec
  have hb := B.bytes
  have hr := B.returns
  have hts := atoms_spec (ws := wsX8_shines) B.pre
  have hown : s.vm.findClass RX8 = some m.cls := findClass_of_methodNamed B.named
  have hlocks := B.notSynchronized
  subst hsz
  have hD := hD0.self (sz := s.heap.size)
  generalize hAe : va_A [(q_t, oX8 q_t_shelf q_t_rowSort q_t_rowSize q_t_rows q_t_moved q_t_shown q_t_tape v_t_tapeSize q_t_refused v_t_places q_t_ways v_t_people q_t_kind q_t_by q_t_home q_t_aim q_t_at0 v_t_hour v_t_chance v_t_seed w_t_kept w_t_tried v_t_at v_t_token v_t_from v_t_figures v_t_fault q_t_told v_t_statements q_t_steps q_t_spot q_t_then v_t_now v_t_gone q_t_sights q_t_darkAt q_t_can), (q_t_refused, .inl (cy 0, 8, .inl v_t_refused)), (q_t_ways, .inl (cy 0, 12, .inl v_t_ways)), (q_t_kind, .inl (cy 0, 8, .inl v_t_kind)), (q_t_home, .inl (cy 0, 8, .inl v_t_home)), (q_t_aim, .inl (cy 0, 8, .inl v_t_aim)), (q_t_at0, .inl (cy 0, 8, .inl v_t_at0)), (q_t_steps, .inl (cy 0, 12, .inl v_t_steps)), (q_t_spot, .inl (cy 0, 8, .inl v_t_spot)), (q_t_then, .inl (cy 0, 8, .inl v_t_then))] s.heap.size = A at hD ⊢
  have hA : ∀ q : Nat, s.heap.size ≤ q → A q := fun q h => by rw [← hAe]; exact Or.inr h
  have hS : va_S A s.heap s.heap [] := va_S.rf
  have hP : va_P D vwCl [(q_t, oX8 q_t_shelf q_t_rowSort q_t_rowSize q_t_rows q_t_moved q_t_shown q_t_tape v_t_tapeSize q_t_refused v_t_places q_t_ways v_t_people q_t_kind q_t_by q_t_home q_t_aim q_t_at0 v_t_hour v_t_chance v_t_seed w_t_kept w_t_tried v_t_at v_t_token v_t_from v_t_figures v_t_fault q_t_told v_t_statements q_t_steps q_t_spot q_t_then v_t_now v_t_gone q_t_sights q_t_darkAt q_t_can), (q_t_refused, .inl (cy 0, 8, .inl v_t_refused)), (q_t_ways, .inl (cy 0, 12, .inl v_t_ways)), (q_t_kind, .inl (cy 0, 8, .inl v_t_kind)), (q_t_home, .inl (cy 0, 8, .inl v_t_home)), (q_t_aim, .inl (cy 0, 8, .inl v_t_aim)), (q_t_at0, .inl (cy 0, 8, .inl v_t_at0)), (q_t_steps, .inl (cy 0, 12, .inl v_t_steps)), (q_t_spot, .inl (cy 0, 8, .inl v_t_spot)), (q_t_then, .inl (cy 0, 8, .inl v_t_then))] s.heap := hP
  have hc149 := hts (.constantLong RX8 149 (2)) (by decide +kernel)
  have hl := lv_entry ([.ref q_t, .int p0, .int p1]) (n := 3) (Nat.le_of_ble_eq_true rfl)
  rw [lg_entry_eq]
  generalize (lg_sl ([.ref q_t, .int p0, .int p1]) ++ List.replicate (3 - (lg_sl ([.ref q_t, .int p0, .int p1])).length) Slot.unset).toArray = ls at hl ⊢
  have hl : lv_has ls 3 [(0, .ref q_t), (1, .int p0), (2, .int p1)] := hl
  unfold fX8_shines at hf
  refine lv_iload_n hx hb dX8_shines_0 rfl (lv_at hl 1 rfl) ?_
  obtain ⟨r1, hr2, hf⟩ := boE1 hf
  have hPc := hP.sub (ws' := []) [] rfl
  refine xcSi (va_runS (As := [.int p0]) (rest := []) ⟨hx, hb, hml, hown, hts⟩ (mX8_isTime l D cy    p0 hr2) (va_cwS 1 hts gX8_shines_X8_isTime rfl rfl rfl (by decide +kernel) ⟨Nat.le_of_ble_eq_true rfl, Nat.le_of_ble_eq_true rfl⟩) (xPS hK hPc) rfl rfl hl.1 rfl (lv_room (Nat.le_of_ble_eq_true rfl)) dX8_shines_1 ⟨Nat.le_of_ble_eq_true rfl, Nat.le_of_ble_eq_true rfl⟩) ?_
  refine jww0 19 [] (fun  H locs ls => va_P D vwCl [(q_t, oX8 q_t_shelf q_t_rowSort q_t_rowSize q_t_rows q_t_moved q_t_shown q_t_tape v_t_tapeSize q_t_refused v_t_places q_t_ways v_t_people q_t_kind q_t_by q_t_home q_t_aim q_t_at0 v_t_hour v_t_chance v_t_seed w_t_kept w_t_tried v_t_at v_t_token v_t_from v_t_figures v_t_fault q_t_told v_t_statements q_t_steps q_t_spot q_t_then v_t_now v_t_gone q_t_sights q_t_darkAt q_t_can), (q_t_refused, .inl (cy 0, 8, .inl v_t_refused)), (q_t_ways, .inl (cy 0, 12, .inl v_t_ways)), (q_t_kind, .inl (cy 0, 8, .inl v_t_kind)), (q_t_home, .inl (cy 0, 8, .inl v_t_home)), (q_t_aim, .inl (cy 0, 8, .inl v_t_aim)), (q_t_at0, .inl (cy 0, 8, .inl v_t_at0)), (q_t_steps, .inl (cy 0, 12, .inl v_t_steps)), (q_t_spot, .inl (cy 0, 8, .inl v_t_spot)), (q_t_then, .inl (cy 0, 8, .inl v_t_then))] H ∧ va_D A [(q_t, oX8 q_t_shelf q_t_rowSort q_t_rowSize q_t_rows q_t_moved q_t_shown q_t_tape v_t_tapeSize q_t_refused v_t_places q_t_ways v_t_people q_t_kind q_t_by q_t_home q_t_aim q_t_at0 v_t_hour v_t_chance v_t_seed w_t_kept w_t_tried v_t_at v_t_token v_t_from v_t_figures v_t_fault q_t_told v_t_statements q_t_steps q_t_spot q_t_then v_t_now v_t_gone q_t_sights q_t_darkAt q_t_can), (q_t_refused, .inl (cy 0, 8, .inl v_t_refused)), (q_t_ways, .inl (cy 0, 12, .inl v_t_ways)), (q_t_kind, .inl (cy 0, 8, .inl v_t_kind)), (q_t_home, .inl (cy 0, 8, .inl v_t_home)), (q_t_aim, .inl (cy 0, 8, .inl v_t_aim)), (q_t_at0, .inl (cy 0, 8, .inl v_t_at0)), (q_t_steps, .inl (cy 0, 12, .inl v_t_steps)), (q_t_spot, .inl (cy 0, 8, .inl v_t_spot)), (q_t_then, .inl (cy 0, 8, .inl v_t_then))] ∧ va_S A s.heap H locs ∧ lv_has ls 3 [(0, .ref q_t)]) hf (fun  H locs ls hI hf => ?_) (fun k3 J19 hf => ?_)
  · obtain ⟨hP, hD, hS, hl⟩ := hI
    refine lv_aload_n hx hb dX8_shines_19 rfl (lv_at hl 0 rfl) ?_
    refine lv_bipush (v := (-2)) hx hb dX8_shines_20 (by decide) ?_
    obtain ⟨r4, u5, hr6, hf⟩ := boE2 hf
    have hPc := hP.sub (ws' := [(q_t, oX8 q_t_shelf q_t_rowSort q_t_rowSize q_t_rows q_t_moved q_t_shown q_t_tape v_t_tapeSize q_t_refused v_t_places q_t_ways v_t_people q_t_kind q_t_by q_t_home q_t_aim q_t_at0 v_t_hour v_t_chance v_t_seed w_t_kept w_t_tried v_t_at v_t_token v_t_from v_t_figures v_t_fault q_t_told v_t_statements q_t_steps q_t_spot q_t_then v_t_now v_t_gone q_t_sights q_t_darkAt q_t_can), (q_t_refused, .inl (cy 0, 8, .inl v_t_refused))]) [0, 1] rfl
    have hDc := hD.sub (ws' := [(q_t, oX8 q_t_shelf q_t_rowSort q_t_rowSize q_t_rows q_t_moved q_t_shown q_t_tape v_t_tapeSize q_t_refused v_t_places q_t_ways v_t_people q_t_kind q_t_by q_t_home q_t_aim q_t_at0 v_t_hour v_t_chance v_t_seed w_t_kept w_t_tried v_t_at v_t_token v_t_from v_t_figures v_t_fault q_t_told v_t_statements q_t_steps q_t_spot q_t_then v_t_now v_t_gone q_t_sights q_t_darkAt q_t_can), (q_t_refused, .inl (cy 0, 8, .inl v_t_refused))]) [0, 1] (by decide) rfl
    refine xcQi (w1 := [(q_t, oX8 q_t_shelf q_t_rowSort q_t_rowSize q_t_rows q_t_moved q_t_shown q_t_tape v_t_tapeSize q_t_refused v_t_places q_t_ways v_t_people q_t_kind q_t_by q_t_home q_t_aim q_t_at0 v_t_hour v_t_chance v_t_seed w_t_kept w_t_tried v_t_at v_t_token v_t_from v_t_figures v_t_fault q_t_told v_t_statements q_t_steps q_t_spot q_t_then v_t_now v_t_gone q_t_sights q_t_darkAt q_t_can), (q_t_refused, .inl (cy 0, 8, .inl u5))]) (va_runV (As := [.int (-2 : Int32)]) (rest := []) ⟨hx, hb, hml, hown, hts⟩ (mX8_refuse l D cy q_t q_t_shelf q_t_rowSort q_t_rowSize q_t_rows q_t_moved q_t_shown q_t_tape q_t_refused q_t_ways q_t_kind q_t_by q_t_home q_t_aim q_t_at0 q_t_told q_t_steps q_t_spot q_t_then q_t_sights q_t_darkAt q_t_can v_t_tapeSize v_t_places v_t_people v_t_hour v_t_chance v_t_seed w_t_kept w_t_tried v_t_at v_t_token v_t_from v_t_figures v_t_fault v_t_statements v_t_now v_t_gone v_t_refused _ (-2 : Int32) hr6) (cwV 1 hts gX8_shines_X8_refuse rfl rfl rfl (by decide +kernel) ⟨Nat.le_of_ble_eq_true rfl, Nat.le_of_ble_eq_true rfl⟩) (xPVw hK hPc hDc (ci := 8) (q0 := 0) rfl rfl) rfl rfl hl.1 rfl (lv_room (Nat.le_of_ble_eq_true rfl)) dX8_shines_22 ⟨Nat.le_of_ble_eq_true rfl, Nat.le_of_ble_eq_true rfl⟩) hP hD hS hA [0, 1] rfl rfl (fun H locs hP hD hS => ?_)
    have hP : va_P D vwCl [(q_t, oX8 q_t_shelf q_t_rowSort q_t_rowSize q_t_rows q_t_moved q_t_shown q_t_tape v_t_tapeSize q_t_refused v_t_places q_t_ways v_t_people q_t_kind q_t_by q_t_home q_t_aim q_t_at0 v_t_hour v_t_chance v_t_seed w_t_kept w_t_tried v_t_at v_t_token v_t_from v_t_figures v_t_fault q_t_told v_t_statements q_t_steps q_t_spot q_t_then v_t_now v_t_gone q_t_sights q_t_darkAt q_t_can), (q_t_refused, .inl (cy 0, 8, .inl u5)), (q_t_ways, .inl (cy 0, 12, .inl v_t_ways)), (q_t_kind, .inl (cy 0, 8, .inl v_t_kind)), (q_t_home, .inl (cy 0, 8, .inl v_t_home)), (q_t_aim, .inl (cy 0, 8, .inl v_t_aim)), (q_t_at0, .inl (cy 0, 8, .inl v_t_at0)), (q_t_steps, .inl (cy 0, 12, .inl v_t_steps)), (q_t_spot, .inl (cy 0, 8, .inl v_t_spot)), (q_t_then, .inl (cy 0, 8, .inl v_t_then))] H := hP
    have hD : va_D A [(q_t, oX8 q_t_shelf q_t_rowSort q_t_rowSize q_t_rows q_t_moved q_t_shown q_t_tape v_t_tapeSize q_t_refused v_t_places q_t_ways v_t_people q_t_kind q_t_by q_t_home q_t_aim q_t_at0 v_t_hour v_t_chance v_t_seed w_t_kept w_t_tried v_t_at v_t_token v_t_from v_t_figures v_t_fault q_t_told v_t_statements q_t_steps q_t_spot q_t_then v_t_now v_t_gone q_t_sights q_t_darkAt q_t_can), (q_t_refused, .inl (cy 0, 8, .inl u5)), (q_t_ways, .inl (cy 0, 12, .inl v_t_ways)), (q_t_kind, .inl (cy 0, 8, .inl v_t_kind)), (q_t_home, .inl (cy 0, 8, .inl v_t_home)), (q_t_aim, .inl (cy 0, 8, .inl v_t_aim)), (q_t_at0, .inl (cy 0, 8, .inl v_t_at0)), (q_t_steps, .inl (cy 0, 12, .inl v_t_steps)), (q_t_spot, .inl (cy 0, 8, .inl v_t_spot)), (q_t_then, .inl (cy 0, 8, .inl v_t_then))] := hD
    cases hf
    exact W.iret hx hb hr (fun t ht hW => ⟨⟨_, (), rfl, rfl, xend ht hP⟩, hS.F ht⟩) hS.2.2 dX8_shines_25
  · refine lv_if_eq (tgt := 19) hx hb dX8_shines_4 (by decide) (fun c27 => ?_) (fun c27 => ?_)
    · have hf := ifT hf c27
      clear c27
      exact J19 _ _ ls ⟨hP, hD, hS, lv_sub hl [0] rfl⟩ hf
    · have hf := ifF hf c27
      clear c27
      refine lv_iload_n hx hb dX8_shines_7 rfl (lv_at hl 2 rfl) ?_
      refine lv_i2l hx hb dX8_shines_8 rfl ?_
      refine lv_lconst (v := 0) hx hb dX8_shines_9 (by decide) ?_
      refine lv_ldc2 hx hb hown hc149 dX8_shines_10 ?_
      obtain ⟨r7, hr8, hf⟩ := boE1 hf
      have hPc := hP.sub (ws' := []) [] rfl
      refine xcSi (va_runS (As := [.long p1.toInt64, .long (0 : Int64), .long (2 : Int64)]) (rest := []) ⟨hx, hb, hml, hown, hts⟩ (mX8_in l D cy    p1.toInt64 (0 : Int64) (2 : Int64) hr8) (va_cwS 3 hts gX8_shines_X8_in rfl rfl rfl (by decide +kernel) ⟨Nat.le_of_ble_eq_true rfl, Nat.le_of_ble_eq_true rfl⟩) (xPS hK hPc) rfl rfl hl.1 rfl (lv_room (Nat.le_of_ble_eq_true rfl)) dX8_shines_13 ⟨Nat.le_of_ble_eq_true rfl, Nat.le_of_ble_eq_true rfl⟩) ?_
      refine lv_if_ne (tgt := 26) hx hb dX8_shines_16 (by decide) (fun c26 => ?_) (fun c26 => ?_)
      · have hf := ifF hf c26
        clear c26
        refine lv_aload_n hx hb dX8_shines_26 rfl (lv_at hl 0 rfl) ?_
        refine lv_iload_n hx hb dX8_shines_27 rfl (lv_at hl 1 rfl) ?_
        obtain ⟨u9, u10, u11, u12, hr13, hf⟩ := boE4 hf
        have hPc := hP.sub (ws' := [(q_t, oX8 q_t_shelf q_t_rowSort q_t_rowSize q_t_rows q_t_moved q_t_shown q_t_tape v_t_tapeSize q_t_refused v_t_places q_t_ways v_t_people q_t_kind q_t_by q_t_home q_t_aim q_t_at0 v_t_hour v_t_chance v_t_seed w_t_kept w_t_tried v_t_at v_t_token v_t_from v_t_figures v_t_fault q_t_told v_t_statements q_t_steps q_t_spot q_t_then v_t_now v_t_gone q_t_sights q_t_darkAt q_t_can), (q_t_ways, .inl (cy 0, 12, .inl v_t_ways)), (q_t_kind, .inl (cy 0, 8, .inl v_t_kind)), (q_t_home, .inl (cy 0, 8, .inl v_t_home)), (q_t_aim, .inl (cy 0, 8, .inl v_t_aim)), (q_t_at0, .inl (cy 0, 8, .inl v_t_at0)), (q_t_steps, .inl (cy 0, 12, .inl v_t_steps)), (q_t_spot, .inl (cy 0, 8, .inl v_t_spot)), (q_t_then, .inl (cy 0, 8, .inl v_t_then))]) [0, 2, 3, 4, 5, 6, 7, 8, 9] rfl
        have hDc := hD.sub (ws' := [(q_t, oX8 q_t_shelf q_t_rowSort q_t_rowSize q_t_rows q_t_moved q_t_shown q_t_tape v_t_tapeSize q_t_refused v_t_places q_t_ways v_t_people q_t_kind q_t_by q_t_home q_t_aim q_t_at0 v_t_hour v_t_chance v_t_seed w_t_kept w_t_tried v_t_at v_t_token v_t_from v_t_figures v_t_fault q_t_told v_t_statements q_t_steps q_t_spot q_t_then v_t_now v_t_gone q_t_sights q_t_darkAt q_t_can), (q_t_ways, .inl (cy 0, 12, .inl v_t_ways)), (q_t_kind, .inl (cy 0, 8, .inl v_t_kind)), (q_t_home, .inl (cy 0, 8, .inl v_t_home)), (q_t_aim, .inl (cy 0, 8, .inl v_t_aim)), (q_t_at0, .inl (cy 0, 8, .inl v_t_at0)), (q_t_steps, .inl (cy 0, 12, .inl v_t_steps)), (q_t_spot, .inl (cy 0, 8, .inl v_t_spot)), (q_t_then, .inl (cy 0, 8, .inl v_t_then))]) [0, 2, 3, 4, 5, 6, 7, 8, 9] (by decide) rfl
        refine xcQv (w1 := [(q_t, oX8 q_t_shelf q_t_rowSort q_t_rowSize q_t_rows q_t_moved q_t_shown q_t_tape v_t_tapeSize q_t_refused v_t_places q_t_ways v_t_people q_t_kind q_t_by q_t_home q_t_aim q_t_at0 v_t_hour v_t_chance v_t_seed w_t_kept w_t_tried v_t_at v_t_token v_t_from v_t_figures v_t_fault q_t_told v_t_statements q_t_steps q_t_spot q_t_then u9 v_t_gone q_t_sights q_t_darkAt q_t_can), (q_t_ways, .inl (cy 0, 12, .inl v_t_ways)), (q_t_kind, .inl (cy 0, 8, .inl v_t_kind)), (q_t_home, .inl (cy 0, 8, .inl v_t_home)), (q_t_aim, .inl (cy 0, 8, .inl v_t_aim)), (q_t_at0, .inl (cy 0, 8, .inl v_t_at0)), (q_t_steps, .inl (cy 0, 12, .inl u10)), (q_t_spot, .inl (cy 0, 8, .inl u11)), (q_t_then, .inl (cy 0, 8, .inl u12))]) (va_runV (As := [.int p0]) (rest := []) ⟨hx, hb, hml, hown, hts⟩ (mX8_goesOn l D cy q_t q_t_shelf q_t_rowSort q_t_rowSize q_t_rows q_t_moved q_t_shown q_t_tape q_t_refused q_t_ways q_t_kind q_t_by q_t_home q_t_aim q_t_at0 q_t_told q_t_steps q_t_spot q_t_then q_t_sights q_t_darkAt q_t_can v_t_tapeSize v_t_places v_t_people v_t_hour v_t_chance v_t_seed w_t_kept w_t_tried v_t_at v_t_token v_t_from v_t_figures v_t_fault v_t_statements v_t_now v_t_gone v_t_ways v_t_kind v_t_home v_t_aim v_t_at0 v_t_steps v_t_spot v_t_then _ p0 hr13) (cwV 1 hts gX8_shines_X8_goesOn rfl rfl rfl (by decide +kernel) ⟨Nat.le_of_ble_eq_true rfl, Nat.le_of_ble_eq_true rfl⟩) (xPVw hK hPc hDc (ci := 8) (q0 := 0) rfl rfl) rfl rfl hl.1 rfl (lv_room (Nat.le_of_ble_eq_true rfl)) dX8_shines_28 ⟨Nat.le_of_ble_eq_true rfl, Nat.le_of_ble_eq_true rfl⟩) hP hD hS hA [0, 2, 3, 4, 5, 6, 7, 8, 9] rfl rfl (fun H locs hP hD hS => ?_)
        have hP : va_P D vwCl [(q_t, oX8 q_t_shelf q_t_rowSort q_t_rowSize q_t_rows q_t_moved q_t_shown q_t_tape v_t_tapeSize q_t_refused v_t_places q_t_ways v_t_people q_t_kind q_t_by q_t_home q_t_aim q_t_at0 v_t_hour v_t_chance v_t_seed w_t_kept w_t_tried v_t_at v_t_token v_t_from v_t_figures v_t_fault q_t_told v_t_statements q_t_steps q_t_spot q_t_then u9 v_t_gone q_t_sights q_t_darkAt q_t_can), (q_t_refused, .inl (cy 0, 8, .inl v_t_refused)), (q_t_ways, .inl (cy 0, 12, .inl v_t_ways)), (q_t_kind, .inl (cy 0, 8, .inl v_t_kind)), (q_t_home, .inl (cy 0, 8, .inl v_t_home)), (q_t_aim, .inl (cy 0, 8, .inl v_t_aim)), (q_t_at0, .inl (cy 0, 8, .inl v_t_at0)), (q_t_steps, .inl (cy 0, 12, .inl u10)), (q_t_spot, .inl (cy 0, 8, .inl u11)), (q_t_then, .inl (cy 0, 8, .inl u12))] H := hP
        have hD : va_D A [(q_t, oX8 q_t_shelf q_t_rowSort q_t_rowSize q_t_rows q_t_moved q_t_shown q_t_tape v_t_tapeSize q_t_refused v_t_places q_t_ways v_t_people q_t_kind q_t_by q_t_home q_t_aim q_t_at0 v_t_hour v_t_chance v_t_seed w_t_kept w_t_tried v_t_at v_t_token v_t_from v_t_figures v_t_fault q_t_told v_t_statements q_t_steps q_t_spot q_t_then u9 v_t_gone q_t_sights q_t_darkAt q_t_can), (q_t_refused, .inl (cy 0, 8, .inl v_t_refused)), (q_t_ways, .inl (cy 0, 12, .inl v_t_ways)), (q_t_kind, .inl (cy 0, 8, .inl v_t_kind)), (q_t_home, .inl (cy 0, 8, .inl v_t_home)), (q_t_aim, .inl (cy 0, 8, .inl v_t_aim)), (q_t_at0, .inl (cy 0, 8, .inl v_t_at0)), (q_t_steps, .inl (cy 0, 12, .inl u10)), (q_t_spot, .inl (cy 0, 8, .inl u11)), (q_t_then, .inl (cy 0, 8, .inl u12))] := hD
        refine lv_iload_n hx hb dX8_shines_31 rfl (lv_at hl 2 rfl) ?_
        refine lv_if_ne (tgt := 42) hx hb dX8_shines_32 (by decide) (fun c25 => ?_) (fun c25 => ?_)
        · have hf := ifF hf c25
          clear c25
          refine lv_iload_n hx hb dX8_shines_42 rfl (lv_at hl 2 rfl) ?_
          refine lv_iconst (v := 1) hx hb dX8_shines_43 (by decide) ?_
          refine lv_icmp_ne (tgt := 57) hx hb dX8_shines_44 (by decide) (fun c22 => ?_) (fun c22 => ?_)
          · have hf := ifF hf c22
            clear c22
            refine lv_aload_n hx hb dX8_shines_57 rfl (lv_at hl 0 rfl) ?_
            obtain ⟨r14, hr15, hf⟩ := boE1 hf
            have hPc := hP.sub (ws' := [(q_t, oX8 q_t_shelf q_t_rowSort q_t_rowSize q_t_rows q_t_moved q_t_shown q_t_tape v_t_tapeSize q_t_refused v_t_places q_t_ways v_t_people q_t_kind q_t_by q_t_home q_t_aim q_t_at0 v_t_hour v_t_chance v_t_seed w_t_kept w_t_tried v_t_at v_t_token v_t_from v_t_figures v_t_fault q_t_told v_t_statements q_t_steps q_t_spot q_t_then u9 v_t_gone q_t_sights q_t_darkAt q_t_can), (q_t_kind, .inl (cy 0, 8, .inl v_t_kind)), (q_t_spot, .inl (cy 0, 8, .inl u11))]) [0, 3, 8] rfl
            refine xcSi (va_runV (As := []) (rest := []) ⟨hx, hb, hml, hown, hts⟩ (mX8_dark l D cy q_t q_t_shelf q_t_rowSort q_t_rowSize q_t_rows q_t_moved q_t_shown q_t_tape q_t_refused q_t_ways q_t_kind q_t_by q_t_home q_t_aim q_t_at0 q_t_told q_t_steps q_t_spot q_t_then q_t_sights q_t_darkAt q_t_can v_t_tapeSize v_t_places v_t_people v_t_hour v_t_chance v_t_seed w_t_kept w_t_tried v_t_at v_t_token v_t_from v_t_figures v_t_fault v_t_statements u9 v_t_gone v_t_kind u11   hr15) (cwV 0 hts gX8_shines_X8_dark rfl rfl rfl (by decide +kernel) ⟨Nat.le_of_ble_eq_true rfl, Nat.le_of_ble_eq_true rfl⟩) (xPV hK hPc (ci := 8) (q0 := 0) rfl rfl) rfl rfl hl.1 rfl (lv_room (Nat.le_of_ble_eq_true rfl)) dX8_shines_58 ⟨Nat.le_of_ble_eq_true rfl, Nat.le_of_ble_eq_true rfl⟩) ?_
            obtain ⟨r16, hr17, hf⟩ := boE1 hf
            have hPc := hP.sub (ws' := []) [] rfl
            refine xcSi (va_runS (As := [.int r14]) (rest := []) ⟨hx, hb, hml, hown, hts⟩ (mX8_bits l D cy    r14 hr17) (va_cwS 1 hts gX8_shines_X8_bits rfl rfl rfl (by decide +kernel) ⟨Nat.le_of_ble_eq_true rfl, Nat.le_of_ble_eq_true rfl⟩) (xPS hK hPc) rfl rfl hl.1 rfl (lv_room (Nat.le_of_ble_eq_true rfl)) dX8_shines_61 ⟨Nat.le_of_ble_eq_true rfl, Nat.le_of_ble_eq_true rfl⟩) ?_
            cases hf
            exact W.iret hx hb hr (fun t ht hW => ⟨⟨_, (), rfl, rfl, xend ht hP⟩, hS.F ht⟩) hS.2.2 dX8_shines_64
          · have hf := ifT hf c22
            clear c22
            refine lv_aload_n hx hb dX8_shines_47 rfl (lv_at hl 0 rfl) ?_
            obtain ⟨r18, hr19, hf⟩ := boE1 hf
            have hPc := hP.sub (ws' := [(q_t, oX8 q_t_shelf q_t_rowSort q_t_rowSize q_t_rows q_t_moved q_t_shown q_t_tape v_t_tapeSize q_t_refused v_t_places q_t_ways v_t_people q_t_kind q_t_by q_t_home q_t_aim q_t_at0 v_t_hour v_t_chance v_t_seed w_t_kept w_t_tried v_t_at v_t_token v_t_from v_t_figures v_t_fault q_t_told v_t_statements q_t_steps q_t_spot q_t_then u9 v_t_gone q_t_sights q_t_darkAt q_t_can), (q_t_kind, .inl (cy 0, 8, .inl v_t_kind)), (q_t_spot, .inl (cy 0, 8, .inl u11))]) [0, 3, 8] rfl
            refine xcSi (va_runV (As := []) (rest := []) ⟨hx, hb, hml, hown, hts⟩ (mX8_light l D cy q_t q_t_shelf q_t_rowSort q_t_rowSize q_t_rows q_t_moved q_t_shown q_t_tape q_t_refused q_t_ways q_t_kind q_t_by q_t_home q_t_aim q_t_at0 q_t_told q_t_steps q_t_spot q_t_then q_t_sights q_t_darkAt q_t_can v_t_tapeSize v_t_places v_t_people v_t_hour v_t_chance v_t_seed w_t_kept w_t_tried v_t_at v_t_token v_t_from v_t_figures v_t_fault v_t_statements u9 v_t_gone v_t_kind u11   hr19) (cwV 0 hts gX8_shines_X8_light rfl rfl rfl (by decide +kernel) ⟨Nat.le_of_ble_eq_true rfl, Nat.le_of_ble_eq_true rfl⟩) (xPV hK hPc (ci := 8) (q0 := 0) rfl rfl) rfl rfl hl.1 rfl (lv_room (Nat.le_of_ble_eq_true rfl)) dX8_shines_48 ⟨Nat.le_of_ble_eq_true rfl, Nat.le_of_ble_eq_true rfl⟩) ?_
            obtain ⟨r20, hr21, hf⟩ := boE1 hf
            have hPc := hP.sub (ws' := []) [] rfl
            refine xcSi (va_runS (As := [.int r18]) (rest := []) ⟨hx, hb, hml, hown, hts⟩ (mX8_bits l D cy    r18 hr21) (va_cwS 1 hts gX8_shines_X8_bits rfl rfl rfl (by decide +kernel) ⟨Nat.le_of_ble_eq_true rfl, Nat.le_of_ble_eq_true rfl⟩) (xPS hK hPc) rfl rfl hl.1 rfl (lv_room (Nat.le_of_ble_eq_true rfl)) dX8_shines_51 ⟨Nat.le_of_ble_eq_true rfl, Nat.le_of_ble_eq_true rfl⟩) ?_
            refine lv_goto (tgt := 64) hx hb dX8_shines_54 (by decide) ?_
            cases hf
            exact W.iret hx hb hr (fun t ht hW => ⟨⟨_, (), rfl, rfl, xend ht hP⟩, hS.F ht⟩) hS.2.2 dX8_shines_64
        · have hf := ifT hf c25
          clear c25
          refine lv_aload_n hx hb dX8_shines_35 rfl (lv_at hl 0 rfl) ?_
          obtain ⟨r23, hr24, hf⟩ := boE1 hf
          have hPc := hP.sub (ws' := [(q_t, oX8 q_t_shelf q_t_rowSort q_t_rowSize q_t_rows q_t_moved q_t_shown q_t_tape v_t_tapeSize q_t_refused v_t_places q_t_ways v_t_people q_t_kind q_t_by q_t_home q_t_aim q_t_at0 v_t_hour v_t_chance v_t_seed w_t_kept w_t_tried v_t_at v_t_token v_t_from v_t_figures v_t_fault q_t_told v_t_statements q_t_steps q_t_spot q_t_then u9 v_t_gone q_t_sights q_t_darkAt q_t_can), (q_t_kind, .inl (cy 0, 8, .inl v_t_kind)), (q_t_spot, .inl (cy 0, 8, .inl u11))]) [0, 3, 8] rfl
          refine xcSi (va_runV (As := []) (rest := []) ⟨hx, hb, hml, hown, hts⟩ (mX8_light l D cy q_t q_t_shelf q_t_rowSort q_t_rowSize q_t_rows q_t_moved q_t_shown q_t_tape q_t_refused q_t_ways q_t_kind q_t_by q_t_home q_t_aim q_t_at0 q_t_told q_t_steps q_t_spot q_t_then q_t_sights q_t_darkAt q_t_can v_t_tapeSize v_t_places v_t_people v_t_hour v_t_chance v_t_seed w_t_kept w_t_tried v_t_at v_t_token v_t_from v_t_figures v_t_fault v_t_statements u9 v_t_gone v_t_kind u11   hr24) (cwV 0 hts gX8_shines_X8_light rfl rfl rfl (by decide +kernel) ⟨Nat.le_of_ble_eq_true rfl, Nat.le_of_ble_eq_true rfl⟩) (xPV hK hPc (ci := 8) (q0 := 0) rfl rfl) rfl rfl hl.1 rfl (lv_room (Nat.le_of_ble_eq_true rfl)) dX8_shines_36 ⟨Nat.le_of_ble_eq_true rfl, Nat.le_of_ble_eq_true rfl⟩) ?_
          refine lv_goto (tgt := 64) hx hb dX8_shines_39 (by decide) ?_
          cases hf
          exact W.iret hx hb hr (fun t ht hW => ⟨⟨_, (), rfl, rfl, xend ht hP⟩, hS.F ht⟩) hS.2.2 dX8_shines_64
      · have hf := ifT hf c26
        clear c26
        exact J19 _ _ ls ⟨hP, hD, hS, lv_sub hl [0] rfl⟩ hf
def fX8_crowdAt (v_t_people : Int32) (v_t_gone : Int32) (v_t_kind : Nat → Int32) (v_t_spot : Nat → Int32) (p0 : Int32) (p1 : Int32) : Option (Int32) :=
  lo2 (fun g3 (x1 : Int32) (x2 : Int32) =>
    if v_t_people ≤ x2 then
      some x1
    else
      if x2 < 0 ∨ 8 ≤ x2.toNatClampNeg then none else
      jo1 (fun (y5 : Int32) =>
        vlet (x1 ||| y5) fun x7 =>
        vlet (x2 + (1 : Int32)) fun x8 =>
        g3 x7 x8) fun k6 =>
      jo0 (
        k6 (0 : Int32)) fun k9 =>
      if (v_t_spot x2.toNatClampNeg) = p0 then
        jo0 (
          k6 ((1 : Int32) <<< (x2 &&& 31))) fun k10 =>
        if p1 = 0 then
          k10
        else
          bo1 (fX8_darkens v_t_gone v_t_kind x2) fun r11 =>
          if r11 = 0 then
            k9
          else
            k10
      else
        k9) 400 (0 : Int32) (0 : Int32)
set_option maxHeartbeats 4000000 in
set_option maxRecDepth 100000 in
theorem mX8_crowdAt (l : Launch) (D : va_G) (cy : Nat → ClassId) (q_t q_t_shelf q_t_rowSort q_t_rowSize q_t_rows q_t_moved q_t_shown q_t_tape q_t_refused q_t_ways q_t_kind q_t_by q_t_home q_t_aim q_t_at0 q_t_told q_t_steps q_t_spot q_t_then q_t_sights q_t_darkAt q_t_can : Nat) (v_t_tapeSize : Int32) (v_t_places : Int32) (v_t_people : Int32) (v_t_hour : Int32) (v_t_chance : Int32) (v_t_seed : Int32) (w_t_kept : Value) (w_t_tried : Value) (v_t_at : Int32) (v_t_token : Int32) (v_t_from : Int32) (v_t_figures : Int32) (v_t_fault : Int32) (v_t_statements : Int32) (v_t_now : Int32) (v_t_gone : Int32) (v_t_kind : Nat → Int32) (v_t_spot : Nat → Int32) (p0 : Int32) (p1 : Int32) {r_ : Int32} (hf : fX8_crowdAt v_t_people v_t_gone v_t_kind v_t_spot p0 p1 = some r_) : Met l yX8_crowdAt wsX8_crowdAt ({ frames := 1, cells := 0, slots := 0, locals := 21 }) (va_Pc [.ref q_t, .int p0, .int p1] (fun U => va_P D vwCl [(q_t, oX8 q_t_shelf q_t_rowSort q_t_rowSize q_t_rows q_t_moved q_t_shown q_t_tape v_t_tapeSize q_t_refused v_t_places q_t_ways v_t_people q_t_kind q_t_by q_t_home q_t_aim q_t_at0 v_t_hour v_t_chance v_t_seed w_t_kept w_t_tried v_t_at v_t_token v_t_from v_t_figures v_t_fault q_t_told v_t_statements q_t_steps q_t_spot q_t_then v_t_now v_t_gone q_t_sights q_t_darkAt q_t_can), (q_t_kind, .inl (cy 0, 8, .inl v_t_kind)), (q_t_spot, .inl (cy 0, 8, .inl v_t_spot))] U.heap ∧ xK D cy U)) (vp_Si (fun x => x = r_)) 0 0 (fun _ => False) := by
  refine Met.ofW (cc := cX8_crowdAt) (maxL := 5) (ret := (some .int)) (by decide) rfl ?_
  intro p e s m args below meth c s₁ B hml hv
  obtain ⟨rfl, hP, hK⟩ := hv
  have hx := B.exec
  have hb := B.bytes
  have hr := B.returns
  have hts := atoms_spec (ws := wsX8_crowdAt) B.pre
  have hown : s.vm.findClass RX8 = some m.cls := findClass_of_methodNamed B.named
  have hlocks := B.notSynchronized
  have hP : va_P D vwCl [(q_t, oX8 q_t_shelf q_t_rowSort q_t_rowSize q_t_rows q_t_moved q_t_shown q_t_tape v_t_tapeSize q_t_refused v_t_places q_t_ways v_t_people q_t_kind q_t_by q_t_home q_t_aim q_t_at0 v_t_hour v_t_chance v_t_seed w_t_kept w_t_tried v_t_at v_t_token v_t_from v_t_figures v_t_fault q_t_told v_t_statements q_t_steps q_t_spot q_t_then v_t_now v_t_gone q_t_sights q_t_darkAt q_t_can), (q_t_kind, .inl (cy 0, 8, .inl v_t_kind)), (q_t_spot, .inl (cy 0, 8, .inl v_t_spot))] s.heap := hP
  have hinX8 : ∀ w ∈ u_ws RX8 TX8 37, w ∈ wsX8_crowdAt := by decide +kernel
  have hk95 := hts (.fieldLink RX8 95 "ShowsWhereNobodyIsModel" "people" "I") (by decide +kernel)
  have hk71 := hts (.fieldLink RX8 71 "ShowsWhereNobodyIsModel" "spot" "[I") (by decide +kernel)
  have hl := lv_entry ([.ref q_t, .int p0, .int p1]) (n := 5) (Nat.le_of_ble_eq_true rfl)
  rw [lg_entry_eq]
  generalize (lg_sl ([.ref q_t, .int p0, .int p1]) ++ List.replicate (5 - (lg_sl ([.ref q_t, .int p0, .int p1])).length) Slot.unset).toArray = ls at hl ⊢
  have hl : lv_has ls 5 [(0, .ref q_t), (1, .int p0), (2, .int p1)] := hl
  unfold fX8_crowdAt at hf
  refine lv_iconst (v := 0) hx hb dX8_crowdAt_0 (by decide) ?_
  refine lv_istore_n (lv' := [(3, .int (0 : Int32)), (0, .ref q_t), (1, .int p0), (2, .int p1)]) hx hb dX8_crowdAt_1 rfl hl (by decide) rfl (fun ls hl => ?_)
  refine lv_iconst (v := 0) hx hb dX8_crowdAt_2 (by decide) ?_
  refine lv_istore (lv' := [(4, .int (0 : Int32)), (3, .int (0 : Int32)), (0, .ref q_t), (1, .int p0), (2, .int p1)]) hx hb dX8_crowdAt_3 hl (by decide) rfl (fun ls hl => ?_)
  refine wlr2 5 (fun _ _ => []) (fun (x1 : Int32) (x2 : Int32) ls => lv_has ls 5 [(3, .int x1), (4, .int x2), (0, .ref q_t), (1, .int p0), (2, .int p1)]) (fun g3 L5 x1 x2 ls hl hf => ?_) 400 (0 : Int32) (0 : Int32) ls (lv_sub hl [1, 0, 2, 3, 4] rfl) hf
  refine lv_iload hx hb dX8_crowdAt_5 (lv_at hl 1 rfl) ?_
  refine lv_aload_n hx hb dX8_crowdAt_7 rfl (lv_at hl 2 rfl) ?_
  refine va_get (D := D) (ci := 8) (v := .int v_t_people) (C := RX8) (T := TX8) (N := 37) hx hb hts hinX8 hown hK.1 hP 0 rfl rfl 11 (by decide) hk95 (fun _ h9 => h9) rfl dX8_crowdAt_8 ?_
  refine lv_icmp_ge (tgt := 55) hx hb dX8_crowdAt_11 (by decide) (fun c16 => ?_) (fun c16 => ?_)
  · have hf := ifT hf c16
    clear c16
    refine lv_iload_n hx hb dX8_crowdAt_55 rfl (lv_at hl 0 rfl) ?_
    exact W.iret (v := x1) hx hb hr (fun t ht hW => ⟨x1, rfl, Option.some.inj hf, ht⟩) (fun q h => nomatch h) dX8_crowdAt_56
  · have hf := ifF hf c16
    clear c16
    refine lv_iload_n hx hb dX8_crowdAt_14 rfl (lv_at hl 0 rfl) ?_
    refine lv_aload_n hx hb dX8_crowdAt_15 rfl (lv_at hl 2 rfl) ?_
    refine va_get (D := D) (ci := 8) (v := .ref q_t_spot) (C := RX8) (T := TX8) (N := 37) hx hb hts hinX8 hown hK.1 hP 0 rfl rfl 30 (by decide) hk71 (fun _ h9 => h9) rfl dX8_crowdAt_16 ?_
    refine lv_iload hx hb dX8_crowdAt_19 (lv_at hl 1 rfl) ?_
    obtain ⟨hi4, hf⟩ := ckE hf
    refine va_iald hx hb hK.1 hP 2 0 rfl rfl hi4 dX8_crowdAt_21 ?_
    refine lv_iload_n hx hb dX8_crowdAt_22 rfl (lv_at hl 3 rfl) ?_
    refine jwr1 47 (fun (y5 : Int32) => [.int y5, .int x1]) (fun (y5 : Int32) ls => lv_has ls 5 [(0, .ref q_t), (1, .int p0), (2, .int p1), (4, .int x2)]) hf (fun y5 ls hl hf => ?_) (fun k6 J47 hf => ?_)
    · refine lv_ior hx hb dX8_crowdAt_47 ?_
      refine lv_topi (fun x7 ex7 => ?_)
      have hf := vlE hf ex7
      clear ex7
      refine lv_istore_n (lv' := [(3, .int x7), (0, .ref q_t), (1, .int p0), (2, .int p1), (4, .int x2)]) hx hb dX8_crowdAt_48 rfl hl (by decide) rfl (fun ls hl => ?_)
      obtain ⟨x8, ex8⟩ : ∃ y : Int32, y = x2 + (1 : Int32) := ⟨_, rfl⟩
      have hf := vlE hf ex8
      refine lv_iinc (v := x8) (lv' := [(4, .int x8), (3, .int x7), (0, .ref q_t), (1, .int p0), (2, .int p1)]) hx hb dX8_crowdAt_49 hl (k := 4) rfl (by rw [ex8]; rfl) (by decide) rfl (fun ls hl => ?_)
      clear ex8
      refine lv_goto (tgt := 5) hx hb dX8_crowdAt_52 (by decide) ?_
      exact L5 x7 x8 ls (lv_sub hl [1, 0, 2, 3, 4] rfl) hf
    · refine jwr0 46 [.int x1] (fun  ls => lv_has ls 5 [(0, .ref q_t), (1, .int p0), (2, .int p1), (4, .int x2)]) hf (fun  ls hl hf => ?_) (fun k9 J46 hf => ?_)
      · refine lv_iconst (v := 0) hx hb dX8_crowdAt_46 (by decide) ?_
        exact J47 (0 : Int32) ls (lv_sub hl [0, 1, 2, 3] rfl) hf
      · refine lv_icmp_ne (tgt := 46) hx hb dX8_crowdAt_23 (by decide) (fun c15 => ?_) (fun c15 => ?_)
        · have hf := ifF hf c15
          clear c15
          exact J46 ls (lv_sub hl [2, 3, 4, 1] rfl) hf
        · have hf := ifT hf c15
          clear c15
          refine lv_iload_n hx hb dX8_crowdAt_26 rfl (lv_at hl 4 rfl) ?_
          refine jwr0 39 [.int x1] (fun  ls => lv_has ls 5 [(0, .ref q_t), (1, .int p0), (2, .int p1), (4, .int x2)]) hf (fun  ls hl hf => ?_) (fun k10 J39 hf => ?_)
          · refine lv_iconst (v := 1) hx hb dX8_crowdAt_39 (by decide) ?_
            refine lv_iload hx hb dX8_crowdAt_40 (lv_at hl 3 rfl) ?_
            refine lv_ishl hx hb dX8_crowdAt_42 ?_
            refine lv_goto (tgt := 47) hx hb dX8_crowdAt_43 (by decide) ?_
            exact J47 ((1 : Int32) <<< (x2 &&& 31)) ls (lv_sub hl [0, 1, 2, 3] rfl) hf
          · refine lv_if_eq (tgt := 39) hx hb dX8_crowdAt_27 (by decide) (fun c14 => ?_) (fun c14 => ?_)
            · have hf := ifT hf c14
              clear c14
              exact J39 ls (lv_sub hl [2, 3, 4, 1] rfl) hf
            · have hf := ifF hf c14
              clear c14
              refine lv_aload_n hx hb dX8_crowdAt_30 rfl (lv_at hl 2 rfl) ?_
              refine lv_iload hx hb dX8_crowdAt_31 (lv_at hl 1 rfl) ?_
              obtain ⟨r11, hr12, hf⟩ := boE1 hf
              have hPc := hP.sub (ws' := [(q_t, oX8 q_t_shelf q_t_rowSort q_t_rowSize q_t_rows q_t_moved q_t_shown q_t_tape v_t_tapeSize q_t_refused v_t_places q_t_ways v_t_people q_t_kind q_t_by q_t_home q_t_aim q_t_at0 v_t_hour v_t_chance v_t_seed w_t_kept w_t_tried v_t_at v_t_token v_t_from v_t_figures v_t_fault q_t_told v_t_statements q_t_steps q_t_spot q_t_then v_t_now v_t_gone q_t_sights q_t_darkAt q_t_can), (q_t_kind, .inl (cy 0, 8, .inl v_t_kind))]) [0, 1] rfl
              refine xcSi (va_runV (As := [.int x2]) (rest := [.int x1]) ⟨hx, hb, hml, hown, hts⟩ (mX8_darkens l D cy q_t q_t_shelf q_t_rowSort q_t_rowSize q_t_rows q_t_moved q_t_shown q_t_tape q_t_refused q_t_ways q_t_kind q_t_by q_t_home q_t_aim q_t_at0 q_t_told q_t_steps q_t_spot q_t_then q_t_sights q_t_darkAt q_t_can v_t_tapeSize v_t_places v_t_people v_t_hour v_t_chance v_t_seed w_t_kept w_t_tried v_t_at v_t_token v_t_from v_t_figures v_t_fault v_t_statements v_t_now v_t_gone v_t_kind  x2 hr12) (cwV 1 hts gX8_crowdAt_X8_darkens rfl rfl rfl (by decide +kernel) ⟨Nat.le_of_ble_eq_true rfl, Nat.le_of_ble_eq_true rfl⟩) (xPV hK hPc (ci := 8) (q0 := 0) rfl rfl) rfl rfl hl.1 rfl (lv_room (Nat.le_of_ble_eq_true rfl)) dX8_crowdAt_33 ⟨Nat.le_of_ble_eq_true rfl, Nat.le_of_ble_eq_true rfl⟩) ?_
              refine lv_if_eq (tgt := 46) hx hb dX8_crowdAt_36 (by decide) (fun c13 => ?_) (fun c13 => ?_)
              · have hf := ifT hf c13
                clear c13
                exact J46 ls (lv_sub hl [2, 3, 4, 1] rfl) hf
              · have hf := ifF hf c13
                clear c13
                exact J39 ls (lv_sub hl [2, 3, 4, 1] rfl) hf
def fX8_crowd (v_t_places : Int32) (v_t_people : Int32) (v_t_hour : Int32) (v_t_now : Int32) (v_t_gone : Int32) (v_t_refused : Nat → Int32) (v_t_ways : Nat → Int32) (v_t_kind : Nat → Int32) (v_t_home : Nat → Int32) (v_t_aim : Nat → Int32) (v_t_at0 : Nat → Int32) (v_t_steps : Nat → Int32) (v_t_spot : Nat → Int32) (v_t_then : Nat → Int32) (p0 : Int32) (p1 : Int32) (p2 : Int32) : Option (Int32 × Int32 × (Nat → Int32) × (Nat → Int32) × (Nat → Int32) × (Nat → Int32)) :=
  bo1 (fX8_isPlace v_t_places p0) fun r1 =>
  jo0 (
    bo2 (fX8_refuse v_t_refused (-2 : Int32)) fun r4 u5 =>
    some (r4, v_t_now, u5, v_t_steps, v_t_spot, v_t_then)) fun k3 =>
  if r1 = 0 then
    k3
  else
    bo1 (fX8_isTime p1) fun r7 =>
    if r7 = 0 then
      k3
    else
      bo1 (fX8_in p2.toInt64 (0 : Int64) (1 : Int64)) fun r9 =>
      if r9 = 0 then
        k3
      else
        bo4 (fX8_goesOn v_t_places v_t_people v_t_hour v_t_gone v_t_ways v_t_kind v_t_home v_t_aim v_t_at0 v_t_steps v_t_spot v_t_then p1) fun u11 u12 u13 u14 =>
        if p2 = 0 then
          bo1 (fX8_crowdAt v_t_people v_t_gone v_t_kind u13 p0 (0 : Int32)) fun r20 =>
          some (r20, u11, v_t_refused, u12, u13, u14)
        else
          bo1 (fX8_crowdAt v_t_people v_t_gone v_t_kind u13 p0 (1 : Int32)) fun r16 =>
          bo1 (fX8_bits r16) fun r18 =>
          some (r18, u11, v_t_refused, u12, u13, u14)
set_option maxHeartbeats 4000000 in
set_option maxRecDepth 100000 in
theorem mX8_crowd (l : Launch) (D : va_G) (cy : Nat → ClassId) (q_t q_t_shelf q_t_rowSort q_t_rowSize q_t_rows q_t_moved q_t_shown q_t_tape q_t_refused q_t_ways q_t_kind q_t_by q_t_home q_t_aim q_t_at0 q_t_told q_t_steps q_t_spot q_t_then q_t_sights q_t_darkAt q_t_can : Nat) (v_t_tapeSize : Int32) (v_t_places : Int32) (v_t_people : Int32) (v_t_hour : Int32) (v_t_chance : Int32) (v_t_seed : Int32) (w_t_kept : Value) (w_t_tried : Value) (v_t_at : Int32) (v_t_token : Int32) (v_t_from : Int32) (v_t_figures : Int32) (v_t_fault : Int32) (v_t_statements : Int32) (v_t_now : Int32) (v_t_gone : Int32) (v_t_refused : Nat → Int32) (v_t_ways : Nat → Int32) (v_t_kind : Nat → Int32) (v_t_home : Nat → Int32) (v_t_aim : Nat → Int32) (v_t_at0 : Nat → Int32) (v_t_steps : Nat → Int32) (v_t_spot : Nat → Int32) (v_t_then : Nat → Int32) (sz : Nat) (p0 : Int32) (p1 : Int32) (p2 : Int32) {r_ : Int32} {n_t_now : Int32} {n_t_refused : Nat → Int32} {n_t_steps : Nat → Int32} {n_t_spot : Nat → Int32} {n_t_then : Nat → Int32} (hf : fX8_crowd v_t_places v_t_people v_t_hour v_t_now v_t_gone v_t_refused v_t_ways v_t_kind v_t_home v_t_aim v_t_at0 v_t_steps v_t_spot v_t_then p0 p1 p2 = some (r_, n_t_now, n_t_refused, n_t_steps, n_t_spot, n_t_then)) : Met l yX8_crowd wsX8_crowd ({ frames := 5, cells := 0, slots := 0, locals := 112 }) (va_Pc [.ref q_t, .int p0, .int p1, .int p2] (fun U => U.heap.size = sz ∧ va_P D vwCl [(q_t, oX8 q_t_shelf q_t_rowSort q_t_rowSize q_t_rows q_t_moved q_t_shown q_t_tape v_t_tapeSize q_t_refused v_t_places q_t_ways v_t_people q_t_kind q_t_by q_t_home q_t_aim q_t_at0 v_t_hour v_t_chance v_t_seed w_t_kept w_t_tried v_t_at v_t_token v_t_from v_t_figures v_t_fault q_t_told v_t_statements q_t_steps q_t_spot q_t_then v_t_now v_t_gone q_t_sights q_t_darkAt q_t_can), (q_t_refused, .inl (cy 0, 8, .inl v_t_refused)), (q_t_ways, .inl (cy 0, 12, .inl v_t_ways)), (q_t_kind, .inl (cy 0, 8, .inl v_t_kind)), (q_t_home, .inl (cy 0, 8, .inl v_t_home)), (q_t_aim, .inl (cy 0, 8, .inl v_t_aim)), (q_t_at0, .inl (cy 0, 8, .inl v_t_at0)), (q_t_steps, .inl (cy 0, 12, .inl v_t_steps)), (q_t_spot, .inl (cy 0, 8, .inl v_t_spot)), (q_t_then, .inl (cy 0, 8, .inl v_t_then))] U.heap ∧ xK D cy U ∧ va_D (fun _ => True) [(q_t, oX8 q_t_shelf q_t_rowSort q_t_rowSize q_t_rows q_t_moved q_t_shown q_t_tape v_t_tapeSize q_t_refused v_t_places q_t_ways v_t_people q_t_kind q_t_by q_t_home q_t_aim q_t_at0 v_t_hour v_t_chance v_t_seed w_t_kept w_t_tried v_t_at v_t_token v_t_from v_t_figures v_t_fault q_t_told v_t_statements q_t_steps q_t_spot q_t_then v_t_now v_t_gone q_t_sights q_t_darkAt q_t_can), (q_t_refused, .inl (cy 0, 8, .inl v_t_refused)), (q_t_ways, .inl (cy 0, 12, .inl v_t_ways)), (q_t_kind, .inl (cy 0, 8, .inl v_t_kind)), (q_t_home, .inl (cy 0, 8, .inl v_t_home)), (q_t_aim, .inl (cy 0, 8, .inl v_t_aim)), (q_t_at0, .inl (cy 0, 8, .inl v_t_at0)), (q_t_steps, .inl (cy 0, 12, .inl v_t_steps)), (q_t_spot, .inl (cy 0, 8, .inl v_t_spot)), (q_t_then, .inl (cy 0, 8, .inl v_t_then))])) (va_Qi (fun (x : Int32) (_ : Unit) => x = r_) (fun _ t => va_P D vwCl [(q_t, oX8 q_t_shelf q_t_rowSort q_t_rowSize q_t_rows q_t_moved q_t_shown q_t_tape v_t_tapeSize q_t_refused v_t_places q_t_ways v_t_people q_t_kind q_t_by q_t_home q_t_aim q_t_at0 v_t_hour v_t_chance v_t_seed w_t_kept w_t_tried v_t_at v_t_token v_t_from v_t_figures v_t_fault q_t_told v_t_statements q_t_steps q_t_spot q_t_then n_t_now v_t_gone q_t_sights q_t_darkAt q_t_can), (q_t_refused, .inl (cy 0, 8, .inl n_t_refused)), (q_t_ways, .inl (cy 0, 12, .inl v_t_ways)), (q_t_kind, .inl (cy 0, 8, .inl v_t_kind)), (q_t_home, .inl (cy 0, 8, .inl v_t_home)), (q_t_aim, .inl (cy 0, 8, .inl v_t_aim)), (q_t_at0, .inl (cy 0, 8, .inl v_t_at0)), (q_t_steps, .inl (cy 0, 12, .inl n_t_steps)), (q_t_spot, .inl (cy 0, 8, .inl n_t_spot)), (q_t_then, .inl (cy 0, 8, .inl n_t_then))] t.heap) (va_A [(q_t, oX8 q_t_shelf q_t_rowSort q_t_rowSize q_t_rows q_t_moved q_t_shown q_t_tape v_t_tapeSize q_t_refused v_t_places q_t_ways v_t_people q_t_kind q_t_by q_t_home q_t_aim q_t_at0 v_t_hour v_t_chance v_t_seed w_t_kept w_t_tried v_t_at v_t_token v_t_from v_t_figures v_t_fault q_t_told v_t_statements q_t_steps q_t_spot q_t_then v_t_now v_t_gone q_t_sights q_t_darkAt q_t_can), (q_t_refused, .inl (cy 0, 8, .inl v_t_refused)), (q_t_ways, .inl (cy 0, 12, .inl v_t_ways)), (q_t_kind, .inl (cy 0, 8, .inl v_t_kind)), (q_t_home, .inl (cy 0, 8, .inl v_t_home)), (q_t_aim, .inl (cy 0, 8, .inl v_t_aim)), (q_t_at0, .inl (cy 0, 8, .inl v_t_at0)), (q_t_steps, .inl (cy 0, 12, .inl v_t_steps)), (q_t_spot, .inl (cy 0, 8, .inl v_t_spot)), (q_t_then, .inl (cy 0, 8, .inl v_t_then))] sz)) 0 0 (va_A [(q_t, oX8 q_t_shelf q_t_rowSort q_t_rowSize q_t_rows q_t_moved q_t_shown q_t_tape v_t_tapeSize q_t_refused v_t_places q_t_ways v_t_people q_t_kind q_t_by q_t_home q_t_aim q_t_at0 v_t_hour v_t_chance v_t_seed w_t_kept w_t_tried v_t_at v_t_token v_t_from v_t_figures v_t_fault q_t_told v_t_statements q_t_steps q_t_spot q_t_then v_t_now v_t_gone q_t_sights q_t_darkAt q_t_can), (q_t_refused, .inl (cy 0, 8, .inl v_t_refused)), (q_t_ways, .inl (cy 0, 12, .inl v_t_ways)), (q_t_kind, .inl (cy 0, 8, .inl v_t_kind)), (q_t_home, .inl (cy 0, 8, .inl v_t_home)), (q_t_aim, .inl (cy 0, 8, .inl v_t_aim)), (q_t_at0, .inl (cy 0, 8, .inl v_t_at0)), (q_t_steps, .inl (cy 0, 12, .inl v_t_steps)), (q_t_spot, .inl (cy 0, 8, .inl v_t_spot)), (q_t_then, .inl (cy 0, 8, .inl v_t_then))] sz) := by
  refine Met.ofW (cc := cX8_crowd) (maxL := 4) (ret := (some .int)) (by decide) rfl ?_
  intro p e s m args below meth c s₁ B hml hv
  obtain ⟨rfl, hsz, hP, hK, hD0⟩ := hv
  have hx := B.exec
  have hb := B.bytes
  have hr := B.returns
  have hts := atoms_spec (ws := wsX8_crowd) B.pre
  have hown : s.vm.findClass RX8 = some m.cls := findClass_of_methodNamed B.named
  have hlocks := B.notSynchronized
  subst hsz
  have hD := hD0.self (sz := s.heap.size)
  generalize hAe : va_A [(q_t, oX8 q_t_shelf q_t_rowSort q_t_rowSize q_t_rows q_t_moved q_t_shown q_t_tape v_t_tapeSize q_t_refused v_t_places q_t_ways v_t_people q_t_kind q_t_by q_t_home q_t_aim q_t_at0 v_t_hour v_t_chance v_t_seed w_t_kept w_t_tried v_t_at v_t_token v_t_from v_t_figures v_t_fault q_t_told v_t_statements q_t_steps q_t_spot q_t_then v_t_now v_t_gone q_t_sights q_t_darkAt q_t_can), (q_t_refused, .inl (cy 0, 8, .inl v_t_refused)), (q_t_ways, .inl (cy 0, 12, .inl v_t_ways)), (q_t_kind, .inl (cy 0, 8, .inl v_t_kind)), (q_t_home, .inl (cy 0, 8, .inl v_t_home)), (q_t_aim, .inl (cy 0, 8, .inl v_t_aim)), (q_t_at0, .inl (cy 0, 8, .inl v_t_at0)), (q_t_steps, .inl (cy 0, 12, .inl v_t_steps)), (q_t_spot, .inl (cy 0, 8, .inl v_t_spot)), (q_t_then, .inl (cy 0, 8, .inl v_t_then))] s.heap.size = A at hD ⊢
  have hA : ∀ q : Nat, s.heap.size ≤ q → A q := fun q h => by rw [← hAe]; exact Or.inr h
  have hS : va_S A s.heap s.heap [] := va_S.rf
  have hP : va_P D vwCl [(q_t, oX8 q_t_shelf q_t_rowSort q_t_rowSize q_t_rows q_t_moved q_t_shown q_t_tape v_t_tapeSize q_t_refused v_t_places q_t_ways v_t_people q_t_kind q_t_by q_t_home q_t_aim q_t_at0 v_t_hour v_t_chance v_t_seed w_t_kept w_t_tried v_t_at v_t_token v_t_from v_t_figures v_t_fault q_t_told v_t_statements q_t_steps q_t_spot q_t_then v_t_now v_t_gone q_t_sights q_t_darkAt q_t_can), (q_t_refused, .inl (cy 0, 8, .inl v_t_refused)), (q_t_ways, .inl (cy 0, 12, .inl v_t_ways)), (q_t_kind, .inl (cy 0, 8, .inl v_t_kind)), (q_t_home, .inl (cy 0, 8, .inl v_t_home)), (q_t_aim, .inl (cy 0, 8, .inl v_t_aim)), (q_t_at0, .inl (cy 0, 8, .inl v_t_at0)), (q_t_steps, .inl (cy 0, 12, .inl v_t_steps)), (q_t_spot, .inl (cy 0, 8, .inl v_t_spot)), (q_t_then, .inl (cy 0, 8, .inl v_t_then))] s.heap := hP
  have hl := lv_entry ([.ref q_t, .int p0, .int p1, .int p2]) (n := 4) (Nat.le_of_ble_eq_true rfl)
  rw [lg_entry_eq]
  generalize (lg_sl ([.ref q_t, .int p0, .int p1, .int p2]) ++ List.replicate (4 - (lg_sl ([.ref q_t, .int p0, .int p1, .int p2])).length) Slot.unset).toArray = ls at hl ⊢
  have hl : lv_has ls 4 [(0, .ref q_t), (1, .int p0), (2, .int p1), (3, .int p2)] := hl
  unfold fX8_crowd at hf
  refine lv_aload_n hx hb dX8_crowd_0 rfl (lv_at hl 0 rfl) ?_
  refine lv_iload_n hx hb dX8_crowd_1 rfl (lv_at hl 1 rfl) ?_
  obtain ⟨r1, hr2, hf⟩ := boE1 hf
  have hPc := hP.sub (ws' := [(q_t, oX8 q_t_shelf q_t_rowSort q_t_rowSize q_t_rows q_t_moved q_t_shown q_t_tape v_t_tapeSize q_t_refused v_t_places q_t_ways v_t_people q_t_kind q_t_by q_t_home q_t_aim q_t_at0 v_t_hour v_t_chance v_t_seed w_t_kept w_t_tried v_t_at v_t_token v_t_from v_t_figures v_t_fault q_t_told v_t_statements q_t_steps q_t_spot q_t_then v_t_now v_t_gone q_t_sights q_t_darkAt q_t_can)]) [0] rfl
  refine xcSi (va_runV (As := [.int p0]) (rest := []) ⟨hx, hb, hml, hown, hts⟩ (mX8_isPlace l D cy q_t q_t_shelf q_t_rowSort q_t_rowSize q_t_rows q_t_moved q_t_shown q_t_tape q_t_refused q_t_ways q_t_kind q_t_by q_t_home q_t_aim q_t_at0 q_t_told q_t_steps q_t_spot q_t_then q_t_sights q_t_darkAt q_t_can v_t_tapeSize v_t_places v_t_people v_t_hour v_t_chance v_t_seed w_t_kept w_t_tried v_t_at v_t_token v_t_from v_t_figures v_t_fault v_t_statements v_t_now v_t_gone  p0 hr2) (cwV 1 hts gX8_crowd_X8_isPlace rfl rfl rfl (by decide +kernel) ⟨Nat.le_of_ble_eq_true rfl, Nat.le_of_ble_eq_true rfl⟩) (xPV hK hPc (ci := 8) (q0 := 0) rfl rfl) rfl rfl hl.1 rfl (lv_room (Nat.le_of_ble_eq_true rfl)) dX8_crowd_2 ⟨Nat.le_of_ble_eq_true rfl, Nat.le_of_ble_eq_true rfl⟩) ?_
  refine jww0 25 [] (fun  H locs ls => va_P D vwCl [(q_t, oX8 q_t_shelf q_t_rowSort q_t_rowSize q_t_rows q_t_moved q_t_shown q_t_tape v_t_tapeSize q_t_refused v_t_places q_t_ways v_t_people q_t_kind q_t_by q_t_home q_t_aim q_t_at0 v_t_hour v_t_chance v_t_seed w_t_kept w_t_tried v_t_at v_t_token v_t_from v_t_figures v_t_fault q_t_told v_t_statements q_t_steps q_t_spot q_t_then v_t_now v_t_gone q_t_sights q_t_darkAt q_t_can), (q_t_refused, .inl (cy 0, 8, .inl v_t_refused)), (q_t_ways, .inl (cy 0, 12, .inl v_t_ways)), (q_t_kind, .inl (cy 0, 8, .inl v_t_kind)), (q_t_home, .inl (cy 0, 8, .inl v_t_home)), (q_t_aim, .inl (cy 0, 8, .inl v_t_aim)), (q_t_at0, .inl (cy 0, 8, .inl v_t_at0)), (q_t_steps, .inl (cy 0, 12, .inl v_t_steps)), (q_t_spot, .inl (cy 0, 8, .inl v_t_spot)), (q_t_then, .inl (cy 0, 8, .inl v_t_then))] H ∧ va_D A [(q_t, oX8 q_t_shelf q_t_rowSort q_t_rowSize q_t_rows q_t_moved q_t_shown q_t_tape v_t_tapeSize q_t_refused v_t_places q_t_ways v_t_people q_t_kind q_t_by q_t_home q_t_aim q_t_at0 v_t_hour v_t_chance v_t_seed w_t_kept w_t_tried v_t_at v_t_token v_t_from v_t_figures v_t_fault q_t_told v_t_statements q_t_steps q_t_spot q_t_then v_t_now v_t_gone q_t_sights q_t_darkAt q_t_can), (q_t_refused, .inl (cy 0, 8, .inl v_t_refused)), (q_t_ways, .inl (cy 0, 12, .inl v_t_ways)), (q_t_kind, .inl (cy 0, 8, .inl v_t_kind)), (q_t_home, .inl (cy 0, 8, .inl v_t_home)), (q_t_aim, .inl (cy 0, 8, .inl v_t_aim)), (q_t_at0, .inl (cy 0, 8, .inl v_t_at0)), (q_t_steps, .inl (cy 0, 12, .inl v_t_steps)), (q_t_spot, .inl (cy 0, 8, .inl v_t_spot)), (q_t_then, .inl (cy 0, 8, .inl v_t_then))] ∧ va_S A s.heap H locs ∧ lv_has ls 4 [(0, .ref q_t)]) hf (fun  H locs ls hI hf => ?_) (fun k3 J25 hf => ?_)
  · obtain ⟨hP, hD, hS, hl⟩ := hI
    refine lv_aload_n hx hb dX8_crowd_25 rfl (lv_at hl 0 rfl) ?_
    refine lv_bipush (v := (-2)) hx hb dX8_crowd_26 (by decide) ?_
    obtain ⟨r4, u5, hr6, hf⟩ := boE2 hf
    have hPc := hP.sub (ws' := [(q_t, oX8 q_t_shelf q_t_rowSort q_t_rowSize q_t_rows q_t_moved q_t_shown q_t_tape v_t_tapeSize q_t_refused v_t_places q_t_ways v_t_people q_t_kind q_t_by q_t_home q_t_aim q_t_at0 v_t_hour v_t_chance v_t_seed w_t_kept w_t_tried v_t_at v_t_token v_t_from v_t_figures v_t_fault q_t_told v_t_statements q_t_steps q_t_spot q_t_then v_t_now v_t_gone q_t_sights q_t_darkAt q_t_can), (q_t_refused, .inl (cy 0, 8, .inl v_t_refused))]) [0, 1] rfl
    have hDc := hD.sub (ws' := [(q_t, oX8 q_t_shelf q_t_rowSort q_t_rowSize q_t_rows q_t_moved q_t_shown q_t_tape v_t_tapeSize q_t_refused v_t_places q_t_ways v_t_people q_t_kind q_t_by q_t_home q_t_aim q_t_at0 v_t_hour v_t_chance v_t_seed w_t_kept w_t_tried v_t_at v_t_token v_t_from v_t_figures v_t_fault q_t_told v_t_statements q_t_steps q_t_spot q_t_then v_t_now v_t_gone q_t_sights q_t_darkAt q_t_can), (q_t_refused, .inl (cy 0, 8, .inl v_t_refused))]) [0, 1] (by decide) rfl
    refine xcQi (w1 := [(q_t, oX8 q_t_shelf q_t_rowSort q_t_rowSize q_t_rows q_t_moved q_t_shown q_t_tape v_t_tapeSize q_t_refused v_t_places q_t_ways v_t_people q_t_kind q_t_by q_t_home q_t_aim q_t_at0 v_t_hour v_t_chance v_t_seed w_t_kept w_t_tried v_t_at v_t_token v_t_from v_t_figures v_t_fault q_t_told v_t_statements q_t_steps q_t_spot q_t_then v_t_now v_t_gone q_t_sights q_t_darkAt q_t_can), (q_t_refused, .inl (cy 0, 8, .inl u5))]) (va_runV (As := [.int (-2 : Int32)]) (rest := []) ⟨hx, hb, hml, hown, hts⟩ (mX8_refuse l D cy q_t q_t_shelf q_t_rowSort q_t_rowSize q_t_rows q_t_moved q_t_shown q_t_tape q_t_refused q_t_ways q_t_kind q_t_by q_t_home q_t_aim q_t_at0 q_t_told q_t_steps q_t_spot q_t_then q_t_sights q_t_darkAt q_t_can v_t_tapeSize v_t_places v_t_people v_t_hour v_t_chance v_t_seed w_t_kept w_t_tried v_t_at v_t_token v_t_from v_t_figures v_t_fault v_t_statements v_t_now v_t_gone v_t_refused _ (-2 : Int32) hr6) (cwV 1 hts gX8_crowd_X8_refuse rfl rfl rfl (by decide +kernel) ⟨Nat.le_of_ble_eq_true rfl, Nat.le_of_ble_eq_true rfl⟩) (xPVw hK hPc hDc (ci := 8) (q0 := 0) rfl rfl) rfl rfl hl.1 rfl (lv_room (Nat.le_of_ble_eq_true rfl)) dX8_crowd_28 ⟨Nat.le_of_ble_eq_true rfl, Nat.le_of_ble_eq_true rfl⟩) hP hD hS hA [0, 1] rfl rfl (fun H locs hP hD hS => ?_)
    have hP : va_P D vwCl [(q_t, oX8 q_t_shelf q_t_rowSort q_t_rowSize q_t_rows q_t_moved q_t_shown q_t_tape v_t_tapeSize q_t_refused v_t_places q_t_ways v_t_people q_t_kind q_t_by q_t_home q_t_aim q_t_at0 v_t_hour v_t_chance v_t_seed w_t_kept w_t_tried v_t_at v_t_token v_t_from v_t_figures v_t_fault q_t_told v_t_statements q_t_steps q_t_spot q_t_then v_t_now v_t_gone q_t_sights q_t_darkAt q_t_can), (q_t_refused, .inl (cy 0, 8, .inl u5)), (q_t_ways, .inl (cy 0, 12, .inl v_t_ways)), (q_t_kind, .inl (cy 0, 8, .inl v_t_kind)), (q_t_home, .inl (cy 0, 8, .inl v_t_home)), (q_t_aim, .inl (cy 0, 8, .inl v_t_aim)), (q_t_at0, .inl (cy 0, 8, .inl v_t_at0)), (q_t_steps, .inl (cy 0, 12, .inl v_t_steps)), (q_t_spot, .inl (cy 0, 8, .inl v_t_spot)), (q_t_then, .inl (cy 0, 8, .inl v_t_then))] H := hP
    have hD : va_D A [(q_t, oX8 q_t_shelf q_t_rowSort q_t_rowSize q_t_rows q_t_moved q_t_shown q_t_tape v_t_tapeSize q_t_refused v_t_places q_t_ways v_t_people q_t_kind q_t_by q_t_home q_t_aim q_t_at0 v_t_hour v_t_chance v_t_seed w_t_kept w_t_tried v_t_at v_t_token v_t_from v_t_figures v_t_fault q_t_told v_t_statements q_t_steps q_t_spot q_t_then v_t_now v_t_gone q_t_sights q_t_darkAt q_t_can), (q_t_refused, .inl (cy 0, 8, .inl u5)), (q_t_ways, .inl (cy 0, 12, .inl v_t_ways)), (q_t_kind, .inl (cy 0, 8, .inl v_t_kind)), (q_t_home, .inl (cy 0, 8, .inl v_t_home)), (q_t_aim, .inl (cy 0, 8, .inl v_t_aim)), (q_t_at0, .inl (cy 0, 8, .inl v_t_at0)), (q_t_steps, .inl (cy 0, 12, .inl v_t_steps)), (q_t_spot, .inl (cy 0, 8, .inl v_t_spot)), (q_t_then, .inl (cy 0, 8, .inl v_t_then))] := hD
    cases hf
    exact W.iret hx hb hr (fun t ht hW => ⟨⟨_, (), rfl, rfl, xend ht hP⟩, hS.F ht⟩) hS.2.2 dX8_crowd_31
  · refine lv_if_eq (tgt := 25) hx hb dX8_crowd_5 (by decide) (fun c25 => ?_) (fun c25 => ?_)
    · have hf := ifT hf c25
      clear c25
      exact J25 _ _ ls ⟨hP, hD, hS, lv_sub hl [0] rfl⟩ hf
    · have hf := ifF hf c25
      clear c25
      refine lv_iload_n hx hb dX8_crowd_8 rfl (lv_at hl 2 rfl) ?_
      obtain ⟨r7, hr8, hf⟩ := boE1 hf
      have hPc := hP.sub (ws' := []) [] rfl
      refine xcSi (va_runS (As := [.int p1]) (rest := []) ⟨hx, hb, hml, hown, hts⟩ (mX8_isTime l D cy    p1 hr8) (va_cwS 1 hts gX8_crowd_X8_isTime rfl rfl rfl (by decide +kernel) ⟨Nat.le_of_ble_eq_true rfl, Nat.le_of_ble_eq_true rfl⟩) (xPS hK hPc) rfl rfl hl.1 rfl (lv_room (Nat.le_of_ble_eq_true rfl)) dX8_crowd_9 ⟨Nat.le_of_ble_eq_true rfl, Nat.le_of_ble_eq_true rfl⟩) ?_
      refine lv_if_eq (tgt := 25) hx hb dX8_crowd_12 (by decide) (fun c24 => ?_) (fun c24 => ?_)
      · have hf := ifT hf c24
        clear c24
        exact J25 _ _ ls ⟨hP, hD, hS, lv_sub hl [0] rfl⟩ hf
      · have hf := ifF hf c24
        clear c24
        refine lv_iload_n hx hb dX8_crowd_15 rfl (lv_at hl 3 rfl) ?_
        refine lv_i2l hx hb dX8_crowd_16 rfl ?_
        refine lv_lconst (v := 0) hx hb dX8_crowd_17 (by decide) ?_
        refine lv_lconst (v := 1) hx hb dX8_crowd_18 (by decide) ?_
        obtain ⟨r9, hr10, hf⟩ := boE1 hf
        have hPc := hP.sub (ws' := []) [] rfl
        refine xcSi (va_runS (As := [.long p2.toInt64, .long (0 : Int64), .long (1 : Int64)]) (rest := []) ⟨hx, hb, hml, hown, hts⟩ (mX8_in l D cy    p2.toInt64 (0 : Int64) (1 : Int64) hr10) (va_cwS 3 hts gX8_crowd_X8_in rfl rfl rfl (by decide +kernel) ⟨Nat.le_of_ble_eq_true rfl, Nat.le_of_ble_eq_true rfl⟩) (xPS hK hPc) rfl rfl hl.1 rfl (lv_room (Nat.le_of_ble_eq_true rfl)) dX8_crowd_19 ⟨Nat.le_of_ble_eq_true rfl, Nat.le_of_ble_eq_true rfl⟩) ?_
        refine lv_if_ne (tgt := 32) hx hb dX8_crowd_22 (by decide) (fun c23 => ?_) (fun c23 => ?_)
        · have hf := ifF hf c23
          clear c23
          refine lv_aload_n hx hb dX8_crowd_32 rfl (lv_at hl 0 rfl) ?_
          refine lv_iload_n hx hb dX8_crowd_33 rfl (lv_at hl 2 rfl) ?_
          obtain ⟨u11, u12, u13, u14, hr15, hf⟩ := boE4 hf
          have hPc := hP.sub (ws' := [(q_t, oX8 q_t_shelf q_t_rowSort q_t_rowSize q_t_rows q_t_moved q_t_shown q_t_tape v_t_tapeSize q_t_refused v_t_places q_t_ways v_t_people q_t_kind q_t_by q_t_home q_t_aim q_t_at0 v_t_hour v_t_chance v_t_seed w_t_kept w_t_tried v_t_at v_t_token v_t_from v_t_figures v_t_fault q_t_told v_t_statements q_t_steps q_t_spot q_t_then v_t_now v_t_gone q_t_sights q_t_darkAt q_t_can), (q_t_ways, .inl (cy 0, 12, .inl v_t_ways)), (q_t_kind, .inl (cy 0, 8, .inl v_t_kind)), (q_t_home, .inl (cy 0, 8, .inl v_t_home)), (q_t_aim, .inl (cy 0, 8, .inl v_t_aim)), (q_t_at0, .inl (cy 0, 8, .inl v_t_at0)), (q_t_steps, .inl (cy 0, 12, .inl v_t_steps)), (q_t_spot, .inl (cy 0, 8, .inl v_t_spot)), (q_t_then, .inl (cy 0, 8, .inl v_t_then))]) [0, 2, 3, 4, 5, 6, 7, 8, 9] rfl
          have hDc := hD.sub (ws' := [(q_t, oX8 q_t_shelf q_t_rowSort q_t_rowSize q_t_rows q_t_moved q_t_shown q_t_tape v_t_tapeSize q_t_refused v_t_places q_t_ways v_t_people q_t_kind q_t_by q_t_home q_t_aim q_t_at0 v_t_hour v_t_chance v_t_seed w_t_kept w_t_tried v_t_at v_t_token v_t_from v_t_figures v_t_fault q_t_told v_t_statements q_t_steps q_t_spot q_t_then v_t_now v_t_gone q_t_sights q_t_darkAt q_t_can), (q_t_ways, .inl (cy 0, 12, .inl v_t_ways)), (q_t_kind, .inl (cy 0, 8, .inl v_t_kind)), (q_t_home, .inl (cy 0, 8, .inl v_t_home)), (q_t_aim, .inl (cy 0, 8, .inl v_t_aim)), (q_t_at0, .inl (cy 0, 8, .inl v_t_at0)), (q_t_steps, .inl (cy 0, 12, .inl v_t_steps)), (q_t_spot, .inl (cy 0, 8, .inl v_t_spot)), (q_t_then, .inl (cy 0, 8, .inl v_t_then))]) [0, 2, 3, 4, 5, 6, 7, 8, 9] (by decide) rfl
          refine xcQv (w1 := [(q_t, oX8 q_t_shelf q_t_rowSort q_t_rowSize q_t_rows q_t_moved q_t_shown q_t_tape v_t_tapeSize q_t_refused v_t_places q_t_ways v_t_people q_t_kind q_t_by q_t_home q_t_aim q_t_at0 v_t_hour v_t_chance v_t_seed w_t_kept w_t_tried v_t_at v_t_token v_t_from v_t_figures v_t_fault q_t_told v_t_statements q_t_steps q_t_spot q_t_then u11 v_t_gone q_t_sights q_t_darkAt q_t_can), (q_t_ways, .inl (cy 0, 12, .inl v_t_ways)), (q_t_kind, .inl (cy 0, 8, .inl v_t_kind)), (q_t_home, .inl (cy 0, 8, .inl v_t_home)), (q_t_aim, .inl (cy 0, 8, .inl v_t_aim)), (q_t_at0, .inl (cy 0, 8, .inl v_t_at0)), (q_t_steps, .inl (cy 0, 12, .inl u12)), (q_t_spot, .inl (cy 0, 8, .inl u13)), (q_t_then, .inl (cy 0, 8, .inl u14))]) (va_runV (As := [.int p1]) (rest := []) ⟨hx, hb, hml, hown, hts⟩ (mX8_goesOn l D cy q_t q_t_shelf q_t_rowSort q_t_rowSize q_t_rows q_t_moved q_t_shown q_t_tape q_t_refused q_t_ways q_t_kind q_t_by q_t_home q_t_aim q_t_at0 q_t_told q_t_steps q_t_spot q_t_then q_t_sights q_t_darkAt q_t_can v_t_tapeSize v_t_places v_t_people v_t_hour v_t_chance v_t_seed w_t_kept w_t_tried v_t_at v_t_token v_t_from v_t_figures v_t_fault v_t_statements v_t_now v_t_gone v_t_ways v_t_kind v_t_home v_t_aim v_t_at0 v_t_steps v_t_spot v_t_then _ p1 hr15) (cwV 1 hts gX8_crowd_X8_goesOn rfl rfl rfl (by decide +kernel) ⟨Nat.le_of_ble_eq_true rfl, Nat.le_of_ble_eq_true rfl⟩) (xPVw hK hPc hDc (ci := 8) (q0 := 0) rfl rfl) rfl rfl hl.1 rfl (lv_room (Nat.le_of_ble_eq_true rfl)) dX8_crowd_34 ⟨Nat.le_of_ble_eq_true rfl, Nat.le_of_ble_eq_true rfl⟩) hP hD hS hA [0, 2, 3, 4, 5, 6, 7, 8, 9] rfl rfl (fun H locs hP hD hS => ?_)
          have hP : va_P D vwCl [(q_t, oX8 q_t_shelf q_t_rowSort q_t_rowSize q_t_rows q_t_moved q_t_shown q_t_tape v_t_tapeSize q_t_refused v_t_places q_t_ways v_t_people q_t_kind q_t_by q_t_home q_t_aim q_t_at0 v_t_hour v_t_chance v_t_seed w_t_kept w_t_tried v_t_at v_t_token v_t_from v_t_figures v_t_fault q_t_told v_t_statements q_t_steps q_t_spot q_t_then u11 v_t_gone q_t_sights q_t_darkAt q_t_can), (q_t_refused, .inl (cy 0, 8, .inl v_t_refused)), (q_t_ways, .inl (cy 0, 12, .inl v_t_ways)), (q_t_kind, .inl (cy 0, 8, .inl v_t_kind)), (q_t_home, .inl (cy 0, 8, .inl v_t_home)), (q_t_aim, .inl (cy 0, 8, .inl v_t_aim)), (q_t_at0, .inl (cy 0, 8, .inl v_t_at0)), (q_t_steps, .inl (cy 0, 12, .inl u12)), (q_t_spot, .inl (cy 0, 8, .inl u13)), (q_t_then, .inl (cy 0, 8, .inl u14))] H := hP
          have hD : va_D A [(q_t, oX8 q_t_shelf q_t_rowSort q_t_rowSize q_t_rows q_t_moved q_t_shown q_t_tape v_t_tapeSize q_t_refused v_t_places q_t_ways v_t_people q_t_kind q_t_by q_t_home q_t_aim q_t_at0 v_t_hour v_t_chance v_t_seed w_t_kept w_t_tried v_t_at v_t_token v_t_from v_t_figures v_t_fault q_t_told v_t_statements q_t_steps q_t_spot q_t_then u11 v_t_gone q_t_sights q_t_darkAt q_t_can), (q_t_refused, .inl (cy 0, 8, .inl v_t_refused)), (q_t_ways, .inl (cy 0, 12, .inl v_t_ways)), (q_t_kind, .inl (cy 0, 8, .inl v_t_kind)), (q_t_home, .inl (cy 0, 8, .inl v_t_home)), (q_t_aim, .inl (cy 0, 8, .inl v_t_aim)), (q_t_at0, .inl (cy 0, 8, .inl v_t_at0)), (q_t_steps, .inl (cy 0, 12, .inl u12)), (q_t_spot, .inl (cy 0, 8, .inl u13)), (q_t_then, .inl (cy 0, 8, .inl u14))] := hD
          refine lv_iload_n hx hb dX8_crowd_37 rfl (lv_at hl 3 rfl) ?_
          refine lv_if_ne (tgt := 50) hx hb dX8_crowd_38 (by decide) (fun c22 => ?_) (fun c22 => ?_)
          · have hf := ifF hf c22
            clear c22
            refine lv_aload_n hx hb dX8_crowd_50 rfl (lv_at hl 0 rfl) ?_
            refine lv_iload_n hx hb dX8_crowd_51 rfl (lv_at hl 1 rfl) ?_
            refine lv_iconst (v := 1) hx hb dX8_crowd_52 (by decide) ?_
            obtain ⟨r16, hr17, hf⟩ := boE1 hf
            have hPc := hP.sub (ws' := [(q_t, oX8 q_t_shelf q_t_rowSort q_t_rowSize q_t_rows q_t_moved q_t_shown q_t_tape v_t_tapeSize q_t_refused v_t_places q_t_ways v_t_people q_t_kind q_t_by q_t_home q_t_aim q_t_at0 v_t_hour v_t_chance v_t_seed w_t_kept w_t_tried v_t_at v_t_token v_t_from v_t_figures v_t_fault q_t_told v_t_statements q_t_steps q_t_spot q_t_then u11 v_t_gone q_t_sights q_t_darkAt q_t_can), (q_t_kind, .inl (cy 0, 8, .inl v_t_kind)), (q_t_spot, .inl (cy 0, 8, .inl u13))]) [0, 3, 8] rfl
            refine xcSi (va_runV (As := [.int p0, .int (1 : Int32)]) (rest := []) ⟨hx, hb, hml, hown, hts⟩ (mX8_crowdAt l D cy q_t q_t_shelf q_t_rowSort q_t_rowSize q_t_rows q_t_moved q_t_shown q_t_tape q_t_refused q_t_ways q_t_kind q_t_by q_t_home q_t_aim q_t_at0 q_t_told q_t_steps q_t_spot q_t_then q_t_sights q_t_darkAt q_t_can v_t_tapeSize v_t_places v_t_people v_t_hour v_t_chance v_t_seed w_t_kept w_t_tried v_t_at v_t_token v_t_from v_t_figures v_t_fault v_t_statements u11 v_t_gone v_t_kind u13  p0 (1 : Int32) hr17) (cwV 2 hts gX8_crowd_X8_crowdAt rfl rfl rfl (by decide +kernel) ⟨Nat.le_of_ble_eq_true rfl, Nat.le_of_ble_eq_true rfl⟩) (xPV hK hPc (ci := 8) (q0 := 0) rfl rfl) rfl rfl hl.1 rfl (lv_room (Nat.le_of_ble_eq_true rfl)) dX8_crowd_53 ⟨Nat.le_of_ble_eq_true rfl, Nat.le_of_ble_eq_true rfl⟩) ?_
            obtain ⟨r18, hr19, hf⟩ := boE1 hf
            have hPc := hP.sub (ws' := []) [] rfl
            refine xcSi (va_runS (As := [.int r16]) (rest := []) ⟨hx, hb, hml, hown, hts⟩ (mX8_bits l D cy    r16 hr19) (va_cwS 1 hts gX8_crowd_X8_bits rfl rfl rfl (by decide +kernel) ⟨Nat.le_of_ble_eq_true rfl, Nat.le_of_ble_eq_true rfl⟩) (xPS hK hPc) rfl rfl hl.1 rfl (lv_room (Nat.le_of_ble_eq_true rfl)) dX8_crowd_56 ⟨Nat.le_of_ble_eq_true rfl, Nat.le_of_ble_eq_true rfl⟩) ?_
            cases hf
            exact W.iret hx hb hr (fun t ht hW => ⟨⟨_, (), rfl, rfl, xend ht hP⟩, hS.F ht⟩) hS.2.2 dX8_crowd_59
          · have hf := ifT hf c22
            clear c22
            refine lv_aload_n hx hb dX8_crowd_41 rfl (lv_at hl 0 rfl) ?_
            refine lv_iload_n hx hb dX8_crowd_42 rfl (lv_at hl 1 rfl) ?_
            refine lv_iconst (v := 0) hx hb dX8_crowd_43 (by decide) ?_
            obtain ⟨r20, hr21, hf⟩ := boE1 hf
            have hPc := hP.sub (ws' := [(q_t, oX8 q_t_shelf q_t_rowSort q_t_rowSize q_t_rows q_t_moved q_t_shown q_t_tape v_t_tapeSize q_t_refused v_t_places q_t_ways v_t_people q_t_kind q_t_by q_t_home q_t_aim q_t_at0 v_t_hour v_t_chance v_t_seed w_t_kept w_t_tried v_t_at v_t_token v_t_from v_t_figures v_t_fault q_t_told v_t_statements q_t_steps q_t_spot q_t_then u11 v_t_gone q_t_sights q_t_darkAt q_t_can), (q_t_kind, .inl (cy 0, 8, .inl v_t_kind)), (q_t_spot, .inl (cy 0, 8, .inl u13))]) [0, 3, 8] rfl
            refine xcSi (va_runV (As := [.int p0, .int (0 : Int32)]) (rest := []) ⟨hx, hb, hml, hown, hts⟩ (mX8_crowdAt l D cy q_t q_t_shelf q_t_rowSort q_t_rowSize q_t_rows q_t_moved q_t_shown q_t_tape q_t_refused q_t_ways q_t_kind q_t_by q_t_home q_t_aim q_t_at0 q_t_told q_t_steps q_t_spot q_t_then q_t_sights q_t_darkAt q_t_can v_t_tapeSize v_t_places v_t_people v_t_hour v_t_chance v_t_seed w_t_kept w_t_tried v_t_at v_t_token v_t_from v_t_figures v_t_fault v_t_statements u11 v_t_gone v_t_kind u13  p0 (0 : Int32) hr21) (cwV 2 hts gX8_crowd_X8_crowdAt rfl rfl rfl (by decide +kernel) ⟨Nat.le_of_ble_eq_true rfl, Nat.le_of_ble_eq_true rfl⟩) (xPV hK hPc (ci := 8) (q0 := 0) rfl rfl) rfl rfl hl.1 rfl (lv_room (Nat.le_of_ble_eq_true rfl)) dX8_crowd_44 ⟨Nat.le_of_ble_eq_true rfl, Nat.le_of_ble_eq_true rfl⟩) ?_
            refine lv_goto (tgt := 59) hx hb dX8_crowd_47 (by decide) ?_
            cases hf
            exact W.iret hx hb hr (fun t ht hW => ⟨⟨_, (), rfl, rfl, xend ht hP⟩, hS.F ht⟩) hS.2.2 dX8_crowd_59
        · have hf := ifT hf c23
          clear c23
          exact J25 _ _ ls ⟨hP, hD, hS, lv_sub hl [0] rfl⟩ hf
